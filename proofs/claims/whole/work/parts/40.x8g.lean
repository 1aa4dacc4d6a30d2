def ox_q (x : Int64) (k i : Nat) : Int := (ox_wg x (k - 1 - i)).toInt % 10000
/-- the place of the command that fails; -1: none -/
def ox_run (x : Int64) (k : Nat) : Nat → Nat → (Nat → Int) → Int
  | 0, _, _ => -1
  | f + 1, i, g => if ox_gb g (ox_q x k i) = true then ox_run x k f (i + 1) (ox_gs g (ox_q x k i)) else (i : Int)
def xc_run (z : Int) (x : Int64) : Option String := if 1 ≤ z ∧ z ≤ 3 then (if lg_cmp x 0 < 0 then some hx_IAE else if ¬ lg_cmp (ox_wg x z.toNat) 0 = 0 then some hx_IAE else none) else some hx_IAE
theorem ox_q_ran (x : Int64) (k i : Nat) : 0 ≤ ox_q x k i ∧ ox_q x k i < 10000 := by
  unfold ox_q
  omega

set_option maxHeartbeats 4000000 in
set_option maxRecDepth 100000 in
theorem k_X8_runScript (l : Launch) (D : va_G) (dA : Nat → ClassId) (sa : Nat → Nat) (hst : l.stackTraces = false) (xx c0 c1 c2 mm sl tt oo ma g0 g1 g2 : Nat) (g gc : Nat → Int) (hg : WF g) (al : Nat → Bool) (oa : Nat → Nat × Nat × Nat) (kf : Nat → Nat → Int32) (hk : ol_ok al kf) (z : Int) (hz : -2147483648 ≤ z ∧ z < 2147483648) (x9 : Int64) : hx_Ct l yX8_runScript (hw_W yX8_runScript cX8_runScript 5 (some .int)) 44 D dA sa [.ref xx, .int (zI (z)), .long (x9)] ([(xx, .inr (6, [.ref g0, .ref c0, .ref mm, .ref sl, .ref tt, .ref oo])), (oo, .inr (4, [.ref ma])), (ma, .inl (dA 6, 45, .inr (.inr (.inr (.inr (ol_f al oa)))))), (g0, .inr (0, [.int (zI (g 0)), .int (zI (g 1)), .int (zI (g 2)), .int (zI (g 3)), .int (zI (g 4)), .int (zI (g 5)), .ref g1, .ref g2])), (g1, .inr (1, [.int (zI (g 6)), .int (zI (g 8)), .int (zI (g 10))])), (g2, .inr (1, [.int (zI (g 7)), .int (zI (g 9)), .int (zI (g 11))])), (c0, .inr (0, [.int (zI (gc 0)), .int (zI (gc 1)), .int (zI (gc 2)), .int (zI (gc 3)), .int (zI (gc 4)), .int (zI (gc 5)), .ref c1, .ref c2])), (c1, .inr (1, [.int (zI (gc 6)), .int (zI (gc 8)), .int (zI (gc 10))])), (c2, .inr (1, [.int (zI (gc 7)), .int (zI (gc 9)), .int (zI (gc 11))]))] ++ pl_all 45 (ol_F dA al oa kf)) 9 12438 (S := (Nat → Bool) × (Nat → Nat × Nat × Nat) × (Nat → Nat → Int32) × (Nat → Int)) (fun _ => some (.int (zI (ox_run x9 z.toNat z.toNat 0 g)))) (fun u => xc_run z x9 = none ∧ ol_ok u.1 u.2.2.1 ∧ WF u.2.2.2) (fun u => [(xx, .inr (6, [.ref g0, .ref c0, .ref mm, .ref sl, .ref tt, .ref oo])), (oo, .inr (4, [.ref ma])), (ma, .inl (dA 6, 45, .inr (.inr (.inr (.inr (ol_f u.1 u.2.1)))))), (g0, .inr (0, [.int (zI (g 0)), .int (zI (g 1)), .int (zI (g 2)), .int (zI (g 3)), .int (zI (g 4)), .int (zI (g 5)), .ref g1, .ref g2])), (g1, .inr (1, [.int (zI (g 6)), .int (zI (g 8)), .int (zI (g 10))])), (g2, .inr (1, [.int (zI (g 7)), .int (zI (g 9)), .int (zI (g 11))])), (c0, .inr (0, [.int (zI (u.2.2.2 0)), .int (zI (u.2.2.2 1)), .int (zI (u.2.2.2 2)), .int (zI (u.2.2.2 3)), .int (zI (u.2.2.2 4)), .int (zI (u.2.2.2 5)), .ref c1, .ref c2])), (c1, .inr (1, [.int (zI (u.2.2.2 6)), .int (zI (u.2.2.2 8)), .int (zI (u.2.2.2 10))])), (c2, .inr (1, [.int (zI (u.2.2.2 7)), .int (zI (u.2.2.2 9)), .int (zI (u.2.2.2 11))]))] ++ pl_all 45 (ol_F dA u.1 u.2.1 u.2.2.1)) (fun E => xc_run z x9 = some E) := by
  refine hx_of (cc := cX8_runScript) (maxL := 5) (ret := (some .int)) (own := RX8) hst rfl (by decide) rfl (Nat.le_of_ble_eq_true rfl) ?_
  intro p e s m args below meth c C X M
  refine hv_lveq (lv' := [(0, .ref xx), (1, .int (zI (z))), (2, .long (x9))]) rfl ?_
  refine hv_iload_n C dX8_runScript_0 1 rfl ?_
  refine hv_iconst C dX8_runScript_1 (v := zI (1)) rfl ?_
  refine hv_icmp_lt C dX8_runScript_2 (tgt := 10) (by decide) (zI_lt (by omega)) (fun hc2 => ?_) (fun hc2 => ?_)
  · exact hx_thrW_IAE (R := hv_rm 44 9 12438) (mc := 9) (ms := 12438) (ce := 0) (sl := 0) (rest := []) (PX := fun E => xc_run z x9 = some E) (ws0 := [(xx, .inr (6, [.ref g0, .ref c0, .ref mm, .ref sl, .ref tt, .ref oo])), (oo, .inr (4, [.ref ma])), (ma, .inl (dA 6, 45, .inr (.inr (.inr (.inr (ol_f al oa)))))), (g0, .inr (0, [.int (zI (g 0)), .int (zI (g 1)), .int (zI (g 2)), .int (zI (g 3)), .int (zI (g 4)), .int (zI (g 5)), .ref g1, .ref g2])), (g1, .inr (1, [.int (zI (g 6)), .int (zI (g 8)), .int (zI (g 10))])), (g2, .inr (1, [.int (zI (g 7)), .int (zI (g 9)), .int (zI (g 11))])), (c0, .inr (0, [.int (zI (gc 0)), .int (zI (gc 1)), .int (zI (gc 2)), .int (zI (gc 3)), .int (zI (gc 4)), .int (zI (gc 5)), .ref c1, .ref c2])), (c1, .inr (1, [.int (zI (gc 6)), .int (zI (gc 8)), .int (zI (gc 10))])), (c2, .inr (1, [.int (zI (gc 7)), .int (zI (gc 9)), .int (zI (gc 11))]))] ++ pl_all 45 (ol_F dA al oa kf)) (junk := []) C X M dX8_runScript_10 dX8_runScript_13 dX8_runScript_14 dX8_runScript_17 dX8_runScript_20 tw_c_RX8_44 tw_n_java_lang_IllegalArgumentException hx_s282 (List.Perm.of_eq (List.append_nil _).symm) (show xc_run z x9 = some hx_IAE from by unfold xc_run; rw [if_neg (by omega)]) (Nat.le_of_ble_eq_true rfl) (Nat.le_of_ble_eq_true rfl) (by exact Nat.le_of_ble_eq_true rfl) (by exact Nat.le_of_ble_eq_true rfl) (by exact Nat.le_of_ble_eq_true rfl) (by exact Nat.le_of_ble_eq_true rfl)
  · refine hv_iload_n C dX8_runScript_5 1 rfl ?_
    refine hv_iconst C dX8_runScript_6 (v := zI (3)) rfl ?_
    refine hv_icmp_le C dX8_runScript_7 (tgt := 21) (by decide) (zI_le (by omega)) (fun hc7 => ?_) (fun hc7 => ?_)
    · refine hv_lload_n C dX8_runScript_21 2 rfl ?_
      refine hv_lconst C dX8_runScript_22 (v := 0) rfl ?_
      refine hv_lcmp C dX8_runScript_23 (z := (lg_cmp x9 0)) (by rfl) ?_
      refine hv_if_lt C dX8_runScript_24 (tgt := 37) (by decide) (P := lg_cmp x9 0 < 0) Iff.rfl (fun hc24 => ?_) (fun hc24 => ?_)
      · exact hx_thrW_IAE (R := hv_rm 44 9 12438) (mc := 9) (ms := 12438) (ce := 0) (sl := 0) (rest := []) (PX := fun E => xc_run z x9 = some E) (ws0 := [(xx, .inr (6, [.ref g0, .ref c0, .ref mm, .ref sl, .ref tt, .ref oo])), (oo, .inr (4, [.ref ma])), (ma, .inl (dA 6, 45, .inr (.inr (.inr (.inr (ol_f al oa)))))), (g0, .inr (0, [.int (zI (g 0)), .int (zI (g 1)), .int (zI (g 2)), .int (zI (g 3)), .int (zI (g 4)), .int (zI (g 5)), .ref g1, .ref g2])), (g1, .inr (1, [.int (zI (g 6)), .int (zI (g 8)), .int (zI (g 10))])), (g2, .inr (1, [.int (zI (g 7)), .int (zI (g 9)), .int (zI (g 11))])), (c0, .inr (0, [.int (zI (gc 0)), .int (zI (gc 1)), .int (zI (gc 2)), .int (zI (gc 3)), .int (zI (gc 4)), .int (zI (gc 5)), .ref c1, .ref c2])), (c1, .inr (1, [.int (zI (gc 6)), .int (zI (gc 8)), .int (zI (gc 10))])), (c2, .inr (1, [.int (zI (gc 7)), .int (zI (gc 9)), .int (zI (gc 11))]))] ++ pl_all 45 (ol_F dA al oa kf)) (junk := []) C X M dX8_runScript_37 dX8_runScript_40 dX8_runScript_41 dX8_runScript_44 dX8_runScript_47 tw_c_RX8_44 tw_n_java_lang_IllegalArgumentException hx_s288 (List.Perm.of_eq (List.append_nil _).symm) (show xc_run z x9 = some hx_IAE from by unfold xc_run; first | (rw [if_pos (by omega), if_pos hc24]; done) | (rw [if_pos (by omega), if_neg hc24, if_pos hc34]; done)) (Nat.le_of_ble_eq_true rfl) (Nat.le_of_ble_eq_true rfl) (by exact Nat.le_of_ble_eq_true rfl) (by exact Nat.le_of_ble_eq_true rfl) (by exact Nat.le_of_ble_eq_true rfl) (by exact Nat.le_of_ble_eq_true rfl)
      · refine hv_lload_n C dX8_runScript_27 2 rfl ?_
        refine hv_iload_n C dX8_runScript_28 1 rfl ?_
        refine hv_callS (As := [.long (x9), .int (zI (z))]) (rest := []) (wc := []) (wr := [(xx, .inr (6, [.ref g0, .ref c0, .ref mm, .ref sl, .ref tt, .ref oo])), (oo, .inr (4, [.ref ma])), (ma, .inl (dA 6, 45, .inr (.inr (.inr (.inr (ol_f al oa)))))), (g0, .inr (0, [.int (zI (g 0)), .int (zI (g 1)), .int (zI (g 2)), .int (zI (g 3)), .int (zI (g 4)), .int (zI (g 5)), .ref g1, .ref g2])), (g1, .inr (1, [.int (zI (g 6)), .int (zI (g 8)), .int (zI (g 10))])), (g2, .inr (1, [.int (zI (g 7)), .int (zI (g 9)), .int (zI (g 11))])), (c0, .inr (0, [.int (zI (gc 0)), .int (zI (gc 1)), .int (zI (gc 2)), .int (zI (gc 3)), .int (zI (gc 4)), .int (zI (gc 5)), .ref c1, .ref c2])), (c1, .inr (1, [.int (zI (gc 6)), .int (zI (gc 8)), .int (zI (gc 10))])), (c2, .inr (1, [.int (zI (gc 7)), .int (zI (gc 9)), .int (zI (gc 11))]))] ++ pl_all 45 (ol_F dA al oa kf)) C (k_X8_withoutGroups l D dA x9 z.toNat (by omega) (by omega)) (va_cwS 2 C.1.2.2.2.2 (hw_S tw_m_RX8_284 tw_t_X8_withoutGroups tw_n_RX8 tw_k_X8_withoutGroups) rfl rfl rfl (by decide +kernel) ⟨Nat.le_of_ble_eq_true rfl, Nat.le_of_ble_eq_true rfl⟩) (hv_pm [] rfl) rfl rfl (Nat.le_of_ble_eq_true rfl) dX8_runScript_29 ⟨Nat.le_of_ble_eq_true rfl, Nat.le_of_ble_eq_true rfl⟩ (fun _ _ => ?_)
        refine hv_eqst (st' := [.long (ox_wg x9 z.toNat)]) rfl ?_
        refine hv_weq (ws' := [(xx, .inr (6, [.ref g0, .ref c0, .ref mm, .ref sl, .ref tt, .ref oo])), (oo, .inr (4, [.ref ma])), (ma, .inl (dA 6, 45, .inr (.inr (.inr (.inr (ol_f al oa)))))), (g0, .inr (0, [.int (zI (g 0)), .int (zI (g 1)), .int (zI (g 2)), .int (zI (g 3)), .int (zI (g 4)), .int (zI (g 5)), .ref g1, .ref g2])), (g1, .inr (1, [.int (zI (g 6)), .int (zI (g 8)), .int (zI (g 10))])), (g2, .inr (1, [.int (zI (g 7)), .int (zI (g 9)), .int (zI (g 11))])), (c0, .inr (0, [.int (zI (gc 0)), .int (zI (gc 1)), .int (zI (gc 2)), .int (zI (gc 3)), .int (zI (gc 4)), .int (zI (gc 5)), .ref c1, .ref c2])), (c1, .inr (1, [.int (zI (gc 6)), .int (zI (gc 8)), .int (zI (gc 10))])), (c2, .inr (1, [.int (zI (gc 7)), .int (zI (gc 9)), .int (zI (gc 11))]))] ++ pl_all 45 (ol_F dA al oa kf)) (rfl) ?_
        refine hv_lconst C dX8_runScript_32 (v := 0) rfl ?_
        refine hv_lcmp C dX8_runScript_33 (z := (lg_cmp (ox_wg x9 z.toNat) 0)) (by rfl) ?_
        refine hv_if_eq C dX8_runScript_34 (tgt := 48) (by decide) (P := lg_cmp (ox_wg x9 z.toNat) 0 = 0) Iff.rfl (fun hc34 => ?_) (fun hc34 => ?_)
        · refine hv_aload_n C dX8_runScript_48 0 rfl ?_
          refine hv_get C dX8_runScript_49 (fun w h => hw_c (tw_u_8 w h)) 0 (ci := 6) rfl rfl 1 (by decide) (hw_c tw_f_RX8_16) rfl ?_
          refine hv_aload_n C dX8_runScript_52 0 rfl ?_
          refine hv_get C dX8_runScript_53 (fun w h => hw_c (tw_u_8 w h)) 0 (ci := 6) rfl rfl 0 (by decide) (hw_c tw_f_RX8_12) rfl ?_
          refine hv_callV (As := [.ref g0]) (rest := []) (wc := [(c0, .inr (0, [.int (zI (gc 0)), .int (zI (gc 1)), .int (zI (gc 2)), .int (zI (gc 3)), .int (zI (gc 4)), .int (zI (gc 5)), .ref c1, .ref c2])), (c1, .inr (1, [.int (zI (gc 6)), .int (zI (gc 8)), .int (zI (gc 10))])), (c2, .inr (1, [.int (zI (gc 7)), .int (zI (gc 9)), .int (zI (gc 11))])), (g0, .inr (0, [.int (zI (g 0)), .int (zI (g 1)), .int (zI (g 2)), .int (zI (g 3)), .int (zI (g 4)), .int (zI (g 5)), .ref g1, .ref g2])), (g1, .inr (1, [.int (zI (g 6)), .int (zI (g 8)), .int (zI (g 10))])), (g2, .inr (1, [.int (zI (g 7)), .int (zI (g 9)), .int (zI (g 11))]))]) (wr := [(xx, .inr (6, [.ref g0, .ref c0, .ref mm, .ref sl, .ref tt, .ref oo])), (oo, .inr (4, [.ref ma])), (ma, .inl (dA 6, 45, .inr (.inr (.inr (.inr (ol_f al oa))))))] ++ pl_all 45 (ol_F dA al oa kf)) C (k_X1_becomes l D dA c0 c1 c2 g0 g1 g2 gc g) (cwV 1 C.1.2.2.2.2 (hw_V tw_m_RX8_290 tw_i_X1_becomes tw_s_X1_becomes tw_n_RX1 tw_k_X1_becomes) rfl rfl rfl (by decide +kernel) ⟨Nat.le_of_ble_eq_true rfl, Nat.le_of_ble_eq_true rfl⟩) (hv_pm [6, 6, 6, 3, 3, 3] rfl) rfl 0 0 rfl rfl rfl (Nat.le_of_ble_eq_true rfl) dX8_runScript_56 ⟨Nat.le_of_ble_eq_true rfl, Nat.le_of_ble_eq_true rfl⟩ (fun _ _ => ?_)
          refine hv_eqst (st' := []) rfl ?_
          refine hv_weq (ws' := [(c0, .inr (0, [.int (zI (g 0)), .int (zI (g 1)), .int (zI (g 2)), .int (zI (g 3)), .int (zI (g 4)), .int (zI (g 5)), .ref c1, .ref c2])), (c1, .inr (1, [.int (zI (g 6)), .int (zI (g 8)), .int (zI (g 10))])), (c2, .inr (1, [.int (zI (g 7)), .int (zI (g 9)), .int (zI (g 11))])), (g0, .inr (0, [.int (zI (g 0)), .int (zI (g 1)), .int (zI (g 2)), .int (zI (g 3)), .int (zI (g 4)), .int (zI (g 5)), .ref g1, .ref g2])), (g1, .inr (1, [.int (zI (g 6)), .int (zI (g 8)), .int (zI (g 10))])), (g2, .inr (1, [.int (zI (g 7)), .int (zI (g 9)), .int (zI (g 11))])), (xx, .inr (6, [.ref g0, .ref c0, .ref mm, .ref sl, .ref tt, .ref oo])), (oo, .inr (4, [.ref ma])), (ma, .inl (dA 6, 45, .inr (.inr (.inr (.inr (ol_f al oa))))))] ++ pl_all 45 (ol_F dA al oa kf)) (rfl) ?_
          refine hv_srt [6, 6, 6, 3, 3, 3, 0, 0, 0] (ws' := [(xx, .inr (6, [.ref g0, .ref c0, .ref mm, .ref sl, .ref tt, .ref oo])), (oo, .inr (4, [.ref ma])), (ma, .inl (dA 6, 45, .inr (.inr (.inr (.inr (ol_f al oa)))))), (g0, .inr (0, [.int (zI (g 0)), .int (zI (g 1)), .int (zI (g 2)), .int (zI (g 3)), .int (zI (g 4)), .int (zI (g 5)), .ref g1, .ref g2])), (g1, .inr (1, [.int (zI (g 6)), .int (zI (g 8)), .int (zI (g 10))])), (g2, .inr (1, [.int (zI (g 7)), .int (zI (g 9)), .int (zI (g 11))])), (c0, .inr (0, [.int (zI (g 0)), .int (zI (g 1)), .int (zI (g 2)), .int (zI (g 3)), .int (zI (g 4)), .int (zI (g 5)), .ref c1, .ref c2])), (c1, .inr (1, [.int (zI (g 6)), .int (zI (g 8)), .int (zI (g 10))])), (c2, .inr (1, [.int (zI (g 7)), .int (zI (g 9)), .int (zI (g 11))]))] ++ pl_all 45 (ol_F dA al oa kf)) rfl ?_
          refine hv_iconst C dX8_runScript_59 (v := zI (0)) rfl ?_
          refine hv_istore C dX8_runScript_60 (lw := [(4, .int (zI (0))), (0, .ref xx), (1, .int (zI (z))), (2, .long (x9))]) (by decide) rfl ?_
          refine hv_loop (σ := Nat × (Nat → Int) × (Nat → Bool) × (Nat → Nat × Nat × Nat) × (Nat → Nat → Int32)) (fun n9 x => x.1 + n9 = z.toNat ∧ WF x.2.1 ∧ ol_ok x.2.2.1 x.2.2.2.2 ∧ ox_run x9 z.toNat n9 x.1 x.2.1 = ox_run x9 z.toNat z.toNat 0 g) (fun x => [(xx, .inr (6, [.ref g0, .ref c0, .ref mm, .ref sl, .ref tt, .ref oo])), (oo, .inr (4, [.ref ma])), (ma, .inl (dA 6, 45, .inr (.inr (.inr (.inr (ol_f x.2.2.1 x.2.2.2.1)))))), (g0, .inr (0, [.int (zI (g 0)), .int (zI (g 1)), .int (zI (g 2)), .int (zI (g 3)), .int (zI (g 4)), .int (zI (g 5)), .ref g1, .ref g2])), (g1, .inr (1, [.int (zI (g 6)), .int (zI (g 8)), .int (zI (g 10))])), (g2, .inr (1, [.int (zI (g 7)), .int (zI (g 9)), .int (zI (g 11))])), (c0, .inr (0, [.int (zI (x.2.1 0)), .int (zI (x.2.1 1)), .int (zI (x.2.1 2)), .int (zI (x.2.1 3)), .int (zI (x.2.1 4)), .int (zI (x.2.1 5)), .ref c1, .ref c2])), (c1, .inr (1, [.int (zI (x.2.1 6)), .int (zI (x.2.1 8)), .int (zI (x.2.1 10))])), (c2, .inr (1, [.int (zI (x.2.1 7)), .int (zI (x.2.1 9)), .int (zI (x.2.1 11))]))] ++ pl_all 45 (ol_F dA x.2.2.1 x.2.2.2.1 x.2.2.2.2)) (fun x => [(4, .int (zI ((x.1 : Int)))), (0, .ref xx), (1, .int (zI (z))), (2, .long (x9))]) (fun x => []) (fun x => 3 * x.1) (fun x => 4146 * x.1) (z.toNat) ((0, g, al, oa, kf)) (⟨Nat.zero_add _, hg, hk, rfl⟩) (⟨rfl, rfl, rfl, rfl, rfl⟩) (fun n9 x hI ih => ?_)
          obtain ⟨i, g5, al5, oa5, kf5⟩ := x
          dsimp only at hI ⊢
          obtain ⟨hi1, hg5, hk5, hr5⟩ := hI
          refine hv_iload C dX8_runScript_62 0 rfl ?_
          refine hv_iload_n C dX8_runScript_64 2 rfl ?_
          refine hv_icmp_ge C dX8_runScript_65 (tgt := 99) (by decide) (zI_le (by omega)) (fun hc65 => ?_) (fun hc65 => ?_)
          · refine hv_iconst C dX8_runScript_99 (v := zI (-1)) rfl ?_
            refine hx_ret ?_
            exact hv_iret C M dX8_runScript_100 rfl rfl (al5, oa5, kf5, g5) ⟨(show xc_run z x9 = none from by unfold xc_run; rw [if_pos (by omega), if_neg hc24, if_neg (Decidable.not_not.mpr hc34)]), hk5, hg5⟩ (hv_rv (by rw [← hr5]; obtain rfl : n9 = 0 := (by omega); rfl)) [] (List.Perm.of_eq (List.append_nil _).symm) (by show _ ≤ 9; omega) (by show _ ≤ 12438; omega)
          · refine hv_aload_n C dX8_runScript_68 1 rfl ?_
            refine hv_lload_n C dX8_runScript_69 3 rfl ?_
            refine hv_iload_n C dX8_runScript_70 2 rfl ?_
            refine hv_iconst C dX8_runScript_71 (v := zI (1)) rfl ?_
            refine hv_isub C dX8_runScript_72 (zI_sub _ _) ?_
            refine hv_iload C dX8_runScript_73 0 rfl ?_
            refine hv_isub C dX8_runScript_75 (zI_sub _ _) ?_
            refine hv_callS (As := [.long (x9), .int (zI (((z) - (1)) - ((i : Int))))]) (rest := [.ref xx]) (wc := []) (wr := [(xx, .inr (6, [.ref g0, .ref c0, .ref mm, .ref sl, .ref tt, .ref oo])), (oo, .inr (4, [.ref ma])), (ma, .inl (dA 6, 45, .inr (.inr (.inr (.inr (ol_f al5 oa5)))))), (g0, .inr (0, [.int (zI (g 0)), .int (zI (g 1)), .int (zI (g 2)), .int (zI (g 3)), .int (zI (g 4)), .int (zI (g 5)), .ref g1, .ref g2])), (g1, .inr (1, [.int (zI (g 6)), .int (zI (g 8)), .int (zI (g 10))])), (g2, .inr (1, [.int (zI (g 7)), .int (zI (g 9)), .int (zI (g 11))])), (c0, .inr (0, [.int (zI (g5 0)), .int (zI (g5 1)), .int (zI (g5 2)), .int (zI (g5 3)), .int (zI (g5 4)), .int (zI (g5 5)), .ref c1, .ref c2])), (c1, .inr (1, [.int (zI (g5 6)), .int (zI (g5 8)), .int (zI (g5 10))])), (c2, .inr (1, [.int (zI (g5 7)), .int (zI (g5 9)), .int (zI (g5 11))]))] ++ pl_all 45 (ol_F dA al5 oa5 kf5)) C (k_X8_withoutGroups l D dA x9 (z.toNat - 1 - i) (by omega) (by omega)) (va_cwS 2 C.1.2.2.2.2 (hw_S tw_m_RX8_284 tw_t_X8_withoutGroups tw_n_RX8 tw_k_X8_withoutGroups) rfl rfl rfl (by decide +kernel) ⟨Nat.le_of_ble_eq_true rfl, Nat.le_of_ble_eq_true rfl⟩) (hv_pm [] rfl) rfl rfl (Nat.le_of_ble_eq_true rfl) dX8_runScript_76 ⟨by show 3 * i + 0 ≤ 9; omega, by show 4146 * i + 0 ≤ 12438; omega⟩ (fun _ _ => ?_)
            refine hv_eqst (st' := [.long (ox_wg x9 (z.toNat - 1 - i)), .ref xx]) rfl ?_
            refine hv_weq (ws' := [(xx, .inr (6, [.ref g0, .ref c0, .ref mm, .ref sl, .ref tt, .ref oo])), (oo, .inr (4, [.ref ma])), (ma, .inl (dA 6, 45, .inr (.inr (.inr (.inr (ol_f al5 oa5)))))), (g0, .inr (0, [.int (zI (g 0)), .int (zI (g 1)), .int (zI (g 2)), .int (zI (g 3)), .int (zI (g 4)), .int (zI (g 5)), .ref g1, .ref g2])), (g1, .inr (1, [.int (zI (g 6)), .int (zI (g 8)), .int (zI (g 10))])), (g2, .inr (1, [.int (zI (g 7)), .int (zI (g 9)), .int (zI (g 11))])), (c0, .inr (0, [.int (zI (g5 0)), .int (zI (g5 1)), .int (zI (g5 2)), .int (zI (g5 3)), .int (zI (g5 4)), .int (zI (g5 5)), .ref c1, .ref c2])), (c1, .inr (1, [.int (zI (g5 6)), .int (zI (g5 8)), .int (zI (g5 10))])), (c2, .inr (1, [.int (zI (g5 7)), .int (zI (g5 9)), .int (zI (g5 11))]))] ++ pl_all 45 (ol_F dA al5 oa5 kf5)) (rfl) ?_
            refine hv_ldc2 C dX8_runScript_79 (hw_c tw_o_RX8_293) ?_
            refine hv_lrem C dX8_runScript_82 (by decide) (z := (sm_m (ox_wg x9 (z.toNat - 1 - i)))) (by rfl) ?_
            refine hv_l2i C dX8_runScript_83 (v := (zI ((ox_q x9 z.toNat i)))) (by exact sm_m_i (ox_wg_0 (sm_cmp hc24) _)) ?_
            refine hv_callV (As := [.int (zI ((ox_q x9 z.toNat i)))]) (rest := []) (wc := [(xx, .inr (6, [.ref g0, .ref c0, .ref mm, .ref sl, .ref tt, .ref oo])), (oo, .inr (4, [.ref ma])), (ma, .inl (dA 6, 45, .inr (.inr (.inr (.inr (ol_f al5 oa5)))))), (c0, .inr (0, [.int (zI (g5 0)), .int (zI (g5 1)), .int (zI (g5 2)), .int (zI (g5 3)), .int (zI (g5 4)), .int (zI (g5 5)), .ref c1, .ref c2])), (c1, .inr (1, [.int (zI (g5 6)), .int (zI (g5 8)), .int (zI (g5 10))])), (c2, .inr (1, [.int (zI (g5 7)), .int (zI (g5 9)), .int (zI (g5 11))]))] ++ pl_all 45 (ol_F dA al5 oa5 kf5)) (wr := [(g0, .inr (0, [.int (zI (g 0)), .int (zI (g 1)), .int (zI (g 2)), .int (zI (g 3)), .int (zI (g 4)), .int (zI (g 5)), .ref g1, .ref g2])), (g1, .inr (1, [.int (zI (g 6)), .int (zI (g 8)), .int (zI (g 10))])), (g2, .inr (1, [.int (zI (g 7)), .int (zI (g 9)), .int (zI (g 11))]))]) C (k_X8_obeyGroup l D dA xx g0 mm sl tt oo ma c0 c1 c2 g5 hg5 al5 oa5 kf5 hk5 (ox_q x9 z.toNat i) (ox_q_ran _ _ _)) (cwV 1 C.1.2.2.2.2 (hw_V tw_m_RX8_295 tw_i_X8_obeyGroup tw_s_X8_obeyGroup tw_n_RX8 tw_k_X8_obeyGroup) rfl rfl rfl (by decide +kernel) ⟨Nat.le_of_ble_eq_true rfl, Nat.le_of_ble_eq_true rfl⟩) (hv_tk [0, 0, 0, 3, 3, 3] rfl) rfl 0 6 rfl rfl rfl (Nat.le_of_ble_eq_true rfl) dX8_runScript_84 ⟨by show 3 * i + 3 ≤ 9; omega, by show 4146 * i + 4146 ≤ 12438; omega⟩ (fun u9 hu9 => ?_)
            refine hv_eqst (st' := [.int (zI (zB (ox_gb g5 (ox_q x9 z.toNat i))))]) rfl ?_
            refine hv_perm (ws' := [(xx, .inr (6, [.ref g0, .ref c0, .ref mm, .ref sl, .ref tt, .ref oo])), (oo, .inr (4, [.ref ma])), (ma, .inl (dA 6, 45, .inr (.inr (.inr (.inr (ol_f u9.1 u9.2.1)))))), (c0, .inr (0, [.int (zI ((ox_gs g5 (ox_q x9 z.toNat i)) 0)), .int (zI ((ox_gs g5 (ox_q x9 z.toNat i)) 1)), .int (zI ((ox_gs g5 (ox_q x9 z.toNat i)) 2)), .int (zI ((ox_gs g5 (ox_q x9 z.toNat i)) 3)), .int (zI ((ox_gs g5 (ox_q x9 z.toNat i)) 4)), .int (zI ((ox_gs g5 (ox_q x9 z.toNat i)) 5)), .ref c1, .ref c2])), (c1, .inr (1, [.int (zI ((ox_gs g5 (ox_q x9 z.toNat i)) 6)), .int (zI ((ox_gs g5 (ox_q x9 z.toNat i)) 8)), .int (zI ((ox_gs g5 (ox_q x9 z.toNat i)) 10))])), (c2, .inr (1, [.int (zI ((ox_gs g5 (ox_q x9 z.toNat i)) 7)), .int (zI ((ox_gs g5 (ox_q x9 z.toNat i)) 9)), .int (zI ((ox_gs g5 (ox_q x9 z.toNat i)) 11))])), (g0, .inr (0, [.int (zI (g 0)), .int (zI (g 1)), .int (zI (g 2)), .int (zI (g 3)), .int (zI (g 4)), .int (zI (g 5)), .ref g1, .ref g2])), (g1, .inr (1, [.int (zI (g 6)), .int (zI (g 8)), .int (zI (g 10))])), (g2, .inr (1, [.int (zI (g 7)), .int (zI (g 9)), .int (zI (g 11))]))] ++ pl_all 45 (ol_F dA u9.1 u9.2.1 u9.2.2)) hv_bk0 ?_
            refine hv_srt [0, 0, 0, 3, 3, 3, 0, 0, 0] (ws' := [(xx, .inr (6, [.ref g0, .ref c0, .ref mm, .ref sl, .ref tt, .ref oo])), (oo, .inr (4, [.ref ma])), (ma, .inl (dA 6, 45, .inr (.inr (.inr (.inr (ol_f u9.1 u9.2.1)))))), (g0, .inr (0, [.int (zI (g 0)), .int (zI (g 1)), .int (zI (g 2)), .int (zI (g 3)), .int (zI (g 4)), .int (zI (g 5)), .ref g1, .ref g2])), (g1, .inr (1, [.int (zI (g 6)), .int (zI (g 8)), .int (zI (g 10))])), (g2, .inr (1, [.int (zI (g 7)), .int (zI (g 9)), .int (zI (g 11))])), (c0, .inr (0, [.int (zI ((ox_gs g5 (ox_q x9 z.toNat i)) 0)), .int (zI ((ox_gs g5 (ox_q x9 z.toNat i)) 1)), .int (zI ((ox_gs g5 (ox_q x9 z.toNat i)) 2)), .int (zI ((ox_gs g5 (ox_q x9 z.toNat i)) 3)), .int (zI ((ox_gs g5 (ox_q x9 z.toNat i)) 4)), .int (zI ((ox_gs g5 (ox_q x9 z.toNat i)) 5)), .ref c1, .ref c2])), (c1, .inr (1, [.int (zI ((ox_gs g5 (ox_q x9 z.toNat i)) 6)), .int (zI ((ox_gs g5 (ox_q x9 z.toNat i)) 8)), .int (zI ((ox_gs g5 (ox_q x9 z.toNat i)) 10))])), (c2, .inr (1, [.int (zI ((ox_gs g5 (ox_q x9 z.toNat i)) 7)), .int (zI ((ox_gs g5 (ox_q x9 z.toNat i)) 9)), .int (zI ((ox_gs g5 (ox_q x9 z.toNat i)) 11))]))] ++ pl_all 45 (ol_F dA u9.1 u9.2.1 u9.2.2)) rfl ?_
            refine hv_if_ne C dX8_runScript_87 (tgt := 93) (by decide) zB_en (fun hc87 => ?_) (fun hc87 => ?_)
            · refine hv_iinc C dX8_runScript_93 0 rfl (v := zI (((i + 1 : Nat) : Int))) ((zI_add _ _).trans (zI_c (by omega))) (by decide) (lw := [(4, .int (zI (((i + 1 : Nat) : Int)))), (0, .ref xx), (1, .int (zI (z))), (2, .long (x9))]) rfl ?_
              refine hv_goto C dX8_runScript_96 (tgt := 62) (by decide) ?_
              refine hv_lsub [0, 1, 2, 3] (lv' := [(4, .int (zI (((i + 1 : Nat) : Int)))), (0, .ref xx), (1, .int (zI (z))), (2, .long (x9))]) rfl ?_
              obtain ⟨k, rfl⟩ : ∃ k, n9 = k + 1 := ⟨n9 - 1, by omega⟩
              exact ih k (i + 1, ox_gs g5 (ox_q x9 z.toNat i), u9.1, u9.2.1, u9.2.2) (by omega) ⟨by dsimp only; omega, WF_gs hg5 _, hu9, by rw [← hr5]; dsimp only; rw [ox_run, if_pos hc87]⟩
            · refine hv_iload C dX8_runScript_90 0 rfl ?_
              refine hx_ret ?_
              exact hv_iret C M dX8_runScript_92 rfl rfl (u9.1, u9.2.1, u9.2.2, ox_gs g5 (ox_q x9 z.toNat i)) ⟨(show xc_run z x9 = none from by unfold xc_run; rw [if_pos (by omega), if_neg hc24, if_neg (Decidable.not_not.mpr hc34)]), hu9, WF_gs hg5 _⟩ (hv_rv (by rw [← hr5]; obtain ⟨k, rfl⟩ : ∃ k, n9 = k + 1 := ⟨n9 - 1, by omega⟩; rw [ox_run, if_neg hc87])) [] (List.Perm.of_eq (List.append_nil _).symm) (by show _ ≤ 9; omega) (by show _ ≤ 12438; omega)
        · exact hx_thrW_IAE (R := hv_rm 44 9 12438) (mc := 9) (ms := 12438) (ce := 0) (sl := 0) (rest := []) (PX := fun E => xc_run z x9 = some E) (ws0 := [(xx, .inr (6, [.ref g0, .ref c0, .ref mm, .ref sl, .ref tt, .ref oo])), (oo, .inr (4, [.ref ma])), (ma, .inl (dA 6, 45, .inr (.inr (.inr (.inr (ol_f al oa)))))), (g0, .inr (0, [.int (zI (g 0)), .int (zI (g 1)), .int (zI (g 2)), .int (zI (g 3)), .int (zI (g 4)), .int (zI (g 5)), .ref g1, .ref g2])), (g1, .inr (1, [.int (zI (g 6)), .int (zI (g 8)), .int (zI (g 10))])), (g2, .inr (1, [.int (zI (g 7)), .int (zI (g 9)), .int (zI (g 11))])), (c0, .inr (0, [.int (zI (gc 0)), .int (zI (gc 1)), .int (zI (gc 2)), .int (zI (gc 3)), .int (zI (gc 4)), .int (zI (gc 5)), .ref c1, .ref c2])), (c1, .inr (1, [.int (zI (gc 6)), .int (zI (gc 8)), .int (zI (gc 10))])), (c2, .inr (1, [.int (zI (gc 7)), .int (zI (gc 9)), .int (zI (gc 11))]))] ++ pl_all 45 (ol_F dA al oa kf)) (junk := []) C X M dX8_runScript_37 dX8_runScript_40 dX8_runScript_41 dX8_runScript_44 dX8_runScript_47 tw_c_RX8_44 tw_n_java_lang_IllegalArgumentException hx_s288 (List.Perm.of_eq (List.append_nil _).symm) (show xc_run z x9 = some hx_IAE from by unfold xc_run; first | (rw [if_pos (by omega), if_pos hc24]; done) | (rw [if_pos (by omega), if_neg hc24, if_pos hc34]; done)) (Nat.le_of_ble_eq_true rfl) (Nat.le_of_ble_eq_true rfl) (by exact Nat.le_of_ble_eq_true rfl) (by exact Nat.le_of_ble_eq_true rfl) (by exact Nat.le_of_ble_eq_true rfl) (by exact Nat.le_of_ble_eq_true rfl)
    · exact hx_thrW_IAE (R := hv_rm 44 9 12438) (mc := 9) (ms := 12438) (ce := 0) (sl := 0) (rest := []) (PX := fun E => xc_run z x9 = some E) (ws0 := [(xx, .inr (6, [.ref g0, .ref c0, .ref mm, .ref sl, .ref tt, .ref oo])), (oo, .inr (4, [.ref ma])), (ma, .inl (dA 6, 45, .inr (.inr (.inr (.inr (ol_f al oa)))))), (g0, .inr (0, [.int (zI (g 0)), .int (zI (g 1)), .int (zI (g 2)), .int (zI (g 3)), .int (zI (g 4)), .int (zI (g 5)), .ref g1, .ref g2])), (g1, .inr (1, [.int (zI (g 6)), .int (zI (g 8)), .int (zI (g 10))])), (g2, .inr (1, [.int (zI (g 7)), .int (zI (g 9)), .int (zI (g 11))])), (c0, .inr (0, [.int (zI (gc 0)), .int (zI (gc 1)), .int (zI (gc 2)), .int (zI (gc 3)), .int (zI (gc 4)), .int (zI (gc 5)), .ref c1, .ref c2])), (c1, .inr (1, [.int (zI (gc 6)), .int (zI (gc 8)), .int (zI (gc 10))])), (c2, .inr (1, [.int (zI (gc 7)), .int (zI (gc 9)), .int (zI (gc 11))]))] ++ pl_all 45 (ol_F dA al oa kf)) (junk := []) C X M dX8_runScript_10 dX8_runScript_13 dX8_runScript_14 dX8_runScript_17 dX8_runScript_20 tw_c_RX8_44 tw_n_java_lang_IllegalArgumentException hx_s282 (List.Perm.of_eq (List.append_nil _).symm) (show xc_run z x9 = some hx_IAE from by unfold xc_run; rw [if_neg (by omega)]) (Nat.le_of_ble_eq_true rfl) (Nat.le_of_ble_eq_true rfl) (by exact Nat.le_of_ble_eq_true rfl) (by exact Nat.le_of_ble_eq_true rfl) (by exact Nat.le_of_ble_eq_true rfl) (by exact Nat.le_of_ble_eq_true rfl)

/-! load -/
def ld_s (sal : Nat → Bool) : Nat → Bool := fun i => if i < 2 then false else sal i
theorem ld_sl (sal : Nat → Bool) (sga : Nat → Nat × Nat × Nat) : va_up (va_up (mo_f sal sga) 0 none) 1 none = mo_f (ld_s sal) sga := by
  funext i
  unfold va_up mo_f ld_s
  rcases (show i = 0 ∨ i = 1 ∨ 2 ≤ i by omega) with rfl | rfl | h
  · rfl
  · rfl
  · rw [if_neg (by omega), if_neg (by omega), if_neg (by omega : ¬ i < 2)]
def ld_st (n : Nat) (tx : Nat → Int) (i : Nat) (p : (Nat → Int) × Int) : (Nat → Int) × Int :=
  if 48 ≤ sx_at n tx (i : Int) ∧ sx_at n tx (i : Int) ≤ 57 then p else
  (ox_cm p.1 (sx_at n tx (i : Int)) (sx_at n tx ((i : Int) + 1) - 48) (sx_at n tx ((i : Int) + 2) - 48) (sx_at n tx ((i : Int) + 3) - 48),
   if ox_cmb p.1 (sx_at n tx (i : Int)) (sx_at n tx ((i : Int) + 1) - 48) (sx_at n tx ((i : Int) + 2) - 48) (sx_at n tx ((i : Int) + 3) - 48) = true then p.2 else p.2 + 1)
def ld_0 (n : Nat) (tx : Nat → Int) : Nat → Int := sp_new ((sx_bs n tx - 1 : Nat) : Int) (sx_h tx 1 (sx_bs n tx - 1) : Int)
/-- the garden and the commands left out, behind k characters after the H -/
def ld_it (n : Nat) (tx : Nat → Int) : Nat → (Nat → Int) × Int
  | 0 => (ld_0 n tx, 0)
  | k + 1 => ld_st n tx (k + 1) (ld_it n tx k)
def xc_load (n : Nat) (tx : Nat → Int) : Option String := if sx_err n tx = -1 then none else some hx_ISE
def ld_P (n : Nat) (tx : Nat → Int) (q : Nat) : Prop := (48 ≤ sx_at n tx (q : Int) ∧ sx_at n tx (q : Int) ≤ 57) ∨ sx_cmd (sx_at n tx (q : Int)) = true
theorem ld_al {c p s : Int} (h : sx_al c p s = true) : 48 ≤ s ∧ s ≤ 57 := by
  unfold sx_al at h
  split at h
  · have := of_decide_eq_true h; omega
  · split at h
    · have := of_decide_eq_true h; omega
    · have := of_decide_eq_true h; omega
theorem ld_fl (n : Nat) (tx : Nat → Int) (i : Nat) (c : Int) : ∀ k p, sx_fl n tx i c k p = -1 → ∀ q, p ≤ q → q < p + k → ld_P n tx (i + q)
  | 0, p, _, q, h1, h2 => by omega
  | k + 1, p, h, q, h1, h2 => by
    rw [sx_fl] at h
    split at h
    · next g =>
      rcases Nat.lt_or_ge p q with h3 | h3
      · exact ld_fl n tx i c k (p + 1) h q h3 (by omega)
      · obtain rfl : p = q := by omega
        exact Or.inl (ld_al g)
    · omega
theorem ld_ff (n : Nat) (tx : Nat → Int) : ∀ k i, sx_ff n tx k i = -1 → n ≤ i + k → ∀ q, i ≤ q → q < n → ld_P n tx q
  | 0, i, _, h1, q, h2, h3 => by omega
  | k + 1, i, h, h1, q, h2, h3 => by
    rw [sx_ff, if_pos (by omega)] at h
    split at h
    · next g =>
      unfold sx_fc at g
      split at g
      · next g2 =>
        rcases (show q = i ∨ (i < q ∧ q < i + 1 + sx_len (sx_at n tx (i : Int))) ∨ i + 1 + sx_len (sx_at n tx (i : Int)) ≤ q by omega) with e | e | e
        · rw [e]; exact Or.inr g2
        · have h5 := ld_fl n tx i _ _ _ g (q - i) (by omega) (by omega)
          rw [show i + (q - i) = q by omega] at h5
          exact h5
        · exact ld_ff n tx k _ h (by omega) q e h3
      · omega
    · next g => exact absurd h g
/-- in a garden each character behind the H is a digit or begins a command -/
theorem ld_ok {n : Nat} {tx : Nat → Int} (hn : n ≤ 120) (h : sx_err n tx = -1) : (∀ q, 1 ≤ q → q < n → ld_P n tx q) ∧ 3 ≤ sx_bs n tx := by
  unfold sx_err at h
  split at h
  · split at h
    · omega
    · next g =>
      refine ⟨fun q h1 h2 => ?_, by omega⟩
      rcases Nat.lt_or_ge q (sx_bs n tx) with e | e
      · have h5 := sx_g_dig n tx 6 1 q h1 e
        exact Or.inl (by omega)
      · exact ld_ff n tx 120 _ h (by omega) q e h2
  · omega
theorem ld_h {n : Nat} {tx : Nat → Int} : ∀ k i, (∀ j, i ≤ j → j < i + k → 48 ≤ tx j ∧ tx j ≤ 51) → sx_h tx i k < 4 ^ k
  | 0, _, _ => by rw [sx_h]; decide
  | k + 1, i, h => by
    have h1 := ld_h (n := n) k (i + 1) (fun j a b => h j (by omega) (by omega))
    have h2 := h i (by omega) (by omega)
    rw [sx_h, Nat.pow_succ]
    omega
theorem ld_W0 {n : Nat} {tx : Nat → Int} (hn : n ≤ 120) (h : sx_err n tx = -1) : WF (ld_0 n tx) := by
  have h1 := (ld_ok hn h).2
  have h2 := sx_bs_ran n tx
  refine WF_new (by omega) (ld_h (n := n) _ _ (fun j a b => ?_))
  have h5 := sx_g_dig n tx 6 1 j a (by unfold sx_bs at b h1; omega)
  have h6 := sx_at_in (n := n) (tx := tx) (z := (j : Int)) (by unfold sx_at at h5; split at h5 <;> omega)
  rw [Int.toNat_natCast] at h6
  omega
theorem ld_Wit {n : Nat} {tx : Nat → Int} (hn : n ≤ 120) (h : sx_err n tx = -1) : ∀ k, WF (ld_it n tx k).1
  | 0 => ld_W0 hn h
  | k + 1 => by
    rw [ld_it, ld_st]
    split
    · exact ld_Wit hn h k
    · exact WF_cm (ld_Wit hn h k) _ _ _ _
theorem ox_cm_keep (g : Nat → Int) (c a b k : Int) : ox_cm g c a b k 0 = g 0 ∧ ox_cm g c a b k 5 = g 5 := by
  unfold ox_cm
  split
  · unfold ox_tc; split <;> exact ⟨rfl, rfl⟩
  · split
    · unfold ox_tw; split <;> exact ⟨rfl, rfl⟩
    · split
      · unfold ox_ti; split <;> exact ⟨rfl, rfl⟩
      · split
        · exact ⟨rfl, rfl⟩
        · split
          · unfold ox_tb; cases ox_fst g <;> exact ⟨rfl, rfl⟩
          · exact ⟨rfl, rfl⟩
theorem ld_it_keep (n : Nat) (tx : Nat → Int) : ∀ k, (ld_it n tx k).1 0 = (ld_0 n tx) 0 ∧ (ld_it n tx k).1 5 = (ld_0 n tx) 5
  | 0 => ⟨rfl, rfl⟩
  | k + 1 => by
    have h := ld_it_keep n tx k
    rw [ld_it, ld_st]
    split
    · exact h
    · have h2 := ox_cm_keep (ld_it n tx k).1 (sx_at n tx ((k + 1 : Nat) : Int)) (sx_at n tx (((k + 1 : Nat) : Int) + 1) - 48) (sx_at n tx (((k + 1 : Nat) : Int) + 2) - 48) (sx_at n tx (((k + 1 : Nat) : Int) + 3) - 48)
      exact ⟨h2.1.trans h.1, h2.2.trans h.2⟩
/-- what the outlooks not yet made under three winds would take -/
def ld_c (al : Nat → Bool) (j : Nat) : Nat := ol_c al (j + 0) + ol_c al (j + 3) + ol_c al (j + 6)
def ld_sl9 (al : Nat → Bool) (j S : Nat) : Nat := ol_s al (j + 0) S + ol_s al (j + 3) S + ol_s al (j + 6) S
theorem ol_c_other {al : Nat → Bool} {i j : Nat} (h : ¬ i = j) : ol_c (mo_al al j) i = ol_c al i := by unfold ol_c mo_al; rw [if_neg (c := i = j) h]
theorem ol_s_other {al : Nat → Bool} {i j S : Nat} (h : ¬ i = j) : ol_s (mo_al al j) i S = ol_s al i S := by unfold ol_s mo_al; rw [if_neg (c := i = j) h]
theorem ld_c_step (al : Nat → Bool) {j w S : Nat} (hw : w < 3) : ld_c (mo_al al (j + 3 * w)) j + ol_c al (j + 3 * w) = ld_c al j ∧ ld_sl9 (mo_al al (j + 3 * w)) j S + ol_s al (j + 3 * w) S = ld_sl9 al j S := by
  unfold ld_c ld_sl9
  rcases (show w = 0 ∨ w = 1 ∨ w = 2 by omega) with rfl | rfl | rfl
  · rw [show j + 3 * 0 = j + 0 from rfl, ol_c_idem, ol_s_idem, ol_c_other (by omega), ol_c_other (by omega), ol_s_other (by omega), ol_s_other (by omega)]
    omega
  · rw [show j + 3 * 1 = j + 3 from rfl, ol_c_idem, ol_s_idem, ol_c_other (i := j + 0) (by omega), ol_c_other (i := j + 6) (by omega), ol_s_other (i := j + 0) (by omega), ol_s_other (i := j + 6) (by omega)]
    omega
  · rw [show j + 3 * 2 = j + 6 from rfl, ol_c_idem, ol_s_idem, ol_c_other (i := j + 0) (by omega), ol_c_other (i := j + 3) (by omega), ol_s_other (i := j + 0) (by omega), ol_s_other (i := j + 3) (by omega)]
    omega
theorem ld_c_le (al : Nat → Bool) (j : Nat) {S : Nat} (hS : S ≤ 6) : ld_c al j ≤ 9 ∧ ld_sl9 al j S ≤ 12438 := by
  unfold ld_c ld_sl9
  have h1 := ol_c_le al (j + 0); have h2 := ol_c_le al (j + 3); have h3 := ol_c_le al (j + 6)
  have h4 := ol_s_le al (j + 0) hS; have h5 := ol_s_le al (j + 3) hS; have h6 := ol_s_le al (j + 6) hS
  omega
