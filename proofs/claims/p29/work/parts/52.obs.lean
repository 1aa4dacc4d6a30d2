/-! states of an object: what holds of them goes on; what calls answer -/
theorem ob_J_plant {L : ob_L} (hJ : ob_J L) (z1 z2 _z3 : Int) : ob_J (st_plant L z1 z2) := by
  unfold st_plant
  cases hx : xc_plant z1 z2 with
  | some E => exact hJ
  | none =>
    unfold xc_plant at hx
    split at hx
    · next q1 =>
      split at hx
      · next q2 => exact ob_J_keep hJ (WF_pl hJ.1 q1 q2)
      · cases hx
    · cases hx
theorem ob_J_clip {L : ob_L} (hJ : ob_J L) (z1 z2 z3 : Int) : ob_J (st_clip L z1 z2 z3) := by
  unfold st_clip
  cases hx : xc_clip (lg L) z1 z2 z3 with
  | some E => exact hJ
  | none => exact ob_J_keep hJ (WF_clip hJ.1 _)
theorem xc_wat_n {g : Nat → Int} (hg : WF g) {z : Int} (hx : xc_wat g z = none) : ox_cw g z = true := by
  obtain ⟨h1, h2⟩ := xc_or_nn hx
  have e0 := hg.e0
  unfold xc_stem at h1
  split at h1
  · next q1 =>
    split at h2
    · cases h2
    · next q2 => exact sp_cw_t (by omega) q2
  · cases h1
theorem ob_J_water {L : ob_L} (hJ : ob_J L) (z1 _z2 _z3 : Int) : ob_J (st_water L z1) := by
  unfold st_water
  cases hx : xc_wat (lg L) z1 with
  | some E => exact hJ
  | none => exact ob_J_keep hJ (WF_wat hJ.1 (xc_wat_n hJ.1 hx))
theorem ob_J_wind {L : ob_L} (hJ : ob_J L) (z1 _z2 _z3 : Int) : ob_J (st_wind L z1) := by
  unfold st_wind
  cases hx : xc_wind z1 with
  | some E => exact hJ
  | none =>
    unfold xc_wind at hx
    split at hx
    · next q => exact ob_J_keep hJ (WF_wi hJ.1 q)
    · cases hx
theorem ob_J_lay {L : ob_L} (hJ : ob_J L) (z1 z2 _z3 : Int) : ob_J (st_lay L z1 z2) := by
  unfold st_lay
  cases hx : xc_sett z1 z2 with
  | some E => exact hJ
  | none =>
    obtain ⟨h1, h2⟩ := xc_or_nn hx
    unfold xc_set at h1
    split at h1
    · next q1 =>
      by_cases q2 : 1 ≤ z2 ∧ z2 ≤ (if z1 = 0 then 9 else 3)
      · exact ob_J_keep hJ (WF_st9 hJ.1 ⟨q1.1, q1.2, q2.1, q2.2⟩)
      · rw [if_neg q2] at h2
        cases h2
    · cases h1
theorem ob_J_undo {L : ob_L} (hJ : ob_J L) (_z1 _z2 _z3 : Int) : ob_J (st_undo L) := by
  unfold st_undo
  cases hx : xc_undo (lsz L) with
  | some E => exact hJ
  | none =>
    unfold xc_undo at hx
    split at hx
    · cases hx
    · next q =>
      obtain ⟨hg, hsz, hnx, hM, hS⟩ := hJ
      exact ⟨(lw_M_top (by omega) hsz hM).2, (by show lsz L - 1 ≤ 14; omega), (by show (lnx L + 13) % 14 ≤ 14; omega), lw_M_undo (by omega) hsz hM, hS⟩
theorem ob_J_keeps {L : ob_L} (hJ : ob_J L) (z1 _z2 _z3 : Int) : ob_J (st_keep L z1) := by
  unfold st_keep
  cases hx : xc_slot z1 with
  | some E => exact hJ
  | none => exact ⟨hJ.1, hJ.2.1, hJ.2.2.1, hJ.2.2.2.1, lw_S_save _ hJ.1 hJ.2.2.2.2⟩
theorem xc_rest_n {sal : Nat → Bool} {z : Int} (hx : xc_rest sal z = none) : z.toNat < 2 ∧ sal z.toNat = true := by
  obtain ⟨h1, h2⟩ := xc_or_nn hx
  unfold xc_slot at h1
  split at h1
  · next q1 =>
    split at h2
    · next q2 => exact ⟨by omega, q2⟩
    · cases h2
  · cases h1
theorem ob_J_back {L : ob_L} (hJ : ob_J L) (z1 _z2 _z3 : Int) : ob_J (st_back L z1) := by
  unfold st_back
  cases hx : xc_rest (lsal L) z1 with
  | some E => exact hJ
  | none =>
    obtain ⟨h1, h2⟩ := xc_rest_n hx
    exact ⟨hJ.2.2.2.2 _ h1 h2, Nat.zero_le _, hJ.2.2.1, fun k hk => absurd hk (Nat.not_lt_zero _), hJ.2.2.2.2⟩
/-! what holds of all gardens that an object can come back to -/
def ob_A (P : (Nat → Int) → Prop) (L : ob_L) : Prop := P (lg L) ∧ (∀ k, k < lsz L → P (lct L ((lnx L + 14 - lsz L + k) % 14))) ∧ ∀ z, z < 2 → lsal L z = true → P (lsct L z)
theorem ob_A_mono {P R : (Nat → Int) → Prop} (hPR : ∀ g, P g → R g) {L : ob_L} (h : ob_A P L) : ob_A R L := ⟨hPR _ h.1, fun k hk => hPR _ (h.2.1 k hk), fun z hz ha => hPR _ (h.2.2 z hz ha)⟩
theorem ob_A_keep {P : (Nat → Int) → Prop} {L : ob_L} (hJ : ob_J L) (h : ob_A P L) {g : Nat → Int} (hg : P g) : ob_A P (ob_keep L g) := by
  have hsz := hJ.2.1
  have hnx := hJ.2.2.1
  refine ⟨hg, ?_, h.2.2⟩
  show ∀ k, k < min (lsz L + 1) 14 → P (mo_ct (lct L) (lnx L % 14) (lg L) ((lnx L % 14 + 1 + 14 - min (lsz L + 1) 14 + k) % 14))
  intro k hk
  unfold mo_ct
  by_cases q : (lnx L % 14 + 1 + 14 - min (lsz L + 1) 14 + k) % 14 = lnx L % 14
  · rw [if_pos q]
    exact h.1
  · rw [if_neg q]
    rcases Nat.lt_or_ge (lsz L) 14 with z | z
    · have h1 := h.2.1 k (by omega)
      rw [show (lnx L + 14 - lsz L + k) % 14 = (lnx L % 14 + 1 + 14 - min (lsz L + 1) 14 + k) % 14 by omega] at h1
      exact h1
    · have h1 := h.2.1 (k + 1) (by omega)
      rw [show (lnx L + 14 - lsz L + (k + 1)) % 14 = (lnx L % 14 + 1 + 14 - min (lsz L + 1) 14 + k) % 14 by omega] at h1
      exact h1
theorem ob_A_top {P : (Nat → Int) → Prop} {L : ob_L} (hJ : ob_J L) (h : ob_A P L) (h0 : 0 < lsz L) : P (lct L ((lnx L + 13) % 14)) := by
  have hsz := hJ.2.1
  have h1 := h.2.1 (lsz L - 1) (by omega)
  rw [show (lnx L + 14 - lsz L + (lsz L - 1)) % 14 = (lnx L + 13) % 14 by omega] at h1
  exact h1
theorem ob_A_undo {P : (Nat → Int) → Prop} {L : ob_L} (hJ : ob_J L) (h : ob_A P L) : ob_A P (st_undo L) := by
  unfold st_undo
  cases hx : xc_undo (lsz L) with
  | some E => exact h
  | none =>
    unfold xc_undo at hx
    split at hx
    · cases hx
    · next q =>
      have hsz := hJ.2.1
      refine ⟨ob_A_top hJ h (by omega), ?_, h.2.2⟩
      show ∀ k, k < lsz L - 1 → P (lct L (((lnx L + 13) % 14 + 14 - (lsz L - 1) + k) % 14))
      intro k hk
      have h1 := h.2.1 k (by omega)
      rw [show (lnx L + 14 - lsz L + k) % 14 = ((lnx L + 13) % 14 + 14 - (lsz L - 1) + k) % 14 by omega] at h1
      exact h1
theorem ob_A_keeps {P : (Nat → Int) → Prop} {L : ob_L} (h : ob_A P L) (z : Int) : ob_A P (st_keep L z) := by
  unfold st_keep
  cases hx : xc_slot z with
  | some E => exact h
  | none =>
    refine ⟨h.1, h.2.1, ?_⟩
    show ∀ y, y < 2 → mo_al (lsal L) z.toNat y = true → P (mo_ct (lsct L) z.toNat (lg L) y)
    intro y hy ha
    unfold mo_ct
    unfold mo_al at ha
    by_cases q : y = z.toNat
    · rw [if_pos q]; exact h.1
    · rw [if_neg q] at ha ⊢; exact h.2.2 y hy ha
theorem ob_A_back {P : (Nat → Int) → Prop} {L : ob_L} (h : ob_A P L) (z : Int) : ob_A P (st_back L z) := by
  unfold st_back
  cases hx : xc_rest (lsal L) z with
  | some E => exact h
  | none =>
    obtain ⟨h1, h2⟩ := xc_rest_n hx
    exact ⟨h.2.2 _ h1 h2, fun k hk => absurd hk (Nat.not_lt_zero _), h.2.2⟩
/-- an action, and its undo -/
def ob_un (L : ob_L) : ob_L := (lg L, min (lsz L + 1) 14 - 1, lnx L % 14, mo_al (lal L) (lnx L % 14), mo_ct (lct L) (lnx L % 14) (lg L), lsal L, lsct L)
theorem ob_undo_keep (L : ob_L) (g : Nat → Int) : st_undo (ob_keep L g) = ob_un L := by
  unfold st_undo
  rw [ob_st_n (show xc_undo (lsz (ob_keep L g)) = none by unfold xc_undo; exact if_neg (by show ¬ min (lsz L + 1) 14 = 0; omega))]
  have e : (lnx L % 14 + 1 + 13) % 14 = lnx L % 14 := by omega
  show (mo_ct (lct L) (lnx L % 14) (lg L) ((lnx L % 14 + 1 + 13) % 14), min (lsz L + 1) 14 - 1, (lnx L % 14 + 1 + 13) % 14, mo_al (lal L) (lnx L % 14), mo_ct (lct L) (lnx L % 14) (lg L), lsal L, lsct L) = _
  rw [e, show mo_ct (lct L) (lnx L % 14) (lg L) (lnx L % 14) = lg L from if_pos rfl]
  rfl
theorem an_undo_keep {L : ob_L} (hJ : ob_J L) (g : Nat → Int) : an_undo (ob_keep L g) = ((min (lsz L + 1) 14 - 1 : Nat) : Int) := by
  unfold an_undo
  exact ob_an_n (show xc_undo (min (lsz L + 1) 14) = none by unfold xc_undo; rw [if_neg (by omega)])
theorem ob_J_un {L : ob_L} (hJ : ob_J L) : ob_J (ob_un L) := by
  rw [← ob_undo_keep L (lg L)]
  exact ob_J_undo (ob_J_keep hJ hJ.1) 0 0 0
theorem ob_A_un {P : (Nat → Int) → Prop} {L : ob_L} (hJ : ob_J L) (h : ob_A P L) : ob_A P (ob_un L) := by
  rw [← ob_undo_keep L (lg L)]
  exact ob_A_undo (ob_J_keep hJ hJ.1) (ob_A_keep hJ h h.1)
/-! answers -/
theorem xc_abo_n {z : Int} (h : 0 ≤ z ∧ z ≤ 8) : xc_abo z = none := if_pos h
theorem an_abo {L : ob_L} {z : Int} (h : 0 ≤ z ∧ z ≤ 8) : an_about L z = xa_abo (lg L) z := ob_an_n (xc_abo_n h)
theorem an_abo0 (L : ob_L) : an_about L 0 = lg L 0 := an_abo (by decide)
theorem an_abo1 (L : ob_L) : an_about L 1 = (sp_lv (gH (lg L)) : Int) := an_abo (by decide)
theorem an_abo2 (L : ob_L) : an_about L 2 = lg L 0 - (sp_lc (gH (lg L)) : Int) := an_abo (by decide)
theorem an_abo4 (L : ob_L) : an_about L 4 = lg L 3 := an_abo (by decide)
theorem an_abo5 (L : ob_L) : an_about L 5 = lg L 8 + lg L 9 := an_abo (by decide)
theorem an_abo6 (L : ob_L) : an_about L 6 = zB (decide (lg L 1 = 0)) := an_abo (by decide)
theorem an_abo7 (L : ob_L) : an_about L 7 = lg L 1 := an_abo (by decide)
theorem an_abo8 (L : ob_L) : an_about L 8 = (wo_cnt (wo_can (gH (lg L))) (wo_cls (gS (lg L)) (gR (lg L))) : Int) := an_abo (by decide)
theorem an_set1 (L : ob_L) : an_setting L 1 = lg L 5 := by
  unfold an_setting
  rw [ob_an_n (show xc_set 1 = none from if_pos (by decide))]
  rfl
theorem an_who0 (L : ob_L) {t : Int} (h : 0 ≤ t ∧ t < 2) : an_who L t 0 = if t = 0 then lg L 6 else lg L 7 := by
  unfold an_who
  rw [ob_an_n (show xc_gar t 0 = none by unfold xc_gar; rw [if_pos (by omega), if_pos (by decide)])]
  rfl
theorem an_who1 (L : ob_L) {t : Int} (h : 0 ≤ t ∧ t < 2) : an_who L t 1 = if t = 0 then lg L 8 else lg L 9 := by
  unfold an_who
  rw [ob_an_n (show xc_gar t 1 = none by unfold xc_gar; rw [if_pos (by omega), if_pos (by decide)])]
  rfl
theorem an_who2 (L : ob_L) {t : Int} (h : 0 ≤ t ∧ t < 2) : an_who L t 2 = if t = 0 then lg L 10 else lg L 11 := by
  unfold an_who
  rw [ob_an_n (show xc_gar t 2 = none by unfold xc_gar; rw [if_pos (by omega), if_pos (by decide)])]
  rfl
theorem an_lea {L : ob_L} (i : Nat) {z : Int} (e : z = (i : Int)) (h : (i : Int) < lg L 0) : an_leaves L z = (sp_dg (gH (lg L)) i : Int) := by
  subst e
  unfold an_leaves
  rw [ob_an_n (show xc_stem (lg L) (i : Int) = none by unfold xc_stem; rw [if_pos (by omega)]), Int.toNat_natCast]
theorem xc_req_n {g : Nat → Int} {a b k : Int} (h : 0 ≤ a ∧ a ≤ b ∧ b < g 0 ∧ 1 ≤ k ∧ k ≤ 3 ∧ b - a < g 5) : xc_req g a b k = none := by
  unfold xc_req xc_stem
  rw [if_pos (by omega), if_pos (by omega), if_pos (by omega)]
  rfl
theorem an_wou {L : ob_L} {a b k v : Int} (h : 0 ≤ a ∧ a ≤ b ∧ b < lg L 0 ∧ 1 ≤ k ∧ k ≤ 3 ∧ b - a < lg L 5) (hv : 0 ≤ v ∧ v ≤ 3) : an_would L a b k v = xa_ifc (lg L) a b k v := by
  unfold an_would
  exact ob_an_n (by unfold xc_ifc; rw [xc_or_n (xc_req_n h), if_pos hv])
theorem xa_ifc_f {g : Nat → Int} {a b k : Int} {c : Nat} (v : Int) (h : 0 ≤ a ∧ a ≤ b ∧ b < 10 ∧ 1 ≤ k ∧ k ≤ 3) (ec : (c : Int) = 100 * a + 10 * b + k) (hn : sp_cc (gH g) c = gH g) : xa_ifc g a b k v = -1 := by
  unfold xa_ifc
  rw [if_pos]
  have e : c = 100 * a.toNat + 10 * b.toNat + k.toNat := by omega
  rw [e, sp_cn (by omega) (by omega) (by omega)] at hn
  exact hn
theorem xa_ifc_t {g : Nat → Int} {a b k : Int} {c : Nat} (v : Int) (h : 0 ≤ a ∧ a ≤ b ∧ b < 10 ∧ 1 ≤ k ∧ k ≤ 3) (ec : (c : Int) = 100 * a + 10 * b + k) (hn : ¬ sp_cc (gH g) c = gH g) : xa_ifc g a b k v = if v = 0 then g 4 * ((sp_lc (gH g) : Int) - (sp_lc (sp_bh (gS g) (gW g) (gH g) c) : Int)) else if v = 1 then (sp_bh (gS g) (gW g) (gH g) c : Int) else if v = 2 then 100 + g 4 * ox_wo g (sp_bh (gS g) (gW g) (gH g) c) else (sp_lv (sp_cc (gH g) c) : Int) - (sp_lv (sp_bh (gS g) (gW g) (gH g) c) : Int) := by
  unfold xa_ifc
  have e : c = 100 * a.toNat + 10 * b.toNat + k.toNat := by omega
  have e2 : (100 * a + 10 * b + k).toNat = c := by omega
  rw [e2, if_neg]
  rw [e, sp_cn (by omega) (by omega) (by omega)] at hn
  exact hn
theorem an_goes1 (L : ob_L) : an_goes L 18 1 = ((ox_go (lg L) 18 (gH (lg L)) 0).2 : Int) := by
  unfold an_goes
  rw [ob_an_n (show xc_go 18 1 = none from by unfold xc_go; rw [if_pos (by decide), if_pos (by decide)])]
  rfl
theorem an_goes0 (L : ob_L) : an_goes L 18 0 = ((ox_go (lg L) 18 (gH (lg L)) 0).1 : Int) := by
  unfold an_goes
  rw [ob_an_n (show xc_go 18 0 = none from by unfold xc_go; rw [if_pos (by decide), if_pos (by decide)])]
  rfl
theorem xc_clip_n {g : Nat → Int} {a b k : Int} {c : Nat} (h : 0 ≤ a ∧ a ≤ b ∧ b < g 0 ∧ 1 ≤ k ∧ k ≤ 3 ∧ b - a < g 5) (hb : b < 10) (ec : (c : Int) = 100 * a + 10 * b + k) (hn : ¬ sp_cc (gH g) c = gH g) : xc_clip g a b k = none := by
  unfold xc_clip
  rw [xc_or_n (xc_req_n h), if_neg]
  have e : c = 100 * a.toNat + 10 * b.toNat + k.toNat := by omega
  rw [e, sp_cn (by omega) (by omega) (by omega)] at hn
  exact hn
theorem xc_clip_b {g : Nat → Int} (hg : WF g) (h : gH g = 0) : xc_clip g 0 0 1 = some hx_ISE := by
  have h1 := hg.1
  have h5 := hg.2.2.2.2.2
  unfold xc_clip
  rw [xc_or_n (xc_req_n (by omega)), if_pos]
  rw [h]
  exact sp_cc0 _
theorem st_clip_t {L : ob_L} {a b k : Int} {c : Nat} (ec : (c : Int) = 100 * a + 10 * b + k) (hx : xc_clip (lg L) a b k = none) : st_clip L a b k = ob_keep L (ox_clip (lg L) c) := by
  unfold st_clip
  rw [ob_st_n hx, show (100 * a + 10 * b + k).toNat = c by omega]
theorem an_clip_t {L : ob_L} {a b k : Int} {c : Nat} (ec : (c : Int) = 100 * a + 10 * b + k) (hx : xc_clip (lg L) a b k = none) : an_clip L a b k = lg L 4 * ((sp_lc (gH (lg L)) : Int) - (sp_lc (sp_bh (gS (lg L)) (gW (lg L)) (gH (lg L)) c) : Int)) := by
  unfold an_clip
  rw [ob_an_n hx, show (100 * a + 10 * b + k).toNat = c by omega]
  rfl
theorem xc_wat_o {g : Nat → Int} {i : Nat} (h : (i : Int) < g 0) (hn : ¬ sp_dg (gH g) i = 3) : xc_wat g (i : Int) = none := by
  unfold xc_wat
  rw [xc_or_n (show xc_stem g (i : Int) = none by unfold xc_stem; rw [if_pos (by omega)]), Int.toNat_natCast, if_neg hn]
theorem xc_wat_x {g : Nat → Int} {i : Nat} (h : (i : Int) < g 0) (hn : sp_dg (gH g) i = 3) : xc_wat g (i : Int) = some hx_ISE := by
  unfold xc_wat
  rw [xc_or_n (show xc_stem g (i : Int) = none by unfold xc_stem; rw [if_pos (by omega)]), Int.toNat_natCast, if_pos hn]
theorem st_wat_t {L : ob_L} {i : Nat} (hx : xc_wat (lg L) (i : Int) = none) : st_water L (i : Int) = ob_keep L (ox_wat (lg L) (i : Int)) := ob_st_n hx
theorem an_wat_t {L : ob_L} (hJ : ob_J L) {i : Nat} (h : (i : Int) < lg L 0) (hn : ¬ sp_dg (gH (lg L)) i = 3) : an_water L (i : Int) = (sp_dg (gH (lg L)) i : Int) + 1 := by
  have h1 := hJ.1.S
  have h2 := hJ.1.e0
  unfold an_water
  rw [ob_an_n (xc_wat_o h hn), Int.toNat_natCast, sp_dg_add (gS (lg L)) (by omega) _ _ hJ.1.H (by omega) hn]
  omega
