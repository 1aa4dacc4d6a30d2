/-! one object: what is seen of it (L), what lies hidden (h) -/
abbrev ob_L : Type := (Nat → Int) × Nat × Nat × (Nat → Bool) × (Nat → Nat → Int) × (Nat → Bool) × (Nat → Nat → Int)
abbrev ob_H : Type := (Nat → Nat × Nat × Nat) × (Nat → Nat × Nat × Nat) × (Nat → Int) × (Nat → Bool) × (Nat → Nat × Nat × Nat) × (Nat → Nat → Int32)
abbrev lg (L : ob_L) : Nat → Int := L.1
abbrev lsz (L : ob_L) : Nat := L.2.1
abbrev lnx (L : ob_L) : Nat := L.2.2.1
abbrev lal (L : ob_L) : Nat → Bool := L.2.2.2.1
abbrev lct (L : ob_L) : Nat → Nat → Int := L.2.2.2.2.1
abbrev lsal (L : ob_L) : Nat → Bool := L.2.2.2.2.2.1
abbrev lsct (L : ob_L) : Nat → Nat → Int := L.2.2.2.2.2.2
abbrev hga (h : ob_H) : Nat → Nat × Nat × Nat := h.1
abbrev hsg (h : ob_H) : Nat → Nat × Nat × Nat := h.2.1
abbrev hgc (h : ob_H) : Nat → Int := h.2.2.1
abbrev hal (h : ob_H) : Nat → Bool := h.2.2.2.1
abbrev hoa (h : ob_H) : Nat → Nat × Nat × Nat := h.2.2.2.2.1
abbrev hkf (h : ob_H) : Nat → Nat → Int32 := h.2.2.2.2.2
def ob_W (dA : Nat → ClassId) (a : Nat → Nat) (L : ob_L) (h : ob_H) : va_W := [((a 0), .inr (6, [.ref (a 1), .ref (a 4), .ref (a 7), .ref (a 9), .ref (a 10), .ref (a 12)])), ((a 1), .inr (0, [.int (zI ((lg L) 0)), .int (zI ((lg L) 1)), .int (zI ((lg L) 2)), .int (zI ((lg L) 3)), .int (zI ((lg L) 4)), .int (zI ((lg L) 5)), .ref (a 2), .ref (a 3)])), ((a 2), .inr (1, [.int (zI ((lg L) 6)), .int (zI ((lg L) 8)), .int (zI ((lg L) 10))])), ((a 3), .inr (1, [.int (zI ((lg L) 7)), .int (zI ((lg L) 9)), .int (zI ((lg L) 11))])), ((a 4), .inr (0, [.int (zI ((hgc h) 0)), .int (zI ((hgc h) 1)), .int (zI ((hgc h) 2)), .int (zI ((hgc h) 3)), .int (zI ((hgc h) 4)), .int (zI ((hgc h) 5)), .ref (a 5), .ref (a 6)])), ((a 5), .inr (1, [.int (zI ((hgc h) 6)), .int (zI ((hgc h) 8)), .int (zI ((hgc h) 10))])), ((a 6), .inr (1, [.int (zI ((hgc h) 7)), .int (zI ((hgc h) 9)), .int (zI ((hgc h) 11))])), ((a 7), .inr (2, [.ref (a 8), .int (zI ((((lsz L) : Nat) : Int))), .int (zI ((((lnx L) : Nat) : Int)))])), ((a 8), .inl (dA 5, 14, .inr (.inr (.inr (.inr (mo_f (lal L) (hga h))))))), ((a 9), .inl (dA 5, 2, .inr (.inr (.inr (.inr (mo_f (lsal L) (hsg h))))))), ((a 10), .inr (5, [.ref (a 11), .int (zI (((0 : Nat) : Int)))])), ((a 11), .inl (dA 2, 120, .inl (fun i => zI ((fun _ => 0) i)))), ((a 12), .inr (4, [.ref (a 13)])), ((a 13), .inl (dA 6, 45, .inr (.inr (.inr (.inr (ol_f (hal h) (hoa h)))))))] ++ [pl_all 14 (mo_F (lal L) (hga h) (lct L)), pl_all 2 (mo_F (lsal L) (hsg h) (lsct L)), pl_all 45 (ol_F dA (hal h) (hoa h) (hkf h))].flatten
def ob_J (L : ob_L) : Prop := WF (lg L) ∧ lsz L ≤ 14 ∧ lnx L ≤ 14 ∧ lw_M (lnx L) (lsz L) (lal L) (lct L) ∧ lw_S (lsal L) (lsct L)
def ob_k (h : ob_H) : Prop := ol_ok (hal h) (hkf h)
/-- hidden things go on: the outlooks that stand, stand -/
def ob_p (h u : ob_H) : Prop := ob_k u ∧ hal u = hal h
def ob_er (E : String) : Int := if E = hx_IOE then -9999001 else if E = hx_IAE then -9999002 else -9999003
theorem hx_12 : ¬ hx_IAE = hx_ISE := by decide +kernel
theorem hx_13 : ¬ hx_IAE = hx_IOE := by decide +kernel
theorem hx_21 : ¬ hx_ISE = hx_IAE := by decide +kernel
theorem hx_23 : ¬ hx_ISE = hx_IOE := by decide +kernel
theorem ob_er_IOE : ob_er hx_IOE = -9999001 := if_pos rfl
theorem ob_er_IAE : ob_er hx_IAE = -9999002 := by unfold ob_er; rw [if_neg hx_13, if_pos rfl]
theorem ob_er_ISE : ob_er hx_ISE = -9999003 := by unfold ob_er; rw [if_neg hx_23, if_neg hx_21]
def ob_an (x : Option String) (v : Int) : Int := match x with
  | none => v
  | some E => ob_er E
def ob_st (x : Option String) (u v : ob_L) : ob_L := match x with
  | none => u
  | some _ => v
theorem ob_an_n {x : Option String} {v : Int} (h : x = none) : ob_an x v = v := by rw [h]; rfl
theorem ob_an_s {x : Option String} {v : Int} {E : String} (h : x = some E) : ob_an x v = ob_er E := by rw [h]; rfl
theorem ob_st_n {x : Option String} {u v : ob_L} (h : x = none) : ob_st x u v = u := by rw [h]; rfl
theorem ob_st_s {x : Option String} {u v : ob_L} {E : String} (h : x = some E) : ob_st x u v = v := by rw [h]; rfl
theorem ob_rv {x y : Int} (h : x = y) : some (Value.int (zI x)) = some (Value.int (zI y)) := by rw [h]
def ob_keep (L : ob_L) (g : Nat → Int) : ob_L := (g, min (lsz L + 1) 14, lnx L % 14 + 1, mo_al (lal L) (lnx L % 14), mo_ct (lct L) (lnx L % 14) (lg L), lsal L, lsct L)
theorem ob_J_keep {L : ob_L} (h : ob_J L) {g : Nat → Int} (hg : WF g) : ob_J (ob_keep L g) :=
  ⟨hg, (by show min (lsz L + 1) 14 ≤ 14; omega), (by show lnx L % 14 + 1 ≤ 14; omega), lw_M_new h.2.1 h.2.2.1 rfl h.1 h.2.2.2.1, h.2.2.2.2⟩
theorem sx_rg0 : sx_rg (fun _ => 0) := fun _ => ⟨Int.le_refl 0, (by decide : (0 : Int) ≤ 255)⟩

def an_about (L : ob_L) (z1 : Int) : Int := ob_an (xc_abo z1) (xa_abo (lg L) z1)
def an_leaves (L : ob_L) (z1 : Int) : Int := ob_an (xc_stem (lg L) z1) ((sp_dg (gH (lg L)) z1.toNat : Int))
def an_who (L : ob_L) (z1 z2 : Int) : Int := ob_an (xc_gar z1 z2) (xa_gar (lg L) z1 z2)
def an_setting (L : ob_L) (z1 : Int) : Int := ob_an (xc_set z1) (if z1 = 0 then (lg L) 4 else (lg L) 5)
def an_plant (L : ob_L) (z1 z2 : Int) : Int := ob_an (xc_plant z1 z2) ((sp_lv z2.toNat : Int))
def st_plant (L : ob_L) (z1 z2 : Int) : ob_L := ob_st (xc_plant z1 z2) (ob_keep L (sp_plant (lg L) z1 z2)) L
def an_clip (L : ob_L) (z1 z2 z3 : Int) : Int := ob_an (xc_clip (lg L) z1 z2 z3) (sp_fi (lg L) (gH (lg L)) (sp_bh (gS (lg L)) (gW (lg L)) (gH (lg L)) (100 * z1 + 10 * z2 + z3).toNat))
def st_clip (L : ob_L) (z1 z2 z3 : Int) : ob_L := ob_st (xc_clip (lg L) z1 z2 z3) (ob_keep L (ox_clip (lg L) (100 * z1 + 10 * z2 + z3).toNat)) L
def an_water (L : ob_L) (z1 : Int) : Int := ob_an (xc_wat (lg L) z1) ((sp_dg (gH (lg L) + 4 ^ z1.toNat) z1.toNat : Int))
def st_water (L : ob_L) (z1 : Int) : ob_L := ob_st (xc_wat (lg L) z1) (ob_keep L (ox_wat (lg L) z1)) L
def an_wind (L : ob_L) (z1 : Int) : Int := ob_an (xc_wind z1) ((lg L) 2)
def st_wind (L : ob_L) (z1 : Int) : ob_L := ob_st (xc_wind z1) (ob_keep L (sp_set (lg L) 2 z1)) L
def an_lay (L : ob_L) (z1 z2 : Int) : Int := ob_an (xc_sett z1 z2) (if z1 = 0 then (lg L) 4 else (lg L) 5)
def st_lay (L : ob_L) (z1 z2 : Int) : ob_L := ob_st (xc_sett z1 z2) (ob_keep L (if z1 = 0 then sp_set (lg L) 4 z2 else sp_set (lg L) 5 z2)) L
def an_undo (L : ob_L) : Int := ob_an (xc_undo (lsz L)) ((((lsz L) - 1 : Nat) : Int))
def st_undo (L : ob_L) : ob_L := ob_st (xc_undo (lsz L)) ((lct L ((lnx L + 13) % 14), lsz L - 1, (lnx L + 13) % 14, lal L, lct L, lsal L, lsct L)) L
def an_goes (L : ob_L) (z1 z2 : Int) : Int := ob_an (xc_go z1 z2) (if z2 = 0 then ((ox_go (lg L) z1.toNat (gH (lg L)) 0).1 : Int) else ((ox_go (lg L) z1.toNat (gH (lg L)) 0).2 : Int))
def an_keep (L : ob_L) (z1 : Int) : Int := ob_an (xc_slot z1) ((lg L) 8 + (lg L) 9)
def st_keep (L : ob_L) (z1 : Int) : ob_L := ob_st (xc_slot z1) ((lg L, lsz L, lnx L, lal L, lct L, mo_al (lsal L) z1.toNat, mo_ct (lsct L) z1.toNat (lg L))) L
def an_back (L : ob_L) (z1 : Int) : Int := ob_an (xc_rest (lsal L) z1) ((lsct L) z1.toNat 8 + (lsct L) z1.toNat 9)
def st_back (L : ob_L) (z1 : Int) : ob_L := ob_st (xc_rest (lsal L) z1) ((lsct L z1.toNat, 0, lnx L, lal L, lct L, lsal L, lsct L)) L
def an_would (L : ob_L) (z1 z2 z3 z4 : Int) : Int := ob_an (xc_ifc (lg L) z1 z2 z3 z4) (xa_ifc (lg L) z1 z2 z3 z4)
def an_sim (L : ob_L) (z1 : Int) (x9 : Int64) : Int := ob_an (xc_sim z1) (10000 * (((sm_g (lg L) x9 z1.toNat) 8 + (sm_g (lg L) x9 z1.toNat) 9) - ((lg L) 8 + (lg L) 9)) + zm (((sm_g (lg L) x9 z1.toNat) 6 + (sm_g (lg L) x9 z1.toNat) 7) - ((lg L) 6 + (lg L) 7)) 9999)
