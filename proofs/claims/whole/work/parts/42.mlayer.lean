/-! longs by whole numbers; arrays that agree where they are read -/
def zL (z : Int) : Int64 := Int64.ofInt z
theorem zL_toInt {a : Int} (h : -9223372036854775808 ≤ a ∧ a < 9223372036854775808) : (zL a).toInt = a := Int64.toInt_ofInt_of_le (by omega) (by omega)
theorem zL_of (x : Int64) : x = zL x.toInt := (Int64.ofInt_toInt x).symm
theorem zL_i {z : Int} (h : -2147483648 ≤ z ∧ z < 2147483648) : (zI z).toInt64 = zL z := by
  apply Int64.toInt_inj.mp
  rw [zL_toInt (by omega), Int32.toInt_toInt64, zI_toInt h]
theorem zL_lt {a b : Int} (h : (-9223372036854775808 ≤ a ∧ a < 9223372036854775808) ∧ -9223372036854775808 ≤ b ∧ b < 9223372036854775808) : lg_cmp (zL a) (zL b) < 0 ↔ a < b := by
  have e1 : zL a > zL b ↔ b < a := by
    show zL b < zL a ↔ _
    rw [Int64.lt_iff_toInt_lt, zL_toInt h.1, zL_toInt h.2]
  have e2 : zL a = zL b ↔ a = b := by
    rw [← Int64.toInt_inj, zL_toInt h.1, zL_toInt h.2]
  unfold lg_cmp
  by_cases g : b < a
  · rw [if_pos (e1.mpr g)]
    exact ⟨fun q => absurd q (by decide), fun q => by omega⟩
  · rw [if_neg (fun q => g (e1.mp q))]
    by_cases g2 : a = b
    · rw [if_pos (e2.mpr g2)]
      exact ⟨fun q => absurd q (by decide), fun q => by omega⟩
    · rw [if_neg (fun q => g2 (e2.mp q))]
      exact ⟨fun _ => by omega, fun _ => by decide⟩
theorem zL_gt {a b : Int} (h : (-9223372036854775808 ≤ a ∧ a < 9223372036854775808) ∧ -9223372036854775808 ≤ b ∧ b < 9223372036854775808) : 0 < lg_cmp (zL a) (zL b) ↔ b < a := by
  have e1 : zL a > zL b ↔ b < a := by
    show zL b < zL a ↔ _
    rw [Int64.lt_iff_toInt_lt, zL_toInt h.1, zL_toInt h.2]
  unfold lg_cmp
  by_cases g : b < a
  · rw [if_pos (e1.mpr g)]
    exact ⟨fun _ => g, fun _ => by decide⟩
  · rw [if_neg (fun q => g (e1.mp q))]
    refine ⟨fun q => ?_, fun q => absurd q g⟩
    split at q
    · exact absurd q (by decide)
    · exact absurd q (by decide)
theorem hv_cellc (cA : ClassId) (n : Nat) {f f' : Nat → Int32} (h : ∀ i, i < n → f i = f' i) : vp_cell cA (n, .inl f) = vp_cell cA (n, .inl f') := by
  rw [vp_cell_i, vp_cell_i]
  unfold arrV
  have e : (fun j : Fin n => (Value.int (f j.val))) = fun j : Fin n => Value.int (f' j.val) := by
    funext j
    rw [h j.val j.isLt]
  rw [e]
/-- an array's contents, told otherwise -/
theorem hv_acg {p : Program} {l : Launch} {e : Env} {R : Room} {s : State} {m : MethodId} {args : Array Value} {below : List Frame} {meth : Method} {c : Code} {Q : State → Prop} {nL : Nat} {D : va_G} {A : Nat → Prop} {H0 : Heap} {ce sl : Nat} {ws : va_W} {lv : List (Nat × Value)} {st : List Value} {pc : Nat} (k : Nat) {a : Nat} {cA : ClassId} {n : Nat} {f f' : Nat → Int32} {ws' : va_W} (hk : ws[k]? = some (a, .inl (cA, n, .inl f))) (hf : ∀ i, i < n → f i = f' i) (hw : ws.set k (a, .inl (cA, n, .inl f')) = ws')
    (K : hv_V p l e R s m args below meth c nL D A H0 Q ce sl ws' lv st pc) : hv_V p l e R s m args below meth c nL D A H0 Q ce sl ws lv st pc := by
  subst hw
  have hkl : k < ws.length := by
    rcases Nat.lt_or_ge k ws.length with g | g
    · exact g
    · rw [List.getElem?_eq_none g] at hk
      exact absurd hk (by intro q; cases q)
  have hm : (ws.set k (a, .inl (cA, n, .inl f'))).map Prod.fst = ws.map Prod.fst := by
    rw [List.map_set]
    apply List.ext_getElem?
    intro j
    rw [List.getElem?_set]
    split
    · next q =>
      subst q
      rw [if_pos (by rw [List.length_map]; exact hkl), List.getElem?_map, hk]
      rfl
    · rfl
  intro H locs la hP hD hS hl
  refine K H locs la ?_ ?_ hS hl
  · intro j q hq
    rw [List.getElem?_set] at hq
    split at hq
    · next g =>
      cases hq
      have h1 := hP k _ hk
      show H[a]? = some (vp_cell cA (n, .inl f'))
      rw [← hv_cellc cA n hf]
      exact h1
    · exact hP j q hq
  · have h2 := hv_Dm.mp hD
    refine hv_Dm.mpr ⟨by rw [hm]; exact h2.1, fun q hq => ?_⟩
    rcases List.mem_or_eq_of_mem_set hq with g | g
    · exact h2.2 q g
    · rw [g]
      have h3 := h2.2 _ (List.mem_of_getElem? hk)
      exact h3
