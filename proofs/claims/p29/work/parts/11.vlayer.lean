/-! a layer over the kit's rows: the world, the locals, the stack and the pc are data of one predicate -/
def hv_tys (dA : Nat → ClassId) : List (ClassId × FieldType) := [(dA 0, .int), (dA 1, .byte), (dA 2, .char), (dA 3, .int), (dA 4, .int), (dA 5, .object RX1), (dA 6, .object RX5)]
def hv_V (p : Program) (l : Launch) (e : Env) (R : Room) (s : State) (m : MethodId) (args : Array Value) (below : List Frame) (meth : Method) (c : Code) (nL : Nat) (D : va_G) (A : Nat → Prop) (H0 : Heap) (Q : State → Prop) (ce sl : Nat) (ws : va_W) (lv : List (Nat × Value)) (st : List Value) (pc : Nat) : Prop :=
  ∀ (H : Heap) (locs : List Loc) (la : Array Slot), va_P D vwCl ws H → va_D A ws → va_S A H0 H locs → lv_has la nL lv → W p l e R s m args below meth c H locs ce sl Q (F0 m pc la st)
def hv_C (p : Program) (s : State) (m : MethodId) (args : Array Value) (c : Code) (cc : ByteArray) (nL : Nat) (D : va_G) (dA : Nat → ClassId) (A : Nat → Prop) (H0 : Heap) (own : String) (Ts : List Cond) : Prop :=
  CallFix p m c cc nL s args Ts own ∧ va_K D vwCl (hv_tys dA) s ∧ (∀ q : Nat, H0.size ≤ q → A q) ∧ hv_N s
/-! worlds up to order -/
theorem hv_Pm {D : va_G} {cl : List vw_C} {ws : va_W} {H : Heap} : va_P D cl ws H ↔ ∀ q ∈ ws, va_at D cl q H := by
  constructor
  · intro h q hq
    obtain ⟨k, hk⟩ := List.getElem?_of_mem hq
    exact h k q hk
  · intro h k q hk
    exact h q (List.mem_of_getElem? hk)
theorem hv_Dm {A : Nat → Prop} {ws : va_W} : va_D A ws ↔ (ws.map Prod.fst).Nodup ∧ ∀ q ∈ ws, A q.1 := by
  constructor
  · intro h
    refine ⟨?_, fun q hq => ?_⟩
    · rw [List.nodup_iff_pairwise_ne, List.pairwise_iff_getElem]
      intro i j hi hj hij hne
      rw [List.length_map] at hi hj
      rw [List.getElem_map, List.getElem_map] at hne
      have := h.1 i j _ _ (List.getElem?_eq_getElem hi) (List.getElem?_eq_getElem hj) hne
      omega
    · obtain ⟨k, hk⟩ := List.getElem?_of_mem hq
      exact h.2 k q hk
  · intro h
    refine ⟨fun i j p q hi hj hpq => ?_, fun k q hk => h.2 q (List.mem_of_getElem? hk)⟩
    have h1 := h.1
    rw [List.nodup_iff_pairwise_ne, List.pairwise_iff_getElem] at h1
    obtain ⟨hi1, hi2⟩ := List.getElem?_eq_some_iff.mp hi
    obtain ⟨hj1, hj2⟩ := List.getElem?_eq_some_iff.mp hj
    rcases Nat.lt_trichotomy i j with g | g | g
    · exact absurd (by rw [List.getElem_map, List.getElem_map, hi2, hj2]; exact hpq) (h1 i j (by rw [List.length_map]; exact hi1) (by rw [List.length_map]; exact hj1) g)
    · exact g
    · exact absurd (by rw [List.getElem_map, List.getElem_map, hi2, hj2]; exact hpq.symm) (h1 j i (by rw [List.length_map]; exact hj1) (by rw [List.length_map]; exact hi1) g)
theorem hv_Pp {D : va_G} {cl : List vw_C} {ws ws' : va_W} {H : Heap} (hp : ws.Perm ws') (h : va_P D cl ws H) : va_P D cl ws' H :=
  hv_Pm.mpr fun q hq => hv_Pm.mp h q (hp.mem_iff.mpr hq)
theorem hv_Dp {A : Nat → Prop} {ws ws' : va_W} (hp : ws.Perm ws') (h : va_D A ws) : va_D A ws' := by
  obtain ⟨h1, h2⟩ := hv_Dm.mp h
  exact hv_Dm.mpr ⟨(hp.map Prod.fst).nodup_iff.mp h1, fun q hq => h2 q (hp.mem_iff.mpr hq)⟩
theorem hv_Pl {D : va_G} {cl : List vw_C} {a b : va_W} {H : Heap} (h : va_P D cl (a ++ b) H) : va_P D cl a H :=
  hv_Pm.mpr fun q hq => hv_Pm.mp h q (List.mem_append_left _ hq)
theorem hv_Pr {D : va_G} {cl : List vw_C} {a b : va_W} {H : Heap} (h : va_P D cl (a ++ b) H) : va_P D cl b H :=
  hv_Pm.mpr fun q hq => hv_Pm.mp h q (List.mem_append_right _ hq)
theorem hv_Dl {A : Nat → Prop} {a b : va_W} (h : va_D A (a ++ b)) : va_D A a := by
  obtain ⟨h1, h2⟩ := hv_Dm.mp h
  rw [List.map_append] at h1
  exact hv_Dm.mpr ⟨(List.nodup_append.mp h1).1, fun q hq => h2 q (List.mem_append_left _ hq)⟩
theorem hv_Dr {A : Nat → Prop} {a b : va_W} (h : va_D A (a ++ b)) : va_D A b := by
  obtain ⟨h1, h2⟩ := hv_Dm.mp h
  rw [List.map_append] at h1
  exact hv_Dm.mpr ⟨(List.nodup_append.mp h1).2.1, fun q hq => h2 q (List.mem_append_right _ hq)⟩
theorem hv_Dx {A : Nat → Prop} {a b : va_W} (h : va_D A (a ++ b)) : ∀ x ∈ a, ∀ y ∈ b, x.1 ≠ y.1 := by
  obtain ⟨h1, -⟩ := hv_Dm.mp h
  rw [List.map_append] at h1
  exact fun x hx y hy => (List.nodup_append.mp h1).2.2 x.1 (List.mem_map_of_mem hx) y.1 (List.mem_map_of_mem hy)
/-- the cells at some places, one behind another (each place counted in what is left), then the rest -/
def hv_rmv {α : Type} : List α → List Nat → List α
  | ws, [] => ws
  | ws, i :: is => match ws[i]? with
    | some x => x :: hv_rmv (ws.eraseIdx i) is
    | none => hv_rmv ws is
theorem hv_eraP {α : Type} : ∀ (i : Nat) (l : List α) (x : α), l[i]? = some x → l.Perm (x :: l.eraseIdx i)
  | _, [], x, h => by simp at h
  | 0, a :: l, x, h => by
    rw [List.getElem?_cons_zero] at h
    cases h
    exact List.Perm.refl _
  | i + 1, a :: l, x, h => by
    rw [List.getElem?_cons_succ] at h
    exact (List.Perm.cons a (hv_eraP i l x h)).trans (List.Perm.swap x a _)
theorem hv_rmvp {α : Type} : ∀ (is : List Nat) (ws : List α), ws.Perm (hv_rmv ws is)
  | [], ws => by rw [hv_rmv]
  | i :: is, ws => by
    rw [hv_rmv]
    split
    · next x hx => exact (hv_eraP i ws x hx).trans (List.Perm.cons x (hv_rmvp is (ws.eraseIdx i)))
    · exact hv_rmvp is ws
section HVL
variable {p : Program} {l : Launch} {e : Env} {R : Room} {s : State} {m : MethodId} {args : Array Value} {below : List Frame} {meth : Method} {c : Code} {Q : State → Prop} {cc : ByteArray} {nL : Nat} {D : va_G} {dA : Nat → ClassId} {A : Nat → Prop} {H0 : Heap} {own : String} {Ts : List Cond} {ce sl : Nat} {ws : va_W} {lv : List (Nat × Value)} {st : List Value} {pc : Nat}
theorem hv_perm {ws' : va_W} (h : ws.Perm ws') (K : hv_V p l e R s m args below meth c nL D A H0 Q ce sl ws' lv st pc) : hv_V p l e R s m args below meth c nL D A H0 Q ce sl ws lv st pc :=
  fun H locs la hP hD hS hl => K H locs la (hv_Pp h hP) (hv_Dp h hD) hS hl
theorem hv_srt (is : List Nat) {ws' : va_W} (h : hv_rmv ws is = ws') (K : hv_V p l e R s m args below meth c nL D A H0 Q ce sl ws' lv st pc) : hv_V p l e R s m args below meth c nL D A H0 Q ce sl ws lv st pc :=
  hv_perm (h ▸ hv_rmvp is ws) K
theorem hv_weq {ws' : va_W} (h : ws = ws') (K : hv_V p l e R s m args below meth c nL D A H0 Q ce sl ws' lv st pc) : hv_V p l e R s m args below meth c nL D A H0 Q ce sl ws lv st pc := h ▸ K
theorem hv_lsub (ks : List Nat) {lv' : List (Nat × Value)} (h : lv_pick lv ks = lv') (K : hv_V p l e R s m args below meth c nL D A H0 Q ce sl ws lv' st pc) : hv_V p l e R s m args below meth c nL D A H0 Q ce sl ws lv st pc :=
  fun H locs la hP hD hS hl => K H locs la hP hD hS (lv_sub hl ks h)
theorem hv_lveq {lv' : List (Nat × Value)} (h : lv = lv') (K : hv_V p l e R s m args below meth c nL D A H0 Q ce sl ws lv' st pc) : hv_V p l e R s m args below meth c nL D A H0 Q ce sl ws lv st pc := h ▸ K
theorem hv_topi {x y : Int32} (h : x = y) (K : hv_V p l e R s m args below meth c nL D A H0 Q ce sl ws lv (.int y :: st) pc) : hv_V p l e R s m args below meth c nL D A H0 Q ce sl ws lv (.int x :: st) pc := h ▸ K
theorem hv_topl {x y : Int64} (h : x = y) (K : hv_V p l e R s m args below meth c nL D A H0 Q ce sl ws lv (.long y :: st) pc) : hv_V p l e R s m args below meth c nL D A H0 Q ce sl ws lv (.long x :: st) pc := h ▸ K
theorem hv_widen {ce' sl' : Nat} (h1 : ce ≤ ce') (h2 : sl ≤ sl') (K : hv_V p l e R s m args below meth c nL D A H0 Q ce' sl' ws lv st pc) : hv_V p l e R s m args below meth c nL D A H0 Q ce sl ws lv st pc :=
  fun H locs la hP hD hS hl => W.widen h1 h2 (K H locs la hP hD hS hl)
/-- what holds of the world, taken out of it -/
theorem hv_facts {F : Prop} (h : ∀ H : Heap, va_P D vwCl ws H → va_D A ws → F) (K : F → hv_V p l e R s m args below meth c nL D A H0 Q ce sl ws lv st pc) : hv_V p l e R s m args below meth c nL D A H0 Q ce sl ws lv st pc :=
  fun H locs la hP hD hS hl => K (h H hP hD) H locs la hP hD hS hl
theorem hv_iconst (C : hv_C p s m args c cc nL D dA A H0 own Ts) {n : Int} {v : Int32} (hdg : decode cc pc = .ok (.iconst n, 1)) (hv : Int32.ofInt n = v) (K : hv_V p l e R s m args below meth c nL D A H0 Q ce sl (ws) (lv) (.int v :: st) (pc + 1)) : hv_V p l e R s m args below meth c nL D A H0 Q ce sl (ws) (lv) (st) (pc) := by
  exact fun H locs la hP hD hS hl => lv_iconst C.1.1 C.1.2.1 hdg hv (K H locs la hP hD hS hl)
theorem hv_bipush (C : hv_C p s m args c cc nL D dA A H0 own Ts) {n : Int} {v : Int32} (hdg : decode cc pc = .ok (.bipush n, 2)) (hv : (Int8.ofInt n).toInt32 = v) (K : hv_V p l e R s m args below meth c nL D A H0 Q ce sl (ws) (lv) (.int v :: st) (pc + 2)) : hv_V p l e R s m args below meth c nL D A H0 Q ce sl (ws) (lv) (st) (pc) := by
  exact fun H locs la hP hD hS hl => lv_bipush C.1.1 C.1.2.1 hdg hv (K H locs la hP hD hS hl)
theorem hv_sipush (C : hv_C p s m args c cc nL D dA A H0 own Ts) {n : Int} {v : Int32} (hdg : decode cc pc = .ok (.sipush n, 3)) (hv : (Int16.ofInt n).toInt32 = v) (K : hv_V p l e R s m args below meth c nL D A H0 Q ce sl (ws) (lv) (.int v :: st) (pc + 3)) : hv_V p l e R s m args below meth c nL D A H0 Q ce sl (ws) (lv) (st) (pc) := by
  exact fun H locs la hP hD hS hl => lv_sipush C.1.1 C.1.2.1 hdg hv (K H locs la hP hD hS hl)
theorem hv_lconst (C : hv_C p s m args c cc nL D dA A H0 own Ts) {n : Fin 2} {v : Int64} (hdg : decode cc pc = .ok (.lconst n, 1)) (hv : Int64.ofNat (n : Nat) = v) (K : hv_V p l e R s m args below meth c nL D A H0 Q ce sl (ws) (lv) (.long v :: st) (pc + 1)) : hv_V p l e R s m args below meth c nL D A H0 Q ce sl (ws) (lv) (st) (pc) := by
  exact fun H locs la hP hD hS hl => lv_lconst C.1.1 C.1.2.1 hdg hv (K H locs la hP hD hS hl)
theorem hv_iload_n (C : hv_C p s m args c cc nL D dA A H0 own Ts) {k : Fin 4} {x : Int32} (hdg : decode cc pc = .ok (.iload_n k, 1)) (j : Nat) (hl9 : lv[j]? = some ((k : Nat), .int x)) (K : hv_V p l e R s m args below meth c nL D A H0 Q ce sl (ws) (lv) (.int x :: st) (pc + 1)) : hv_V p l e R s m args below meth c nL D A H0 Q ce sl (ws) (lv) (st) (pc) := by
  exact fun H locs la hP hD hS hl => lv_iload_n C.1.1 C.1.2.1 hdg rfl (lv_at hl j hl9) (K H locs la hP hD hS hl)
theorem hv_iload (C : hv_C p s m args c cc nL D dA A H0 own Ts) {i : Nat} {x : Int32} (hdg : decode cc pc = .ok (.iload i, 2)) (j : Nat) (hl9 : lv[j]? = some (i, .int x)) (K : hv_V p l e R s m args below meth c nL D A H0 Q ce sl (ws) (lv) (.int x :: st) (pc + 2)) : hv_V p l e R s m args below meth c nL D A H0 Q ce sl (ws) (lv) (st) (pc) := by
  exact fun H locs la hP hD hS hl => lv_iload C.1.1 C.1.2.1 hdg (lv_at hl j hl9) (K H locs la hP hD hS hl)
theorem hv_istore_n (C : hv_C p s m args c cc nL D dA A H0 own Ts) {k : Fin 4} {x : Int32} {lw : List (Nat × Value)} (hdg : decode cc pc = .ok (.istore_n k, 1)) (hn : (k : Nat) < nL) (hl9 : ((k : Nat), Value.int x) :: lv.filter (fun q => !(q.1 == (k : Nat)) && !(q.1 + 1 == (k : Nat) && q.2.category == 2)) = lw) (K : hv_V p l e R s m args below meth c nL D A H0 Q ce sl (ws) (lw) (st) (pc + 1)) : hv_V p l e R s m args below meth c nL D A H0 Q ce sl (ws) (lv) (.int x :: st) (pc) := by
  exact fun H locs la hP hD hS hl => lv_istore_n C.1.1 C.1.2.1 hdg rfl hl hn hl9 (fun la9 hl => K H locs la9 hP hD hS hl)
theorem hv_istore (C : hv_C p s m args c cc nL D dA A H0 own Ts) {i : Nat} {x : Int32} {lw : List (Nat × Value)} (hdg : decode cc pc = .ok (.istore i, 2)) (hn : i < nL) (hl9 : (i, Value.int x) :: lv.filter (fun q => !(q.1 == i) && !(q.1 + 1 == i && q.2.category == 2)) = lw) (K : hv_V p l e R s m args below meth c nL D A H0 Q ce sl (ws) (lw) (st) (pc + 2)) : hv_V p l e R s m args below meth c nL D A H0 Q ce sl (ws) (lv) (.int x :: st) (pc) := by
  exact fun H locs la hP hD hS hl => lv_istore C.1.1 C.1.2.1 hdg hl hn hl9 (fun la9 hl => K H locs la9 hP hD hS hl)
theorem hv_lload_n (C : hv_C p s m args c cc nL D dA A H0 own Ts) {k : Fin 4} {x : Int64} (hdg : decode cc pc = .ok (.lload_n k, 1)) (j : Nat) (hl9 : lv[j]? = some ((k : Nat), .long x)) (K : hv_V p l e R s m args below meth c nL D A H0 Q ce sl (ws) (lv) (.long x :: st) (pc + 1)) : hv_V p l e R s m args below meth c nL D A H0 Q ce sl (ws) (lv) (st) (pc) := by
  exact fun H locs la hP hD hS hl => lv_lload_n C.1.1 C.1.2.1 hdg rfl (lv_at hl j hl9) (K H locs la hP hD hS hl)
theorem hv_lload (C : hv_C p s m args c cc nL D dA A H0 own Ts) {i : Nat} {x : Int64} (hdg : decode cc pc = .ok (.lload i, 2)) (j : Nat) (hl9 : lv[j]? = some (i, .long x)) (K : hv_V p l e R s m args below meth c nL D A H0 Q ce sl (ws) (lv) (.long x :: st) (pc + 2)) : hv_V p l e R s m args below meth c nL D A H0 Q ce sl (ws) (lv) (st) (pc) := by
  exact fun H locs la hP hD hS hl => lv_lload C.1.1 C.1.2.1 hdg (lv_at hl j hl9) (K H locs la hP hD hS hl)
theorem hv_lstore_n (C : hv_C p s m args c cc nL D dA A H0 own Ts) {k : Fin 4} {x : Int64} {lw : List (Nat × Value)} (hdg : decode cc pc = .ok (.lstore_n k, 1)) (hn : (k : Nat) + 1 < nL) (hl9 : ((k : Nat), Value.long x) :: lv.filter (fun q => !(q.1 == (k : Nat)) && (!(q.1 == (k : Nat) + 1) && !(q.1 + 1 == (k : Nat) && q.2.category == 2))) = lw) (K : hv_V p l e R s m args below meth c nL D A H0 Q ce sl (ws) (lw) (st) (pc + 1)) : hv_V p l e R s m args below meth c nL D A H0 Q ce sl (ws) (lv) (.long x :: st) (pc) := by
  exact fun H locs la hP hD hS hl => lv_lstore_n C.1.1 C.1.2.1 hdg rfl hl hn hl9 (fun la9 hl => K H locs la9 hP hD hS hl)
theorem hv_lstore (C : hv_C p s m args c cc nL D dA A H0 own Ts) {i : Nat} {x : Int64} {lw : List (Nat × Value)} (hdg : decode cc pc = .ok (.lstore i, 2)) (hn : i + 1 < nL) (hl9 : (i, Value.long x) :: lv.filter (fun q => !(q.1 == i) && (!(q.1 == i + 1) && !(q.1 + 1 == i && q.2.category == 2))) = lw) (K : hv_V p l e R s m args below meth c nL D A H0 Q ce sl (ws) (lw) (st) (pc + 2)) : hv_V p l e R s m args below meth c nL D A H0 Q ce sl (ws) (lv) (.long x :: st) (pc) := by
  exact fun H locs la hP hD hS hl => lv_lstore C.1.1 C.1.2.1 hdg hl hn hl9 (fun la9 hl => K H locs la9 hP hD hS hl)
theorem hv_aload_n (C : hv_C p s m args c cc nL D dA A H0 own Ts) {k : Fin 4} {x : Nat} (hdg : decode cc pc = .ok (.aload_n k, 1)) (j : Nat) (hl9 : lv[j]? = some ((k : Nat), .ref x)) (K : hv_V p l e R s m args below meth c nL D A H0 Q ce sl (ws) (lv) (.ref x :: st) (pc + 1)) : hv_V p l e R s m args below meth c nL D A H0 Q ce sl (ws) (lv) (st) (pc) := by
  exact fun H locs la hP hD hS hl => lv_aload_n C.1.1 C.1.2.1 hdg rfl (lv_at hl j hl9) (K H locs la hP hD hS hl)
theorem hv_aload (C : hv_C p s m args c cc nL D dA A H0 own Ts) {i : Nat} {x : Nat} (hdg : decode cc pc = .ok (.aload i, 2)) (j : Nat) (hl9 : lv[j]? = some (i, .ref x)) (K : hv_V p l e R s m args below meth c nL D A H0 Q ce sl (ws) (lv) (.ref x :: st) (pc + 2)) : hv_V p l e R s m args below meth c nL D A H0 Q ce sl (ws) (lv) (st) (pc) := by
  exact fun H locs la hP hD hS hl => lv_aload C.1.1 C.1.2.1 hdg (lv_at hl j hl9) (K H locs la hP hD hS hl)
theorem hv_astore_n (C : hv_C p s m args c cc nL D dA A H0 own Ts) {k : Fin 4} {x : Nat} {lw : List (Nat × Value)} (hdg : decode cc pc = .ok (.astore_n k, 1)) (hn : (k : Nat) < nL) (hl9 : ((k : Nat), Value.ref x) :: lv.filter (fun q => !(q.1 == (k : Nat)) && !(q.1 + 1 == (k : Nat) && q.2.category == 2)) = lw) (K : hv_V p l e R s m args below meth c nL D A H0 Q ce sl (ws) (lw) (st) (pc + 1)) : hv_V p l e R s m args below meth c nL D A H0 Q ce sl (ws) (lv) (.ref x :: st) (pc) := by
  exact fun H locs la hP hD hS hl => lv_astore_n C.1.1 C.1.2.1 hdg rfl hl hn hl9 (fun la9 hl => K H locs la9 hP hD hS hl)
theorem hv_astore (C : hv_C p s m args c cc nL D dA A H0 own Ts) {i : Nat} {x : Nat} {lw : List (Nat × Value)} (hdg : decode cc pc = .ok (.astore i, 2)) (hn : i < nL) (hl9 : (i, Value.ref x) :: lv.filter (fun q => !(q.1 == i) && !(q.1 + 1 == i && q.2.category == 2)) = lw) (K : hv_V p l e R s m args below meth c nL D A H0 Q ce sl (ws) (lw) (st) (pc + 2)) : hv_V p l e R s m args below meth c nL D A H0 Q ce sl (ws) (lv) (.ref x :: st) (pc) := by
  exact fun H locs la hP hD hS hl => lv_astore C.1.1 C.1.2.1 hdg hl hn hl9 (fun la9 hl => K H locs la9 hP hD hS hl)
theorem hv_iinc (C : hv_C p s m args c cc nL D dA A H0 own Ts) {i : Nat} {n : Int} {x v : Int32} {lw : List (Nat × Value)} (hdg : decode cc pc = .ok (.iinc i n, 3)) (j : Nat) (hk : lv[j]? = some (i, .int x)) (hv : x + Int32.ofInt n = v) (hn : i < nL) (hl9 : (i, Value.int v) :: lv.filter (fun q => !(q.1 == i) && !(q.1 + 1 == i && q.2.category == 2)) = lw) (K : hv_V p l e R s m args below meth c nL D A H0 Q ce sl (ws) (lw) (st) (pc + 3)) : hv_V p l e R s m args below meth c nL D A H0 Q ce sl (ws) (lv) (st) (pc) := by
  exact fun H locs la hP hD hS hl => lv_iinc C.1.1 C.1.2.1 hdg hl (k := j) hk hv hn hl9 (fun la9 hl => K H locs la9 hP hD hS hl)
theorem hv_iadd (C : hv_C p s m args c cc nL D dA A H0 own Ts) {x y z : Int32} (hdg : decode cc pc = .ok (.iadd, 1)) (hz : x + y = z) (K : hv_V p l e R s m args below meth c nL D A H0 Q ce sl (ws) (lv) (.int z :: st) (pc + 1)) : hv_V p l e R s m args below meth c nL D A H0 Q ce sl (ws) (lv) (.int y :: .int x :: st) (pc) := by
  subst hz
  exact fun H locs la hP hD hS hl => lv_iadd C.1.1 C.1.2.1 hdg  (K H locs la hP hD hS hl)
theorem hv_isub (C : hv_C p s m args c cc nL D dA A H0 own Ts) {x y z : Int32} (hdg : decode cc pc = .ok (.isub, 1)) (hz : x - y = z) (K : hv_V p l e R s m args below meth c nL D A H0 Q ce sl (ws) (lv) (.int z :: st) (pc + 1)) : hv_V p l e R s m args below meth c nL D A H0 Q ce sl (ws) (lv) (.int y :: .int x :: st) (pc) := by
  subst hz
  exact fun H locs la hP hD hS hl => lv_isub C.1.1 C.1.2.1 hdg  (K H locs la hP hD hS hl)
theorem hv_imul (C : hv_C p s m args c cc nL D dA A H0 own Ts) {x y z : Int32} (hdg : decode cc pc = .ok (.imul, 1)) (hz : x * y = z) (K : hv_V p l e R s m args below meth c nL D A H0 Q ce sl (ws) (lv) (.int z :: st) (pc + 1)) : hv_V p l e R s m args below meth c nL D A H0 Q ce sl (ws) (lv) (.int y :: .int x :: st) (pc) := by
  subst hz
  exact fun H locs la hP hD hS hl => lv_imul C.1.1 C.1.2.1 hdg  (K H locs la hP hD hS hl)
theorem hv_iand (C : hv_C p s m args c cc nL D dA A H0 own Ts) {x y z : Int32} (hdg : decode cc pc = .ok (.iand, 1)) (hz : x &&& y = z) (K : hv_V p l e R s m args below meth c nL D A H0 Q ce sl (ws) (lv) (.int z :: st) (pc + 1)) : hv_V p l e R s m args below meth c nL D A H0 Q ce sl (ws) (lv) (.int y :: .int x :: st) (pc) := by
  subst hz
  exact fun H locs la hP hD hS hl => lv_iand C.1.1 C.1.2.1 hdg  (K H locs la hP hD hS hl)
theorem hv_ior (C : hv_C p s m args c cc nL D dA A H0 own Ts) {x y z : Int32} (hdg : decode cc pc = .ok (.ior, 1)) (hz : x ||| y = z) (K : hv_V p l e R s m args below meth c nL D A H0 Q ce sl (ws) (lv) (.int z :: st) (pc + 1)) : hv_V p l e R s m args below meth c nL D A H0 Q ce sl (ws) (lv) (.int y :: .int x :: st) (pc) := by
  subst hz
  exact fun H locs la hP hD hS hl => lv_ior C.1.1 C.1.2.1 hdg  (K H locs la hP hD hS hl)
theorem hv_ixor (C : hv_C p s m args c cc nL D dA A H0 own Ts) {x y z : Int32} (hdg : decode cc pc = .ok (.ixor, 1)) (hz : x ^^^ y = z) (K : hv_V p l e R s m args below meth c nL D A H0 Q ce sl (ws) (lv) (.int z :: st) (pc + 1)) : hv_V p l e R s m args below meth c nL D A H0 Q ce sl (ws) (lv) (.int y :: .int x :: st) (pc) := by
  subst hz
  exact fun H locs la hP hD hS hl => lv_ixor C.1.1 C.1.2.1 hdg  (K H locs la hP hD hS hl)
theorem hv_ladd (C : hv_C p s m args c cc nL D dA A H0 own Ts) {x y z : Int64} (hdg : decode cc pc = .ok (.ladd, 1)) (hz : x + y = z) (K : hv_V p l e R s m args below meth c nL D A H0 Q ce sl (ws) (lv) (.long z :: st) (pc + 1)) : hv_V p l e R s m args below meth c nL D A H0 Q ce sl (ws) (lv) (.long y :: .long x :: st) (pc) := by
  subst hz
  exact fun H locs la hP hD hS hl => lv_ladd C.1.1 C.1.2.1 hdg  (K H locs la hP hD hS hl)
theorem hv_lmul (C : hv_C p s m args c cc nL D dA A H0 own Ts) {x y z : Int64} (hdg : decode cc pc = .ok (.lmul, 1)) (hz : x * y = z) (K : hv_V p l e R s m args below meth c nL D A H0 Q ce sl (ws) (lv) (.long z :: st) (pc + 1)) : hv_V p l e R s m args below meth c nL D A H0 Q ce sl (ws) (lv) (.long y :: .long x :: st) (pc) := by
  subst hz
  exact fun H locs la hP hD hS hl => lv_lmul C.1.1 C.1.2.1 hdg  (K H locs la hP hD hS hl)
theorem hv_land (C : hv_C p s m args c cc nL D dA A H0 own Ts) {x y z : Int64} (hdg : decode cc pc = .ok (.land, 1)) (hz : x &&& y = z) (K : hv_V p l e R s m args below meth c nL D A H0 Q ce sl (ws) (lv) (.long z :: st) (pc + 1)) : hv_V p l e R s m args below meth c nL D A H0 Q ce sl (ws) (lv) (.long y :: .long x :: st) (pc) := by
  subst hz
  exact fun H locs la hP hD hS hl => lv_land C.1.1 C.1.2.1 hdg  (K H locs la hP hD hS hl)
theorem hv_lor (C : hv_C p s m args c cc nL D dA A H0 own Ts) {x y z : Int64} (hdg : decode cc pc = .ok (.lor, 1)) (hz : x ||| y = z) (K : hv_V p l e R s m args below meth c nL D A H0 Q ce sl (ws) (lv) (.long z :: st) (pc + 1)) : hv_V p l e R s m args below meth c nL D A H0 Q ce sl (ws) (lv) (.long y :: .long x :: st) (pc) := by
  subst hz
  exact fun H locs la hP hD hS hl => lv_lor C.1.1 C.1.2.1 hdg  (K H locs la hP hD hS hl)
theorem hv_lsubi (C : hv_C p s m args c cc nL D dA A H0 own Ts) {x y z : Int64} (hdg : decode cc pc = .ok (.lsub, 1)) (hz : x - y = z) (K : hv_V p l e R s m args below meth c nL D A H0 Q ce sl (ws) (lv) (.long z :: st) (pc + 1)) : hv_V p l e R s m args below meth c nL D A H0 Q ce sl (ws) (lv) (.long y :: .long x :: st) (pc) := by
  subst hz
  exact fun H locs la hP hD hS hl => lv_lsub C.1.1 C.1.2.1 hdg  (K H locs la hP hD hS hl)
theorem hv_idiv (C : hv_C p s m args c cc nL D dA A H0 own Ts) {x y z : Int32} (hdg : decode cc pc = .ok (.idiv, 1)) (hne : ¬ y = 0) (hz : x / y = z) (K : hv_V p l e R s m args below meth c nL D A H0 Q ce sl (ws) (lv) (.int z :: st) (pc + 1)) : hv_V p l e R s m args below meth c nL D A H0 Q ce sl (ws) (lv) (.int y :: .int x :: st) (pc) := by
  subst hz
  exact fun H locs la hP hD hS hl => lv_idiv C.1.1 C.1.2.1 hdg hne (K H locs la hP hD hS hl)
theorem hv_irem (C : hv_C p s m args c cc nL D dA A H0 own Ts) {x y z : Int32} (hdg : decode cc pc = .ok (.irem, 1)) (hne : ¬ y = 0) (hz : x - x / y * y = z) (K : hv_V p l e R s m args below meth c nL D A H0 Q ce sl (ws) (lv) (.int z :: st) (pc + 1)) : hv_V p l e R s m args below meth c nL D A H0 Q ce sl (ws) (lv) (.int y :: .int x :: st) (pc) := by
  subst hz
  exact fun H locs la hP hD hS hl => lv_irem C.1.1 C.1.2.1 hdg hne (K H locs la hP hD hS hl)
theorem hv_ldiv (C : hv_C p s m args c cc nL D dA A H0 own Ts) {x y z : Int64} (hdg : decode cc pc = .ok (.ldiv, 1)) (hne : ¬ y = 0) (hz : x / y = z) (K : hv_V p l e R s m args below meth c nL D A H0 Q ce sl (ws) (lv) (.long z :: st) (pc + 1)) : hv_V p l e R s m args below meth c nL D A H0 Q ce sl (ws) (lv) (.long y :: .long x :: st) (pc) := by
  subst hz
  exact fun H locs la hP hD hS hl => lv_ldiv C.1.1 C.1.2.1 hdg hne (K H locs la hP hD hS hl)
theorem hv_lrem (C : hv_C p s m args c cc nL D dA A H0 own Ts) {x y z : Int64} (hdg : decode cc pc = .ok (.lrem, 1)) (hne : ¬ y = 0) (hz : x - x / y * y = z) (K : hv_V p l e R s m args below meth c nL D A H0 Q ce sl (ws) (lv) (.long z :: st) (pc + 1)) : hv_V p l e R s m args below meth c nL D A H0 Q ce sl (ws) (lv) (.long y :: .long x :: st) (pc) := by
  subst hz
  exact fun H locs la hP hD hS hl => lv_lrem C.1.1 C.1.2.1 hdg hne (K H locs la hP hD hS hl)
theorem hv_ineg (C : hv_C p s m args c cc nL D dA A H0 own Ts) {x z : Int32} (hdg : decode cc pc = .ok (.ineg, 1)) (hz : -x = z) (K : hv_V p l e R s m args below meth c nL D A H0 Q ce sl (ws) (lv) (.int z :: st) (pc + 1)) : hv_V p l e R s m args below meth c nL D A H0 Q ce sl (ws) (lv) (.int x :: st) (pc) := by
  subst hz
  exact fun H locs la hP hD hS hl => lv_ineg C.1.1 C.1.2.1 hdg  (K H locs la hP hD hS hl)
theorem hv_ishl (C : hv_C p s m args c cc nL D dA A H0 own Ts) {x y z : Int32} (hdg : decode cc pc = .ok (.ishl, 1)) (hz : x <<< (y &&& 31) = z) (K : hv_V p l e R s m args below meth c nL D A H0 Q ce sl (ws) (lv) (.int z :: st) (pc + 1)) : hv_V p l e R s m args below meth c nL D A H0 Q ce sl (ws) (lv) (.int y :: .int x :: st) (pc) := by
  subst hz
  exact fun H locs la hP hD hS hl => lv_ishl C.1.1 C.1.2.1 hdg  (K H locs la hP hD hS hl)
theorem hv_ishr (C : hv_C p s m args c cc nL D dA A H0 own Ts) {x y z : Int32} (hdg : decode cc pc = .ok (.ishr, 1)) (hz : x >>> (y &&& 31) = z) (K : hv_V p l e R s m args below meth c nL D A H0 Q ce sl (ws) (lv) (.int z :: st) (pc + 1)) : hv_V p l e R s m args below meth c nL D A H0 Q ce sl (ws) (lv) (.int y :: .int x :: st) (pc) := by
  subst hz
  exact fun H locs la hP hD hS hl => lv_ishr C.1.1 C.1.2.1 hdg  (K H locs la hP hD hS hl)
theorem hv_i2l (C : hv_C p s m args c cc nL D dA A H0 own Ts) {x : Int32} {v : Int64} (hdg : decode cc pc = .ok (.i2l, 1)) (hv : x.toInt64 = v) (K : hv_V p l e R s m args below meth c nL D A H0 Q ce sl (ws) (lv) (.long v :: st) (pc + 1)) : hv_V p l e R s m args below meth c nL D A H0 Q ce sl (ws) (lv) (.int x :: st) (pc) := by
  exact fun H locs la hP hD hS hl => lv_i2l C.1.1 C.1.2.1 hdg hv (K H locs la hP hD hS hl)
theorem hv_l2i (C : hv_C p s m args c cc nL D dA A H0 own Ts) {x : Int64} {v : Int32} (hdg : decode cc pc = .ok (.l2i, 1)) (hv : x.toInt32 = v) (K : hv_V p l e R s m args below meth c nL D A H0 Q ce sl (ws) (lv) (.int v :: st) (pc + 1)) : hv_V p l e R s m args below meth c nL D A H0 Q ce sl (ws) (lv) (.long x :: st) (pc) := by
  exact fun H locs la hP hD hS hl => lv_l2i C.1.1 C.1.2.1 hdg hv (K H locs la hP hD hS hl)
theorem hv_i2b (C : hv_C p s m args c cc nL D dA A H0 own Ts) {x v : Int32} (hdg : decode cc pc = .ok (.i2b, 1)) (hv : x.toInt8.toInt32 = v) (K : hv_V p l e R s m args below meth c nL D A H0 Q ce sl (ws) (lv) (.int v :: st) (pc + 1)) : hv_V p l e R s m args below meth c nL D A H0 Q ce sl (ws) (lv) (.int x :: st) (pc) := by
  exact fun H locs la hP hD hS hl => lv_i2b C.1.1 C.1.2.1 hdg hv (K H locs la hP hD hS hl)
theorem hv_i2c (C : hv_C p s m args c cc nL D dA A H0 own Ts) {x v : Int32} (hdg : decode cc pc = .ok (.i2c, 1)) (hv : (x.toUInt32 % 65536).toInt32 = v) (K : hv_V p l e R s m args below meth c nL D A H0 Q ce sl (ws) (lv) (.int v :: st) (pc + 1)) : hv_V p l e R s m args below meth c nL D A H0 Q ce sl (ws) (lv) (.int x :: st) (pc) := by
  exact fun H locs la hP hD hS hl => lv_i2c C.1.1 C.1.2.1 hdg hv (K H locs la hP hD hS hl)
theorem hv_iushr (C : hv_C p s m args c cc nL D dA A H0 own Ts) {x y v : Int32} (hdg : decode cc pc = .ok (.iushr, 1)) (hv : (x.toUInt32 >>> (y.toUInt32 &&& Int32.toUInt32 31)).toInt32 = v) (K : hv_V p l e R s m args below meth c nL D A H0 Q ce sl (ws) (lv) (.int v :: st) (pc + 1)) : hv_V p l e R s m args below meth c nL D A H0 Q ce sl (ws) (lv) (.int y :: .int x :: st) (pc) := by
  exact fun H locs la hP hD hS hl => lv_iushr C.1.1 C.1.2.1 hdg hv (K H locs la hP hD hS hl)
theorem hv_lushr (C : hv_C p s m args c cc nL D dA A H0 own Ts) {x v : Int64} {y : Int32} (hdg : decode cc pc = .ok (.lushr, 1)) (hv : (x.toUInt64 >>> (y.toInt64.toUInt64 &&& Int64.toUInt64 63)).toInt64 = v) (K : hv_V p l e R s m args below meth c nL D A H0 Q ce sl (ws) (lv) (.long v :: st) (pc + 1)) : hv_V p l e R s m args below meth c nL D A H0 Q ce sl (ws) (lv) (.int y :: .long x :: st) (pc) := by
  exact fun H locs la hP hD hS hl => lv_lushr C.1.1 C.1.2.1 hdg hv (K H locs la hP hD hS hl)
theorem hv_lshl (C : hv_C p s m args c cc nL D dA A H0 own Ts) {x v : Int64} {y : Int32} (hdg : decode cc pc = .ok (.lshl, 1)) (hv : x <<< (y.toInt64 &&& 63) = v) (K : hv_V p l e R s m args below meth c nL D A H0 Q ce sl (ws) (lv) (.long v :: st) (pc + 1)) : hv_V p l e R s m args below meth c nL D A H0 Q ce sl (ws) (lv) (.int y :: .long x :: st) (pc) := by
  exact fun H locs la hP hD hS hl => lv_lshl C.1.1 C.1.2.1 hdg hv (K H locs la hP hD hS hl)
theorem hv_lcmp (C : hv_C p s m args c cc nL D dA A H0 own Ts) {x y : Int64} {z : Int32} (hdg : decode cc pc = .ok (.lcmp, 1)) (hz : lg_cmp x y = z) (K : hv_V p l e R s m args below meth c nL D A H0 Q ce sl (ws) (lv) (.int z :: st) (pc + 1)) : hv_V p l e R s m args below meth c nL D A H0 Q ce sl (ws) (lv) (.long y :: .long x :: st) (pc) := by
  subst hz
  exact fun H locs la hP hD hS hl => W.lcmp C.1.1 C.1.2.1 hdg  (K H locs la hP hD hS hl)
theorem hv_dup (C : hv_C p s m args c cc nL D dA A H0 own Ts) {va : Value} (hdg : decode cc pc = .ok (.dup, 1)) (hva : va.category = 1) (K : hv_V p l e R s m args below meth c nL D A H0 Q ce sl (ws) (lv) (va :: va :: st) (pc + 1)) : hv_V p l e R s m args below meth c nL D A H0 Q ce sl (ws) (lv) (va :: st) (pc) := by
  exact fun H locs la hP hD hS hl => lv_dup C.1.1 C.1.2.1 hdg hva (K H locs la hP hD hS hl)
theorem hv_pop (C : hv_C p s m args c cc nL D dA A H0 own Ts) {va : Value} (hdg : decode cc pc = .ok (.pop, 1)) (hva : va.category = 1) (K : hv_V p l e R s m args below meth c nL D A H0 Q ce sl (ws) (lv) (st) (pc + 1)) : hv_V p l e R s m args below meth c nL D A H0 Q ce sl (ws) (lv) (va :: st) (pc) := by
  exact fun H locs la hP hD hS hl => lv_pop C.1.1 C.1.2.1 hdg hva (K H locs la hP hD hS hl)
theorem hv_dup2_11 (C : hv_C p s m args c cc nL D dA A H0 own Ts) {va vb : Value} (hdg : decode cc pc = .ok (.dup2, 1)) (hva : va.category = 1) (hvb : vb.category = 1) (K : hv_V p l e R s m args below meth c nL D A H0 Q ce sl (ws) (lv) (va :: vb :: va :: vb :: st) (pc + 1)) : hv_V p l e R s m args below meth c nL D A H0 Q ce sl (ws) (lv) (va :: vb :: st) (pc) := by
  exact fun H locs la hP hD hS hl => lv_dup2_11 C.1.1 C.1.2.1 hdg hva hvb (K H locs la hP hD hS hl)
theorem hv_if_eq (C : hv_C p s m args c cc nL D dA A H0 own Ts) {x : Int32} {off : Int} {tgt : Nat} (hdg : decode cc pc = .ok (.ifCond .eq off, 3)) (ht : (pc : Int) + off = (tgt : Int)) {P : Prop} (hc : x = 0 ↔ P) (kt : P → hv_V p l e R s m args below meth c nL D A H0 Q ce sl (ws) (lv) (st) (tgt)) (kf : ¬ P → hv_V p l e R s m args below meth c nL D A H0 Q ce sl (ws) (lv) (st) (pc + 3)) : hv_V p l e R s m args below meth c nL D A H0 Q ce sl (ws) (lv) (.int x :: st) (pc) := by
  exact fun H locs la hP hD hS hl => lv_if_eq C.1.1 C.1.2.1 hdg ht (fun h => kt (hc.mp h) H locs la hP hD hS hl) (fun h => kf (fun g => h (hc.mpr g)) H locs la hP hD hS hl)
theorem hv_icmp_eq (C : hv_C p s m args c cc nL D dA A H0 own Ts) {x y : Int32} {off : Int} {tgt : Nat} (hdg : decode cc pc = .ok (.if_icmp .eq off, 3)) (ht : (pc : Int) + off = (tgt : Int)) {P : Prop} (hc : x = y ↔ P) (kt : P → hv_V p l e R s m args below meth c nL D A H0 Q ce sl (ws) (lv) (st) (tgt)) (kf : ¬ P → hv_V p l e R s m args below meth c nL D A H0 Q ce sl (ws) (lv) (st) (pc + 3)) : hv_V p l e R s m args below meth c nL D A H0 Q ce sl (ws) (lv) (.int y :: .int x :: st) (pc) := by
  exact fun H locs la hP hD hS hl => lv_icmp_eq C.1.1 C.1.2.1 hdg ht (fun h => kt (hc.mp h) H locs la hP hD hS hl) (fun h => kf (fun g => h (hc.mpr g)) H locs la hP hD hS hl)
theorem hv_if_ne (C : hv_C p s m args c cc nL D dA A H0 own Ts) {x : Int32} {off : Int} {tgt : Nat} (hdg : decode cc pc = .ok (.ifCond .ne off, 3)) (ht : (pc : Int) + off = (tgt : Int)) {P : Prop} (hc : ¬ x = 0 ↔ P) (kt : P → hv_V p l e R s m args below meth c nL D A H0 Q ce sl (ws) (lv) (st) (tgt)) (kf : ¬ P → hv_V p l e R s m args below meth c nL D A H0 Q ce sl (ws) (lv) (st) (pc + 3)) : hv_V p l e R s m args below meth c nL D A H0 Q ce sl (ws) (lv) (.int x :: st) (pc) := by
  exact fun H locs la hP hD hS hl => lv_if_ne C.1.1 C.1.2.1 hdg ht (fun h => kt (hc.mp h) H locs la hP hD hS hl) (fun h => kf (fun g => (hc.mpr g) h) H locs la hP hD hS hl)
theorem hv_icmp_ne (C : hv_C p s m args c cc nL D dA A H0 own Ts) {x y : Int32} {off : Int} {tgt : Nat} (hdg : decode cc pc = .ok (.if_icmp .ne off, 3)) (ht : (pc : Int) + off = (tgt : Int)) {P : Prop} (hc : ¬ x = y ↔ P) (kt : P → hv_V p l e R s m args below meth c nL D A H0 Q ce sl (ws) (lv) (st) (tgt)) (kf : ¬ P → hv_V p l e R s m args below meth c nL D A H0 Q ce sl (ws) (lv) (st) (pc + 3)) : hv_V p l e R s m args below meth c nL D A H0 Q ce sl (ws) (lv) (.int y :: .int x :: st) (pc) := by
  exact fun H locs la hP hD hS hl => lv_icmp_ne C.1.1 C.1.2.1 hdg ht (fun h => kt (hc.mp h) H locs la hP hD hS hl) (fun h => kf (fun g => (hc.mpr g) h) H locs la hP hD hS hl)
theorem hv_if_lt (C : hv_C p s m args c cc nL D dA A H0 own Ts) {x : Int32} {off : Int} {tgt : Nat} (hdg : decode cc pc = .ok (.ifCond .lt off, 3)) (ht : (pc : Int) + off = (tgt : Int)) {P : Prop} (hc : x < 0 ↔ P) (kt : P → hv_V p l e R s m args below meth c nL D A H0 Q ce sl (ws) (lv) (st) (tgt)) (kf : ¬ P → hv_V p l e R s m args below meth c nL D A H0 Q ce sl (ws) (lv) (st) (pc + 3)) : hv_V p l e R s m args below meth c nL D A H0 Q ce sl (ws) (lv) (.int x :: st) (pc) := by
  exact fun H locs la hP hD hS hl => lv_if_lt C.1.1 C.1.2.1 hdg ht (fun h => kt (hc.mp h) H locs la hP hD hS hl) (fun h => kf (fun g => h (hc.mpr g)) H locs la hP hD hS hl)
theorem hv_icmp_lt (C : hv_C p s m args c cc nL D dA A H0 own Ts) {x y : Int32} {off : Int} {tgt : Nat} (hdg : decode cc pc = .ok (.if_icmp .lt off, 3)) (ht : (pc : Int) + off = (tgt : Int)) {P : Prop} (hc : x < y ↔ P) (kt : P → hv_V p l e R s m args below meth c nL D A H0 Q ce sl (ws) (lv) (st) (tgt)) (kf : ¬ P → hv_V p l e R s m args below meth c nL D A H0 Q ce sl (ws) (lv) (st) (pc + 3)) : hv_V p l e R s m args below meth c nL D A H0 Q ce sl (ws) (lv) (.int y :: .int x :: st) (pc) := by
  exact fun H locs la hP hD hS hl => lv_icmp_lt C.1.1 C.1.2.1 hdg ht (fun h => kt (hc.mp h) H locs la hP hD hS hl) (fun h => kf (fun g => h (hc.mpr g)) H locs la hP hD hS hl)
theorem hv_if_ge (C : hv_C p s m args c cc nL D dA A H0 own Ts) {x : Int32} {off : Int} {tgt : Nat} (hdg : decode cc pc = .ok (.ifCond .ge off, 3)) (ht : (pc : Int) + off = (tgt : Int)) {P : Prop} (hc : 0 ≤ x ↔ P) (kt : P → hv_V p l e R s m args below meth c nL D A H0 Q ce sl (ws) (lv) (st) (tgt)) (kf : ¬ P → hv_V p l e R s m args below meth c nL D A H0 Q ce sl (ws) (lv) (st) (pc + 3)) : hv_V p l e R s m args below meth c nL D A H0 Q ce sl (ws) (lv) (.int x :: st) (pc) := by
  exact fun H locs la hP hD hS hl => lv_if_ge C.1.1 C.1.2.1 hdg ht (fun h => kt (hc.mp h) H locs la hP hD hS hl) (fun h => kf (fun g => h (hc.mpr g)) H locs la hP hD hS hl)
theorem hv_icmp_ge (C : hv_C p s m args c cc nL D dA A H0 own Ts) {x y : Int32} {off : Int} {tgt : Nat} (hdg : decode cc pc = .ok (.if_icmp .ge off, 3)) (ht : (pc : Int) + off = (tgt : Int)) {P : Prop} (hc : y ≤ x ↔ P) (kt : P → hv_V p l e R s m args below meth c nL D A H0 Q ce sl (ws) (lv) (st) (tgt)) (kf : ¬ P → hv_V p l e R s m args below meth c nL D A H0 Q ce sl (ws) (lv) (st) (pc + 3)) : hv_V p l e R s m args below meth c nL D A H0 Q ce sl (ws) (lv) (.int y :: .int x :: st) (pc) := by
  exact fun H locs la hP hD hS hl => lv_icmp_ge C.1.1 C.1.2.1 hdg ht (fun h => kt (hc.mp h) H locs la hP hD hS hl) (fun h => kf (fun g => h (hc.mpr g)) H locs la hP hD hS hl)
theorem hv_if_gt (C : hv_C p s m args c cc nL D dA A H0 own Ts) {x : Int32} {off : Int} {tgt : Nat} (hdg : decode cc pc = .ok (.ifCond .gt off, 3)) (ht : (pc : Int) + off = (tgt : Int)) {P : Prop} (hc : 0 < x ↔ P) (kt : P → hv_V p l e R s m args below meth c nL D A H0 Q ce sl (ws) (lv) (st) (tgt)) (kf : ¬ P → hv_V p l e R s m args below meth c nL D A H0 Q ce sl (ws) (lv) (st) (pc + 3)) : hv_V p l e R s m args below meth c nL D A H0 Q ce sl (ws) (lv) (.int x :: st) (pc) := by
  exact fun H locs la hP hD hS hl => lv_if_gt C.1.1 C.1.2.1 hdg ht (fun h => kt (hc.mp h) H locs la hP hD hS hl) (fun h => kf (fun g => h (hc.mpr g)) H locs la hP hD hS hl)
theorem hv_icmp_gt (C : hv_C p s m args c cc nL D dA A H0 own Ts) {x y : Int32} {off : Int} {tgt : Nat} (hdg : decode cc pc = .ok (.if_icmp .gt off, 3)) (ht : (pc : Int) + off = (tgt : Int)) {P : Prop} (hc : y < x ↔ P) (kt : P → hv_V p l e R s m args below meth c nL D A H0 Q ce sl (ws) (lv) (st) (tgt)) (kf : ¬ P → hv_V p l e R s m args below meth c nL D A H0 Q ce sl (ws) (lv) (st) (pc + 3)) : hv_V p l e R s m args below meth c nL D A H0 Q ce sl (ws) (lv) (.int y :: .int x :: st) (pc) := by
  exact fun H locs la hP hD hS hl => lv_icmp_gt C.1.1 C.1.2.1 hdg ht (fun h => kt (hc.mp h) H locs la hP hD hS hl) (fun h => kf (fun g => h (hc.mpr g)) H locs la hP hD hS hl)
theorem hv_if_le (C : hv_C p s m args c cc nL D dA A H0 own Ts) {x : Int32} {off : Int} {tgt : Nat} (hdg : decode cc pc = .ok (.ifCond .le off, 3)) (ht : (pc : Int) + off = (tgt : Int)) {P : Prop} (hc : x ≤ 0 ↔ P) (kt : P → hv_V p l e R s m args below meth c nL D A H0 Q ce sl (ws) (lv) (st) (tgt)) (kf : ¬ P → hv_V p l e R s m args below meth c nL D A H0 Q ce sl (ws) (lv) (st) (pc + 3)) : hv_V p l e R s m args below meth c nL D A H0 Q ce sl (ws) (lv) (.int x :: st) (pc) := by
  exact fun H locs la hP hD hS hl => lv_if_le C.1.1 C.1.2.1 hdg ht (fun h => kt (hc.mp h) H locs la hP hD hS hl) (fun h => kf (fun g => h (hc.mpr g)) H locs la hP hD hS hl)
theorem hv_icmp_le (C : hv_C p s m args c cc nL D dA A H0 own Ts) {x y : Int32} {off : Int} {tgt : Nat} (hdg : decode cc pc = .ok (.if_icmp .le off, 3)) (ht : (pc : Int) + off = (tgt : Int)) {P : Prop} (hc : x ≤ y ↔ P) (kt : P → hv_V p l e R s m args below meth c nL D A H0 Q ce sl (ws) (lv) (st) (tgt)) (kf : ¬ P → hv_V p l e R s m args below meth c nL D A H0 Q ce sl (ws) (lv) (st) (pc + 3)) : hv_V p l e R s m args below meth c nL D A H0 Q ce sl (ws) (lv) (.int y :: .int x :: st) (pc) := by
  exact fun H locs la hP hD hS hl => lv_icmp_le C.1.1 C.1.2.1 hdg ht (fun h => kt (hc.mp h) H locs la hP hD hS hl) (fun h => kf (fun g => h (hc.mpr g)) H locs la hP hD hS hl)
theorem hv_goto (C : hv_C p s m args c cc nL D dA A H0 own Ts) {off : Int} {tgt : Nat} (hdg : decode cc pc = .ok (.goto off, 3)) (ht : (pc : Int) + off = (tgt : Int)) (K : hv_V p l e R s m args below meth c nL D A H0 Q ce sl (ws) (lv) (st) (tgt)) : hv_V p l e R s m args below meth c nL D A H0 Q ce sl (ws) (lv) (st) (pc) :=
  fun H locs la hP hD hS hl => lv_goto C.1.1 C.1.2.1 hdg ht (K H locs la hP hD hS hl)
theorem hv_ifnonnull (C : hv_C p s m args c cc nL D dA A H0 own Ts) {x : Nat} {off : Int} {tgt : Nat} (hdg : decode cc pc = .ok (.ifnonnull off, 3)) (ht : (pc : Int) + off = (tgt : Int)) (K : hv_V p l e R s m args below meth c nL D A H0 Q ce sl (ws) (lv) (st) (tgt)) : hv_V p l e R s m args below meth c nL D A H0 Q ce sl (ws) (lv) (.ref x :: st) (pc) :=
  fun H locs la hP hD hS hl => lv_ifnonnull C.1.1 C.1.2.1 hdg ht (K H locs la hP hD hS hl)
theorem hv_ifnull (C : hv_C p s m args c cc nL D dA A H0 own Ts) {x : Nat} {off : Int} {tgt : Nat} (hdg : decode cc pc = .ok (.ifnull off, 3)) (ht : (pc : Int) + off = (tgt : Int)) (K : hv_V p l e R s m args below meth c nL D A H0 Q ce sl (ws) (lv) (st) (pc + 3)) : hv_V p l e R s m args below meth c nL D A H0 Q ce sl (ws) (lv) (.ref x :: st) (pc) :=
  fun H locs la hP hD hS hl => lv_ifnull C.1.1 C.1.2.1 hdg (K H locs la hP hD hS hl)
theorem hv_ifnullN (C : hv_C p s m args c cc nL D dA A H0 own Ts) {off : Int} {tgt : Nat} (hdg : decode cc pc = .ok (.ifnull off, 3)) (ht : (pc : Int) + off = (tgt : Int)) (K : hv_V p l e R s m args below meth c nL D A H0 Q ce sl (ws) (lv) (st) (tgt)) : hv_V p l e R s m args below meth c nL D A H0 Q ce sl (ws) (lv) (.null :: st) (pc) :=
  fun H locs la hP hD hS hl => lv_ifnullN C.1.1 C.1.2.1 hdg ht (K H locs la hP hD hS hl)
theorem hv_ifnonnullN (C : hv_C p s m args c cc nL D dA A H0 own Ts) {off : Int} {tgt : Nat} (hdg : decode cc pc = .ok (.ifnonnull off, 3)) (ht : (pc : Int) + off = (tgt : Int)) (K : hv_V p l e R s m args below meth c nL D A H0 Q ce sl (ws) (lv) (st) (pc + 3)) : hv_V p l e R s m args below meth c nL D A H0 Q ce sl (ws) (lv) (.null :: st) (pc) :=
  fun H locs la hP hD hS hl => lv_ifnonnullN C.1.1 C.1.2.1 hdg (K H locs la hP hD hS hl)
theorem hv_null (C : hv_C p s m args c cc nL D dA A H0 own Ts) (hdg : decode cc pc = .ok (.aconst_null, 1)) (K : hv_V p l e R s m args below meth c nL D A H0 Q ce sl (ws) (lv) (.null :: st) (pc + 1)) : hv_V p l e R s m args below meth c nL D A H0 Q ce sl (ws) (lv) (st) (pc) :=
  fun H locs la hP hD hS hl => lv_null C.1.1 C.1.2.1 hdg (K H locs la hP hD hS hl)
theorem hv_lookup (C : hv_C p s m args c cc nL D dA A H0 own Ts) {dflt : Int} {ps : Array (Int × Int)} {len : Nat} {x : Int32} {off : Int} {tgt : Nat} (hdg : decode cc pc = .ok (.lookupswitch dflt ps, len)) (hp : (ps.toList.zip (ps.toList.drop 1)).all (fun (a, next) => a.1 < next.1) = true) (ho : Op.lookupswitch.offset ps.toList dflt x.toInt = off) (ht : (pc : Int) + off = (tgt : Int)) (K : hv_V p l e R s m args below meth c nL D A H0 Q ce sl (ws) (lv) (st) (tgt)) : hv_V p l e R s m args below meth c nL D A H0 Q ce sl (ws) (lv) (.int x :: st) (pc) :=
  fun H locs la hP hD hS hl => lv_lookup C.1.1 C.1.2.1 hdg hp ho ht (K H locs la hP hD hS hl)
theorem hv_tabOut (C : hv_C p s m args c cc nL D dA A H0 own Ts) {dflt lo hi : Int} {offs : Array Int} {len : Nat} {x : Int32} {tgt : Nat} (hdg : decode cc pc = .ok (.tableswitch dflt lo hi offs, len)) (h : x.toInt < lo ∨ hi < x.toInt) (ht : (pc : Int) + dflt = (tgt : Int)) (K : hv_V p l e R s m args below meth c nL D A H0 Q ce sl (ws) (lv) (st) (tgt)) : hv_V p l e R s m args below meth c nL D A H0 Q ce sl (ws) (lv) (.int x :: st) (pc) :=
  fun H locs la hP hD hS hl => lv_tableOut C.1.1 C.1.2.1 hdg h ht (K H locs la hP hD hS hl)
theorem hv_tabIn (C : hv_C p s m args c cc nL D dA A H0 own Ts) {dflt lo hi : Int} {offs : Array Int} {len : Nat} {x : Int32} {off : Int} {tgt : Nat} (hdg : decode cc pc = .ok (.tableswitch dflt lo hi offs, len)) (h1 : ¬ x.toInt < lo) (h2 : ¬ hi < x.toInt) (ho : offs[(x.toInt - lo).toNat]? = some off) (ht : (pc : Int) + off = (tgt : Int)) (K : hv_V p l e R s m args below meth c nL D A H0 Q ce sl (ws) (lv) (st) (tgt)) : hv_V p l e R s m args below meth c nL D A H0 Q ce sl (ws) (lv) (.int x :: st) (pc) :=
  fun H locs la hP hD hS hl => lv_tableIn C.1.1 C.1.2.1 hdg h1 h2 ho ht (K H locs la hP hD hS hl)
theorem hv_ldc (C : hv_C p s m args c cc nL D dA A H0 own Ts) {index : Nat} {v : Int32} (hdg : decode cc pc = .ok (.ldc index, 2)) (hw : Jvm.Cond.constant own index v ∈ Ts) (K : hv_V p l e R s m args below meth c nL D A H0 Q ce sl (ws) (lv) (.int v :: st) (pc + 2)) : hv_V p l e R s m args below meth c nL D A H0 Q ce sl (ws) (lv) (st) (pc) :=
  fun H locs la hP hD hS hl => lv_ldc C.1.1 C.1.2.1 C.1.2.2.2.1 (C.1.2.2.2.2 _ hw) hdg (K H locs la hP hD hS hl)
theorem hv_ldcw (C : hv_C p s m args c cc nL D dA A H0 own Ts) {index : Nat} {v : Int32} (hdg : decode cc pc = .ok (.ldc_w index, 3)) (hw : Jvm.Cond.constant own index v ∈ Ts) (K : hv_V p l e R s m args below meth c nL D A H0 Q ce sl (ws) (lv) (.int v :: st) (pc + 3)) : hv_V p l e R s m args below meth c nL D A H0 Q ce sl (ws) (lv) (st) (pc) :=
  fun H locs la hP hD hS hl => lv_ldcw C.1.1 C.1.2.1 C.1.2.2.2.1 (C.1.2.2.2.2 _ hw) hdg (K H locs la hP hD hS hl)
theorem hv_ldc2 (C : hv_C p s m args c cc nL D dA A H0 own Ts) {index : Nat} {v : Int64} (hdg : decode cc pc = .ok (.ldc2_w index, 3)) (hw : Jvm.Cond.constantLong own index v ∈ Ts) (K : hv_V p l e R s m args below meth c nL D A H0 Q ce sl (ws) (lv) (.long v :: st) (pc + 3)) : hv_V p l e R s m args below meth c nL D A H0 Q ce sl (ws) (lv) (st) (pc) :=
  fun H locs la hP hD hS hl => lv_ldc2 C.1.1 C.1.2.1 C.1.2.2.2.1 (C.1.2.2.2.2 _ hw) hdg (K H locs la hP hD hS hl)
theorem hv_get (C : hv_C p s m args c cc nL D dA A H0 own Ts) {Cn : String} {T : u_T} {N ci index : Nat} {a : Nat} {fs : List Value} {v : Value} (hdg : decode cc pc = .ok (.getfield index, 3)) (hin : ∀ w ∈ u_ws Cn T N, w ∈ Ts) (q0 : Nat) (he : ws[q0]? = some (a, .inr (ci, fs))) (hc : vwCl[ci]? = some (Cn, T, N)) (k : Nat) (hk : k < N) (hlink : Cond.fieldLink own index (T k).1 (T k).2.1 (T k).2.2.1 ∈ Ts) (hv : fs[k]? = some v) (K : hv_V p l e R s m args below meth c nL D A H0 Q ce sl (ws) (lv) (v :: st) (pc + 3)) : hv_V p l e R s m args below meth c nL D A H0 Q ce sl (ws) (lv) (.ref a :: st) (pc) :=
  fun H locs la hP hD hS hl => va_get (D := D) C.1.1 C.1.2.1 C.1.2.2.2.2 hin C.1.2.2.2.1 C.2.1 hP q0 he hc k hk (C.1.2.2.2.2 _ hlink) (fun _ h9 => h9) hv hdg (K H locs la hP hD hS hl)
theorem hv_put (C : hv_C p s m args c cc nL D dA A H0 own Ts) {Cn : String} {T : u_T} {N ci index : Nat} {a : Nat} {fs : List Value} {v : Value} {ty : FieldType} (hdg : decode cc pc = .ok (.putfield index, 3)) (hin : ∀ w ∈ u_ws Cn T N, w ∈ Ts) (ty0 : Nat → FieldType) (hty : ∀ k, k < N → parseFieldDescriptor (T k).2.2.1 = some (ty0 k)) (hnm : ∀ a, a < N → ∀ b, b < N → a ≠ b → (T a).2.1 ≠ (T b).2.1) (q0 : Nat) (he : ws[q0]? = some (a, .inr (ci, fs))) (hc : vwCl[ci]? = some (Cn, T, N)) (k : Nat) (hk : k < N) (hlink : Cond.fieldLink own index (T k).1 (T k).2.1 (T k).2.2.1 ∈ Ts) (hfin : (T k).2.2.2 = false) (hd : ty0 k = ty) (hn : narrow ty v = v) (hfit : fits ty v = true) (hlf : k < fs.length) (K : hv_V p l e R s m args below meth c nL D A H0 Q ce sl (ws.set q0 (a, .inr (ci, fs.set k v))) (lv) (st) (pc + 3)) : hv_V p l e R s m args below meth c nL D A H0 Q ce sl (ws) (lv) (v :: .ref a :: st) (pc) :=
  fun H locs la hP hD hS hl => va_put (D := D) C.1.1 C.1.2.1 C.1.2.2.2.2 hin ty0 hty hnm C.1.2.2.2.1 C.2.1 hP hD hS q0 he hc k hk (C.1.2.2.2.2 _ hlink) (fun _ h9 => h9) hfin (hd ▸ hty k hk) hn hfit hlf hdg (fun H locs hP hD hS => K H locs la hP hD hS hl)
theorem hv_putF (C : hv_C p s m args c cc nL D dA A H0 own Ts) {Cn : String} {T : u_T} {N ci index : Nat} {a : Nat} {fs : List Value} {v : Value} {ty : FieldType} (hdg : decode cc pc = .ok (.putfield index, 3)) (hin : ∀ w ∈ u_ws Cn T N, w ∈ Ts) (ty0 : Nat → FieldType) (hty : ∀ k, k < N → parseFieldDescriptor (T k).2.2.1 = some (ty0 k)) (hnm : ∀ a, a < N → ∀ b, b < N → a ≠ b → (T a).2.1 ≠ (T b).2.1) (q0 : Nat) (he : ws[q0]? = some (a, .inr (ci, fs))) (hc : vwCl[ci]? = some (Cn, T, N)) (k : Nat) (hk : k < N) (hlink : Cond.fieldLink own index (T k).1 (T k).2.1 (T k).2.2.1 ∈ Ts) (hfin : (T k).2.2.2 = true) (hin2 : meth.name = "<init>") (hdecl : (T k).1 = own) (hd : ty0 k = ty) (hn : narrow ty v = v) (hfit : fits ty v = true) (hlf : k < fs.length) (K : hv_V p l e R s m args below meth c nL D A H0 Q ce sl (ws.set q0 (a, .inr (ci, fs.set k v))) (lv) (st) (pc + 3)) : hv_V p l e R s m args below meth c nL D A H0 Q ce sl (ws) (lv) (v :: .ref a :: st) (pc) :=
  fun H locs la hP hD hS hl => va_putF (D := D) C.1.1 C.1.2.1 C.1.2.2.2.2 hin ty0 hty hnm C.1.2.2.2.1 C.2.1 hP hD hS q0 he hc k hk (C.1.2.2.2.2 _ hlink) (fun _ h9 => h9) hfin hin2 hdecl (hd ▸ hty k hk) hn hfit hlf hdg (fun H locs hP hD hS => K H locs la hP hD hS hl)
theorem hv_getN (C : hv_C p s m args c cc nL D dA A H0 own Ts) {Cn : String} {T : u_T} {N ci index : Nat} {host : String} {a : Nat} {fs : List Value} {v : Value} (hdg : decode cc pc = .ok (.getfield index, 3)) (hin : ∀ w ∈ u_ws Cn T N, w ∈ Ts) (q0 : Nat) (he : ws[q0]? = some (a, .inr (ci, fs))) (hc : vwCl[ci]? = some (Cn, T, N)) (k : Nat) (hk : k < N) (hnst : (own, index, (T k).1, (T k).2.1, (T k).2.2.1, host) ∈ hw_NF) (hv : fs[k]? = some v) (K : hv_V p l e R s m args below meth c nL D A H0 Q ce sl (ws) (lv) (v :: st) (pc + 3)) : hv_V p l e R s m args below meth c nL D A H0 Q ce sl (ws) (lv) (.ref a :: st) (pc) :=
  fun H locs la hP hD hS hl => va_getN (D := D) C.1.1 C.1.2.1 C.1.2.2.2.2 hin C.1.2.2.2.1 C.2.1 hP q0 he hc k hk (va_Nw.use rfl (C.2.2.2.1 _ hnst)) (fun _ h9 => h9) hv hdg (K H locs la hP hD hS hl)
theorem hv_putN (C : hv_C p s m args c cc nL D dA A H0 own Ts) {Cn : String} {T : u_T} {N ci index : Nat} {host : String} {a : Nat} {fs : List Value} {v : Value} {ty : FieldType} (hdg : decode cc pc = .ok (.putfield index, 3)) (hin : ∀ w ∈ u_ws Cn T N, w ∈ Ts) (ty0 : Nat → FieldType) (hty : ∀ k, k < N → parseFieldDescriptor (T k).2.2.1 = some (ty0 k)) (hnm : ∀ a, a < N → ∀ b, b < N → a ≠ b → (T a).2.1 ≠ (T b).2.1) (q0 : Nat) (he : ws[q0]? = some (a, .inr (ci, fs))) (hc : vwCl[ci]? = some (Cn, T, N)) (k : Nat) (hk : k < N) (hnst : (own, index, (T k).1, (T k).2.1, (T k).2.2.1, host) ∈ hw_NF) (hfin : (T k).2.2.2 = false) (hd : ty0 k = ty) (hn : narrow ty v = v) (hfit : fits ty v = true) (hlf : k < fs.length) (K : hv_V p l e R s m args below meth c nL D A H0 Q ce sl (ws.set q0 (a, .inr (ci, fs.set k v))) (lv) (st) (pc + 3)) : hv_V p l e R s m args below meth c nL D A H0 Q ce sl (ws) (lv) (v :: .ref a :: st) (pc) :=
  fun H locs la hP hD hS hl => va_putN (D := D) C.1.1 C.1.2.1 C.1.2.2.2.2 hin ty0 hty hnm C.1.2.2.2.1 C.2.1 hP hD hS q0 he hc k hk (va_Nw.use rfl (C.2.2.2.1 _ hnst)) (fun _ h9 => h9) hfin (hd ▸ hty k hk) hn hfit hlf hdg (fun H locs hP hD hS => K H locs la hP hD hS hl)
theorem hv_iald (C : hv_C p s m args c cc nL D dA A H0 own Ts) {a n : Nat} {f : Nat → Int32} {i : Int32} {v : Int32} (hdg : decode cc pc = .ok (.iaload, 1)) (q0 : Nat) (ha : ws[q0]? = some (a, .inl (dA 0, n, .inl f))) (j : Nat) (hi : i = nI j) (hj : j < n) (hn : n < 2 ^ 31) (hv : f j = v) (K : hv_V p l e R s m args below meth c nL D A H0 Q ce sl (ws) (lv) (.int v :: st) (pc + 1)) : hv_V p l e R s m args below meth c nL D A H0 Q ce sl (ws) (lv) (.int i :: .ref a :: st) (pc) := by
  subst hi; subst hv
  intro H locs la hP hD hS hl
  refine va_iald (D := D) C.1.1 C.1.2.1 C.2.1 hP q0 0 ha rfl (vp_in_nI hj hn) hdg ?_
  rw [nI_clamp (by omega)]
  exact K H locs la hP hD hS hl
theorem hv_bald (C : hv_C p s m args c cc nL D dA A H0 own Ts) {a n : Nat} {f : Nat → Int32} {i : Int32} {v : Int32} (hdg : decode cc pc = .ok (.baload, 1)) (q0 : Nat) (ha : ws[q0]? = some (a, .inl (dA 1, n, .inl f))) (j : Nat) (hi : i = nI j) (hj : j < n) (hn : n < 2 ^ 31) (hv : f j = v) (K : hv_V p l e R s m args below meth c nL D A H0 Q ce sl (ws) (lv) (.int v :: st) (pc + 1)) : hv_V p l e R s m args below meth c nL D A H0 Q ce sl (ws) (lv) (.int i :: .ref a :: st) (pc) := by
  subst hi; subst hv
  intro H locs la hP hD hS hl
  refine va_bald (D := D) C.1.1 C.1.2.1 C.2.1 hP q0 1 ha rfl (vp_in_nI hj hn) hdg ?_
  rw [nI_clamp (by omega)]
  exact K H locs la hP hD hS hl
theorem hv_cald (C : hv_C p s m args c cc nL D dA A H0 own Ts) {a n : Nat} {f : Nat → Int32} {i : Int32} {v : Int32} (hdg : decode cc pc = .ok (.caload, 1)) (q0 : Nat) (ha : ws[q0]? = some (a, .inl (dA 2, n, .inl f))) (j : Nat) (hi : i = nI j) (hj : j < n) (hn : n < 2 ^ 31) (hv : f j = v) (K : hv_V p l e R s m args below meth c nL D A H0 Q ce sl (ws) (lv) (.int v :: st) (pc + 1)) : hv_V p l e R s m args below meth c nL D A H0 Q ce sl (ws) (lv) (.int i :: .ref a :: st) (pc) := by
  subst hi; subst hv
  intro H locs la hP hD hS hl
  refine va_cald (D := D) C.1.1 C.1.2.1 C.2.1 hP q0 2 ha rfl (vp_in_nI hj hn) hdg ?_
  rw [nI_clamp (by omega)]
  exact K H locs la hP hD hS hl
theorem hv_iast (C : hv_C p s m args c cc nL D dA A H0 own Ts) {a n : Nat} {f : Nat → Int32} {i : Int32} {x : Int32} (hdg : decode cc pc = .ok (.iastore, 1)) (q0 : Nat) (ha : ws[q0]? = some (a, .inl (dA 0, n, .inl f))) (j : Nat) (hi : i = nI j) (hj : j < n) (hn : n < 2 ^ 31) (K : hv_V p l e R s m args below meth c nL D A H0 Q ce sl (ws.set q0 (a, .inl (dA 0, n, .inl (upd f j x)))) (lv) (st) (pc + 1)) : hv_V p l e R s m args below meth c nL D A H0 Q ce sl (ws) (lv) (.int x :: .int i :: .ref a :: st) (pc) := by
  subst hi
  intro H locs la hP hD hS hl
  refine va_iast (D := D) C.1.1 C.1.2.1 C.2.1 hP hD hS q0 0 ha rfl (vp_in_nI hj hn) hdg (fun H locs hP hD hS => ?_)
  rw [nI_clamp (by omega)] at hP hD
  exact K H locs la hP hD hS hl
theorem hv_bast (C : hv_C p s m args c cc nL D dA A H0 own Ts) {a n : Nat} {f : Nat → Int32} {i : Int32} {x : Int32} {y : Int32} (hdg : decode cc pc = .ok (.bastore, 1)) (q0 : Nat) (ha : ws[q0]? = some (a, .inl (dA 1, n, .inl f))) (j : Nat) (hi : i = nI j) (hj : j < n) (hn : n < 2 ^ 31) (hy : vp_nar .byte x = y) (K : hv_V p l e R s m args below meth c nL D A H0 Q ce sl (ws.set q0 (a, .inl (dA 1, n, .inl (upd f j y)))) (lv) (st) (pc + 1)) : hv_V p l e R s m args below meth c nL D A H0 Q ce sl (ws) (lv) (.int x :: .int i :: .ref a :: st) (pc) := by
  subst hi
  subst hy
  intro H locs la hP hD hS hl
  refine va_bast (D := D) C.1.1 C.1.2.1 C.2.1 hP hD hS q0 1 ha rfl (vp_in_nI hj hn) hdg (fun H locs hP hD hS => ?_)
  rw [nI_clamp (by omega)] at hP hD
  exact K H locs la hP hD hS hl
theorem hv_cast (C : hv_C p s m args c cc nL D dA A H0 own Ts) {a n : Nat} {f : Nat → Int32} {i : Int32} {x : Int32} {y : Int32} (hdg : decode cc pc = .ok (.castore, 1)) (q0 : Nat) (ha : ws[q0]? = some (a, .inl (dA 2, n, .inl f))) (j : Nat) (hi : i = nI j) (hj : j < n) (hn : n < 2 ^ 31) (hy : vp_nar .char x = y) (K : hv_V p l e R s m args below meth c nL D A H0 Q ce sl (ws.set q0 (a, .inl (dA 2, n, .inl (upd f j y)))) (lv) (st) (pc + 1)) : hv_V p l e R s m args below meth c nL D A H0 Q ce sl (ws) (lv) (.int x :: .int i :: .ref a :: st) (pc) := by
  subst hi
  subst hy
  intro H locs la hP hD hS hl
  refine va_cast (D := D) C.1.1 C.1.2.1 C.2.1 hP hD hS q0 2 ha rfl (vp_in_nI hj hn) hdg (fun H locs hP hD hS => ?_)
  rw [nI_clamp (by omega)] at hP hD
  exact K H locs la hP hD hS hl
theorem hv_alen (C : hv_C p s m args c cc nL D dA A H0 own Ts) {a : Nat} {x : vp_A} (t0 : Nat) {cA : ClassId} {ty : FieldType} {v : Int32} (hdg : decode cc pc = .ok (.arraylength, 1)) (q0 : Nat) (ha : ws[q0]? = some (a, .inl (cA, x))) (ht : (hv_tys dA)[t0]? = some (cA, ty)) (hv : Int32.ofNat x.1 = v) (K : hv_V p l e R s m args below meth c nL D A H0 Q ce sl (ws) (lv) (.int v :: st) (pc + 1)) : hv_V p l e R s m args below meth c nL D A H0 Q ce sl (ws) (lv) (.ref a :: st) (pc) :=
  fun H locs la hP hD hS hl => va_alen (D := D) C.1.1 C.1.2.1 C.2.1 hP q0 t0 ha ht hv hdg (K H locs la hP hD hS hl)
end HVL
