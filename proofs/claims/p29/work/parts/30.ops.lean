/-! worlds with pools, for calls -/
theorem hv_tk {X A B P : va_W} (is : List Nat) (h : hv_rmv X is = A ++ B) : (X ++ P).Perm ((A ++ P) ++ B) := by
  have h1 : X.Perm (A ++ B) := h ▸ hv_rmvp is X
  refine (List.Perm.append_right P h1).trans ?_
  rw [List.append_assoc, List.append_assoc]
  exact List.Perm.append_left A List.perm_append_comm
theorem hv_bk {A Y T B : va_W} : ((A ++ (Y ++ T)) ++ B).Perm (((A ++ Y) ++ B) ++ T) := by
  rw [← List.append_assoc A Y T, List.append_assoc (A ++ Y) T B, List.append_assoc (A ++ Y) B T]
  exact List.Perm.append_left _ List.perm_append_comm
theorem hv_bk0 {A T B : va_W} : ((A ++ T) ++ B).Perm ((A ++ B) ++ T) := by
  rw [List.append_assoc, List.append_assoc]
  exact List.Perm.append_left _ List.perm_append_comm
theorem hv_flat {Ps Q : List va_W} {P : va_W} (k : Nat) (h2 : Ps[k]? = some P) (h3 : Ps.eraseIdx k = Q) : Ps.flatten.Perm (P ++ Q.flatten) := by
  have h := (hv_eraP k Ps P h2).flatten
  rw [h3, List.flatten_cons] at h
  exact h
theorem hv_pool {X A B P : va_W} {Ps Q : List va_W} (is : List Nat) (k : Nat) (h1 : hv_rmv X is = A ++ B) (h2 : Ps[k]? = some P) (h3 : Ps.eraseIdx k = Q) : (X ++ Ps.flatten).Perm ((A ++ P) ++ (B ++ Q.flatten)) := by
  have e1 : X.Perm (A ++ B) := h1 ▸ hv_rmvp is X
  refine (e1.append (hv_flat k h2 h3)).trans ?_
  rw [List.append_assoc, List.append_assoc]
  refine List.Perm.append_left A ?_
  rw [← List.append_assoc, ← List.append_assoc]
  exact List.Perm.append_right _ List.perm_append_comm
theorem hv_unpool {A B P : va_W} {Ps Q : List va_W} (k : Nat) (h2 : Ps[k]? = some P) (h3 : Ps.eraseIdx k = Q) : ((A ++ P) ++ (B ++ Q.flatten)).Perm ((A ++ B) ++ Ps.flatten) :=
  (hv_pool (X := A ++ B) [] k (by rw [hv_rmv]) h2 h3).symm
/-- one place of a pool among pools, taken out and put back -/
theorem hv_plx {X Y : va_W} {Ps Ps' : List va_W} {n j : Nat} {F : Nat → va_W} (k : Nat) (hj : j < n) (hF : F j = Y) (h2 : Ps[k]? = some (pl_all n F)) (h3 : Ps'[k]? = some (pl_but n j F)) (h4 : Ps'.eraseIdx k = Ps.eraseIdx k) : (X ++ Ps.flatten).Perm ((X ++ Y) ++ Ps'.flatten) := by
  rw [List.append_assoc]
  refine List.Perm.append_left X ?_
  refine (hv_flat k h2 rfl).trans (((pl_out hj).append_right _).trans ?_)
  rw [hF, List.append_assoc]
  exact List.Perm.append_left Y (hv_flat k h3 h4).symm
theorem hv_plr {X Y : va_W} {Ps Ps' : List va_W} {n j : Nat} {F F' : Nat → va_W} (k : Nat) (hj : j < n) (hF : F' j = Y) (hc : ∀ i, i < n → i ≠ j → F' i = F i) (h2 : Ps[k]? = some (pl_but n j F)) (h3 : Ps'[k]? = some (pl_all n F')) (h4 : Ps'.eraseIdx k = Ps.eraseIdx k) : ((X ++ Y) ++ Ps.flatten).Perm (X ++ Ps'.flatten) :=
  (hv_plx k hj hF h3 (by rw [h2, pl_cong hc]) h4.symm).symm
/-! states of a garden, by twelve numbers: what each operation makes of them -/
def gS (g : Nat → Int) : Nat := (g 0).toNat
def gH (g : Nat → Int) : Nat := (g 1).toNat
def gW (g : Nat → Int) : Nat := (g 2).toNat
def gT (g : Nat → Int) : Nat := (g 3).toNat
def gR (g : Nat → Int) : Nat := (g 5).toNat
def WF (g : Nat → Int) : Prop := (2 ≤ g 0 ∧ g 0 ≤ 6) ∧ (0 ≤ g 1 ∧ gH g < 4 ^ gS g) ∧ (0 ≤ g 2 ∧ g 2 < 3) ∧ (0 ≤ g 3 ∧ g 3 < 2) ∧ (1 ≤ g 4 ∧ g 4 ≤ 9) ∧ (1 ≤ g 5 ∧ g 5 ≤ 3)
theorem WF.e0 {g : Nat → Int} (h : WF g) : g 0 = (gS g : Int) := by have := h.1; unfold gS; omega
theorem WF.e1 {g : Nat → Int} (h : WF g) : g 1 = (gH g : Int) := by have := h.2.1; unfold gH at *; omega
theorem WF.e2 {g : Nat → Int} (h : WF g) : g 2 = (gW g : Int) := by have := h.2.2.1; unfold gW; omega
theorem WF.e3 {g : Nat → Int} (h : WF g) : g 3 = (gT g : Int) := by have := h.2.2.2.1; unfold gT; omega
theorem WF.e5 {g : Nat → Int} (h : WF g) : g 5 = (gR g : Int) := by have := h.2.2.2.2.2; unfold gR; omega
theorem WF.S {g : Nat → Int} (h : WF g) : 2 ≤ gS g ∧ gS g ≤ 6 := by have := h.1; unfold gS; omega
theorem WF.W {g : Nat → Int} (h : WF g) : gW g < 3 := by have := h.2.2.1; unfold gW; omega
theorem WF.T {g : Nat → Int} (h : WF g) : gT g < 2 := by have := h.2.2.2.1; unfold gT; omega
theorem WF.R {g : Nat → Int} (h : WF g) : 1 ≤ gR g ∧ gR g ≤ 3 := by have := h.2.2.2.2.2; unfold gR; omega
theorem WF.H {g : Nat → Int} (h : WF g) : gH g < 4 ^ gS g := h.2.1.2
theorem WF.x {g : Nat → Int} (h : WF g) : gH g < 4096 := sp_hlt h.S.2 h.H
def ox_clip (g : Nat → Int) (c : Nat) : Nat → Int := sp_do g (gH g) (sp_bh (gS g) (gW g) (gH g) c)
def ox_can (g : Nat → Int) (a b k : Int) : Bool := sp_ca (gS g) (gR g) (gH g) a b k
def ox_tc (g : Nat → Int) (a b k : Int) : Nat → Int := if ox_can g a b k = true then ox_clip g (100 * a + 10 * b + k).toNat else g
def ox_cw (g : Nat → Int) (z : Int) : Bool := sp_cw (gS g) (gH g) z
def ox_wat (g : Nat → Int) (z : Int) : Nat → Int := sp_set g 1 ((gH g + 4 ^ z.toNat : Nat) : Int)
def ox_tw (g : Nat → Int) (z : Int) : Nat → Int := if ox_cw g z = true then ox_wat g z else g
def ox_ti (g : Nat → Int) (z : Int) : Nat → Int := if 0 ≤ z ∧ z < 3 then sp_set g 2 z else g
def ox_ps (g : Nat → Int) : Nat → Int := sp_set g 3 (1 - g 3)
def ox_fst (g : Nat → Int) : Option Nat := wo_fst (gS g) (gW g) (gR g) (gH g)
def ox_tb (g : Nat → Int) : Nat → Int := match ox_fst g with
  | some c => ox_clip g c
  | none => g
def ox_isb (g : Nat → Int) : Bool := (ox_fst g).isSome
def ox_j (g : Nat → Int) : Nat := ((gS g - 2) * 3 + gW g) * 3 + gR g - 1
def ox_wo (g : Nat → Int) (b : Nat) : Int := wo (gS g) (gW g) (gR g) b
def ox_w (g : Nat → Int) : Int := g 4 * ox_wo g (gH g)
def ox_ahead (g : Nat → Int) : Int := (if g 3 = 0 then g 7 - g 6 else g 6 - g 7) + ox_w g
def ox_win (g : Nat → Int) : Int := if zI (ox_ahead g) = 0 then 2 else if 0 < zI (ox_ahead g) then g 3 else 1 - g 3
theorem ox_j_lt {g : Nat → Int} (h : WF g) : ox_j g < 45 := by
  have h1 := h.S; have h2 := h.W; have h3 := h.R
  unfold ox_j
  omega
theorem ox_w_ran {g : Nat → Int} (h : WF g) {b : Nat} (hb : b < 4 ^ gS g) : -54 ≤ g 4 * ox_wo g b ∧ g 4 * ox_wo g b ≤ 54 := by
  have h1 := wo_6 (w := gW g) h.S h.R hb
  have h2 := h.2.2.2.2.1
  unfold ox_wo
  generalize wo (gS g) (gW g) (gR g) b = x at h1 ⊢
  generalize g 4 = y at h2 ⊢
  rcases (show y = 1 ∨ y = 2 ∨ y = 3 ∨ y = 4 ∨ y = 5 ∨ y = 6 ∨ y = 7 ∨ y = 8 ∨ y = 9 by omega) with rfl | rfl | rfl | rfl | rfl | rfl | rfl | rfl | rfl <;> omega
theorem WF_set {g : Nat → Int} (h : WF g) {b : Nat} (hb : b < 4 ^ gS g) {t : Int} (ht : 0 ≤ t ∧ t < 2) {f : Nat → Int} (e0 : f 0 = g 0) (e1 : f 1 = (b : Int)) (e2 : f 2 = g 2) (e3 : f 3 = t) (e4 : f 4 = g 4) (e5 : f 5 = g 5) : WF f := by
  refine ⟨by rw [e0]; exact h.1, ⟨by omega, ?_⟩, by rw [e2]; exact h.2.2.1, by rw [e3]; exact ht, by rw [e4]; exact h.2.2.2.2.1, by rw [e5]; exact h.2.2.2.2.2⟩
  unfold gH gS
  rw [e1, e0, Int.toNat_natCast]
  exact hb
theorem WF_clip {g : Nat → Int} (h : WF g) (c : Nat) : WF (ox_clip g c) := by
  have h3 := h.2.2.2.1
  exact WF_set h (b := sp_bh (gS g) (gW g) (gH g) c) (t := 1 - g 3) (Nat.lt_of_le_of_lt (sp_bh_le _ _ _ _) h.H) (by omega) rfl rfl rfl rfl rfl rfl
theorem WF_tc {g : Nat → Int} (h : WF g) (a b k : Int) : WF (ox_tc g a b k) := by
  unfold ox_tc
  split
  · exact WF_clip h _
  · exact h
theorem WF_ps {g : Nat → Int} (h : WF g) : WF (ox_ps g) := by
  have h3 := h.2.2.2.1
  exact WF_set h (b := gH g) (t := 1 - g 3) h.H (by omega) rfl h.e1 rfl rfl rfl rfl
theorem WF_tb {g : Nat → Int} (h : WF g) : WF (ox_tb g) := by
  unfold ox_tb
  cases ox_fst g with
  | none => exact h
  | some c => exact WF_clip h c
theorem sp_wat : ∀ S : Nat, S < 7 → ∀ h i, h < 4 ^ S → i < S → ¬ sp_dg h i = 3 → h + 4 ^ i < 4 ^ S := by
  intro S hS h i hh hi hd
  unfold sp_dg at hd
  rcases (show S = 0 ∨ S = 1 ∨ S = 2 ∨ S = 3 ∨ S = 4 ∨ S = 5 ∨ S = 6 by omega) with rfl | rfl | rfl | rfl | rfl | rfl | rfl <;>
    rcases (show i = 0 ∨ i = 1 ∨ i = 2 ∨ i = 3 ∨ i = 4 ∨ i = 5 by omega) with rfl | rfl | rfl | rfl | rfl | rfl <;> omega
theorem ox_cw_t {g : Nat → Int} {z : Int} (h : ox_cw g z = true) : (0 ≤ z ∧ z < (gS g : Int)) ∧ ¬ sp_dg (gH g) z.toNat = 3 := by
  unfold ox_cw sp_cw at h
  simp only [Bool.and_eq_true, decide_eq_true_eq, Bool.not_eq_true', decide_eq_false_iff_not] at h
  exact h
theorem ox_can_t {g : Nat → Int} {a b k : Int} (h : ox_can g a b k = true) : (0 ≤ a ∧ b < (gS g : Int) ∧ 1 ≤ k ∧ k ≤ 3 ∧ a ≤ b ∧ b - a < (gR g : Int)) ∧ ¬ sp_cc (gH g) (100 * a + 10 * b + k).toNat = gH g := by
  unfold ox_can sp_ca at h
  simp only [Bool.and_eq_true, decide_eq_true_eq, Bool.not_eq_true', decide_eq_false_iff_not] at h
  exact ⟨⟨h.1.1.1.1.1.1, h.1.1.1.1.1.2, h.1.1.1.1.2, h.1.1.1.2, h.1.1.2, h.1.2⟩, h.2⟩
theorem WF_wat {g : Nat → Int} (h : WF g) {z : Int} (hz : ox_cw g z = true) : WF (ox_wat g z) := by
  have h3 := h.2.2.2.1
  have h4 := ox_cw_t hz
  have h5 := h.S
  exact WF_set h (b := gH g + 4 ^ z.toNat) (t := g 3) (sp_wat (gS g) (by omega) (gH g) z.toNat h.H (by omega) h4.2) h3 rfl rfl rfl rfl rfl rfl
theorem WF_tw {g : Nat → Int} (h : WF g) (z : Int) : WF (ox_tw g z) := by
  unfold ox_tw
  split
  · next q => exact WF_wat h q
  · exact h
theorem WF_wi {g : Nat → Int} (h : WF g) {z : Int} (hz : 0 ≤ z ∧ z < 3) : WF (sp_set g 2 z) := ⟨h.1, h.2.1, hz, h.2.2.2.1, h.2.2.2.2.1, h.2.2.2.2.2⟩
theorem WF_ti {g : Nat → Int} (h : WF g) (z : Int) : WF (ox_ti g z) := by
  unfold ox_ti
  split
  · next q => exact WF_wi h q
  · exact h
theorem WF_fi {g : Nat → Int} (h : WF g) {z : Int} (hz : 1 ≤ z ∧ z ≤ 9) : WF (sp_set g 4 z) := ⟨h.1, h.2.1, h.2.2.1, h.2.2.2.1, hz, h.2.2.2.2.2⟩
theorem WF_re {g : Nat → Int} (h : WF g) {z : Int} (hz : 1 ≤ z ∧ z ≤ 3) : WF (sp_set g 5 z) := ⟨h.1, h.2.1, h.2.2.1, h.2.2.2.1, h.2.2.2.2.1, hz⟩
theorem WF_plant {g : Nat → Int} (h : WF g) {S b : Nat} (hS : 2 ≤ S ∧ S ≤ 6) (hb : b < 4 ^ S) : WF (sp_plant g (S : Int) (b : Int)) := by
  refine ⟨(by show 2 ≤ (S : Int) ∧ (S : Int) ≤ 6; omega), ⟨(by show 0 ≤ (b : Int); omega), ?_⟩, h.2.2.1, (by show (0 : Int) ≤ 0 ∧ (0 : Int) < 2; omega), h.2.2.2.2.1, h.2.2.2.2.2⟩
  show ((b : Int)).toNat < 4 ^ ((S : Int)).toNat
  rw [Int.toNat_natCast, Int.toNat_natCast]
  exact hb
theorem WF_new {S b : Nat} (hS : 2 ≤ S ∧ S ≤ 6) (hb : b < 4 ^ S) : WF (sp_new (S : Int) (b : Int)) := by
  refine ⟨(by show 2 ≤ (S : Int) ∧ (S : Int) ≤ 6; omega), ⟨(by show 0 ≤ (b : Int); omega), ?_⟩, (by show (0 : Int) ≤ 0 ∧ (0 : Int) < 3; omega), (by show (0 : Int) ≤ 0 ∧ (0 : Int) < 2; omega), (by show (1 : Int) ≤ 3 ∧ (3 : Int) ≤ 9; omega), (by show (1 : Int) ≤ 2 ∧ (2 : Int) ≤ 3; omega)⟩
  show ((b : Int)).toNat < 4 ^ ((S : Int)).toNat
  rw [Int.toNat_natCast, Int.toNat_natCast]
  exact hb
theorem ox_fst_ok {g : Nat → Int} (h : WF g) {c : Nat} (e : ox_fst g = some c) : sp_ok (gS g) c ∧ ¬ sp_cc (gH g) c = gH g := by
  have h1 := wo_best_or (w := gW g) h.S h.R h.H
  unfold wo_best wo_next at h1
  unfold ox_fst at e
  rw [e] at h1
  rcases h1 with ⟨h2, -⟩ | ⟨c2, h2, h3, -, h5, -⟩
  · exact absurd h2 (by dsimp only; omega)
  · dsimp only at h3
    obtain rfl : c = c2 := by omega
    have := h.S; have := h.R
    exact ⟨wo_cls_ok _ (by omega) _ (by omega) c h2, h5⟩
