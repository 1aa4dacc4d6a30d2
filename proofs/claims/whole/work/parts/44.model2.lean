theorem sp_ca_iff {S r h : Nat} {a b k : Int} : sp_ca S r h a b k = true ↔ (0 ≤ a ∧ b < (S : Int) ∧ 1 ≤ k ∧ k ≤ 3 ∧ a ≤ b ∧ b - a < (r : Int)) ∧ ¬ sp_cc h (100 * a + 10 * b + k).toNat = h := by
  unfold sp_ca
  simp only [Bool.and_eq_true, decide_eq_true_eq, Bool.not_eq_true', decide_eq_false_iff_not, and_assoc]
theorem mz_caf {S r h : Nat} {a b k : Int} (q : ¬ ((0 ≤ a ∧ b < (S : Int) ∧ 1 ≤ k ∧ k ≤ 3 ∧ a ≤ b ∧ b - a < (r : Int)) ∧ ¬ sp_cc h (100 * a + 10 * b + k).toNat = h)) : sp_ca S r h a b k = false := by
  cases e : sp_ca S r h a b k
  · rfl
  · exact absurd (sp_ca_iff.mp e) q
theorem mz_bl2 : ∀ h : Nat, h < 4 ^ 2 → mz_b h 2 + sp_lc h = 2 := sp_all (by decide +kernel)
theorem mz_bl3 : ∀ h : Nat, h < 4 ^ 3 → mz_b h 3 + sp_lc h = 3 := sp_all (by decide +kernel)
theorem mz_bl4 : ∀ h : Nat, h < 4 ^ 4 → mz_b h 4 + sp_lc h = 4 := sp_all (by decide +kernel)
theorem mz_bl5 : ∀ h : Nat, h < 4 ^ 5 → mz_b h 5 + sp_lc h = 5 := sp_all (by decide +kernel)
theorem mz_bl6 : ∀ h : Nat, h < 4 ^ 6 → mz_b h 6 + sp_lc h = 6 := sp_all (by decide +kernel)
theorem mz_bl {S h : Nat} (hS : 2 ≤ S ∧ S ≤ 6) (hh : h < 4 ^ S) : mz_b h S + sp_lc h = S := by
  rcases (show S = 2 ∨ S = 3 ∨ S = 4 ∨ S = 5 ∨ S = 6 by omega) with rfl | rfl | rfl | rfl | rfl
  · exact mz_bl2 h hh
  · exact mz_bl3 h hh
  · exact mz_bl4 h hh
  · exact mz_bl5 h hh
  · exact mz_bl6 h hh
/-- the clip behind another one, as the model finds it -/
def mz_n (S r c : Nat) : Nat :=
  let k := c % 10 + 1
  let t := c / 10 % 10 + (if k > 3 then 1 else 0)
  let k2 := if k > 3 then 1 else k
  let f := c / 100 + (if r ≤ t - c / 100 ∨ S ≤ t then 1 else 0)
  if S ≤ f then 1000 else 100 * f + 10 * (if f > c / 100 then f else t) + k2
def mz_at (S r i : Nat) : Nat := (wo_cls S r).getD i 1000
def mz_okn (S r : Nat) : Bool := decide (mz_at S r 0 = 1) && (List.range (wo_cls S r).length).all (fun i => decide (mz_n S r (mz_at S r i) = mz_at S r (i + 1)) && decide (mz_at S r i < 1000))
theorem mz_okn_all : ∀ S : Nat, S < 7 → ∀ r : Nat, r < 4 → 2 ≤ S → 1 ≤ r → mz_okn S r = true := by decide +kernel
theorem mz_at_0 {S r : Nat} (hS : 2 ≤ S ∧ S ≤ 6) (hr : 1 ≤ r ∧ r ≤ 3) : mz_at S r 0 = 1 := by
  have h := mz_okn_all S (by omega) r (by omega) hS.1 hr.1
  unfold mz_okn at h
  rw [Bool.and_eq_true] at h
  exact of_decide_eq_true h.1
theorem mz_at_n {S r i : Nat} (hS : 2 ≤ S ∧ S ≤ 6) (hr : 1 ≤ r ∧ r ≤ 3) (hi : i < (wo_cls S r).length) : mz_n S r (mz_at S r i) = mz_at S r (i + 1) ∧ mz_at S r i < 1000 := by
  have h := mz_okn_all S (by omega) r (by omega) hS.1 hr.1
  unfold mz_okn at h
  rw [Bool.and_eq_true] at h
  have h2 := List.all_eq_true.mp h.2 i (List.mem_range.mpr hi)
  rw [Bool.and_eq_true] at h2
  exact ⟨of_decide_eq_true h2.1, of_decide_eq_true h2.2⟩
theorem mz_at_out {S r i : Nat} (hi : (wo_cls S r).length ≤ i) : mz_at S r i = 1000 := by
  unfold mz_at
  rw [List.getD_eq_getElem?_getD, List.getElem?_eq_none hi]
  rfl
theorem mz_at_in {S r i : Nat} (hi : i < (wo_cls S r).length) : mz_at S r i ∈ wo_cls S r := by
  unfold mz_at
  rw [List.getD_eq_getElem?_getD, List.getElem?_eq_getElem hi]
  exact List.getElem_mem hi

set_option maxHeartbeats 4000000 in
set_option maxRecDepth 100000 in
theorem k_X9_canClip (l : Launch) (D : va_G) (dA : Nat → ClassId) (r9 : Nat) (g : Nat → Int) (hg : WF g) {zh : Int} (h : Nat) (eh : zh = (h : Int)) (hh : h < 4096) (a : Int) (ha : -2147483648 ≤ a ∧ a < 2147483648) (b : Int) (hb : -2147483648 ≤ b ∧ b < 2147483648) (k : Int) (hk : -2147483648 ≤ k ∧ k < 2147483648) : hv_Ct l yX9_canClip (hw_W yX9_canClip cX9_canClip 5 (some .boolean)) 2 D dA [.ref r9, .int (zI (zh)), .int (zI (a)), .int (zI (b)), .int (zI (k))] ([(r9, .inl (dA 0, 12, .inl (fun i => zI (g i))))]) 0 0 (S := Unit) (fun _ => some (.int (zI (zB (sp_ca (gS g) (gR g) h a b k))))) (fun _ => True) (fun _ => [(r9, .inl (dA 0, 12, .inl (fun i => zI (g i))))]) := by
  subst eh
  have hg0 := hg.1
  have hg5 := hg.2.2.2.2.2
  have hge := hg.e0
  have hge5 := hg.e5
  refine hv_of (cc := cX9_canClip) (maxL := 5) (ret := (some .boolean)) (own := RX9) rfl (by decide) rfl (Nat.le_of_ble_eq_true rfl) ?_
  intro p e s m args below meth c C M
  refine hv_lveq (lv' := [(0, .ref r9), (1, .int (zI ((h : Int)))), (2, .int (zI (a))), (3, .int (zI (b))), (4, .int (zI (k)))]) rfl ?_
  refine hv_aload_n C dX9_canClip_0 0 rfl ?_
  refine hv_iload_n C dX9_canClip_1 2 rfl ?_
  refine hv_callS (As := [.ref r9, .int (zI (a))]) (rest := []) (wc := [(r9, .inl (dA 0, 12, .inl (fun i => zI (g i))))]) (wr := []) C (k_X9_isStem l D dA r9 g (by omega) (a) (by omega)) (va_cwS 2 C.1.2.2.2.2 (hw_S tw_m_RX9_53 tw_t_X9_isStem tw_n_RX9 tw_k_X9_isStem) rfl rfl rfl (by decide +kernel) ⟨Nat.le_of_ble_eq_true rfl, Nat.le_of_ble_eq_true rfl⟩) (hv_pm [0] rfl) rfl rfl (Nat.le_of_ble_eq_true rfl) dX9_canClip_2 ⟨Nat.le_of_ble_eq_true rfl, Nat.le_of_ble_eq_true rfl⟩ (fun _ _ => ?_)
  refine hv_eqst (st' := [.int (zI (zB (decide (0 ≤ a ∧ a < g 0))))]) rfl ?_
  refine hv_weq (ws' := [(r9, .inl (dA 0, 12, .inl (fun i => zI (g i))))]) (rfl) ?_
  refine hv_if_eq C dX9_canClip_5 (tgt := 43) (by decide) zB_0 (fun hc5 => ?_) (fun hc5 => ?_)
  · refine hv_iconst C dX9_canClip_43 (v := zI (0)) rfl ?_
    exact hv_iret C M dX9_canClip_44 rfl zB_n2 () trivial (hv_rv (by rw [mz_caf (fun q => by have q1 := q.1; have q2 := q.2; first | omega | (rw [show (100 * a + 10 * b + k).toNat = 100 * a.toNat + 10 * b.toNat + k.toNat by omega] at q2; omega))]; rfl)) [] (List.Perm.of_eq (by first | rfl | exact (List.append_nil _).symm)) (Nat.le_refl _) (Nat.le_refl _)
  · have hc5 := Decidable.not_not.mp hc5
    refine hv_aload_n C dX9_canClip_8 0 rfl ?_
    refine hv_iload_n C dX9_canClip_9 3 rfl ?_
    refine hv_callS (As := [.ref r9, .int (zI (b))]) (rest := []) (wc := [(r9, .inl (dA 0, 12, .inl (fun i => zI (g i))))]) (wr := []) C (k_X9_isStem l D dA r9 g (by omega) (b) (by omega)) (va_cwS 2 C.1.2.2.2.2 (hw_S tw_m_RX9_53 tw_t_X9_isStem tw_n_RX9 tw_k_X9_isStem) rfl rfl rfl (by decide +kernel) ⟨Nat.le_of_ble_eq_true rfl, Nat.le_of_ble_eq_true rfl⟩) (hv_pm [0] rfl) rfl rfl (Nat.le_of_ble_eq_true rfl) dX9_canClip_10 ⟨Nat.le_of_ble_eq_true rfl, Nat.le_of_ble_eq_true rfl⟩ (fun _ _ => ?_)
    refine hv_eqst (st' := [.int (zI (zB (decide (0 ≤ b ∧ b < g 0))))]) rfl ?_
    refine hv_weq (ws' := [(r9, .inl (dA 0, 12, .inl (fun i => zI (g i))))]) (rfl) ?_
    refine hv_if_eq C dX9_canClip_13 (tgt := 43) (by decide) zB_0 (fun hc13 => ?_) (fun hc13 => ?_)
    · refine hv_iconst C dX9_canClip_43 (v := zI (0)) rfl ?_
      exact hv_iret C M dX9_canClip_44 rfl zB_n2 () trivial (hv_rv (by rw [mz_caf (fun q => by have q1 := q.1; have q2 := q.2; first | omega | (rw [show (100 * a + 10 * b + k).toNat = 100 * a.toNat + 10 * b.toNat + k.toNat by omega] at q2; omega))]; rfl)) [] (List.Perm.of_eq (by first | rfl | exact (List.append_nil _).symm)) (Nat.le_refl _) (Nat.le_refl _)
    · have hc13 := Decidable.not_not.mp hc13
      refine hv_aload_n C dX9_canClip_16 0 rfl ?_
      refine hv_iload_n C dX9_canClip_17 2 rfl ?_
      refine hv_iload_n C dX9_canClip_18 3 rfl ?_
      refine hv_iload C dX9_canClip_19 4 rfl ?_
      refine hv_callS (As := [.ref r9, .int (zI (a)), .int (zI (b)), .int (zI (k))]) (rest := []) (wc := [(r9, .inl (dA 0, 12, .inl (fun i => zI (g i))))]) (wr := []) C (k_X9_isClip l D dA r9 g (by omega) a b k (by omega) (by omega) (by omega)) (va_cwS 4 C.1.2.2.2.2 (hw_S tw_m_RX9_57 tw_t_X9_isClip tw_n_RX9 tw_k_X9_isClip) rfl rfl rfl (by decide +kernel) ⟨Nat.le_of_ble_eq_true rfl, Nat.le_of_ble_eq_true rfl⟩) (hv_pm [0] rfl) rfl rfl (Nat.le_of_ble_eq_true rfl) dX9_canClip_21 ⟨Nat.le_of_ble_eq_true rfl, Nat.le_of_ble_eq_true rfl⟩ (fun _ _ => ?_)
      refine hv_eqst (st' := [.int (zI (zB (decide (1 ≤ k ∧ k ≤ 3 ∧ a ≤ b ∧ b - a < g 5))))]) rfl ?_
      refine hv_weq (ws' := [(r9, .inl (dA 0, 12, .inl (fun i => zI (g i))))]) (rfl) ?_
      refine hv_if_eq C dX9_canClip_24 (tgt := 43) (by decide) zB_0 (fun hc24 => ?_) (fun hc24 => ?_)
      · refine hv_iconst C dX9_canClip_43 (v := zI (0)) rfl ?_
        exact hv_iret C M dX9_canClip_44 rfl zB_n2 () trivial (hv_rv (by rw [mz_caf (fun q => by have q1 := q.1; have q2 := q.2; first | omega | (rw [show (100 * a + 10 * b + k).toNat = 100 * a.toNat + 10 * b.toNat + k.toNat by omega] at q2; omega))]; rfl)) [] (List.Perm.of_eq (by first | rfl | exact (List.append_nil _).symm)) (Nat.le_refl _) (Nat.le_refl _)
      · have hc24 := Decidable.not_not.mp hc24
        refine hv_iload_n C dX9_canClip_27 1 rfl ?_
        refine hv_iload_n C dX9_canClip_28 2 rfl ?_
        refine hv_iload_n C dX9_canClip_29 3 rfl ?_
        refine hv_iload C dX9_canClip_30 4 rfl ?_
        refine hv_callS (As := [.int (zI ((h : Int))), .int (zI (a)), .int (zI (b)), .int (zI (k))]) (rest := []) (wc := []) (wr := [(r9, .inl (dA 0, 12, .inl (fun i => zI (g i))))]) C (k_X9_cut l D dA h (a).toNat (b).toNat (k).toNat (by first | rfl | omega) (by omega) (by omega) (by omega) (by omega) (by omega) (by omega) (by omega)) (va_cwS 4 C.1.2.2.2.2 (hw_S tw_m_RX9_61 tw_t_X9_cut tw_n_RX9 tw_k_X9_cut) rfl rfl rfl (by decide +kernel) ⟨Nat.le_of_ble_eq_true rfl, Nat.le_of_ble_eq_true rfl⟩) (hv_pm [] rfl) rfl rfl (Nat.le_of_ble_eq_true rfl) dX9_canClip_32 ⟨Nat.le_of_ble_eq_true rfl, Nat.le_of_ble_eq_true rfl⟩ (fun _ _ => ?_)
        refine hv_eqst (st' := [.int (zI ((sp_cc h (100 * (a).toNat + 10 * (b).toNat + (k).toNat) : Int)))]) rfl ?_
        refine hv_weq (ws' := [(r9, .inl (dA 0, 12, .inl (fun i => zI (g i))))]) (rfl) ?_
        refine hv_iload_n C dX9_canClip_35 1 rfl ?_
        have hcl := sp_cc_le h (100 * (a).toNat + 10 * (b).toNat + (k).toNat)
        refine hv_icmp_eq C dX9_canClip_36 (tgt := 43) (by decide) (zI_eq (by omega)) (fun hc36 => ?_) (fun hc36 => ?_)
        · refine hv_iconst C dX9_canClip_43 (v := zI (0)) rfl ?_
          exact hv_iret C M dX9_canClip_44 rfl zB_n2 () trivial (hv_rv (by rw [mz_caf (fun q => by have q1 := q.1; have q2 := q.2; first | omega | (rw [show (100 * a + 10 * b + k).toNat = 100 * a.toNat + 10 * b.toNat + k.toNat by omega] at q2; omega))]; rfl)) [] (List.Perm.of_eq (by first | rfl | exact (List.append_nil _).symm)) (Nat.le_refl _) (Nat.le_refl _)
        · refine hv_iconst C dX9_canClip_39 (v := zI (1)) rfl ?_
          refine hv_goto C dX9_canClip_40 (tgt := 44) (by decide) ?_
          exact hv_iret C M dX9_canClip_44 rfl zB_n1 () trivial (hv_rv (by rw [sp_ca_iff.mpr ⟨by omega, by rw [show (100 * a + 10 * b + k).toNat = 100 * a.toNat + 10 * b.toNat + k.toNat by omega]; omega⟩]; rfl)) [] (List.Perm.of_eq (by first | rfl | exact (List.append_nil _).symm)) (Nat.le_refl _) (Nat.le_refl _)

theorem mz_ble {S w h i n9 : Nat} (h1 : i + n9 = S) (h2 : 0 < i → 0 < w) (h3 : S ≤ i ∨ w = 0) : (sp_blL S w h i : Int) = (sp_bl S w h : Int) := by
  unfold sp_bl
  by_cases q : w = 0
  · rw [if_pos q]
    obtain rfl : i = 0 := by omega
    rfl
  · rw [if_neg q, show i = S by omega]

set_option maxHeartbeats 4000000 in
set_option maxRecDepth 100000 in
theorem k_X9_blown (l : Launch) (D : va_G) (dA : Nat → ClassId) (r9 : Nat) (g : Nat → Int) (hg : WF g) {zh : Int} (h : Nat) (eh : zh = (h : Int)) (hh : h < 4 ^ gS g) : hv_Ct l yX9_blown (hw_W yX9_blown cX9_blown 6 (some .int)) 2 D dA [.ref r9, .int (zI (zh))] ([(r9, .inl (dA 0, 12, .inl (fun i => zI (g i))))]) 0 0 (S := Unit) (fun _ => some (.int (zI (sp_bl (gS g) (gW g) h : Int)))) (fun _ => True) (fun _ => [(r9, .inl (dA 0, 12, .inl (fun i => zI (g i))))]) := by
  subst eh
  have hhx := sp_hlt hg.S.2 hh
  have hge2 := hg.e2
  have hS := hg.S
  have hW := hg.W
  have hg0 := hg.1
  have hg5 := hg.2.2.2.2.2
  have hge := hg.e0
  have hge5 := hg.e5
  refine hv_of (cc := cX9_blown) (maxL := 6) (ret := (some .int)) (own := RX9) rfl (by decide) rfl (Nat.le_of_ble_eq_true rfl) ?_
  intro p e s m args below meth c C M
  refine hv_lveq (lv' := [(0, .ref r9), (1, .int (zI ((h : Int))))]) rfl ?_
  refine hv_iload_n C dX9_blown_0 1 rfl ?_
  refine hv_istore_n C dX9_blown_1 (lw := [(2, .int (zI ((h : Int)))), (0, .ref r9), (1, .int (zI ((h : Int))))]) (by decide) rfl ?_
  refine hv_aload_n C dX9_blown_2 1 rfl ?_
  refine hv_iconst C dX9_blown_3 (v := zI (2)) rfl ?_
  refine hv_iald C dX9_blown_4 0 rfl (2) (rfl) (by omega) (by omega) (v := (zI (g 2))) rfl ?_
  refine hv_iconst C dX9_blown_5 (v := zI (1)) rfl ?_
  refine hv_icmp_ne C dX9_blown_6 (tgt := 13) (by decide) (zI_ne (by omega)) (fun hc6 => ?_) (fun hc6 => ?_)
  · have hw1 : ¬ gW g = 1 := by omega
    refine hv_iconst C dX9_blown_13 (v := zI (1)) rfl ?_
    refine hv_istore_n C dX9_blown_14 (lw := [(3, .int (zI (1))), (2, .int (zI ((h : Int)))), (0, .ref r9), (1, .int (zI ((h : Int))))]) (by decide) rfl ?_
    refine hv_iconst C dX9_blown_15 (v := zI (0)) rfl ?_
    refine hv_istore C dX9_blown_16 (lw := [(4, .int (zI (0))), (3, .int (zI (1))), (2, .int (zI ((h : Int)))), (0, .ref r9), (1, .int (zI ((h : Int))))]) (by decide) rfl ?_
    refine hv_loop (σ := Nat) (fun n9 x => x + n9 = gS g ∧ (0 < x → 0 < gW g)) (fun x => [(r9, .inl (dA 0, 12, .inl (fun i => zI (g i))))]) (fun x => [(4, .int (zI ((x : Int)))), (3, .int (zI (1))), (2, .int (zI ((sp_blL (gS g) (gW g) h x : Int)))), (0, .ref r9), (1, .int (zI ((h : Int))))]) (fun x => []) (fun _ => 0) (fun _ => 0) (gS g) (0) (⟨Nat.zero_add _, fun q => absurd q (Nat.lt_irrefl _)⟩) (⟨rfl, rfl, rfl, rfl, rfl⟩) (fun n9 x hI ih => ?_)
    obtain ⟨i, rfl⟩ : ∃ i, i = x := ⟨x, rfl⟩
    obtain ⟨hi1, hi2⟩ := hI
    refine hv_iload C dX9_blown_18 0 rfl ?_
    refine hv_aload_n C dX9_blown_20 3 rfl ?_
    refine hv_iconst C dX9_blown_21 (v := zI (0)) rfl ?_
    refine hv_iald C dX9_blown_22 0 rfl (0) (rfl) (by omega) (by omega) (v := (zI (g 0))) rfl ?_
    refine hv_icmp_ge C dX9_blown_23 (tgt := 94) (by decide) (zI_le (by omega)) (fun hc23 => ?_) (fun hc23 => ?_)
    · refine hv_iload_n C dX9_blown_94 2 rfl ?_
      exact hv_iret C M dX9_blown_95 rfl rfl () trivial (hv_rv (mz_ble hi1 hi2 (by omega)).symm) [] (List.Perm.of_eq (by first | rfl | exact (List.append_nil _).symm)) (Nat.le_refl _) (Nat.le_refl _)
    · have hiS : i < gS g := by omega
      refine hv_aload_n C dX9_blown_26 3 rfl ?_
      refine hv_iconst C dX9_blown_27 (v := zI (2)) rfl ?_
      refine hv_iald C dX9_blown_28 0 rfl (2) (rfl) (by omega) (by omega) (v := (zI (g 2))) rfl ?_
      refine hv_if_le C dX9_blown_29 (tgt := 94) (by decide) (zI_le0 (by omega)) (fun hc29 => ?_) (fun hc29 => ?_)
      · refine hv_iload_n C dX9_blown_94 2 rfl ?_
        exact hv_iret C M dX9_blown_95 rfl rfl () trivial (hv_rv (mz_ble hi1 hi2 (by omega)).symm) [] (List.Perm.of_eq (by first | rfl | exact (List.append_nil _).symm)) (Nat.le_refl _) (Nat.le_refl _)
      · refine hv_iload_n C dX9_blown_32 4 rfl ?_
        refine hv_iload C dX9_blown_33 0 rfl ?_
        refine hv_callS (As := [.int (zI ((h : Int))), .int (zI ((i : Int)))]) (rest := []) (wc := []) (wr := [(r9, .inl (dA 0, 12, .inl (fun i => zI (g i))))]) C (k_X9_leavesOf l D dA (h) (i) (by omega) (by omega) (by omega) (by omega)) (va_cwS 2 C.1.2.2.2.2 (hw_S tw_m_RX9_47 tw_t_X9_leavesOf tw_n_RX9 tw_k_X9_leavesOf) rfl rfl rfl (by decide +kernel) ⟨Nat.le_of_ble_eq_true rfl, Nat.le_of_ble_eq_true rfl⟩) (hv_pm [] rfl) rfl rfl (Nat.le_of_ble_eq_true rfl) dX9_blown_35 ⟨Nat.le_of_ble_eq_true rfl, Nat.le_of_ble_eq_true rfl⟩ (fun _ _ => ?_)
        have hdl35 := sp_dg_lt (h) (i)
        refine hv_eqst (st' := [.int (zI ((sp_dg (h) (i) : Int)))]) rfl ?_
        refine hv_weq (ws' := [(r9, .inl (dA 0, 12, .inl (fun i => zI (g i))))]) (rfl) ?_
        refine hv_if_le C dX9_blown_38 (tgt := 67) (by decide) (zI_le0 (by omega)) (fun hc38 => ?_) (fun hc38 => ?_)
        · refine hv_iconst C dX9_blown_67 (v := zI (0)) rfl ?_
          refine hv_istore C dX9_blown_68 (lw := [(5, .int (zI (0))), (4, .int (zI ((i : Int)))), (3, .int (zI (1))), (2, .int (zI ((sp_blL (gS g) (gW g) h i : Int)))), (0, .ref r9), (1, .int (zI ((h : Int))))]) (by decide) rfl ?_
          have hixx : ((i : Int) + (1)).toNat = i + 1 ∨ i = 0 := by omega
          have hls : ¬ sp_ls (gS g) (gW g) h i = true := by unfold sp_ls; rw [if_neg hw1]; simp only [Bool.and_eq_true, decide_eq_true_eq]; intro q; have hz : ((i : Int) + (1)).toNat = i + 1 := (by omega); first | omega | (rw [hz] at hc60; omega)
          refine hv_iload_n C dX9_blown_70 3 rfl ?_
          refine hv_iload C dX9_blown_71 0 rfl ?_
          refine hv_if_eq C dX9_blown_73 (tgt := 85) (by decide) (zI_eq0 (by omega)) (fun hc73 => ?_) (fun hc73 => ?_)
          · refine hv_iconst C dX9_blown_85 (v := zI (0)) rfl ?_
            have hble := True.intro
            refine hv_isub C dX9_blown_86 (z := zI ((sp_blL (gS g) (gW g) h (i + 1) : Int))) ((zI_sub _ _).trans (zI_c (by rw [sp_blL]; rw [if_neg hls]; first | omega | (have := hble hls; omega)))) ?_
            refine hv_istore_n C dX9_blown_87 (lw := [(2, .int (zI ((sp_blL (gS g) (gW g) h (i + 1) : Int)))), (5, .int (zI (0))), (4, .int (zI ((i : Int)))), (3, .int (zI (1))), (0, .ref r9), (1, .int (zI ((h : Int))))]) (by decide) rfl ?_
            refine hv_iinc C dX9_blown_88 2 rfl (v := zI (((i + 1 : Nat) : Int))) ((zI_add _ _).trans (zI_c (by omega))) (by decide) (lw := [(4, .int (zI (((i + 1 : Nat) : Int)))), (2, .int (zI ((sp_blL (gS g) (gW g) h (i + 1) : Int)))), (5, .int (zI (0))), (3, .int (zI (1))), (0, .ref r9), (1, .int (zI ((h : Int))))]) rfl ?_
            refine hv_goto C dX9_blown_91 (tgt := 18) (by decide) ?_
            refine hv_lsub [0, 3, 1, 4, 5] (lv' := [(4, .int (zI (((i + 1 : Nat) : Int)))), (3, .int (zI (1))), (2, .int (zI ((sp_blL (gS g) (gW g) h (i + 1) : Int)))), (0, .ref r9), (1, .int (zI ((h : Int))))]) rfl ?_
            obtain ⟨k, rfl⟩ : ∃ k, n9 = k + 1 := ⟨n9 - 1, by omega⟩
            exact ih k (i + 1) (by omega) ⟨by omega, fun _ => by omega⟩
          · exfalso; omega
        · refine hv_aload_n C dX9_blown_41 3 rfl ?_
          refine hv_iload C dX9_blown_42 0 rfl ?_
          refine hv_iload_n C dX9_blown_44 1 rfl ?_
          refine hv_iadd C dX9_blown_45 (zI_add _ _) ?_
          refine hv_callS (As := [.ref r9, .int (zI (((i : Int)) + (1)))]) (rest := []) (wc := [(r9, .inl (dA 0, 12, .inl (fun i => zI (g i))))]) (wr := []) C (k_X9_isStem l D dA r9 g (by omega) (((i : Int)) + (1)) (by omega)) (va_cwS 2 C.1.2.2.2.2 (hw_S tw_m_RX9_53 tw_t_X9_isStem tw_n_RX9 tw_k_X9_isStem) rfl rfl rfl (by decide +kernel) ⟨Nat.le_of_ble_eq_true rfl, Nat.le_of_ble_eq_true rfl⟩) (hv_pm [0] rfl) rfl rfl (Nat.le_of_ble_eq_true rfl) dX9_blown_46 ⟨Nat.le_of_ble_eq_true rfl, Nat.le_of_ble_eq_true rfl⟩ (fun _ _ => ?_)
          refine hv_eqst (st' := [.int (zI (zB (decide (0 ≤ ((i : Int)) + (1) ∧ ((i : Int)) + (1) < g 0))))]) rfl ?_
          refine hv_weq (ws' := [(r9, .inl (dA 0, 12, .inl (fun i => zI (g i))))]) (rfl) ?_
          refine hv_if_eq C dX9_blown_49 (tgt := 67) (by decide) zB_0 (fun hc49 => ?_) (fun hc49 => ?_)
          · refine hv_iconst C dX9_blown_67 (v := zI (0)) rfl ?_
            refine hv_istore C dX9_blown_68 (lw := [(5, .int (zI (0))), (4, .int (zI ((i : Int)))), (3, .int (zI (1))), (2, .int (zI ((sp_blL (gS g) (gW g) h i : Int)))), (0, .ref r9), (1, .int (zI ((h : Int))))]) (by decide) rfl ?_
            have hixx : ((i : Int) + (1)).toNat = i + 1 ∨ i = 0 := by omega
            have hls : ¬ sp_ls (gS g) (gW g) h i = true := by unfold sp_ls; rw [if_neg hw1]; simp only [Bool.and_eq_true, decide_eq_true_eq]; intro q; have hz : ((i : Int) + (1)).toNat = i + 1 := (by omega); first | omega | (rw [hz] at hc60; omega)
            refine hv_iload_n C dX9_blown_70 3 rfl ?_
            refine hv_iload C dX9_blown_71 0 rfl ?_
            refine hv_if_eq C dX9_blown_73 (tgt := 85) (by decide) (zI_eq0 (by omega)) (fun hc73 => ?_) (fun hc73 => ?_)
            · refine hv_iconst C dX9_blown_85 (v := zI (0)) rfl ?_
              have hble := True.intro
              refine hv_isub C dX9_blown_86 (z := zI ((sp_blL (gS g) (gW g) h (i + 1) : Int))) ((zI_sub _ _).trans (zI_c (by rw [sp_blL]; rw [if_neg hls]; first | omega | (have := hble hls; omega)))) ?_
              refine hv_istore_n C dX9_blown_87 (lw := [(2, .int (zI ((sp_blL (gS g) (gW g) h (i + 1) : Int)))), (5, .int (zI (0))), (4, .int (zI ((i : Int)))), (3, .int (zI (1))), (0, .ref r9), (1, .int (zI ((h : Int))))]) (by decide) rfl ?_
              refine hv_iinc C dX9_blown_88 2 rfl (v := zI (((i + 1 : Nat) : Int))) ((zI_add _ _).trans (zI_c (by omega))) (by decide) (lw := [(4, .int (zI (((i + 1 : Nat) : Int)))), (2, .int (zI ((sp_blL (gS g) (gW g) h (i + 1) : Int)))), (5, .int (zI (0))), (3, .int (zI (1))), (0, .ref r9), (1, .int (zI ((h : Int))))]) rfl ?_
              refine hv_goto C dX9_blown_91 (tgt := 18) (by decide) ?_
              refine hv_lsub [0, 3, 1, 4, 5] (lv' := [(4, .int (zI (((i + 1 : Nat) : Int)))), (3, .int (zI (1))), (2, .int (zI ((sp_blL (gS g) (gW g) h (i + 1) : Int)))), (0, .ref r9), (1, .int (zI ((h : Int))))]) rfl ?_
              obtain ⟨k, rfl⟩ : ∃ k, n9 = k + 1 := ⟨n9 - 1, by omega⟩
              exact ih k (i + 1) (by omega) ⟨by omega, fun _ => by omega⟩
            · exfalso; omega
          · have hc49 := Decidable.not_not.mp hc49
            refine hv_iload_n C dX9_blown_52 4 rfl ?_
            refine hv_iload C dX9_blown_53 0 rfl ?_
            refine hv_iload_n C dX9_blown_55 1 rfl ?_
            refine hv_iadd C dX9_blown_56 (zI_add _ _) ?_
            refine hv_callS (As := [.int (zI ((h : Int))), .int (zI (((i : Int)) + (1)))]) (rest := []) (wc := []) (wr := [(r9, .inl (dA 0, 12, .inl (fun i => zI (g i))))]) C (k_X9_leavesOf l D dA h (((i : Int)) + (1)).toNat rfl (by omega) (by omega) (by omega)) (va_cwS 2 C.1.2.2.2.2 (hw_S tw_m_RX9_47 tw_t_X9_leavesOf tw_n_RX9 tw_k_X9_leavesOf) rfl rfl rfl (by decide +kernel) ⟨Nat.le_of_ble_eq_true rfl, Nat.le_of_ble_eq_true rfl⟩) (hv_pm [] rfl) rfl rfl (Nat.le_of_ble_eq_true rfl) dX9_blown_57 ⟨Nat.le_of_ble_eq_true rfl, Nat.le_of_ble_eq_true rfl⟩ (fun _ _ => ?_)
            have hdm := sp_dg_lt h (((i : Int)) + (1)).toNat
            refine hv_eqst (st' := [.int (zI ((sp_dg h (((i : Int)) + (1)).toNat : Int)))]) rfl ?_
            refine hv_weq (ws' := [(r9, .inl (dA 0, 12, .inl (fun i => zI (g i))))]) (rfl) ?_
            refine hv_if_ne C dX9_blown_60 (tgt := 67) (by decide) (zI_ne0 (by omega)) (fun hc60 => ?_) (fun hc60 => ?_)
            · refine hv_iconst C dX9_blown_67 (v := zI (0)) rfl ?_
              refine hv_istore C dX9_blown_68 (lw := [(5, .int (zI (0))), (4, .int (zI ((i : Int)))), (3, .int (zI (1))), (2, .int (zI ((sp_blL (gS g) (gW g) h i : Int)))), (0, .ref r9), (1, .int (zI ((h : Int))))]) (by decide) rfl ?_
              have hixx : ((i : Int) + (1)).toNat = i + 1 ∨ i = 0 := by omega
              have hls : ¬ sp_ls (gS g) (gW g) h i = true := by unfold sp_ls; rw [if_neg hw1]; simp only [Bool.and_eq_true, decide_eq_true_eq]; intro q; have hz : ((i : Int) + (1)).toNat = i + 1 := (by omega); first | omega | (rw [hz] at hc60; omega)
              refine hv_iload_n C dX9_blown_70 3 rfl ?_
              refine hv_iload C dX9_blown_71 0 rfl ?_
              refine hv_if_eq C dX9_blown_73 (tgt := 85) (by decide) (zI_eq0 (by omega)) (fun hc73 => ?_) (fun hc73 => ?_)
              · refine hv_iconst C dX9_blown_85 (v := zI (0)) rfl ?_
                have hble := True.intro
                refine hv_isub C dX9_blown_86 (z := zI ((sp_blL (gS g) (gW g) h (i + 1) : Int))) ((zI_sub _ _).trans (zI_c (by rw [sp_blL]; rw [if_neg hls]; first | omega | (have := hble hls; omega)))) ?_
                refine hv_istore_n C dX9_blown_87 (lw := [(2, .int (zI ((sp_blL (gS g) (gW g) h (i + 1) : Int)))), (5, .int (zI (0))), (4, .int (zI ((i : Int)))), (3, .int (zI (1))), (0, .ref r9), (1, .int (zI ((h : Int))))]) (by decide) rfl ?_
                refine hv_iinc C dX9_blown_88 2 rfl (v := zI (((i + 1 : Nat) : Int))) ((zI_add _ _).trans (zI_c (by omega))) (by decide) (lw := [(4, .int (zI (((i + 1 : Nat) : Int)))), (2, .int (zI ((sp_blL (gS g) (gW g) h (i + 1) : Int)))), (5, .int (zI (0))), (3, .int (zI (1))), (0, .ref r9), (1, .int (zI ((h : Int))))]) rfl ?_
                refine hv_goto C dX9_blown_91 (tgt := 18) (by decide) ?_
                refine hv_lsub [0, 3, 1, 4, 5] (lv' := [(4, .int (zI (((i + 1 : Nat) : Int)))), (3, .int (zI (1))), (2, .int (zI ((sp_blL (gS g) (gW g) h (i + 1) : Int)))), (0, .ref r9), (1, .int (zI ((h : Int))))]) rfl ?_
                obtain ⟨k, rfl⟩ : ∃ k, n9 = k + 1 := ⟨n9 - 1, by omega⟩
                exact ih k (i + 1) (by omega) ⟨by omega, fun _ => by omega⟩
              · exfalso; omega
            · refine hv_iconst C dX9_blown_63 (v := zI (1)) rfl ?_
              refine hv_goto C dX9_blown_64 (tgt := 68) (by decide) ?_
              refine hv_istore C dX9_blown_68 (lw := [(5, .int (zI (1))), (4, .int (zI ((i : Int)))), (3, .int (zI (1))), (2, .int (zI ((sp_blL (gS g) (gW g) h i : Int)))), (0, .ref r9), (1, .int (zI ((h : Int))))]) (by decide) rfl ?_
              have hixx : ((i : Int) + (1)).toNat = i + 1 ∨ i = 0 := by omega
              have hls : sp_ls (gS g) (gW g) h i = true := by unfold sp_ls; rw [if_neg hw1]; simp only [Bool.and_eq_true, decide_eq_true_eq]; have hz : ((i : Int) + (1)).toNat = i + 1 := (by omega); rw [hz] at hc60; omega
              refine hv_iload_n C dX9_blown_70 3 rfl ?_
              refine hv_iload C dX9_blown_71 0 rfl ?_
              refine hv_if_eq C dX9_blown_73 (tgt := 85) (by decide) (zI_eq0 (by omega)) (fun hc73 => ?_) (fun hc73 => ?_)
              · exfalso; omega
              · refine hv_iconst C dX9_blown_76 (v := zI (1)) rfl ?_
                refine hv_iconst C dX9_blown_77 (v := zI (2)) rfl ?_
                refine hv_iload C dX9_blown_78 1 rfl ?_
                refine hv_imul C dX9_blown_80 (zI_mul _ _) ?_
                refine hv_ishl C dX9_blown_81 rfl ?_
                refine hv_topi (y := zI (((4 ^ i : Nat) : Int))) (by exact sp_sh1 i (by omega)) ?_
                refine hv_goto C dX9_blown_82 (tgt := 86) (by decide) ?_
                have hble := sp_blL_sub (S := gS g) (w := gW g) (h := h) (n := i)
                refine hv_isub C dX9_blown_86 (z := zI ((sp_blL (gS g) (gW g) h (i + 1) : Int))) ((zI_sub _ _).trans (zI_c (by rw [sp_blL]; rw [if_pos hls]; first | omega | (have := hble hls; omega)))) ?_
                refine hv_istore_n C dX9_blown_87 (lw := [(2, .int (zI ((sp_blL (gS g) (gW g) h (i + 1) : Int)))), (5, .int (zI (1))), (4, .int (zI ((i : Int)))), (3, .int (zI (1))), (0, .ref r9), (1, .int (zI ((h : Int))))]) (by decide) rfl ?_
                refine hv_iinc C dX9_blown_88 2 rfl (v := zI (((i + 1 : Nat) : Int))) ((zI_add _ _).trans (zI_c (by omega))) (by decide) (lw := [(4, .int (zI (((i + 1 : Nat) : Int)))), (2, .int (zI ((sp_blL (gS g) (gW g) h (i + 1) : Int)))), (5, .int (zI (1))), (3, .int (zI (1))), (0, .ref r9), (1, .int (zI ((h : Int))))]) rfl ?_
                refine hv_goto C dX9_blown_91 (tgt := 18) (by decide) ?_
                refine hv_lsub [0, 3, 1, 4, 5] (lv' := [(4, .int (zI (((i + 1 : Nat) : Int)))), (3, .int (zI (1))), (2, .int (zI ((sp_blL (gS g) (gW g) h (i + 1) : Int)))), (0, .ref r9), (1, .int (zI ((h : Int))))]) rfl ?_
                obtain ⟨k, rfl⟩ : ∃ k, n9 = k + 1 := ⟨n9 - 1, by omega⟩
                exact ih k (i + 1) (by omega) ⟨by omega, fun _ => by omega⟩
  · have hw1 : gW g = 1 := by omega
    refine hv_iconst C dX9_blown_9 (v := zI (-1)) rfl ?_
    refine hv_goto C dX9_blown_10 (tgt := 14) (by decide) ?_
    refine hv_istore_n C dX9_blown_14 (lw := [(3, .int (zI (-1))), (2, .int (zI ((h : Int)))), (0, .ref r9), (1, .int (zI ((h : Int))))]) (by decide) rfl ?_
    refine hv_iconst C dX9_blown_15 (v := zI (0)) rfl ?_
    refine hv_istore C dX9_blown_16 (lw := [(4, .int (zI (0))), (3, .int (zI (-1))), (2, .int (zI ((h : Int)))), (0, .ref r9), (1, .int (zI ((h : Int))))]) (by decide) rfl ?_
    refine hv_loop (σ := Nat) (fun n9 x => x + n9 = gS g ∧ (0 < x → 0 < gW g)) (fun x => [(r9, .inl (dA 0, 12, .inl (fun i => zI (g i))))]) (fun x => [(4, .int (zI ((x : Int)))), (3, .int (zI (-1))), (2, .int (zI ((sp_blL (gS g) (gW g) h x : Int)))), (0, .ref r9), (1, .int (zI ((h : Int))))]) (fun x => []) (fun _ => 0) (fun _ => 0) (gS g) (0) (⟨Nat.zero_add _, fun q => absurd q (Nat.lt_irrefl _)⟩) (⟨rfl, rfl, rfl, rfl, rfl⟩) (fun n9 x hI ih => ?_)
    obtain ⟨i, rfl⟩ : ∃ i, i = x := ⟨x, rfl⟩
    obtain ⟨hi1, hi2⟩ := hI
    refine hv_iload C dX9_blown_18 0 rfl ?_
    refine hv_aload_n C dX9_blown_20 3 rfl ?_
    refine hv_iconst C dX9_blown_21 (v := zI (0)) rfl ?_
    refine hv_iald C dX9_blown_22 0 rfl (0) (rfl) (by omega) (by omega) (v := (zI (g 0))) rfl ?_
    refine hv_icmp_ge C dX9_blown_23 (tgt := 94) (by decide) (zI_le (by omega)) (fun hc23 => ?_) (fun hc23 => ?_)
    · refine hv_iload_n C dX9_blown_94 2 rfl ?_
      exact hv_iret C M dX9_blown_95 rfl rfl () trivial (hv_rv (mz_ble hi1 hi2 (by omega)).symm) [] (List.Perm.of_eq (by first | rfl | exact (List.append_nil _).symm)) (Nat.le_refl _) (Nat.le_refl _)
    · have hiS : i < gS g := by omega
      refine hv_aload_n C dX9_blown_26 3 rfl ?_
      refine hv_iconst C dX9_blown_27 (v := zI (2)) rfl ?_
      refine hv_iald C dX9_blown_28 0 rfl (2) (rfl) (by omega) (by omega) (v := (zI (g 2))) rfl ?_
      refine hv_if_le C dX9_blown_29 (tgt := 94) (by decide) (zI_le0 (by omega)) (fun hc29 => ?_) (fun hc29 => ?_)
      · refine hv_iload_n C dX9_blown_94 2 rfl ?_
        exact hv_iret C M dX9_blown_95 rfl rfl () trivial (hv_rv (mz_ble hi1 hi2 (by omega)).symm) [] (List.Perm.of_eq (by first | rfl | exact (List.append_nil _).symm)) (Nat.le_refl _) (Nat.le_refl _)
      · refine hv_iload_n C dX9_blown_32 4 rfl ?_
        refine hv_iload C dX9_blown_33 0 rfl ?_
        refine hv_callS (As := [.int (zI ((h : Int))), .int (zI ((i : Int)))]) (rest := []) (wc := []) (wr := [(r9, .inl (dA 0, 12, .inl (fun i => zI (g i))))]) C (k_X9_leavesOf l D dA (h) (i) (by omega) (by omega) (by omega) (by omega)) (va_cwS 2 C.1.2.2.2.2 (hw_S tw_m_RX9_47 tw_t_X9_leavesOf tw_n_RX9 tw_k_X9_leavesOf) rfl rfl rfl (by decide +kernel) ⟨Nat.le_of_ble_eq_true rfl, Nat.le_of_ble_eq_true rfl⟩) (hv_pm [] rfl) rfl rfl (Nat.le_of_ble_eq_true rfl) dX9_blown_35 ⟨Nat.le_of_ble_eq_true rfl, Nat.le_of_ble_eq_true rfl⟩ (fun _ _ => ?_)
        have hdl35 := sp_dg_lt (h) (i)
        refine hv_eqst (st' := [.int (zI ((sp_dg (h) (i) : Int)))]) rfl ?_
        refine hv_weq (ws' := [(r9, .inl (dA 0, 12, .inl (fun i => zI (g i))))]) (rfl) ?_
        refine hv_if_le C dX9_blown_38 (tgt := 67) (by decide) (zI_le0 (by omega)) (fun hc38 => ?_) (fun hc38 => ?_)
        · refine hv_iconst C dX9_blown_67 (v := zI (0)) rfl ?_
          refine hv_istore C dX9_blown_68 (lw := [(5, .int (zI (0))), (4, .int (zI ((i : Int)))), (3, .int (zI (-1))), (2, .int (zI ((sp_blL (gS g) (gW g) h i : Int)))), (0, .ref r9), (1, .int (zI ((h : Int))))]) (by decide) rfl ?_
          have hixx : ((i : Int) + (-1)).toNat = i - 1 ∨ i = 0 := by omega
          have hls : ¬ sp_ls (gS g) (gW g) h i = true := by unfold sp_ls; rw [if_pos hw1]; simp only [Bool.and_eq_true, decide_eq_true_eq]; intro q; have hz : ((i : Int) + (-1)).toNat = i - 1 := (by omega); first | omega | (rw [hz] at hc60; omega)
          refine hv_iload_n C dX9_blown_70 3 rfl ?_
          refine hv_iload C dX9_blown_71 0 rfl ?_
          refine hv_if_eq C dX9_blown_73 (tgt := 85) (by decide) (zI_eq0 (by omega)) (fun hc73 => ?_) (fun hc73 => ?_)
          · refine hv_iconst C dX9_blown_85 (v := zI (0)) rfl ?_
            have hble := True.intro
            refine hv_isub C dX9_blown_86 (z := zI ((sp_blL (gS g) (gW g) h (i + 1) : Int))) ((zI_sub _ _).trans (zI_c (by rw [sp_blL]; rw [if_neg hls]; first | omega | (have := hble hls; omega)))) ?_
            refine hv_istore_n C dX9_blown_87 (lw := [(2, .int (zI ((sp_blL (gS g) (gW g) h (i + 1) : Int)))), (5, .int (zI (0))), (4, .int (zI ((i : Int)))), (3, .int (zI (-1))), (0, .ref r9), (1, .int (zI ((h : Int))))]) (by decide) rfl ?_
            refine hv_iinc C dX9_blown_88 2 rfl (v := zI (((i + 1 : Nat) : Int))) ((zI_add _ _).trans (zI_c (by omega))) (by decide) (lw := [(4, .int (zI (((i + 1 : Nat) : Int)))), (2, .int (zI ((sp_blL (gS g) (gW g) h (i + 1) : Int)))), (5, .int (zI (0))), (3, .int (zI (-1))), (0, .ref r9), (1, .int (zI ((h : Int))))]) rfl ?_
            refine hv_goto C dX9_blown_91 (tgt := 18) (by decide) ?_
            refine hv_lsub [0, 3, 1, 4, 5] (lv' := [(4, .int (zI (((i + 1 : Nat) : Int)))), (3, .int (zI (-1))), (2, .int (zI ((sp_blL (gS g) (gW g) h (i + 1) : Int)))), (0, .ref r9), (1, .int (zI ((h : Int))))]) rfl ?_
            obtain ⟨k, rfl⟩ : ∃ k, n9 = k + 1 := ⟨n9 - 1, by omega⟩
            exact ih k (i + 1) (by omega) ⟨by omega, fun _ => by omega⟩
          · exfalso; omega
        · refine hv_aload_n C dX9_blown_41 3 rfl ?_
          refine hv_iload C dX9_blown_42 0 rfl ?_
          refine hv_iload_n C dX9_blown_44 1 rfl ?_
          refine hv_iadd C dX9_blown_45 (zI_add _ _) ?_
          refine hv_callS (As := [.ref r9, .int (zI (((i : Int)) + (-1)))]) (rest := []) (wc := [(r9, .inl (dA 0, 12, .inl (fun i => zI (g i))))]) (wr := []) C (k_X9_isStem l D dA r9 g (by omega) (((i : Int)) + (-1)) (by omega)) (va_cwS 2 C.1.2.2.2.2 (hw_S tw_m_RX9_53 tw_t_X9_isStem tw_n_RX9 tw_k_X9_isStem) rfl rfl rfl (by decide +kernel) ⟨Nat.le_of_ble_eq_true rfl, Nat.le_of_ble_eq_true rfl⟩) (hv_pm [0] rfl) rfl rfl (Nat.le_of_ble_eq_true rfl) dX9_blown_46 ⟨Nat.le_of_ble_eq_true rfl, Nat.le_of_ble_eq_true rfl⟩ (fun _ _ => ?_)
          refine hv_eqst (st' := [.int (zI (zB (decide (0 ≤ ((i : Int)) + (-1) ∧ ((i : Int)) + (-1) < g 0))))]) rfl ?_
          refine hv_weq (ws' := [(r9, .inl (dA 0, 12, .inl (fun i => zI (g i))))]) (rfl) ?_
          refine hv_if_eq C dX9_blown_49 (tgt := 67) (by decide) zB_0 (fun hc49 => ?_) (fun hc49 => ?_)
          · refine hv_iconst C dX9_blown_67 (v := zI (0)) rfl ?_
            refine hv_istore C dX9_blown_68 (lw := [(5, .int (zI (0))), (4, .int (zI ((i : Int)))), (3, .int (zI (-1))), (2, .int (zI ((sp_blL (gS g) (gW g) h i : Int)))), (0, .ref r9), (1, .int (zI ((h : Int))))]) (by decide) rfl ?_
            have hixx : ((i : Int) + (-1)).toNat = i - 1 ∨ i = 0 := by omega
            have hls : ¬ sp_ls (gS g) (gW g) h i = true := by unfold sp_ls; rw [if_pos hw1]; simp only [Bool.and_eq_true, decide_eq_true_eq]; intro q; have hz : ((i : Int) + (-1)).toNat = i - 1 := (by omega); first | omega | (rw [hz] at hc60; omega)
            refine hv_iload_n C dX9_blown_70 3 rfl ?_
            refine hv_iload C dX9_blown_71 0 rfl ?_
            refine hv_if_eq C dX9_blown_73 (tgt := 85) (by decide) (zI_eq0 (by omega)) (fun hc73 => ?_) (fun hc73 => ?_)
            · refine hv_iconst C dX9_blown_85 (v := zI (0)) rfl ?_
              have hble := True.intro
              refine hv_isub C dX9_blown_86 (z := zI ((sp_blL (gS g) (gW g) h (i + 1) : Int))) ((zI_sub _ _).trans (zI_c (by rw [sp_blL]; rw [if_neg hls]; first | omega | (have := hble hls; omega)))) ?_
              refine hv_istore_n C dX9_blown_87 (lw := [(2, .int (zI ((sp_blL (gS g) (gW g) h (i + 1) : Int)))), (5, .int (zI (0))), (4, .int (zI ((i : Int)))), (3, .int (zI (-1))), (0, .ref r9), (1, .int (zI ((h : Int))))]) (by decide) rfl ?_
              refine hv_iinc C dX9_blown_88 2 rfl (v := zI (((i + 1 : Nat) : Int))) ((zI_add _ _).trans (zI_c (by omega))) (by decide) (lw := [(4, .int (zI (((i + 1 : Nat) : Int)))), (2, .int (zI ((sp_blL (gS g) (gW g) h (i + 1) : Int)))), (5, .int (zI (0))), (3, .int (zI (-1))), (0, .ref r9), (1, .int (zI ((h : Int))))]) rfl ?_
              refine hv_goto C dX9_blown_91 (tgt := 18) (by decide) ?_
              refine hv_lsub [0, 3, 1, 4, 5] (lv' := [(4, .int (zI (((i + 1 : Nat) : Int)))), (3, .int (zI (-1))), (2, .int (zI ((sp_blL (gS g) (gW g) h (i + 1) : Int)))), (0, .ref r9), (1, .int (zI ((h : Int))))]) rfl ?_
              obtain ⟨k, rfl⟩ : ∃ k, n9 = k + 1 := ⟨n9 - 1, by omega⟩
              exact ih k (i + 1) (by omega) ⟨by omega, fun _ => by omega⟩
            · exfalso; omega
          · have hc49 := Decidable.not_not.mp hc49
            refine hv_iload_n C dX9_blown_52 4 rfl ?_
            refine hv_iload C dX9_blown_53 0 rfl ?_
            refine hv_iload_n C dX9_blown_55 1 rfl ?_
            refine hv_iadd C dX9_blown_56 (zI_add _ _) ?_
            refine hv_callS (As := [.int (zI ((h : Int))), .int (zI (((i : Int)) + (-1)))]) (rest := []) (wc := []) (wr := [(r9, .inl (dA 0, 12, .inl (fun i => zI (g i))))]) C (k_X9_leavesOf l D dA h (((i : Int)) + (-1)).toNat rfl (by omega) (by omega) (by omega)) (va_cwS 2 C.1.2.2.2.2 (hw_S tw_m_RX9_47 tw_t_X9_leavesOf tw_n_RX9 tw_k_X9_leavesOf) rfl rfl rfl (by decide +kernel) ⟨Nat.le_of_ble_eq_true rfl, Nat.le_of_ble_eq_true rfl⟩) (hv_pm [] rfl) rfl rfl (Nat.le_of_ble_eq_true rfl) dX9_blown_57 ⟨Nat.le_of_ble_eq_true rfl, Nat.le_of_ble_eq_true rfl⟩ (fun _ _ => ?_)
            have hdm := sp_dg_lt h (((i : Int)) + (-1)).toNat
            refine hv_eqst (st' := [.int (zI ((sp_dg h (((i : Int)) + (-1)).toNat : Int)))]) rfl ?_
            refine hv_weq (ws' := [(r9, .inl (dA 0, 12, .inl (fun i => zI (g i))))]) (rfl) ?_
            refine hv_if_ne C dX9_blown_60 (tgt := 67) (by decide) (zI_ne0 (by omega)) (fun hc60 => ?_) (fun hc60 => ?_)
            · refine hv_iconst C dX9_blown_67 (v := zI (0)) rfl ?_
              refine hv_istore C dX9_blown_68 (lw := [(5, .int (zI (0))), (4, .int (zI ((i : Int)))), (3, .int (zI (-1))), (2, .int (zI ((sp_blL (gS g) (gW g) h i : Int)))), (0, .ref r9), (1, .int (zI ((h : Int))))]) (by decide) rfl ?_
              have hixx : ((i : Int) + (-1)).toNat = i - 1 ∨ i = 0 := by omega
              have hls : ¬ sp_ls (gS g) (gW g) h i = true := by unfold sp_ls; rw [if_pos hw1]; simp only [Bool.and_eq_true, decide_eq_true_eq]; intro q; have hz : ((i : Int) + (-1)).toNat = i - 1 := (by omega); first | omega | (rw [hz] at hc60; omega)
              refine hv_iload_n C dX9_blown_70 3 rfl ?_
              refine hv_iload C dX9_blown_71 0 rfl ?_
              refine hv_if_eq C dX9_blown_73 (tgt := 85) (by decide) (zI_eq0 (by omega)) (fun hc73 => ?_) (fun hc73 => ?_)
              · refine hv_iconst C dX9_blown_85 (v := zI (0)) rfl ?_
                have hble := True.intro
                refine hv_isub C dX9_blown_86 (z := zI ((sp_blL (gS g) (gW g) h (i + 1) : Int))) ((zI_sub _ _).trans (zI_c (by rw [sp_blL]; rw [if_neg hls]; first | omega | (have := hble hls; omega)))) ?_
                refine hv_istore_n C dX9_blown_87 (lw := [(2, .int (zI ((sp_blL (gS g) (gW g) h (i + 1) : Int)))), (5, .int (zI (0))), (4, .int (zI ((i : Int)))), (3, .int (zI (-1))), (0, .ref r9), (1, .int (zI ((h : Int))))]) (by decide) rfl ?_
                refine hv_iinc C dX9_blown_88 2 rfl (v := zI (((i + 1 : Nat) : Int))) ((zI_add _ _).trans (zI_c (by omega))) (by decide) (lw := [(4, .int (zI (((i + 1 : Nat) : Int)))), (2, .int (zI ((sp_blL (gS g) (gW g) h (i + 1) : Int)))), (5, .int (zI (0))), (3, .int (zI (-1))), (0, .ref r9), (1, .int (zI ((h : Int))))]) rfl ?_
                refine hv_goto C dX9_blown_91 (tgt := 18) (by decide) ?_
                refine hv_lsub [0, 3, 1, 4, 5] (lv' := [(4, .int (zI (((i + 1 : Nat) : Int)))), (3, .int (zI (-1))), (2, .int (zI ((sp_blL (gS g) (gW g) h (i + 1) : Int)))), (0, .ref r9), (1, .int (zI ((h : Int))))]) rfl ?_
                obtain ⟨k, rfl⟩ : ∃ k, n9 = k + 1 := ⟨n9 - 1, by omega⟩
                exact ih k (i + 1) (by omega) ⟨by omega, fun _ => by omega⟩
              · exfalso; omega
            · refine hv_iconst C dX9_blown_63 (v := zI (1)) rfl ?_
              refine hv_goto C dX9_blown_64 (tgt := 68) (by decide) ?_
              refine hv_istore C dX9_blown_68 (lw := [(5, .int (zI (1))), (4, .int (zI ((i : Int)))), (3, .int (zI (-1))), (2, .int (zI ((sp_blL (gS g) (gW g) h i : Int)))), (0, .ref r9), (1, .int (zI ((h : Int))))]) (by decide) rfl ?_
              have hixx : ((i : Int) + (-1)).toNat = i - 1 ∨ i = 0 := by omega
              have hls : sp_ls (gS g) (gW g) h i = true := by unfold sp_ls; rw [if_pos hw1]; simp only [Bool.and_eq_true, decide_eq_true_eq]; have hz : ((i : Int) + (-1)).toNat = i - 1 := (by omega); rw [hz] at hc60; omega
              refine hv_iload_n C dX9_blown_70 3 rfl ?_
              refine hv_iload C dX9_blown_71 0 rfl ?_
              refine hv_if_eq C dX9_blown_73 (tgt := 85) (by decide) (zI_eq0 (by omega)) (fun hc73 => ?_) (fun hc73 => ?_)
              · exfalso; omega
              · refine hv_iconst C dX9_blown_76 (v := zI (1)) rfl ?_
                refine hv_iconst C dX9_blown_77 (v := zI (2)) rfl ?_
                refine hv_iload C dX9_blown_78 1 rfl ?_
                refine hv_imul C dX9_blown_80 (zI_mul _ _) ?_
                refine hv_ishl C dX9_blown_81 rfl ?_
                refine hv_topi (y := zI (((4 ^ i : Nat) : Int))) (by exact sp_sh1 i (by omega)) ?_
                refine hv_goto C dX9_blown_82 (tgt := 86) (by decide) ?_
                have hble := sp_blL_sub (S := gS g) (w := gW g) (h := h) (n := i)
                refine hv_isub C dX9_blown_86 (z := zI ((sp_blL (gS g) (gW g) h (i + 1) : Int))) ((zI_sub _ _).trans (zI_c (by rw [sp_blL]; rw [if_pos hls]; first | omega | (have := hble hls; omega)))) ?_
                refine hv_istore_n C dX9_blown_87 (lw := [(2, .int (zI ((sp_blL (gS g) (gW g) h (i + 1) : Int)))), (5, .int (zI (1))), (4, .int (zI ((i : Int)))), (3, .int (zI (-1))), (0, .ref r9), (1, .int (zI ((h : Int))))]) (by decide) rfl ?_
                refine hv_iinc C dX9_blown_88 2 rfl (v := zI (((i + 1 : Nat) : Int))) ((zI_add _ _).trans (zI_c (by omega))) (by decide) (lw := [(4, .int (zI (((i + 1 : Nat) : Int)))), (2, .int (zI ((sp_blL (gS g) (gW g) h (i + 1) : Int)))), (5, .int (zI (1))), (3, .int (zI (-1))), (0, .ref r9), (1, .int (zI ((h : Int))))]) rfl ?_
                refine hv_goto C dX9_blown_91 (tgt := 18) (by decide) ?_
                refine hv_lsub [0, 3, 1, 4, 5] (lv' := [(4, .int (zI (((i + 1 : Nat) : Int)))), (3, .int (zI (-1))), (2, .int (zI ((sp_blL (gS g) (gW g) h (i + 1) : Int)))), (0, .ref r9), (1, .int (zI ((h : Int))))]) rfl ?_
                obtain ⟨k, rfl⟩ : ∃ k, n9 = k + 1 := ⟨n9 - 1, by omega⟩
                exact ih k (i + 1) (by omega) ⟨by omega, fun _ => by omega⟩
