/-! digits behind a clip and the wind -/
theorem sp_dg_sub {x j m : Nat} (i : Nat) (hm : m ≤ sp_dg x j) : sp_dg (x - m * 4 ^ j) i = if i = j then sp_dg x j - m else sp_dg x i := by
  have hx : m * 4 ^ j ≤ x := by
    have h1 : sp_dg x j * 4 ^ j ≤ x / 4 ^ j * 4 ^ j := Nat.mul_le_mul_right _ (Nat.mod_le _ _)
    have h2 := Nat.div_mul_le_self x (4 ^ j)
    have h3 : m * 4 ^ j ≤ sp_dg x j * 4 ^ j := Nat.mul_le_mul_right _ hm
    omega
  have hj : (x - m * 4 ^ j) / 4 ^ j = x / 4 ^ j - m := by
    rw [Nat.mul_comm m]
    exact Nat.sub_mul_div x (4 ^ j) m
  unfold sp_dg at hm ⊢
  rcases Nat.lt_trichotomy i j with g | g | g
  · rw [if_neg (by omega)]
    obtain ⟨t, rfl⟩ : ∃ t, j = i + 1 + t := ⟨j - i - 1, by omega⟩
    have e : m * 4 ^ (i + 1 + t) = 4 ^ i * (4 * (m * 4 ^ t)) := by
      rw [Nat.pow_add, Nat.pow_succ]
      simp only [Nat.mul_comm, Nat.mul_left_comm, Nat.mul_assoc]
    rw [e] at hx ⊢
    rw [Nat.sub_mul_div x (4 ^ i) (4 * (m * 4 ^ t))]
    have h9 : 4 * (m * 4 ^ t) ≤ x / 4 ^ i := by
      rw [Nat.le_div_iff_mul_le (Nat.pow_pos (by decide)), Nat.mul_comm]
      exact hx
    clear hm hj e hx
    generalize x / 4 ^ i = y at h9 ⊢
    generalize m * 4 ^ t = z at h9 ⊢
    omega
  · subst g
    rw [if_pos rfl, hj]
    clear hj hx
    generalize x / 4 ^ i = y at hm ⊢
    omega
  · rw [if_neg (by omega)]
    obtain ⟨t, rfl⟩ : ∃ t, i = j + 1 + t := ⟨i - j - 1, by omega⟩
    have e : ∀ y, y / 4 ^ (j + 1 + t) = y / 4 ^ j / 4 / 4 ^ t := fun y => by
      rw [Nat.pow_add, Nat.pow_succ, Nat.div_div_eq_div_mul, Nat.div_div_eq_div_mul, Nat.mul_assoc]
    rw [e, e, hj]
    have h8 : (x / 4 ^ j - m) / 4 = x / 4 ^ j / 4 := by
      clear hj hx e
      generalize x / 4 ^ j = y at hm ⊢
      omega
    rw [h8]
theorem sp_cut_dg (h k a : Nat) (i : Nat) : ∀ n, sp_dg (sp_cut h k a n) i = if a ≤ i ∧ i < a + n then sp_dg h i - min k (sp_dg h i) else sp_dg h i
  | 0 => by rw [sp_cut, if_neg (by omega)]
  | n + 1 => by
    have e := sp_cut_dg h k a (a + n) n
    rw [if_neg (by omega)] at e
    rw [sp_cut, sp_dg_sub i (by rw [e]; exact Nat.min_le_right _ _), e, sp_cut_dg h k a i n]
    by_cases g : i = a + n
    · subst g
      rw [if_pos rfl, if_pos ⟨by omega, by omega⟩]
    · rw [if_neg g]
      by_cases q : a ≤ i ∧ i < a + n
      · rw [if_pos q, if_pos ⟨by omega, by omega⟩]
      · rw [if_neg q, if_neg (by omega)]
theorem sp_cut_dg_le (h k a n i : Nat) : sp_dg (sp_cut h k a n) i ≤ sp_dg h i := by
  rw [sp_cut_dg]
  split <;> omega
theorem sp_blL_dg (S w h i : Nat) : ∀ n, sp_dg (sp_blL S w h n) i = if i < n ∧ sp_ls S w h i = true then sp_dg h i - 1 else sp_dg h i
  | 0 => by rw [sp_blL, if_neg (by omega)]
  | n + 1 => by
    have e := sp_blL_dg S w h n n
    rw [if_neg (by omega)] at e
    rw [sp_blL]
    by_cases q : sp_ls S w h n = true
    · have h5 : 1 ≤ sp_dg h n := by
        unfold sp_ls at q
        split at q <;> (simp only [Bool.and_eq_true, decide_eq_true_eq] at q; omega)
      rw [if_pos q]
      have e2 := sp_dg_sub (x := sp_blL S w h n) (j := n) (m := 1) i (by rw [e]; exact h5)
      rw [Nat.one_mul] at e2
      rw [e2, e, sp_blL_dg S w h i n]
      by_cases g : i = n
      · subst g
        rw [if_pos rfl, if_pos ⟨by omega, q⟩]
      · rw [if_neg g]
        by_cases z : sp_ls S w h i = true
        · by_cases y : i < n
          · rw [if_pos ⟨y, z⟩, if_pos ⟨by omega, z⟩]
          · rw [if_neg (fun u => y u.1), if_neg (fun u => y (by omega))]
        · rw [if_neg (fun u => z u.2), if_neg (fun u => z u.2)]
    · rw [if_neg q, Nat.sub_zero, sp_blL_dg S w h i n]
      by_cases z : sp_ls S w h i = true
      · have g : i ≠ n := fun u => q (u ▸ z)
        by_cases y : i < n
        · rw [if_pos ⟨y, z⟩, if_pos ⟨by omega, z⟩]
        · rw [if_neg (fun u => y u.1), if_neg (fun u => y (by omega))]
      · rw [if_neg (fun u => z u.2), if_neg (fun u => z u.2)]
theorem sp_bl_dg_le (S w h i : Nat) : sp_dg (sp_bl S w h) i ≤ sp_dg h i := by
  unfold sp_bl
  split
  · exact Nat.le_refl _
  · rw [sp_blL_dg]
    split <;> omega
theorem sp_bh_dg_le (S w h c i : Nat) : sp_dg (sp_bh S w h c) i ≤ sp_dg (sp_cc h c) i := sp_bl_dg_le _ _ _ _
theorem sp_lv_mono {x y : Nat} (h : ∀ i, sp_dg x i ≤ sp_dg y i) : sp_lv x ≤ sp_lv y := by
  have h0 := h 0; have h1 := h 1; have h2 := h 2; have h3 := h 3; have h4 := h 4; have h5 := h 5
  unfold sp_lv
  omega
theorem sp_lcx : ∀ h : Nat, h < 4096 → sp_lc h = min (sp_dg h 0) 1 + min (sp_dg h 1) 1 + min (sp_dg h 2) 1 + min (sp_dg h 3) 1 + min (sp_dg h 4) 1 + min (sp_dg h 5) 1 := sp_all (by decide +kernel)
theorem sp_lc_mono {x y : Nat} (hx : x < 4096) (hy : y < 4096) (h : ∀ i, sp_dg x i ≤ sp_dg y i) : sp_lc x ≤ sp_lc y := by
  have h0 := h 0; have h1 := h 1; have h2 := h 2; have h3 := h 3; have h4 := h 4; have h5 := h 5
  rw [sp_lcx x hx, sp_lcx y hy]
  omega
theorem sp_lc6 {h : Nat} (hh : h < 4096) : sp_lc h ≤ 6 := by
  rw [sp_lcx h hh]
  omega
theorem sp_lv18 (h : Nat) : sp_lv h ≤ 18 := by
  have h0 := sp_dg_lt h 0; have h1 := sp_dg_lt h 1; have h2 := sp_dg_lt h 2; have h3 := sp_dg_lt h 3; have h4 := sp_dg_lt h 4; have h5 := sp_dg_lt h 5
  unfold sp_lv
  omega
/-- a clip's number is in order -/
def sp_ok (S c : Nat) : Prop := c / 100 ≤ c / 10 % 10 ∧ c / 10 % 10 < S ∧ 1 ≤ c % 10 ∧ c % 10 ≤ 3
theorem sp_cc_lv {S h c : Nat} (hS : S ≤ 6) (hc : sp_ok S c) (hn : ¬ sp_cc h c = h) : sp_lv (sp_cc h c) < sp_lv h := by
  obtain ⟨c1, c2, c3, c4⟩ := hc
  have hle : ∀ i, sp_dg (sp_cc h c) i ≤ sp_dg h i := fun i => sp_cut_dg_le _ _ _ _ _
  have hx : ∃ i, i < 6 ∧ sp_dg (sp_cc h c) i < sp_dg h i := by
    apply Classical.byContradiction
    intro q
    refine hn ?_
    unfold sp_cc
    rw [sp_cut_eq h _ c3]
    intro i hi
    have q2 : ¬ sp_dg (sp_cc h c) (c / 100 + i) < sp_dg h (c / 100 + i) := fun z => q ⟨_, by omega, z⟩
    unfold sp_cc at q2
    rw [sp_cut_dg, if_pos ⟨by omega, by omega⟩] at q2
    omega
  obtain ⟨i, hi, hlt⟩ := hx
  have h0 := hle 0; have h1 := hle 1; have h2 := hle 2; have h3 := hle 3; have h4 := hle 4; have h5 := hle 5
  unfold sp_lv
  rcases (show i = 0 ∨ i = 1 ∨ i = 2 ∨ i = 3 ∨ i = 4 ∨ i = 5 by omega) with rfl | rfl | rfl | rfl | rfl | rfl <;> omega
theorem sp_bh_lv {S w h c : Nat} (hS : S ≤ 6) (hc : sp_ok S c) (hn : ¬ sp_cc h c = h) : sp_lv (sp_bh S w h c) < sp_lv h :=
  Nat.lt_of_le_of_lt (sp_lv_mono fun i => sp_bh_dg_le S w h c i) (sp_cc_lv hS hc hn)
theorem sp_bh_lt {S w h c : Nat} (hn : ¬ sp_cc h c = h) : sp_bh S w h c < h := by
  have h1 := sp_bl_le S w (sp_cc h c)
  have h2 := sp_cc_le h c
  unfold sp_bh
  omega
theorem sp_bh_lc {S w h c : Nat} (hh : h < 4096) : sp_lc (sp_bh S w h c) ≤ sp_lc h :=
  sp_lc_mono (Nat.lt_of_le_of_lt (sp_bh_le _ _ _ _) hh) hh fun i => Nat.le_trans (sp_bh_dg_le S w h c i) (sp_cut_dg_le _ _ _ _ _)
theorem sp_lv0 : ∀ h : Nat, h < 4096 → 0 < h → 0 < sp_lv h := sp_all (by decide +kernel)
/-! worths, counted in stems -/
def wo_cls (S r : Nat) : List Nat := (List.range S).flatMap fun a => (List.range r).flatMap fun d => if a + d < S then [100 * a + 10 * (a + d) + 1, 100 * a + 10 * (a + d) + 2, 100 * a + 10 * (a + d) + 3] else []
def wo_gain (S w : Nat) (f : Nat → Int) (h c : Nat) : Int := if sp_cc h c = h then -100 else - f (sp_bh S w h c) - ((sp_lc h : Int) - (sp_lc (sp_bh S w h c) : Int))
def wo_fold (S w : Nat) (f : Nat → Int) (h : Nat) (l : List Nat) (m : Int) : Int := l.foldl (fun m c => max m (wo_gain S w f h c)) m
def wo_F (S w r : Nat) : Nat → Nat → Int
  | 0, _ => 0
  | n + 1, h => if h = 0 then 0 else wo_fold S w (wo_F S w r n) h (wo_cls S r) (-100)
def wo (S w r h : Nat) : Int := wo_F S w r h h
theorem wo_gain_congr {S w h c : Nat} {f g : Nat → Int} (hfg : ∀ b, b < h → f b = g b) : wo_gain S w f h c = wo_gain S w g h c := by
  unfold wo_gain
  by_cases q : sp_cc h c = h
  · rw [if_pos q, if_pos q]
  · rw [if_neg q, if_neg q, hfg _ (sp_bh_lt q)]
theorem wo_fold_congr {S w h : Nat} {f g : Nat → Int} (hfg : ∀ b, b < h → f b = g b) : ∀ (l : List Nat) (m : Int), wo_fold S w f h l m = wo_fold S w g h l m
  | [], m => rfl
  | c :: l, m => by
    show wo_fold S w f h l (max m (wo_gain S w f h c)) = wo_fold S w g h l (max m (wo_gain S w g h c))
    rw [wo_gain_congr hfg]
    exact wo_fold_congr hfg l _
theorem wo_Fe (S w r : Nat) : ∀ n m h, h ≤ n → h ≤ m → wo_F S w r n h = wo_F S w r m h
  | 0, m, h, h1, h2 => by
    obtain rfl : h = 0 := by omega
    cases m with
    | zero => rfl
    | succ m => rw [wo_F, wo_F, if_pos rfl]
  | n + 1, 0, h, h1, h2 => by
    obtain rfl : h = 0 := by omega
    rw [wo_F, wo_F, if_pos rfl]
  | n + 1, m + 1, h, h1, h2 => by
    rw [wo_F, wo_F]
    by_cases q : h = 0
    · rw [if_pos q, if_pos q]
    · rw [if_neg q, if_neg q]
      exact wo_fold_congr (fun b hb => wo_Fe S w r n m b (by omega) (by omega)) _ _
theorem wo_0 (S w r : Nat) : wo S w r 0 = 0 := rfl
theorem wo_eq {S w r h : Nat} (hh : 0 < h) : wo S w r h = wo_fold S w (wo S w r) h (wo_cls S r) (-100) := by
  unfold wo
  obtain ⟨n, rfl⟩ : ∃ n, h = n + 1 := ⟨h - 1, by omega⟩
  rw [wo_F, if_neg (by omega)]
  exact wo_fold_congr (fun b hb => wo_Fe S w r n b b (by omega) (Nat.le_refl _)) _ _
theorem wo_fold_le {S w h : Nat} {f : Nat → Int} : ∀ (l : List Nat) (m : Int), m ≤ wo_fold S w f h l m ∧ ∀ c ∈ l, wo_gain S w f h c ≤ wo_fold S w f h l m
  | [], m => ⟨Int.le_refl _, fun c hc => absurd hc List.not_mem_nil⟩
  | c :: l, m => by
    obtain ⟨h1, h2⟩ := wo_fold_le (S := S) (w := w) (h := h) (f := f) l (max m (wo_gain S w f h c))
    have e : wo_fold S w f h (c :: l) m = wo_fold S w f h l (max m (wo_gain S w f h c)) := rfl
    rw [e]
    refine ⟨by omega, fun c2 hc2 => ?_⟩
    rcases List.mem_cons.mp hc2 with q | q
    · subst q
      omega
    · exact h2 c2 q
theorem wo_fold_is {S w h : Nat} {f : Nat → Int} : ∀ (l : List Nat) (m : Int), wo_fold S w f h l m = m ∨ ∃ c ∈ l, wo_fold S w f h l m = wo_gain S w f h c
  | [], m => Or.inl rfl
  | c :: l, m => by
    have e : wo_fold S w f h (c :: l) m = wo_fold S w f h l (max m (wo_gain S w f h c)) := rfl
    rw [e]
    rcases wo_fold_is (S := S) (w := w) (h := h) (f := f) l (max m (wo_gain S w f h c)) with q | ⟨c2, h1, h2⟩
    · rw [q]
      rcases Int.le_total m (wo_gain S w f h c) with z | z
      · exact Or.inr ⟨c, List.mem_cons_self, by omega⟩
      · exact Or.inl (by omega)
    · exact Or.inr ⟨c2, List.mem_cons_of_mem _ h1, h2⟩
theorem wo_cls_ok : ∀ S, S < 7 → ∀ r, r < 4 → ∀ c ∈ wo_cls S r, sp_ok S c := by
  have h : ∀ S : Nat, S < 7 → (List.range 4).all (fun r => (wo_cls S r).all fun c => decide (c / 100 ≤ c / 10 % 10) && decide (c / 10 % 10 < S) && decide (1 ≤ c % 10) && decide (c % 10 ≤ 3)) = true := sp_all (by decide +kernel)
  intro S hS r hr c hc
  have h1 := List.all_eq_true.mp (List.all_eq_true.mp (h S hS) r (List.mem_range.mpr hr)) c hc
  simp only [Bool.and_eq_true, decide_eq_true_eq] at h1
  exact ⟨h1.1.1.1, h1.1.1.2, h1.1.2, h1.2⟩
theorem wo_cls_one {S r i : Nat} (hr : 1 ≤ r) (hi : i < S) : 110 * i + 1 ∈ wo_cls S r := by
  refine List.mem_flatMap.mpr ⟨i, List.mem_range.mpr hi, List.mem_flatMap.mpr ⟨0, List.mem_range.mpr hr, ?_⟩⟩
  rw [if_pos (by omega)]
  exact List.mem_cons.mpr (Or.inl (by omega))
/-- a hedge that isn't over has a clip that is possible -/
theorem wo_some {S r h : Nat} (hS : 2 ≤ S ∧ S ≤ 6) (hr : 1 ≤ r) (hh : h < 4 ^ S) (h0 : 0 < h) : ∃ c ∈ wo_cls S r, ¬ sp_cc h c = h := by
  have hx : ∃ i, i < S ∧ 0 < sp_dg h i := by
    apply Classical.byContradiction
    intro q
    have hz : ∀ i, i < S → h / 4 ^ i = h / 4 ^ (i + 1) * 4 := fun i hi => by
      have h1 : ¬ 0 < sp_dg h i := fun z => q ⟨i, hi, z⟩
      unfold sp_dg at h1
      rw [Nat.pow_succ, ← Nat.div_div_eq_div_mul]
      omega
    have hy : ∀ i, i ≤ S → h = h / 4 ^ i * 4 ^ i := by
      intro i
      induction i with
      | zero => intro _; simp
      | succ i ih =>
        intro hi
        have h1 := ih (by omega)
        rw [hz i (by omega)] at h1
        generalize h / 4 ^ (i + 1) = q at h1 ⊢
        rw [Nat.pow_succ, Nat.mul_comm (4 ^ i) 4, ← Nat.mul_assoc]
        exact h1
    have := hy S (Nat.le_refl _)
    rw [Nat.div_eq_of_lt hh] at this
    omega
  obtain ⟨i, hi, hd⟩ := hx
  refine ⟨110 * i + 1, wo_cls_one hr hi, fun e => ?_⟩
  unfold sp_cc at e
  rw [sp_cut_eq h _ (by omega)] at e
  have h1 : sp_dg h i = 0 := by
    rcases (show i = 0 ∨ i = 1 ∨ i = 2 ∨ i = 3 ∨ i = 4 ∨ i = 5 by omega) with rfl | rfl | rfl | rfl | rfl | rfl <;> exact e 0 (by decide)
  omega
theorem wo_ran {S w r : Nat} (hS : 2 ≤ S ∧ S ≤ 6) (hr : 1 ≤ r ∧ r ≤ 3) : ∀ n h, h ≤ n → h < 4 ^ S → -(sp_lc h : Int) ≤ wo S w r h ∧ wo S w r h ≤ (sp_lc h : Int) := by
  intro n
  induction n with
  | zero =>
    intro h h1 _
    obtain rfl : h = 0 := by omega
    rw [wo_0]
    decide
  | succ n ih =>
    intro h h1 hh
    by_cases q : h = 0
    · subst q
      rw [wo_0]
      decide
    · have hx := sp_hlt hS.2 hh
      have hg : ∀ c ∈ wo_cls S r, ¬ sp_cc h c = h → -(sp_lc h : Int) ≤ wo_gain S w (wo S w r) h c ∧ wo_gain S w (wo S w r) h c ≤ (sp_lc h : Int) := by
        intro c _ hn
        have h3 := sp_bh_lt (S := S) (w := w) hn
        have h4 := ih (sp_bh S w h c) (by omega) (by omega)
        have h5 := sp_bh_lc (S := S) (w := w) (c := c) hx
        unfold wo_gain
        rw [if_neg hn]
        omega
      rw [wo_eq (by omega)]
      obtain ⟨c, hc, hn⟩ := wo_some hS hr.1 hh (by omega)
      have h6 := (wo_fold_le (S := S) (w := w) (h := h) (f := wo S w r) (wo_cls S r) (-100)).2 c hc
      have h7 := hg c hc hn
      have h8 := sp_lc6 hx
      refine ⟨by omega, ?_⟩
      rcases wo_fold_is (S := S) (w := w) (h := h) (f := wo S w r) (wo_cls S r) (-100) with z | ⟨c2, hc2, z⟩
      · rw [z]; omega
      · rw [z]
        by_cases y : sp_cc h c2 = h
        · unfold wo_gain
          rw [if_pos y]
          omega
        · exact (hg c2 hc2 y).2
theorem wo_6 {S w r h : Nat} (hS : 2 ≤ S ∧ S ≤ 6) (hr : 1 ≤ r ∧ r ≤ 3) (hh : h < 4 ^ S) : -6 ≤ wo S w r h ∧ wo S w r h ≤ 6 := by
  have h1 := wo_ran (w := w) hS hr h h (Nat.le_refl _) hh
  have h2 := sp_lc6 (sp_hlt hS.2 hh)
  omega
def wo_cf (S r : Nat) : Nat → Int32 := fun i => zI ((wo_cls S r).getD i 0 : Int)
/-- what the table of worths holds: nothing yet, or the worth and seven -/
def wo_kn (S w r : Nat) (kf : Nat → Int32) : Prop := ∀ h, h < 4 ^ S → kf h = zI 0 ∨ kf h = zI (wo S w r h + 7)
theorem wo_len : ∀ S, S < 7 → ∀ r, r < 4 → (wo_cls S r).length ≤ 45 := by
  have h : ∀ S : Nat, S < 7 → (List.range 4).all (fun r => decide ((wo_cls S r).length ≤ 45)) = true := sp_all (by decide +kernel)
  exact fun S hS r hr => of_decide_eq_true (List.all_eq_true.mp (h S hS) r (List.mem_range.mpr hr))
theorem wo_take {l : List Nat} {i : Nat} (hi : i < l.length) : l.take (i + 1) = l.take i ++ [l.getD i 0] := by
  rw [List.take_succ, List.getElem?_eq_getElem hi, List.getD_eq_getElem?_getD, List.getElem?_eq_getElem hi]
  rfl
theorem wo_mem {l : List Nat} {i : Nat} (hi : i < l.length) : l.getD i 0 ∈ l := by
  rw [List.getD_eq_getElem?_getD, List.getElem?_eq_getElem hi]
  exact List.getElem_mem hi
theorem wo_step {S w h : Nat} {f : Nat → Int} {l : List Nat} {i : Nat} (hi : i < l.length) (m : Int) : wo_fold S w f h (l.take (i + 1)) m = max (wo_fold S w f h (l.take i) m) (wo_gain S w f h (l.getD i 0)) := by
  rw [wo_take hi]
  unfold wo_fold
  rw [List.foldl_append]
  rfl
theorem wo_gran {S w r h c : Nat} (hS : 2 ≤ S ∧ S ≤ 6) (hr : 1 ≤ r ∧ r ≤ 3) (hh : h < 4 ^ S) : -100 ≤ wo_gain S w (wo S w r) h c ∧ wo_gain S w (wo S w r) h c ≤ 6 := by
  have hx := sp_hlt hS.2 hh
  unfold wo_gain
  by_cases q : sp_cc h c = h
  · rw [if_pos q]; omega
  · rw [if_neg q]
    have h3 := sp_bh_lt (S := S) (w := w) q
    have h4 := wo_ran (w := w) hS hr _ (sp_bh S w h c) (Nat.le_refl _) (by omega)
    have h5 := sp_bh_lc (S := S) (w := w) (c := c) hx
    have h8 := sp_lc6 hx
    omega
theorem wo_fran {S w r h : Nat} (hS : 2 ≤ S ∧ S ≤ 6) (hr : 1 ≤ r ∧ r ≤ 3) (hh : h < 4 ^ S) (l : List Nat) : -100 ≤ wo_fold S w (wo S w r) h l (-100) ∧ wo_fold S w (wo S w r) h l (-100) ≤ 6 := by
  have h1 := (wo_fold_le (S := S) (w := w) (h := h) (f := wo S w r) l (-100)).1
  rcases wo_fold_is (S := S) (w := w) (h := h) (f := wo S w r) l (-100) with z | ⟨c2, hc2, z⟩
  · omega
  · have := wo_gran (c := c2) (w := w) hS hr hh
    omega
theorem wo_i8 {z : Int} (h : -100 ≤ z ∧ z ≤ 100) : (zI z).toInt8.toInt32 = zI z := by
  have h1 : ∀ n : Nat, n < 201 → (zI ((n : Int) - 100)).toInt8.toInt32 = zI ((n : Int) - 100) := sp_all (by decide +kernel)
  have h2 := h1 (z + 100).toNat (by omega)
  rw [show (((z + 100).toNat : Nat) : Int) - 100 = z by omega] at h2
  exact h2
theorem wo_kn_upd {S w r : Nat} {kf : Nat → Int32} (h : Nat) (hk : wo_kn S w r kf) : wo_kn S w r (upd kf h (zI (wo S w r h + 7))) := by
  intro b hb
  unfold upd
  by_cases q : b = h
  · subst q
    rw [if_pos rfl]
    exact Or.inr rfl
  · rw [if_neg q]
    exact hk b hb
theorem sp_4S {S : Nat} (hS : S ≤ 6) : 4 ^ S ≤ 4096 := (Nat.pow_le_pow_right (by decide) hS : 4 ^ S ≤ 4 ^ 6)
