/-! what the law's checks rest on, in numbers -/
theorem xc_or_nn {a b : Option String} (h : xc_or a b = none) : a = none ∧ b = none := by
  cases a with
  | some E => exact absurd (show some E = none from h) (by simp)
  | none => exact ⟨rfl, h⟩
/-! the stems, from the last to the first -/
def hb_l (S H : Nat) : Nat → Nat
  | 0 => 0
  | m + 1 => hb_l S H m + sp_dg H (S - 1 - m)
def hb_b (S H : Nat) : Nat → Nat
  | 0 => 0
  | m + 1 => hb_b S H m + (if sp_dg H (S - 1 - m) = 0 then 1 else 0)
def hb_n (S H : Nat) : Nat → Nat
  | 0 => 0
  | m + 1 => 4 * hb_n S H m + sp_dg H (S - 1 - m)
theorem hb_ran (S H : Nat) : ∀ m, hb_l S H m ≤ 3 * m ∧ hb_b S H m ≤ m ∧ hb_n S H m < 4 ^ m
  | 0 => ⟨Nat.le_refl _, Nat.le_refl _, (by show 0 < 4 ^ 0; decide)⟩
  | m + 1 => by
    obtain ⟨h1, h2, h3⟩ := hb_ran S H m
    have h4 := sp_dg_lt H (S - 1 - m)
    rw [hb_l, hb_b, hb_n, Nat.pow_succ]
    generalize 4 ^ m = y at h3 ⊢
    refine ⟨by omega, ?_, by omega⟩
    split <;> omega
theorem hb_ran6 {S H m : Nat} (hm : m ≤ 6) : hb_n S H m < 4096 := Nat.lt_of_lt_of_le (hb_ran S H m).2.2 (Nat.pow_le_pow_right (by decide) hm : 4 ^ m ≤ 4 ^ 6)
theorem hb_end (S : Nat) (hS : 2 ≤ S ∧ S ≤ 6) : ∀ H, H < 4 ^ S → hb_l S H S = sp_lv H ∧ hb_b S H S + sp_lc H = S ∧ hb_n S H S = H := by
  intro h hh
  rcases (show S = 2 ∨ S = 3 ∨ S = 4 ∨ S = 5 ∨ S = 6 by omega) with rfl | rfl | rfl | rfl | rfl
  · exact (co_dec (N := 16) (P := fun H => hb_l 2 H 2 = sp_lv H ∧ hb_b 2 H 2 + sp_lc H = 2 ∧ hb_n 2 H 2 = H) (by decide +kernel)) hh
  · exact (co_dec (N := 64) (P := fun H => hb_l 3 H 3 = sp_lv H ∧ hb_b 3 H 3 + sp_lc H = 3 ∧ hb_n 3 H 3 = H) (by decide +kernel)) hh
  · exact (co_dec (N := 256) (P := fun H => hb_l 4 H 4 = sp_lv H ∧ hb_b 4 H 4 + sp_lc H = 4 ∧ hb_n 4 H 4 = H) (by decide +kernel)) hh
  · exact (co_dec (N := 1024) (P := fun H => hb_l 5 H 5 = sp_lv H ∧ hb_b 5 H 5 + sp_lc H = 5 ∧ hb_n 5 H 5 = H) (by decide +kernel)) hh
  · exact (co_dec (N := 4096) (P := fun H => hb_l 6 H 6 = sp_lv H ∧ hb_b 6 H 6 + sp_lc H = 6 ∧ hb_n 6 H 6 = H) (by decide +kernel)) hh
/-! the clips, as the law counts them -/
def hk_c (i : Nat) : Nat := 100 * (i / 9) + 10 * (i / 9 + i / 3 % 3) + (1 + i % 3)
def hk_a (S r i : Nat) : Bool := decide (i / 9 + i / 3 % 3 < S) && decide (i / 3 % 3 < r)
def hk_l (S r n : Nat) : List Nat := ((List.range n).filter (hk_a S r)).map hk_c
theorem hk_end (S : Nat) (hS : 2 ≤ S ∧ S ≤ 6) (r : Nat) (hr : 1 ≤ r ∧ r ≤ 3) : hk_l S r (9 * S) = wo_cls S r := by
  rcases (show S = 2 ∨ S = 3 ∨ S = 4 ∨ S = 5 ∨ S = 6 by omega) with rfl | rfl | rfl | rfl | rfl <;> rcases (show r = 1 ∨ r = 2 ∨ r = 3 by omega) with rfl | rfl | rfl <;> decide +kernel
theorem hk_step (S r n : Nat) : hk_l S r (n + 1) = if hk_a S r n = true then hk_l S r n ++ [hk_c n] else hk_l S r n := by
  unfold hk_l
  rw [List.range_succ, List.filter_append, List.map_append]
  by_cases h : hk_a S r n = true
  · rw [if_pos h, List.filter_cons_of_pos h]
    rfl
  · rw [if_neg h, List.filter_cons_of_neg h]
    simp
theorem hk_cnt (p : Nat → Bool) (S r n : Nat) : wo_cnt p (hk_l S r (n + 1)) = wo_cnt p (hk_l S r n) + (if hk_a S r n = true ∧ p (hk_c n) = true then 1 else 0) := by
  rw [hk_step]
  by_cases h : hk_a S r n = true
  · rw [if_pos h]
    unfold wo_cnt
    rw [List.filter_append, List.length_append]
    by_cases q : p (hk_c n) = true
    · rw [if_pos ⟨h, q⟩, List.filter_cons_of_pos q]
      rfl
    · rw [if_neg (fun z => q z.2), List.filter_cons_of_neg q]
      rfl
  · rw [if_neg h, if_neg (fun z => h z.1)]
    rfl
theorem hk_cnt_le (p : Nat → Bool) (S r n : Nat) : wo_cnt p (hk_l S r n) ≤ n := by
  induction n with
  | zero => exact Nat.le_refl _
  | succ n ih =>
    rw [hk_cnt]
    split <;> omega
theorem hk_mem {S r i : Nat} (hS : 2 ≤ S ∧ S ≤ 6) (hr : 1 ≤ r ∧ r ≤ 3) (hi : i < 9 * S) (ha : hk_a S r i = true) : hk_c i ∈ wo_cls S r := by
  rw [← hk_end S hS r hr]
  exact List.mem_map.mpr ⟨i, List.mem_filter.mpr ⟨List.mem_range.mpr hi, ha⟩, rfl⟩
theorem hk_a_t {S r i : Nat} (h1 : i / 9 + i / 3 % 3 < S) (h2 : i / 3 % 3 < r) : hk_a S r i = true := by simp [hk_a, h1, h2]
theorem hk_a_f {S r i : Nat} (h : ¬ (i / 9 + i / 3 % 3 < S ∧ i / 3 % 3 < r)) : ¬ hk_a S r i = true := by
  intro q
  unfold hk_a at q
  simp only [Bool.and_eq_true, decide_eq_true_eq] at q
  exact h q
/-! the best clip -/
theorem wo_sorted (S : Nat) (hS : 2 ≤ S ∧ S ≤ 6) (r : Nat) (hr : 1 ≤ r ∧ r ≤ 3) : (wo_cls S r).Pairwise (· < ·) := by
  rcases (show S = 2 ∨ S = 3 ∨ S = 4 ∨ S = 5 ∨ S = 6 by omega) with rfl | rfl | rfl | rfl | rfl <;> rcases (show r = 1 ∨ r = 2 ∨ r = 3 by omega) with rfl | rfl | rfl <;> decide +kernel
theorem wo_find_min {p : Nat → Bool} {b : Nat} : ∀ (l : List Nat), l.Pairwise (· < ·) → l.find? p = some b → ∀ c ∈ l, p c = true → b ≤ c
  | [], _, h, _, _, _ => by simp at h
  | a :: l, hl, h, c, hc, hp => by
    rw [List.find?_cons] at h
    rw [List.pairwise_cons] at hl
    cases q : p a with
    | true =>
      rw [q] at h
      have e : a = b := Option.some.inj h
      rcases List.mem_cons.mp hc with z | z
      · omega
      · have := hl.1 c z
        omega
    | false =>
      rw [q] at h
      rcases List.mem_cons.mp hc with z | z
      · rw [z, q] at hp
        exact absurd hp (by decide)
      · exact wo_find_min l hl.2 h c z hp
theorem wo_best_pos {S w r h : Nat} (hS : 2 ≤ S ∧ S ≤ 6) (hr : 1 ≤ r ∧ r ≤ 3) (hh : h < 4 ^ S) (h0 : 0 < h) : ∃ b, b ∈ wo_cls S r ∧ wo_fst S w r h = some b ∧ wo_best S w r h = (b : Int) ∧ ¬ sp_cc h b = h ∧ wo_gain S w (wo S w r) h b = wo S w r h ∧ ∀ c ∈ wo_cls S r, wo_gain S w (wo S w r) h c = wo S w r h → b ≤ c := by
  have h6 := wo_6 (w := w) hS hr hh
  have hx : ∃ c ∈ wo_cls S r, wo_gain S w (wo S w r) h c = wo S w r h := by
    rcases wo_fold_is (S := S) (w := w) (h := h) (f := wo S w r) (wo_cls S r) (-100) with z | ⟨c, h1, h2⟩
    · rw [← wo_eq h0] at z
      exact absurd z (by omega)
    · rw [← wo_eq h0] at h2
      exact ⟨c, h1, h2.symm⟩
  cases e : wo_fst S w r h with
  | none =>
    obtain ⟨c, h1, h2⟩ := hx
    have h3 := List.find?_eq_none.mp e c h1
    exact absurd (decide_eq_true h2) h3
  | some b =>
    have h2 : (wo_cls S r).find? (wo_isb S w r h) = some b := e
    have h4 : wo_isb S w r h b = true := List.find?_some h2
    have h3 : wo_gain S w (wo S w r) h b = wo S w r h := of_decide_eq_true h4
    refine ⟨b, List.mem_of_find?_eq_some h2, rfl, by unfold wo_best; rw [e], fun q => ?_, h3, fun c hc hg => ?_⟩
    · unfold wo_gain at h3
      rw [if_pos q] at h3
      omega
    · exact wo_find_min _ (wo_sorted S hS r hr) e c hc (decide_eq_true hg)
theorem sp_cc0 (c : Nat) : sp_cc 0 c = 0 := Nat.le_zero.mp (sp_cc_le 0 c)
theorem wo_fst0 (S w r : Nat) : wo_fst S w r 0 = none := by
  refine List.find?_eq_none.mpr (fun c _ => ?_)
  intro q
  have h3 : wo_gain S w (wo S w r) 0 c = wo S w r 0 := of_decide_eq_true q
  unfold wo_gain at h3
  rw [if_pos (sp_cc0 c), wo_0] at h3
  exact absurd h3 (by decide)
theorem wo_best0 (S w r : Nat) : wo_best S w r 0 = -1 := by
  unfold wo_best
  rw [wo_fst0]
theorem wo_gain_le {S w r h c : Nat} (h0 : 0 < h) (hc : c ∈ wo_cls S r) : wo_gain S w (wo S w r) h c ≤ wo S w r h := by
  rw [wo_eq (S := S) (w := w) (r := r) h0]
  exact (wo_fold_le (wo_cls S r) (-100)).2 c hc
/-! fines -/
theorem fv_ran {f x : Int} (hf : 1 ≤ f ∧ f ≤ 9) (hx : -100 ≤ x ∧ x ≤ 6) : -900 ≤ f * x ∧ f * x ≤ 54 := by
  rcases (show f = 1 ∨ f = 2 ∨ f = 3 ∨ f = 4 ∨ f = 5 ∨ f = 6 ∨ f = 7 ∨ f = 8 ∨ f = 9 by omega) with rfl | rfl | rfl | rfl | rfl | rfl | rfl | rfl | rfl <;> omega
theorem fv_le {f x y : Int} (hf : 1 ≤ f ∧ f ≤ 9) (h : x ≤ y) : f * x ≤ f * y := by
  rcases (show f = 1 ∨ f = 2 ∨ f = 3 ∨ f = 4 ∨ f = 5 ∨ f = 6 ∨ f = 7 ∨ f = 8 ∨ f = 9 by omega) with rfl | rfl | rfl | rfl | rfl | rfl | rfl | rfl | rfl <;> omega
theorem fv_eq {f x y : Int} (hf : 1 ≤ f ∧ f ≤ 9) (h : f * x = f * y) : x = y := by
  rcases (show f = 1 ∨ f = 2 ∨ f = 3 ∨ f = 4 ∨ f = 5 ∨ f = 6 ∨ f = 7 ∨ f = 8 ∨ f = 9 by omega) with rfl | rfl | rfl | rfl | rfl | rfl | rfl | rfl | rfl <;> omega
theorem fv_gain {S w h c : Nat} {f : Int} {W : Nat → Int} (hn : ¬ sp_cc h c = h) : 100 - (100 + f * W (sp_bh S w h c)) - f * ((sp_lc h : Int) - (sp_lc (sp_bh S w h c) : Int)) = f * wo_gain S w W h c := by
  unfold wo_gain
  have e1 : f * (-W (sp_bh S w h c) - ((sp_lc h : Int) - (sp_lc (sp_bh S w h c) : Int))) = -(f * W (sp_bh S w h c)) - f * ((sp_lc h : Int) - (sp_lc (sp_bh S w h c) : Int)) := by rw [Int.mul_sub, Int.mul_neg]
  rw [if_neg hn, e1]
  omega
theorem fv_fi {g : Nat → Int} (hg : WF g) (c : Nat) : 0 ≤ g 4 * ((sp_lc (gH g) : Int) - (sp_lc (sp_bh (gS g) (gW g) (gH g) c) : Int)) ∧ g 4 * ((sp_lc (gH g) : Int) - (sp_lc (sp_bh (gS g) (gW g) (gH g) c) : Int)) ≤ 54 := by
  have h1 := sp_bh_lc (S := gS g) (w := gW g) (c := c) hg.x
  have h2 := sp_lc6 hg.x
  have h3 := hg.2.2.2.2.1
  have hx : 0 ≤ ((sp_lc (gH g) : Int) - (sp_lc (sp_bh (gS g) (gW g) (gH g) c) : Int)) ∧ ((sp_lc (gH g) : Int) - (sp_lc (sp_bh (gS g) (gW g) (gH g) c) : Int)) ≤ 6 := by omega
  clear h1 h2
  generalize g 4 = f at h3 ⊢
  generalize ((sp_lc (gH g) : Int) - (sp_lc (sp_bh (gS g) (gW g) (gH g) c) : Int)) = x at hx ⊢
  rcases (show f = 1 ∨ f = 2 ∨ f = 3 ∨ f = 4 ∨ f = 5 ∨ f = 6 ∨ f = 7 ∨ f = 8 ∨ f = 9 by omega) with rfl | rfl | rfl | rfl | rfl | rfl | rfl | rfl | rfl <;> omega
/-! how long it goes on -/
theorem ox_go_le {g : Nat → Int} (hg : WF g) : ∀ (n h i : Nat), h < 4 ^ gS g → (ox_go g n h i).2 ≤ i + sp_lv h ∧ (ox_go g n h i).2 ≤ i + n ∧ ((ox_go g n h i).1 = 0 ∨ (ox_go g n h i).2 = i + n) ∧ (ox_go g n h i).1 < 4 ^ gS g
  | 0, h, i, hh => ⟨by rw [ox_go]; exact Nat.le_add_right _ _, by rw [ox_go]; exact Nat.le_refl _, Or.inr (by rw [ox_go]; rfl), by rw [ox_go]; exact hh⟩
  | n + 1, h, i, hh => by
    rw [ox_go]
    by_cases q : h = 0
    · rw [if_pos q]
      exact ⟨Nat.le_add_right _ _, by dsimp only; omega, Or.inl q, hh⟩
    · rw [if_neg q]
      obtain ⟨b, h1, h2, -, h4, -⟩ := wo_best_pos (w := gW g) hg.S hg.R hh (by omega)
      have e : wo_next (gS g) (gW g) (gR g) h = sp_bh (gS g) (gW g) h b := by unfold wo_next; rw [h2]
      have hS := hg.S
      have hR := hg.R
      have h5 := sp_bh_lv (w := gW g) hS.2 (wo_cls_ok _ (by omega) _ (by omega) b h1) h4
      have h6 := sp_bh_lt (S := gS g) (w := gW g) h4
      rw [e]
      obtain ⟨a1, a2, a3, a4⟩ := ox_go_le hg n (sp_bh (gS g) (gW g) h b) (i + 1) (by omega)
      exact ⟨by omega, by omega, a3.imp id (fun z => by omega), a4⟩
/-! the water that helps most -/
theorem ox_bw_is {g : Nat → Int} : ∀ n, ((ox_bw g n).1 = -1 ∧ (ox_bw g n).2 = ox_w g ∨ ∃ b : Nat, b < n ∧ (ox_bw g n).1 = (b : Int) ∧ ¬ sp_dg (gH g) b = 3 ∧ (ox_bw g n).2 = g 4 * ox_wo g (gH g + 4 ^ b) ∧ ox_w g < (ox_bw g n).2) ∧ ox_w g ≤ (ox_bw g n).2 ∧ ∀ i : Nat, i < n → ¬ sp_dg (gH g) i = 3 → g 4 * ox_wo g (gH g + 4 ^ i) ≤ (ox_bw g n).2 ∧ ((ox_bw g n).1 = -1 ∨ g 4 * ox_wo g (gH g + 4 ^ i) < (ox_bw g n).2 ∨ (ox_bw g n).1 ≤ (i : Int))
  | 0 => ⟨Or.inl ⟨rfl, rfl⟩, Int.le_refl _, fun i hi => absurd hi (Nat.not_lt_zero _)⟩
  | n + 1 => by
    obtain ⟨h1, h2, h3⟩ := ox_bw_is (g := g) n
    rw [ox_bw]
    by_cases q : sp_dg (gH g) n = 3
    · rw [if_pos q]
      refine ⟨h1.imp id (fun ⟨b, z⟩ => ⟨b, by omega, z.2⟩), h2, fun i hi hd => ?_⟩
      rcases Nat.lt_or_ge i n with z | z
      · exact h3 i z hd
      · obtain rfl : i = n := by omega
        exact absurd q hd
    · rw [if_neg q]
      by_cases y : (ox_bw g n).2 < g 4 * ox_wo g (gH g + 4 ^ n)
      · rw [if_pos y]
        refine ⟨Or.inr ⟨n, Nat.lt_succ_self n, rfl, q, rfl, by dsimp only; omega⟩, by dsimp only; omega, fun i hi hd => ?_⟩
        dsimp only
        rcases Nat.lt_or_ge i n with z | z
        · have := h3 i z hd
          exact ⟨by omega, Or.inr (Or.inl (by omega))⟩
        · obtain rfl : i = n := by omega
          exact ⟨Int.le_refl _, Or.inr (Or.inr (Int.le_refl _))⟩
      · rw [if_neg y]
        refine ⟨h1.imp id (fun ⟨b, z⟩ => ⟨b, by omega, z.2⟩), h2, fun i hi hd => ?_⟩
        rcases Nat.lt_or_ge i n with z | z
        · exact h3 i z hd
        · obtain rfl : i = n := by omega
          refine ⟨by omega, ?_⟩
          rcases h1 with z1 | ⟨b, z1, z2, -⟩
          · exact Or.inl z1.1
          · exact Or.inr (Or.inr (by omega))
theorem sp_dg_add : ∀ S : Nat, S < 7 → ∀ h i, h < 4 ^ S → i < S → ¬ sp_dg h i = 3 → sp_dg (h + 4 ^ i) i = sp_dg h i + 1 := by
  intro S hS h i hh hi hd
  unfold sp_dg at hd ⊢
  rcases (show i = 0 ∨ i = 1 ∨ i = 2 ∨ i = 3 ∨ i = 4 ∨ i = 5 by omega) with rfl | rfl | rfl | rfl | rfl | rfl <;> omega
/-! fines that a garden tells stay small -/
def FB (N : Int) (g : Nat → Int) : Prop := (0 ≤ g 6 ∧ g 6 ≤ N) ∧ 0 ≤ g 7 ∧ g 7 ≤ N
theorem FB_mono {N M : Int} (hNM : N ≤ M) {g : Nat → Int} (h : FB N g) : FB M g := by
  unfold FB at h ⊢
  omega
theorem FB_clip {N : Int} {g : Nat → Int} (hg : WF g) (h : FB N g) (c : Nat) : FB (N + 54) (ox_clip g c) := by
  have h1 := fv_fi hg c
  obtain ⟨h2, h3⟩ := h
  show (0 ≤ (if g 3 = 0 then g 6 + sp_fi g (gH g) (sp_bh (gS g) (gW g) (gH g) c) else g 6) ∧ (if g 3 = 0 then g 6 + sp_fi g (gH g) (sp_bh (gS g) (gW g) (gH g) c) else g 6) ≤ N + 54) ∧ 0 ≤ (if g 3 = 0 then g 7 else g 7 + sp_fi g (gH g) (sp_bh (gS g) (gW g) (gH g) c)) ∧ (if g 3 = 0 then g 7 else g 7 + sp_fi g (gH g) (sp_bh (gS g) (gW g) (gH g) c)) ≤ N + 54
  unfold sp_fi
  split <;> omega
/-- who gets fewer fines in the end is the same behind the best clip -/
theorem ox_win_best {N : Int} {g : Nat → Int} (hg : WF g) (hN : N ≤ 1000000) (h : FB N g) {b : Nat} (hn : ¬ sp_cc (gH g) b = gH g) (hb : wo_gain (gS g) (gW g) (wo (gS g) (gW g) (gR g)) (gH g) b = wo (gS g) (gW g) (gR g) (gH g)) : ox_win (ox_clip g b) = ox_win g := by
  have h1 := fv_fi hg b
  have h2 := ox_w_ran hg hg.H
  have h3 := fv_gain (S := gS g) (w := gW g) (f := g 4) (W := wo (gS g) (gW g) (gR g)) hn
  rw [hb] at h3
  obtain ⟨⟨h4, h5⟩, h6, h7⟩ := h
  have ht := hg.2.2.2.1
  have e : ox_ahead (ox_clip g b) = - ox_ahead g := by
    unfold ox_ahead
    show (if 1 - g 3 = 0 then (if g 3 = 0 then g 7 else g 7 + sp_fi g (gH g) (sp_bh (gS g) (gW g) (gH g) b)) - (if g 3 = 0 then g 6 + sp_fi g (gH g) (sp_bh (gS g) (gW g) (gH g) b) else g 6) else (if g 3 = 0 then g 6 + sp_fi g (gH g) (sp_bh (gS g) (gW g) (gH g) b) else g 6) - (if g 3 = 0 then g 7 else g 7 + sp_fi g (gH g) (sp_bh (gS g) (gW g) (gH g) b))) + g 4 * wo (gS g) (gW g) (gR g) (sp_bh (gS g) (gW g) (gH g) b) = -((if g 3 = 0 then g 7 - g 6 else g 6 - g 7) + g 4 * wo (gS g) (gW g) (gR g) (gH g))
    unfold sp_fi
    rcases (show g 3 = 0 ∨ g 3 = 1 by omega) with q | q
    · rw [if_neg (by omega), if_pos q, if_pos q, if_pos q]
      omega
    · rw [if_pos (by omega), if_neg (by omega), if_neg (by omega), if_neg (by omega)]
      omega
  have hr : -2000100 ≤ ox_ahead g ∧ ox_ahead g ≤ 2000100 := by
    unfold ox_ahead ox_w
    split <;> omega
  unfold ox_win
  rw [e]
  generalize ox_ahead g = x at hr ⊢
  show (if zI (-x) = 0 then 2 else if 0 < zI (-x) then 1 - g 3 else 1 - (1 - g 3)) = _
  by_cases q : x = 0
  · rw [q]
    rfl
  · rw [if_neg (fun z => q (by have := (zI_eq0 (by omega)).mp z; omega)), if_neg (fun z => q ((zI_eq0 (by omega)).mp z))]
    by_cases y : 0 < x
    · rw [if_neg (fun z => by have := (zI_gt0 (by omega)).mp z; omega), if_pos ((zI_gt0 (by omega)).mpr y)]
      omega
    · rw [if_pos ((zI_gt0 (by omega)).mpr (by omega)), if_neg (fun z => y ((zI_gt0 (by omega)).mp z))]
