/-! THE COURSE: settlePassed. -/
variable {B : Nat}
def ag_set (gp : Nat → Nat → Int) (c s y : Int) (m : Nat) : Nat → Nat → Int :=
  ag_ug (ag_ug gp 3 (ag_s3 gp (ag_wr 20 (gp 3) c s) c m)) 4 (ag_s4 gp (ag_wr 20 (gp 3) c s) (ag_wr 20 (gp 4) c y) c m)
theorem ag_wr_sm {g : Nat → Int} (n : Nat) (i x : Int) (hg : ∀ j, -100000 ≤ g j ∧ g j ≤ 100000) (h1 : -100000 ≤ x) (h2 : x ≤ 100000) (j : Nat) : -100000 ≤ ag_wr n g i x j ∧ ag_wr n g i x j ≤ 100000 := by
  unfold ag_wr
  split
  · unfold ag_ui
    split
    · exact ⟨h1, h2⟩
    · exact hg j
  · exact hg j
theorem ag_set_sm {gp : Nat → Nat → Int} {c s y : Int} {m : Nat} (hs : ag_sm gp) (c1 : -100000 ≤ c) (c2 : c ≤ 100000) (s1 : -100000 ≤ s) (s2 : s ≤ 100000) (y1 : -100000 ≤ y) (y2 : y ≤ 100000) : ag_sm (ag_set gp c s y m) := by
  intro k j
  have h3 := ag_wr_sm 20 c s (hs 3) s1 s2 j
  have h4 := ag_wr_sm 20 c y (hs 4) y1 y2 j
  unfold ag_set
  rw [ag_ug_at, ag_ug_at]
  split
  · unfold ag_s4
    split
    · exact ⟨c1, c2⟩
    · exact h4
  · split
    · unfold ag_s3
      split
      · omega
      · exact h3
    · exact hs k j
/-- what settlePassed makes of places i on -/
def ag_spl (gb : Nat → Nat → Int) (x : Int) (m : Nat) : Nat → Nat → (Nat → Nat → Int) → (Nat → Nat → Int)
  | 0, _, gp => gp
  | k + 1, i, gp => ag_spl gb x m k (i + 1) (if ag_fat gb gp x i = 0 then gp else ag_set gp i (ag_fat gb gp x i) (if ag_fat gb gp x i = 3 then x else -1) m)
theorem ag_fat_013 (gb gp : Nat → Nat → Int) (x b : Int) : ag_fat gb gp x b = 0 ∨ ag_fat gb gp x b = 1 ∨ ag_fat gb gp x b = 3 := by
  unfold ag_fat
  (repeat' split) <;> first | exact Or.inl rfl | exact Or.inr (Or.inl rfl) | exact Or.inr (Or.inr rfl)
section AGK4
variable (σ : ag_S) {c : Nat} (gh : Nat → Nat → Int) (vh : Nat → Int) {gb : Nat → Nat → Int} {vb : Nat → Int} {vp : Nat → Int} {w n m : Nat} (K : ag_Rs → ag_S → Prop)
theorem ag_K_settle {gp : Nat → Nat → Int} {b s y : Int} (hc : B + 7 ≤ c) (hs : ag_sm gp) (hv2 : vp 0 = m) (hm : m ≤ 20) (hb : ag_nm b = b) (hn : ag_nm s = s) (K : ag_Rs → ag_S → Prop) :
    ag_cl9 52 [ag_R (c + 10), ag_I b, ag_I s, ag_I y] (ag_SK B σ c gh vh gb vb gp vp) K = K (Sum.inl none) (ag_SK B σ c gh vh gb vb (ag_set gp b s y m) vp) :=
  ag_lP (B := B) σ (c := c) gh vh gb vb (fun σ K => ag_P_settle σ (a := c + 10) (g := gp) (v := vp) (c := b) (s := s) (y := y) K hv2 hm (by omega) hs hb hn) K
theorem ag_K_sP_loop {x : Int} (hc : B + 7 ≤ c) (hs : ag_sm gb) (hv2 : vp 0 = m) (hm : m ≤ 20) (x1 : -1 ≤ x) (x2 : x ≤ 20) : ∀ (k i : Nat) (gp : Nat → Nat → Int) (y : Option ag_V), ag_sm gp → i + k = m →
    ag_wp 28 12 [some (ag_R c), some (ag_I x), some (ag_I i), y] [] (ag_SK B σ c gh vh gb vb gp vp) K = K (Sum.inl none) (ag_SK B σ c gh vh gb vb (ag_spl gb x m k i gp) vp) := by
  intro k
  induction k with
  | zero =>
    intro i gp y hs2 hi
    rw [ag_i28_12]
    simp only [ag_i28_13, ag_i28_14, ag_i28_17, ag_i28_20, ag_i28_59, ag_SK_Bg0 _ _ _ _ _ _ _ hc, ag_SK_Bat0 _ _ _ _ _ _ _ hc, ag_SK_Bpt0 _ _ _ _ _ _ _ hc, ag_SK_Bg1 _ _ _ _ _ _ _ hc, ag_SK_Bat1 _ _ _ _ _ _ _ hc, ag_SK_Bpt1 _ _ _ _ _ _ _ hc, ag_SK_Bg2 _ _ _ _ _ _ _ hc, ag_SK_Bat2 _ _ _ _ _ _ _ hc, ag_SK_Bpt2 _ _ _ _ _ _ _ hc, ag_SK_Bg3 _ _ _ _ _ _ _ hc, ag_SK_Bat3 _ _ _ _ _ _ _ hc, ag_SK_Bpt3 _ _ _ _ _ _ _ hc, ag_SK_Bg4 _ _ _ _ _ _ _ hc, ag_SK_Bat4 _ _ _ _ _ _ _ hc, ag_SK_Bpt4 _ _ _ _ _ _ _ hc, ag_SK_Bg5 _ _ _ _ _ _ _ hc, ag_SK_Bat5 _ _ _ _ _ _ _ hc, ag_SK_Bpt5 _ _ _ _ _ _ _ hc, ag_SK_Bg6 _ _ _ _ _ _ _ hc, ag_SK_Bat6 _ _ _ _ _ _ _ hc, ag_SK_Bpt6 _ _ _ _ _ _ _ hc, ag_SK_Bg7 _ _ _ _ _ _ _ hc, ag_SK_Bat7 _ _ _ _ _ _ _ hc, ag_SK_Bpt7 _ _ _ _ _ _ _ hc, ag_SK_Bg8 _ _ _ _ _ _ _ hc, ag_SK_Bp8 _ _ _ _ _ _ _ hc, ag_SK_Bg9 _ _ _ _ _ _ _ hc, ag_SK_Bp9 _ _ _ _ _ _ _ hc, ag_SK_Bck _ _ _ _ _ _ _ hc, ag_SK_Pg0 _ _ _ _ _ _ _ hc, ag_SK_Pat0 _ _ _ _ _ _ _ hc, ag_SK_Ppt0 _ _ _ _ _ _ _ hc, ag_SK_Pg1 _ _ _ _ _ _ _ hc, ag_SK_Pat1 _ _ _ _ _ _ _ hc, ag_SK_Ppt1 _ _ _ _ _ _ _ hc, ag_SK_Pg2 _ _ _ _ _ _ _ hc, ag_SK_Pat2 _ _ _ _ _ _ _ hc, ag_SK_Ppt2 _ _ _ _ _ _ _ hc, ag_SK_Pg3 _ _ _ _ _ _ _ hc, ag_SK_Pat3 _ _ _ _ _ _ _ hc, ag_SK_Ppt3 _ _ _ _ _ _ _ hc, ag_SK_Pg4 _ _ _ _ _ _ _ hc, ag_SK_Pat4 _ _ _ _ _ _ _ hc, ag_SK_Ppt4 _ _ _ _ _ _ _ hc, ag_SK_Pg5 _ _ _ _ _ _ _ hc, ag_SK_Pat5 _ _ _ _ _ _ _ hc, ag_SK_Ppt5 _ _ _ _ _ _ _ hc, ag_SK_Pg6 _ _ _ _ _ _ _ hc, ag_SK_Pp6 _ _ _ _ _ _ _ hc, ag_SK_Pck _ _ _ _ _ _ _ hc, ag_SK_Hg0 _ _ _ _ _ _ _ hc, ag_SK_Hat0 _ _ _ _ _ _ _ hc, ag_SK_Hpt0 _ _ _ _ _ _ _ hc, ag_SK_Hg1 _ _ _ _ _ _ _ hc, ag_SK_Hat1 _ _ _ _ _ _ _ hc, ag_SK_Hpt1 _ _ _ _ _ _ _ hc, ag_SK_Hg2 _ _ _ _ _ _ _ hc, ag_SK_Hat2 _ _ _ _ _ _ _ hc, ag_SK_Hpt2 _ _ _ _ _ _ _ hc, ag_SK_Hg3 _ _ _ _ _ _ _ hc, ag_SK_Hat3 _ _ _ _ _ _ _ hc, ag_SK_Hpt3 _ _ _ _ _ _ _ hc, ag_SK_Hg4 _ _ _ _ _ _ _ hc, ag_SK_Hp4 _ _ _ _ _ _ _ hc, ag_SK_Hg5 _ _ _ _ _ _ _ hc, ag_SK_Hp5 _ _ _ _ _ _ _ hc, ag_SK_Hg6 _ _ _ _ _ _ _ hc, ag_SK_Hp6 _ _ _ _ _ _ _ hc, ag_SK_Hck _ _ _ _ _ _ _ hc, ag_SK_f0 _ _ _ _ _ _ _ hc, ag_SK_f1 _ _ _ _ _ _ _ hc, ag_SK_f2 _ _ _ _ _ _ _ hc, ag_SK_ck _ _ _ _ _ _ _ hc, hv2, ag_nm_nat (show i ≤ 1000000 by omega), ag_nm_nat (show m ≤ 1000000 by omega)]
    rw [if_pos (by omega), ag_spl]
  | succ k ih =>
    intro i gp y hs2 hi
    have hf := fun K => ag_K_fateBy σ gh vh (vb := vb) (vp := vp) K (x := x) (b := (i : Int)) hc hs hs2
    have h013 := ag_fat_013 gb gp x i
    rw [ag_i28_12]
    simp only [ag_i28_13, ag_i28_14, ag_i28_17, ag_i28_20, ag_i28_23, ag_i28_24, ag_i28_25, ag_i28_26, ag_i28_29_n, ag_i28_29_i, ag_i28_29_r, ag_i28_30, ag_i28_31, ag_SK_Bg0 _ _ _ _ _ _ _ hc, ag_SK_Bat0 _ _ _ _ _ _ _ hc, ag_SK_Bpt0 _ _ _ _ _ _ _ hc, ag_SK_Bg1 _ _ _ _ _ _ _ hc, ag_SK_Bat1 _ _ _ _ _ _ _ hc, ag_SK_Bpt1 _ _ _ _ _ _ _ hc, ag_SK_Bg2 _ _ _ _ _ _ _ hc, ag_SK_Bat2 _ _ _ _ _ _ _ hc, ag_SK_Bpt2 _ _ _ _ _ _ _ hc, ag_SK_Bg3 _ _ _ _ _ _ _ hc, ag_SK_Bat3 _ _ _ _ _ _ _ hc, ag_SK_Bpt3 _ _ _ _ _ _ _ hc, ag_SK_Bg4 _ _ _ _ _ _ _ hc, ag_SK_Bat4 _ _ _ _ _ _ _ hc, ag_SK_Bpt4 _ _ _ _ _ _ _ hc, ag_SK_Bg5 _ _ _ _ _ _ _ hc, ag_SK_Bat5 _ _ _ _ _ _ _ hc, ag_SK_Bpt5 _ _ _ _ _ _ _ hc, ag_SK_Bg6 _ _ _ _ _ _ _ hc, ag_SK_Bat6 _ _ _ _ _ _ _ hc, ag_SK_Bpt6 _ _ _ _ _ _ _ hc, ag_SK_Bg7 _ _ _ _ _ _ _ hc, ag_SK_Bat7 _ _ _ _ _ _ _ hc, ag_SK_Bpt7 _ _ _ _ _ _ _ hc, ag_SK_Bg8 _ _ _ _ _ _ _ hc, ag_SK_Bp8 _ _ _ _ _ _ _ hc, ag_SK_Bg9 _ _ _ _ _ _ _ hc, ag_SK_Bp9 _ _ _ _ _ _ _ hc, ag_SK_Bck _ _ _ _ _ _ _ hc, ag_SK_Pg0 _ _ _ _ _ _ _ hc, ag_SK_Pat0 _ _ _ _ _ _ _ hc, ag_SK_Ppt0 _ _ _ _ _ _ _ hc, ag_SK_Pg1 _ _ _ _ _ _ _ hc, ag_SK_Pat1 _ _ _ _ _ _ _ hc, ag_SK_Ppt1 _ _ _ _ _ _ _ hc, ag_SK_Pg2 _ _ _ _ _ _ _ hc, ag_SK_Pat2 _ _ _ _ _ _ _ hc, ag_SK_Ppt2 _ _ _ _ _ _ _ hc, ag_SK_Pg3 _ _ _ _ _ _ _ hc, ag_SK_Pat3 _ _ _ _ _ _ _ hc, ag_SK_Ppt3 _ _ _ _ _ _ _ hc, ag_SK_Pg4 _ _ _ _ _ _ _ hc, ag_SK_Pat4 _ _ _ _ _ _ _ hc, ag_SK_Ppt4 _ _ _ _ _ _ _ hc, ag_SK_Pg5 _ _ _ _ _ _ _ hc, ag_SK_Pat5 _ _ _ _ _ _ _ hc, ag_SK_Ppt5 _ _ _ _ _ _ _ hc, ag_SK_Pg6 _ _ _ _ _ _ _ hc, ag_SK_Pp6 _ _ _ _ _ _ _ hc, ag_SK_Pck _ _ _ _ _ _ _ hc, ag_SK_Hg0 _ _ _ _ _ _ _ hc, ag_SK_Hat0 _ _ _ _ _ _ _ hc, ag_SK_Hpt0 _ _ _ _ _ _ _ hc, ag_SK_Hg1 _ _ _ _ _ _ _ hc, ag_SK_Hat1 _ _ _ _ _ _ _ hc, ag_SK_Hpt1 _ _ _ _ _ _ _ hc, ag_SK_Hg2 _ _ _ _ _ _ _ hc, ag_SK_Hat2 _ _ _ _ _ _ _ hc, ag_SK_Hpt2 _ _ _ _ _ _ _ hc, ag_SK_Hg3 _ _ _ _ _ _ _ hc, ag_SK_Hat3 _ _ _ _ _ _ _ hc, ag_SK_Hpt3 _ _ _ _ _ _ _ hc, ag_SK_Hg4 _ _ _ _ _ _ _ hc, ag_SK_Hp4 _ _ _ _ _ _ _ hc, ag_SK_Hg5 _ _ _ _ _ _ _ hc, ag_SK_Hp5 _ _ _ _ _ _ _ hc, ag_SK_Hg6 _ _ _ _ _ _ _ hc, ag_SK_Hp6 _ _ _ _ _ _ _ hc, ag_SK_Hck _ _ _ _ _ _ _ hc, ag_SK_f0 _ _ _ _ _ _ _ hc, ag_SK_f1 _ _ _ _ _ _ _ hc, ag_SK_f2 _ _ _ _ _ _ _ hc, ag_SK_ck _ _ _ _ _ _ _ hc, ag_kk_v, ag_kk_n, Nat.reduceAdd, hf, hv2, ag_nm_nat (show i ≤ 1000000 by omega), ag_nm_nat (show m ≤ 1000000 by omega), ag_nm_z]
    rw [if_neg (show ¬ (m : Int) ≤ i by omega), ag_spl]
    generalize ag_fat gb gp x i = f at h013
    have hfn : ag_nm f = f := ag_nm_of (by omega) (by omega)
    have hset := fun y K => ag_K_settle σ gh vh (gb := gb) (vb := vb) (gp := gp) (b := (i : Int)) (s := f) (y := y) hc hs2 hv2 hm (ag_nm_nat (by omega)) hfn K
    by_cases q : f = 0
    · subst q
      simp only [ag_nm_z, ag_b0, ag_b1, true_and, or_true, true_or, Int.reduceEq, ne_eq, not_false_eq_true, not_true_eq_false, ↓reduceIte, ag_i28_53_n, ag_i28_53_i, ag_i28_53_r, ag_i28_56]
      exact ih (i + 1) gp _ hs2 (by omega)
    · rw [hfn]
      simp only [q, ag_b0, ag_b1, true_and, or_true, true_or, Int.reduceEq, ne_eq, not_false_eq_true, not_true_eq_false, ↓reduceIte, ag_i28_34, ag_i28_35, ag_i28_38, ag_i28_39, ag_i28_40, ag_i28_41, ag_i28_42, ag_i28_45, ag_i28_46, ag_i28_49, ag_i28_50, ag_i28_53_n, ag_i28_53_i, ag_i28_53_r, ag_i28_56, ag_SK_Bg0 _ _ _ _ _ _ _ hc, ag_SK_Bat0 _ _ _ _ _ _ _ hc, ag_SK_Bpt0 _ _ _ _ _ _ _ hc, ag_SK_Bg1 _ _ _ _ _ _ _ hc, ag_SK_Bat1 _ _ _ _ _ _ _ hc, ag_SK_Bpt1 _ _ _ _ _ _ _ hc, ag_SK_Bg2 _ _ _ _ _ _ _ hc, ag_SK_Bat2 _ _ _ _ _ _ _ hc, ag_SK_Bpt2 _ _ _ _ _ _ _ hc, ag_SK_Bg3 _ _ _ _ _ _ _ hc, ag_SK_Bat3 _ _ _ _ _ _ _ hc, ag_SK_Bpt3 _ _ _ _ _ _ _ hc, ag_SK_Bg4 _ _ _ _ _ _ _ hc, ag_SK_Bat4 _ _ _ _ _ _ _ hc, ag_SK_Bpt4 _ _ _ _ _ _ _ hc, ag_SK_Bg5 _ _ _ _ _ _ _ hc, ag_SK_Bat5 _ _ _ _ _ _ _ hc, ag_SK_Bpt5 _ _ _ _ _ _ _ hc, ag_SK_Bg6 _ _ _ _ _ _ _ hc, ag_SK_Bat6 _ _ _ _ _ _ _ hc, ag_SK_Bpt6 _ _ _ _ _ _ _ hc, ag_SK_Bg7 _ _ _ _ _ _ _ hc, ag_SK_Bat7 _ _ _ _ _ _ _ hc, ag_SK_Bpt7 _ _ _ _ _ _ _ hc, ag_SK_Bg8 _ _ _ _ _ _ _ hc, ag_SK_Bp8 _ _ _ _ _ _ _ hc, ag_SK_Bg9 _ _ _ _ _ _ _ hc, ag_SK_Bp9 _ _ _ _ _ _ _ hc, ag_SK_Bck _ _ _ _ _ _ _ hc, ag_SK_Pg0 _ _ _ _ _ _ _ hc, ag_SK_Pat0 _ _ _ _ _ _ _ hc, ag_SK_Ppt0 _ _ _ _ _ _ _ hc, ag_SK_Pg1 _ _ _ _ _ _ _ hc, ag_SK_Pat1 _ _ _ _ _ _ _ hc, ag_SK_Ppt1 _ _ _ _ _ _ _ hc, ag_SK_Pg2 _ _ _ _ _ _ _ hc, ag_SK_Pat2 _ _ _ _ _ _ _ hc, ag_SK_Ppt2 _ _ _ _ _ _ _ hc, ag_SK_Pg3 _ _ _ _ _ _ _ hc, ag_SK_Pat3 _ _ _ _ _ _ _ hc, ag_SK_Ppt3 _ _ _ _ _ _ _ hc, ag_SK_Pg4 _ _ _ _ _ _ _ hc, ag_SK_Pat4 _ _ _ _ _ _ _ hc, ag_SK_Ppt4 _ _ _ _ _ _ _ hc, ag_SK_Pg5 _ _ _ _ _ _ _ hc, ag_SK_Pat5 _ _ _ _ _ _ _ hc, ag_SK_Ppt5 _ _ _ _ _ _ _ hc, ag_SK_Pg6 _ _ _ _ _ _ _ hc, ag_SK_Pp6 _ _ _ _ _ _ _ hc, ag_SK_Pck _ _ _ _ _ _ _ hc, ag_SK_Hg0 _ _ _ _ _ _ _ hc, ag_SK_Hat0 _ _ _ _ _ _ _ hc, ag_SK_Hpt0 _ _ _ _ _ _ _ hc, ag_SK_Hg1 _ _ _ _ _ _ _ hc, ag_SK_Hat1 _ _ _ _ _ _ _ hc, ag_SK_Hpt1 _ _ _ _ _ _ _ hc, ag_SK_Hg2 _ _ _ _ _ _ _ hc, ag_SK_Hat2 _ _ _ _ _ _ _ hc, ag_SK_Hpt2 _ _ _ _ _ _ _ hc, ag_SK_Hg3 _ _ _ _ _ _ _ hc, ag_SK_Hat3 _ _ _ _ _ _ _ hc, ag_SK_Hpt3 _ _ _ _ _ _ _ hc, ag_SK_Hg4 _ _ _ _ _ _ _ hc, ag_SK_Hp4 _ _ _ _ _ _ _ hc, ag_SK_Hg5 _ _ _ _ _ _ _ hc, ag_SK_Hp5 _ _ _ _ _ _ _ hc, ag_SK_Hg6 _ _ _ _ _ _ _ hc, ag_SK_Hp6 _ _ _ _ _ _ _ hc, ag_SK_Hck _ _ _ _ _ _ _ hc, ag_SK_f0 _ _ _ _ _ _ _ hc, ag_SK_f1 _ _ _ _ _ _ _ hc, ag_SK_f2 _ _ _ _ _ _ _ hc, ag_SK_ck _ _ _ _ _ _ _ hc, ag_kk_v, ag_kk_n, Nat.reduceAdd, hset, hfn, ag_nm_3]
      by_cases q3 : f = 3
      · simp only [q3, ag_b0, ag_b1, true_and, or_true, true_or, Int.reduceEq, ne_eq, not_false_eq_true, not_true_eq_false, ↓reduceIte]
        exact ih (i + 1) _ _ (ag_set_sm hs2 (by omega) (by omega) (by omega) (by omega) (by omega) (by omega)) (by omega)
      · simp only [q3, ag_b0, ag_b1, true_and, or_true, true_or, Int.reduceEq, ne_eq, not_false_eq_true, not_true_eq_false, ↓reduceIte]
        exact ih (i + 1) _ _ (ag_set_sm hs2 (by omega) (by omega) (by omega) (by omega) (by omega) (by omega)) (by omega)
theorem ag_K_settlePassed {gp : Nat → Nat → Int} {x : Int} (hc : B + 7 ≤ c) (hs : ag_sm gb) (hs2 : ag_sm gp) (hv2 : vp 0 = m) (hm : m ≤ 20) (x1 : -1 ≤ x) (x2 : x ≤ 20) :
    ag_cl9 28 [ag_R c, ag_I x] (ag_SK B σ c gh vh gb vb gp vp) K = K (Sum.inl none) (ag_SK B σ c gh vh gb vb (ag_spl gb x m m 0 (ag_set gp x 1 (-1) m)) vp) := by
  have hx : ag_nm x = x := ag_nm_of (by omega) (by omega)
  have hset := fun K => ag_K_settle σ gh vh (gb := gb) (vb := vb) (gp := gp) (b := x) (s := 1) (y := -1) hc hs2 hv2 hm hx ag_nm_1 K
  rw [← ag_K_sP_loop σ gh vh (vb := vb) (vp := vp) K hc hs hv2 hm x1 x2 m 0 (ag_set gp x 1 (-1) m) none (ag_set_sm hs2 (by omega) (by omega) (by omega) (by omega) (by omega) (by omega)) (by omega)]
  simp only [ag_i28_0, ag_i28_1, ag_i28_4, ag_i28_5, ag_i28_6, ag_i28_7, ag_i28_10, ag_i28_11_n, ag_i28_11_i, ag_i28_11_r, ag_e28, ag_SK_Bg0 _ _ _ _ _ _ _ hc, ag_SK_Bat0 _ _ _ _ _ _ _ hc, ag_SK_Bpt0 _ _ _ _ _ _ _ hc, ag_SK_Bg1 _ _ _ _ _ _ _ hc, ag_SK_Bat1 _ _ _ _ _ _ _ hc, ag_SK_Bpt1 _ _ _ _ _ _ _ hc, ag_SK_Bg2 _ _ _ _ _ _ _ hc, ag_SK_Bat2 _ _ _ _ _ _ _ hc, ag_SK_Bpt2 _ _ _ _ _ _ _ hc, ag_SK_Bg3 _ _ _ _ _ _ _ hc, ag_SK_Bat3 _ _ _ _ _ _ _ hc, ag_SK_Bpt3 _ _ _ _ _ _ _ hc, ag_SK_Bg4 _ _ _ _ _ _ _ hc, ag_SK_Bat4 _ _ _ _ _ _ _ hc, ag_SK_Bpt4 _ _ _ _ _ _ _ hc, ag_SK_Bg5 _ _ _ _ _ _ _ hc, ag_SK_Bat5 _ _ _ _ _ _ _ hc, ag_SK_Bpt5 _ _ _ _ _ _ _ hc, ag_SK_Bg6 _ _ _ _ _ _ _ hc, ag_SK_Bat6 _ _ _ _ _ _ _ hc, ag_SK_Bpt6 _ _ _ _ _ _ _ hc, ag_SK_Bg7 _ _ _ _ _ _ _ hc, ag_SK_Bat7 _ _ _ _ _ _ _ hc, ag_SK_Bpt7 _ _ _ _ _ _ _ hc, ag_SK_Bg8 _ _ _ _ _ _ _ hc, ag_SK_Bp8 _ _ _ _ _ _ _ hc, ag_SK_Bg9 _ _ _ _ _ _ _ hc, ag_SK_Bp9 _ _ _ _ _ _ _ hc, ag_SK_Bck _ _ _ _ _ _ _ hc, ag_SK_Pg0 _ _ _ _ _ _ _ hc, ag_SK_Pat0 _ _ _ _ _ _ _ hc, ag_SK_Ppt0 _ _ _ _ _ _ _ hc, ag_SK_Pg1 _ _ _ _ _ _ _ hc, ag_SK_Pat1 _ _ _ _ _ _ _ hc, ag_SK_Ppt1 _ _ _ _ _ _ _ hc, ag_SK_Pg2 _ _ _ _ _ _ _ hc, ag_SK_Pat2 _ _ _ _ _ _ _ hc, ag_SK_Ppt2 _ _ _ _ _ _ _ hc, ag_SK_Pg3 _ _ _ _ _ _ _ hc, ag_SK_Pat3 _ _ _ _ _ _ _ hc, ag_SK_Ppt3 _ _ _ _ _ _ _ hc, ag_SK_Pg4 _ _ _ _ _ _ _ hc, ag_SK_Pat4 _ _ _ _ _ _ _ hc, ag_SK_Ppt4 _ _ _ _ _ _ _ hc, ag_SK_Pg5 _ _ _ _ _ _ _ hc, ag_SK_Pat5 _ _ _ _ _ _ _ hc, ag_SK_Ppt5 _ _ _ _ _ _ _ hc, ag_SK_Pg6 _ _ _ _ _ _ _ hc, ag_SK_Pp6 _ _ _ _ _ _ _ hc, ag_SK_Pck _ _ _ _ _ _ _ hc, ag_SK_Hg0 _ _ _ _ _ _ _ hc, ag_SK_Hat0 _ _ _ _ _ _ _ hc, ag_SK_Hpt0 _ _ _ _ _ _ _ hc, ag_SK_Hg1 _ _ _ _ _ _ _ hc, ag_SK_Hat1 _ _ _ _ _ _ _ hc, ag_SK_Hpt1 _ _ _ _ _ _ _ hc, ag_SK_Hg2 _ _ _ _ _ _ _ hc, ag_SK_Hat2 _ _ _ _ _ _ _ hc, ag_SK_Hpt2 _ _ _ _ _ _ _ hc, ag_SK_Hg3 _ _ _ _ _ _ _ hc, ag_SK_Hat3 _ _ _ _ _ _ _ hc, ag_SK_Hpt3 _ _ _ _ _ _ _ hc, ag_SK_Hg4 _ _ _ _ _ _ _ hc, ag_SK_Hp4 _ _ _ _ _ _ _ hc, ag_SK_Hg5 _ _ _ _ _ _ _ hc, ag_SK_Hp5 _ _ _ _ _ _ _ hc, ag_SK_Hg6 _ _ _ _ _ _ _ hc, ag_SK_Hp6 _ _ _ _ _ _ _ hc, ag_SK_Hck _ _ _ _ _ _ _ hc, ag_SK_f0 _ _ _ _ _ _ _ hc, ag_SK_f1 _ _ _ _ _ _ _ hc, ag_SK_f2 _ _ _ _ _ _ _ hc, ag_SK_ck _ _ _ _ _ _ _ hc, ag_kk_v, ag_kk_n, Nat.reduceAdd, hset]
  rfl
end AGK4
