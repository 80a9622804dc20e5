/-! THE BILL of the class: its cells, and what is read of them. -/
/-- the first place from i on, at most k further, where p holds -/
def ag_ff (p : Nat → Bool) : Nat → Nat → Nat
  | 0, i => i
  | k + 1, i => if p i = true then i else ag_ff p k (i + 1)
theorem ag_ff_le (p : Nat → Bool) : ∀ (k i : Nat), i ≤ ag_ff p k i ∧ ag_ff p k i ≤ i + k := by
  intro k
  induction k with
  | zero => intro i; exact ⟨Nat.le_refl _, Nat.le_refl _⟩
  | succ k ih =>
    intro i
    rw [ag_ff]
    split
    · omega
    · have := ih (i + 1)
      omega
theorem ag_ff_no (p : Nat → Bool) : ∀ (k i j : Nat), i ≤ j → j < ag_ff p k i → p j = false := by
  intro k
  induction k with
  | zero => intro i j h1 h2; rw [ag_ff] at h2; omega
  | succ k ih =>
    intro i j h1 h2
    rw [ag_ff] at h2
    split at h2
    · omega
    · rename_i hp
      by_cases hij : i = j
      · subst hij; simpa using hp
      · exact ih (i + 1) j (by omega) h2
theorem ag_ff_yes (p : Nat → Bool) : ∀ (k i : Nat), ag_ff p k i < i + k → p (ag_ff p k i) = true := by
  intro k
  induction k with
  | zero => intro i h; rw [ag_ff] at h; omega
  | succ k ih =>
    intro i h
    rw [ag_ff] at h ⊢
    split
    · assumption
    · rename_i hp
      rw [if_neg hp] at h
      exact ih (i + 1) (by omega)
/-- the one place with these three -/
theorem ag_ff_is {p : Nat → Bool} {k i e : Nat} (h1 : i ≤ e) (h2 : e ≤ i + k) (h3 : ∀ j, i ≤ j → j < e → p j = false) (h4 : e < i + k → p e = true) : ag_ff p k i = e := by
  have g := ag_ff_le p k i
  rcases Nat.lt_trichotomy (ag_ff p k i) e with q | q | q
  · have := ag_ff_yes p k i (by omega)
    rw [h3 _ g.1 q] at this
    cases this
  · exact q
  · have := ag_ff_no p k i e h1 q
    rw [h4 (by omega)] at this
    cases this
/-- who came behind whom -/
def ag_cb (f : Nat → Nat → Int) (c : Nat) : Int := if 0 ≤ f 3 c ∧ f 5 (f 3 c).toNat = 3 then f 6 (f 3 c).toNat else -1
def ag_sm (g : Nat → Nat → Int) : Prop := ∀ k i, -100000 ≤ g k i ∧ g k i ≤ 100000
/-- the rows hold the bill r of n clauses, w ever; f: text, parent, high, came -/
def ag_BA (g : Nat → Nat → Int) (r : Nat → Nat) (f : Nat → Nat → Int) (w n : Nat) : Prop :=
  ag_sm g ∧ w ≤ 40 ∧ n ≤ w ∧ (∀ c, c < w → g 0 c = f 0 c ∧ g 1 c = f 1 c ∧ g 2 c = f 2 c ∧ g 3 c = f 3 c ∧ g 4 c = ag_cb f c) ∧ (∀ i, i < n → r i < w ∧ g 6 i = r i ∧ g 5 (r i) = i) ∧ (∀ c, c < w → (∀ i, i < n → r i ≠ c) → g 5 c = -1)
theorem ag_rd_nat {g : Nat → Int} {n i : Nat} (hn : n ≤ 1000000) (hi : i < n) : ag_rd n g (i : Int) = g i := by
  unfold ag_rd
  rw [ag_nm_nat (by omega), if_pos (by omega), Int.toNat_natCast]
theorem ag_rd_sm {g : Nat → Nat → Int} (hs : ag_sm g) (n k : Nat) (i : Int) : -100000 ≤ ag_rd n (g k) i ∧ ag_rd n (g k) i ≤ 100000 := by
  unfold ag_rd
  split
  · exact hs _ _
  · omega
theorem ag_nm_rd {g : Nat → Nat → Int} (hs : ag_sm g) (n k : Nat) (i : Int) : ag_nm (ag_rd n (g k) i) = ag_rd n (g k) i := by
  have := ag_rd_sm hs n k i
  exact ag_nm_of (by omega) (by omega)
/-- the end of the block of the clause that is read at p -/
def ag_eo (r : Nat → Nat) (f : Nat → Nat → Int) (n p : Nat) : Nat := ag_ff (fun i => decide (f 2 (r i) ≤ f 2 (r p))) (n - (p + 1)) (p + 1)
section AGB
variable (σ : ag_S) {a : Nat} {g : Nat → Nat → Int} {v : Nat → Int} {w n : Nat} (K : ag_Rs → ag_S → Prop)
theorem ag_B_isFull (hv : v 0 = w) (hw : w ≤ 1000) : ag_cl9 5 [ag_R a] (ag_SB σ a g v) K = K (Sum.inl (some (ag_I (if 40 ≤ w then 1 else 0)))) (ag_SB σ a g v) := by
  simp only [ag_e5, ag_i5_0, ag_i5_1, ag_i5_4, ag_i5_6, ag_i5_9, ag_i5_10, ag_i5_13, ag_i5_14, ag_SB_g0, ag_SB_g1, ag_SB_g2, ag_SB_g3, ag_SB_g4, ag_SB_g5, ag_SB_g6, ag_SB_g7, ag_SB_g8, ag_SB_g9, ag_SB_at0, ag_SB_at1, ag_SB_at2, ag_SB_at3, ag_SB_at4, ag_SB_at5, ag_SB_at6, ag_SB_at7, ag_SB_pt0, ag_SB_pt1, ag_SB_pt2, ag_SB_pt3, ag_SB_pt4, ag_SB_pt5, ag_SB_pt6, ag_SB_pt7, ag_SB_ck, hv, ag_nm_nat (show w ≤ 1000000 by omega), ag_nm_of (show (-2147483648 : Int) ≤ 40 by decide) (by decide), ag_nm_z, ag_nm_1]
  by_cases h1 : 40 ≤ w
  · rw [if_pos h1, if_neg (by omega)]
    simp
  · rw [if_neg h1, if_pos (by omega)]
    simp
theorem ag_B_endOf_loop {c : Int} (hv : v 1 = n) (hs : ag_sm g) (hn : n ≤ 40) : ∀ (k i : Nat), i + k = n →
    ag_wp 9 11 [some (ag_R a), some (ag_I c), some (ag_I i)] [] (ag_SB σ a g v) K = K (Sum.inl (some (ag_I (ag_ff (fun i => decide (ag_rd 40 (g 2) (ag_rd 40 (g 6) i) ≤ ag_rd 40 (g 2) c)) k i : Nat)))) (ag_SB σ a g v) := by
  intro k
  induction k with
  | zero =>
    intro i hi
    rw [ag_i9_11]
    simp only [ag_i9_0, ag_i9_1, ag_i9_4, ag_i9_5, ag_i9_8, ag_i9_9, ag_i9_10_n, ag_i9_10_i, ag_i9_10_r, ag_i9_12, ag_i9_13, ag_i9_16, ag_i9_19, ag_i9_20, ag_i9_23, ag_i9_24, ag_i9_27, ag_i9_28, ag_i9_31, ag_i9_34, ag_i9_35, ag_i9_38, ag_i9_39, ag_i9_42, ag_i9_45, ag_i9_46, ag_i9_47_n, ag_i9_47_i, ag_i9_47_r, ag_i9_50, ag_i9_53, ag_i9_54, ag_i9_57, ag_SB_g0, ag_SB_g1, ag_SB_g2, ag_SB_g3, ag_SB_g4, ag_SB_g5, ag_SB_g6, ag_SB_g7, ag_SB_g8, ag_SB_g9, ag_SB_at0, ag_SB_at1, ag_SB_at2, ag_SB_at3, ag_SB_at4, ag_SB_at5, ag_SB_at6, ag_SB_at7, ag_SB_pt0, ag_SB_pt1, ag_SB_pt2, ag_SB_pt3, ag_SB_pt4, ag_SB_pt5, ag_SB_pt6, ag_SB_pt7, ag_SB_ck, hv, ag_nm_nat (show i ≤ 1000000 by omega), ag_nm_nat (show n ≤ 1000000 by omega)]
    rw [if_pos (by omega)]
    rw [ag_ff, show i = n by omega]
  | succ k ih =>
    intro i hi
    rw [ag_i9_11]
    simp only [ag_i9_0, ag_i9_1, ag_i9_4, ag_i9_5, ag_i9_8, ag_i9_9, ag_i9_10_n, ag_i9_10_i, ag_i9_10_r, ag_i9_12, ag_i9_13, ag_i9_16, ag_i9_19, ag_i9_20, ag_i9_23, ag_i9_24, ag_i9_27, ag_i9_28, ag_i9_31, ag_i9_34, ag_i9_35, ag_i9_38, ag_i9_39, ag_i9_42, ag_i9_45, ag_i9_46, ag_i9_47_n, ag_i9_47_i, ag_i9_47_r, ag_i9_50, ag_i9_53, ag_i9_54, ag_i9_57, ag_SB_g0, ag_SB_g1, ag_SB_g2, ag_SB_g3, ag_SB_g4, ag_SB_g5, ag_SB_g6, ag_SB_g7, ag_SB_g8, ag_SB_g9, ag_SB_at0, ag_SB_at1, ag_SB_at2, ag_SB_at3, ag_SB_at4, ag_SB_at5, ag_SB_at6, ag_SB_at7, ag_SB_pt0, ag_SB_pt1, ag_SB_pt2, ag_SB_pt3, ag_SB_pt4, ag_SB_pt5, ag_SB_pt6, ag_SB_pt7, ag_SB_ck, hv, ag_nm_nat (show i ≤ 1000000 by omega), ag_nm_nat (show n ≤ 1000000 by omega), ag_kk_v, ag_kk_n, Nat.reduceAdd, ag_nm_rd hs]
    rw [if_neg (by omega), ag_ff]
    by_cases hp : ag_rd 40 (g 2) (ag_rd 40 (g 6) i) ≤ ag_rd 40 (g 2) c
    · rw [if_neg (by omega), if_pos (by simpa using hp)]
    · rw [if_pos (by omega), if_neg (by simpa using hp)]
      exact ih (i + 1) (by omega)
theorem ag_B_endOf {c : Int} {p : Nat} (hv : v 1 = n) (hs : ag_sm g) (hn : n ≤ 40) (hp : ag_rd 40 (g 5) c = p) (hpn : p < n) :
    ag_cl9 9 [ag_R a, ag_I c] (ag_SB σ a g v) K = K (Sum.inl (some (ag_I (ag_ff (fun i => decide (ag_rd 40 (g 2) (ag_rd 40 (g 6) i) ≤ ag_rd 40 (g 2) c)) (n - (p + 1)) (p + 1) : Nat)))) (ag_SB σ a g v) := by
  simp only [ag_e9, ag_i9_0, ag_i9_1, ag_i9_4, ag_i9_5, ag_i9_8, ag_i9_9, ag_i9_10_n, ag_i9_10_i, ag_i9_10_r, ag_i9_12, ag_i9_13, ag_i9_16, ag_i9_19, ag_i9_20, ag_i9_23, ag_i9_24, ag_i9_27, ag_i9_28, ag_i9_31, ag_i9_34, ag_i9_35, ag_i9_38, ag_i9_39, ag_i9_42, ag_i9_45, ag_i9_46, ag_i9_47_n, ag_i9_47_i, ag_i9_47_r, ag_i9_50, ag_i9_53, ag_i9_54, ag_i9_57, ag_SB_g0, ag_SB_g1, ag_SB_g2, ag_SB_g3, ag_SB_g4, ag_SB_g5, ag_SB_g6, ag_SB_g7, ag_SB_g8, ag_SB_g9, ag_SB_at0, ag_SB_at1, ag_SB_at2, ag_SB_at3, ag_SB_at4, ag_SB_at5, ag_SB_at6, ag_SB_at7, ag_SB_pt0, ag_SB_pt1, ag_SB_pt2, ag_SB_pt3, ag_SB_pt4, ag_SB_pt5, ag_SB_pt6, ag_SB_pt7, ag_SB_ck, ag_kk_v, ag_kk_n, Nat.reduceAdd, hp]
  exact ag_B_endOf_loop σ K hv hs hn (n - (p + 1)) (p + 1) (by omega)
theorem ag_B_holds {c : Int} (hv : v 0 = w) (hs : ag_sm g) (hw : w ≤ 1000) : ag_cl9 7 [ag_R a, ag_I c] (ag_SB σ a g v) K = K (Sum.inl (some (ag_I (if 0 ≤ ag_nm c ∧ ag_nm c < w ∧ ag_rd 40 (g 5) c ≠ -1 then 1 else 0)))) (ag_SB σ a g v) := by
  simp only [ag_e7, ag_i7_0, ag_i7_1, ag_i7_4, ag_i7_5, ag_i7_6, ag_i7_9, ag_i7_12, ag_i7_13, ag_i7_16, ag_i7_17, ag_i7_20, ag_i7_21, ag_i7_24, ag_i7_25, ag_i7_28, ag_i7_29, ag_SB_g0, ag_SB_g1, ag_SB_g2, ag_SB_g3, ag_SB_g4, ag_SB_g5, ag_SB_g6, ag_SB_g7, ag_SB_g8, ag_SB_g9, ag_SB_at0, ag_SB_at1, ag_SB_at2, ag_SB_at3, ag_SB_at4, ag_SB_at5, ag_SB_at6, ag_SB_at7, ag_SB_pt0, ag_SB_pt1, ag_SB_pt2, ag_SB_pt3, ag_SB_pt4, ag_SB_pt5, ag_SB_pt6, ag_SB_pt7, ag_SB_ck, ag_kk_v, ag_kk_n, Nat.reduceAdd, hv, ag_nm_nat (show w ≤ 1000000 by omega), ag_nm_z, ag_nm_1, ag_nm_m, ag_nm_rd hs]
  by_cases h1 : ag_nm c < 0
  · rw [if_pos h1, if_neg (by omega)]
    simp
  · rw [if_neg h1]
    by_cases h2 : (w : Int) ≤ ag_nm c
    · rw [if_pos h2, if_neg (by omega)]
      simp
    · rw [if_neg h2]
      by_cases h3 : ag_rd 40 (g 5) c = -1
      · rw [if_pos h3, if_neg (by omega)]
        simp
      · rw [if_neg h3, if_pos (by omega)]
        simp
theorem ag_B_holds_y {c : Int} (hv : v 0 = w) (hs : ag_sm g) (hw : w ≤ 1000) (h : 0 ≤ ag_nm c ∧ ag_nm c < w ∧ ag_rd 40 (g 5) c ≠ -1) : ag_cl9 7 [ag_R a, ag_I c] (ag_SB σ a g v) K = K (Sum.inl (some (ag_I 1))) (ag_SB σ a g v) := by
  rw [ag_B_holds σ K hv hs hw, if_pos h]
theorem ag_B_holds_n {c : Int} (hv : v 0 = w) (hs : ag_sm g) (hw : w ≤ 1000) (h : ¬ (0 ≤ ag_nm c ∧ ag_nm c < w ∧ ag_rd 40 (g 5) c ≠ -1)) : ag_cl9 7 [ag_R a, ag_I c] (ag_SB σ a g v) K = K (Sum.inl (some (ag_I 0))) (ag_SB σ a g v) := by
  rw [ag_B_holds σ K hv hs hw, if_neg h]
theorem ag_B_knows {c : Int} (hv : v 0 = w) (hw : w ≤ 1000) : ag_cl9 6 [ag_R a, ag_I c] (ag_SB σ a g v) K = K (Sum.inl (some (ag_I (if 0 ≤ ag_nm c ∧ ag_nm c < w then 1 else 0)))) (ag_SB σ a g v) := by
  simp only [ag_e6, ag_i6_0, ag_i6_1, ag_i6_4, ag_i6_5, ag_i6_6, ag_i6_9, ag_i6_12, ag_i6_13, ag_i6_16, ag_i6_17, ag_SB_g0, ag_SB_g1, ag_SB_g2, ag_SB_g3, ag_SB_g4, ag_SB_g5, ag_SB_g6, ag_SB_g7, ag_SB_g8, ag_SB_g9, ag_SB_at0, ag_SB_at1, ag_SB_at2, ag_SB_at3, ag_SB_at4, ag_SB_at5, ag_SB_at6, ag_SB_at7, ag_SB_pt0, ag_SB_pt1, ag_SB_pt2, ag_SB_pt3, ag_SB_pt4, ag_SB_pt5, ag_SB_pt6, ag_SB_pt7, ag_SB_ck, ag_kk_v, ag_kk_n, Nat.reduceAdd, hv, ag_nm_nat (show w ≤ 1000000 by omega), ag_nm_z, ag_nm_1]
  by_cases h1 : ag_nm c < 0
  · rw [if_pos h1, if_neg (by omega)]
    simp
  · rw [if_neg h1]
    by_cases h2 : (w : Int) ≤ ag_nm c
    · rw [if_pos h2, if_neg (by omega)]
      simp
    · rw [if_neg h2, if_pos (by omega)]
      simp
theorem ag_B_highUnder {c : Int} : ag_cl9 8 [ag_R a, ag_I c] (ag_SB σ a g v) K = K (Sum.inl (some (ag_I (if ag_nm c = -1 then 0 else ag_rd 40 (g 2) c + 1)))) (ag_SB σ a g v) := by
  simp only [ag_e8, ag_i8_0, ag_i8_1, ag_i8_2, ag_i8_5, ag_i8_6, ag_i8_9, ag_i8_10, ag_i8_13, ag_i8_14, ag_i8_17, ag_i8_18, ag_i8_19, ag_SB_g0, ag_SB_g1, ag_SB_g2, ag_SB_g3, ag_SB_g4, ag_SB_g5, ag_SB_g6, ag_SB_g7, ag_SB_g8, ag_SB_g9, ag_SB_at0, ag_SB_at1, ag_SB_at2, ag_SB_at3, ag_SB_at4, ag_SB_at5, ag_SB_at6, ag_SB_at7, ag_SB_pt0, ag_SB_pt1, ag_SB_pt2, ag_SB_pt3, ag_SB_pt4, ag_SB_pt5, ag_SB_pt6, ag_SB_pt7, ag_SB_ck, ag_kk_v, ag_kk_n, Nat.reduceAdd, ag_nm_m]
  by_cases h1 : ag_nm c = -1
  · rw [if_neg (by omega), if_pos h1]
  · rw [if_pos h1, if_neg h1]
/-- the numbers, after k clauses are numbered anew -/
def ag_rn (r q : Nat → Int) : Nat → Nat → Int
  | 0 => q
  | k + 1 => ag_wr 40 (ag_rn r q k) (ag_rd 40 r k) k
theorem ag_B_renumber_loop (hv : v 1 = n) (hn : n ≤ 40) (ha : 1 ≤ a) (q : Nat → Int) : ∀ (k i : Nat), i + k = n → 
    ag_wp 18 2 [some (ag_R a), some (ag_I i)] [] (ag_SB σ a (ag_ug g 5 (ag_rn (g 6) q i)) v) K = K (Sum.inl none) (ag_SB σ a (ag_ug g 5 (ag_rn (g 6) q n)) v) := by
  intro k
  induction k with
  | zero =>
    intro i hi
    rw [ag_i18_2]
    simp only [ag_i18_0, ag_i18_1_n, ag_i18_1_i, ag_i18_1_r, ag_i18_3, ag_i18_4, ag_i18_7, ag_i18_10, ag_i18_11, ag_i18_14, ag_i18_15, ag_i18_18, ag_i18_19, ag_i18_22, ag_i18_23, ag_i18_26_n, ag_i18_26_i, ag_i18_26_r, ag_i18_29, ag_i18_32, ag_SB_g0, ag_SB_g1, ag_SB_g2, ag_SB_g3, ag_SB_g4, ag_SB_g5, ag_SB_g6, ag_SB_g7, ag_SB_g8, ag_SB_g9, ag_SB_at0, ag_SB_at1, ag_SB_at2, ag_SB_at3, ag_SB_at4, ag_SB_at5, ag_SB_at6, ag_SB_at7, ag_SB_pt0, ag_SB_pt1, ag_SB_pt2, ag_SB_pt3, ag_SB_pt4, ag_SB_pt5, ag_SB_pt6, ag_SB_pt7, ag_SB_ck, ag_kk_v, ag_kk_n, Nat.reduceAdd, hv, ag_nm_nat (show i ≤ 1000000 by omega), ag_nm_nat (show n ≤ 1000000 by omega)]
    rw [if_pos (by omega), show i = n by omega]
  | succ k ih =>
    intro i hi
    rw [ag_i18_2]
    simp only [ag_i18_0, ag_i18_1_n, ag_i18_1_i, ag_i18_1_r, ag_i18_3, ag_i18_4, ag_i18_7, ag_i18_10, ag_i18_11, ag_i18_14, ag_i18_15, ag_i18_18, ag_i18_19, ag_i18_22, ag_i18_23, ag_i18_26_n, ag_i18_26_i, ag_i18_26_r, ag_i18_29, ag_i18_32, ag_SB_g0, ag_SB_g1, ag_SB_g2, ag_SB_g3, ag_SB_g4, ag_SB_g5, ag_SB_g6, ag_SB_g7, ag_SB_g8, ag_SB_g9, ag_SB_at0, ag_SB_at1, ag_SB_at2, ag_SB_at3, ag_SB_at4, ag_SB_at5, ag_SB_at6, ag_SB_at7, ag_SB_pt0, ag_SB_pt1, ag_SB_pt2, ag_SB_pt3, ag_SB_pt4, ag_SB_pt5, ag_SB_pt6, ag_SB_pt7, ag_SB_ck, ag_kk_v, ag_kk_n, Nat.reduceAdd, hv, ag_nm_nat (show i ≤ 1000000 by omega), ag_nm_nat (show n ≤ 1000000 by omega)]
    rw [if_neg (by omega)]
    have h1 := ih (i + 1) (by omega)
    rw [← h1]
    congr 1
theorem ag_ug_at (g : Nat → Nat → Int) (k : Nat) (x : Nat → Int) (j : Nat) : ag_ug g k x j = if j = k then x else g j := rfl
theorem ag_ui_at (g : Nat → Int) (k : Nat) (x : Int) (j : Nat) : ag_ui g k x j = if j = k then x else g j := rfl
theorem ag_ug_self (g : Nat → Nat → Int) (k : Nat) : ag_ug g k (g k) = g := by
  funext j
  unfold ag_ug
  split
  · rename_i h; rw [h]
  · rfl
theorem ag_ug_2 (g : Nat → Nat → Int) (k : Nat) (x y : Nat → Int) : ag_ug (ag_ug g k x) k y = ag_ug g k y := by
  funext j
  unfold ag_ug
  split <;> rfl
theorem ag_wr_nat {g : Nat → Int} {m i : Nat} (x : Int) (hm : m ≤ 1000000) (hi : i < m) : ag_wr m g (i : Int) x = ag_ui g i x := by
  unfold ag_wr
  rw [ag_nm_nat (by omega), if_pos (by omega), Int.toNat_natCast]
theorem ag_B_renumber (hv : v 1 = n) (hn : n ≤ 40) (ha : 1 ≤ a) : ag_cl9 18 [ag_R a] (ag_SB σ a g v) K = K (Sum.inl none) (ag_SB σ a (ag_ug g 5 (ag_rn (g 6) (g 5) n)) v) := by
  rw [← ag_B_renumber_loop σ K hv hn ha (g 5) n 0 (by omega)]
  simp only [ag_e18, ag_i18_0, ag_i18_1_n, ag_i18_1_i, ag_i18_1_r, ag_i18_3, ag_i18_4, ag_i18_7, ag_i18_10, ag_i18_11, ag_i18_14, ag_i18_15, ag_i18_18, ag_i18_19, ag_i18_22, ag_i18_23, ag_i18_26_n, ag_i18_26_i, ag_i18_26_r, ag_i18_29, ag_i18_32, ag_rn, ag_ug_self]
  rfl
/-- the row r, from place i + 1 to n moved up by one -/
def ag_sh (r : Nat → Int) (i n : Nat) : Nat → Int := fun j => if i < j ∧ j ≤ n then r (j - 1) else r j
theorem ag_B_insert_loop {above words : Int} {place made : Nat} (hn : n < 40) (q : Nat → Int) : ∀ (k i : Nat), i = place + k → i ≤ n →
    ag_wp 14 85 [some (ag_R a), some (ag_I place), some (ag_I above), some (ag_I words), some (ag_I made), some (ag_I i)] [] (ag_SB σ a (ag_ug g 6 (ag_sh q i n)) v) K =
    ag_wp 14 117 [some (ag_R a), some (ag_I place), some (ag_I above), some (ag_I words), some (ag_I made), some (ag_I place)] [] (ag_SB σ a (ag_ug g 6 (ag_sh q place n)) v) K := by
  intro k
  induction k with
  | zero =>
    intro i hi hin
    rw [ag_i14_85]
    simp only [ag_i14_87, ag_i14_88, ag_nm_nat (show i ≤ 1000000 by omega), ag_nm_nat (show place ≤ 1000000 by omega)]
    rw [if_pos (by omega), show i = place by omega]
  | succ k ih =>
    intro i hi hin
    have h1 := ih (i - 1) (by omega) (by omega)
    rw [ag_i14_85]
    simp only [ag_i14_87, ag_i14_88, ag_i14_91, ag_i14_92, ag_i14_95, ag_i14_97, ag_i14_98, ag_i14_101, ag_i14_103, ag_i14_104, ag_i14_105, ag_i14_108, ag_i14_111_n, ag_i14_111_i, ag_i14_111_r, ag_i14_114, ag_SB_g0, ag_SB_g1, ag_SB_g2, ag_SB_g3, ag_SB_g4, ag_SB_g5, ag_SB_g6, ag_SB_g7, ag_SB_g8, ag_SB_g9, ag_SB_at0, ag_SB_at1, ag_SB_at2, ag_SB_at3, ag_SB_at4, ag_SB_at5, ag_SB_at6, ag_SB_at7, ag_SB_pt0, ag_SB_pt1, ag_SB_pt2, ag_SB_pt3, ag_SB_pt4, ag_SB_pt5, ag_SB_pt6, ag_SB_pt7, ag_SB_ck, ag_kk_v, ag_kk_n, Nat.reduceAdd, ag_nm_nat (show i ≤ 1000000 by omega), ag_nm_nat (show place ≤ 1000000 by omega)]
    rw [if_neg (by omega), ← h1]
    have e1 : ((i : Int) + (-1)) = ((i - 1 : Nat) : Int) := by omega
    have e2 : ((i : Int) - 1) = ((i - 1 : Nat) : Int) := by omega
    have e3 : ag_ug (ag_ug g 6 (ag_sh q i n)) 6 (ag_wr 40 (ag_ug g 6 (ag_sh q i n) 6) (i : Int) (ag_rd 40 (ag_ug g 6 (ag_sh q i n) 6) ((i - 1 : Nat) : Int))) = ag_ug g 6 (ag_sh q (i - 1) n) := by
      rw [ag_ug_2, ag_ug_same, ag_rd_nat (by decide) (by omega), ag_wr_nat _ (by decide) (by omega)]
      congr 1
      funext j
      unfold ag_ui ag_sh
      by_cases hj : j = i
      · subst hj
        rw [if_pos rfl, if_neg (by omega), if_pos (by omega)]
      · rw [if_neg hj]
        by_cases h2 : i < j ∧ j ≤ n
        · rw [if_pos h2, if_pos (by omega)]
        · rw [if_neg h2, if_neg (by omega)]
    rw [e1, e2, e3]
/-- the rows behind insert -/
def ag_gi (g : Nat → Nat → Int) (w n place : Nat) (above words hu : Int) : Nat → Nat → Int :=
  let r2 := ag_ui (ag_sh (g 6) place n) place w
  ag_ug (ag_ug (ag_ug (ag_ug (ag_ug (ag_ug (ag_ug g 0 (ag_ui (g 0) w words)) 1 (ag_ui (g 1) w above)) 2 (ag_ui (g 2) w hu)) 3 (ag_ui (g 3) w (-1))) 4 (ag_ui (g 4) w (-1))) 6 r2) 5 (ag_rn r2 (g 5) (n + 1))
theorem ag_B_insert {above words : Int} {place : Nat} (hv0 : v 0 = w) (hv1 : v 1 = n) (hw : w < 40) (hn : n < 40) (hp : place ≤ n) (ha : 1 ≤ a) :
    ag_cl9 14 [ag_R a, ag_I place, ag_I above, ag_I words] (ag_SB σ a g v) K = K (Sum.inl (some (ag_I w))) (ag_SB σ a (ag_gi g w n place above words (if ag_nm above = -1 then 0 else ag_rd 40 (g 2) above + 1)) (ag_ui (ag_ui v 0 (w + 1)) 1 (n + 1))) := by
  have hf : ¬ 40 ≤ w := by omega
  simp only [ag_e14, ag_i14_0, ag_i14_1, ag_i14_4, ag_i14_7, ag_i14_8, ag_i14_9, ag_i14_10, ag_i14_13_n, ag_i14_13_i, ag_i14_13_r, ag_i14_15, ag_i14_16, ag_i14_17, ag_i14_20, ag_i14_21, ag_i14_22, ag_i14_25, ag_i14_26, ag_i14_29, ag_i14_31, ag_i14_32, ag_i14_35, ag_i14_36, ag_i14_39, ag_i14_41, ag_i14_42, ag_i14_45, ag_i14_46, ag_i14_49, ag_i14_51, ag_i14_52, ag_i14_53, ag_i14_56, ag_i14_59, ag_i14_60, ag_i14_63, ag_i14_65, ag_i14_66, ag_i14_69, ag_i14_70, ag_i14_73, ag_i14_75, ag_i14_76, ag_i14_79, ag_i14_80, ag_i14_83_n, ag_i14_83_i, ag_i14_83_r, ag_i14_87, ag_i14_88, ag_i14_91, ag_i14_92, ag_i14_95, ag_i14_97, ag_i14_98, ag_i14_101, ag_i14_103, ag_i14_104, ag_i14_105, ag_i14_108, ag_i14_111_n, ag_i14_111_i, ag_i14_111_r, ag_i14_114, ag_SB_g0, ag_SB_g1, ag_SB_g2, ag_SB_g3, ag_SB_g4, ag_SB_g5, ag_SB_g6, ag_SB_g7, ag_SB_g8, ag_SB_g9, ag_SB_at0, ag_SB_at1, ag_SB_at2, ag_SB_at3, ag_SB_at4, ag_SB_at5, ag_SB_at6, ag_SB_at7, ag_SB_pt0, ag_SB_pt1, ag_SB_pt2, ag_SB_pt3, ag_SB_pt4, ag_SB_pt5, ag_SB_pt6, ag_SB_pt7, ag_SB_ck, ag_kk_v, ag_kk_n, Nat.reduceAdd, ag_B_isFull _ _ hv0 (show w ≤ 1000 by omega), if_neg hf, ag_nm_z, if_true, ag_SB_p8 _ ha, hv0, ag_B_highUnder]
  simp only [ag_ug_at, ag_ui_at, Nat.reduceEqDiff, ↓reduceIte, hv1]
  have e2 : ag_ug (ag_ug (ag_ug (ag_ug (ag_ug g 0 (ag_wr 40 (g 0) w words)) 1 (ag_wr 40 (g 1) w above)) 2 (ag_wr 40 (g 2) w (if ag_nm above = -1 then 0 else ag_rd 40 (g 2) above + 1))) 3 (ag_wr 40 (g 3) w (-1))) 4 (ag_wr 40 (g 4) w (-1)) = ag_ug (ag_ug (ag_ug (ag_ug (ag_ug (ag_ug g 0 (ag_ui (g 0) w words)) 1 (ag_ui (g 1) w above)) 2 (ag_ui (g 2) w (if ag_nm above = -1 then 0 else ag_rd 40 (g 2) above + 1))) 3 (ag_ui (g 3) w (-1))) 4 (ag_ui (g 4) w (-1))) 6 (ag_sh (g 6) n n) := by
    have e1 : ag_sh (g 6) n n = g 6 := by
      funext j
      unfold ag_sh
      rw [if_neg (by omega)]
    rw [e1]
    simp only [ag_wr_nat _ (show 40 ≤ 1000000 by decide) hw]
    symm
    exact ag_ug_self _ 6
  rw [e2, ag_B_insert_loop σ K hn (g 6) (n - place) n (by omega) (Nat.le_refl _)]
  simp only [ag_i14_117, ag_i14_118, ag_i14_121, ag_i14_122, ag_i14_124, ag_i14_127, ag_i14_128, ag_i14_129, ag_i14_132, ag_i14_133, ag_i14_134, ag_i14_137, ag_i14_138, ag_i14_141, ag_i14_143, ag_SB_g0, ag_SB_g1, ag_SB_g2, ag_SB_g3, ag_SB_g4, ag_SB_g5, ag_SB_g6, ag_SB_g7, ag_SB_g8, ag_SB_g9, ag_SB_at0, ag_SB_at1, ag_SB_at2, ag_SB_at3, ag_SB_at4, ag_SB_at5, ag_SB_at6, ag_SB_at7, ag_SB_pt0, ag_SB_pt1, ag_SB_pt2, ag_SB_pt3, ag_SB_pt4, ag_SB_pt5, ag_SB_pt6, ag_SB_pt7, ag_SB_ck, ag_kk_v, ag_kk_n, Nat.reduceAdd, ag_SB_p9 _ ha, ag_ug_at, ag_ui_at, Nat.reduceEqDiff, ↓reduceIte, hv1]
  rw [ag_ug_2, ag_wr_nat _ (by decide) (by omega : place < 40), ag_B_renumber σ _ (show ag_ui (ag_ui v 0 (↑w + 1)) 1 (↑n + 1) 1 = ((n + 1 : Nat) : Int) by simp [ag_ui]) (by omega) ha]
  simp only [ag_i14_138, ag_i14_141, ag_i14_143, ag_kk_v, ag_kk_n, Nat.reduceAdd, ag_gi, ag_ug_at, ag_ui_at, Nat.reduceEqDiff, ↓reduceIte]
/-! what the others answer -/
theorem ag_B_endOfTrain_loop {c : Int} (hv : v 1 = n) (hs : ag_sm g) (hc : ag_nm c = c) (hn : n ≤ 40) : ∀ (k i : Nat) (x y : Option ag_V), i + k = n →
    ag_wp 10 6 [some (ag_R a), some (ag_I c), some (ag_I i), x, y] [] (ag_SB σ a g v) K = K (Sum.inl (some (ag_I (ag_ff (fun i => decide (ag_rd 40 (g 2) (ag_rd 40 (g 6) i) ≤ ag_rd 40 (g 2) c ∧ ¬ (ag_rd 40 (g 4) (ag_rd 40 (g 6) i) = c ∧ ag_rd 40 (g 1) (ag_rd 40 (g 6) i) = ag_rd 40 (g 1) c))) k i : Nat)))) (ag_SB σ a g v) := by
  intro k
  induction k with
  | zero =>
    intro i x y hi
    rw [ag_i10_6]
    simp only [ag_i10_0, ag_i10_1, ag_i10_2, ag_i10_5_n, ag_i10_5_i, ag_i10_5_r, ag_i10_7, ag_i10_8, ag_i10_11, ag_i10_14, ag_i10_15, ag_i10_18, ag_i10_19, ag_i10_22_n, ag_i10_22_i, ag_i10_22_r, ag_i10_23, ag_i10_24, ag_i10_27, ag_i10_28, ag_i10_31, ag_i10_32, ag_i10_35, ag_i10_36, ag_i10_39, ag_i10_40, ag_i10_43, ag_i10_44, ag_i10_47, ag_i10_48, ag_i10_51, ag_i10_54, ag_i10_55, ag_i10_58, ag_i10_59_n, ag_i10_59_i, ag_i10_59_r, ag_i10_61, ag_i10_62, ag_i10_65, ag_i10_66, ag_i10_69, ag_i10_70, ag_i10_73, ag_i10_74, ag_i10_77, ag_i10_80, ag_i10_82, ag_i10_85, ag_i10_86, ag_i10_87_n, ag_i10_87_i, ag_i10_87_r, ag_i10_90, ag_i10_93, ag_i10_94, ag_i10_97, ag_SB_g0, ag_SB_g1, ag_SB_g2, ag_SB_g3, ag_SB_g4, ag_SB_g5, ag_SB_g6, ag_SB_g7, ag_SB_g8, ag_SB_g9, ag_SB_at0, ag_SB_at1, ag_SB_at2, ag_SB_at3, ag_SB_at4, ag_SB_at5, ag_SB_at6, ag_SB_at7, ag_SB_pt0, ag_SB_pt1, ag_SB_pt2, ag_SB_pt3, ag_SB_pt4, ag_SB_pt5, ag_SB_pt6, ag_SB_pt7, ag_SB_ck, hv, ag_nm_nat (show i ≤ 1000000 by omega), ag_nm_nat (show n ≤ 1000000 by omega)]
    rw [if_pos (by omega)]
    rw [ag_ff, show i = n by omega]
  | succ k ih =>
    intro i x y hi
    rw [ag_i10_6]
    simp only [ag_i10_0, ag_i10_1, ag_i10_2, ag_i10_5_n, ag_i10_5_i, ag_i10_5_r, ag_i10_7, ag_i10_8, ag_i10_11, ag_i10_14, ag_i10_15, ag_i10_18, ag_i10_19, ag_i10_22_n, ag_i10_22_i, ag_i10_22_r, ag_i10_23, ag_i10_24, ag_i10_27, ag_i10_28, ag_i10_31, ag_i10_32, ag_i10_35, ag_i10_36, ag_i10_39, ag_i10_40, ag_i10_43, ag_i10_44, ag_i10_47, ag_i10_48, ag_i10_51, ag_i10_54, ag_i10_55, ag_i10_58, ag_i10_59_n, ag_i10_59_i, ag_i10_59_r, ag_i10_61, ag_i10_62, ag_i10_65, ag_i10_66, ag_i10_69, ag_i10_70, ag_i10_73, ag_i10_74, ag_i10_77, ag_i10_80, ag_i10_82, ag_i10_85, ag_i10_86, ag_i10_87_n, ag_i10_87_i, ag_i10_87_r, ag_i10_90, ag_i10_93, ag_i10_94, ag_i10_97, ag_SB_g0, ag_SB_g1, ag_SB_g2, ag_SB_g3, ag_SB_g4, ag_SB_g5, ag_SB_g6, ag_SB_g7, ag_SB_g8, ag_SB_g9, ag_SB_at0, ag_SB_at1, ag_SB_at2, ag_SB_at3, ag_SB_at4, ag_SB_at5, ag_SB_at6, ag_SB_at7, ag_SB_pt0, ag_SB_pt1, ag_SB_pt2, ag_SB_pt3, ag_SB_pt4, ag_SB_pt5, ag_SB_pt6, ag_SB_pt7, ag_SB_ck, hv, ag_nm_nat (show i ≤ 1000000 by omega), ag_nm_nat (show n ≤ 1000000 by omega), ag_kk_v, ag_kk_n, Nat.reduceAdd, ag_nm_rd hs, hc, ag_nm_1, ag_nm_z]
    rw [if_neg (by omega), ag_ff]
    have h1 := fun x y => ih (i + 1) x y (by omega)
    by_cases hC : ag_rd 40 (g 2) (ag_rd 40 (g 6) i) ≤ ag_rd 40 (g 2) c
    · have hC' := Int.not_lt.mpr hC
      by_cases hA : ag_rd 40 (g 4) (ag_rd 40 (g 6) i) = c
      · by_cases hB : ag_rd 40 (g 1) (ag_rd 40 (g 6) i) = ag_rd 40 (g 1) c
        · rw [if_neg (not_not_intro hA), if_neg (not_not_intro hB), if_neg hC', if_pos (by decide), if_neg (by simp [hA, hB])]
          exact h1 _ _
        · rw [if_neg (not_not_intro hA), if_pos hB, if_neg hC', if_neg (by decide), if_pos (by simp only [hB, hC, and_false, not_false_eq_true, and_self, decide_true])]
      · rw [if_pos hA, if_neg hC', if_neg (by decide), if_pos (by simp only [hA, hC, false_and, not_false_eq_true, and_self, decide_true])]
    · have hC' := Int.not_le.mp hC
      have hD : ∀ q : Prop, ∀ d : Decidable (ag_rd 40 (g 2) (ag_rd 40 (g 6) i) ≤ ag_rd 40 (g 2) c ∧ q), ¬ (@decide _ d = true) := by
        intro q d h
        exact hC (of_decide_eq_true h).1
      simp only [if_pos hC', if_neg (hD _ _), h1, ite_self]
      split
      · exact h1 _ _
      · split
        · exact h1 _ _
        · exact h1 _ _
theorem ag_B_endOfTrain {c : Int} {p : Nat} (hv : v 1 = n) (hs : ag_sm g) (hc : ag_nm c = c) (hn : n ≤ 40) (hp : ag_rd 40 (g 5) c = p) (hpn : p < n) {e : Nat} (he : ag_ff (fun i => decide (ag_rd 40 (g 2) (ag_rd 40 (g 6) i) ≤ ag_rd 40 (g 2) c)) (n - (p + 1)) (p + 1) = e) :
    ag_cl9 10 [ag_R a, ag_I c] (ag_SB σ a g v) K = K (Sum.inl (some (ag_I (ag_ff (fun i => decide (ag_rd 40 (g 2) (ag_rd 40 (g 6) i) ≤ ag_rd 40 (g 2) c ∧ ¬ (ag_rd 40 (g 4) (ag_rd 40 (g 6) i) = c ∧ ag_rd 40 (g 1) (ag_rd 40 (g 6) i) = ag_rd 40 (g 1) c))) (n - e) e : Nat)))) (ag_SB σ a g v) := by
  have := ag_ff_le (fun i => decide (ag_rd 40 (g 2) (ag_rd 40 (g 6) i) ≤ ag_rd 40 (g 2) c)) (n - (p + 1)) (p + 1)
  simp only [ag_e10, ag_i10_0, ag_i10_1, ag_i10_2, ag_i10_5_n, ag_i10_5_i, ag_i10_5_r, ag_i10_7, ag_i10_8, ag_i10_11, ag_i10_14, ag_i10_15, ag_i10_18, ag_i10_19, ag_i10_22_n, ag_i10_22_i, ag_i10_22_r, ag_i10_23, ag_i10_24, ag_i10_27, ag_i10_28, ag_i10_31, ag_i10_32, ag_i10_35, ag_i10_36, ag_i10_39, ag_i10_40, ag_i10_43, ag_i10_44, ag_i10_47, ag_i10_48, ag_i10_51, ag_i10_54, ag_i10_55, ag_i10_58, ag_i10_59_n, ag_i10_59_i, ag_i10_59_r, ag_i10_61, ag_i10_62, ag_i10_65, ag_i10_66, ag_i10_69, ag_i10_70, ag_i10_73, ag_i10_74, ag_i10_77, ag_i10_80, ag_i10_82, ag_i10_85, ag_i10_86, ag_i10_87_n, ag_i10_87_i, ag_i10_87_r, ag_i10_90, ag_i10_93, ag_i10_94, ag_i10_97, ag_SB_g0, ag_SB_g1, ag_SB_g2, ag_SB_g3, ag_SB_g4, ag_SB_g5, ag_SB_g6, ag_SB_g7, ag_SB_g8, ag_SB_g9, ag_SB_at0, ag_SB_at1, ag_SB_at2, ag_SB_at3, ag_SB_at4, ag_SB_at5, ag_SB_at6, ag_SB_at7, ag_SB_pt0, ag_SB_pt1, ag_SB_pt2, ag_SB_pt3, ag_SB_pt4, ag_SB_pt5, ag_SB_pt6, ag_SB_pt7, ag_SB_ck, ag_kk_v, ag_kk_n, Nat.reduceAdd, ag_B_endOf _ _ hv hs hn hp hpn, he]
  exact ag_B_endOfTrain_loop σ K hv hs hc hn (n - e) e none none (by omega)
theorem ag_B_below {c : Int} {p : Nat} (hv0 : v 0 = w) (hv : v 1 = n) (hs : ag_sm g) (hw : w ≤ 40) (hn : n ≤ 40) (h0 : 0 ≤ c) (h1 : c < w) (hp : ag_rd 40 (g 5) c = p) (hpn : p < n) :
    ag_cl9 11 [ag_R a, ag_I c] (ag_SB σ a g v) K = K (Sum.inl (some (ag_I ((ag_ff (fun i => decide (ag_rd 40 (g 2) (ag_rd 40 (g 6) i) ≤ ag_rd 40 (g 2) c)) (n - (p + 1)) (p + 1) : Nat) - p - 1)))) (ag_SB σ a g v) := by
  have e1 : ag_nm c = c := ag_nm_of (by omega) (by omega)
  have e2 : 0 ≤ ag_nm c ∧ ag_nm c < w ∧ ag_rd 40 (g 5) c ≠ -1 := by rw [e1, hp]; omega
  simp only [ag_e11, ag_i11_0, ag_i11_1, ag_i11_2, ag_i11_5, ag_i11_8, ag_i11_9, ag_i11_10, ag_i11_13, ag_i11_14, ag_i11_17, ag_i11_18, ag_i11_21, ag_i11_22, ag_i11_23, ag_i11_24, ag_i11_27, ag_i11_28, ag_SB_g0, ag_SB_g1, ag_SB_g2, ag_SB_g3, ag_SB_g4, ag_SB_g5, ag_SB_g6, ag_SB_g7, ag_SB_g8, ag_SB_g9, ag_SB_at0, ag_SB_at1, ag_SB_at2, ag_SB_at3, ag_SB_at4, ag_SB_at5, ag_SB_at6, ag_SB_at7, ag_SB_pt0, ag_SB_pt1, ag_SB_pt2, ag_SB_pt3, ag_SB_pt4, ag_SB_pt5, ag_SB_pt6, ag_SB_pt7, ag_SB_ck, ag_kk_v, ag_kk_n, Nat.reduceAdd, ag_B_holds_y _ _ hv0 hs (show w ≤ 1000 by omega) e2, ag_nm_1, ag_nm_z, ag_B_endOf _ _ hv hs hn hp hpn, hp]
  simp
theorem ag_B_below_0 {c : Int} (hv0 : v 0 = w) (hs : ag_sm g) (hw : w ≤ 40) (h0 : 0 ≤ c) (h1 : c < w) (hp : ag_rd 40 (g 5) c = -1) :
    ag_cl9 11 [ag_R a, ag_I c] (ag_SB σ a g v) K = K (Sum.inl (some (ag_I 0))) (ag_SB σ a g v) := by
  have e2 : ¬ (0 ≤ ag_nm c ∧ ag_nm c < w ∧ ag_rd 40 (g 5) c ≠ -1) := by rw [hp]; omega
  simp only [ag_e11, ag_i11_0, ag_i11_1, ag_i11_2, ag_i11_5, ag_i11_8, ag_i11_9, ag_i11_10, ag_i11_13, ag_i11_14, ag_i11_17, ag_i11_18, ag_i11_21, ag_i11_22, ag_i11_23, ag_i11_24, ag_i11_27, ag_i11_28, ag_SB_g0, ag_SB_g1, ag_SB_g2, ag_SB_g3, ag_SB_g4, ag_SB_g5, ag_SB_g6, ag_SB_g7, ag_SB_g8, ag_SB_g9, ag_SB_at0, ag_SB_at1, ag_SB_at2, ag_SB_at3, ag_SB_at4, ag_SB_at5, ag_SB_at6, ag_SB_at7, ag_SB_pt0, ag_SB_pt1, ag_SB_pt2, ag_SB_pt3, ag_SB_pt4, ag_SB_pt5, ag_SB_pt6, ag_SB_pt7, ag_SB_ck, ag_kk_v, ag_kk_n, Nat.reduceAdd, ag_B_holds_n _ _ hv0 hs (show w ≤ 1000 by omega) e2, ag_nm_z]
  simp
def ag_sb (g : Nat → Nat → Int) : Nat → Nat → Int
  | 0, _ => 0
  | k + 1, i => ag_rd 40 (g 2) (ag_rd 40 (g 6) i) + ag_sb g k (i + 1)
theorem ag_B_sumBelow_loop (hv : v 1 = n) (hn : n ≤ 40) : ∀ (k i : Nat) (s : Int), i + k = n →
    ag_wp 12 4 [some (ag_R a), some (ag_I s), some (ag_I i)] [] (ag_SB σ a g v) K = K (Sum.inl (some (ag_I (s + ag_sb g k i)))) (ag_SB σ a g v) := by
  intro k
  induction k with
  | zero =>
    intro i s hi
    rw [ag_i12_4]
    simp only [ag_i12_0, ag_i12_1_n, ag_i12_1_i, ag_i12_1_r, ag_i12_2, ag_i12_3_n, ag_i12_3_i, ag_i12_3_r, ag_i12_5, ag_i12_6, ag_i12_9, ag_i12_12, ag_i12_13, ag_i12_14, ag_i12_17, ag_i12_18, ag_i12_21, ag_i12_22, ag_i12_25, ag_i12_28, ag_i12_29_n, ag_i12_29_i, ag_i12_29_r, ag_i12_30_n, ag_i12_30_i, ag_i12_30_r, ag_i12_33, ag_i12_36, ag_i12_37, ag_SB_g0, ag_SB_g1, ag_SB_g2, ag_SB_g3, ag_SB_g4, ag_SB_g5, ag_SB_g6, ag_SB_g7, ag_SB_g8, ag_SB_g9, ag_SB_at0, ag_SB_at1, ag_SB_at2, ag_SB_at3, ag_SB_at4, ag_SB_at5, ag_SB_at6, ag_SB_at7, ag_SB_pt0, ag_SB_pt1, ag_SB_pt2, ag_SB_pt3, ag_SB_pt4, ag_SB_pt5, ag_SB_pt6, ag_SB_pt7, ag_SB_ck, hv, ag_nm_nat (show i ≤ 1000000 by omega), ag_nm_nat (show n ≤ 1000000 by omega)]
    rw [if_pos (by omega), ag_sb, Int.add_zero]
  | succ k ih =>
    intro i s hi
    rw [ag_i12_4]
    simp only [ag_i12_0, ag_i12_1_n, ag_i12_1_i, ag_i12_1_r, ag_i12_2, ag_i12_3_n, ag_i12_3_i, ag_i12_3_r, ag_i12_5, ag_i12_6, ag_i12_9, ag_i12_12, ag_i12_13, ag_i12_14, ag_i12_17, ag_i12_18, ag_i12_21, ag_i12_22, ag_i12_25, ag_i12_28, ag_i12_29_n, ag_i12_29_i, ag_i12_29_r, ag_i12_30_n, ag_i12_30_i, ag_i12_30_r, ag_i12_33, ag_i12_36, ag_i12_37, ag_SB_g0, ag_SB_g1, ag_SB_g2, ag_SB_g3, ag_SB_g4, ag_SB_g5, ag_SB_g6, ag_SB_g7, ag_SB_g8, ag_SB_g9, ag_SB_at0, ag_SB_at1, ag_SB_at2, ag_SB_at3, ag_SB_at4, ag_SB_at5, ag_SB_at6, ag_SB_at7, ag_SB_pt0, ag_SB_pt1, ag_SB_pt2, ag_SB_pt3, ag_SB_pt4, ag_SB_pt5, ag_SB_pt6, ag_SB_pt7, ag_SB_ck, ag_kk_v, ag_kk_n, Nat.reduceAdd, hv, ag_nm_nat (show i ≤ 1000000 by omega), ag_nm_nat (show n ≤ 1000000 by omega)]
    rw [if_neg (by omega), ag_sb, ← Int.add_assoc]
    exact ih (i + 1) _ (by omega)
theorem ag_B_sumBelow (hv : v 1 = n) (hn : n ≤ 40) : ag_cl9 12 [ag_R a] (ag_SB σ a g v) K = K (Sum.inl (some (ag_I (ag_sb g n 0)))) (ag_SB σ a g v) := by
  simp only [ag_e12, ag_i12_0, ag_i12_1_n, ag_i12_1_i, ag_i12_1_r, ag_i12_2, ag_i12_3_n, ag_i12_3_i, ag_i12_3_r, ag_i12_5, ag_i12_6, ag_i12_9, ag_i12_12, ag_i12_13, ag_i12_14, ag_i12_17, ag_i12_18, ag_i12_21, ag_i12_22, ag_i12_25, ag_i12_28, ag_i12_29_n, ag_i12_29_i, ag_i12_29_r, ag_i12_30_n, ag_i12_30_i, ag_i12_30_r, ag_i12_33, ag_i12_36, ag_i12_37, ag_SB_g0, ag_SB_g1, ag_SB_g2, ag_SB_g3, ag_SB_g4, ag_SB_g5, ag_SB_g6, ag_SB_g7, ag_SB_g8, ag_SB_g9, ag_SB_at0, ag_SB_at1, ag_SB_at2, ag_SB_at3, ag_SB_at4, ag_SB_at5, ag_SB_at6, ag_SB_at7, ag_SB_pt0, ag_SB_pt1, ag_SB_pt2, ag_SB_pt3, ag_SB_pt4, ag_SB_pt5, ag_SB_pt6, ag_SB_pt7, ag_SB_ck]
  have := ag_B_sumBelow_loop (σ := σ) (a := a) (g := g) K hv hn n 0 0 (by omega)
  rw [Int.zero_add] at this
  exact this
def ag_hi (g : Nat → Nat → Int) : Nat → Nat → Int → Int
  | 0, _, s => s
  | k + 1, i, s => ag_hi g k (i + 1) (max s (ag_rd 40 (g 2) (ag_rd 40 (g 6) i)))
theorem ag_B_highestOf_loop {e : Nat} (hs : ag_sm g) (he : e ≤ 40) (x1 : Int) : ∀ (k i : Nat) (s : Int), ag_nm s = s → i + k = e →
    ag_wp 13 5 [some (ag_R a), some (ag_I x1), some (ag_I e), some (ag_I s), some (ag_I i)] [] (ag_SB σ a g v) K = K (Sum.inl (some (ag_I (ag_hi g k i s)))) (ag_SB σ a g v) := by
  intro k
  induction k with
  | zero =>
    intro i s hs' hi
    rw [ag_i13_5]
    simp only [ag_i13_0, ag_i13_1_n, ag_i13_1_i, ag_i13_1_r, ag_i13_2, ag_i13_3_n, ag_i13_3_i, ag_i13_3_r, ag_i13_7, ag_i13_8, ag_i13_11, ag_i13_12, ag_i13_13, ag_i13_16, ag_i13_17, ag_i13_20, ag_i13_22, ag_i13_25, ag_i13_28, ag_i13_31_n, ag_i13_31_i, ag_i13_31_r, ag_i13_32_n, ag_i13_32_i, ag_i13_32_r, ag_i13_35, ag_i13_38, ag_i13_39, ag_SB_g0, ag_SB_g1, ag_SB_g2, ag_SB_g3, ag_SB_g4, ag_SB_g5, ag_SB_g6, ag_SB_g7, ag_SB_g8, ag_SB_g9, ag_SB_at0, ag_SB_at1, ag_SB_at2, ag_SB_at3, ag_SB_at4, ag_SB_at5, ag_SB_at6, ag_SB_at7, ag_SB_pt0, ag_SB_pt1, ag_SB_pt2, ag_SB_pt3, ag_SB_pt4, ag_SB_pt5, ag_SB_pt6, ag_SB_pt7, ag_SB_ck, ag_nm_nat (show i ≤ 1000000 by omega), ag_nm_nat (show e ≤ 1000000 by omega)]
    rw [if_pos (by omega), ag_hi]
  | succ k ih =>
    intro i s hs' hi
    rw [ag_i13_5]
    simp only [ag_i13_0, ag_i13_1_n, ag_i13_1_i, ag_i13_1_r, ag_i13_2, ag_i13_3_n, ag_i13_3_i, ag_i13_3_r, ag_i13_7, ag_i13_8, ag_i13_11, ag_i13_12, ag_i13_13, ag_i13_16, ag_i13_17, ag_i13_20, ag_i13_22, ag_i13_25, ag_i13_28, ag_i13_31_n, ag_i13_31_i, ag_i13_31_r, ag_i13_32_n, ag_i13_32_i, ag_i13_32_r, ag_i13_35, ag_i13_38, ag_i13_39, ag_SB_g0, ag_SB_g1, ag_SB_g2, ag_SB_g3, ag_SB_g4, ag_SB_g5, ag_SB_g6, ag_SB_g7, ag_SB_g8, ag_SB_g9, ag_SB_at0, ag_SB_at1, ag_SB_at2, ag_SB_at3, ag_SB_at4, ag_SB_at5, ag_SB_at6, ag_SB_at7, ag_SB_pt0, ag_SB_pt1, ag_SB_pt2, ag_SB_pt3, ag_SB_pt4, ag_SB_pt5, ag_SB_pt6, ag_SB_pt7, ag_SB_ck, ag_kk_v, ag_kk_n, Nat.reduceAdd, ag_nm_nat (show i ≤ 1000000 by omega), ag_nm_nat (show e ≤ 1000000 by omega), ag_nm_rd hs, hs']
    have e1 : (if s < ag_rd 40 (g 2) (ag_rd 40 (g 6) i) then ag_rd 40 (g 2) (ag_rd 40 (g 6) i) else s) = max s (ag_rd 40 (g 2) (ag_rd 40 (g 6) i)) := by
      rw [Int.max_def]
      split <;> split <;> omega
    have e2 : ag_nm (max s (ag_rd 40 (g 2) (ag_rd 40 (g 6) i))) = max s (ag_rd 40 (g 2) (ag_rd 40 (g 6) i)) := by
      rw [Int.max_def]
      split
      · exact ag_nm_rd hs _ _ _
      · exact hs'
    rw [if_neg (by omega), ag_hi, e1]
    exact ih (i + 1) _ e2 (by omega)
theorem ag_B_highestOf {i e : Nat} (hs : ag_sm g) (he : e ≤ 40) (hi : i ≤ e) : ag_cl9 13 [ag_R a, ag_I i, ag_I e] (ag_SB σ a g v) K = K (Sum.inl (some (ag_I (ag_hi g (e - i) i 0)))) (ag_SB σ a g v) := by
  simp only [ag_e13, ag_i13_0, ag_i13_1_n, ag_i13_1_i, ag_i13_1_r, ag_i13_2, ag_i13_3_n, ag_i13_3_i, ag_i13_3_r, ag_i13_7, ag_i13_8, ag_i13_11, ag_i13_12, ag_i13_13, ag_i13_16, ag_i13_17, ag_i13_20, ag_i13_22, ag_i13_25, ag_i13_28, ag_i13_31_n, ag_i13_31_i, ag_i13_31_r, ag_i13_32_n, ag_i13_32_i, ag_i13_32_r, ag_i13_35, ag_i13_38, ag_i13_39, ag_SB_g0, ag_SB_g1, ag_SB_g2, ag_SB_g3, ag_SB_g4, ag_SB_g5, ag_SB_g6, ag_SB_g7, ag_SB_g8, ag_SB_g9, ag_SB_at0, ag_SB_at1, ag_SB_at2, ag_SB_at3, ag_SB_at4, ag_SB_at5, ag_SB_at6, ag_SB_at7, ag_SB_pt0, ag_SB_pt1, ag_SB_pt2, ag_SB_pt3, ag_SB_pt4, ag_SB_pt5, ag_SB_pt6, ag_SB_pt7, ag_SB_ck]
  exact ag_B_highestOf_loop σ K hs he _ (e - i) i 0 ag_nm_z (by omega)
/-! strike -/
/-- the numbers, k clauses from place i on taken out -/
def ag_un (r q : Nat → Int) : Nat → Nat → Nat → Int
  | 0, _ => q
  | k + 1, i => ag_un r (ag_wr 40 q (ag_rd 40 r i) (-1)) k (i + 1)
/-- the row, n - e places from e on drawn to p -/
def ag_dr (r : Nat → Int) (p e n : Nat) : Nat → Int := fun j => if p ≤ j ∧ j + e < p + n then r (j + e - p) else r j
theorem ag_B_strike_1 {c : Int} {p e : Nat} (hv : v 1 = n) (hn : n ≤ 40) (he : e ≤ 40) : ∀ (k i : Nat) (q : Nat → Int), i + k = e →
    ag_wp 15 18 [some (ag_R a), some (ag_I c), some (ag_I p), some (ag_I e), some (ag_I i)] [] (ag_SB σ a (ag_ug g 5 q) v) K = ag_wp 15 47 [some (ag_R a), some (ag_I c), some (ag_I p), some (ag_I e), some (ag_I e)] [] (ag_SB σ a (ag_ug g 5 (ag_un (g 6) q k i)) v) K := by
  intro k
  induction k with
  | zero =>
    intro i q hi
    rw [ag_i15_18]
    simp only [ag_i15_20, ag_i15_21, ag_nm_nat (show i ≤ 1000000 by omega), ag_nm_nat (show e ≤ 1000000 by omega)]
    rw [if_pos (by omega), ag_un, show i = e by omega]
  | succ k ih =>
    intro i q hi
    rw [ag_i15_18]
    simp only [ag_i15_20, ag_i15_21, ag_i15_24, ag_i15_25, ag_i15_28, ag_i15_29, ag_i15_32, ag_i15_34, ag_i15_37, ag_i15_38, ag_i15_41_n, ag_i15_41_i, ag_i15_41_r, ag_i15_44, ag_SB_g0, ag_SB_g1, ag_SB_g2, ag_SB_g3, ag_SB_g4, ag_SB_g5, ag_SB_g6, ag_SB_g7, ag_SB_g8, ag_SB_g9, ag_SB_at0, ag_SB_at1, ag_SB_at2, ag_SB_at3, ag_SB_at4, ag_SB_at5, ag_SB_at6, ag_SB_at7, ag_SB_pt0, ag_SB_pt1, ag_SB_pt2, ag_SB_pt3, ag_SB_pt4, ag_SB_pt5, ag_SB_pt6, ag_SB_pt7, ag_SB_ck, ag_kk_v, ag_kk_n, Nat.reduceAdd, ag_ug_at, ag_ui_at, Nat.reduceEqDiff, ↓reduceIte, ag_ug_2, ag_nm_nat (show i ≤ 1000000 by omega), ag_nm_nat (show e ≤ 1000000 by omega)]
    rw [if_neg (by omega), ag_un]
    exact ih (i + 1) _ (by omega)
theorem ag_B_strike_2 {c : Int} {p e : Nat} (hv : v 1 = n) (hn : n ≤ 40) (hpe : p < e) (q : Nat → Int) : ∀ (k i : Nat), i + k = n → e ≤ i →
    ag_wp 15 50 [some (ag_R a), some (ag_I c), some (ag_I p), some (ag_I e), some (ag_I i)] [] (ag_SB σ a (ag_ug g 6 (ag_dr q p e i)) v) K = ag_wp 15 87 [some (ag_R a), some (ag_I c), some (ag_I p), some (ag_I e), some (ag_I n)] [] (ag_SB σ a (ag_ug g 6 (ag_dr q p e n)) v) K := by
  intro k
  induction k with
  | zero =>
    intro i hi hei
    rw [ag_i15_50]
    simp only [ag_i15_52, ag_i15_53, ag_i15_56, ag_SB_g0, ag_SB_g1, ag_SB_g2, ag_SB_g3, ag_SB_g4, ag_SB_g5, ag_SB_g6, ag_SB_g7, ag_SB_g8, ag_SB_g9, ag_SB_at0, ag_SB_at1, ag_SB_at2, ag_SB_at3, ag_SB_at4, ag_SB_at5, ag_SB_at6, ag_SB_at7, ag_SB_pt0, ag_SB_pt1, ag_SB_pt2, ag_SB_pt3, ag_SB_pt4, ag_SB_pt5, ag_SB_pt6, ag_SB_pt7, ag_SB_ck, hv, ag_nm_nat (show i ≤ 1000000 by omega), ag_nm_nat (show n ≤ 1000000 by omega)]
    rw [if_pos (by omega), show i = n by omega]
  | succ k ih =>
    intro i hi hei
    rw [ag_i15_50]
    simp only [ag_i15_52, ag_i15_53, ag_i15_56, ag_i15_59, ag_i15_60, ag_i15_63, ag_i15_64, ag_i15_66, ag_i15_67, ag_i15_68, ag_i15_69, ag_i15_70, ag_i15_73, ag_i15_75, ag_i15_78, ag_i15_81_n, ag_i15_81_i, ag_i15_81_r, ag_i15_84, ag_SB_g0, ag_SB_g1, ag_SB_g2, ag_SB_g3, ag_SB_g4, ag_SB_g5, ag_SB_g6, ag_SB_g7, ag_SB_g8, ag_SB_g9, ag_SB_at0, ag_SB_at1, ag_SB_at2, ag_SB_at3, ag_SB_at4, ag_SB_at5, ag_SB_at6, ag_SB_at7, ag_SB_pt0, ag_SB_pt1, ag_SB_pt2, ag_SB_pt3, ag_SB_pt4, ag_SB_pt5, ag_SB_pt6, ag_SB_pt7, ag_SB_ck, ag_kk_v, ag_kk_n, Nat.reduceAdd, ag_ug_at, ag_ui_at, Nat.reduceEqDiff, ↓reduceIte, ag_ug_2, hv, ag_nm_nat (show i ≤ 1000000 by omega), ag_nm_nat (show n ≤ 1000000 by omega)]
    rw [if_neg (by omega)]
    have h1 := ih (i + 1) (by omega) (by omega)
    rw [← h1, show ((p : Int) + i - e) = ((p + i - e : Nat) : Int) by omega, ag_rd_nat (by decide) (by omega), ag_wr_nat _ (by decide) (by omega)]
    have e3 : ag_ui (ag_dr q p e i) (p + i - e) (ag_dr q p e i i) = ag_dr q p e (i + 1) := by
      funext j
      unfold ag_ui ag_dr
      by_cases hj : j = p + i - e
      · subst hj
        rw [if_pos rfl, if_neg (by omega), if_pos (by omega)]
        congr 1
        omega
      · rw [if_neg hj]
        by_cases h2 : p ≤ j ∧ j + e < p + i
        · rw [if_pos h2, if_pos (by omega)]
        · rw [if_neg h2, if_neg (by omega)]
    rw [e3]
    rfl
/-- the rows behind strike of the block from p to e -/
def ag_gs (g : Nat → Nat → Int) (n p e : Nat) : Nat → Nat → Int :=
  let r2 := ag_dr (g 6) p e n
  ag_ug (ag_ug g 5 (ag_rn r2 (ag_un (g 6) (g 5) (e - p) p) (n - (e - p)))) 6 r2
theorem ag_B_strike {c : Int} {p e : Nat} (hv : v 1 = n) (hs : ag_sm g) (hn : n ≤ 40) (ha : 1 ≤ a) (hp : ag_rd 40 (g 5) c = p) (hpn : p < n) (he : ag_ff (fun i => decide (ag_rd 40 (g 2) (ag_rd 40 (g 6) i) ≤ ag_rd 40 (g 2) c)) (n - (p + 1)) (p + 1) = e) :
    ag_cl9 15 [ag_R a, ag_I c] (ag_SB σ a g v) K = K (Sum.inl none) (ag_SB σ a (ag_gs g n p e) (ag_ui v 1 (n - (e - p) : Nat))) := by
  have hle := ag_ff_le (fun i => decide (ag_rd 40 (g 2) (ag_rd 40 (g 6) i) ≤ ag_rd 40 (g 2) c)) (n - (p + 1)) (p + 1)
  rw [he] at hle
  simp only [ag_e15, ag_i15_0, ag_i15_1, ag_i15_4, ag_i15_5, ag_i15_8_n, ag_i15_8_i, ag_i15_8_r, ag_i15_9, ag_i15_10, ag_i15_11, ag_i15_14_n, ag_i15_14_i, ag_i15_14_r, ag_i15_15, ag_i15_16_n, ag_i15_16_i, ag_i15_16_r, ag_i15_24, ag_i15_25, ag_i15_28, ag_i15_29, ag_i15_32, ag_i15_34, ag_i15_37, ag_i15_38, ag_i15_41_n, ag_i15_41_i, ag_i15_41_r, ag_i15_44, ag_i15_47, ag_i15_48_n, ag_i15_48_i, ag_i15_48_r, ag_i15_52, ag_i15_53, ag_i15_56, ag_i15_59, ag_i15_60, ag_i15_63, ag_i15_64, ag_i15_66, ag_i15_67, ag_i15_68, ag_i15_69, ag_i15_70, ag_i15_73, ag_i15_75, ag_i15_78, ag_i15_81_n, ag_i15_81_i, ag_i15_81_r, ag_i15_84, ag_i15_88, ag_i15_89, ag_i15_92, ag_i15_93, ag_i15_94, ag_i15_95, ag_i15_96, ag_i15_99, ag_i15_100, ag_i15_103, ag_SB_g0, ag_SB_g1, ag_SB_g2, ag_SB_g3, ag_SB_g4, ag_SB_g5, ag_SB_g6, ag_SB_g7, ag_SB_g8, ag_SB_g9, ag_SB_at0, ag_SB_at1, ag_SB_at2, ag_SB_at3, ag_SB_at4, ag_SB_at5, ag_SB_at6, ag_SB_at7, ag_SB_pt0, ag_SB_pt1, ag_SB_pt2, ag_SB_pt3, ag_SB_pt4, ag_SB_pt5, ag_SB_pt6, ag_SB_pt7, ag_SB_ck, ag_kk_v, ag_kk_n, Nat.reduceAdd, hp, ag_B_endOf _ _ hv hs hn hp hpn, he]
  have hx : ag_SB σ a g v = ag_SB σ a (ag_ug g 5 (g 5)) v := by rw [ag_ug_self]
  rw [hx, ag_B_strike_1 σ K hv hn (by omega) (e - p) p (g 5) (by omega)]
  simp only [ag_i15_47, ag_i15_48_n, ag_i15_48_i, ag_i15_48_r]
  have e0 : ag_dr (g 6) p e e = g 6 := by
    funext j
    unfold ag_dr
    rw [if_neg (by omega)]
  have hy : ag_ug g 5 (ag_un (g 6) (g 5) (e - p) p) = ag_ug (ag_ug g 5 (ag_un (g 6) (g 5) (e - p) p)) 6 (ag_dr (g 6) p e e) := by
    rw [e0]
    symm
    exact ag_ug_self _ 6
  rw [hy, ag_B_strike_2 σ K hv hn (by omega) (g 6) (n - e) e (by omega) (Nat.le_refl _)]
  simp only [ag_i15_87, ag_i15_88, ag_i15_89, ag_i15_92, ag_i15_93, ag_i15_94, ag_i15_95, ag_i15_96, ag_i15_99, ag_i15_100, ag_SB_g0, ag_SB_g1, ag_SB_g2, ag_SB_g3, ag_SB_g4, ag_SB_g5, ag_SB_g6, ag_SB_g7, ag_SB_g8, ag_SB_g9, ag_SB_at0, ag_SB_at1, ag_SB_at2, ag_SB_at3, ag_SB_at4, ag_SB_at5, ag_SB_at6, ag_SB_at7, ag_SB_pt0, ag_SB_pt1, ag_SB_pt2, ag_SB_pt3, ag_SB_pt4, ag_SB_pt5, ag_SB_pt6, ag_SB_pt7, ag_SB_ck, ag_SB_p9 _ ha, ag_ug_at, ag_ui_at, Nat.reduceEqDiff, ↓reduceIte, hv]
  have e1 : ((n : Int) - ((e : Int) - p)) = ((n - (e - p) : Nat) : Int) := by omega
  rw [e1, ag_B_renumber σ _ (show ag_ui v 1 ((n - (e - p) : Nat) : Int) 1 = ((n - (e - p) : Nat) : Int) from rfl) (by omega) ha]
  simp only [ag_i15_103, ag_kk_v, ag_kk_n, Nat.reduceAdd, ag_ug_at, ag_ui_at, Nat.reduceEqDiff, ↓reduceIte]
  congr 2
  funext j
  unfold ag_gs ag_ug
  by_cases h5 : j = 5
  · subst h5; rfl
  · by_cases h6 : j = 6
    · subst h6; rfl
    · simp [h5, h6]
/-! copy -/
/-- the first k of r, then s -/
def ag_cf (r s : Nat → Int) (k : Nat) : Nat → Int := fun j => if j < k then r j else s j
theorem ag_cf_0 (r s : Nat → Int) : ag_cf r s 0 = s := by
  funext j
  unfold ag_cf
  rw [if_neg (by omega)]
theorem ag_cf_s (r s : Nat → Int) (k : Nat) : ag_ui (ag_cf r s k) k (r k) = ag_cf r s (k + 1) := by
  funext j
  unfold ag_cf ag_ui
  dsimp only
  by_cases h : j = k
  · subst h
    rw [if_pos rfl, if_pos (by omega)]
  · rw [if_neg h]
    by_cases h2 : j < k
    · rw [if_pos h2, if_pos (by omega)]
    · rw [if_neg h2, if_neg (by omega)]
theorem ag_up_2 (h : Nat → Option ag_C) (a : Nat) (x y : ag_C) : ag_up (ag_up h a x) a y = ag_up h a y := by
  funext j
  unfold ag_up
  split <;> rfl
theorem ag_up_at (h : Nat → Option ag_C) (a : Nat) (x : ag_C) (j : Nat) : ag_up h a x j = if j = a then some x else h j := rfl
theorem ag_copy_loop {σ : ag_S} {a b n : Nat} {g1 g2 : Nat → Int} (h1 : σ.1 a = some (Sum.inl (n, g1))) (hab : a ≠ b) (hb : 1 ≤ b) (hn : n ≤ 1000000) (K : ag_Rs → ag_S → Prop) : ∀ (k i : Nat), i + k = n →
    ag_wp 94 2 [some (ag_R a), some (ag_R b), some (ag_I i)] [] (ag_up σ.1 b (Sum.inl (n, ag_cf g1 g2 i)), σ.2) K = K (Sum.inl none) (ag_up σ.1 b (Sum.inl (n, ag_cf g1 g2 n)), σ.2) := by
  intro k
  induction k with
  | zero =>
    intro i hi
    rw [ag_i94_2]
    simp only [ag_i94_0, ag_i94_1_n, ag_i94_1_i, ag_i94_1_r, ag_i94_3, ag_i94_4, ag_i94_5, ag_i94_8, ag_i94_9, ag_i94_10, ag_i94_11, ag_i94_14, ag_i94_15, ag_i94_16, ag_i94_17, ag_i94_18, ag_i94_19, ag_i94_20_n, ag_i94_20_i, ag_i94_20_r, ag_i94_23, ag_i94_26, ag_al9, ag_up_at, if_neg hab, if_true, h1, ag_nm_nat (show i ≤ 1000000 by omega), ag_nm_nat hn]
    rw [if_pos (by omega), show i = n by omega]
  | succ k ih =>
    intro i hi
    rw [ag_i94_2]
    simp only [ag_i94_0, ag_i94_1_n, ag_i94_1_i, ag_i94_1_r, ag_i94_3, ag_i94_4, ag_i94_5, ag_i94_8, ag_i94_9, ag_i94_10, ag_i94_11, ag_i94_14, ag_i94_15, ag_i94_16, ag_i94_17, ag_i94_18, ag_i94_19, ag_i94_20_n, ag_i94_20_i, ag_i94_20_r, ag_i94_23, ag_i94_26, ag_al9, ag_ia, ag_is, ag_up_at, if_neg hab, if_true, h1, ag_nm_nat (show i ≤ 1000000 by omega), ag_nm_nat hn]
    have h0 : ¬ (n : Int) ≤ i := by omega
    simp only [if_neg h0]
    rw [Int.toNat_natCast, ag_cf_s, ag_up_2, ← ih (i + 1) (by omega)]
    exact propext ⟨fun h => h.2.2, fun h => ⟨by omega, by omega, h⟩⟩
theorem ag_copy_eq {σ : ag_S} {a b n : Nat} {g1 g2 : Nat → Int} (h1 : σ.1 a = some (Sum.inl (n, g1))) (h2 : σ.1 b = some (Sum.inl (n, g2))) (hab : a ≠ b) (hb : 1 ≤ b) (hn : n ≤ 1000000) (K : ag_Rs → ag_S → Prop) : ag_cl9 94 [ag_R a, ag_R b] σ K = K (Sum.inl none) (ag_up σ.1 b (Sum.inl (n, ag_cf g1 g2 n)), σ.2) := by
  have e := ag_copy_loop (g2 := g2) h1 hab hb hn K n 0 (by omega)
  have e2 : (ag_up σ.1 b (Sum.inl (n, ag_cf g1 g2 0)), σ.2) = σ := by
    refine Prod.ext (funext fun k => ?_) rfl
    show (if k = b then some (Sum.inl (n, ag_cf g1 g2 0)) else σ.1 k) = σ.1 k
    split
    · rename_i hk; rw [hk, h2, ag_cf_0]
    · rfl
  rw [← e, e2]
  simp only [ag_e94, ag_i94_0, ag_i94_1_n, ag_i94_1_i, ag_i94_1_r, ag_i94_3, ag_i94_4, ag_i94_5, ag_i94_8, ag_i94_9, ag_i94_10, ag_i94_11, ag_i94_14, ag_i94_15, ag_i94_16, ag_i94_17, ag_i94_18, ag_i94_19, ag_i94_20_n, ag_i94_20_i, ag_i94_20_r, ag_i94_23, ag_i94_26]
  rfl
theorem ag_B_cp : ag_cl9 94 [ag_R (a + 8), ag_R (a + 7)] (ag_SB σ a g v) K = K (Sum.inl none) (ag_SB σ a (ag_ug g 6 (ag_cf (g 7) (g 6) 40)) v) := by
  rw [ag_copy_eq (ag_SB_a7 σ a g v) (ag_SB_a6 σ a g v) (by omega) (by omega) (by decide), ag_SB_u6]
/-! shift, moveBehind -/
/-- the row r, the block from p to e put at goal -/
def ag_mb (r : Nat → Int) (p e goal : Nat) : Nat → Int := fun j =>
  if goal ≤ p then (if j < goal then r j else if j < goal + (e - p) then r (j + p - goal) else if j < e then r (j - (e - p)) else r j)
  else (if j < p then r j else if j < p + goal - e then r (j + e - p) else if j < goal then r (j + e - goal) else r j)
def ag_fi (p e goal n i : Nat) : Nat := (if n < i then p + n - e else if i ≤ p then i else if i ≤ e then p else p + i - e) + (if goal < i then e - p else 0)
theorem ag_B_shift_in {p e goal i q : Nat} (he : e ≤ 40) (hpe : p ≤ e) (s : Nat → Int) (hq : q + (e - p) ≤ 40) (hT : ∀ j, p ≤ j → j < e → g 6 j = ag_mb (g 6) p e goal (q + (j - p))) : ∀ (k j : Nat) , j + k = e → p ≤ j → 
    ag_wp 17 24 [some (ag_R a), some (ag_I p), some (ag_I e), some (ag_I goal), some (ag_I (q + (j - p) : Nat)), some (ag_I i), some (ag_I j)] [] (ag_SB σ a (ag_ug g 7 (ag_cf (ag_mb (g 6) p e goal) s (q + (j - p)))) v) K =
    ag_wp 17 57 [some (ag_R a), some (ag_I p), some (ag_I e), some (ag_I goal), some (ag_I (q + (e - p) : Nat)), some (ag_I i), some (ag_I e)] [] (ag_SB σ a (ag_ug g 7 (ag_cf (ag_mb (g 6) p e goal) s (q + (e - p)))) v) K := by
  intro k
  induction k with
  | zero =>
    intro j hj hpj
    rw [ag_i17_24]
    simp only [ag_i17_26, ag_i17_27, ag_nm_nat (show j ≤ 1000000 by omega), ag_nm_nat (show e ≤ 1000000 by omega)]
    rw [if_pos (by omega), show j = e by omega]
  | succ k ih =>
    intro j hj hpj
    rw [ag_i17_24]
    simp only [ag_i17_26, ag_i17_27, ag_i17_30, ag_i17_31, ag_i17_34, ag_i17_36, ag_i17_37, ag_i17_40, ag_i17_42, ag_i17_45, ag_i17_48_n, ag_i17_48_i, ag_i17_48_r, ag_i17_51_n, ag_i17_51_i, ag_i17_51_r, ag_i17_54, ag_SB_g0, ag_SB_g1, ag_SB_g2, ag_SB_g3, ag_SB_g4, ag_SB_g5, ag_SB_g6, ag_SB_g7, ag_SB_g8, ag_SB_g9, ag_SB_at0, ag_SB_at1, ag_SB_at2, ag_SB_at3, ag_SB_at4, ag_SB_at5, ag_SB_at6, ag_SB_at7, ag_SB_pt0, ag_SB_pt1, ag_SB_pt2, ag_SB_pt3, ag_SB_pt4, ag_SB_pt5, ag_SB_pt6, ag_SB_pt7, ag_SB_ck, ag_kk_v, ag_kk_n, Nat.reduceAdd, ag_ug_at, ag_ui_at, Nat.reduceEqDiff, ↓reduceIte, ag_ug_2, ag_nm_nat (show j ≤ 1000000 by omega), ag_nm_nat (show e ≤ 1000000 by omega)]
    rw [if_neg (by omega), ag_rd_nat (by decide) (by omega), ag_wr_nat _ (by decide) (by omega), hT j hpj (by omega), ag_cf_s, ← ih (j + 1) (by omega) (by omega), show q + (j + 1 - p) = q + (j - p) + 1 by omega]
    rfl
theorem ag_B_shift_loop {p e goal : Nat} (hv : v 1 = n) (hn : n ≤ 40) (hpe : p < e) (hen : e ≤ n) (hg : goal ≤ n) (hgo : goal ≤ p ∨ e ≤ goal) (s : Nat → Int) : ∀ (k i : Nat) (x : Option ag_V), i + k = n + 1 →
    ag_wp 17 6 [some (ag_R a), some (ag_I p), some (ag_I e), some (ag_I goal), some (ag_I (ag_fi p e goal n i)), some (ag_I i), x] [] (ag_SB σ a (ag_ug g 7 (ag_cf (ag_mb (g 6) p e goal) s (ag_fi p e goal n i))) v) K =
    K (Sum.inl none) (ag_SB σ a (ag_ug (ag_ug g 7 (ag_cf (ag_mb (g 6) p e goal) s n)) 6 (ag_cf (ag_cf (ag_mb (g 6) p e goal) s n) (g 6) 40)) v) := by
  intro k
  induction k with
  | zero =>
    intro i x hi
    rw [ag_i17_6]
    simp only [ag_i17_8, ag_i17_9, ag_i17_12, ag_i17_105, ag_i17_106, ag_i17_109, ag_i17_110, ag_i17_113, ag_i17_116, ag_SB_g0, ag_SB_g1, ag_SB_g2, ag_SB_g3, ag_SB_g4, ag_SB_g5, ag_SB_g6, ag_SB_g7, ag_SB_g8, ag_SB_g9, ag_SB_at0, ag_SB_at1, ag_SB_at2, ag_SB_at3, ag_SB_at4, ag_SB_at5, ag_SB_at6, ag_SB_at7, ag_SB_pt0, ag_SB_pt1, ag_SB_pt2, ag_SB_pt3, ag_SB_pt4, ag_SB_pt5, ag_SB_pt6, ag_SB_pt7, ag_SB_ck, hv, ag_nm_nat (show i ≤ 1000000 by omega), ag_nm_nat (show n ≤ 1000000 by omega), ag_B_cp, ag_kk_v, ag_kk_n, Nat.reduceAdd, ag_ug_at, ag_ui_at, Nat.reduceEqDiff, ↓reduceIte]
    have e1 : ag_fi p e goal n i = n := by
      unfold ag_fi
      (repeat' split) <;> omega
    rw [if_pos (by omega), e1]
  | succ k ih =>
    intro i x hi
    rw [ag_i17_6]
    have m : ∀ x : Option ag_V, ag_wp 17 57 [some (ag_R a), some (ag_I p), some (ag_I e), some (ag_I goal), some (ag_I (ag_fi p e goal n i + (if i = goal then e - p else 0) : Nat)), some (ag_I i), x] [] (ag_SB σ a (ag_ug g 7 (ag_cf (ag_mb (g 6) p e goal) s (ag_fi p e goal n i + (if i = goal then e - p else 0)))) v) K = K (Sum.inl none) (ag_SB σ a (ag_ug (ag_ug g 7 (ag_cf (ag_mb (g 6) p e goal) s n)) 6 (ag_cf (ag_cf (ag_mb (g 6) p e goal) s n) (g 6) 40)) v) := by
      intro x
      have h1 := ih (i + 1) x (by omega)
      rw [← h1]
      simp only [ag_i17_57, ag_i17_59, ag_i17_60, ag_i17_63, ag_i17_66, ag_i17_68, ag_i17_69, ag_i17_72, ag_i17_74, ag_i17_75, ag_i17_78, ag_i17_79, ag_i17_82, ag_i17_84, ag_i17_85, ag_i17_88, ag_i17_90, ag_i17_93, ag_i17_96_n, ag_i17_96_i, ag_i17_96_r, ag_i17_99_n, ag_i17_99_i, ag_i17_99_r, ag_i17_102, ag_SB_g0, ag_SB_g1, ag_SB_g2, ag_SB_g3, ag_SB_g4, ag_SB_g5, ag_SB_g6, ag_SB_g7, ag_SB_g8, ag_SB_g9, ag_SB_at0, ag_SB_at1, ag_SB_at2, ag_SB_at3, ag_SB_at4, ag_SB_at5, ag_SB_at6, ag_SB_at7, ag_SB_pt0, ag_SB_pt1, ag_SB_pt2, ag_SB_pt3, ag_SB_pt4, ag_SB_pt5, ag_SB_pt6, ag_SB_pt7, ag_SB_ck, ag_kk_v, ag_kk_n, Nat.reduceAdd, ag_ug_at, ag_ui_at, Nat.reduceEqDiff, ↓reduceIte, ag_ug_2, hv, ag_nm_nat (show i ≤ 1000000 by omega), ag_nm_nat (show n ≤ 1000000 by omega), ag_nm_nat (show p ≤ 1000000 by omega), ag_nm_nat (show e ≤ 1000000 by omega)]
      by_cases hi2 : n ≤ i
      · rw [if_pos (by omega)]
        have e1 : ag_fi p e goal n i + (if i = goal then e - p else 0) = ag_fi p e goal n (i + 1) := by
          unfold ag_fi
          (repeat' split) <;> omega
        rw [e1]
        rfl
      · rw [if_neg (by omega)]
        by_cases hb : p ≤ i ∧ i < e
        · have e1 : ag_fi p e goal n i + (if i = goal then e - p else 0) = ag_fi p e goal n (i + 1) := by
            unfold ag_fi
            (repeat' split) <;> omega
          rw [if_neg (by omega), if_pos (by omega), e1]
          rfl
        · have e1 : ag_fi p e goal n i + (if i = goal then e - p else 0) + 1 = ag_fi p e goal n (i + 1) := by
            unfold ag_fi
            (repeat' split) <;> omega
          have e2 : ag_fi p e goal n i + (if i = goal then e - p else 0) < 40 := by
            unfold ag_fi
            (repeat' split) <;> omega
          have e3 : g 6 i = ag_mb (g 6) p e goal (ag_fi p e goal n i + (if i = goal then e - p else 0)) := by
            unfold ag_mb ag_fi
            (repeat' split) <;> first | omega | (congr 1 <;> omega)
          have e4 : ∀ P Q : Prop, (if (i : Int) < p then P else if (i : Int) < e then Q else P) = P := by
            intro P Q
            by_cases h1 : i < p
            · rw [if_pos (by omega)]
            · rw [if_neg (by omega), if_neg (by omega)]
          rw [e4, ag_rd_nat (by decide) (by omega), ag_wr_nat _ (by decide) e2, e3, ag_cf_s, ← e1]
          rfl
    simp only [ag_i17_8, ag_i17_9, ag_i17_12, ag_i17_15, ag_i17_17, ag_i17_18, ag_i17_21, ag_i17_22_n, ag_i17_22_i, ag_i17_22_r, ag_SB_g0, ag_SB_g1, ag_SB_g2, ag_SB_g3, ag_SB_g4, ag_SB_g5, ag_SB_g6, ag_SB_g7, ag_SB_g8, ag_SB_g9, ag_SB_at0, ag_SB_at1, ag_SB_at2, ag_SB_at3, ag_SB_at4, ag_SB_at5, ag_SB_at6, ag_SB_at7, ag_SB_pt0, ag_SB_pt1, ag_SB_pt2, ag_SB_pt3, ag_SB_pt4, ag_SB_pt5, ag_SB_pt6, ag_SB_pt7, ag_SB_ck, ag_kk_v, ag_kk_n, Nat.reduceAdd, ag_ug_at, ag_ui_at, Nat.reduceEqDiff, ↓reduceIte, hv, ag_nm_nat (show i ≤ 1000000 by omega), ag_nm_nat (show n ≤ 1000000 by omega), ag_nm_nat (show goal ≤ 1000000 by omega)]
    rw [if_neg (by omega)]
    by_cases hig : i = goal
    · have e1 : ag_fi p e goal n i + (e - p) ≤ 40 := by
        unfold ag_fi
        (repeat' split) <;> omega
      have e2 : ∀ j, p ≤ j → j < e → g 6 j = ag_mb (g 6) p e goal (ag_fi p e goal n i + (j - p)) := by
        intro j h1 h2
        unfold ag_mb ag_fi
        (repeat' split) <;> first | omega | (congr 1 <;> omega)
      have h2 := ag_B_shift_in σ (a := a) (g := g) (v := v) (i := i) K (by omega) (by omega) s e1 e2 (e - p) p (by omega) (Nat.le_refl _)
      have h3 := m (some (ag_I e))
      rw [if_pos hig] at h3
      rw [Nat.sub_self, Nat.add_zero] at h2
      rw [if_neg (by simp [hig]), h2, h3]
    · have h3 := m x
      rw [if_neg hig, Nat.add_zero] at h3
      rw [if_pos (by omega), h3]
theorem ag_B_shift {p e goal : Nat} (hv : v 1 = n) (hn : n ≤ 40) (hpe : p < e) (hen : e ≤ n) (hg : goal ≤ n) (hgo : goal ≤ p ∨ e ≤ goal) :
    ag_cl9 17 [ag_R a, ag_I p, ag_I e, ag_I goal] (ag_SB σ a g v) K = K (Sum.inl none) (ag_SB σ a (ag_ug (ag_ug g 7 (ag_cf (ag_mb (g 6) p e goal) (g 7) n)) 6 (ag_cf (ag_cf (ag_mb (g 6) p e goal) (g 7) n) (g 6) 40)) v) := by
  simp only [ag_i17_0, ag_i17_1_n, ag_i17_1_i, ag_i17_1_r, ag_i17_3, ag_i17_4_n, ag_i17_4_i, ag_i17_4_r, ag_e17, ag_SB_g0, ag_SB_g1, ag_SB_g2, ag_SB_g3, ag_SB_g4, ag_SB_g5, ag_SB_g6, ag_SB_g7, ag_SB_g8, ag_SB_g9, ag_SB_at0, ag_SB_at1, ag_SB_at2, ag_SB_at3, ag_SB_at4, ag_SB_at5, ag_SB_at6, ag_SB_at7, ag_SB_pt0, ag_SB_pt1, ag_SB_pt2, ag_SB_pt3, ag_SB_pt4, ag_SB_pt5, ag_SB_pt6, ag_SB_pt7, ag_SB_ck]
  have h := ag_B_shift_loop σ (a := a) (g := g) K hv hn hpe hen hg hgo (g 7) (n + 1) 0 none (by omega)
  have e0 : ag_fi p e goal n 0 = 0 := by
    unfold ag_fi
    rw [if_neg (by omega), if_pos (by omega), if_neg (by omega)]
  rw [e0, ag_cf_0, ag_ug_self] at h
  exact h
end AGB
