/-! THE BILL of the class: its cells, and what is read of them. -/
/-- the first place from i on, at most k further, where p holds -/
def ag_ff (p : Nat → Bool) : Nat → Nat → Nat
  | 0, i => i
  | k + 1, i => if p i = true then i else ag_ff p k (i + 1)
theorem ag_ff_le (p : Nat → Bool) : ∀ (k i : Nat), i ≤ ag_ff p k i ∧ ag_ff p k i ≤ i + k := by
  intro k
  induction k with
  | zero => intro i; exact ⟨Nat.le_refl _, Nat.le_refl _⟩
  | succ k ih =>
    intro i
    rw [ag_ff]
    split
    · omega
    · have := ih (i + 1)
      omega
theorem ag_ff_no (p : Nat → Bool) : ∀ (k i j : Nat), i ≤ j → j < ag_ff p k i → p j = false := by
  intro k
  induction k with
  | zero => intro i j h1 h2; rw [ag_ff] at h2; omega
  | succ k ih =>
    intro i j h1 h2
    rw [ag_ff] at h2
    split at h2
    · omega
    · rename_i hp
      by_cases hij : i = j
      · subst hij; simpa using hp
      · exact ih (i + 1) j (by omega) h2
theorem ag_ff_yes (p : Nat → Bool) : ∀ (k i : Nat), ag_ff p k i < i + k → p (ag_ff p k i) = true := by
  intro k
  induction k with
  | zero => intro i h; rw [ag_ff] at h; omega
  | succ k ih =>
    intro i h
    rw [ag_ff] at h ⊢
    split
    · assumption
    · rename_i hp
      rw [if_neg hp] at h
      exact ih (i + 1) (by omega)
/-- the one place with these three -/
theorem ag_ff_is {p : Nat → Bool} {k i e : Nat} (h1 : i ≤ e) (h2 : e ≤ i + k) (h3 : ∀ j, i ≤ j → j < e → p j = false) (h4 : e < i + k → p e = true) : ag_ff p k i = e := by
  have g := ag_ff_le p k i
  rcases Nat.lt_trichotomy (ag_ff p k i) e with q | q | q
  · have := ag_ff_yes p k i (by omega)
    rw [h3 _ g.1 q] at this
    cases this
  · exact q
  · have := ag_ff_no p k i e h1 q
    rw [h4 (by omega)] at this
    cases this
/-- who came behind whom -/
def ag_cb (f : Nat → Nat → Int) (c : Nat) : Int := if 0 ≤ f 3 c ∧ f 5 (f 3 c).toNat = 3 then f 6 (f 3 c).toNat else -1
def ag_sm (g : Nat → Nat → Int) : Prop := ∀ k i, -100000 ≤ g k i ∧ g k i ≤ 100000
/-- the rows hold the bill r of n clauses, w ever; f: text, parent, high, came -/
def ag_BA (g : Nat → Nat → Int) (r : Nat → Nat) (f : Nat → Nat → Int) (w n : Nat) : Prop :=
  ag_sm g ∧ w ≤ 40 ∧ n ≤ w ∧ (∀ c, c < w → g 0 c = f 0 c ∧ g 1 c = f 1 c ∧ g 2 c = f 2 c ∧ g 3 c = f 3 c ∧ g 4 c = ag_cb f c) ∧ (∀ i, i < n → r i < w ∧ g 6 i = r i ∧ g 5 (r i) = i) ∧ (∀ c, c < w → (∀ i, i < n → r i ≠ c) → g 5 c = -1)
theorem ag_rd_nat {g : Nat → Int} {n i : Nat} (hn : n ≤ 1000000) (hi : i < n) : ag_rd n g (i : Int) = g i := by
  unfold ag_rd
  rw [ag_nm_nat (by omega), if_pos (by omega), Int.toNat_natCast]
theorem ag_rd_sm {g : Nat → Nat → Int} (hs : ag_sm g) (n k : Nat) (i : Int) : -100000 ≤ ag_rd n (g k) i ∧ ag_rd n (g k) i ≤ 100000 := by
  unfold ag_rd
  split
  · exact hs _ _
  · omega
theorem ag_nm_rd {g : Nat → Nat → Int} (hs : ag_sm g) (n k : Nat) (i : Int) : ag_nm (ag_rd n (g k) i) = ag_rd n (g k) i := by
  have := ag_rd_sm hs n k i
  exact ag_nm_of (by omega) (by omega)
/-- the end of the block of the clause that is read at p -/
def ag_eo (r : Nat → Nat) (f : Nat → Nat → Int) (n p : Nat) : Nat := ag_ff (fun i => decide (f 2 (r i) ≤ f 2 (r p))) (n - (p + 1)) (p + 1)
section AGB
variable (σ : ag_S) {a : Nat} {g : Nat → Nat → Int} {v : Nat → Int} {w n : Nat} (K : ag_Rs → ag_S → Prop)
theorem ag_B_isFull (hv : v 0 = w) (hw : w ≤ 1000) : ag_cl9 5 [ag_R a] (ag_SB σ a g v) K = K (Sum.inl (some (ag_I (if 40 ≤ w then 1 else 0)))) (ag_SB σ a g v) := by
  simp only [ag_e5, ag_i5_0, ag_i5_1, ag_i5_4, ag_i5_6, ag_i5_9, ag_i5_10, ag_i5_13, ag_i5_14, ag_SB_g0, ag_SB_g1, ag_SB_g2, ag_SB_g3, ag_SB_g4, ag_SB_g5, ag_SB_g6, ag_SB_g7, ag_SB_g8, ag_SB_g9, ag_SB_at0, ag_SB_at1, ag_SB_at2, ag_SB_at3, ag_SB_at4, ag_SB_at5, ag_SB_at6, ag_SB_at7, ag_SB_pt0, ag_SB_pt1, ag_SB_pt2, ag_SB_pt3, ag_SB_pt4, ag_SB_pt5, ag_SB_pt6, ag_SB_pt7, ag_SB_ck, hv, ag_nm_nat (show w ≤ 1000000 by omega), ag_nm_of (show (-2147483648 : Int) ≤ 40 by decide) (by decide), ag_nm_z, ag_nm_1]
  by_cases h1 : 40 ≤ w
  · rw [if_pos h1, if_neg (by omega)]
    simp
  · rw [if_neg h1, if_pos (by omega)]
    simp
theorem ag_B_endOf_loop {c : Int} (hv : v 1 = n) (hs : ag_sm g) (hn : n ≤ 40) : ∀ (k i : Nat), i + k = n →
    ag_wp 9 11 [some (ag_R a), some (ag_I c), some (ag_I i)] [] (ag_SB σ a g v) K = K (Sum.inl (some (ag_I (ag_ff (fun i => decide (ag_rd 40 (g 2) (ag_rd 40 (g 6) i) ≤ ag_rd 40 (g 2) c)) k i : Nat)))) (ag_SB σ a g v) := by
  intro k
  induction k with
  | zero =>
    intro i hi
    rw [ag_i9_11]
    simp only [ag_i9_0, ag_i9_1, ag_i9_4, ag_i9_5, ag_i9_8, ag_i9_9, ag_i9_10_n, ag_i9_10_i, ag_i9_10_r, ag_i9_12, ag_i9_13, ag_i9_16, ag_i9_19, ag_i9_20, ag_i9_23, ag_i9_24, ag_i9_27, ag_i9_28, ag_i9_31, ag_i9_34, ag_i9_35, ag_i9_38, ag_i9_39, ag_i9_42, ag_i9_45, ag_i9_46, ag_i9_47_n, ag_i9_47_i, ag_i9_47_r, ag_i9_50, ag_i9_53, ag_i9_54, ag_i9_57, ag_SB_g0, ag_SB_g1, ag_SB_g2, ag_SB_g3, ag_SB_g4, ag_SB_g5, ag_SB_g6, ag_SB_g7, ag_SB_g8, ag_SB_g9, ag_SB_at0, ag_SB_at1, ag_SB_at2, ag_SB_at3, ag_SB_at4, ag_SB_at5, ag_SB_at6, ag_SB_at7, ag_SB_pt0, ag_SB_pt1, ag_SB_pt2, ag_SB_pt3, ag_SB_pt4, ag_SB_pt5, ag_SB_pt6, ag_SB_pt7, ag_SB_ck, hv, ag_nm_nat (show i ≤ 1000000 by omega), ag_nm_nat (show n ≤ 1000000 by omega)]
    rw [if_pos (by omega)]
    rw [ag_ff, show i = n by omega]
  | succ k ih =>
    intro i hi
    rw [ag_i9_11]
    simp only [ag_i9_0, ag_i9_1, ag_i9_4, ag_i9_5, ag_i9_8, ag_i9_9, ag_i9_10_n, ag_i9_10_i, ag_i9_10_r, ag_i9_12, ag_i9_13, ag_i9_16, ag_i9_19, ag_i9_20, ag_i9_23, ag_i9_24, ag_i9_27, ag_i9_28, ag_i9_31, ag_i9_34, ag_i9_35, ag_i9_38, ag_i9_39, ag_i9_42, ag_i9_45, ag_i9_46, ag_i9_47_n, ag_i9_47_i, ag_i9_47_r, ag_i9_50, ag_i9_53, ag_i9_54, ag_i9_57, ag_SB_g0, ag_SB_g1, ag_SB_g2, ag_SB_g3, ag_SB_g4, ag_SB_g5, ag_SB_g6, ag_SB_g7, ag_SB_g8, ag_SB_g9, ag_SB_at0, ag_SB_at1, ag_SB_at2, ag_SB_at3, ag_SB_at4, ag_SB_at5, ag_SB_at6, ag_SB_at7, ag_SB_pt0, ag_SB_pt1, ag_SB_pt2, ag_SB_pt3, ag_SB_pt4, ag_SB_pt5, ag_SB_pt6, ag_SB_pt7, ag_SB_ck, hv, ag_nm_nat (show i ≤ 1000000 by omega), ag_nm_nat (show n ≤ 1000000 by omega), ag_kk_v, ag_kk_n, Nat.reduceAdd, ag_nm_rd hs]
    rw [if_neg (by omega), ag_ff]
    by_cases hp : ag_rd 40 (g 2) (ag_rd 40 (g 6) i) ≤ ag_rd 40 (g 2) c
    · rw [if_neg (by omega), if_pos (by simpa using hp)]
    · rw [if_pos (by omega), if_neg (by simpa using hp)]
      exact ih (i + 1) (by omega)
theorem ag_B_endOf {c : Int} {p : Nat} (hv : v 1 = n) (hs : ag_sm g) (hn : n ≤ 40) (hp : ag_rd 40 (g 5) c = p) (hpn : p < n) :
    ag_cl9 9 [ag_R a, ag_I c] (ag_SB σ a g v) K = K (Sum.inl (some (ag_I (ag_ff (fun i => decide (ag_rd 40 (g 2) (ag_rd 40 (g 6) i) ≤ ag_rd 40 (g 2) c)) (n - (p + 1)) (p + 1) : Nat)))) (ag_SB σ a g v) := by
  simp only [ag_e9, ag_i9_0, ag_i9_1, ag_i9_4, ag_i9_5, ag_i9_8, ag_i9_9, ag_i9_10_n, ag_i9_10_i, ag_i9_10_r, ag_i9_12, ag_i9_13, ag_i9_16, ag_i9_19, ag_i9_20, ag_i9_23, ag_i9_24, ag_i9_27, ag_i9_28, ag_i9_31, ag_i9_34, ag_i9_35, ag_i9_38, ag_i9_39, ag_i9_42, ag_i9_45, ag_i9_46, ag_i9_47_n, ag_i9_47_i, ag_i9_47_r, ag_i9_50, ag_i9_53, ag_i9_54, ag_i9_57, ag_SB_g0, ag_SB_g1, ag_SB_g2, ag_SB_g3, ag_SB_g4, ag_SB_g5, ag_SB_g6, ag_SB_g7, ag_SB_g8, ag_SB_g9, ag_SB_at0, ag_SB_at1, ag_SB_at2, ag_SB_at3, ag_SB_at4, ag_SB_at5, ag_SB_at6, ag_SB_at7, ag_SB_pt0, ag_SB_pt1, ag_SB_pt2, ag_SB_pt3, ag_SB_pt4, ag_SB_pt5, ag_SB_pt6, ag_SB_pt7, ag_SB_ck, ag_kk_v, ag_kk_n, Nat.reduceAdd, hp]
  exact ag_B_endOf_loop σ K hv hs hn (n - (p + 1)) (p + 1) (by omega)
theorem ag_B_holds {c : Int} (hv : v 0 = w) (hs : ag_sm g) (hw : w ≤ 1000) : ag_cl9 7 [ag_R a, ag_I c] (ag_SB σ a g v) K = K (Sum.inl (some (ag_I (if 0 ≤ ag_nm c ∧ ag_nm c < w ∧ ag_rd 40 (g 5) c ≠ -1 then 1 else 0)))) (ag_SB σ a g v) := by
  simp only [ag_e7, ag_i7_0, ag_i7_1, ag_i7_4, ag_i7_5, ag_i7_6, ag_i7_9, ag_i7_12, ag_i7_13, ag_i7_16, ag_i7_17, ag_i7_20, ag_i7_21, ag_i7_24, ag_i7_25, ag_i7_28, ag_i7_29, ag_SB_g0, ag_SB_g1, ag_SB_g2, ag_SB_g3, ag_SB_g4, ag_SB_g5, ag_SB_g6, ag_SB_g7, ag_SB_g8, ag_SB_g9, ag_SB_at0, ag_SB_at1, ag_SB_at2, ag_SB_at3, ag_SB_at4, ag_SB_at5, ag_SB_at6, ag_SB_at7, ag_SB_pt0, ag_SB_pt1, ag_SB_pt2, ag_SB_pt3, ag_SB_pt4, ag_SB_pt5, ag_SB_pt6, ag_SB_pt7, ag_SB_ck, ag_kk_v, ag_kk_n, Nat.reduceAdd, hv, ag_nm_nat (show w ≤ 1000000 by omega), ag_nm_z, ag_nm_1, ag_nm_m, ag_nm_rd hs]
  by_cases h1 : ag_nm c < 0
  · rw [if_pos h1, if_neg (by omega)]
    simp
  · rw [if_neg h1]
    by_cases h2 : (w : Int) ≤ ag_nm c
    · rw [if_pos h2, if_neg (by omega)]
      simp
    · rw [if_neg h2]
      by_cases h3 : ag_rd 40 (g 5) c = -1
      · rw [if_pos h3, if_neg (by omega)]
        simp
      · rw [if_neg h3, if_pos (by omega)]
        simp
theorem ag_B_knows {c : Int} (hv : v 0 = w) (hw : w ≤ 1000) : ag_cl9 6 [ag_R a, ag_I c] (ag_SB σ a g v) K = K (Sum.inl (some (ag_I (if 0 ≤ ag_nm c ∧ ag_nm c < w then 1 else 0)))) (ag_SB σ a g v) := by
  simp only [ag_e6, ag_i6_0, ag_i6_1, ag_i6_4, ag_i6_5, ag_i6_6, ag_i6_9, ag_i6_12, ag_i6_13, ag_i6_16, ag_i6_17, ag_SB_g0, ag_SB_g1, ag_SB_g2, ag_SB_g3, ag_SB_g4, ag_SB_g5, ag_SB_g6, ag_SB_g7, ag_SB_g8, ag_SB_g9, ag_SB_at0, ag_SB_at1, ag_SB_at2, ag_SB_at3, ag_SB_at4, ag_SB_at5, ag_SB_at6, ag_SB_at7, ag_SB_pt0, ag_SB_pt1, ag_SB_pt2, ag_SB_pt3, ag_SB_pt4, ag_SB_pt5, ag_SB_pt6, ag_SB_pt7, ag_SB_ck, ag_kk_v, ag_kk_n, Nat.reduceAdd, hv, ag_nm_nat (show w ≤ 1000000 by omega), ag_nm_z, ag_nm_1]
  by_cases h1 : ag_nm c < 0
  · rw [if_pos h1, if_neg (by omega)]
    simp
  · rw [if_neg h1]
    by_cases h2 : (w : Int) ≤ ag_nm c
    · rw [if_pos h2, if_neg (by omega)]
      simp
    · rw [if_neg h2, if_pos (by omega)]
      simp
theorem ag_B_highUnder {c : Int} : ag_cl9 8 [ag_R a, ag_I c] (ag_SB σ a g v) K = K (Sum.inl (some (ag_I (if ag_nm c = -1 then 0 else ag_rd 40 (g 2) c + 1)))) (ag_SB σ a g v) := by
  simp only [ag_e8, ag_i8_0, ag_i8_1, ag_i8_2, ag_i8_5, ag_i8_6, ag_i8_9, ag_i8_10, ag_i8_13, ag_i8_14, ag_i8_17, ag_i8_18, ag_i8_19, ag_SB_g0, ag_SB_g1, ag_SB_g2, ag_SB_g3, ag_SB_g4, ag_SB_g5, ag_SB_g6, ag_SB_g7, ag_SB_g8, ag_SB_g9, ag_SB_at0, ag_SB_at1, ag_SB_at2, ag_SB_at3, ag_SB_at4, ag_SB_at5, ag_SB_at6, ag_SB_at7, ag_SB_pt0, ag_SB_pt1, ag_SB_pt2, ag_SB_pt3, ag_SB_pt4, ag_SB_pt5, ag_SB_pt6, ag_SB_pt7, ag_SB_ck, ag_kk_v, ag_kk_n, Nat.reduceAdd, ag_nm_m]
  by_cases h1 : ag_nm c = -1
  · rw [if_neg (by omega), if_pos h1]
  · rw [if_pos h1, if_neg h1]
/-- the numbers, after k clauses are numbered anew -/
def ag_rn (r q : Nat → Int) : Nat → Nat → Int
  | 0 => q
  | k + 1 => ag_wr 40 (ag_rn r q k) (ag_rd 40 r k) k
theorem ag_B_renumber_loop (hv : v 1 = n) (hn : n ≤ 40) (ha : 1 ≤ a) (q : Nat → Int) : ∀ (k i : Nat), i + k = n → 
    ag_wp 18 2 [some (ag_R a), some (ag_I i)] [] (ag_SB σ a (ag_ug g 5 (ag_rn (g 6) q i)) v) K = K (Sum.inl none) (ag_SB σ a (ag_ug g 5 (ag_rn (g 6) q n)) v) := by
  intro k
  induction k with
  | zero =>
    intro i hi
    rw [ag_i18_2]
    simp only [ag_i18_0, ag_i18_1_n, ag_i18_1_i, ag_i18_1_r, ag_i18_3, ag_i18_4, ag_i18_7, ag_i18_10, ag_i18_11, ag_i18_14, ag_i18_15, ag_i18_18, ag_i18_19, ag_i18_22, ag_i18_23, ag_i18_26_n, ag_i18_26_i, ag_i18_26_r, ag_i18_29, ag_i18_32, ag_SB_g0, ag_SB_g1, ag_SB_g2, ag_SB_g3, ag_SB_g4, ag_SB_g5, ag_SB_g6, ag_SB_g7, ag_SB_g8, ag_SB_g9, ag_SB_at0, ag_SB_at1, ag_SB_at2, ag_SB_at3, ag_SB_at4, ag_SB_at5, ag_SB_at6, ag_SB_at7, ag_SB_pt0, ag_SB_pt1, ag_SB_pt2, ag_SB_pt3, ag_SB_pt4, ag_SB_pt5, ag_SB_pt6, ag_SB_pt7, ag_SB_ck, ag_kk_v, ag_kk_n, Nat.reduceAdd, hv, ag_nm_nat (show i ≤ 1000000 by omega), ag_nm_nat (show n ≤ 1000000 by omega)]
    rw [if_pos (by omega), show i = n by omega]
  | succ k ih =>
    intro i hi
    rw [ag_i18_2]
    simp only [ag_i18_0, ag_i18_1_n, ag_i18_1_i, ag_i18_1_r, ag_i18_3, ag_i18_4, ag_i18_7, ag_i18_10, ag_i18_11, ag_i18_14, ag_i18_15, ag_i18_18, ag_i18_19, ag_i18_22, ag_i18_23, ag_i18_26_n, ag_i18_26_i, ag_i18_26_r, ag_i18_29, ag_i18_32, ag_SB_g0, ag_SB_g1, ag_SB_g2, ag_SB_g3, ag_SB_g4, ag_SB_g5, ag_SB_g6, ag_SB_g7, ag_SB_g8, ag_SB_g9, ag_SB_at0, ag_SB_at1, ag_SB_at2, ag_SB_at3, ag_SB_at4, ag_SB_at5, ag_SB_at6, ag_SB_at7, ag_SB_pt0, ag_SB_pt1, ag_SB_pt2, ag_SB_pt3, ag_SB_pt4, ag_SB_pt5, ag_SB_pt6, ag_SB_pt7, ag_SB_ck, ag_kk_v, ag_kk_n, Nat.reduceAdd, hv, ag_nm_nat (show i ≤ 1000000 by omega), ag_nm_nat (show n ≤ 1000000 by omega)]
    rw [if_neg (by omega)]
    have h1 := ih (i + 1) (by omega)
    rw [← h1]
    congr 1
theorem ag_ug_self (g : Nat → Nat → Int) (k : Nat) : ag_ug g k (g k) = g := by
  funext j
  unfold ag_ug
  split
  · rename_i h; rw [h]
  · rfl
theorem ag_ug_2 (g : Nat → Nat → Int) (k : Nat) (x y : Nat → Int) : ag_ug (ag_ug g k x) k y = ag_ug g k y := by
  funext j
  unfold ag_ug
  split <;> rfl
theorem ag_wr_nat {g : Nat → Int} {m i : Nat} (x : Int) (hm : m ≤ 1000000) (hi : i < m) : ag_wr m g (i : Int) x = ag_ui g i x := by
  unfold ag_wr
  rw [ag_nm_nat (by omega), if_pos (by omega), Int.toNat_natCast]
theorem ag_B_renumber (hv : v 1 = n) (hn : n ≤ 40) (ha : 1 ≤ a) : ag_cl9 18 [ag_R a] (ag_SB σ a g v) K = K (Sum.inl none) (ag_SB σ a (ag_ug g 5 (ag_rn (g 6) (g 5) n)) v) := by
  rw [← ag_B_renumber_loop σ K hv hn ha (g 5) n 0 (by omega)]
  simp only [ag_e18, ag_i18_0, ag_i18_1_n, ag_i18_1_i, ag_i18_1_r, ag_i18_3, ag_i18_4, ag_i18_7, ag_i18_10, ag_i18_11, ag_i18_14, ag_i18_15, ag_i18_18, ag_i18_19, ag_i18_22, ag_i18_23, ag_i18_26_n, ag_i18_26_i, ag_i18_26_r, ag_i18_29, ag_i18_32, ag_rn, ag_ug_self]
  rfl
/-- the row r, from place i + 1 to n moved up by one -/
def ag_sh (r : Nat → Int) (i n : Nat) : Nat → Int := fun j => if i < j ∧ j ≤ n then r (j - 1) else r j
theorem ag_B_insert_loop {above words : Int} {place made : Nat} (hn : n < 40) (q : Nat → Int) : ∀ (k i : Nat), i = place + k → i ≤ n →
    ag_wp 14 85 [some (ag_R a), some (ag_I place), some (ag_I above), some (ag_I words), some (ag_I made), some (ag_I i)] [] (ag_SB σ a (ag_ug g 6 (ag_sh q i n)) v) K =
    ag_wp 14 117 [some (ag_R a), some (ag_I place), some (ag_I above), some (ag_I words), some (ag_I made), some (ag_I place)] [] (ag_SB σ a (ag_ug g 6 (ag_sh q place n)) v) K := by
  intro k
  induction k with
  | zero =>
    intro i hi hin
    rw [ag_i14_85]
    simp only [ag_i14_87, ag_i14_88, ag_nm_nat (show i ≤ 1000000 by omega), ag_nm_nat (show place ≤ 1000000 by omega)]
    rw [if_pos (by omega), show i = place by omega]
  | succ k ih =>
    intro i hi hin
    have h1 := ih (i - 1) (by omega) (by omega)
    rw [ag_i14_85]
    simp only [ag_i14_87, ag_i14_88, ag_i14_91, ag_i14_92, ag_i14_95, ag_i14_97, ag_i14_98, ag_i14_101, ag_i14_103, ag_i14_104, ag_i14_105, ag_i14_108, ag_i14_111_n, ag_i14_111_i, ag_i14_111_r, ag_i14_114, ag_SB_g0, ag_SB_g1, ag_SB_g2, ag_SB_g3, ag_SB_g4, ag_SB_g5, ag_SB_g6, ag_SB_g7, ag_SB_g8, ag_SB_g9, ag_SB_at0, ag_SB_at1, ag_SB_at2, ag_SB_at3, ag_SB_at4, ag_SB_at5, ag_SB_at6, ag_SB_at7, ag_SB_pt0, ag_SB_pt1, ag_SB_pt2, ag_SB_pt3, ag_SB_pt4, ag_SB_pt5, ag_SB_pt6, ag_SB_pt7, ag_SB_ck, ag_kk_v, ag_kk_n, Nat.reduceAdd, ag_nm_nat (show i ≤ 1000000 by omega), ag_nm_nat (show place ≤ 1000000 by omega)]
    rw [if_neg (by omega), ← h1]
    have e1 : ((i : Int) + (-1)) = ((i - 1 : Nat) : Int) := by omega
    have e2 : ((i : Int) - 1) = ((i - 1 : Nat) : Int) := by omega
    have e3 : ag_ug (ag_ug g 6 (ag_sh q i n)) 6 (ag_wr 40 (ag_ug g 6 (ag_sh q i n) 6) (i : Int) (ag_rd 40 (ag_ug g 6 (ag_sh q i n) 6) ((i - 1 : Nat) : Int))) = ag_ug g 6 (ag_sh q (i - 1) n) := by
      rw [ag_ug_2, ag_ug_same, ag_rd_nat (by decide) (by omega), ag_wr_nat _ (by decide) (by omega)]
      congr 1
      funext j
      unfold ag_ui ag_sh
      by_cases hj : j = i
      · subst hj
        rw [if_pos rfl, if_neg (by omega), if_pos (by omega)]
      · rw [if_neg hj]
        by_cases h2 : i < j ∧ j ≤ n
        · rw [if_pos h2, if_pos (by omega)]
        · rw [if_neg h2, if_neg (by omega)]
    rw [e1, e2, e3]
/-- the rows behind insert -/
def ag_gi (g : Nat → Nat → Int) (w n place : Nat) (above words hu : Int) : Nat → Nat → Int :=
  let r2 := ag_ui (ag_sh (g 6) place n) place w
  ag_ug (ag_ug (ag_ug (ag_ug (ag_ug (ag_ug (ag_ug g 0 (ag_ui (g 0) w words)) 1 (ag_ui (g 1) w above)) 2 (ag_ui (g 2) w hu)) 3 (ag_ui (g 3) w (-1))) 4 (ag_ui (g 4) w (-1))) 6 r2) 5 (ag_rn r2 (g 5) (n + 1))
theorem ag_B_insert {above words : Int} {place : Nat} (hv0 : v 0 = w) (hv1 : v 1 = n) (hw : w < 40) (hn : n < 40) (hp : place ≤ n) (ha : 1 ≤ a) :
    ag_cl9 14 [ag_R a, ag_I place, ag_I above, ag_I words] (ag_SB σ a g v) K = K (Sum.inl (some (ag_I w))) (ag_SB σ a (ag_gi g w n place above words (if ag_nm above = -1 then 0 else ag_rd 40 (g 2) above + 1)) (ag_ui (ag_ui v 0 (w + 1)) 1 (n + 1))) := by
  have hf : ¬ 40 ≤ w := by omega
  simp only [ag_e14, ag_i14_0, ag_i14_1, ag_i14_4, ag_i14_7, ag_i14_8, ag_i14_9, ag_i14_10, ag_i14_13_n, ag_i14_13_i, ag_i14_13_r, ag_i14_15, ag_i14_16, ag_i14_17, ag_i14_20, ag_i14_21, ag_i14_22, ag_i14_25, ag_i14_26, ag_i14_29, ag_i14_31, ag_i14_32, ag_i14_35, ag_i14_36, ag_i14_39, ag_i14_41, ag_i14_42, ag_i14_45, ag_i14_46, ag_i14_49, ag_i14_51, ag_i14_52, ag_i14_53, ag_i14_56, ag_i14_59, ag_i14_60, ag_i14_63, ag_i14_65, ag_i14_66, ag_i14_69, ag_i14_70, ag_i14_73, ag_i14_75, ag_i14_76, ag_i14_79, ag_i14_80, ag_i14_83_n, ag_i14_83_i, ag_i14_83_r, ag_i14_87, ag_i14_88, ag_i14_91, ag_i14_92, ag_i14_95, ag_i14_97, ag_i14_98, ag_i14_101, ag_i14_103, ag_i14_104, ag_i14_105, ag_i14_108, ag_i14_111_n, ag_i14_111_i, ag_i14_111_r, ag_i14_114, ag_SB_g0, ag_SB_g1, ag_SB_g2, ag_SB_g3, ag_SB_g4, ag_SB_g5, ag_SB_g6, ag_SB_g7, ag_SB_g8, ag_SB_g9, ag_SB_at0, ag_SB_at1, ag_SB_at2, ag_SB_at3, ag_SB_at4, ag_SB_at5, ag_SB_at6, ag_SB_at7, ag_SB_pt0, ag_SB_pt1, ag_SB_pt2, ag_SB_pt3, ag_SB_pt4, ag_SB_pt5, ag_SB_pt6, ag_SB_pt7, ag_SB_ck, ag_kk_v, ag_kk_n, Nat.reduceAdd, ag_B_isFull _ _ hv0 (show w ≤ 1000 by omega), if_neg hf, ag_nm_z, if_true, ag_SB_p8 _ ha, hv0, ag_B_highUnder]
  trace_state
  sorry
end AGB
