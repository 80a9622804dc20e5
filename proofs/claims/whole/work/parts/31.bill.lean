/-! THE BILL of the class: its cells, and what is read of them. -/
/-- the first place from i on, at most k further, where p holds -/
def ag_ff (p : Nat → Bool) : Nat → Nat → Nat
  | 0, i => i
  | k + 1, i => if p i = true then i else ag_ff p k (i + 1)
theorem ag_ff_le (p : Nat → Bool) : ∀ (k i : Nat), i ≤ ag_ff p k i ∧ ag_ff p k i ≤ i + k := by
  intro k
  induction k with
  | zero => intro i; exact ⟨Nat.le_refl _, Nat.le_refl _⟩
  | succ k ih =>
    intro i
    rw [ag_ff]
    split
    · omega
    · have := ih (i + 1)
      omega
theorem ag_ff_no (p : Nat → Bool) : ∀ (k i j : Nat), i ≤ j → j < ag_ff p k i → p j = false := by
  intro k
  induction k with
  | zero => intro i j h1 h2; rw [ag_ff] at h2; omega
  | succ k ih =>
    intro i j h1 h2
    rw [ag_ff] at h2
    split at h2
    · omega
    · rename_i hp
      by_cases hij : i = j
      · subst hij; simpa using hp
      · exact ih (i + 1) j (by omega) h2
theorem ag_ff_yes (p : Nat → Bool) : ∀ (k i : Nat), ag_ff p k i < i + k → p (ag_ff p k i) = true := by
  intro k
  induction k with
  | zero => intro i h; rw [ag_ff] at h; omega
  | succ k ih =>
    intro i h
    rw [ag_ff] at h ⊢
    split
    · assumption
    · rename_i hp
      rw [if_neg hp] at h
      exact ih (i + 1) (by omega)
/-- the one place with these three -/
theorem ag_ff_is {p : Nat → Bool} {k i e : Nat} (h1 : i ≤ e) (h2 : e ≤ i + k) (h3 : ∀ j, i ≤ j → j < e → p j = false) (h4 : e < i + k → p e = true) : ag_ff p k i = e := by
  have g := ag_ff_le p k i
  rcases Nat.lt_trichotomy (ag_ff p k i) e with q | q | q
  · have := ag_ff_yes p k i (by omega)
    rw [h3 _ g.1 q] at this
    cases this
  · exact q
  · have := ag_ff_no p k i e h1 q
    rw [h4 (by omega)] at this
    cases this
/-- who came behind whom -/
def ag_cb (f : Nat → Nat → Int) (c : Nat) : Int := if 0 ≤ f 3 c ∧ f 5 (f 3 c).toNat = 3 then f 6 (f 3 c).toNat else -1
def ag_sm (g : Nat → Nat → Int) : Prop := ∀ k i, -100000 ≤ g k i ∧ g k i ≤ 100000
/-- the rows hold the bill r of n clauses, w ever; f: text, parent, high, came -/
def ag_BA (g : Nat → Nat → Int) (r : Nat → Nat) (f : Nat → Nat → Int) (w n : Nat) : Prop :=
  ag_sm g ∧ w ≤ 40 ∧ n ≤ w ∧ (∀ c, c < w → g 0 c = f 0 c ∧ g 1 c = f 1 c ∧ g 2 c = f 2 c ∧ g 3 c = f 3 c ∧ g 4 c = ag_cb f c) ∧ (∀ i, i < n → r i < w ∧ g 6 i = r i ∧ g 5 (r i) = i) ∧ (∀ c, c < w → (∀ i, i < n → r i ≠ c) → g 5 c = -1)
theorem ag_rd_nat {g : Nat → Int} {n i : Nat} (hn : n ≤ 1000000) (hi : i < n) : ag_rd n g (i : Int) = g i := by
  unfold ag_rd
  rw [ag_nm_nat (by omega), if_pos (by omega), Int.toNat_natCast]
theorem ag_rd_sm {g : Nat → Nat → Int} (hs : ag_sm g) (n k : Nat) (i : Int) : -100000 ≤ ag_rd n (g k) i ∧ ag_rd n (g k) i ≤ 100000 := by
  unfold ag_rd
  split
  · exact hs _ _
  · omega
theorem ag_nm_rd {g : Nat → Nat → Int} (hs : ag_sm g) (n k : Nat) (i : Int) : ag_nm (ag_rd n (g k) i) = ag_rd n (g k) i := by
  have := ag_rd_sm hs n k i
  exact ag_nm_of (by omega) (by omega)
/-- the end of the block of the clause that is read at p -/
def ag_eo (r : Nat → Nat) (f : Nat → Nat → Int) (n p : Nat) : Nat := ag_ff (fun i => decide (f 2 (r i) ≤ f 2 (r p))) (n - (p + 1)) (p + 1)
section AGB
variable (σ : ag_S) {a : Nat} {g : Nat → Nat → Int} {v : Nat → Int} {w n : Nat} (K : ag_Rs → ag_S → Prop)
theorem ag_B_isFull (hv : v 0 = w) (hw : w ≤ 1000) : ag_cl9 5 [ag_R a] (ag_SB σ a g v) K = K (Sum.inl (some (ag_I (if 40 ≤ w then 1 else 0)))) (ag_SB σ a g v) := by
  simp only [ag_e5, ag_i5_0, ag_i5_1, ag_i5_4, ag_i5_6, ag_i5_9, ag_i5_10, ag_i5_13, ag_i5_14, ag_SB_g0, ag_SB_g1, ag_SB_g2, ag_SB_g3, ag_SB_g4, ag_SB_g5, ag_SB_g6, ag_SB_g7, ag_SB_g8, ag_SB_g9, ag_SB_at0, ag_SB_at1, ag_SB_at2, ag_SB_at3, ag_SB_at4, ag_SB_at5, ag_SB_at6, ag_SB_at7, ag_SB_pt0, ag_SB_pt1, ag_SB_pt2, ag_SB_pt3, ag_SB_pt4, ag_SB_pt5, ag_SB_pt6, ag_SB_pt7, ag_SB_ck, hv, ag_nm_nat (show w ≤ 1000000 by omega), ag_nm_of (show (-2147483648 : Int) ≤ 40 by decide) (by decide), ag_nm_z, ag_nm_1]
  by_cases h1 : 40 ≤ w
  · rw [if_pos h1, if_neg (by omega)]
    simp
  · rw [if_neg h1, if_pos (by omega)]
    simp
theorem ag_B_endOf_loop {c : Int} (hv : v 1 = n) (hs : ag_sm g) (hn : n ≤ 40) : ∀ (k i : Nat), i + k = n →
    ag_wp 9 11 [some (ag_R a), some (ag_I c), some (ag_I i)] [] (ag_SB σ a g v) K = K (Sum.inl (some (ag_I (ag_ff (fun i => decide (ag_rd 40 (g 2) (ag_rd 40 (g 6) i) ≤ ag_rd 40 (g 2) c)) k i : Nat)))) (ag_SB σ a g v) := by
  intro k
  induction k with
  | zero =>
    intro i hi
    rw [ag_i9_11]
    simp only [ag_i9_0, ag_i9_1, ag_i9_4, ag_i9_5, ag_i9_8, ag_i9_9, ag_i9_10_n, ag_i9_10_i, ag_i9_10_r, ag_i9_12, ag_i9_13, ag_i9_16, ag_i9_19, ag_i9_20, ag_i9_23, ag_i9_24, ag_i9_27, ag_i9_28, ag_i9_31, ag_i9_34, ag_i9_35, ag_i9_38, ag_i9_39, ag_i9_42, ag_i9_45, ag_i9_46, ag_i9_47_n, ag_i9_47_i, ag_i9_47_r, ag_i9_50, ag_i9_53, ag_i9_54, ag_i9_57, ag_SB_g0, ag_SB_g1, ag_SB_g2, ag_SB_g3, ag_SB_g4, ag_SB_g5, ag_SB_g6, ag_SB_g7, ag_SB_g8, ag_SB_g9, ag_SB_at0, ag_SB_at1, ag_SB_at2, ag_SB_at3, ag_SB_at4, ag_SB_at5, ag_SB_at6, ag_SB_at7, ag_SB_pt0, ag_SB_pt1, ag_SB_pt2, ag_SB_pt3, ag_SB_pt4, ag_SB_pt5, ag_SB_pt6, ag_SB_pt7, ag_SB_ck, hv, ag_nm_nat (show i ≤ 1000000 by omega), ag_nm_nat (show n ≤ 1000000 by omega)]
    rw [if_pos (by omega)]
    rw [ag_ff, show i = n by omega]
  | succ k ih =>
    intro i hi
    rw [ag_i9_11]
    simp only [ag_i9_0, ag_i9_1, ag_i9_4, ag_i9_5, ag_i9_8, ag_i9_9, ag_i9_10_n, ag_i9_10_i, ag_i9_10_r, ag_i9_12, ag_i9_13, ag_i9_16, ag_i9_19, ag_i9_20, ag_i9_23, ag_i9_24, ag_i9_27, ag_i9_28, ag_i9_31, ag_i9_34, ag_i9_35, ag_i9_38, ag_i9_39, ag_i9_42, ag_i9_45, ag_i9_46, ag_i9_47_n, ag_i9_47_i, ag_i9_47_r, ag_i9_50, ag_i9_53, ag_i9_54, ag_i9_57, ag_SB_g0, ag_SB_g1, ag_SB_g2, ag_SB_g3, ag_SB_g4, ag_SB_g5, ag_SB_g6, ag_SB_g7, ag_SB_g8, ag_SB_g9, ag_SB_at0, ag_SB_at1, ag_SB_at2, ag_SB_at3, ag_SB_at4, ag_SB_at5, ag_SB_at6, ag_SB_at7, ag_SB_pt0, ag_SB_pt1, ag_SB_pt2, ag_SB_pt3, ag_SB_pt4, ag_SB_pt5, ag_SB_pt6, ag_SB_pt7, ag_SB_ck, hv, ag_nm_nat (show i ≤ 1000000 by omega), ag_nm_nat (show n ≤ 1000000 by omega), ag_kk_v, ag_nm_rd hs]
    rw [if_neg (by omega), ag_ff]
    by_cases hp : ag_rd 40 (g 2) (ag_rd 40 (g 6) i) ≤ ag_rd 40 (g 2) c
    · rw [if_neg (by omega), if_pos (by simpa using hp)]
    · rw [if_pos (by omega), if_neg (by simpa using hp)]
      exact ih (i + 1) (by omega)
theorem ag_B_endOf {c : Int} {p : Nat} (hv : v 1 = n) (hs : ag_sm g) (hn : n ≤ 40) (hp : ag_rd 40 (g 5) c = p) (hpn : p < n) :
    ag_cl9 9 [ag_R a, ag_I c] (ag_SB σ a g v) K = K (Sum.inl (some (ag_I (ag_ff (fun i => decide (ag_rd 40 (g 2) (ag_rd 40 (g 6) i) ≤ ag_rd 40 (g 2) c)) (n - (p + 1)) (p + 1) : Nat)))) (ag_SB σ a g v) := by
  simp only [ag_e9, ag_i9_0, ag_i9_1, ag_i9_4, ag_i9_5, ag_i9_8, ag_i9_9, ag_i9_10_n, ag_i9_10_i, ag_i9_10_r, ag_i9_12, ag_i9_13, ag_i9_16, ag_i9_19, ag_i9_20, ag_i9_23, ag_i9_24, ag_i9_27, ag_i9_28, ag_i9_31, ag_i9_34, ag_i9_35, ag_i9_38, ag_i9_39, ag_i9_42, ag_i9_45, ag_i9_46, ag_i9_47_n, ag_i9_47_i, ag_i9_47_r, ag_i9_50, ag_i9_53, ag_i9_54, ag_i9_57, ag_SB_g0, ag_SB_g1, ag_SB_g2, ag_SB_g3, ag_SB_g4, ag_SB_g5, ag_SB_g6, ag_SB_g7, ag_SB_g8, ag_SB_g9, ag_SB_at0, ag_SB_at1, ag_SB_at2, ag_SB_at3, ag_SB_at4, ag_SB_at5, ag_SB_at6, ag_SB_at7, ag_SB_pt0, ag_SB_pt1, ag_SB_pt2, ag_SB_pt3, ag_SB_pt4, ag_SB_pt5, ag_SB_pt6, ag_SB_pt7, ag_SB_ck, ag_kk_v, hp]
  exact ag_B_endOf_loop σ K hv hs hn (n - (p + 1)) (p + 1) (by omega)
end AGB
