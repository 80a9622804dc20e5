/-! THE HOUSE: rows seats, share, spoken, votes; numbers parties, quorum, left. -/
def ag_su (f : Nat → Int) : Nat → Nat → Int
  | 0, _ => 0
  | k + 1, i => f i + ag_su f k (i + 1)
theorem ag_b0 : (ag_nm 0 = 0 ∨ ag_nm 0 = 1) = True := by
  rw [ag_nm_z]
  simp
theorem ag_b1 : (ag_nm 1 = 0 ∨ ag_nm 1 = 1) = True := by
  rw [ag_nm_1]
  simp
section AGH
variable (σ : ag_S) {a : Nat} {g : Nat → Nat → Int} {v : Nat → Int} {n : Nat} (K : ag_Rs → ag_S → Prop)
theorem ag_H_knows {c : Int} (hv : v 0 = n) (hn : n ≤ 5) : ag_cl9 32 [ag_R a, ag_I c] (ag_SH σ a g v) K = K (Sum.inl (some (ag_I (if 0 ≤ ag_nm c ∧ ag_nm c < n then 1 else 0)))) (ag_SH σ a g v) := by
  simp only [ag_e32, ag_i32_0, ag_i32_1, ag_i32_4, ag_i32_5, ag_i32_6, ag_i32_9, ag_i32_12, ag_i32_13, ag_i32_16, ag_i32_17, ag_SH_g0, ag_SH_g1, ag_SH_g2, ag_SH_g3, ag_SH_g4, ag_SH_g5, ag_SH_g6, ag_SH_at0, ag_SH_at1, ag_SH_at2, ag_SH_at3, ag_SH_pt0, ag_SH_pt1, ag_SH_pt2, ag_SH_pt3, ag_SH_ck, ag_kk_v, ag_kk_n, Nat.reduceAdd, hv, ag_nm_nat (show n ≤ 1000000 by omega), ag_nm_z, ag_nm_1]
  by_cases h1 : ag_nm c < 0
  · rw [if_pos h1, if_neg (by omega)]
    simp
  · rw [if_neg h1]
    by_cases h2 : (n : Int) ≤ ag_nm c
    · rw [if_pos h2, if_neg (by omega)]
      simp
    · rw [if_neg h2, if_pos (by omega)]
      simp
theorem ag_H_add {s : Int} (hv : v 0 = n) (hn : n < 5) (ha : 1 ≤ a) : ag_cl9 33 [ag_R a, ag_I s] (ag_SH σ a g v) K = K (Sum.inl (some (ag_I n))) (ag_SH σ a (ag_ug g 0 (ag_ui (g 0) n s)) (ag_ui v 0 (n + 1))) := by
  simp only [ag_e33, ag_i33_0, ag_i33_1, ag_i33_4_n, ag_i33_4_i, ag_i33_4_r, ag_i33_5, ag_i33_6, ag_i33_7, ag_i33_10, ag_i33_11, ag_i33_12, ag_i33_15, ag_i33_16, ag_i33_19, ag_i33_20, ag_i33_21, ag_i33_24, ag_i33_25, ag_SH_g0, ag_SH_g1, ag_SH_g2, ag_SH_g3, ag_SH_g4, ag_SH_g5, ag_SH_g6, ag_SH_at0, ag_SH_at1, ag_SH_at2, ag_SH_at3, ag_SH_pt0, ag_SH_pt1, ag_SH_pt2, ag_SH_pt3, ag_SH_ck, ag_kk_v, ag_kk_n, Nat.reduceAdd, ag_ug_at, ag_ui_at, Nat.reduceEqDiff, ↓reduceIte, ag_SH_p4 _ ha, hv, ag_wr_nat _ (show 5 ≤ 1000000 by decide) hn]
theorem ag_H_allSeats_loop (hv : v 0 = n) (hn : n ≤ 5) : ∀ (k i : Nat) (s : Int), i + k = n →
    ag_wp 34 4 [some (ag_R a), some (ag_I s), some (ag_I i)] [] (ag_SH σ a g v) K = K (Sum.inl (some (ag_I (s + ag_su (g 0) k i)))) (ag_SH σ a g v) := by
  intro k
  induction k with
  | zero =>
    intro i s hi
    rw [ag_i34_4]
    simp only [ag_i34_0, ag_i34_1_n, ag_i34_1_i, ag_i34_1_r, ag_i34_2, ag_i34_3_n, ag_i34_3_i, ag_i34_3_r, ag_i34_5, ag_i34_6, ag_i34_9, ag_i34_12, ag_i34_13, ag_i34_14, ag_i34_17, ag_i34_18, ag_i34_21, ag_i34_22_n, ag_i34_22_i, ag_i34_22_r, ag_i34_23_n, ag_i34_23_i, ag_i34_23_r, ag_i34_26, ag_i34_29, ag_i34_30, ag_SH_g0, ag_SH_g1, ag_SH_g2, ag_SH_g3, ag_SH_g4, ag_SH_g5, ag_SH_g6, ag_SH_at0, ag_SH_at1, ag_SH_at2, ag_SH_at3, ag_SH_pt0, ag_SH_pt1, ag_SH_pt2, ag_SH_pt3, ag_SH_ck, ag_kk_v, ag_kk_n, Nat.reduceAdd, hv, ag_nm_nat (show i ≤ 1000000 by omega), ag_nm_nat (show n ≤ 1000000 by omega)]
    rw [if_pos (by omega), ag_su, Int.add_zero]
  | succ k ih =>
    intro i s hi
    rw [ag_i34_4]
    simp only [ag_i34_0, ag_i34_1_n, ag_i34_1_i, ag_i34_1_r, ag_i34_2, ag_i34_3_n, ag_i34_3_i, ag_i34_3_r, ag_i34_5, ag_i34_6, ag_i34_9, ag_i34_12, ag_i34_13, ag_i34_14, ag_i34_17, ag_i34_18, ag_i34_21, ag_i34_22_n, ag_i34_22_i, ag_i34_22_r, ag_i34_23_n, ag_i34_23_i, ag_i34_23_r, ag_i34_26, ag_i34_29, ag_i34_30, ag_SH_g0, ag_SH_g1, ag_SH_g2, ag_SH_g3, ag_SH_g4, ag_SH_g5, ag_SH_g6, ag_SH_at0, ag_SH_at1, ag_SH_at2, ag_SH_at3, ag_SH_pt0, ag_SH_pt1, ag_SH_pt2, ag_SH_pt3, ag_SH_ck, ag_kk_v, ag_kk_n, Nat.reduceAdd, hv, ag_nm_nat (show i ≤ 1000000 by omega), ag_nm_nat (show n ≤ 1000000 by omega), ag_rd_nat (show 5 ≤ 1000000 by decide) (show i < 5 by omega)]
    rw [if_neg (by omega), ag_su, ← Int.add_assoc]
    exact ih (i + 1) _ (by omega)
theorem ag_H_allSeats (hv : v 0 = n) (hn : n ≤ 5) : ag_cl9 34 [ag_R a] (ag_SH σ a g v) K = K (Sum.inl (some (ag_I (ag_su (g 0) n 0)))) (ag_SH σ a g v) := by
  have h := ag_H_allSeats_loop σ (a := a) (g := g) K hv hn n 0 0 (by omega)
  rw [Int.zero_add] at h
  rw [← h]
  simp only [ag_e34, ag_i34_0, ag_i34_1_n, ag_i34_1_i, ag_i34_1_r, ag_i34_2, ag_i34_3_n, ag_i34_3_i, ag_i34_3_r, ag_i34_5, ag_i34_6, ag_i34_9, ag_i34_12, ag_i34_13, ag_i34_14, ag_i34_17, ag_i34_18, ag_i34_21, ag_i34_22_n, ag_i34_22_i, ag_i34_22_r, ag_i34_23_n, ag_i34_23_i, ag_i34_23_r, ag_i34_26, ag_i34_29, ag_i34_30]
  rfl
theorem ag_H_voteOf {p c : Int} : ag_cl9 35 [ag_R a, ag_I p, ag_I c] (ag_SH σ a g v) K = K (Sum.inl (some (ag_I (ag_rd 100 (g 3) (p * 20 + c))))) (ag_SH σ a g v) := by
  simp only [ag_e35, ag_i35_0, ag_i35_1, ag_i35_4, ag_i35_5, ag_i35_7, ag_i35_8, ag_i35_9, ag_i35_10, ag_i35_13, ag_SH_g0, ag_SH_g1, ag_SH_g2, ag_SH_g3, ag_SH_g4, ag_SH_g5, ag_SH_g6, ag_SH_at0, ag_SH_at1, ag_SH_at2, ag_SH_at3, ag_SH_pt0, ag_SH_pt1, ag_SH_pt2, ag_SH_pt3, ag_SH_ck, ag_kk_v, ag_kk_n, Nat.reduceAdd]
theorem ag_H_castVote {p c x : Int} : ag_cl9 36 [ag_R a, ag_I p, ag_I c, ag_I x] (ag_SH σ a g v) K = K (Sum.inl (some (ag_I (ag_rd 100 (g 3) (p * 20 + c))))) (ag_SH σ a (ag_ug g 3 (ag_wr 100 (g 3) (p * 20 + c) x)) v) := by
  simp only [ag_e36, ag_i36_0, ag_i36_1, ag_i36_3, ag_i36_4, ag_i36_5, ag_i36_6_n, ag_i36_6_i, ag_i36_6_r, ag_i36_8, ag_i36_9, ag_i36_12, ag_i36_14, ag_i36_17_n, ag_i36_17_i, ag_i36_17_r, ag_i36_19, ag_i36_20, ag_i36_23, ag_i36_25, ag_i36_26, ag_i36_29, ag_i36_31, ag_SH_g0, ag_SH_g1, ag_SH_g2, ag_SH_g3, ag_SH_g4, ag_SH_g5, ag_SH_g6, ag_SH_at0, ag_SH_at1, ag_SH_at2, ag_SH_at3, ag_SH_pt0, ag_SH_pt1, ag_SH_pt2, ag_SH_pt3, ag_SH_ck, ag_kk_v, ag_kk_n, Nat.reduceAdd]
theorem ag_H_isSitting : ag_cl9 38 [ag_R a] (ag_SH σ a g v) K = K (Sum.inl (some (ag_I (if ag_nm (v 2) = -1 then 0 else 1)))) (ag_SH σ a g v) := by
  simp only [ag_e38, ag_i38_0, ag_i38_1, ag_i38_4, ag_i38_5, ag_i38_8, ag_i38_9, ag_i38_12, ag_i38_13, ag_SH_g0, ag_SH_g1, ag_SH_g2, ag_SH_g3, ag_SH_g4, ag_SH_g5, ag_SH_g6, ag_SH_at0, ag_SH_at1, ag_SH_at2, ag_SH_at3, ag_SH_pt0, ag_SH_pt1, ag_SH_pt2, ag_SH_pt3, ag_SH_ck, ag_kk_v, ag_kk_n, Nat.reduceAdd, ag_b0, ag_b1, true_and, or_true, true_or, Int.reduceEq, ne_eq, not_false_eq_true, not_true_eq_false, ↓reduceIte, ag_nm_m]
  by_cases h : ag_nm (v 2) = -1
  · simp [h]
  · simp [h]
theorem ag_H_hasTimeFor {p x : Int} : ag_cl9 40 [ag_R a, ag_I p, ag_I x] (ag_SH σ a g v) K = K (Sum.inl (some (ag_I (if ag_nm x ≤ ag_nm (v 2) ∧ ag_nm x ≤ ag_nm (ag_rd 5 (g 1) p) then 1 else 0)))) (ag_SH σ a g v) := by
  simp only [ag_e40, ag_i40_0, ag_i40_1, ag_i40_2, ag_i40_5, ag_i40_8, ag_i40_9, ag_i40_10, ag_i40_13, ag_i40_14, ag_i40_17, ag_i40_20, ag_i40_21, ag_i40_24, ag_i40_25, ag_SH_g0, ag_SH_g1, ag_SH_g2, ag_SH_g3, ag_SH_g4, ag_SH_g5, ag_SH_g6, ag_SH_at0, ag_SH_at1, ag_SH_at2, ag_SH_at3, ag_SH_pt0, ag_SH_pt1, ag_SH_pt2, ag_SH_pt3, ag_SH_ck, ag_kk_v, ag_kk_n, Nat.reduceAdd, ag_b0, ag_b1, true_and, or_true, true_or, Int.reduceEq, ne_eq, not_false_eq_true, not_true_eq_false, ↓reduceIte]
  by_cases h1 : ag_nm (v 2) < ag_nm x
  · rw [if_pos h1, if_neg (by omega)]
  · rw [if_neg h1]
    by_cases h2 : ag_nm (ag_rd 5 (g 1) p) < ag_nm x
    · rw [if_pos h2, if_neg (by omega)]
    · rw [if_neg h2, if_pos (by omega)]
theorem ag_H_spend {p x : Int} (ha : 1 ≤ a) : ag_cl9 41 [ag_R a, ag_I p, ag_I x] (ag_SH σ a g v) K = K (Sum.inl (some (ag_I (ag_rd 5 (ag_wr 5 (g 1) p (ag_rd 5 (g 1) p - x)) p)))) (ag_SH σ a (ag_ug (ag_ug g 2 (ag_wr 5 (g 2) p (ag_rd 5 (g 2) p + x))) 1 (ag_wr 5 (g 1) p (ag_rd 5 (g 1) p - x))) (ag_ui v 2 (v 2 - x))) := by
  simp only [ag_e41, ag_i41_0, ag_i41_1, ag_i41_2, ag_i41_5, ag_i41_6, ag_i41_7, ag_i41_10, ag_i41_11, ag_i41_14, ag_i41_15, ag_i41_16, ag_i41_19, ag_i41_20, ag_i41_23, ag_i41_24, ag_i41_25, ag_i41_28, ag_i41_29, ag_i41_32, ag_i41_33, ag_i41_34, ag_i41_37, ag_i41_38, ag_i41_41, ag_i41_42, ag_i41_43, ag_i41_46, ag_i41_47, ag_i41_50, ag_i41_51, ag_i41_54, ag_SH_g0, ag_SH_g1, ag_SH_g2, ag_SH_g3, ag_SH_g4, ag_SH_g5, ag_SH_g6, ag_SH_at0, ag_SH_at1, ag_SH_at2, ag_SH_at3, ag_SH_pt0, ag_SH_pt1, ag_SH_pt2, ag_SH_pt3, ag_SH_ck, ag_kk_v, ag_kk_n, Nat.reduceAdd, ag_ug_at, ag_ui_at, Nat.reduceEqDiff, ↓reduceIte, ag_SH_p6 _ ha]
def ag_vo (g : Nat → Nat → Int) (c x : Int) (i : Nat) : Int := if (i : Int) = x then 0 else ag_rd 100 (g 3) ((i : Int) * 20 + c)
def ag_cy (ay no al q : Int) : Int := if ag_nm ay ≤ ag_nm no then 0 else if ag_nm ((ay + no) * 100) < ag_nm (q * al) then 0 else 1
theorem ag_H_carries_loop {c x : Int} (hv : v 0 = n) (hn : n ≤ 5) (hs : ag_sm g) (hx : ag_nm x = x) : ∀ (k i : Nat) (s0 s1 s2 : Int) (y z : Option ag_V), i + k = n →
    ag_wp 37 11 [some (ag_R a), some (ag_I c), some (ag_I x), some (ag_I s0), some (ag_I s1), some (ag_I s2), some (ag_I i), y, z] [] (ag_SH σ a g v) K = K (Sum.inl (some (ag_I (ag_cy (s0 + ag_su (fun i => if ag_vo g c x i = 1 then g 0 i else 0) k i) (s1 + ag_su (fun i => if ag_vo g c x i = -1 then g 0 i else 0) k i) (s2 + ag_su (g 0) k i) (v 1))))) (ag_SH σ a g v) := by
  intro k
  induction k with
  | zero =>
    intro i s0 s1 s2 y z hi
    rw [ag_i37_11]
    simp only [ag_i37_13, ag_i37_14, ag_i37_17, ag_i37_95, ag_i37_96, ag_i37_98, ag_i37_101, ag_i37_102, ag_i37_104, ag_i37_105, ag_i37_107, ag_i37_108, ag_i37_109, ag_i37_112, ag_i37_114, ag_i37_115, ag_i37_118, ag_i37_119, ag_i37_122, ag_i37_123, ag_SH_g0, ag_SH_g1, ag_SH_g2, ag_SH_g3, ag_SH_g4, ag_SH_g5, ag_SH_g6, ag_SH_at0, ag_SH_at1, ag_SH_at2, ag_SH_at3, ag_SH_pt0, ag_SH_pt1, ag_SH_pt2, ag_SH_pt3, ag_SH_ck, ag_kk_v, ag_kk_n, Nat.reduceAdd, ag_b0, ag_b1, true_and, or_true, true_or, Int.reduceEq, ne_eq, not_false_eq_true, not_true_eq_false, ↓reduceIte, hv, ag_nm_nat (show i ≤ 1000000 by omega), ag_nm_nat (show n ≤ 1000000 by omega)]
    rw [if_pos (by omega)]
    simp only [ag_su, Int.add_zero]
    unfold ag_cy
    split
    · rfl
    · split <;> rfl
  | succ k ih =>
    intro i s0 s1 s2 y z hi
    rw [ag_i37_11]
    simp only [ag_i37_13, ag_i37_14, ag_i37_17, ag_i37_20, ag_i37_21, ag_i37_24, ag_i37_26, ag_i37_29_n, ag_i37_29_i, ag_i37_29_r, ag_i37_31, ag_i37_33, ag_i37_34, ag_i37_37, ag_i37_38, ag_i37_41, ag_i37_42, ag_i37_44, ag_i37_45, ag_i37_48_n, ag_i37_48_i, ag_i37_48_r, ag_SH_g0, ag_SH_g1, ag_SH_g2, ag_SH_g3, ag_SH_g4, ag_SH_g5, ag_SH_g6, ag_SH_at0, ag_SH_at1, ag_SH_at2, ag_SH_at3, ag_SH_pt0, ag_SH_pt1, ag_SH_pt2, ag_SH_pt3, ag_SH_ck, ag_kk_v, ag_kk_n, Nat.reduceAdd, hv, ag_nm_nat (show i ≤ 1000000 by omega), ag_nm_nat (show n ≤ 1000000 by omega), ag_H_voteOf, ag_rd_nat (show 5 ≤ 1000000 by decide) (show i < 5 by omega), hx]
    rw [if_neg (by omega)]
    have mm : ∀ z0 : Int, ag_nm z0 = z0 → ag_vo g c x i = z0 → ag_wp 37 50 [some (ag_R a), some (ag_I c), some (ag_I x), some (ag_I s0), some (ag_I s1), some (ag_I s2), some (ag_I i), some (ag_I (g 0 i)), some (ag_I z0)] [] (ag_SH σ a g v) K = K (Sum.inl (some (ag_I (ag_cy (s0 + ag_su (fun i => if ag_vo g c x i = 1 then g 0 i else 0) (k + 1) i) (s1 + ag_su (fun i => if ag_vo g c x i = -1 then g 0 i else 0) (k + 1) i) (s2 + ag_su (g 0) (k + 1) i) (v 1))))) (ag_SH σ a g v) := by
      intro z0 hz e
      simp only [ag_su, e, ← Int.add_assoc]
      have h1 := ih (i + 1) (s0 + (if z0 = 1 then g 0 i else 0)) (s1 + (if z0 = -1 then g 0 i else 0)) (s2 + g 0 i) (some (ag_I (g 0 i))) (some (ag_I z0)) (by omega)
      rw [← h1]
      simp only [ag_i37_50, ag_i37_51, ag_i37_53, ag_i37_54, ag_i37_57, ag_i37_59, ag_i37_62, ag_i37_63, ag_i37_64_n, ag_i37_64_i, ag_i37_64_r, ag_i37_65, ag_i37_67, ag_i37_69, ag_i37_70, ag_i37_73, ag_i37_75, ag_i37_78, ag_i37_79, ag_i37_80_n, ag_i37_80_i, ag_i37_80_r, ag_i37_82, ag_i37_84, ag_i37_86, ag_i37_87_n, ag_i37_87_i, ag_i37_87_r, ag_i37_89_n, ag_i37_89_i, ag_i37_89_r, ag_i37_92, ag_SH_g0, ag_SH_g1, ag_SH_g2, ag_SH_g3, ag_SH_g4, ag_SH_g5, ag_SH_g6, ag_SH_at0, ag_SH_at1, ag_SH_at2, ag_SH_at3, ag_SH_pt0, ag_SH_pt1, ag_SH_pt2, ag_SH_pt3, ag_SH_ck, ag_kk_v, ag_kk_n, Nat.reduceAdd, hz, ag_nm_1, ag_nm_m]
      by_cases hA : z0 = 1
      · subst hA
        simp
      · by_cases hB : z0 = -1
        · subst hB
          simp
        · simp [hA, hB]
    by_cases hix : (i : Int) = x
    · rw [if_neg (not_not_intro hix)]
      exact mm 0 ag_nm_z (by unfold ag_vo; rw [if_pos hix])
    · rw [if_pos hix]
      exact mm _ (ag_nm_rd hs _ _ _) (by unfold ag_vo; rw [if_neg hix])
theorem ag_H_carries {c x : Int} (hv : v 0 = n) (hn : n ≤ 5) (hs : ag_sm g) (hx : ag_nm x = x) :
    ag_cl9 37 [ag_R a, ag_I c, ag_I x] (ag_SH σ a g v) K = K (Sum.inl (some (ag_I (ag_cy (ag_su (fun i => if ag_vo g c x i = 1 then g 0 i else 0) n 0) (ag_su (fun i => if ag_vo g c x i = -1 then g 0 i else 0) n 0) (ag_su (g 0) n 0) (v 1))))) (ag_SH σ a g v) := by
  have h := ag_H_carries_loop σ (a := a) (g := g) (v := v) K (c := c) hv hn hs hx n 0 0 0 0 none none (by omega)
  simp only [Int.zero_add] at h
  rw [← h]
  simp only [ag_i37_0, ag_i37_1_n, ag_i37_1_i, ag_i37_1_r, ag_i37_2, ag_i37_3_n, ag_i37_3_i, ag_i37_3_r, ag_i37_5, ag_i37_6_n, ag_i37_6_i, ag_i37_6_r, ag_i37_8, ag_i37_9_n, ag_i37_9_i, ag_i37_9_r, ag_e37, ag_SH_g0, ag_SH_g1, ag_SH_g2, ag_SH_g3, ag_SH_g4, ag_SH_g5, ag_SH_g6, ag_SH_at0, ag_SH_at1, ag_SH_at2, ag_SH_at3, ag_SH_pt0, ag_SH_pt1, ag_SH_pt2, ag_SH_pt3, ag_SH_ck]
  rfl
def ag_dv (x y : Int) : Int := (Int32.ofInt x / Int32.ofInt y).toInt
/-- the shares, to place i -/
def ag_sha (g : Nat → Nat → Int) (q : Nat → Int) (x al : Int) (i : Nat) : Nat → Int := fun j => if j < i then (if 0 < al then ag_dv (x * g 0 j) al else 0) else q j
theorem ag_H_bS_loop {x al : Int} (hv : v 0 = n) (hn : n ≤ 5) (hal : ag_nm al = al) (q : Nat → Int) : ∀ (k i : Nat), i + k = n →
    ag_wp 39 12 [some (ag_R a), some (ag_I x), some (ag_I al), some (ag_I i)] [] (ag_SH σ a (ag_ug g 1 (ag_sha g q x al i)) v) K = K (Sum.inl none) (ag_SH σ a (ag_ug g 1 (ag_sha g q x al n)) v) := by
  intro k
  induction k with
  | zero =>
    intro i hi
    rw [ag_i39_12]
    simp only [ag_i39_0, ag_i39_1, ag_i39_4_n, ag_i39_4_i, ag_i39_4_r, ag_i39_5, ag_i39_6, ag_i39_7, ag_i39_10, ag_i39_11_n, ag_i39_11_i, ag_i39_11_r, ag_i39_13, ag_i39_14, ag_i39_17, ag_i39_20, ag_i39_21, ag_i39_24, ag_i39_25, ag_i39_26, ag_i39_29, ag_i39_30, ag_i39_31, ag_i39_34, ag_i39_35, ag_i39_38, ag_i39_39, ag_i39_40, ag_i39_41, ag_i39_44, ag_i39_45, ag_i39_48_n, ag_i39_48_i, ag_i39_48_r, ag_i39_51, ag_i39_54, ag_SH_g0, ag_SH_g1, ag_SH_g2, ag_SH_g3, ag_SH_g4, ag_SH_g5, ag_SH_g6, ag_SH_at0, ag_SH_at1, ag_SH_at2, ag_SH_at3, ag_SH_pt0, ag_SH_pt1, ag_SH_pt2, ag_SH_pt3, ag_SH_ck, ag_kk_v, ag_kk_n, Nat.reduceAdd, hv, ag_nm_nat (show i ≤ 1000000 by omega), ag_nm_nat (show n ≤ 1000000 by omega)]
    rw [if_pos (by omega), show i = n by omega]
  | succ k ih =>
    intro i hi
    rw [ag_i39_12, ← ih (i + 1) (by omega)]
    simp only [ag_i39_0, ag_i39_1, ag_i39_4_n, ag_i39_4_i, ag_i39_4_r, ag_i39_5, ag_i39_6, ag_i39_7, ag_i39_10, ag_i39_11_n, ag_i39_11_i, ag_i39_11_r, ag_i39_13, ag_i39_14, ag_i39_17, ag_i39_20, ag_i39_21, ag_i39_24, ag_i39_25, ag_i39_26, ag_i39_29, ag_i39_30, ag_i39_31, ag_i39_34, ag_i39_35, ag_i39_38, ag_i39_39, ag_i39_40, ag_i39_41, ag_i39_44, ag_i39_45, ag_i39_48_n, ag_i39_48_i, ag_i39_48_r, ag_i39_51, ag_i39_54, ag_SH_g0, ag_SH_g1, ag_SH_g2, ag_SH_g3, ag_SH_g4, ag_SH_g5, ag_SH_g6, ag_SH_at0, ag_SH_at1, ag_SH_at2, ag_SH_at3, ag_SH_pt0, ag_SH_pt1, ag_SH_pt2, ag_SH_pt3, ag_SH_ck, ag_kk_v, ag_kk_n, Nat.reduceAdd, ag_ug_at, ag_ui_at, Nat.reduceEqDiff, ↓reduceIte, ag_ug_2, hv, ag_nm_nat (show i ≤ 1000000 by omega), ag_nm_nat (show n ≤ 1000000 by omega), ag_rd_nat (show 5 ≤ 1000000 by decide) (show i < 5 by omega), hal, ag_nm_z]
    rw [if_neg (by omega)]
    have e : ∀ z : Int, (if 0 < al then ag_dv (x * g 0 i) al else 0) = z → ag_wr 5 (ag_sha g q x al i) i z = ag_sha g q x al (i + 1) := by
      intro z hz
      rw [ag_wr_nat _ (by decide) (by omega)]
      funext j
      unfold ag_ui ag_sha
      by_cases hj : j = i
      · subst hj
        rw [if_pos rfl, if_pos (show j < j + 1 by omega), hz]
      · rw [if_neg hj]
        by_cases h2 : j < i
        · rw [if_pos h2, if_pos (show j < i + 1 by omega)]
        · rw [if_neg h2, if_neg (show ¬ j < i + 1 by omega)]
    by_cases h : al ≤ 0
    · rw [if_pos h, e 0 (by rw [if_neg (by omega)])]
      rfl
    · rw [if_neg h, e _ (by rw [if_pos (by omega)]; rfl)]
      exact propext ⟨fun h2 => h2.2, fun h2 => ⟨by omega, h2⟩⟩
theorem ag_H_beginSitting {x : Int} (hv : v 0 = n) (hn : n ≤ 5) (ha : 1 ≤ a) (hal : ag_nm (ag_su (g 0) n 0) = ag_su (g 0) n 0) :
    ag_cl9 39 [ag_R a, ag_I x] (ag_SH σ a g v) K = K (Sum.inl none) (ag_SH σ a (ag_ug g 1 (ag_sha g (g 1) x (ag_su (g 0) n 0) n)) (ag_ui v 2 x)) := by
  have e0 : ag_sha g (g 1) x (ag_su (g 0) n 0) 0 = g 1 := by
    funext j
    unfold ag_sha
    rw [if_neg (by omega)]
  rw [← ag_H_bS_loop σ (a := a) (g := g) (v := ag_ui v 2 x) K (x := x) (by simp only [ag_ui_at, Nat.reduceEqDiff, ↓reduceIte, hv]) hn hal (g 1) n 0 (by omega), e0, ag_ug_self]
  simp only [ag_e39, ag_i39_0, ag_i39_1, ag_i39_4_n, ag_i39_4_i, ag_i39_4_r, ag_i39_5, ag_i39_6, ag_i39_7, ag_i39_10, ag_i39_11_n, ag_i39_11_i, ag_i39_11_r, ag_i39_13, ag_i39_14, ag_i39_17, ag_i39_20, ag_i39_21, ag_i39_24, ag_i39_25, ag_i39_26, ag_i39_29, ag_i39_30, ag_i39_31, ag_i39_34, ag_i39_35, ag_i39_38, ag_i39_39, ag_i39_40, ag_i39_41, ag_i39_44, ag_i39_45, ag_i39_48_n, ag_i39_48_i, ag_i39_48_r, ag_i39_51, ag_i39_54, ag_SH_g0, ag_SH_g1, ag_SH_g2, ag_SH_g3, ag_SH_g4, ag_SH_g5, ag_SH_g6, ag_SH_at0, ag_SH_at1, ag_SH_at2, ag_SH_at3, ag_SH_pt0, ag_SH_pt1, ag_SH_pt2, ag_SH_pt3, ag_SH_ck, ag_kk_v, ag_kk_n, Nat.reduceAdd, ag_H_allSeats _ _ hv hn, ag_SH_p6 _ ha]
  rfl
end AGH
