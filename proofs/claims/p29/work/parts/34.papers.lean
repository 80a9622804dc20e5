/-! THE PAPERS of the class: rows kind, target, other, state, mootBy, made. -/
/-- how many of k places from i on -/
def ag_ct (p : Nat → Bool) : Nat → Nat → Nat
  | 0, _ => 0
  | k + 1, i => (if p i = true then 1 else 0) + ag_ct p k (i + 1)
theorem ag_ct_le (p : Nat → Bool) : ∀ (k i : Nat), ag_ct p k i ≤ k := by
  intro k
  induction k with
  | zero => intro i; exact Nat.le_refl _
  | succ k ih =>
    intro i
    have := ih (i + 1)
    rw [ag_ct]
    split <;> omega
theorem ag_nm_g {g : Nat → Nat → Int} (hs : ag_sm g) (k i : Nat) : ag_nm (g k i) = g k i := by
  have := hs k i
  exact ag_nm_of (by omega) (by omega)
section AGP
variable (σ : ag_S) {a : Nat} {g : Nat → Nat → Int} {v : Nat → Int} {m : Nat} (K : ag_Rs → ag_S → Prop)
theorem ag_P_isFull (hv : v 0 = m) (hm : m ≤ 20) : ag_cl9 44 [ag_R a] (ag_SP σ a g v) K = K (Sum.inl (some (ag_I (if 20 ≤ m then 1 else 0)))) (ag_SP σ a g v) := by
  simp only [ag_e44, ag_i44_0, ag_i44_1, ag_i44_4, ag_i44_6, ag_i44_9, ag_i44_10, ag_i44_13, ag_i44_14, ag_SP_g0, ag_SP_g1, ag_SP_g2, ag_SP_g3, ag_SP_g4, ag_SP_g5, ag_SP_g6, ag_SP_at0, ag_SP_at1, ag_SP_at2, ag_SP_at3, ag_SP_at4, ag_SP_at5, ag_SP_pt0, ag_SP_pt1, ag_SP_pt2, ag_SP_pt3, ag_SP_pt4, ag_SP_pt5, ag_SP_ck, hv, ag_nm_nat (show m ≤ 1000000 by omega), ag_nm_of (show (-2147483648 : Int) ≤ 20 by decide) (by decide), ag_nm_z, ag_nm_1]
  by_cases h1 : 20 ≤ m
  · rw [if_pos h1, if_neg (by omega)]
    simp
  · rw [if_neg h1, if_pos (by omega)]
    simp
theorem ag_P_knows {c : Int} (hv : v 0 = m) (hm : m ≤ 20) : ag_cl9 45 [ag_R a, ag_I c] (ag_SP σ a g v) K = K (Sum.inl (some (ag_I (if 0 ≤ ag_nm c ∧ ag_nm c < m then 1 else 0)))) (ag_SP σ a g v) := by
  simp only [ag_e45, ag_i45_0, ag_i45_1, ag_i45_4, ag_i45_5, ag_i45_6, ag_i45_9, ag_i45_12, ag_i45_13, ag_i45_16, ag_i45_17, ag_SP_g0, ag_SP_g1, ag_SP_g2, ag_SP_g3, ag_SP_g4, ag_SP_g5, ag_SP_g6, ag_SP_at0, ag_SP_at1, ag_SP_at2, ag_SP_at3, ag_SP_at4, ag_SP_at5, ag_SP_pt0, ag_SP_pt1, ag_SP_pt2, ag_SP_pt3, ag_SP_pt4, ag_SP_pt5, ag_SP_ck, ag_kk_v, ag_kk_n, Nat.reduceAdd, hv, ag_nm_nat (show m ≤ 1000000 by omega), ag_nm_z, ag_nm_1]
  by_cases h1 : ag_nm c < 0
  · rw [if_pos h1, if_neg (by omega)]
    simp
  · rw [if_neg h1]
    by_cases h2 : (m : Int) ≤ ag_nm c
    · rw [if_pos h2, if_neg (by omega)]
      simp
    · rw [if_neg h2, if_pos (by omega)]
      simp
theorem ag_P_isLaid {c : Int} (hv : v 0 = m) (hm : m ≤ 20) (hs : ag_sm g) : ag_cl9 46 [ag_R a, ag_I c] (ag_SP σ a g v) K = K (Sum.inl (some (ag_I (if 0 ≤ ag_nm c ∧ ag_nm c < m ∧ ag_rd 20 (g 3) c = 0 then 1 else 0)))) (ag_SP σ a g v) := by
  simp only [ag_e46, ag_i46_0, ag_i46_1, ag_i46_4, ag_i46_5, ag_i46_6, ag_i46_9, ag_i46_12, ag_i46_13, ag_i46_16, ag_i46_17, ag_i46_20, ag_i46_23, ag_i46_24, ag_i46_27, ag_i46_28, ag_SP_g0, ag_SP_g1, ag_SP_g2, ag_SP_g3, ag_SP_g4, ag_SP_g5, ag_SP_g6, ag_SP_at0, ag_SP_at1, ag_SP_at2, ag_SP_at3, ag_SP_at4, ag_SP_at5, ag_SP_pt0, ag_SP_pt1, ag_SP_pt2, ag_SP_pt3, ag_SP_pt4, ag_SP_pt5, ag_SP_ck, ag_kk_v, ag_kk_n, Nat.reduceAdd, hv, ag_nm_nat (show m ≤ 1000000 by omega), ag_nm_z, ag_nm_1, ag_nm_rd hs]
  by_cases h1 : ag_nm c < 0
  · rw [if_pos h1, if_neg (by omega)]
    simp
  · rw [if_neg h1]
    by_cases h2 : (m : Int) ≤ ag_nm c
    · rw [if_pos h2, if_neg (by omega)]
      simp
    · rw [if_neg h2]
      by_cases h3 : ag_rd 20 (g 3) c = 0
      · rw [if_neg (by omega), if_pos (by omega)]
        simp
      · rw [if_pos (by omega), if_neg (by omega)]
        simp
theorem ag_P_hasText {c : Int} (hs : ag_sm g) : ag_cl9 47 [ag_R a, ag_I c] (ag_SP σ a g v) K = K (Sum.inl (some (ag_I (if 2 ≤ ag_rd 20 (g 0) c ∧ ag_rd 20 (g 0) c ≤ 4 then 1 else 0)))) (ag_SP σ a g v) := by
  simp only [ag_e47, ag_i47_0, ag_i47_1, ag_i47_4, ag_i47_5, ag_i47_8_n, ag_i47_8_i, ag_i47_8_r, ag_i47_9, ag_i47_10, ag_i47_11, ag_i47_14, ag_i47_15, ag_i47_16, ag_i47_19, ag_i47_20, ag_i47_23, ag_i47_24, ag_SP_g0, ag_SP_g1, ag_SP_g2, ag_SP_g3, ag_SP_g4, ag_SP_g5, ag_SP_g6, ag_SP_at0, ag_SP_at1, ag_SP_at2, ag_SP_at3, ag_SP_at4, ag_SP_at5, ag_SP_pt0, ag_SP_pt1, ag_SP_pt2, ag_SP_pt3, ag_SP_pt4, ag_SP_pt5, ag_SP_ck, ag_kk_v, ag_kk_n, Nat.reduceAdd, ag_nm_z, ag_nm_1, ag_nm_rd hs, ag_nm_of (show (-2147483648 : Int) ≤ 2 by decide) (by decide), ag_nm_of (show (-2147483648 : Int) ≤ 4 by decide) (by decide)]
  by_cases h1 : ag_rd 20 (g 0) c < 2
  · rw [if_pos h1, if_neg (by omega)]
    simp
  · rw [if_neg h1]
    by_cases h2 : 4 < ag_rd 20 (g 0) c
    · rw [if_pos h2, if_neg (by omega)]
      simp
    · rw [if_neg h2, if_pos (by omega)]
      simp
theorem ag_P_add {k t o : Int} (hv : v 0 = m) (hm : m < 20) (ha : 1 ≤ a) : ag_cl9 48 [ag_R a, ag_I k, ag_I t, ag_I o] (ag_SP σ a g v) K = K (Sum.inl (some (ag_I m))) (ag_SP σ a (ag_ug (ag_ug (ag_ug (ag_ug (ag_ug (ag_ug g 0 (ag_ui (g 0) m k)) 1 (ag_ui (g 1) m t)) 2 (ag_ui (g 2) m o)) 3 (ag_ui (g 3) m 0)) 4 (ag_ui (g 4) m (-1))) 5 (ag_ui (g 5) m (-1))) (ag_ui v 0 (m + 1))) := by
  simp only [ag_e48, ag_i48_0, ag_i48_1, ag_i48_4_n, ag_i48_4_i, ag_i48_4_r, ag_i48_6, ag_i48_7, ag_i48_8, ag_i48_11, ag_i48_12, ag_i48_13, ag_i48_16, ag_i48_17, ag_i48_20, ag_i48_22, ag_i48_23, ag_i48_26, ag_i48_27, ag_i48_30, ag_i48_32, ag_i48_33, ag_i48_36, ag_i48_37, ag_i48_40, ag_i48_42, ag_i48_43, ag_i48_46, ag_i48_47, ag_i48_50, ag_i48_52, ag_i48_53, ag_i48_56, ag_i48_57, ag_i48_60, ag_i48_62, ag_i48_63, ag_i48_66, ag_i48_67, ag_i48_70, ag_i48_72, ag_i48_73, ag_i48_76, ag_i48_78, ag_SP_g0, ag_SP_g1, ag_SP_g2, ag_SP_g3, ag_SP_g4, ag_SP_g5, ag_SP_g6, ag_SP_at0, ag_SP_at1, ag_SP_at2, ag_SP_at3, ag_SP_at4, ag_SP_at5, ag_SP_pt0, ag_SP_pt1, ag_SP_pt2, ag_SP_pt3, ag_SP_pt4, ag_SP_pt5, ag_SP_ck, ag_kk_v, ag_kk_n, Nat.reduceAdd, ag_ug_at, ag_ui_at, Nat.reduceEqDiff, ↓reduceIte, ag_SP_p6 _ ha, hv, ag_wr_nat _ (show 20 ≤ 1000000 by decide) hm]
theorem ag_P_fact {c : Int} {k : Nat} (hk : k ≤ 5) : ag_cl9 49 [ag_R a, ag_I c, ag_I k] (ag_SP σ a g v) K = K (Sum.inl (some (ag_I (ag_rd 20 (g k) c)))) (ag_SP σ a g v) := by
  have hk2 : k = 0 ∨ k = 1 ∨ k = 2 ∨ k = 3 ∨ k = 4 ∨ k = 5 := by omega
  rcases hk2 with rfl | rfl | rfl | rfl | rfl | rfl
  · simp only [ag_e49, ag_i49_0, ag_i49_36, ag_i49_37, ag_i49_40, ag_i49_41, ag_i49_44, ag_i49_45, ag_i49_46, ag_i49_49, ag_i49_50, ag_i49_53, ag_i49_54, ag_i49_55, ag_i49_58, ag_i49_59, ag_i49_62, ag_i49_63, ag_i49_64, ag_i49_67, ag_i49_68, ag_i49_71, ag_i49_72, ag_i49_73, ag_i49_76, ag_i49_77, ag_i49_80, ag_i49_81, ag_i49_82, ag_i49_85, ag_i49_86, ag_i49_89, ag_SP_g0, ag_SP_g1, ag_SP_g2, ag_SP_g3, ag_SP_g4, ag_SP_g5, ag_SP_g6, ag_SP_at0, ag_SP_at1, ag_SP_at2, ag_SP_at3, ag_SP_at4, ag_SP_at5, ag_SP_pt0, ag_SP_pt1, ag_SP_pt2, ag_SP_pt3, ag_SP_pt4, ag_SP_pt5, ag_SP_ck, ag_kk_v, ag_kk_n, Nat.reduceAdd, ag_i49_1_0 _ _ _ _ _ _ (show ag_nm ((0 : Nat) : Int) = 0 from ag_nm_nat (by decide))]
  · simp only [ag_e49, ag_i49_0, ag_i49_36, ag_i49_37, ag_i49_40, ag_i49_41, ag_i49_44, ag_i49_45, ag_i49_46, ag_i49_49, ag_i49_50, ag_i49_53, ag_i49_54, ag_i49_55, ag_i49_58, ag_i49_59, ag_i49_62, ag_i49_63, ag_i49_64, ag_i49_67, ag_i49_68, ag_i49_71, ag_i49_72, ag_i49_73, ag_i49_76, ag_i49_77, ag_i49_80, ag_i49_81, ag_i49_82, ag_i49_85, ag_i49_86, ag_i49_89, ag_SP_g0, ag_SP_g1, ag_SP_g2, ag_SP_g3, ag_SP_g4, ag_SP_g5, ag_SP_g6, ag_SP_at0, ag_SP_at1, ag_SP_at2, ag_SP_at3, ag_SP_at4, ag_SP_at5, ag_SP_pt0, ag_SP_pt1, ag_SP_pt2, ag_SP_pt3, ag_SP_pt4, ag_SP_pt5, ag_SP_ck, ag_kk_v, ag_kk_n, Nat.reduceAdd, ag_i49_1_1 _ _ _ _ _ _ (show ag_nm ((1 : Nat) : Int) = 1 from ag_nm_nat (by decide))]
  · simp only [ag_e49, ag_i49_0, ag_i49_36, ag_i49_37, ag_i49_40, ag_i49_41, ag_i49_44, ag_i49_45, ag_i49_46, ag_i49_49, ag_i49_50, ag_i49_53, ag_i49_54, ag_i49_55, ag_i49_58, ag_i49_59, ag_i49_62, ag_i49_63, ag_i49_64, ag_i49_67, ag_i49_68, ag_i49_71, ag_i49_72, ag_i49_73, ag_i49_76, ag_i49_77, ag_i49_80, ag_i49_81, ag_i49_82, ag_i49_85, ag_i49_86, ag_i49_89, ag_SP_g0, ag_SP_g1, ag_SP_g2, ag_SP_g3, ag_SP_g4, ag_SP_g5, ag_SP_g6, ag_SP_at0, ag_SP_at1, ag_SP_at2, ag_SP_at3, ag_SP_at4, ag_SP_at5, ag_SP_pt0, ag_SP_pt1, ag_SP_pt2, ag_SP_pt3, ag_SP_pt4, ag_SP_pt5, ag_SP_ck, ag_kk_v, ag_kk_n, Nat.reduceAdd, ag_i49_1_2 _ _ _ _ _ _ (show ag_nm ((2 : Nat) : Int) = 2 from ag_nm_nat (by decide))]
  · simp only [ag_e49, ag_i49_0, ag_i49_36, ag_i49_37, ag_i49_40, ag_i49_41, ag_i49_44, ag_i49_45, ag_i49_46, ag_i49_49, ag_i49_50, ag_i49_53, ag_i49_54, ag_i49_55, ag_i49_58, ag_i49_59, ag_i49_62, ag_i49_63, ag_i49_64, ag_i49_67, ag_i49_68, ag_i49_71, ag_i49_72, ag_i49_73, ag_i49_76, ag_i49_77, ag_i49_80, ag_i49_81, ag_i49_82, ag_i49_85, ag_i49_86, ag_i49_89, ag_SP_g0, ag_SP_g1, ag_SP_g2, ag_SP_g3, ag_SP_g4, ag_SP_g5, ag_SP_g6, ag_SP_at0, ag_SP_at1, ag_SP_at2, ag_SP_at3, ag_SP_at4, ag_SP_at5, ag_SP_pt0, ag_SP_pt1, ag_SP_pt2, ag_SP_pt3, ag_SP_pt4, ag_SP_pt5, ag_SP_ck, ag_kk_v, ag_kk_n, Nat.reduceAdd, ag_i49_1_3 _ _ _ _ _ _ (show ag_nm ((3 : Nat) : Int) = 3 from ag_nm_nat (by decide))]
  · simp only [ag_e49, ag_i49_0, ag_i49_36, ag_i49_37, ag_i49_40, ag_i49_41, ag_i49_44, ag_i49_45, ag_i49_46, ag_i49_49, ag_i49_50, ag_i49_53, ag_i49_54, ag_i49_55, ag_i49_58, ag_i49_59, ag_i49_62, ag_i49_63, ag_i49_64, ag_i49_67, ag_i49_68, ag_i49_71, ag_i49_72, ag_i49_73, ag_i49_76, ag_i49_77, ag_i49_80, ag_i49_81, ag_i49_82, ag_i49_85, ag_i49_86, ag_i49_89, ag_SP_g0, ag_SP_g1, ag_SP_g2, ag_SP_g3, ag_SP_g4, ag_SP_g5, ag_SP_g6, ag_SP_at0, ag_SP_at1, ag_SP_at2, ag_SP_at3, ag_SP_at4, ag_SP_at5, ag_SP_pt0, ag_SP_pt1, ag_SP_pt2, ag_SP_pt3, ag_SP_pt4, ag_SP_pt5, ag_SP_ck, ag_kk_v, ag_kk_n, Nat.reduceAdd, ag_i49_1_4 _ _ _ _ _ _ (show ag_nm ((4 : Nat) : Int) = 4 from ag_nm_nat (by decide))]
  · simp only [ag_e49, ag_i49_0, ag_i49_36, ag_i49_37, ag_i49_40, ag_i49_41, ag_i49_44, ag_i49_45, ag_i49_46, ag_i49_49, ag_i49_50, ag_i49_53, ag_i49_54, ag_i49_55, ag_i49_58, ag_i49_59, ag_i49_62, ag_i49_63, ag_i49_64, ag_i49_67, ag_i49_68, ag_i49_71, ag_i49_72, ag_i49_73, ag_i49_76, ag_i49_77, ag_i49_80, ag_i49_81, ag_i49_82, ag_i49_85, ag_i49_86, ag_i49_89, ag_SP_g0, ag_SP_g1, ag_SP_g2, ag_SP_g3, ag_SP_g4, ag_SP_g5, ag_SP_g6, ag_SP_at0, ag_SP_at1, ag_SP_at2, ag_SP_at3, ag_SP_at4, ag_SP_at5, ag_SP_pt0, ag_SP_pt1, ag_SP_pt2, ag_SP_pt3, ag_SP_pt4, ag_SP_pt5, ag_SP_ck, ag_kk_v, ag_kk_n, Nat.reduceAdd, ag_i49_1_d _ _ _ _ _ _ (show ag_nm ((5 : Nat) : Int) < 0 ∨ 4 < ag_nm ((5 : Nat) : Int) from by rw [ag_nm_nat (by decide)]; decide)]
theorem ag_P_countOf_loop {s : Int} (hv : v 0 = m) (hm : m ≤ 20) (hs : ag_sm g) (hc : ag_nm s = s) : ∀ (k i c : Nat), i + k = m →
    ag_wp 50 4 [some (ag_R a), some (ag_I s), some (ag_I c), some (ag_I i)] [] (ag_SP σ a g v) K = K (Sum.inl (some (ag_I ((c + ag_ct (fun i => decide (g 3 i = s)) k i : Nat) : Int)))) (ag_SP σ a g v) := by
  intro k
  induction k with
  | zero =>
    intro i c hi
    rw [ag_i50_4]
    simp only [ag_i50_0, ag_i50_1_n, ag_i50_1_i, ag_i50_1_r, ag_i50_2, ag_i50_3_n, ag_i50_3_i, ag_i50_3_r, ag_i50_5, ag_i50_6, ag_i50_9, ag_i50_12, ag_i50_13, ag_i50_16, ag_i50_17, ag_i50_20, ag_i50_21, ag_i50_24_n, ag_i50_24_i, ag_i50_24_r, ag_i50_27_n, ag_i50_27_i, ag_i50_27_r, ag_i50_30, ag_i50_33, ag_i50_34, ag_SP_g0, ag_SP_g1, ag_SP_g2, ag_SP_g3, ag_SP_g4, ag_SP_g5, ag_SP_g6, ag_SP_at0, ag_SP_at1, ag_SP_at2, ag_SP_at3, ag_SP_at4, ag_SP_at5, ag_SP_pt0, ag_SP_pt1, ag_SP_pt2, ag_SP_pt3, ag_SP_pt4, ag_SP_pt5, ag_SP_ck, ag_kk_v, ag_kk_n, Nat.reduceAdd, hv, ag_nm_nat (show i ≤ 1000000 by omega), ag_nm_nat (show m ≤ 1000000 by omega)]
    rw [if_pos (by omega), ag_ct, Nat.add_zero]
  | succ k ih =>
    intro i c hi
    rw [ag_i50_4]
    simp only [ag_i50_0, ag_i50_1_n, ag_i50_1_i, ag_i50_1_r, ag_i50_2, ag_i50_3_n, ag_i50_3_i, ag_i50_3_r, ag_i50_5, ag_i50_6, ag_i50_9, ag_i50_12, ag_i50_13, ag_i50_16, ag_i50_17, ag_i50_20, ag_i50_21, ag_i50_24_n, ag_i50_24_i, ag_i50_24_r, ag_i50_27_n, ag_i50_27_i, ag_i50_27_r, ag_i50_30, ag_i50_33, ag_i50_34, ag_SP_g0, ag_SP_g1, ag_SP_g2, ag_SP_g3, ag_SP_g4, ag_SP_g5, ag_SP_g6, ag_SP_at0, ag_SP_at1, ag_SP_at2, ag_SP_at3, ag_SP_at4, ag_SP_at5, ag_SP_pt0, ag_SP_pt1, ag_SP_pt2, ag_SP_pt3, ag_SP_pt4, ag_SP_pt5, ag_SP_ck, ag_kk_v, ag_kk_n, Nat.reduceAdd, hv, ag_nm_nat (show i ≤ 1000000 by omega), ag_nm_nat (show m ≤ 1000000 by omega), ag_nm_rd hs, hc]
    rw [if_neg (by omega), ag_ct, ag_rd_nat (by decide) (by omega)]
    by_cases hp : g 3 i = s
    · rw [if_neg (by simp [hp]), if_pos (by simp [hp]), show c + (1 + ag_ct (fun i => decide (g 3 i = s)) k (i + 1)) = (c + 1) + ag_ct (fun i => decide (g 3 i = s)) k (i + 1) by omega]
      exact ih (i + 1) (c + 1) (by omega)
    · rw [if_pos hp, if_neg (by simp [hp]), Nat.zero_add]
      exact ih (i + 1) c (by omega)
theorem ag_P_countOf {s : Int} (hv : v 0 = m) (hm : m ≤ 20) (hs : ag_sm g) (hc : ag_nm s = s) : ag_cl9 50 [ag_R a, ag_I s] (ag_SP σ a g v) K = K (Sum.inl (some (ag_I (ag_ct (fun i => decide (g 3 i = s)) m 0)))) (ag_SP σ a g v) := by
  have h := ag_P_countOf_loop σ (a := a) (g := g) K hv hm hs hc m 0 0 (by omega)
  rw [Nat.zero_add] at h
  rw [← h]
  simp only [ag_e50, ag_i50_0, ag_i50_1_n, ag_i50_1_i, ag_i50_1_r, ag_i50_2, ag_i50_3_n, ag_i50_3_i, ag_i50_3_r, ag_i50_5, ag_i50_6, ag_i50_9, ag_i50_12, ag_i50_13, ag_i50_16, ag_i50_17, ag_i50_20, ag_i50_21, ag_i50_24_n, ag_i50_24_i, ag_i50_24_r, ag_i50_27_n, ag_i50_27_i, ag_i50_27_r, ag_i50_30, ag_i50_33, ag_i50_34]
  rfl
theorem ag_P_fC_loop {c : Int} (hv : v 0 = m) (hm : m ≤ 20) (hs : ag_sm g) (hc : ag_nm c = c) : ∀ (k i : Nat), i + k = m →
    ag_wp 51 2 [some (ag_R a), some (ag_I c), some (ag_I i)] [] (ag_SP σ a g v) K = K (Sum.inl (some (ag_I (if ag_ff (fun i => decide (g 3 i = 0 ∧ g 0 i = 5 ∧ g 1 i = c)) k i < m then ((ag_ff (fun i => decide (g 3 i = 0 ∧ g 0 i = 5 ∧ g 1 i = c)) k i : Nat) : Int) else -1)))) (ag_SP σ a g v) := by
  intro k
  induction k with
  | zero =>
    intro i hi
    rw [ag_i51_2]
    simp only [ag_i51_0, ag_i51_1_n, ag_i51_1_i, ag_i51_1_r, ag_i51_3, ag_i51_4, ag_i51_7, ag_i51_10, ag_i51_11, ag_i51_14, ag_i51_15, ag_i51_18, ag_i51_21, ag_i51_22, ag_i51_25, ag_i51_26, ag_i51_29, ag_i51_30, ag_i51_33, ag_i51_34, ag_i51_37, ag_i51_38, ag_i51_41, ag_i51_42, ag_i51_45, ag_i51_46, ag_i51_47_n, ag_i51_47_i, ag_i51_47_r, ag_i51_50, ag_i51_53, ag_i51_54, ag_SP_g0, ag_SP_g1, ag_SP_g2, ag_SP_g3, ag_SP_g4, ag_SP_g5, ag_SP_g6, ag_SP_at0, ag_SP_at1, ag_SP_at2, ag_SP_at3, ag_SP_at4, ag_SP_at5, ag_SP_pt0, ag_SP_pt1, ag_SP_pt2, ag_SP_pt3, ag_SP_pt4, ag_SP_pt5, ag_SP_ck, ag_kk_v, ag_kk_n, Nat.reduceAdd, hv, ag_nm_nat (show i ≤ 1000000 by omega), ag_nm_nat (show m ≤ 1000000 by omega)]
    rw [if_pos (by omega), ag_ff, if_neg (by omega)]
  | succ k ih =>
    intro i hi
    rw [ag_i51_2]
    simp only [ag_i51_0, ag_i51_1_n, ag_i51_1_i, ag_i51_1_r, ag_i51_3, ag_i51_4, ag_i51_7, ag_i51_10, ag_i51_11, ag_i51_14, ag_i51_15, ag_i51_18, ag_i51_21, ag_i51_22, ag_i51_25, ag_i51_26, ag_i51_29, ag_i51_30, ag_i51_33, ag_i51_34, ag_i51_37, ag_i51_38, ag_i51_41, ag_i51_42, ag_i51_45, ag_i51_46, ag_i51_47_n, ag_i51_47_i, ag_i51_47_r, ag_i51_50, ag_i51_53, ag_i51_54, ag_SP_g0, ag_SP_g1, ag_SP_g2, ag_SP_g3, ag_SP_g4, ag_SP_g5, ag_SP_g6, ag_SP_at0, ag_SP_at1, ag_SP_at2, ag_SP_at3, ag_SP_at4, ag_SP_at5, ag_SP_pt0, ag_SP_pt1, ag_SP_pt2, ag_SP_pt3, ag_SP_pt4, ag_SP_pt5, ag_SP_ck, ag_kk_v, ag_kk_n, Nat.reduceAdd, hv, ag_nm_nat (show i ≤ 1000000 by omega), ag_nm_nat (show m ≤ 1000000 by omega), ag_nm_g hs, hc, ag_nm_z, ag_nm_of (show (-2147483648 : Int) ≤ 5 by decide) (by decide), ag_rd_nat (show 20 ≤ 1000000 by decide) (show i < 20 by omega)]
    rw [if_neg (by omega), ag_ff]
    have h0 := ih (i + 1) (by omega)
    by_cases h1 : g 3 i = 0
    · by_cases h2 : g 0 i = 5
      · by_cases h3 : g 1 i = c
        · simp only [h1, h2, h3, ne_eq, not_true_eq_false, not_false_eq_true, ↓reduceIte, and_self, and_true, and_false, false_and, true_and, decide_true, decide_false, Bool.false_eq_true, if_pos (show i < m by omega)]
        · simp only [h1, h2, h3, ne_eq, not_true_eq_false, not_false_eq_true, ↓reduceIte, and_self, and_true, and_false, false_and, true_and, decide_true, decide_false, Bool.false_eq_true]
          exact h0
      · simp only [h1, h2, ne_eq, not_true_eq_false, not_false_eq_true, ↓reduceIte, and_self, and_true, and_false, false_and, true_and, decide_true, decide_false, Bool.false_eq_true]
        exact h0
    · simp only [h1, ne_eq, not_true_eq_false, not_false_eq_true, ↓reduceIte, and_self, and_true, and_false, false_and, true_and, decide_true, decide_false, Bool.false_eq_true]
      exact h0
theorem ag_P_firstChangeOf {c : Int} (hv : v 0 = m) (hm : m ≤ 20) (hs : ag_sm g) (hc : ag_nm c = c) : ag_cl9 51 [ag_R a, ag_I c] (ag_SP σ a g v) K = K (Sum.inl (some (ag_I (if ag_ff (fun i => decide (g 3 i = 0 ∧ g 0 i = 5 ∧ g 1 i = c)) m 0 < m then ((ag_ff (fun i => decide (g 3 i = 0 ∧ g 0 i = 5 ∧ g 1 i = c)) m 0 : Nat) : Int) else -1)))) (ag_SP σ a g v) := by
  rw [← ag_P_fC_loop σ (a := a) K hv hm hs hc m 0 (by omega)]
  simp only [ag_e51, ag_i51_0, ag_i51_1_n, ag_i51_1_i, ag_i51_1_r, ag_i51_3, ag_i51_4, ag_i51_7, ag_i51_10, ag_i51_11, ag_i51_14, ag_i51_15, ag_i51_18, ag_i51_21, ag_i51_22, ag_i51_25, ag_i51_26, ag_i51_29, ag_i51_30, ag_i51_33, ag_i51_34, ag_i51_37, ag_i51_38, ag_i51_41, ag_i51_42, ag_i51_45, ag_i51_46, ag_i51_47_n, ag_i51_47_i, ag_i51_47_r, ag_i51_50, ag_i51_53, ag_i51_54]
  rfl
/-- state and mootBy, what was to change c moot by it, to place i -/
def ag_s3 (g : Nat → Nat → Int) (q : Nat → Int) (c : Int) (i : Nat) : Nat → Int := fun j => if j < i ∧ q j = 0 ∧ g 0 j = 5 ∧ g 1 j = c then 3 else q j
def ag_s4 (g : Nat → Nat → Int) (q b : Nat → Int) (c : Int) (i : Nat) : Nat → Int := fun j => if j < i ∧ q j = 0 ∧ g 0 j = 5 ∧ g 1 j = c then c else b j
theorem ag_ug_34 (g : Nat → Nat → Int) (x y x' y' : Nat → Int) : ag_ug (ag_ug (ag_ug (ag_ug g 3 x) 4 y) 3 x') 4 y' = ag_ug (ag_ug g 3 x') 4 y' := by
  funext j
  unfold ag_ug
  by_cases h4 : j = 4
  · rw [if_pos h4, if_pos h4]
  · rw [if_neg h4, if_neg h4]
    by_cases h3 : j = 3
    · rw [if_pos h3, if_neg h4, if_pos h3]
    · rw [if_neg h3, if_neg h3, if_neg h4, if_neg h3]
theorem ag_P_settle_loop {c s y : Int} (hv : v 0 = m) (hm : m ≤ 20) (ha : 1 ≤ a) (hs : ag_sm g) (hc : ag_nm c = c) (q b : Nat → Int) (hq : ∀ j, ag_nm (q j) = q j) : ∀ (k i : Nat), i + k = m →
    ag_wp 52 21 [some (ag_R a), some (ag_I c), some (ag_I s), some (ag_I y), some (ag_I i)] [] (ag_SP σ a (ag_ug (ag_ug g 3 (ag_s3 g q c i)) 4 (ag_s4 g q b c i)) v) K = K (Sum.inl none) (ag_SP σ a (ag_ug (ag_ug g 3 (ag_s3 g q c m)) 4 (ag_s4 g q b c m)) v) := by
  intro k
  induction k with
  | zero =>
    intro i hi
    rw [ag_i52_21]
    simp only [ag_i52_0, ag_i52_1, ag_i52_4, ag_i52_5, ag_i52_6, ag_i52_9, ag_i52_10, ag_i52_13, ag_i52_14, ag_i52_15, ag_i52_18, ag_i52_19_n, ag_i52_19_i, ag_i52_19_r, ag_i52_23, ag_i52_24, ag_i52_27, ag_i52_30, ag_i52_31, ag_i52_34, ag_i52_36, ag_i52_39, ag_i52_42, ag_i52_43, ag_i52_46, ag_i52_48, ag_i52_51, ag_i52_52, ag_i52_55, ag_i52_56, ag_i52_59, ag_i52_61, ag_i52_64, ag_i52_65, ag_i52_68, ag_i52_69, ag_i52_72, ag_i52_74, ag_i52_75, ag_i52_78, ag_i52_79, ag_i52_82, ag_i52_84, ag_i52_85, ag_i52_88_n, ag_i52_88_i, ag_i52_88_r, ag_i52_91, ag_i52_94, ag_SP_g0, ag_SP_g1, ag_SP_g2, ag_SP_g3, ag_SP_g4, ag_SP_g5, ag_SP_g6, ag_SP_at0, ag_SP_at1, ag_SP_at2, ag_SP_at3, ag_SP_at4, ag_SP_at5, ag_SP_pt0, ag_SP_pt1, ag_SP_pt2, ag_SP_pt3, ag_SP_pt4, ag_SP_pt5, ag_SP_ck, ag_kk_v, ag_kk_n, Nat.reduceAdd, hv, ag_nm_nat (show i ≤ 1000000 by omega), ag_nm_nat (show m ≤ 1000000 by omega)]
    rw [if_pos (by omega), show i = m by omega]
  | succ k ih =>
    intro i hi
    have e0 : ag_s3 g q c i i = q i := by
      unfold ag_s3
      rw [if_neg (by omega)]
    rw [ag_i52_21]
    simp only [ag_i52_0, ag_i52_1, ag_i52_4, ag_i52_5, ag_i52_6, ag_i52_9, ag_i52_10, ag_i52_13, ag_i52_14, ag_i52_15, ag_i52_18, ag_i52_19_n, ag_i52_19_i, ag_i52_19_r, ag_i52_23, ag_i52_24, ag_i52_27, ag_i52_30, ag_i52_31, ag_i52_34, ag_i52_36, ag_i52_39, ag_i52_42, ag_i52_43, ag_i52_46, ag_i52_48, ag_i52_51, ag_i52_52, ag_i52_55, ag_i52_56, ag_i52_59, ag_i52_61, ag_i52_64, ag_i52_65, ag_i52_68, ag_i52_69, ag_i52_72, ag_i52_74, ag_i52_75, ag_i52_78, ag_i52_79, ag_i52_82, ag_i52_84, ag_i52_85, ag_i52_88_n, ag_i52_88_i, ag_i52_88_r, ag_i52_91, ag_i52_94, ag_SP_g0, ag_SP_g1, ag_SP_g2, ag_SP_g3, ag_SP_g4, ag_SP_g5, ag_SP_g6, ag_SP_at0, ag_SP_at1, ag_SP_at2, ag_SP_at3, ag_SP_at4, ag_SP_at5, ag_SP_pt0, ag_SP_pt1, ag_SP_pt2, ag_SP_pt3, ag_SP_pt4, ag_SP_pt5, ag_SP_ck, ag_kk_v, ag_kk_n, Nat.reduceAdd, ag_ug_at, ag_ui_at, Nat.reduceEqDiff, ↓reduceIte, hv, ag_nm_nat (show i ≤ 1000000 by omega), ag_nm_nat (show m ≤ 1000000 by omega), ag_nm_g hs, hc, ag_nm_z, ag_nm_of (show (-2147483648 : Int) ≤ 5 by decide) (by decide), ag_rd_nat (show 20 ≤ 1000000 by decide) (show i < 20 by omega), e0, hq]
    rw [if_neg (by omega)]
    have h1 := ih (i + 1) (by omega)
    have e1 : ¬ (q i = 0 ∧ g 0 i = 5 ∧ g 1 i = c) → ag_s3 g q c (i + 1) = ag_s3 g q c i ∧ ag_s4 g q b c (i + 1) = ag_s4 g q b c i := by
      intro hp
      constructor <;>
      · funext j
        simp only [ag_s3, ag_s4]
        by_cases hj : j = i
        · subst hj
          rw [if_neg (fun h => hp h.2), if_neg (fun h => hp h.2)]
        · by_cases h2 : j < i
          · simp only [h2, show j < i + 1 by omega]
          · simp only [h2, show ¬ j < i + 1 by omega]
    by_cases hp : q i = 0 ∧ g 0 i = 5 ∧ g 1 i = c
    · simp only [hp.1, hp.2.1, hp.2.2, ne_eq, not_true_eq_false, not_false_eq_true, ↓reduceIte, and_self, and_true, and_false, false_and, true_and, decide_true, decide_false, Bool.false_eq_true]
      have e2 : ag_wr 20 (ag_s3 g q c i) i 3 = ag_s3 g q c (i + 1) ∧ ag_wr 20 (ag_s4 g q b c i) i c = ag_s4 g q b c (i + 1) := by
        rw [ag_wr_nat _ (by decide) (by omega), ag_wr_nat _ (by decide) (by omega)]
        constructor <;>
        · funext j
          simp only [ag_s3, ag_s4, ag_ui]
          by_cases hj : j = i
          · subst hj
            rw [if_pos rfl, if_pos ⟨by omega, hp⟩]
          · rw [if_neg hj]
            by_cases h2 : j < i
            · simp only [h2, show j < i + 1 by omega]
            · simp only [h2, show ¬ j < i + 1 by omega]
      rw [ag_ug_34, e2.1, e2.2]
      exact h1
    · rw [(e1 hp).1, (e1 hp).2] at h1
      by_cases h2 : q i = 0
      · by_cases h3 : g 0 i = 5
        · by_cases h4 : g 1 i = c
          · exact absurd ⟨h2, h3, h4⟩ hp
          · simp only [h2, h3, h4, ne_eq, not_true_eq_false, not_false_eq_true, ↓reduceIte, and_self, and_true, and_false, false_and, true_and, decide_true, decide_false, Bool.false_eq_true]
            exact h1
        · simp only [h2, h3, ne_eq, not_true_eq_false, not_false_eq_true, ↓reduceIte, and_self, and_true, and_false, false_and, true_and, decide_true, decide_false, Bool.false_eq_true]
          exact h1
      · simp only [h2, ne_eq, not_true_eq_false, not_false_eq_true, ↓reduceIte, and_self, and_true, and_false, false_and, true_and, decide_true, decide_false, Bool.false_eq_true]
        exact h1
theorem ag_P_settle {c s y : Int} (hv : v 0 = m) (hm : m ≤ 20) (ha : 1 ≤ a) (hs : ag_sm g) (hc : ag_nm c = c) (hn : ag_nm s = s) : ag_cl9 52 [ag_R a, ag_I c, ag_I s, ag_I y] (ag_SP σ a g v) K = K (Sum.inl none) (ag_SP σ a (ag_ug (ag_ug g 3 (ag_s3 g (ag_wr 20 (g 3) c s) c m)) 4 (ag_s4 g (ag_wr 20 (g 3) c s) (ag_wr 20 (g 4) c y) c m)) v) := by
  have hq : ∀ j, ag_nm (ag_wr 20 (g 3) c s j) = ag_wr 20 (g 3) c s j := by
    intro j
    unfold ag_wr
    split
    · unfold ag_ui
      split
      · exact hn
      · exact ag_nm_g hs _ _
    · exact ag_nm_g hs _ _
  have e0 : ag_s3 g (ag_wr 20 (g 3) c s) c 0 = ag_wr 20 (g 3) c s ∧ ag_s4 g (ag_wr 20 (g 3) c s) (ag_wr 20 (g 4) c y) c 0 = ag_wr 20 (g 4) c y := by
    constructor <;>
    · funext j
      simp only [ag_s3, ag_s4]
      rw [if_neg (by omega)]
  rw [← ag_P_settle_loop σ (a := a) (s := s) (y := y) K hv hm ha hs hc (ag_wr 20 (g 3) c s) (ag_wr 20 (g 4) c y) hq m 0 (by omega), e0.1, e0.2]
  simp only [ag_e52, ag_i52_0, ag_i52_1, ag_i52_4, ag_i52_5, ag_i52_6, ag_i52_9, ag_i52_10, ag_i52_13, ag_i52_14, ag_i52_15, ag_i52_18, ag_i52_19_n, ag_i52_19_i, ag_i52_19_r, ag_i52_23, ag_i52_24, ag_i52_27, ag_i52_30, ag_i52_31, ag_i52_34, ag_i52_36, ag_i52_39, ag_i52_42, ag_i52_43, ag_i52_46, ag_i52_48, ag_i52_51, ag_i52_52, ag_i52_55, ag_i52_56, ag_i52_59, ag_i52_61, ag_i52_64, ag_i52_65, ag_i52_68, ag_i52_69, ag_i52_72, ag_i52_74, ag_i52_75, ag_i52_78, ag_i52_79, ag_i52_82, ag_i52_84, ag_i52_85, ag_i52_88_n, ag_i52_88_i, ag_i52_88_r, ag_i52_91, ag_i52_94, ag_SP_g0, ag_SP_g1, ag_SP_g2, ag_SP_g3, ag_SP_g4, ag_SP_g5, ag_SP_g6, ag_SP_at0, ag_SP_at1, ag_SP_at2, ag_SP_at3, ag_SP_at4, ag_SP_at5, ag_SP_pt0, ag_SP_pt1, ag_SP_pt2, ag_SP_pt3, ag_SP_pt4, ag_SP_pt5, ag_SP_ck, ag_kk_v, ag_kk_n, Nat.reduceAdd, ag_ug_at, ag_ui_at, Nat.reduceEqDiff, ↓reduceIte]
  rfl
end AGP
