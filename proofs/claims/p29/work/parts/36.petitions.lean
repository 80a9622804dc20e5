/-! THE PETITIONS: rows clauses, signatures; the number count. -/
section AGQ
variable (σ : ag_S) {a : Nat} {g : Nat → Nat → Int} {v : Nat → Int} {n : Nat} (K : ag_Rs → ag_S → Prop)
theorem ag_Q_add {c s : Int} (hv : v 0 = n) (hn : n < 12) (ha : 1 ≤ a) : ag_cl9 54 [ag_R a, ag_I c, ag_I s] (ag_SQ σ a g v) K = K (Sum.inl (some (ag_I n))) (ag_SQ σ a (ag_ug (ag_ug g 0 (ag_ui (g 0) n c)) 1 (ag_ui (g 1) n s)) (ag_ui v 0 (n + 1))) := by
  simp only [ag_e54, ag_i54_0, ag_i54_1, ag_i54_4_n, ag_i54_4_i, ag_i54_4_r, ag_i54_5, ag_i54_6, ag_i54_7, ag_i54_10, ag_i54_11, ag_i54_12, ag_i54_15, ag_i54_16, ag_i54_19, ag_i54_20, ag_i54_21, ag_i54_24, ag_i54_25, ag_i54_28, ag_i54_29, ag_i54_30, ag_i54_33, ag_i54_34, ag_SQ_g0, ag_SQ_g1, ag_SQ_g2, ag_SQ_at0, ag_SQ_at1, ag_SQ_pt0, ag_SQ_pt1, ag_SQ_ck, ag_kk_v, ag_kk_n, Nat.reduceAdd, ag_ug_at, ag_ui_at, Nat.reduceEqDiff, ↓reduceIte, ag_SQ_p2 _ ha, hv, ag_wr_nat _ (show 12 ≤ 1000000 by decide) hn]
theorem ag_Q_tiedTo_loop {s : Int} (hv : v 0 = n) (hn : n ≤ 12) (hs : ag_sm g) (hc : ag_nm s = s) : ∀ (k i c : Nat), i + k = n →
    ag_wp 55 4 [some (ag_R a), some (ag_I s), some (ag_I c), some (ag_I i)] [] (ag_SQ σ a g v) K = K (Sum.inl (some (ag_I ((c + ag_ct (fun i => decide (g 0 i = s)) k i : Nat) : Int)))) (ag_SQ σ a g v) := by
  intro k
  induction k with
  | zero =>
    intro i c hi
    rw [ag_i55_4]
    simp only [ag_i55_0, ag_i55_1_n, ag_i55_1_i, ag_i55_1_r, ag_i55_2, ag_i55_3_n, ag_i55_3_i, ag_i55_3_r, ag_i55_5, ag_i55_6, ag_i55_9, ag_i55_12, ag_i55_13, ag_i55_16, ag_i55_17, ag_i55_20, ag_i55_21, ag_i55_24_n, ag_i55_24_i, ag_i55_24_r, ag_i55_27_n, ag_i55_27_i, ag_i55_27_r, ag_i55_30, ag_i55_33, ag_i55_34, ag_SQ_g0, ag_SQ_g1, ag_SQ_g2, ag_SQ_at0, ag_SQ_at1, ag_SQ_pt0, ag_SQ_pt1, ag_SQ_ck, ag_kk_v, ag_kk_n, Nat.reduceAdd, hv, ag_nm_nat (show i ≤ 1000000 by omega), ag_nm_nat (show n ≤ 1000000 by omega)]
    rw [if_pos (by omega), ag_ct, Nat.add_zero]
  | succ k ih =>
    intro i c hi
    rw [ag_i55_4]
    simp only [ag_i55_0, ag_i55_1_n, ag_i55_1_i, ag_i55_1_r, ag_i55_2, ag_i55_3_n, ag_i55_3_i, ag_i55_3_r, ag_i55_5, ag_i55_6, ag_i55_9, ag_i55_12, ag_i55_13, ag_i55_16, ag_i55_17, ag_i55_20, ag_i55_21, ag_i55_24_n, ag_i55_24_i, ag_i55_24_r, ag_i55_27_n, ag_i55_27_i, ag_i55_27_r, ag_i55_30, ag_i55_33, ag_i55_34, ag_SQ_g0, ag_SQ_g1, ag_SQ_g2, ag_SQ_at0, ag_SQ_at1, ag_SQ_pt0, ag_SQ_pt1, ag_SQ_ck, ag_kk_v, ag_kk_n, Nat.reduceAdd, hv, ag_nm_nat (show i ≤ 1000000 by omega), ag_nm_nat (show n ≤ 1000000 by omega), ag_nm_g hs, hc, ag_rd_nat (show 12 ≤ 1000000 by decide) (show i < 12 by omega)]
    rw [if_neg (by omega), ag_ct]
    by_cases hp : g 0 i = s
    · rw [if_neg (by simp [hp]), if_pos (by simp [hp]), show c + (1 + ag_ct (fun i => decide (g 0 i = s)) k (i + 1)) = (c + 1) + ag_ct (fun i => decide (g 0 i = s)) k (i + 1) by omega]
      exact ih (i + 1) (c + 1) (by omega)
    · rw [if_pos hp, if_neg (by simp [hp]), Nat.zero_add]
      exact ih (i + 1) c (by omega)
theorem ag_Q_tiedTo {s : Int} (hv : v 0 = n) (hn : n ≤ 12) (hs : ag_sm g) (hc : ag_nm s = s) : ag_cl9 55 [ag_R a, ag_I s] (ag_SQ σ a g v) K = K (Sum.inl (some (ag_I (ag_ct (fun i => decide (g 0 i = s)) n 0)))) (ag_SQ σ a g v) := by
  have h := ag_Q_tiedTo_loop σ (a := a) (g := g) K hv hn hs hc n 0 0 (by omega)
  rw [Nat.zero_add] at h
  rw [← h]
  simp only [ag_e55, ag_i55_0, ag_i55_1_n, ag_i55_1_i, ag_i55_1_r, ag_i55_2, ag_i55_3_n, ag_i55_3_i, ag_i55_3_r, ag_i55_5, ag_i55_6, ag_i55_9, ag_i55_12, ag_i55_13, ag_i55_16, ag_i55_17, ag_i55_20, ag_i55_21, ag_i55_24_n, ag_i55_24_i, ag_i55_24_r, ag_i55_27_n, ag_i55_27_i, ag_i55_27_r, ag_i55_30, ag_i55_33, ag_i55_34]
  rfl
theorem ag_Q_sF_loop {s : Int} (hv : v 0 = n) (hn : n ≤ 12) (hs : ag_sm g) (hc : ag_nm s = s) : ∀ (k i : Nat) (c : Int), i + k = n →
    ag_wp 56 4 [some (ag_R a), some (ag_I s), some (ag_I c), some (ag_I i)] [] (ag_SQ σ a g v) K = K (Sum.inl (some (ag_I (c + ag_su (fun i => if g 0 i = s then g 1 i else 0) k i)))) (ag_SQ σ a g v) := by
  intro k
  induction k with
  | zero =>
    intro i c hi
    rw [ag_i56_4]
    simp only [ag_i56_0, ag_i56_1_n, ag_i56_1_i, ag_i56_1_r, ag_i56_2, ag_i56_3_n, ag_i56_3_i, ag_i56_3_r, ag_i56_5, ag_i56_6, ag_i56_9, ag_i56_12, ag_i56_13, ag_i56_16, ag_i56_17, ag_i56_20, ag_i56_21, ag_i56_24, ag_i56_25, ag_i56_26, ag_i56_29, ag_i56_30, ag_i56_33, ag_i56_34_n, ag_i56_34_i, ag_i56_34_r, ag_i56_35_n, ag_i56_35_i, ag_i56_35_r, ag_i56_38, ag_i56_41, ag_i56_42, ag_SQ_g0, ag_SQ_g1, ag_SQ_g2, ag_SQ_at0, ag_SQ_at1, ag_SQ_pt0, ag_SQ_pt1, ag_SQ_ck, ag_kk_v, ag_kk_n, Nat.reduceAdd, hv, ag_nm_nat (show i ≤ 1000000 by omega), ag_nm_nat (show n ≤ 1000000 by omega)]
    rw [if_pos (by omega), ag_su, Int.add_zero]
  | succ k ih =>
    intro i c hi
    rw [ag_i56_4]
    simp only [ag_i56_0, ag_i56_1_n, ag_i56_1_i, ag_i56_1_r, ag_i56_2, ag_i56_3_n, ag_i56_3_i, ag_i56_3_r, ag_i56_5, ag_i56_6, ag_i56_9, ag_i56_12, ag_i56_13, ag_i56_16, ag_i56_17, ag_i56_20, ag_i56_21, ag_i56_24, ag_i56_25, ag_i56_26, ag_i56_29, ag_i56_30, ag_i56_33, ag_i56_34_n, ag_i56_34_i, ag_i56_34_r, ag_i56_35_n, ag_i56_35_i, ag_i56_35_r, ag_i56_38, ag_i56_41, ag_i56_42, ag_SQ_g0, ag_SQ_g1, ag_SQ_g2, ag_SQ_at0, ag_SQ_at1, ag_SQ_pt0, ag_SQ_pt1, ag_SQ_ck, ag_kk_v, ag_kk_n, Nat.reduceAdd, hv, ag_nm_nat (show i ≤ 1000000 by omega), ag_nm_nat (show n ≤ 1000000 by omega), ag_nm_g hs, hc, ag_rd_nat (show 12 ≤ 1000000 by decide) (show i < 12 by omega)]
    rw [if_neg (by omega), ag_su, ← Int.add_assoc]
    by_cases hp : g 0 i = s
    · rw [if_neg (not_not_intro hp), if_pos hp]
      exact ih (i + 1) _ (by omega)
    · rw [if_pos hp, if_neg hp, Int.add_zero]
      exact ih (i + 1) c (by omega)
theorem ag_Q_signaturesFor {s : Int} (hv : v 0 = n) (hn : n ≤ 12) (hs : ag_sm g) (hc : ag_nm s = s) : ag_cl9 56 [ag_R a, ag_I s] (ag_SQ σ a g v) K = K (Sum.inl (some (ag_I (ag_su (fun i => if g 0 i = s then g 1 i else 0) n 0)))) (ag_SQ σ a g v) := by
  have h := ag_Q_sF_loop σ (a := a) (g := g) K hv hn hs hc n 0 0 (by omega)
  rw [Int.zero_add] at h
  rw [← h]
  simp only [ag_e56, ag_i56_0, ag_i56_1_n, ag_i56_1_i, ag_i56_1_r, ag_i56_2, ag_i56_3_n, ag_i56_3_i, ag_i56_3_r, ag_i56_5, ag_i56_6, ag_i56_9, ag_i56_12, ag_i56_13, ag_i56_16, ag_i56_17, ag_i56_20, ag_i56_21, ag_i56_24, ag_i56_25, ag_i56_26, ag_i56_29, ag_i56_30, ag_i56_33, ag_i56_34_n, ag_i56_34_i, ag_i56_34_r, ag_i56_35_n, ag_i56_35_i, ag_i56_35_r, ag_i56_38, ag_i56_41, ag_i56_42]
  rfl
end AGQ
