/-! THE PETITIONS leave what is struck. -/
variable {B : Nat}
def ag_up4 (g : Nat → Nat → Int) (w : Nat) : Nat → Int → Int
  | 0, t => t
  | k + 1, t => if t = -1 ∨ (0 ≤ t ∧ t < w ∧ ag_rd 40 (g 5) t ≠ -1) then t else ag_up4 g w k (ag_rd 40 (g 1) t)
def ag_lvs (g : Nat → Nat → Int) (w : Nat) (r : Nat → Int) (i : Nat) : Nat → Int := fun j => if j < i then ag_up4 g w 4 (r j) else r j
section AGV
variable (σ : ag_S) {a q : Nat} {gb : Nat → Nat → Int} {vb : Nat → Int} {gq : Nat → Nat → Int} {vq : Nat → Int} {w n : Nat} (K : ag_Rs → ag_S → Prop)
theorem ag_V_holds {t : Int} (hd : a + 8 < q ∨ q + 2 < a) (hv : vb 0 = w) (hs : ag_sm gb) (hw : w ≤ 40) (K : ag_Rs → ag_S → Prop) : ag_cl9 7 [ag_R a, ag_I t] (ag_SQ (ag_SB σ a gb vb) q gq vq) K = K (Sum.inl (some (ag_I (if 0 ≤ ag_nm t ∧ ag_nm t < w ∧ ag_rd 40 (gb 5) t ≠ -1 then 1 else 0)))) (ag_SQ (ag_SB σ a gb vb) q gq vq) := by
  rw [← ag_SBQ σ gb gq vb vq hd]
  exact ag_B_holds _ K hv hs (by omega)
theorem ag_V_g1 (hd : a + 8 < q ∨ q + 2 < a) (K : ag_V → Prop) : ag_gf (ag_SQ (ag_SB σ a gb vb) q gq vq) a 0 1 K = K (ag_R (a + 2)) := by
  rw [← ag_SBQ σ gb gq vb vq hd]
  exact ag_SB_g1 _ _ gb vb K
theorem ag_V_at1 {t : Int} (hd : a + 8 < q ∨ q + 2 < a) (K : ag_Rs → ag_S → Prop) : ag_cl9 92 [ag_R (a + 2), ag_I t] (ag_SQ (ag_SB σ a gb vb) q gq vq) K = K (Sum.inl (some (ag_I (ag_rd 40 (gb 1) t)))) (ag_SQ (ag_SB σ a gb vb) q gq vq) := by
  rw [← ag_SBQ σ gb gq vb vq hd]
  exact ag_SB_at1 _ _ gb vb t K
theorem ag_V_ck (hd : a + 8 < q ∨ q + 2 < a) (P : Prop) : ag_ck (ag_SQ (ag_SB σ a gb vb) q gq vq) a 0 P = P := by
  rw [← ag_SBQ σ gb gq vb vq hd]
  exact ag_SB_ck _ _ gb vb P
theorem ag_V_in {p : Nat} (hd : a + 8 < q ∨ q + 2 < a) (hv : vb 0 = w) (hs : ag_sm gb) (hw : w ≤ 40) : ∀ (k i : Nat) (t : Int), ag_nm t = t → i + k = 4 →
    ∃ i' : Option ag_V, ag_wp 57 22 [some (ag_R q), some (ag_R a), some (ag_I p), some (ag_I t), some (ag_I i)] [] (ag_SQ (ag_SB σ a gb vb) q gq vq) K = ag_wp 57 56 [some (ag_R q), some (ag_R a), some (ag_I p), some (ag_I (ag_up4 gb w k t)), i'] [] (ag_SQ (ag_SB σ a gb vb) q gq vq) K := by
  intro k
  induction k with
  | zero =>
    intro i t ht hi
    refine ⟨some (ag_I i), ?_⟩
    rw [ag_i57_22]
    simp only [ag_i57_24, ag_i57_25, ag_nm_nat (show i ≤ 1000000 by omega), ag_nm_3]
    rw [if_pos (by omega), ag_up4]
  | succ k ih =>
    intro i t ht hi
    have hh := fun K => ag_V_holds σ (gq := gq) (vq := vq) (t := t) hd hv hs hw K
    by_cases h : t = -1 ∨ (0 ≤ t ∧ t < w ∧ ag_rd 40 (gb 5) t ≠ -1)
    · refine ⟨some (ag_I i), ?_⟩
      rw [ag_up4, if_pos h, ag_i57_22]
      simp only [ag_i57_24, ag_i57_25, ag_i57_28, ag_i57_29, ag_i57_30, ag_i57_33, ag_i57_34, ag_i57_35, ag_i57_38, ag_kk_v, ag_kk_n, Nat.reduceAdd, hh, ag_V_ck _ hd, ag_nm_nat (show i ≤ 1000000 by omega), ag_nm_3, ht, ag_nm_m]
      rw [if_neg (show ¬ (3 : Int) < i by omega)]
      by_cases h1 : t = -1
      · rw [if_pos h1]
      · have h2 : 0 ≤ t ∧ t < w ∧ ag_rd 40 (gb 5) t ≠ -1 := by omega
        rw [if_neg h1]
        simp only [if_pos h2, ag_nm_1, ag_nm_z, ag_b0, ag_b1, true_and, or_true, true_or, Int.reduceEq, ne_eq, not_false_eq_true, not_true_eq_false, ↓reduceIte]
    · obtain ⟨i', h'⟩ := ih (i + 1) (ag_rd 40 (gb 1) t) (ag_nm_rd hs _ _ _) (by omega)
      refine ⟨i', ?_⟩
      rw [ag_up4, if_neg h, ← h', ag_i57_22]
      simp only [ag_i57_24, ag_i57_25, ag_i57_28, ag_i57_29, ag_i57_30, ag_i57_33, ag_i57_34, ag_i57_35, ag_i57_38, ag_i57_41, ag_i57_42, ag_i57_45, ag_i57_46, ag_i57_49_n, ag_i57_49_i, ag_i57_49_r, ag_i57_50_n, ag_i57_50_i, ag_i57_50_r, ag_i57_53, ag_kk_v, ag_kk_n, Nat.reduceAdd, hh, ag_V_ck _ hd, ag_V_g1 _ hd, ag_V_at1 _ hd, ag_nm_nat (show i ≤ 1000000 by omega), ag_nm_3, ht, ag_nm_m]
      have h1 : ¬ t = -1 := by omega
      have h2 : ¬ (0 ≤ t ∧ t < w ∧ ag_rd 40 (gb 5) t ≠ -1) := by omega
      rw [if_neg (show ¬ (3 : Int) < i by omega), if_neg h1]
      simp only [if_neg h2, ag_nm_1, ag_nm_z, ag_b0, ag_b1, true_and, or_true, true_or, Int.reduceEq, ne_eq, not_false_eq_true, not_true_eq_false, ↓reduceIte]
      rfl
theorem ag_V_loop (hd : a + 8 < q ∨ q + 2 < a) (hv : vb 0 = w) (hs : ag_sm gb) (hw : w ≤ 40) (hq : vq 0 = n) (hn : n ≤ 12) (hr : ∀ j, ag_nm (gq 0 j) = gq 0 j) (hq1 : 1 ≤ q) : ∀ (k i : Nat) (x y : Option ag_V), i + k = n →
    ag_wp 57 2 [some (ag_R q), some (ag_R a), some (ag_I i), x, y] [] (ag_SQ (ag_SB σ a gb vb) q (ag_ug gq 0 (ag_lvs gb w (gq 0) i)) vq) K = K (Sum.inl none) (ag_SQ (ag_SB σ a gb vb) q (ag_ug gq 0 (ag_lvs gb w (gq 0) n)) vq) := by
  intro k
  induction k with
  | zero =>
    intro i x y hi
    rw [ag_i57_2]
    simp only [ag_i57_3, ag_i57_4, ag_i57_7, ag_i57_71, ag_SQ_g0, ag_SQ_g1, ag_SQ_g2, ag_SQ_at0, ag_SQ_at1, ag_SQ_pt0, ag_SQ_pt1, ag_SQ_ck, hq, ag_nm_nat (show i ≤ 1000000 by omega), ag_nm_nat (show n ≤ 1000000 by omega)]
    rw [if_pos (by omega), show i = n by omega]
  | succ k ih =>
    intro i x y hi
    have e0 : ag_lvs gb w (gq 0) i i = gq 0 i := by
      unfold ag_lvs
      rw [if_neg (by omega)]
    obtain ⟨i', h'⟩ := ag_V_in σ (gq := ag_ug gq 0 (ag_lvs gb w (gq 0) i)) (vq := vq) K (p := i) hd hv hs hw 4 0 (gq 0 i) (hr i) (by omega)
    rw [ag_i57_2]
    simp only [ag_i57_3, ag_i57_4, ag_i57_7, ag_i57_10, ag_i57_11, ag_i57_14, ag_i57_15, ag_i57_18_n, ag_i57_18_i, ag_i57_18_r, ag_i57_19, ag_i57_20_n, ag_i57_20_i, ag_i57_20_r, ag_SQ_g0, ag_SQ_g1, ag_SQ_g2, ag_SQ_at0, ag_SQ_at1, ag_SQ_pt0, ag_SQ_pt1, ag_SQ_ck, ag_kk_v, ag_kk_n, Nat.reduceAdd, ag_ug_at, ag_ui_at, Nat.reduceEqDiff, ↓reduceIte, hq, ag_nm_nat (show i ≤ 1000000 by omega), ag_nm_nat (show n ≤ 1000000 by omega), ag_rd_nat (show 12 ≤ 1000000 by decide) (show i < 12 by omega), e0]
    rw [if_neg (show ¬ (n : Int) ≤ i by omega)]
    refine Eq.trans h' ?_
    rw [← ih (i + 1) (some (ag_I (ag_up4 gb w 4 (gq 0 i)))) i' (by omega)]
    simp only [ag_i57_56, ag_i57_57, ag_i57_60, ag_i57_61, ag_i57_62, ag_i57_65_n, ag_i57_65_i, ag_i57_65_r, ag_i57_68, ag_SQ_g0, ag_SQ_g1, ag_SQ_g2, ag_SQ_at0, ag_SQ_at1, ag_SQ_pt0, ag_SQ_pt1, ag_SQ_ck, ag_kk_v, ag_kk_n, Nat.reduceAdd, ag_ug_at, ag_ui_at, Nat.reduceEqDiff, ↓reduceIte, ag_ug_2]
    have e1 : ag_wr 12 (ag_lvs gb w (gq 0) i) i (ag_up4 gb w 4 (gq 0 i)) = ag_lvs gb w (gq 0) (i + 1) := by
      rw [ag_wr_nat _ (by decide) (by omega)]
      funext j
      unfold ag_ui ag_lvs
      by_cases hj : j = i
      · subst hj
        rw [if_pos rfl, if_pos (show j < j + 1 by omega)]
      · rw [if_neg hj]
        by_cases h2 : j < i
        · rw [if_pos h2, if_pos (show j < i + 1 by omega)]
        · rw [if_neg h2, if_neg (show ¬ j < i + 1 by omega)]
    rw [e1]
    rfl
theorem ag_V_leaveStruck (hd : a + 8 < q ∨ q + 2 < a) (hv : vb 0 = w) (hs : ag_sm gb) (hw : w ≤ 40) (hq : vq 0 = n) (hn : n ≤ 12) (hs2 : ag_sm gq) (hq1 : 1 ≤ q) :
    ag_cl9 57 [ag_R q, ag_R a] (ag_SQ (ag_SB σ a gb vb) q gq vq) K = K (Sum.inl none) (ag_SQ (ag_SB σ a gb vb) q (ag_ug gq 0 (ag_lvs gb w (gq 0) n)) vq) := by
  have e0 : ag_lvs gb w (gq 0) 0 = gq 0 := by
    funext j
    unfold ag_lvs
    rw [if_neg (by omega)]
  have h := ag_V_loop σ (gq := gq) K hd hv hs hw hq hn (fun j => ag_nm_g hs2 0 j) hq1 n 0 none none (by omega)
  rw [e0, ag_ug_self] at h
  rw [← h]
  simp only [ag_i57_0, ag_i57_1_n, ag_i57_1_i, ag_i57_1_r, ag_e57, ag_SQ_g0, ag_SQ_g1, ag_SQ_g2, ag_SQ_at0, ag_SQ_at1, ag_SQ_pt0, ag_SQ_pt1, ag_SQ_ck]
  rfl
end AGV
