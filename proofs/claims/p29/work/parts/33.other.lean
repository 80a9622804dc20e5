/-! ANOTHER OBJECT b, while a is written (by program, wip/whole/gen_obj2.py). -/
section AGO
variable (σ : ag_S) {a b : Nat} (g : Nat → Nat → Int) {g2 : Nat → Nat → Int} (v : Nat → Int) {v2 : Nat → Int}
theorem ag_SB_k (h : ag_CB σ b g2 v2) (hd : b + 8 < a ∨ a + 8 < b) : ag_CB (ag_SB σ a g v) b g2 v2 := by
  obtain ⟨h0, h1, h2, h3, h4, h5, h6, h7, h8⟩ := h
  refine ⟨?_, ?_, ?_, ?_, ?_, ?_, ?_, ?_, ?_⟩ <;> rw [ag_SB_fr σ a g v (by omega)] <;> assumption
theorem ag_SB_cq0 (h : ag_CB σ b g2 v2) (hd : b + 8 < a ∨ a + 8 < b) (K : ag_Rs → ag_S → Prop) : ag_cl9 94 [ag_R (b + 1), ag_R (a + 1)] (ag_SB σ a g v) K = K (Sum.inl none) (ag_SB σ a (ag_ug g 0 (ag_cf (g2 0) (g 0) 40)) v) := by
  obtain ⟨h0, h1, h2, h3, h4, h5, h6, h7, h8⟩ := ag_SB_k σ g v h hd
  rw [ag_copy_eq h1 (ag_SB_a0 σ a g v) (by omega) (by omega) (by decide), ag_SB_u0]
theorem ag_SB_cq1 (h : ag_CB σ b g2 v2) (hd : b + 8 < a ∨ a + 8 < b) (K : ag_Rs → ag_S → Prop) : ag_cl9 94 [ag_R (b + 2), ag_R (a + 2)] (ag_SB σ a g v) K = K (Sum.inl none) (ag_SB σ a (ag_ug g 1 (ag_cf (g2 1) (g 1) 40)) v) := by
  obtain ⟨h0, h1, h2, h3, h4, h5, h6, h7, h8⟩ := ag_SB_k σ g v h hd
  rw [ag_copy_eq h2 (ag_SB_a1 σ a g v) (by omega) (by omega) (by decide), ag_SB_u1]
theorem ag_SB_cq2 (h : ag_CB σ b g2 v2) (hd : b + 8 < a ∨ a + 8 < b) (K : ag_Rs → ag_S → Prop) : ag_cl9 94 [ag_R (b + 3), ag_R (a + 3)] (ag_SB σ a g v) K = K (Sum.inl none) (ag_SB σ a (ag_ug g 2 (ag_cf (g2 2) (g 2) 40)) v) := by
  obtain ⟨h0, h1, h2, h3, h4, h5, h6, h7, h8⟩ := ag_SB_k σ g v h hd
  rw [ag_copy_eq h3 (ag_SB_a2 σ a g v) (by omega) (by omega) (by decide), ag_SB_u2]
theorem ag_SB_cq3 (h : ag_CB σ b g2 v2) (hd : b + 8 < a ∨ a + 8 < b) (K : ag_Rs → ag_S → Prop) : ag_cl9 94 [ag_R (b + 4), ag_R (a + 4)] (ag_SB σ a g v) K = K (Sum.inl none) (ag_SB σ a (ag_ug g 3 (ag_cf (g2 3) (g 3) 40)) v) := by
  obtain ⟨h0, h1, h2, h3, h4, h5, h6, h7, h8⟩ := ag_SB_k σ g v h hd
  rw [ag_copy_eq h4 (ag_SB_a3 σ a g v) (by omega) (by omega) (by decide), ag_SB_u3]
theorem ag_SB_cq4 (h : ag_CB σ b g2 v2) (hd : b + 8 < a ∨ a + 8 < b) (K : ag_Rs → ag_S → Prop) : ag_cl9 94 [ag_R (b + 5), ag_R (a + 5)] (ag_SB σ a g v) K = K (Sum.inl none) (ag_SB σ a (ag_ug g 4 (ag_cf (g2 4) (g 4) 40)) v) := by
  obtain ⟨h0, h1, h2, h3, h4, h5, h6, h7, h8⟩ := ag_SB_k σ g v h hd
  rw [ag_copy_eq h5 (ag_SB_a4 σ a g v) (by omega) (by omega) (by decide), ag_SB_u4]
theorem ag_SB_cq5 (h : ag_CB σ b g2 v2) (hd : b + 8 < a ∨ a + 8 < b) (K : ag_Rs → ag_S → Prop) : ag_cl9 94 [ag_R (b + 6), ag_R (a + 6)] (ag_SB σ a g v) K = K (Sum.inl none) (ag_SB σ a (ag_ug g 5 (ag_cf (g2 5) (g 5) 40)) v) := by
  obtain ⟨h0, h1, h2, h3, h4, h5, h6, h7, h8⟩ := ag_SB_k σ g v h hd
  rw [ag_copy_eq h6 (ag_SB_a5 σ a g v) (by omega) (by omega) (by decide), ag_SB_u5]
theorem ag_SB_cq6 (h : ag_CB σ b g2 v2) (hd : b + 8 < a ∨ a + 8 < b) (K : ag_Rs → ag_S → Prop) : ag_cl9 94 [ag_R (b + 7), ag_R (a + 7)] (ag_SB σ a g v) K = K (Sum.inl none) (ag_SB σ a (ag_ug g 6 (ag_cf (g2 6) (g 6) 40)) v) := by
  obtain ⟨h0, h1, h2, h3, h4, h5, h6, h7, h8⟩ := ag_SB_k σ g v h hd
  rw [ag_copy_eq h7 (ag_SB_a6 σ a g v) (by omega) (by omega) (by decide), ag_SB_u6]
theorem ag_SB_cq7 (h : ag_CB σ b g2 v2) (hd : b + 8 < a ∨ a + 8 < b) (K : ag_Rs → ag_S → Prop) : ag_cl9 94 [ag_R (b + 8), ag_R (a + 8)] (ag_SB σ a g v) K = K (Sum.inl none) (ag_SB σ a (ag_ug g 7 (ag_cf (g2 7) (g 7) 40)) v) := by
  obtain ⟨h0, h1, h2, h3, h4, h5, h6, h7, h8⟩ := ag_SB_k σ g v h hd
  rw [ag_copy_eq h8 (ag_SB_a7 σ a g v) (by omega) (by omega) (by decide), ag_SB_u7]
theorem ag_SB_gq0 (h : ag_CB σ b g2 v2) (hd : b + 8 < a ∨ a + 8 < b) (K : ag_V → Prop) : ag_gf (ag_SB σ a g v) b 0 0 K = K (ag_R (b + 1)) := by
  have h2 := ag_SB_k σ g v h hd
  unfold ag_gf
  rw [h2.1]
  simp
theorem ag_SB_gq1 (h : ag_CB σ b g2 v2) (hd : b + 8 < a ∨ a + 8 < b) (K : ag_V → Prop) : ag_gf (ag_SB σ a g v) b 0 1 K = K (ag_R (b + 2)) := by
  have h2 := ag_SB_k σ g v h hd
  unfold ag_gf
  rw [h2.1]
  simp
theorem ag_SB_gq2 (h : ag_CB σ b g2 v2) (hd : b + 8 < a ∨ a + 8 < b) (K : ag_V → Prop) : ag_gf (ag_SB σ a g v) b 0 2 K = K (ag_R (b + 3)) := by
  have h2 := ag_SB_k σ g v h hd
  unfold ag_gf
  rw [h2.1]
  simp
theorem ag_SB_gq3 (h : ag_CB σ b g2 v2) (hd : b + 8 < a ∨ a + 8 < b) (K : ag_V → Prop) : ag_gf (ag_SB σ a g v) b 0 3 K = K (ag_R (b + 4)) := by
  have h2 := ag_SB_k σ g v h hd
  unfold ag_gf
  rw [h2.1]
  simp
theorem ag_SB_gq4 (h : ag_CB σ b g2 v2) (hd : b + 8 < a ∨ a + 8 < b) (K : ag_V → Prop) : ag_gf (ag_SB σ a g v) b 0 4 K = K (ag_R (b + 5)) := by
  have h2 := ag_SB_k σ g v h hd
  unfold ag_gf
  rw [h2.1]
  simp
theorem ag_SB_gq5 (h : ag_CB σ b g2 v2) (hd : b + 8 < a ∨ a + 8 < b) (K : ag_V → Prop) : ag_gf (ag_SB σ a g v) b 0 5 K = K (ag_R (b + 6)) := by
  have h2 := ag_SB_k σ g v h hd
  unfold ag_gf
  rw [h2.1]
  simp
theorem ag_SB_gq6 (h : ag_CB σ b g2 v2) (hd : b + 8 < a ∨ a + 8 < b) (K : ag_V → Prop) : ag_gf (ag_SB σ a g v) b 0 6 K = K (ag_R (b + 7)) := by
  have h2 := ag_SB_k σ g v h hd
  unfold ag_gf
  rw [h2.1]
  simp
theorem ag_SB_gq7 (h : ag_CB σ b g2 v2) (hd : b + 8 < a ∨ a + 8 < b) (K : ag_V → Prop) : ag_gf (ag_SB σ a g v) b 0 7 K = K (ag_R (b + 8)) := by
  have h2 := ag_SB_k σ g v h hd
  unfold ag_gf
  rw [h2.1]
  simp
theorem ag_SB_gq8 (h : ag_CB σ b g2 v2) (hd : b + 8 < a ∨ a + 8 < b) (K : ag_V → Prop) : ag_gf (ag_SB σ a g v) b 0 8 K = K (ag_I (v2 0)) := by
  have h2 := ag_SB_k σ g v h hd
  unfold ag_gf
  rw [h2.1]
  simp
theorem ag_SB_gq9 (h : ag_CB σ b g2 v2) (hd : b + 8 < a ∨ a + 8 < b) (K : ag_V → Prop) : ag_gf (ag_SB σ a g v) b 0 9 K = K (ag_I (v2 1)) := by
  have h2 := ag_SB_k σ g v h hd
  unfold ag_gf
  rw [h2.1]
  simp
theorem ag_SP_k (h : ag_CP σ b g2 v2) (hd : b + 6 < a ∨ a + 6 < b) : ag_CP (ag_SP σ a g v) b g2 v2 := by
  obtain ⟨h0, h1, h2, h3, h4, h5, h6⟩ := h
  refine ⟨?_, ?_, ?_, ?_, ?_, ?_, ?_⟩ <;> rw [ag_SP_fr σ a g v (by omega)] <;> assumption
theorem ag_SP_cq0 (h : ag_CP σ b g2 v2) (hd : b + 6 < a ∨ a + 6 < b) (K : ag_Rs → ag_S → Prop) : ag_cl9 94 [ag_R (b + 1), ag_R (a + 1)] (ag_SP σ a g v) K = K (Sum.inl none) (ag_SP σ a (ag_ug g 0 (ag_cf (g2 0) (g 0) 20)) v) := by
  obtain ⟨h0, h1, h2, h3, h4, h5, h6⟩ := ag_SP_k σ g v h hd
  rw [ag_copy_eq h1 (ag_SP_a0 σ a g v) (by omega) (by omega) (by decide), ag_SP_u0]
theorem ag_SP_cq1 (h : ag_CP σ b g2 v2) (hd : b + 6 < a ∨ a + 6 < b) (K : ag_Rs → ag_S → Prop) : ag_cl9 94 [ag_R (b + 2), ag_R (a + 2)] (ag_SP σ a g v) K = K (Sum.inl none) (ag_SP σ a (ag_ug g 1 (ag_cf (g2 1) (g 1) 20)) v) := by
  obtain ⟨h0, h1, h2, h3, h4, h5, h6⟩ := ag_SP_k σ g v h hd
  rw [ag_copy_eq h2 (ag_SP_a1 σ a g v) (by omega) (by omega) (by decide), ag_SP_u1]
theorem ag_SP_cq2 (h : ag_CP σ b g2 v2) (hd : b + 6 < a ∨ a + 6 < b) (K : ag_Rs → ag_S → Prop) : ag_cl9 94 [ag_R (b + 3), ag_R (a + 3)] (ag_SP σ a g v) K = K (Sum.inl none) (ag_SP σ a (ag_ug g 2 (ag_cf (g2 2) (g 2) 20)) v) := by
  obtain ⟨h0, h1, h2, h3, h4, h5, h6⟩ := ag_SP_k σ g v h hd
  rw [ag_copy_eq h3 (ag_SP_a2 σ a g v) (by omega) (by omega) (by decide), ag_SP_u2]
theorem ag_SP_cq3 (h : ag_CP σ b g2 v2) (hd : b + 6 < a ∨ a + 6 < b) (K : ag_Rs → ag_S → Prop) : ag_cl9 94 [ag_R (b + 4), ag_R (a + 4)] (ag_SP σ a g v) K = K (Sum.inl none) (ag_SP σ a (ag_ug g 3 (ag_cf (g2 3) (g 3) 20)) v) := by
  obtain ⟨h0, h1, h2, h3, h4, h5, h6⟩ := ag_SP_k σ g v h hd
  rw [ag_copy_eq h4 (ag_SP_a3 σ a g v) (by omega) (by omega) (by decide), ag_SP_u3]
theorem ag_SP_cq4 (h : ag_CP σ b g2 v2) (hd : b + 6 < a ∨ a + 6 < b) (K : ag_Rs → ag_S → Prop) : ag_cl9 94 [ag_R (b + 5), ag_R (a + 5)] (ag_SP σ a g v) K = K (Sum.inl none) (ag_SP σ a (ag_ug g 4 (ag_cf (g2 4) (g 4) 20)) v) := by
  obtain ⟨h0, h1, h2, h3, h4, h5, h6⟩ := ag_SP_k σ g v h hd
  rw [ag_copy_eq h5 (ag_SP_a4 σ a g v) (by omega) (by omega) (by decide), ag_SP_u4]
theorem ag_SP_cq5 (h : ag_CP σ b g2 v2) (hd : b + 6 < a ∨ a + 6 < b) (K : ag_Rs → ag_S → Prop) : ag_cl9 94 [ag_R (b + 6), ag_R (a + 6)] (ag_SP σ a g v) K = K (Sum.inl none) (ag_SP σ a (ag_ug g 5 (ag_cf (g2 5) (g 5) 20)) v) := by
  obtain ⟨h0, h1, h2, h3, h4, h5, h6⟩ := ag_SP_k σ g v h hd
  rw [ag_copy_eq h6 (ag_SP_a5 σ a g v) (by omega) (by omega) (by decide), ag_SP_u5]
theorem ag_SP_gq0 (h : ag_CP σ b g2 v2) (hd : b + 6 < a ∨ a + 6 < b) (K : ag_V → Prop) : ag_gf (ag_SP σ a g v) b 3 0 K = K (ag_R (b + 1)) := by
  have h2 := ag_SP_k σ g v h hd
  unfold ag_gf
  rw [h2.1]
  simp
theorem ag_SP_gq1 (h : ag_CP σ b g2 v2) (hd : b + 6 < a ∨ a + 6 < b) (K : ag_V → Prop) : ag_gf (ag_SP σ a g v) b 3 1 K = K (ag_R (b + 2)) := by
  have h2 := ag_SP_k σ g v h hd
  unfold ag_gf
  rw [h2.1]
  simp
theorem ag_SP_gq2 (h : ag_CP σ b g2 v2) (hd : b + 6 < a ∨ a + 6 < b) (K : ag_V → Prop) : ag_gf (ag_SP σ a g v) b 3 2 K = K (ag_R (b + 3)) := by
  have h2 := ag_SP_k σ g v h hd
  unfold ag_gf
  rw [h2.1]
  simp
theorem ag_SP_gq3 (h : ag_CP σ b g2 v2) (hd : b + 6 < a ∨ a + 6 < b) (K : ag_V → Prop) : ag_gf (ag_SP σ a g v) b 3 3 K = K (ag_R (b + 4)) := by
  have h2 := ag_SP_k σ g v h hd
  unfold ag_gf
  rw [h2.1]
  simp
theorem ag_SP_gq4 (h : ag_CP σ b g2 v2) (hd : b + 6 < a ∨ a + 6 < b) (K : ag_V → Prop) : ag_gf (ag_SP σ a g v) b 3 4 K = K (ag_R (b + 5)) := by
  have h2 := ag_SP_k σ g v h hd
  unfold ag_gf
  rw [h2.1]
  simp
theorem ag_SP_gq5 (h : ag_CP σ b g2 v2) (hd : b + 6 < a ∨ a + 6 < b) (K : ag_V → Prop) : ag_gf (ag_SP σ a g v) b 3 5 K = K (ag_R (b + 6)) := by
  have h2 := ag_SP_k σ g v h hd
  unfold ag_gf
  rw [h2.1]
  simp
theorem ag_SP_gq6 (h : ag_CP σ b g2 v2) (hd : b + 6 < a ∨ a + 6 < b) (K : ag_V → Prop) : ag_gf (ag_SP σ a g v) b 3 6 K = K (ag_I (v2 0)) := by
  have h2 := ag_SP_k σ g v h hd
  unfold ag_gf
  rw [h2.1]
  simp
end AGO
section AGO2
variable (σ : ag_S) {a b : Nat} (g : Nat → Nat → Int) {g2 : Nat → Nat → Int} (v : Nat → Int) {v2 : Nat → Int} (K : ag_Rs → ag_S → Prop)
theorem ag_B_become (ha : 1 ≤ a) (h : ag_CB σ b g2 v2) (hd : b + 8 < a ∨ a + 8 < b) : ag_cl9 4 [ag_R a, ag_R b] (ag_SB σ a g v) K = K (Sum.inl none) (ag_SB σ a (ag_ug (ag_ug (ag_ug (ag_ug (ag_ug (ag_ug (ag_ug g 0 (ag_cf (g2 0) (g 0) 40)) 1 (ag_cf (g2 1) (g 1) 40)) 2 (ag_cf (g2 2) (g 2) 40)) 3 (ag_cf (g2 3) (g 3) 40)) 4 (ag_cf (g2 4) (g 4) 40)) 5 (ag_cf (g2 5) (g 5) 40)) 6 (ag_cf (g2 6) (g 6) 40)) (ag_ui (ag_ui v 0 (v2 0)) 1 (v2 1))) := by
  simp only [ag_e4, ag_i4_0, ag_i4_1, ag_i4_4, ag_i4_5, ag_i4_8, ag_i4_11, ag_i4_12, ag_i4_15, ag_i4_16, ag_i4_19, ag_i4_22, ag_i4_23, ag_i4_26, ag_i4_27, ag_i4_30, ag_i4_33, ag_i4_34, ag_i4_37, ag_i4_38, ag_i4_41, ag_i4_44, ag_i4_45, ag_i4_48, ag_i4_49, ag_i4_52, ag_i4_55, ag_i4_56, ag_i4_59, ag_i4_60, ag_i4_63, ag_i4_66, ag_i4_67, ag_i4_70, ag_i4_71, ag_i4_74, ag_i4_77, ag_i4_78, ag_i4_79, ag_i4_82, ag_i4_85, ag_i4_86, ag_i4_87, ag_i4_90, ag_i4_93, ag_SB_g0, ag_SB_g1, ag_SB_g2, ag_SB_g3, ag_SB_g4, ag_SB_g5, ag_SB_g6, ag_SB_g7, ag_SB_g8, ag_SB_g9, ag_SB_at0, ag_SB_at1, ag_SB_at2, ag_SB_at3, ag_SB_at4, ag_SB_at5, ag_SB_at6, ag_SB_at7, ag_SB_pt0, ag_SB_pt1, ag_SB_pt2, ag_SB_pt3, ag_SB_pt4, ag_SB_pt5, ag_SB_pt6, ag_SB_pt7, ag_SB_ck, ag_SB_cq0 _ _ _ h hd, ag_SB_cq1 _ _ _ h hd, ag_SB_cq2 _ _ _ h hd, ag_SB_cq3 _ _ _ h hd, ag_SB_cq4 _ _ _ h hd, ag_SB_cq5 _ _ _ h hd, ag_SB_cq6 _ _ _ h hd, ag_SB_cq7 _ _ _ h hd, ag_SB_gq0 _ _ _ h hd, ag_SB_gq1 _ _ _ h hd, ag_SB_gq2 _ _ _ h hd, ag_SB_gq3 _ _ _ h hd, ag_SB_gq4 _ _ _ h hd, ag_SB_gq5 _ _ _ h hd, ag_SB_gq6 _ _ _ h hd, ag_SB_gq7 _ _ _ h hd, ag_SB_gq8 _ _ _ h hd, ag_SB_gq9 _ _ _ h hd, ag_kk_v, ag_kk_n, Nat.reduceAdd, ag_ug_at, ag_ui_at, Nat.reduceEqDiff, ↓reduceIte, ag_SB_p8 _ ha, ag_SB_p9 _ ha]
theorem ag_P_become (ha : 1 ≤ a) (h : ag_CP σ b g2 v2) (hd : b + 6 < a ∨ a + 6 < b) : ag_cl9 43 [ag_R a, ag_R b] (ag_SP σ a g v) K = K (Sum.inl none) (ag_SP σ a (ag_ug (ag_ug (ag_ug (ag_ug (ag_ug (ag_ug g 0 (ag_cf (g2 0) (g 0) 20)) 1 (ag_cf (g2 1) (g 1) 20)) 2 (ag_cf (g2 2) (g 2) 20)) 3 (ag_cf (g2 3) (g 3) 20)) 4 (ag_cf (g2 4) (g 4) 20)) 5 (ag_cf (g2 5) (g 5) 20)) (ag_ui v 0 (v2 0))) := by
  simp only [ag_e43, ag_i43_0, ag_i43_1, ag_i43_4, ag_i43_5, ag_i43_8, ag_i43_11, ag_i43_12, ag_i43_15, ag_i43_16, ag_i43_19, ag_i43_22, ag_i43_23, ag_i43_26, ag_i43_27, ag_i43_30, ag_i43_33, ag_i43_34, ag_i43_37, ag_i43_38, ag_i43_41, ag_i43_44, ag_i43_45, ag_i43_48, ag_i43_49, ag_i43_52, ag_i43_55, ag_i43_56, ag_i43_59, ag_i43_60, ag_i43_63, ag_i43_66, ag_i43_67, ag_i43_68, ag_i43_71, ag_i43_74, ag_SP_g0, ag_SP_g1, ag_SP_g2, ag_SP_g3, ag_SP_g4, ag_SP_g5, ag_SP_g6, ag_SP_at0, ag_SP_at1, ag_SP_at2, ag_SP_at3, ag_SP_at4, ag_SP_at5, ag_SP_pt0, ag_SP_pt1, ag_SP_pt2, ag_SP_pt3, ag_SP_pt4, ag_SP_pt5, ag_SP_ck, ag_SP_cq0 _ _ _ h hd, ag_SP_cq1 _ _ _ h hd, ag_SP_cq2 _ _ _ h hd, ag_SP_cq3 _ _ _ h hd, ag_SP_cq4 _ _ _ h hd, ag_SP_cq5 _ _ _ h hd, ag_SP_gq0 _ _ _ h hd, ag_SP_gq1 _ _ _ h hd, ag_SP_gq2 _ _ _ h hd, ag_SP_gq3 _ _ _ h hd, ag_SP_gq4 _ _ _ h hd, ag_SP_gq5 _ _ _ h hd, ag_SP_gq6 _ _ _ h hd, ag_kk_v, ag_kk_n, Nat.reduceAdd, ag_ug_at, ag_ui_at, Nat.reduceEqDiff, ↓reduceIte, ag_SP_p6 _ ha]
end AGO2
