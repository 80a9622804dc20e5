/-! OBJECTS WITHIN A COURSE (by program, wip/whole/gen_obj4.py). -/
variable {B : Nat}
section AGL
variable (σ : ag_S) {c : Nat} (gh : Nat → Nat → Int) (vh : Nat → Int) (gb : Nat → Nat → Int) (vb : Nat → Int) (gp : Nat → Nat → Int) (vp : Nat → Int)
theorem ag_SK_Bg0 (hc : B + 7 ≤ c) (K : ag_V → Prop) : ag_gf (ag_SK B σ c gh vh gb vb gp vp) (c + 1) 0 0 K = K (ag_R (c + 1 + 1)) := by
  rw [ag_SK_B σ _ _ _ _ _ _ hc]
  exact ag_SB_g0 _ _ gb vb K
theorem ag_SK_Bat0 (hc : B + 7 ≤ c) (i : Int) (K : ag_Rs → ag_S → Prop) : ag_cl9 92 [ag_R (c + 1 + 1), ag_I i] (ag_SK B σ c gh vh gb vb gp vp) K = K (Sum.inl (some (ag_I (ag_rd 40 (gb 0) i)))) (ag_SK B σ c gh vh gb vb gp vp) := ag_lB σ gh vh gp vp hc (fun σ K => ag_SB_at0 σ (c + 1) gb vb i K) K
theorem ag_SK_Bpt0 (hc : B + 7 ≤ c) (i z : Int) (K : ag_Rs → ag_S → Prop) : ag_cl9 93 [ag_R (c + 1 + 1), ag_I i, ag_I z] (ag_SK B σ c gh vh gb vb gp vp) K = K (Sum.inl none) (ag_SK B σ c gh vh (ag_ug gb 0 (ag_wr 40 (gb 0) i z)) vb gp vp) := ag_lB σ gh vh gp vp hc (fun σ K => ag_SB_pt0 σ (c + 1) gb vb i z K) K
theorem ag_SK_Bg1 (hc : B + 7 ≤ c) (K : ag_V → Prop) : ag_gf (ag_SK B σ c gh vh gb vb gp vp) (c + 1) 0 1 K = K (ag_R (c + 1 + 2)) := by
  rw [ag_SK_B σ _ _ _ _ _ _ hc]
  exact ag_SB_g1 _ _ gb vb K
theorem ag_SK_Bat1 (hc : B + 7 ≤ c) (i : Int) (K : ag_Rs → ag_S → Prop) : ag_cl9 92 [ag_R (c + 1 + 2), ag_I i] (ag_SK B σ c gh vh gb vb gp vp) K = K (Sum.inl (some (ag_I (ag_rd 40 (gb 1) i)))) (ag_SK B σ c gh vh gb vb gp vp) := ag_lB σ gh vh gp vp hc (fun σ K => ag_SB_at1 σ (c + 1) gb vb i K) K
theorem ag_SK_Bpt1 (hc : B + 7 ≤ c) (i z : Int) (K : ag_Rs → ag_S → Prop) : ag_cl9 93 [ag_R (c + 1 + 2), ag_I i, ag_I z] (ag_SK B σ c gh vh gb vb gp vp) K = K (Sum.inl none) (ag_SK B σ c gh vh (ag_ug gb 1 (ag_wr 40 (gb 1) i z)) vb gp vp) := ag_lB σ gh vh gp vp hc (fun σ K => ag_SB_pt1 σ (c + 1) gb vb i z K) K
theorem ag_SK_Bg2 (hc : B + 7 ≤ c) (K : ag_V → Prop) : ag_gf (ag_SK B σ c gh vh gb vb gp vp) (c + 1) 0 2 K = K (ag_R (c + 1 + 3)) := by
  rw [ag_SK_B σ _ _ _ _ _ _ hc]
  exact ag_SB_g2 _ _ gb vb K
theorem ag_SK_Bat2 (hc : B + 7 ≤ c) (i : Int) (K : ag_Rs → ag_S → Prop) : ag_cl9 92 [ag_R (c + 1 + 3), ag_I i] (ag_SK B σ c gh vh gb vb gp vp) K = K (Sum.inl (some (ag_I (ag_rd 40 (gb 2) i)))) (ag_SK B σ c gh vh gb vb gp vp) := ag_lB σ gh vh gp vp hc (fun σ K => ag_SB_at2 σ (c + 1) gb vb i K) K
theorem ag_SK_Bpt2 (hc : B + 7 ≤ c) (i z : Int) (K : ag_Rs → ag_S → Prop) : ag_cl9 93 [ag_R (c + 1 + 3), ag_I i, ag_I z] (ag_SK B σ c gh vh gb vb gp vp) K = K (Sum.inl none) (ag_SK B σ c gh vh (ag_ug gb 2 (ag_wr 40 (gb 2) i z)) vb gp vp) := ag_lB σ gh vh gp vp hc (fun σ K => ag_SB_pt2 σ (c + 1) gb vb i z K) K
theorem ag_SK_Bg3 (hc : B + 7 ≤ c) (K : ag_V → Prop) : ag_gf (ag_SK B σ c gh vh gb vb gp vp) (c + 1) 0 3 K = K (ag_R (c + 1 + 4)) := by
  rw [ag_SK_B σ _ _ _ _ _ _ hc]
  exact ag_SB_g3 _ _ gb vb K
theorem ag_SK_Bat3 (hc : B + 7 ≤ c) (i : Int) (K : ag_Rs → ag_S → Prop) : ag_cl9 92 [ag_R (c + 1 + 4), ag_I i] (ag_SK B σ c gh vh gb vb gp vp) K = K (Sum.inl (some (ag_I (ag_rd 40 (gb 3) i)))) (ag_SK B σ c gh vh gb vb gp vp) := ag_lB σ gh vh gp vp hc (fun σ K => ag_SB_at3 σ (c + 1) gb vb i K) K
theorem ag_SK_Bpt3 (hc : B + 7 ≤ c) (i z : Int) (K : ag_Rs → ag_S → Prop) : ag_cl9 93 [ag_R (c + 1 + 4), ag_I i, ag_I z] (ag_SK B σ c gh vh gb vb gp vp) K = K (Sum.inl none) (ag_SK B σ c gh vh (ag_ug gb 3 (ag_wr 40 (gb 3) i z)) vb gp vp) := ag_lB σ gh vh gp vp hc (fun σ K => ag_SB_pt3 σ (c + 1) gb vb i z K) K
theorem ag_SK_Bg4 (hc : B + 7 ≤ c) (K : ag_V → Prop) : ag_gf (ag_SK B σ c gh vh gb vb gp vp) (c + 1) 0 4 K = K (ag_R (c + 1 + 5)) := by
  rw [ag_SK_B σ _ _ _ _ _ _ hc]
  exact ag_SB_g4 _ _ gb vb K
theorem ag_SK_Bat4 (hc : B + 7 ≤ c) (i : Int) (K : ag_Rs → ag_S → Prop) : ag_cl9 92 [ag_R (c + 1 + 5), ag_I i] (ag_SK B σ c gh vh gb vb gp vp) K = K (Sum.inl (some (ag_I (ag_rd 40 (gb 4) i)))) (ag_SK B σ c gh vh gb vb gp vp) := ag_lB σ gh vh gp vp hc (fun σ K => ag_SB_at4 σ (c + 1) gb vb i K) K
theorem ag_SK_Bpt4 (hc : B + 7 ≤ c) (i z : Int) (K : ag_Rs → ag_S → Prop) : ag_cl9 93 [ag_R (c + 1 + 5), ag_I i, ag_I z] (ag_SK B σ c gh vh gb vb gp vp) K = K (Sum.inl none) (ag_SK B σ c gh vh (ag_ug gb 4 (ag_wr 40 (gb 4) i z)) vb gp vp) := ag_lB σ gh vh gp vp hc (fun σ K => ag_SB_pt4 σ (c + 1) gb vb i z K) K
theorem ag_SK_Bg5 (hc : B + 7 ≤ c) (K : ag_V → Prop) : ag_gf (ag_SK B σ c gh vh gb vb gp vp) (c + 1) 0 5 K = K (ag_R (c + 1 + 6)) := by
  rw [ag_SK_B σ _ _ _ _ _ _ hc]
  exact ag_SB_g5 _ _ gb vb K
theorem ag_SK_Bat5 (hc : B + 7 ≤ c) (i : Int) (K : ag_Rs → ag_S → Prop) : ag_cl9 92 [ag_R (c + 1 + 6), ag_I i] (ag_SK B σ c gh vh gb vb gp vp) K = K (Sum.inl (some (ag_I (ag_rd 40 (gb 5) i)))) (ag_SK B σ c gh vh gb vb gp vp) := ag_lB σ gh vh gp vp hc (fun σ K => ag_SB_at5 σ (c + 1) gb vb i K) K
theorem ag_SK_Bpt5 (hc : B + 7 ≤ c) (i z : Int) (K : ag_Rs → ag_S → Prop) : ag_cl9 93 [ag_R (c + 1 + 6), ag_I i, ag_I z] (ag_SK B σ c gh vh gb vb gp vp) K = K (Sum.inl none) (ag_SK B σ c gh vh (ag_ug gb 5 (ag_wr 40 (gb 5) i z)) vb gp vp) := ag_lB σ gh vh gp vp hc (fun σ K => ag_SB_pt5 σ (c + 1) gb vb i z K) K
theorem ag_SK_Bg6 (hc : B + 7 ≤ c) (K : ag_V → Prop) : ag_gf (ag_SK B σ c gh vh gb vb gp vp) (c + 1) 0 6 K = K (ag_R (c + 1 + 7)) := by
  rw [ag_SK_B σ _ _ _ _ _ _ hc]
  exact ag_SB_g6 _ _ gb vb K
theorem ag_SK_Bat6 (hc : B + 7 ≤ c) (i : Int) (K : ag_Rs → ag_S → Prop) : ag_cl9 92 [ag_R (c + 1 + 7), ag_I i] (ag_SK B σ c gh vh gb vb gp vp) K = K (Sum.inl (some (ag_I (ag_rd 40 (gb 6) i)))) (ag_SK B σ c gh vh gb vb gp vp) := ag_lB σ gh vh gp vp hc (fun σ K => ag_SB_at6 σ (c + 1) gb vb i K) K
theorem ag_SK_Bpt6 (hc : B + 7 ≤ c) (i z : Int) (K : ag_Rs → ag_S → Prop) : ag_cl9 93 [ag_R (c + 1 + 7), ag_I i, ag_I z] (ag_SK B σ c gh vh gb vb gp vp) K = K (Sum.inl none) (ag_SK B σ c gh vh (ag_ug gb 6 (ag_wr 40 (gb 6) i z)) vb gp vp) := ag_lB σ gh vh gp vp hc (fun σ K => ag_SB_pt6 σ (c + 1) gb vb i z K) K
theorem ag_SK_Bg7 (hc : B + 7 ≤ c) (K : ag_V → Prop) : ag_gf (ag_SK B σ c gh vh gb vb gp vp) (c + 1) 0 7 K = K (ag_R (c + 1 + 8)) := by
  rw [ag_SK_B σ _ _ _ _ _ _ hc]
  exact ag_SB_g7 _ _ gb vb K
theorem ag_SK_Bat7 (hc : B + 7 ≤ c) (i : Int) (K : ag_Rs → ag_S → Prop) : ag_cl9 92 [ag_R (c + 1 + 8), ag_I i] (ag_SK B σ c gh vh gb vb gp vp) K = K (Sum.inl (some (ag_I (ag_rd 40 (gb 7) i)))) (ag_SK B σ c gh vh gb vb gp vp) := ag_lB σ gh vh gp vp hc (fun σ K => ag_SB_at7 σ (c + 1) gb vb i K) K
theorem ag_SK_Bpt7 (hc : B + 7 ≤ c) (i z : Int) (K : ag_Rs → ag_S → Prop) : ag_cl9 93 [ag_R (c + 1 + 8), ag_I i, ag_I z] (ag_SK B σ c gh vh gb vb gp vp) K = K (Sum.inl none) (ag_SK B σ c gh vh (ag_ug gb 7 (ag_wr 40 (gb 7) i z)) vb gp vp) := ag_lB σ gh vh gp vp hc (fun σ K => ag_SB_pt7 σ (c + 1) gb vb i z K) K
theorem ag_SK_Bg8 (hc : B + 7 ≤ c) (K : ag_V → Prop) : ag_gf (ag_SK B σ c gh vh gb vb gp vp) (c + 1) 0 8 K = K (ag_I (vb 0)) := by
  rw [ag_SK_B σ _ _ _ _ _ _ hc]
  exact ag_SB_g8 _ _ gb vb K
theorem ag_SK_Bp8 (hc : B + 7 ≤ c) (z : Int) (K : ag_S → Prop) : ag_pf (ag_SK B σ c gh vh gb vb gp vp) (c + 1) 0 8 (ag_I z) K = K (ag_SK B σ c gh vh gb (ag_ui vb 0 z) gp vp) := by
  rw [ag_SK_B σ _ _ _ _ _ _ hc, ag_SK_B σ _ _ _ _ _ _ hc]
  exact ag_SB_p8 _ (by omega) gb vb z K
theorem ag_SK_Bg9 (hc : B + 7 ≤ c) (K : ag_V → Prop) : ag_gf (ag_SK B σ c gh vh gb vb gp vp) (c + 1) 0 9 K = K (ag_I (vb 1)) := by
  rw [ag_SK_B σ _ _ _ _ _ _ hc]
  exact ag_SB_g9 _ _ gb vb K
theorem ag_SK_Bp9 (hc : B + 7 ≤ c) (z : Int) (K : ag_S → Prop) : ag_pf (ag_SK B σ c gh vh gb vb gp vp) (c + 1) 0 9 (ag_I z) K = K (ag_SK B σ c gh vh gb (ag_ui vb 1 z) gp vp) := by
  rw [ag_SK_B σ _ _ _ _ _ _ hc, ag_SK_B σ _ _ _ _ _ _ hc]
  exact ag_SB_p9 _ (by omega) gb vb z K
theorem ag_SK_Bck (hc : B + 7 ≤ c) (P : Prop) : ag_ck (ag_SK B σ c gh vh gb vb gp vp) (c + 1) 0 P = P := by
  rw [ag_SK_B σ _ _ _ _ _ _ hc]
  exact ag_SB_ck _ _ gb vb P
theorem ag_SK_Pg0 (hc : B + 7 ≤ c) (K : ag_V → Prop) : ag_gf (ag_SK B σ c gh vh gb vb gp vp) (c + 10) 3 0 K = K (ag_R (c + 10 + 1)) := by
  rw [ag_SK_P σ _ _ _ _ _ _]
  exact ag_SP_g0 _ _ gp vp K
theorem ag_SK_Pat0 (hc : B + 7 ≤ c) (i : Int) (K : ag_Rs → ag_S → Prop) : ag_cl9 92 [ag_R (c + 10 + 1), ag_I i] (ag_SK B σ c gh vh gb vb gp vp) K = K (Sum.inl (some (ag_I (ag_rd 20 (gp 0) i)))) (ag_SK B σ c gh vh gb vb gp vp) := ag_lP σ gh vh gb vb (fun σ K => ag_SP_at0 σ (c + 10) gp vp i K) K
theorem ag_SK_Ppt0 (hc : B + 7 ≤ c) (i z : Int) (K : ag_Rs → ag_S → Prop) : ag_cl9 93 [ag_R (c + 10 + 1), ag_I i, ag_I z] (ag_SK B σ c gh vh gb vb gp vp) K = K (Sum.inl none) (ag_SK B σ c gh vh gb vb (ag_ug gp 0 (ag_wr 20 (gp 0) i z)) vp) := ag_lP σ gh vh gb vb (fun σ K => ag_SP_pt0 σ (c + 10) gp vp i z K) K
theorem ag_SK_Pg1 (hc : B + 7 ≤ c) (K : ag_V → Prop) : ag_gf (ag_SK B σ c gh vh gb vb gp vp) (c + 10) 3 1 K = K (ag_R (c + 10 + 2)) := by
  rw [ag_SK_P σ _ _ _ _ _ _]
  exact ag_SP_g1 _ _ gp vp K
theorem ag_SK_Pat1 (hc : B + 7 ≤ c) (i : Int) (K : ag_Rs → ag_S → Prop) : ag_cl9 92 [ag_R (c + 10 + 2), ag_I i] (ag_SK B σ c gh vh gb vb gp vp) K = K (Sum.inl (some (ag_I (ag_rd 20 (gp 1) i)))) (ag_SK B σ c gh vh gb vb gp vp) := ag_lP σ gh vh gb vb (fun σ K => ag_SP_at1 σ (c + 10) gp vp i K) K
theorem ag_SK_Ppt1 (hc : B + 7 ≤ c) (i z : Int) (K : ag_Rs → ag_S → Prop) : ag_cl9 93 [ag_R (c + 10 + 2), ag_I i, ag_I z] (ag_SK B σ c gh vh gb vb gp vp) K = K (Sum.inl none) (ag_SK B σ c gh vh gb vb (ag_ug gp 1 (ag_wr 20 (gp 1) i z)) vp) := ag_lP σ gh vh gb vb (fun σ K => ag_SP_pt1 σ (c + 10) gp vp i z K) K
theorem ag_SK_Pg2 (hc : B + 7 ≤ c) (K : ag_V → Prop) : ag_gf (ag_SK B σ c gh vh gb vb gp vp) (c + 10) 3 2 K = K (ag_R (c + 10 + 3)) := by
  rw [ag_SK_P σ _ _ _ _ _ _]
  exact ag_SP_g2 _ _ gp vp K
theorem ag_SK_Pat2 (hc : B + 7 ≤ c) (i : Int) (K : ag_Rs → ag_S → Prop) : ag_cl9 92 [ag_R (c + 10 + 3), ag_I i] (ag_SK B σ c gh vh gb vb gp vp) K = K (Sum.inl (some (ag_I (ag_rd 20 (gp 2) i)))) (ag_SK B σ c gh vh gb vb gp vp) := ag_lP σ gh vh gb vb (fun σ K => ag_SP_at2 σ (c + 10) gp vp i K) K
theorem ag_SK_Ppt2 (hc : B + 7 ≤ c) (i z : Int) (K : ag_Rs → ag_S → Prop) : ag_cl9 93 [ag_R (c + 10 + 3), ag_I i, ag_I z] (ag_SK B σ c gh vh gb vb gp vp) K = K (Sum.inl none) (ag_SK B σ c gh vh gb vb (ag_ug gp 2 (ag_wr 20 (gp 2) i z)) vp) := ag_lP σ gh vh gb vb (fun σ K => ag_SP_pt2 σ (c + 10) gp vp i z K) K
theorem ag_SK_Pg3 (hc : B + 7 ≤ c) (K : ag_V → Prop) : ag_gf (ag_SK B σ c gh vh gb vb gp vp) (c + 10) 3 3 K = K (ag_R (c + 10 + 4)) := by
  rw [ag_SK_P σ _ _ _ _ _ _]
  exact ag_SP_g3 _ _ gp vp K
theorem ag_SK_Pat3 (hc : B + 7 ≤ c) (i : Int) (K : ag_Rs → ag_S → Prop) : ag_cl9 92 [ag_R (c + 10 + 4), ag_I i] (ag_SK B σ c gh vh gb vb gp vp) K = K (Sum.inl (some (ag_I (ag_rd 20 (gp 3) i)))) (ag_SK B σ c gh vh gb vb gp vp) := ag_lP σ gh vh gb vb (fun σ K => ag_SP_at3 σ (c + 10) gp vp i K) K
theorem ag_SK_Ppt3 (hc : B + 7 ≤ c) (i z : Int) (K : ag_Rs → ag_S → Prop) : ag_cl9 93 [ag_R (c + 10 + 4), ag_I i, ag_I z] (ag_SK B σ c gh vh gb vb gp vp) K = K (Sum.inl none) (ag_SK B σ c gh vh gb vb (ag_ug gp 3 (ag_wr 20 (gp 3) i z)) vp) := ag_lP σ gh vh gb vb (fun σ K => ag_SP_pt3 σ (c + 10) gp vp i z K) K
theorem ag_SK_Pg4 (hc : B + 7 ≤ c) (K : ag_V → Prop) : ag_gf (ag_SK B σ c gh vh gb vb gp vp) (c + 10) 3 4 K = K (ag_R (c + 10 + 5)) := by
  rw [ag_SK_P σ _ _ _ _ _ _]
  exact ag_SP_g4 _ _ gp vp K
theorem ag_SK_Pat4 (hc : B + 7 ≤ c) (i : Int) (K : ag_Rs → ag_S → Prop) : ag_cl9 92 [ag_R (c + 10 + 5), ag_I i] (ag_SK B σ c gh vh gb vb gp vp) K = K (Sum.inl (some (ag_I (ag_rd 20 (gp 4) i)))) (ag_SK B σ c gh vh gb vb gp vp) := ag_lP σ gh vh gb vb (fun σ K => ag_SP_at4 σ (c + 10) gp vp i K) K
theorem ag_SK_Ppt4 (hc : B + 7 ≤ c) (i z : Int) (K : ag_Rs → ag_S → Prop) : ag_cl9 93 [ag_R (c + 10 + 5), ag_I i, ag_I z] (ag_SK B σ c gh vh gb vb gp vp) K = K (Sum.inl none) (ag_SK B σ c gh vh gb vb (ag_ug gp 4 (ag_wr 20 (gp 4) i z)) vp) := ag_lP σ gh vh gb vb (fun σ K => ag_SP_pt4 σ (c + 10) gp vp i z K) K
theorem ag_SK_Pg5 (hc : B + 7 ≤ c) (K : ag_V → Prop) : ag_gf (ag_SK B σ c gh vh gb vb gp vp) (c + 10) 3 5 K = K (ag_R (c + 10 + 6)) := by
  rw [ag_SK_P σ _ _ _ _ _ _]
  exact ag_SP_g5 _ _ gp vp K
theorem ag_SK_Pat5 (hc : B + 7 ≤ c) (i : Int) (K : ag_Rs → ag_S → Prop) : ag_cl9 92 [ag_R (c + 10 + 6), ag_I i] (ag_SK B σ c gh vh gb vb gp vp) K = K (Sum.inl (some (ag_I (ag_rd 20 (gp 5) i)))) (ag_SK B σ c gh vh gb vb gp vp) := ag_lP σ gh vh gb vb (fun σ K => ag_SP_at5 σ (c + 10) gp vp i K) K
theorem ag_SK_Ppt5 (hc : B + 7 ≤ c) (i z : Int) (K : ag_Rs → ag_S → Prop) : ag_cl9 93 [ag_R (c + 10 + 6), ag_I i, ag_I z] (ag_SK B σ c gh vh gb vb gp vp) K = K (Sum.inl none) (ag_SK B σ c gh vh gb vb (ag_ug gp 5 (ag_wr 20 (gp 5) i z)) vp) := ag_lP σ gh vh gb vb (fun σ K => ag_SP_pt5 σ (c + 10) gp vp i z K) K
theorem ag_SK_Pg6 (hc : B + 7 ≤ c) (K : ag_V → Prop) : ag_gf (ag_SK B σ c gh vh gb vb gp vp) (c + 10) 3 6 K = K (ag_I (vp 0)) := by
  rw [ag_SK_P σ _ _ _ _ _ _]
  exact ag_SP_g6 _ _ gp vp K
theorem ag_SK_Pp6 (hc : B + 7 ≤ c) (z : Int) (K : ag_S → Prop) : ag_pf (ag_SK B σ c gh vh gb vb gp vp) (c + 10) 3 6 (ag_I z) K = K (ag_SK B σ c gh vh gb vb gp (ag_ui vp 0 z)) := by
  rw [ag_SK_P σ _ _ _ _ _ _, ag_SK_P σ _ _ _ _ _ _]
  exact ag_SP_p6 _ (by omega) gp vp z K
theorem ag_SK_Pck (hc : B + 7 ≤ c) (P : Prop) : ag_ck (ag_SK B σ c gh vh gb vb gp vp) (c + 10) 3 P = P := by
  rw [ag_SK_P σ _ _ _ _ _ _]
  exact ag_SP_ck _ _ gp vp P
theorem ag_SK_Hg0 (hc : B + 7 ≤ c) (K : ag_V → Prop) : ag_gf (ag_SK B σ c gh vh gb vb gp vp) (B + 2) 2 0 K = K (ag_R (B + 2 + 1)) := by
  rw [ag_SK_H σ _ _ _ _ _ _ hc]
  exact ag_SH_g0 _ _ gh vh K
theorem ag_SK_Hat0 (hc : B + 7 ≤ c) (i : Int) (K : ag_Rs → ag_S → Prop) : ag_cl9 92 [ag_R (B + 2 + 1), ag_I i] (ag_SK B σ c gh vh gb vb gp vp) K = K (Sum.inl (some (ag_I (ag_rd 5 (gh 0) i)))) (ag_SK B σ c gh vh gb vb gp vp) := ag_lH σ gb vb gp vp hc (fun σ K => ag_SH_at0 σ (B + 2) gh vh i K) K
theorem ag_SK_Hpt0 (hc : B + 7 ≤ c) (i z : Int) (K : ag_Rs → ag_S → Prop) : ag_cl9 93 [ag_R (B + 2 + 1), ag_I i, ag_I z] (ag_SK B σ c gh vh gb vb gp vp) K = K (Sum.inl none) (ag_SK B σ c (ag_ug gh 0 (ag_wr 5 (gh 0) i z)) vh gb vb gp vp) := ag_lH σ gb vb gp vp hc (fun σ K => ag_SH_pt0 σ (B + 2) gh vh i z K) K
theorem ag_SK_Hg1 (hc : B + 7 ≤ c) (K : ag_V → Prop) : ag_gf (ag_SK B σ c gh vh gb vb gp vp) (B + 2) 2 1 K = K (ag_R (B + 2 + 2)) := by
  rw [ag_SK_H σ _ _ _ _ _ _ hc]
  exact ag_SH_g1 _ _ gh vh K
theorem ag_SK_Hat1 (hc : B + 7 ≤ c) (i : Int) (K : ag_Rs → ag_S → Prop) : ag_cl9 92 [ag_R (B + 2 + 2), ag_I i] (ag_SK B σ c gh vh gb vb gp vp) K = K (Sum.inl (some (ag_I (ag_rd 5 (gh 1) i)))) (ag_SK B σ c gh vh gb vb gp vp) := ag_lH σ gb vb gp vp hc (fun σ K => ag_SH_at1 σ (B + 2) gh vh i K) K
theorem ag_SK_Hpt1 (hc : B + 7 ≤ c) (i z : Int) (K : ag_Rs → ag_S → Prop) : ag_cl9 93 [ag_R (B + 2 + 2), ag_I i, ag_I z] (ag_SK B σ c gh vh gb vb gp vp) K = K (Sum.inl none) (ag_SK B σ c (ag_ug gh 1 (ag_wr 5 (gh 1) i z)) vh gb vb gp vp) := ag_lH σ gb vb gp vp hc (fun σ K => ag_SH_pt1 σ (B + 2) gh vh i z K) K
theorem ag_SK_Hg2 (hc : B + 7 ≤ c) (K : ag_V → Prop) : ag_gf (ag_SK B σ c gh vh gb vb gp vp) (B + 2) 2 2 K = K (ag_R (B + 2 + 3)) := by
  rw [ag_SK_H σ _ _ _ _ _ _ hc]
  exact ag_SH_g2 _ _ gh vh K
theorem ag_SK_Hat2 (hc : B + 7 ≤ c) (i : Int) (K : ag_Rs → ag_S → Prop) : ag_cl9 92 [ag_R (B + 2 + 3), ag_I i] (ag_SK B σ c gh vh gb vb gp vp) K = K (Sum.inl (some (ag_I (ag_rd 5 (gh 2) i)))) (ag_SK B σ c gh vh gb vb gp vp) := ag_lH σ gb vb gp vp hc (fun σ K => ag_SH_at2 σ (B + 2) gh vh i K) K
theorem ag_SK_Hpt2 (hc : B + 7 ≤ c) (i z : Int) (K : ag_Rs → ag_S → Prop) : ag_cl9 93 [ag_R (B + 2 + 3), ag_I i, ag_I z] (ag_SK B σ c gh vh gb vb gp vp) K = K (Sum.inl none) (ag_SK B σ c (ag_ug gh 2 (ag_wr 5 (gh 2) i z)) vh gb vb gp vp) := ag_lH σ gb vb gp vp hc (fun σ K => ag_SH_pt2 σ (B + 2) gh vh i z K) K
theorem ag_SK_Hg3 (hc : B + 7 ≤ c) (K : ag_V → Prop) : ag_gf (ag_SK B σ c gh vh gb vb gp vp) (B + 2) 2 3 K = K (ag_R (B + 2 + 4)) := by
  rw [ag_SK_H σ _ _ _ _ _ _ hc]
  exact ag_SH_g3 _ _ gh vh K
theorem ag_SK_Hat3 (hc : B + 7 ≤ c) (i : Int) (K : ag_Rs → ag_S → Prop) : ag_cl9 92 [ag_R (B + 2 + 4), ag_I i] (ag_SK B σ c gh vh gb vb gp vp) K = K (Sum.inl (some (ag_I (ag_rd 100 (gh 3) i)))) (ag_SK B σ c gh vh gb vb gp vp) := ag_lH σ gb vb gp vp hc (fun σ K => ag_SH_at3 σ (B + 2) gh vh i K) K
theorem ag_SK_Hpt3 (hc : B + 7 ≤ c) (i z : Int) (K : ag_Rs → ag_S → Prop) : ag_cl9 93 [ag_R (B + 2 + 4), ag_I i, ag_I z] (ag_SK B σ c gh vh gb vb gp vp) K = K (Sum.inl none) (ag_SK B σ c (ag_ug gh 3 (ag_wr 100 (gh 3) i z)) vh gb vb gp vp) := ag_lH σ gb vb gp vp hc (fun σ K => ag_SH_pt3 σ (B + 2) gh vh i z K) K
theorem ag_SK_Hg4 (hc : B + 7 ≤ c) (K : ag_V → Prop) : ag_gf (ag_SK B σ c gh vh gb vb gp vp) (B + 2) 2 4 K = K (ag_I (vh 0)) := by
  rw [ag_SK_H σ _ _ _ _ _ _ hc]
  exact ag_SH_g4 _ _ gh vh K
theorem ag_SK_Hp4 (hc : B + 7 ≤ c) (z : Int) (K : ag_S → Prop) : ag_pf (ag_SK B σ c gh vh gb vb gp vp) (B + 2) 2 4 (ag_I z) K = K (ag_SK B σ c gh (ag_ui vh 0 z) gb vb gp vp) := by
  rw [ag_SK_H σ _ _ _ _ _ _ hc, ag_SK_H σ _ _ _ _ _ _ hc]
  exact ag_SH_p4 _ (by omega) gh vh z K
theorem ag_SK_Hg5 (hc : B + 7 ≤ c) (K : ag_V → Prop) : ag_gf (ag_SK B σ c gh vh gb vb gp vp) (B + 2) 2 5 K = K (ag_I (vh 1)) := by
  rw [ag_SK_H σ _ _ _ _ _ _ hc]
  exact ag_SH_g5 _ _ gh vh K
theorem ag_SK_Hp5 (hc : B + 7 ≤ c) (z : Int) (K : ag_S → Prop) : ag_pf (ag_SK B σ c gh vh gb vb gp vp) (B + 2) 2 5 (ag_I z) K = K (ag_SK B σ c gh (ag_ui vh 1 z) gb vb gp vp) := by
  rw [ag_SK_H σ _ _ _ _ _ _ hc, ag_SK_H σ _ _ _ _ _ _ hc]
  exact ag_SH_p5 _ (by omega) gh vh z K
theorem ag_SK_Hg6 (hc : B + 7 ≤ c) (K : ag_V → Prop) : ag_gf (ag_SK B σ c gh vh gb vb gp vp) (B + 2) 2 6 K = K (ag_I (vh 2)) := by
  rw [ag_SK_H σ _ _ _ _ _ _ hc]
  exact ag_SH_g6 _ _ gh vh K
theorem ag_SK_Hp6 (hc : B + 7 ≤ c) (z : Int) (K : ag_S → Prop) : ag_pf (ag_SK B σ c gh vh gb vb gp vp) (B + 2) 2 6 (ag_I z) K = K (ag_SK B σ c gh (ag_ui vh 2 z) gb vb gp vp) := by
  rw [ag_SK_H σ _ _ _ _ _ _ hc, ag_SK_H σ _ _ _ _ _ _ hc]
  exact ag_SH_p6 _ (by omega) gh vh z K
theorem ag_SK_Hck (hc : B + 7 ≤ c) (P : Prop) : ag_ck (ag_SK B σ c gh vh gb vb gp vp) (B + 2) 2 P = P := by
  rw [ag_SK_H σ _ _ _ _ _ _ hc]
  exact ag_SH_ck _ _ gh vh P
end AGL
