/-! OBJECTS WITH ROWS (by program, wip/whole/gen_obj.py): a store in which the object at a holds the rows g (its arrays, at a + 1 and on) and the numbers v. -/
def ag_rd (n : Nat) (g : Nat → Int) (i : Int) : Int := if 0 ≤ ag_nm i ∧ ag_nm i < n then g (ag_nm i).toNat else -1
def ag_wr (n : Nat) (g : Nat → Int) (i x : Int) : Nat → Int := if 0 ≤ ag_nm i ∧ ag_nm i < n then ag_ui g (ag_nm i).toNat x else g
/-- row k of g becomes x -/
def ag_ug (g : Nat → Nat → Int) (k : Nat) (x : Nat → Int) : Nat → Nat → Int := fun j => if j = k then x else g j
theorem ag_nm_of {x : Int} (h1 : -2147483648 ≤ x) (h2 : x < 2147483648) : ag_nm x = x := by
  unfold ag_nm
  exact Int32.toInt_ofInt_of_le h1 h2
theorem ag_nm_nat {n : Nat} (h : n ≤ 1000000) : ag_nm (n : Int) = n := ag_nm_of (by omega) (by omega)
theorem ag_nm_m : ag_nm (-1) = -1 := by decide +kernel
theorem ag_nm_1 : ag_nm 1 = 1 := by decide +kernel
theorem ag_ug_same (g : Nat → Nat → Int) (k : Nat) (x : Nat → Int) : ag_ug g k x k = x := by simp [ag_ug]
theorem ag_ug_ne (g : Nat → Nat → Int) {k j : Nat} (x : Nat → Int) (h : j ≠ k) : ag_ug g k x j = g j := by simp [ag_ug, h]
theorem ag_at_eq {σ : ag_S} {a n : Nat} {g : Nat → Int} (h : σ.1 a = some (Sum.inl (n, g))) (hn : n ≤ 1000000) (i : Int) (K : ag_Rs → ag_S → Prop) : ag_cl9 92 [ag_R a, ag_I i] σ K = K (Sum.inl (some (ag_I (ag_rd n g i)))) σ := by
  simp only [ag_e92, ag_i92_0, ag_i92_1, ag_i92_4, ag_i92_5, ag_i92_6, ag_i92_7, ag_i92_10, ag_i92_11, ag_i92_12, ag_i92_13, ag_i92_16, ag_i92_17, ag_al9, ag_ia, h, ag_nm_z, ag_nm_nat hn]
  unfold ag_rd
  by_cases h1 : ag_nm i < 0
  · rw [if_pos h1, if_neg (by omega)]
  · rw [if_neg h1]
    by_cases h2 : (n : Int) ≤ ag_nm i
    · rw [if_pos h2, if_neg (by omega)]
    · rw [if_neg h2, if_pos (by omega)]
      simp only [show (0 ≤ ag_nm i ∧ ag_nm i < n) = True from by simp; omega, true_and]
theorem ag_put_eq {σ : ag_S} {a n : Nat} {g : Nat → Int} (h : σ.1 a = some (Sum.inl (n, g))) (hn : n ≤ 1000000) (ha : 1 ≤ a) (i x : Int) (K : ag_Rs → ag_S → Prop) : ag_cl9 93 [ag_R a, ag_I i, ag_I x] σ K = K (Sum.inl none) (ag_up σ.1 a (Sum.inl (n, ag_wr n g i x)), σ.2) := by
  have hup : (ag_up σ.1 a (Sum.inl (n, g)), σ.2) = σ := by
    refine Prod.ext (funext fun k => ?_) rfl
    show (if k = a then some (Sum.inl (n, g)) else σ.1 k) = σ.1 k
    split
    · rename_i hk; rw [hk, h]
    · rfl
  simp only [ag_e93, ag_i93_0, ag_i93_1, ag_i93_4, ag_i93_5, ag_i93_6, ag_i93_7, ag_i93_10, ag_i93_11, ag_i93_12, ag_i93_13, ag_i93_14, ag_al9, ag_is, h, ag_nm_z, ag_nm_nat hn]
  unfold ag_wr
  by_cases h1 : ag_nm i < 0
  · rw [if_pos h1, if_neg (by omega), hup]
  · rw [if_neg h1]
    by_cases h2 : (n : Int) ≤ ag_nm i
    · rw [if_pos h2, if_neg (by omega), hup]
    · rw [if_neg h2, if_pos (by omega)]
      simp only [show (0 ≤ ag_nm i ∧ ag_nm i < n ∧ 1 ≤ a) = True from by simp; omega, true_and]
def ag_SB (σ : ag_S) (a : Nat) (g : Nat → Nat → Int) (v : Nat → Int) : ag_S := (fun z => if z = a then some (Sum.inr (Sum.inr (Sum.inr (0, [ag_R (a + 1), ag_R (a + 2), ag_R (a + 3), ag_R (a + 4), ag_R (a + 5), ag_R (a + 6), ag_R (a + 7), ag_R (a + 8), ag_I (v 0), ag_I (v 1)])))) else if z = a + 1 then some (Sum.inl (40, g 0)) else if z = a + 2 then some (Sum.inl (40, g 1)) else if z = a + 3 then some (Sum.inl (40, g 2)) else if z = a + 4 then some (Sum.inl (40, g 3)) else if z = a + 5 then some (Sum.inl (40, g 4)) else if z = a + 6 then some (Sum.inl (40, g 5)) else if z = a + 7 then some (Sum.inl (40, g 6)) else if z = a + 8 then some (Sum.inl (40, g 7)) else σ.1 z, σ.2)
def ag_CB (σ : ag_S) (a : Nat) (g : Nat → Nat → Int) (v : Nat → Int) : Prop := σ.1 a = some (Sum.inr (Sum.inr (Sum.inr (0, [ag_R (a + 1), ag_R (a + 2), ag_R (a + 3), ag_R (a + 4), ag_R (a + 5), ag_R (a + 6), ag_R (a + 7), ag_R (a + 8), ag_I (v 0), ag_I (v 1)])))) ∧ σ.1 (a + 1) = some (Sum.inl (40, g 0)) ∧ σ.1 (a + 2) = some (Sum.inl (40, g 1)) ∧ σ.1 (a + 3) = some (Sum.inl (40, g 2)) ∧ σ.1 (a + 4) = some (Sum.inl (40, g 3)) ∧ σ.1 (a + 5) = some (Sum.inl (40, g 4)) ∧ σ.1 (a + 6) = some (Sum.inl (40, g 5)) ∧ σ.1 (a + 7) = some (Sum.inl (40, g 6)) ∧ σ.1 (a + 8) = some (Sum.inl (40, g 7))
theorem ag_SB_o (σ : ag_S) (a : Nat) (g : Nat → Nat → Int) (v : Nat → Int) : (ag_SB σ a g v).1 a = some (Sum.inr (Sum.inr (Sum.inr (0, [ag_R (a + 1), ag_R (a + 2), ag_R (a + 3), ag_R (a + 4), ag_R (a + 5), ag_R (a + 6), ag_R (a + 7), ag_R (a + 8), ag_I (v 0), ag_I (v 1)])))) := by simp [ag_SB]
theorem ag_SB_a0 (σ : ag_S) (a : Nat) (g : Nat → Nat → Int) (v : Nat → Int) : (ag_SB σ a g v).1 (a + 1) = some (Sum.inl (40, g 0)) := by simp [ag_SB]
theorem ag_SB_a1 (σ : ag_S) (a : Nat) (g : Nat → Nat → Int) (v : Nat → Int) : (ag_SB σ a g v).1 (a + 2) = some (Sum.inl (40, g 1)) := by simp [ag_SB]
theorem ag_SB_a2 (σ : ag_S) (a : Nat) (g : Nat → Nat → Int) (v : Nat → Int) : (ag_SB σ a g v).1 (a + 3) = some (Sum.inl (40, g 2)) := by simp [ag_SB]
theorem ag_SB_a3 (σ : ag_S) (a : Nat) (g : Nat → Nat → Int) (v : Nat → Int) : (ag_SB σ a g v).1 (a + 4) = some (Sum.inl (40, g 3)) := by simp [ag_SB]
theorem ag_SB_a4 (σ : ag_S) (a : Nat) (g : Nat → Nat → Int) (v : Nat → Int) : (ag_SB σ a g v).1 (a + 5) = some (Sum.inl (40, g 4)) := by simp [ag_SB]
theorem ag_SB_a5 (σ : ag_S) (a : Nat) (g : Nat → Nat → Int) (v : Nat → Int) : (ag_SB σ a g v).1 (a + 6) = some (Sum.inl (40, g 5)) := by simp [ag_SB]
theorem ag_SB_a6 (σ : ag_S) (a : Nat) (g : Nat → Nat → Int) (v : Nat → Int) : (ag_SB σ a g v).1 (a + 7) = some (Sum.inl (40, g 6)) := by simp [ag_SB]
theorem ag_SB_a7 (σ : ag_S) (a : Nat) (g : Nat → Nat → Int) (v : Nat → Int) : (ag_SB σ a g v).1 (a + 8) = some (Sum.inl (40, g 7)) := by simp [ag_SB]
theorem ag_SB_c (σ : ag_S) (a : Nat) (g : Nat → Nat → Int) (v : Nat → Int) : ag_CB (ag_SB σ a g v) a g v := ⟨ag_SB_o σ a g v, ag_SB_a0 σ a g v, ag_SB_a1 σ a g v, ag_SB_a2 σ a g v, ag_SB_a3 σ a g v, ag_SB_a4 σ a g v, ag_SB_a5 σ a g v, ag_SB_a6 σ a g v, ag_SB_a7 σ a g v⟩
theorem ag_SB_fr (σ : ag_S) (a : Nat) (g : Nat → Nat → Int) (v : Nat → Int) {z : Nat} (h : z < a ∨ a + 8 < z) : (ag_SB σ a g v).1 z = σ.1 z := by
  unfold ag_SB
  dsimp only
  rw [if_neg (by omega), if_neg (by omega), if_neg (by omega), if_neg (by omega), if_neg (by omega), if_neg (by omega), if_neg (by omega), if_neg (by omega), if_neg (by omega)]
theorem ag_SB_of {σ : ag_S} {a : Nat} {g : Nat → Nat → Int} {v : Nat → Int} (h : ag_CB σ a g v) : ag_SB σ a g v = σ := by
  obtain ⟨h0, h1, h2, h3, h4, h5, h6, h7, h8⟩ := h
  refine Prod.ext (funext fun z => ?_) rfl
  unfold ag_SB
  dsimp only
  split
  · rename_i q; rw [q, h0]
  · split
    · rename_i q; rw [q, h1]
    · split
      · rename_i q; rw [q, h2]
      · split
        · rename_i q; rw [q, h3]
        · split
          · rename_i q; rw [q, h4]
          · split
            · rename_i q; rw [q, h5]
            · split
              · rename_i q; rw [q, h6]
              · split
                · rename_i q; rw [q, h7]
                · split
                  · rename_i q; rw [q, h8]
                  · rfl
theorem ag_SB_2 (σ : ag_S) (a : Nat) (g g2 : Nat → Nat → Int) (v v2 : Nat → Int) : ag_SB (ag_SB σ a g v) a g2 v2 = ag_SB σ a g2 v2 := by
  refine Prod.ext (funext fun z => ?_) rfl
  by_cases h : z < a ∨ a + 8 < z
  · rw [ag_SB_fr _ a g2 v2 h, ag_SB_fr _ a g2 v2 h, ag_SB_fr _ a g v h]
  · have h2 : z = a ∨ z = a + 1 ∨ z = a + 2 ∨ z = a + 3 ∨ z = a + 4 ∨ z = a + 5 ∨ z = a + 6 ∨ z = a + 7 ∨ z = a + 8 := by omega
    rcases h2 with rfl | rfl | rfl | rfl | rfl | rfl | rfl | rfl | rfl
    · exact (ag_SB_o _ _ g2 v2).trans (ag_SB_o _ _ g2 v2).symm
    · exact (ag_SB_a0 _ _ g2 v2).trans (ag_SB_a0 _ _ g2 v2).symm
    · exact (ag_SB_a1 _ _ g2 v2).trans (ag_SB_a1 _ _ g2 v2).symm
    · exact (ag_SB_a2 _ _ g2 v2).trans (ag_SB_a2 _ _ g2 v2).symm
    · exact (ag_SB_a3 _ _ g2 v2).trans (ag_SB_a3 _ _ g2 v2).symm
    · exact (ag_SB_a4 _ _ g2 v2).trans (ag_SB_a4 _ _ g2 v2).symm
    · exact (ag_SB_a5 _ _ g2 v2).trans (ag_SB_a5 _ _ g2 v2).symm
    · exact (ag_SB_a6 _ _ g2 v2).trans (ag_SB_a6 _ _ g2 v2).symm
    · exact (ag_SB_a7 _ _ g2 v2).trans (ag_SB_a7 _ _ g2 v2).symm

theorem ag_SB_g0 (σ : ag_S) (a : Nat) (g : Nat → Nat → Int) (v : Nat → Int) (K : ag_V → Prop) : ag_gf (ag_SB σ a g v) a 0 0 K = K (ag_R (a + 1)) := by
  unfold ag_gf
  rw [ag_SB_o]
  simp
theorem ag_SB_g1 (σ : ag_S) (a : Nat) (g : Nat → Nat → Int) (v : Nat → Int) (K : ag_V → Prop) : ag_gf (ag_SB σ a g v) a 0 1 K = K (ag_R (a + 2)) := by
  unfold ag_gf
  rw [ag_SB_o]
  simp
theorem ag_SB_g2 (σ : ag_S) (a : Nat) (g : Nat → Nat → Int) (v : Nat → Int) (K : ag_V → Prop) : ag_gf (ag_SB σ a g v) a 0 2 K = K (ag_R (a + 3)) := by
  unfold ag_gf
  rw [ag_SB_o]
  simp
theorem ag_SB_g3 (σ : ag_S) (a : Nat) (g : Nat → Nat → Int) (v : Nat → Int) (K : ag_V → Prop) : ag_gf (ag_SB σ a g v) a 0 3 K = K (ag_R (a + 4)) := by
  unfold ag_gf
  rw [ag_SB_o]
  simp
theorem ag_SB_g4 (σ : ag_S) (a : Nat) (g : Nat → Nat → Int) (v : Nat → Int) (K : ag_V → Prop) : ag_gf (ag_SB σ a g v) a 0 4 K = K (ag_R (a + 5)) := by
  unfold ag_gf
  rw [ag_SB_o]
  simp
theorem ag_SB_g5 (σ : ag_S) (a : Nat) (g : Nat → Nat → Int) (v : Nat → Int) (K : ag_V → Prop) : ag_gf (ag_SB σ a g v) a 0 5 K = K (ag_R (a + 6)) := by
  unfold ag_gf
  rw [ag_SB_o]
  simp
theorem ag_SB_g6 (σ : ag_S) (a : Nat) (g : Nat → Nat → Int) (v : Nat → Int) (K : ag_V → Prop) : ag_gf (ag_SB σ a g v) a 0 6 K = K (ag_R (a + 7)) := by
  unfold ag_gf
  rw [ag_SB_o]
  simp
theorem ag_SB_g7 (σ : ag_S) (a : Nat) (g : Nat → Nat → Int) (v : Nat → Int) (K : ag_V → Prop) : ag_gf (ag_SB σ a g v) a 0 7 K = K (ag_R (a + 8)) := by
  unfold ag_gf
  rw [ag_SB_o]
  simp
theorem ag_SB_g8 (σ : ag_S) (a : Nat) (g : Nat → Nat → Int) (v : Nat → Int) (K : ag_V → Prop) : ag_gf (ag_SB σ a g v) a 0 8 K = K (ag_I (v 0)) := by
  unfold ag_gf
  rw [ag_SB_o]
  simp
theorem ag_SB_p8 (σ : ag_S) {a : Nat} (ha : 1 ≤ a) (g : Nat → Nat → Int) (v : Nat → Int) (x : Int) (K : ag_S → Prop) : ag_pf (ag_SB σ a g v) a 0 8 (ag_I x) K = K (ag_SB σ a g (ag_ui v 0 x)) := by
  unfold ag_pf
  rw [ag_SB_o]
  have e : (ag_up (ag_SB σ a g v).1 a (Sum.inr (Sum.inr (Sum.inr (0, ([ag_R (a + 1), ag_R (a + 2), ag_R (a + 3), ag_R (a + 4), ag_R (a + 5), ag_R (a + 6), ag_R (a + 7), ag_R (a + 8), ag_I (v 0), ag_I (v 1)] : List ag_V).set 8 (ag_I x))))), (ag_SB σ a g v).2) = ag_SB σ a g (ag_ui v 0 x) := by
    refine Prod.ext (funext fun z => ?_) rfl
    unfold ag_up ag_SB
    dsimp only
    by_cases hz : z = a
    · rw [if_pos hz, if_pos hz]
      simp [ag_ui]
    · rw [if_neg hz, if_neg hz, if_neg hz]
  dsimp only
  rw [e]
  simp [ha]
theorem ag_SB_g9 (σ : ag_S) (a : Nat) (g : Nat → Nat → Int) (v : Nat → Int) (K : ag_V → Prop) : ag_gf (ag_SB σ a g v) a 0 9 K = K (ag_I (v 1)) := by
  unfold ag_gf
  rw [ag_SB_o]
  simp
theorem ag_SB_p9 (σ : ag_S) {a : Nat} (ha : 1 ≤ a) (g : Nat → Nat → Int) (v : Nat → Int) (x : Int) (K : ag_S → Prop) : ag_pf (ag_SB σ a g v) a 0 9 (ag_I x) K = K (ag_SB σ a g (ag_ui v 1 x)) := by
  unfold ag_pf
  rw [ag_SB_o]
  have e : (ag_up (ag_SB σ a g v).1 a (Sum.inr (Sum.inr (Sum.inr (0, ([ag_R (a + 1), ag_R (a + 2), ag_R (a + 3), ag_R (a + 4), ag_R (a + 5), ag_R (a + 6), ag_R (a + 7), ag_R (a + 8), ag_I (v 0), ag_I (v 1)] : List ag_V).set 9 (ag_I x))))), (ag_SB σ a g v).2) = ag_SB σ a g (ag_ui v 1 x) := by
    refine Prod.ext (funext fun z => ?_) rfl
    unfold ag_up ag_SB
    dsimp only
    by_cases hz : z = a
    · rw [if_pos hz, if_pos hz]
      simp [ag_ui]
    · rw [if_neg hz, if_neg hz, if_neg hz]
  dsimp only
  rw [e]
  simp [ha]
theorem ag_SB_at0 (σ : ag_S) (a : Nat) (g : Nat → Nat → Int) (v : Nat → Int) (i : Int) (K : ag_Rs → ag_S → Prop) : ag_cl9 92 [ag_R (a + 1), ag_I i] (ag_SB σ a g v) K = K (Sum.inl (some (ag_I (ag_rd 40 (g 0) i)))) (ag_SB σ a g v) := ag_at_eq (ag_SB_a0 σ a g v) (by decide) i K
theorem ag_SB_u0 (σ : ag_S) (a : Nat) (g : Nat → Nat → Int) (v : Nat → Int) (x : Nat → Int) : (ag_up (ag_SB σ a g v).1 (a + 1) (Sum.inl (40, x)), (ag_SB σ a g v).2) = ag_SB σ a (ag_ug g 0 x) v := by
  refine Prod.ext (funext fun z => ?_) rfl
  unfold ag_up ag_SB
  dsimp only
  by_cases hz : z = a + 1
  · subst hz
    simp [ag_ug]
  · rw [if_neg hz]
    simp [ag_ug, hz]
theorem ag_SB_pt0 (σ : ag_S) (a : Nat) (g : Nat → Nat → Int) (v : Nat → Int) (i x : Int) (K : ag_Rs → ag_S → Prop) : ag_cl9 93 [ag_R (a + 1), ag_I i, ag_I x] (ag_SB σ a g v) K = K (Sum.inl none) (ag_SB σ a (ag_ug g 0 (ag_wr 40 (g 0) i x)) v) := by
  rw [ag_put_eq (ag_SB_a0 σ a g v) (by decide) (by omega) i x K, ag_SB_u0]
theorem ag_SB_at1 (σ : ag_S) (a : Nat) (g : Nat → Nat → Int) (v : Nat → Int) (i : Int) (K : ag_Rs → ag_S → Prop) : ag_cl9 92 [ag_R (a + 2), ag_I i] (ag_SB σ a g v) K = K (Sum.inl (some (ag_I (ag_rd 40 (g 1) i)))) (ag_SB σ a g v) := ag_at_eq (ag_SB_a1 σ a g v) (by decide) i K
theorem ag_SB_u1 (σ : ag_S) (a : Nat) (g : Nat → Nat → Int) (v : Nat → Int) (x : Nat → Int) : (ag_up (ag_SB σ a g v).1 (a + 2) (Sum.inl (40, x)), (ag_SB σ a g v).2) = ag_SB σ a (ag_ug g 1 x) v := by
  refine Prod.ext (funext fun z => ?_) rfl
  unfold ag_up ag_SB
  dsimp only
  by_cases hz : z = a + 2
  · subst hz
    simp [ag_ug]
  · rw [if_neg hz]
    simp [ag_ug, hz]
theorem ag_SB_pt1 (σ : ag_S) (a : Nat) (g : Nat → Nat → Int) (v : Nat → Int) (i x : Int) (K : ag_Rs → ag_S → Prop) : ag_cl9 93 [ag_R (a + 2), ag_I i, ag_I x] (ag_SB σ a g v) K = K (Sum.inl none) (ag_SB σ a (ag_ug g 1 (ag_wr 40 (g 1) i x)) v) := by
  rw [ag_put_eq (ag_SB_a1 σ a g v) (by decide) (by omega) i x K, ag_SB_u1]
theorem ag_SB_at2 (σ : ag_S) (a : Nat) (g : Nat → Nat → Int) (v : Nat → Int) (i : Int) (K : ag_Rs → ag_S → Prop) : ag_cl9 92 [ag_R (a + 3), ag_I i] (ag_SB σ a g v) K = K (Sum.inl (some (ag_I (ag_rd 40 (g 2) i)))) (ag_SB σ a g v) := ag_at_eq (ag_SB_a2 σ a g v) (by decide) i K
theorem ag_SB_u2 (σ : ag_S) (a : Nat) (g : Nat → Nat → Int) (v : Nat → Int) (x : Nat → Int) : (ag_up (ag_SB σ a g v).1 (a + 3) (Sum.inl (40, x)), (ag_SB σ a g v).2) = ag_SB σ a (ag_ug g 2 x) v := by
  refine Prod.ext (funext fun z => ?_) rfl
  unfold ag_up ag_SB
  dsimp only
  by_cases hz : z = a + 3
  · subst hz
    simp [ag_ug]
  · rw [if_neg hz]
    simp [ag_ug, hz]
theorem ag_SB_pt2 (σ : ag_S) (a : Nat) (g : Nat → Nat → Int) (v : Nat → Int) (i x : Int) (K : ag_Rs → ag_S → Prop) : ag_cl9 93 [ag_R (a + 3), ag_I i, ag_I x] (ag_SB σ a g v) K = K (Sum.inl none) (ag_SB σ a (ag_ug g 2 (ag_wr 40 (g 2) i x)) v) := by
  rw [ag_put_eq (ag_SB_a2 σ a g v) (by decide) (by omega) i x K, ag_SB_u2]
theorem ag_SB_at3 (σ : ag_S) (a : Nat) (g : Nat → Nat → Int) (v : Nat → Int) (i : Int) (K : ag_Rs → ag_S → Prop) : ag_cl9 92 [ag_R (a + 4), ag_I i] (ag_SB σ a g v) K = K (Sum.inl (some (ag_I (ag_rd 40 (g 3) i)))) (ag_SB σ a g v) := ag_at_eq (ag_SB_a3 σ a g v) (by decide) i K
theorem ag_SB_u3 (σ : ag_S) (a : Nat) (g : Nat → Nat → Int) (v : Nat → Int) (x : Nat → Int) : (ag_up (ag_SB σ a g v).1 (a + 4) (Sum.inl (40, x)), (ag_SB σ a g v).2) = ag_SB σ a (ag_ug g 3 x) v := by
  refine Prod.ext (funext fun z => ?_) rfl
  unfold ag_up ag_SB
  dsimp only
  by_cases hz : z = a + 4
  · subst hz
    simp [ag_ug]
  · rw [if_neg hz]
    simp [ag_ug, hz]
theorem ag_SB_pt3 (σ : ag_S) (a : Nat) (g : Nat → Nat → Int) (v : Nat → Int) (i x : Int) (K : ag_Rs → ag_S → Prop) : ag_cl9 93 [ag_R (a + 4), ag_I i, ag_I x] (ag_SB σ a g v) K = K (Sum.inl none) (ag_SB σ a (ag_ug g 3 (ag_wr 40 (g 3) i x)) v) := by
  rw [ag_put_eq (ag_SB_a3 σ a g v) (by decide) (by omega) i x K, ag_SB_u3]
theorem ag_SB_at4 (σ : ag_S) (a : Nat) (g : Nat → Nat → Int) (v : Nat → Int) (i : Int) (K : ag_Rs → ag_S → Prop) : ag_cl9 92 [ag_R (a + 5), ag_I i] (ag_SB σ a g v) K = K (Sum.inl (some (ag_I (ag_rd 40 (g 4) i)))) (ag_SB σ a g v) := ag_at_eq (ag_SB_a4 σ a g v) (by decide) i K
theorem ag_SB_u4 (σ : ag_S) (a : Nat) (g : Nat → Nat → Int) (v : Nat → Int) (x : Nat → Int) : (ag_up (ag_SB σ a g v).1 (a + 5) (Sum.inl (40, x)), (ag_SB σ a g v).2) = ag_SB σ a (ag_ug g 4 x) v := by
  refine Prod.ext (funext fun z => ?_) rfl
  unfold ag_up ag_SB
  dsimp only
  by_cases hz : z = a + 5
  · subst hz
    simp [ag_ug]
  · rw [if_neg hz]
    simp [ag_ug, hz]
theorem ag_SB_pt4 (σ : ag_S) (a : Nat) (g : Nat → Nat → Int) (v : Nat → Int) (i x : Int) (K : ag_Rs → ag_S → Prop) : ag_cl9 93 [ag_R (a + 5), ag_I i, ag_I x] (ag_SB σ a g v) K = K (Sum.inl none) (ag_SB σ a (ag_ug g 4 (ag_wr 40 (g 4) i x)) v) := by
  rw [ag_put_eq (ag_SB_a4 σ a g v) (by decide) (by omega) i x K, ag_SB_u4]
theorem ag_SB_at5 (σ : ag_S) (a : Nat) (g : Nat → Nat → Int) (v : Nat → Int) (i : Int) (K : ag_Rs → ag_S → Prop) : ag_cl9 92 [ag_R (a + 6), ag_I i] (ag_SB σ a g v) K = K (Sum.inl (some (ag_I (ag_rd 40 (g 5) i)))) (ag_SB σ a g v) := ag_at_eq (ag_SB_a5 σ a g v) (by decide) i K
theorem ag_SB_u5 (σ : ag_S) (a : Nat) (g : Nat → Nat → Int) (v : Nat → Int) (x : Nat → Int) : (ag_up (ag_SB σ a g v).1 (a + 6) (Sum.inl (40, x)), (ag_SB σ a g v).2) = ag_SB σ a (ag_ug g 5 x) v := by
  refine Prod.ext (funext fun z => ?_) rfl
  unfold ag_up ag_SB
  dsimp only
  by_cases hz : z = a + 6
  · subst hz
    simp [ag_ug]
  · rw [if_neg hz]
    simp [ag_ug, hz]
theorem ag_SB_pt5 (σ : ag_S) (a : Nat) (g : Nat → Nat → Int) (v : Nat → Int) (i x : Int) (K : ag_Rs → ag_S → Prop) : ag_cl9 93 [ag_R (a + 6), ag_I i, ag_I x] (ag_SB σ a g v) K = K (Sum.inl none) (ag_SB σ a (ag_ug g 5 (ag_wr 40 (g 5) i x)) v) := by
  rw [ag_put_eq (ag_SB_a5 σ a g v) (by decide) (by omega) i x K, ag_SB_u5]
theorem ag_SB_at6 (σ : ag_S) (a : Nat) (g : Nat → Nat → Int) (v : Nat → Int) (i : Int) (K : ag_Rs → ag_S → Prop) : ag_cl9 92 [ag_R (a + 7), ag_I i] (ag_SB σ a g v) K = K (Sum.inl (some (ag_I (ag_rd 40 (g 6) i)))) (ag_SB σ a g v) := ag_at_eq (ag_SB_a6 σ a g v) (by decide) i K
theorem ag_SB_u6 (σ : ag_S) (a : Nat) (g : Nat → Nat → Int) (v : Nat → Int) (x : Nat → Int) : (ag_up (ag_SB σ a g v).1 (a + 7) (Sum.inl (40, x)), (ag_SB σ a g v).2) = ag_SB σ a (ag_ug g 6 x) v := by
  refine Prod.ext (funext fun z => ?_) rfl
  unfold ag_up ag_SB
  dsimp only
  by_cases hz : z = a + 7
  · subst hz
    simp [ag_ug]
  · rw [if_neg hz]
    simp [ag_ug, hz]
theorem ag_SB_pt6 (σ : ag_S) (a : Nat) (g : Nat → Nat → Int) (v : Nat → Int) (i x : Int) (K : ag_Rs → ag_S → Prop) : ag_cl9 93 [ag_R (a + 7), ag_I i, ag_I x] (ag_SB σ a g v) K = K (Sum.inl none) (ag_SB σ a (ag_ug g 6 (ag_wr 40 (g 6) i x)) v) := by
  rw [ag_put_eq (ag_SB_a6 σ a g v) (by decide) (by omega) i x K, ag_SB_u6]
theorem ag_SB_at7 (σ : ag_S) (a : Nat) (g : Nat → Nat → Int) (v : Nat → Int) (i : Int) (K : ag_Rs → ag_S → Prop) : ag_cl9 92 [ag_R (a + 8), ag_I i] (ag_SB σ a g v) K = K (Sum.inl (some (ag_I (ag_rd 40 (g 7) i)))) (ag_SB σ a g v) := ag_at_eq (ag_SB_a7 σ a g v) (by decide) i K
theorem ag_SB_u7 (σ : ag_S) (a : Nat) (g : Nat → Nat → Int) (v : Nat → Int) (x : Nat → Int) : (ag_up (ag_SB σ a g v).1 (a + 8) (Sum.inl (40, x)), (ag_SB σ a g v).2) = ag_SB σ a (ag_ug g 7 x) v := by
  refine Prod.ext (funext fun z => ?_) rfl
  unfold ag_up ag_SB
  dsimp only
  by_cases hz : z = a + 8
  · subst hz
    simp [ag_ug]
  · rw [if_neg hz]
    simp [ag_ug, hz]
theorem ag_SB_pt7 (σ : ag_S) (a : Nat) (g : Nat → Nat → Int) (v : Nat → Int) (i x : Int) (K : ag_Rs → ag_S → Prop) : ag_cl9 93 [ag_R (a + 8), ag_I i, ag_I x] (ag_SB σ a g v) K = K (Sum.inl none) (ag_SB σ a (ag_ug g 7 (ag_wr 40 (g 7) i x)) v) := by
  rw [ag_put_eq (ag_SB_a7 σ a g v) (by decide) (by omega) i x K, ag_SB_u7]
theorem ag_SB_ck (σ : ag_S) (a : Nat) (g : Nat → Nat → Int) (v : Nat → Int) (P : Prop) : ag_ck (ag_SB σ a g v) a 0 P = P := by
  unfold ag_ck
  rw [ag_SB_o]
  simp
def ag_SH (σ : ag_S) (a : Nat) (g : Nat → Nat → Int) (v : Nat → Int) : ag_S := (fun z => if z = a then some (Sum.inr (Sum.inr (Sum.inr (2, [ag_R (a + 1), ag_R (a + 2), ag_R (a + 3), ag_R (a + 4), ag_I (v 0), ag_I (v 1), ag_I (v 2)])))) else if z = a + 1 then some (Sum.inl (5, g 0)) else if z = a + 2 then some (Sum.inl (5, g 1)) else if z = a + 3 then some (Sum.inl (5, g 2)) else if z = a + 4 then some (Sum.inl (100, g 3)) else σ.1 z, σ.2)
def ag_CH (σ : ag_S) (a : Nat) (g : Nat → Nat → Int) (v : Nat → Int) : Prop := σ.1 a = some (Sum.inr (Sum.inr (Sum.inr (2, [ag_R (a + 1), ag_R (a + 2), ag_R (a + 3), ag_R (a + 4), ag_I (v 0), ag_I (v 1), ag_I (v 2)])))) ∧ σ.1 (a + 1) = some (Sum.inl (5, g 0)) ∧ σ.1 (a + 2) = some (Sum.inl (5, g 1)) ∧ σ.1 (a + 3) = some (Sum.inl (5, g 2)) ∧ σ.1 (a + 4) = some (Sum.inl (100, g 3))
theorem ag_SH_o (σ : ag_S) (a : Nat) (g : Nat → Nat → Int) (v : Nat → Int) : (ag_SH σ a g v).1 a = some (Sum.inr (Sum.inr (Sum.inr (2, [ag_R (a + 1), ag_R (a + 2), ag_R (a + 3), ag_R (a + 4), ag_I (v 0), ag_I (v 1), ag_I (v 2)])))) := by simp [ag_SH]
theorem ag_SH_a0 (σ : ag_S) (a : Nat) (g : Nat → Nat → Int) (v : Nat → Int) : (ag_SH σ a g v).1 (a + 1) = some (Sum.inl (5, g 0)) := by simp [ag_SH]
theorem ag_SH_a1 (σ : ag_S) (a : Nat) (g : Nat → Nat → Int) (v : Nat → Int) : (ag_SH σ a g v).1 (a + 2) = some (Sum.inl (5, g 1)) := by simp [ag_SH]
theorem ag_SH_a2 (σ : ag_S) (a : Nat) (g : Nat → Nat → Int) (v : Nat → Int) : (ag_SH σ a g v).1 (a + 3) = some (Sum.inl (5, g 2)) := by simp [ag_SH]
theorem ag_SH_a3 (σ : ag_S) (a : Nat) (g : Nat → Nat → Int) (v : Nat → Int) : (ag_SH σ a g v).1 (a + 4) = some (Sum.inl (100, g 3)) := by simp [ag_SH]
theorem ag_SH_c (σ : ag_S) (a : Nat) (g : Nat → Nat → Int) (v : Nat → Int) : ag_CH (ag_SH σ a g v) a g v := ⟨ag_SH_o σ a g v, ag_SH_a0 σ a g v, ag_SH_a1 σ a g v, ag_SH_a2 σ a g v, ag_SH_a3 σ a g v⟩
theorem ag_SH_fr (σ : ag_S) (a : Nat) (g : Nat → Nat → Int) (v : Nat → Int) {z : Nat} (h : z < a ∨ a + 4 < z) : (ag_SH σ a g v).1 z = σ.1 z := by
  unfold ag_SH
  dsimp only
  rw [if_neg (by omega), if_neg (by omega), if_neg (by omega), if_neg (by omega), if_neg (by omega)]
theorem ag_SH_of {σ : ag_S} {a : Nat} {g : Nat → Nat → Int} {v : Nat → Int} (h : ag_CH σ a g v) : ag_SH σ a g v = σ := by
  obtain ⟨h0, h1, h2, h3, h4⟩ := h
  refine Prod.ext (funext fun z => ?_) rfl
  unfold ag_SH
  dsimp only
  split
  · rename_i q; rw [q, h0]
  · split
    · rename_i q; rw [q, h1]
    · split
      · rename_i q; rw [q, h2]
      · split
        · rename_i q; rw [q, h3]
        · split
          · rename_i q; rw [q, h4]
          · rfl
theorem ag_SH_2 (σ : ag_S) (a : Nat) (g g2 : Nat → Nat → Int) (v v2 : Nat → Int) : ag_SH (ag_SH σ a g v) a g2 v2 = ag_SH σ a g2 v2 := by
  refine Prod.ext (funext fun z => ?_) rfl
  by_cases h : z < a ∨ a + 4 < z
  · rw [ag_SH_fr _ a g2 v2 h, ag_SH_fr _ a g2 v2 h, ag_SH_fr _ a g v h]
  · have h2 : z = a ∨ z = a + 1 ∨ z = a + 2 ∨ z = a + 3 ∨ z = a + 4 := by omega
    rcases h2 with rfl | rfl | rfl | rfl | rfl
    · exact (ag_SH_o _ _ g2 v2).trans (ag_SH_o _ _ g2 v2).symm
    · exact (ag_SH_a0 _ _ g2 v2).trans (ag_SH_a0 _ _ g2 v2).symm
    · exact (ag_SH_a1 _ _ g2 v2).trans (ag_SH_a1 _ _ g2 v2).symm
    · exact (ag_SH_a2 _ _ g2 v2).trans (ag_SH_a2 _ _ g2 v2).symm
    · exact (ag_SH_a3 _ _ g2 v2).trans (ag_SH_a3 _ _ g2 v2).symm

theorem ag_SH_g0 (σ : ag_S) (a : Nat) (g : Nat → Nat → Int) (v : Nat → Int) (K : ag_V → Prop) : ag_gf (ag_SH σ a g v) a 2 0 K = K (ag_R (a + 1)) := by
  unfold ag_gf
  rw [ag_SH_o]
  simp
theorem ag_SH_g1 (σ : ag_S) (a : Nat) (g : Nat → Nat → Int) (v : Nat → Int) (K : ag_V → Prop) : ag_gf (ag_SH σ a g v) a 2 1 K = K (ag_R (a + 2)) := by
  unfold ag_gf
  rw [ag_SH_o]
  simp
theorem ag_SH_g2 (σ : ag_S) (a : Nat) (g : Nat → Nat → Int) (v : Nat → Int) (K : ag_V → Prop) : ag_gf (ag_SH σ a g v) a 2 2 K = K (ag_R (a + 3)) := by
  unfold ag_gf
  rw [ag_SH_o]
  simp
theorem ag_SH_g3 (σ : ag_S) (a : Nat) (g : Nat → Nat → Int) (v : Nat → Int) (K : ag_V → Prop) : ag_gf (ag_SH σ a g v) a 2 3 K = K (ag_R (a + 4)) := by
  unfold ag_gf
  rw [ag_SH_o]
  simp
theorem ag_SH_g4 (σ : ag_S) (a : Nat) (g : Nat → Nat → Int) (v : Nat → Int) (K : ag_V → Prop) : ag_gf (ag_SH σ a g v) a 2 4 K = K (ag_I (v 0)) := by
  unfold ag_gf
  rw [ag_SH_o]
  simp
theorem ag_SH_p4 (σ : ag_S) {a : Nat} (ha : 1 ≤ a) (g : Nat → Nat → Int) (v : Nat → Int) (x : Int) (K : ag_S → Prop) : ag_pf (ag_SH σ a g v) a 2 4 (ag_I x) K = K (ag_SH σ a g (ag_ui v 0 x)) := by
  unfold ag_pf
  rw [ag_SH_o]
  have e : (ag_up (ag_SH σ a g v).1 a (Sum.inr (Sum.inr (Sum.inr (2, ([ag_R (a + 1), ag_R (a + 2), ag_R (a + 3), ag_R (a + 4), ag_I (v 0), ag_I (v 1), ag_I (v 2)] : List ag_V).set 4 (ag_I x))))), (ag_SH σ a g v).2) = ag_SH σ a g (ag_ui v 0 x) := by
    refine Prod.ext (funext fun z => ?_) rfl
    unfold ag_up ag_SH
    dsimp only
    by_cases hz : z = a
    · rw [if_pos hz, if_pos hz]
      simp [ag_ui]
    · rw [if_neg hz, if_neg hz, if_neg hz]
  dsimp only
  rw [e]
  simp [ha]
theorem ag_SH_g5 (σ : ag_S) (a : Nat) (g : Nat → Nat → Int) (v : Nat → Int) (K : ag_V → Prop) : ag_gf (ag_SH σ a g v) a 2 5 K = K (ag_I (v 1)) := by
  unfold ag_gf
  rw [ag_SH_o]
  simp
theorem ag_SH_p5 (σ : ag_S) {a : Nat} (ha : 1 ≤ a) (g : Nat → Nat → Int) (v : Nat → Int) (x : Int) (K : ag_S → Prop) : ag_pf (ag_SH σ a g v) a 2 5 (ag_I x) K = K (ag_SH σ a g (ag_ui v 1 x)) := by
  unfold ag_pf
  rw [ag_SH_o]
  have e : (ag_up (ag_SH σ a g v).1 a (Sum.inr (Sum.inr (Sum.inr (2, ([ag_R (a + 1), ag_R (a + 2), ag_R (a + 3), ag_R (a + 4), ag_I (v 0), ag_I (v 1), ag_I (v 2)] : List ag_V).set 5 (ag_I x))))), (ag_SH σ a g v).2) = ag_SH σ a g (ag_ui v 1 x) := by
    refine Prod.ext (funext fun z => ?_) rfl
    unfold ag_up ag_SH
    dsimp only
    by_cases hz : z = a
    · rw [if_pos hz, if_pos hz]
      simp [ag_ui]
    · rw [if_neg hz, if_neg hz, if_neg hz]
  dsimp only
  rw [e]
  simp [ha]
theorem ag_SH_g6 (σ : ag_S) (a : Nat) (g : Nat → Nat → Int) (v : Nat → Int) (K : ag_V → Prop) : ag_gf (ag_SH σ a g v) a 2 6 K = K (ag_I (v 2)) := by
  unfold ag_gf
  rw [ag_SH_o]
  simp
theorem ag_SH_p6 (σ : ag_S) {a : Nat} (ha : 1 ≤ a) (g : Nat → Nat → Int) (v : Nat → Int) (x : Int) (K : ag_S → Prop) : ag_pf (ag_SH σ a g v) a 2 6 (ag_I x) K = K (ag_SH σ a g (ag_ui v 2 x)) := by
  unfold ag_pf
  rw [ag_SH_o]
  have e : (ag_up (ag_SH σ a g v).1 a (Sum.inr (Sum.inr (Sum.inr (2, ([ag_R (a + 1), ag_R (a + 2), ag_R (a + 3), ag_R (a + 4), ag_I (v 0), ag_I (v 1), ag_I (v 2)] : List ag_V).set 6 (ag_I x))))), (ag_SH σ a g v).2) = ag_SH σ a g (ag_ui v 2 x) := by
    refine Prod.ext (funext fun z => ?_) rfl
    unfold ag_up ag_SH
    dsimp only
    by_cases hz : z = a
    · rw [if_pos hz, if_pos hz]
      simp [ag_ui]
    · rw [if_neg hz, if_neg hz, if_neg hz]
  dsimp only
  rw [e]
  simp [ha]
theorem ag_SH_at0 (σ : ag_S) (a : Nat) (g : Nat → Nat → Int) (v : Nat → Int) (i : Int) (K : ag_Rs → ag_S → Prop) : ag_cl9 92 [ag_R (a + 1), ag_I i] (ag_SH σ a g v) K = K (Sum.inl (some (ag_I (ag_rd 5 (g 0) i)))) (ag_SH σ a g v) := ag_at_eq (ag_SH_a0 σ a g v) (by decide) i K
theorem ag_SH_u0 (σ : ag_S) (a : Nat) (g : Nat → Nat → Int) (v : Nat → Int) (x : Nat → Int) : (ag_up (ag_SH σ a g v).1 (a + 1) (Sum.inl (5, x)), (ag_SH σ a g v).2) = ag_SH σ a (ag_ug g 0 x) v := by
  refine Prod.ext (funext fun z => ?_) rfl
  unfold ag_up ag_SH
  dsimp only
  by_cases hz : z = a + 1
  · subst hz
    simp [ag_ug]
  · rw [if_neg hz]
    simp [ag_ug, hz]
theorem ag_SH_pt0 (σ : ag_S) (a : Nat) (g : Nat → Nat → Int) (v : Nat → Int) (i x : Int) (K : ag_Rs → ag_S → Prop) : ag_cl9 93 [ag_R (a + 1), ag_I i, ag_I x] (ag_SH σ a g v) K = K (Sum.inl none) (ag_SH σ a (ag_ug g 0 (ag_wr 5 (g 0) i x)) v) := by
  rw [ag_put_eq (ag_SH_a0 σ a g v) (by decide) (by omega) i x K, ag_SH_u0]
theorem ag_SH_at1 (σ : ag_S) (a : Nat) (g : Nat → Nat → Int) (v : Nat → Int) (i : Int) (K : ag_Rs → ag_S → Prop) : ag_cl9 92 [ag_R (a + 2), ag_I i] (ag_SH σ a g v) K = K (Sum.inl (some (ag_I (ag_rd 5 (g 1) i)))) (ag_SH σ a g v) := ag_at_eq (ag_SH_a1 σ a g v) (by decide) i K
theorem ag_SH_u1 (σ : ag_S) (a : Nat) (g : Nat → Nat → Int) (v : Nat → Int) (x : Nat → Int) : (ag_up (ag_SH σ a g v).1 (a + 2) (Sum.inl (5, x)), (ag_SH σ a g v).2) = ag_SH σ a (ag_ug g 1 x) v := by
  refine Prod.ext (funext fun z => ?_) rfl
  unfold ag_up ag_SH
  dsimp only
  by_cases hz : z = a + 2
  · subst hz
    simp [ag_ug]
  · rw [if_neg hz]
    simp [ag_ug, hz]
theorem ag_SH_pt1 (σ : ag_S) (a : Nat) (g : Nat → Nat → Int) (v : Nat → Int) (i x : Int) (K : ag_Rs → ag_S → Prop) : ag_cl9 93 [ag_R (a + 2), ag_I i, ag_I x] (ag_SH σ a g v) K = K (Sum.inl none) (ag_SH σ a (ag_ug g 1 (ag_wr 5 (g 1) i x)) v) := by
  rw [ag_put_eq (ag_SH_a1 σ a g v) (by decide) (by omega) i x K, ag_SH_u1]
theorem ag_SH_at2 (σ : ag_S) (a : Nat) (g : Nat → Nat → Int) (v : Nat → Int) (i : Int) (K : ag_Rs → ag_S → Prop) : ag_cl9 92 [ag_R (a + 3), ag_I i] (ag_SH σ a g v) K = K (Sum.inl (some (ag_I (ag_rd 5 (g 2) i)))) (ag_SH σ a g v) := ag_at_eq (ag_SH_a2 σ a g v) (by decide) i K
theorem ag_SH_u2 (σ : ag_S) (a : Nat) (g : Nat → Nat → Int) (v : Nat → Int) (x : Nat → Int) : (ag_up (ag_SH σ a g v).1 (a + 3) (Sum.inl (5, x)), (ag_SH σ a g v).2) = ag_SH σ a (ag_ug g 2 x) v := by
  refine Prod.ext (funext fun z => ?_) rfl
  unfold ag_up ag_SH
  dsimp only
  by_cases hz : z = a + 3
  · subst hz
    simp [ag_ug]
  · rw [if_neg hz]
    simp [ag_ug, hz]
theorem ag_SH_pt2 (σ : ag_S) (a : Nat) (g : Nat → Nat → Int) (v : Nat → Int) (i x : Int) (K : ag_Rs → ag_S → Prop) : ag_cl9 93 [ag_R (a + 3), ag_I i, ag_I x] (ag_SH σ a g v) K = K (Sum.inl none) (ag_SH σ a (ag_ug g 2 (ag_wr 5 (g 2) i x)) v) := by
  rw [ag_put_eq (ag_SH_a2 σ a g v) (by decide) (by omega) i x K, ag_SH_u2]
theorem ag_SH_at3 (σ : ag_S) (a : Nat) (g : Nat → Nat → Int) (v : Nat → Int) (i : Int) (K : ag_Rs → ag_S → Prop) : ag_cl9 92 [ag_R (a + 4), ag_I i] (ag_SH σ a g v) K = K (Sum.inl (some (ag_I (ag_rd 100 (g 3) i)))) (ag_SH σ a g v) := ag_at_eq (ag_SH_a3 σ a g v) (by decide) i K
theorem ag_SH_u3 (σ : ag_S) (a : Nat) (g : Nat → Nat → Int) (v : Nat → Int) (x : Nat → Int) : (ag_up (ag_SH σ a g v).1 (a + 4) (Sum.inl (100, x)), (ag_SH σ a g v).2) = ag_SH σ a (ag_ug g 3 x) v := by
  refine Prod.ext (funext fun z => ?_) rfl
  unfold ag_up ag_SH
  dsimp only
  by_cases hz : z = a + 4
  · subst hz
    simp [ag_ug]
  · rw [if_neg hz]
    simp [ag_ug, hz]
theorem ag_SH_pt3 (σ : ag_S) (a : Nat) (g : Nat → Nat → Int) (v : Nat → Int) (i x : Int) (K : ag_Rs → ag_S → Prop) : ag_cl9 93 [ag_R (a + 4), ag_I i, ag_I x] (ag_SH σ a g v) K = K (Sum.inl none) (ag_SH σ a (ag_ug g 3 (ag_wr 100 (g 3) i x)) v) := by
  rw [ag_put_eq (ag_SH_a3 σ a g v) (by decide) (by omega) i x K, ag_SH_u3]
theorem ag_SH_ck (σ : ag_S) (a : Nat) (g : Nat → Nat → Int) (v : Nat → Int) (P : Prop) : ag_ck (ag_SH σ a g v) a 2 P = P := by
  unfold ag_ck
  rw [ag_SH_o]
  simp
def ag_SP (σ : ag_S) (a : Nat) (g : Nat → Nat → Int) (v : Nat → Int) : ag_S := (fun z => if z = a then some (Sum.inr (Sum.inr (Sum.inr (3, [ag_R (a + 1), ag_R (a + 2), ag_R (a + 3), ag_R (a + 4), ag_R (a + 5), ag_R (a + 6), ag_I (v 0)])))) else if z = a + 1 then some (Sum.inl (20, g 0)) else if z = a + 2 then some (Sum.inl (20, g 1)) else if z = a + 3 then some (Sum.inl (20, g 2)) else if z = a + 4 then some (Sum.inl (20, g 3)) else if z = a + 5 then some (Sum.inl (20, g 4)) else if z = a + 6 then some (Sum.inl (20, g 5)) else σ.1 z, σ.2)
def ag_CP (σ : ag_S) (a : Nat) (g : Nat → Nat → Int) (v : Nat → Int) : Prop := σ.1 a = some (Sum.inr (Sum.inr (Sum.inr (3, [ag_R (a + 1), ag_R (a + 2), ag_R (a + 3), ag_R (a + 4), ag_R (a + 5), ag_R (a + 6), ag_I (v 0)])))) ∧ σ.1 (a + 1) = some (Sum.inl (20, g 0)) ∧ σ.1 (a + 2) = some (Sum.inl (20, g 1)) ∧ σ.1 (a + 3) = some (Sum.inl (20, g 2)) ∧ σ.1 (a + 4) = some (Sum.inl (20, g 3)) ∧ σ.1 (a + 5) = some (Sum.inl (20, g 4)) ∧ σ.1 (a + 6) = some (Sum.inl (20, g 5))
theorem ag_SP_o (σ : ag_S) (a : Nat) (g : Nat → Nat → Int) (v : Nat → Int) : (ag_SP σ a g v).1 a = some (Sum.inr (Sum.inr (Sum.inr (3, [ag_R (a + 1), ag_R (a + 2), ag_R (a + 3), ag_R (a + 4), ag_R (a + 5), ag_R (a + 6), ag_I (v 0)])))) := by simp [ag_SP]
theorem ag_SP_a0 (σ : ag_S) (a : Nat) (g : Nat → Nat → Int) (v : Nat → Int) : (ag_SP σ a g v).1 (a + 1) = some (Sum.inl (20, g 0)) := by simp [ag_SP]
theorem ag_SP_a1 (σ : ag_S) (a : Nat) (g : Nat → Nat → Int) (v : Nat → Int) : (ag_SP σ a g v).1 (a + 2) = some (Sum.inl (20, g 1)) := by simp [ag_SP]
theorem ag_SP_a2 (σ : ag_S) (a : Nat) (g : Nat → Nat → Int) (v : Nat → Int) : (ag_SP σ a g v).1 (a + 3) = some (Sum.inl (20, g 2)) := by simp [ag_SP]
theorem ag_SP_a3 (σ : ag_S) (a : Nat) (g : Nat → Nat → Int) (v : Nat → Int) : (ag_SP σ a g v).1 (a + 4) = some (Sum.inl (20, g 3)) := by simp [ag_SP]
theorem ag_SP_a4 (σ : ag_S) (a : Nat) (g : Nat → Nat → Int) (v : Nat → Int) : (ag_SP σ a g v).1 (a + 5) = some (Sum.inl (20, g 4)) := by simp [ag_SP]
theorem ag_SP_a5 (σ : ag_S) (a : Nat) (g : Nat → Nat → Int) (v : Nat → Int) : (ag_SP σ a g v).1 (a + 6) = some (Sum.inl (20, g 5)) := by simp [ag_SP]
theorem ag_SP_c (σ : ag_S) (a : Nat) (g : Nat → Nat → Int) (v : Nat → Int) : ag_CP (ag_SP σ a g v) a g v := ⟨ag_SP_o σ a g v, ag_SP_a0 σ a g v, ag_SP_a1 σ a g v, ag_SP_a2 σ a g v, ag_SP_a3 σ a g v, ag_SP_a4 σ a g v, ag_SP_a5 σ a g v⟩
theorem ag_SP_fr (σ : ag_S) (a : Nat) (g : Nat → Nat → Int) (v : Nat → Int) {z : Nat} (h : z < a ∨ a + 6 < z) : (ag_SP σ a g v).1 z = σ.1 z := by
  unfold ag_SP
  dsimp only
  rw [if_neg (by omega), if_neg (by omega), if_neg (by omega), if_neg (by omega), if_neg (by omega), if_neg (by omega), if_neg (by omega)]
theorem ag_SP_of {σ : ag_S} {a : Nat} {g : Nat → Nat → Int} {v : Nat → Int} (h : ag_CP σ a g v) : ag_SP σ a g v = σ := by
  obtain ⟨h0, h1, h2, h3, h4, h5, h6⟩ := h
  refine Prod.ext (funext fun z => ?_) rfl
  unfold ag_SP
  dsimp only
  split
  · rename_i q; rw [q, h0]
  · split
    · rename_i q; rw [q, h1]
    · split
      · rename_i q; rw [q, h2]
      · split
        · rename_i q; rw [q, h3]
        · split
          · rename_i q; rw [q, h4]
          · split
            · rename_i q; rw [q, h5]
            · split
              · rename_i q; rw [q, h6]
              · rfl
theorem ag_SP_2 (σ : ag_S) (a : Nat) (g g2 : Nat → Nat → Int) (v v2 : Nat → Int) : ag_SP (ag_SP σ a g v) a g2 v2 = ag_SP σ a g2 v2 := by
  refine Prod.ext (funext fun z => ?_) rfl
  by_cases h : z < a ∨ a + 6 < z
  · rw [ag_SP_fr _ a g2 v2 h, ag_SP_fr _ a g2 v2 h, ag_SP_fr _ a g v h]
  · have h2 : z = a ∨ z = a + 1 ∨ z = a + 2 ∨ z = a + 3 ∨ z = a + 4 ∨ z = a + 5 ∨ z = a + 6 := by omega
    rcases h2 with rfl | rfl | rfl | rfl | rfl | rfl | rfl
    · exact (ag_SP_o _ _ g2 v2).trans (ag_SP_o _ _ g2 v2).symm
    · exact (ag_SP_a0 _ _ g2 v2).trans (ag_SP_a0 _ _ g2 v2).symm
    · exact (ag_SP_a1 _ _ g2 v2).trans (ag_SP_a1 _ _ g2 v2).symm
    · exact (ag_SP_a2 _ _ g2 v2).trans (ag_SP_a2 _ _ g2 v2).symm
    · exact (ag_SP_a3 _ _ g2 v2).trans (ag_SP_a3 _ _ g2 v2).symm
    · exact (ag_SP_a4 _ _ g2 v2).trans (ag_SP_a4 _ _ g2 v2).symm
    · exact (ag_SP_a5 _ _ g2 v2).trans (ag_SP_a5 _ _ g2 v2).symm

theorem ag_SP_g0 (σ : ag_S) (a : Nat) (g : Nat → Nat → Int) (v : Nat → Int) (K : ag_V → Prop) : ag_gf (ag_SP σ a g v) a 3 0 K = K (ag_R (a + 1)) := by
  unfold ag_gf
  rw [ag_SP_o]
  simp
theorem ag_SP_g1 (σ : ag_S) (a : Nat) (g : Nat → Nat → Int) (v : Nat → Int) (K : ag_V → Prop) : ag_gf (ag_SP σ a g v) a 3 1 K = K (ag_R (a + 2)) := by
  unfold ag_gf
  rw [ag_SP_o]
  simp
theorem ag_SP_g2 (σ : ag_S) (a : Nat) (g : Nat → Nat → Int) (v : Nat → Int) (K : ag_V → Prop) : ag_gf (ag_SP σ a g v) a 3 2 K = K (ag_R (a + 3)) := by
  unfold ag_gf
  rw [ag_SP_o]
  simp
theorem ag_SP_g3 (σ : ag_S) (a : Nat) (g : Nat → Nat → Int) (v : Nat → Int) (K : ag_V → Prop) : ag_gf (ag_SP σ a g v) a 3 3 K = K (ag_R (a + 4)) := by
  unfold ag_gf
  rw [ag_SP_o]
  simp
theorem ag_SP_g4 (σ : ag_S) (a : Nat) (g : Nat → Nat → Int) (v : Nat → Int) (K : ag_V → Prop) : ag_gf (ag_SP σ a g v) a 3 4 K = K (ag_R (a + 5)) := by
  unfold ag_gf
  rw [ag_SP_o]
  simp
theorem ag_SP_g5 (σ : ag_S) (a : Nat) (g : Nat → Nat → Int) (v : Nat → Int) (K : ag_V → Prop) : ag_gf (ag_SP σ a g v) a 3 5 K = K (ag_R (a + 6)) := by
  unfold ag_gf
  rw [ag_SP_o]
  simp
theorem ag_SP_g6 (σ : ag_S) (a : Nat) (g : Nat → Nat → Int) (v : Nat → Int) (K : ag_V → Prop) : ag_gf (ag_SP σ a g v) a 3 6 K = K (ag_I (v 0)) := by
  unfold ag_gf
  rw [ag_SP_o]
  simp
theorem ag_SP_p6 (σ : ag_S) {a : Nat} (ha : 1 ≤ a) (g : Nat → Nat → Int) (v : Nat → Int) (x : Int) (K : ag_S → Prop) : ag_pf (ag_SP σ a g v) a 3 6 (ag_I x) K = K (ag_SP σ a g (ag_ui v 0 x)) := by
  unfold ag_pf
  rw [ag_SP_o]
  have e : (ag_up (ag_SP σ a g v).1 a (Sum.inr (Sum.inr (Sum.inr (3, ([ag_R (a + 1), ag_R (a + 2), ag_R (a + 3), ag_R (a + 4), ag_R (a + 5), ag_R (a + 6), ag_I (v 0)] : List ag_V).set 6 (ag_I x))))), (ag_SP σ a g v).2) = ag_SP σ a g (ag_ui v 0 x) := by
    refine Prod.ext (funext fun z => ?_) rfl
    unfold ag_up ag_SP
    dsimp only
    by_cases hz : z = a
    · rw [if_pos hz, if_pos hz]
      simp [ag_ui]
    · rw [if_neg hz, if_neg hz, if_neg hz]
  dsimp only
  rw [e]
  simp [ha]
theorem ag_SP_at0 (σ : ag_S) (a : Nat) (g : Nat → Nat → Int) (v : Nat → Int) (i : Int) (K : ag_Rs → ag_S → Prop) : ag_cl9 92 [ag_R (a + 1), ag_I i] (ag_SP σ a g v) K = K (Sum.inl (some (ag_I (ag_rd 20 (g 0) i)))) (ag_SP σ a g v) := ag_at_eq (ag_SP_a0 σ a g v) (by decide) i K
theorem ag_SP_u0 (σ : ag_S) (a : Nat) (g : Nat → Nat → Int) (v : Nat → Int) (x : Nat → Int) : (ag_up (ag_SP σ a g v).1 (a + 1) (Sum.inl (20, x)), (ag_SP σ a g v).2) = ag_SP σ a (ag_ug g 0 x) v := by
  refine Prod.ext (funext fun z => ?_) rfl
  unfold ag_up ag_SP
  dsimp only
  by_cases hz : z = a + 1
  · subst hz
    simp [ag_ug]
  · rw [if_neg hz]
    simp [ag_ug, hz]
theorem ag_SP_pt0 (σ : ag_S) (a : Nat) (g : Nat → Nat → Int) (v : Nat → Int) (i x : Int) (K : ag_Rs → ag_S → Prop) : ag_cl9 93 [ag_R (a + 1), ag_I i, ag_I x] (ag_SP σ a g v) K = K (Sum.inl none) (ag_SP σ a (ag_ug g 0 (ag_wr 20 (g 0) i x)) v) := by
  rw [ag_put_eq (ag_SP_a0 σ a g v) (by decide) (by omega) i x K, ag_SP_u0]
theorem ag_SP_at1 (σ : ag_S) (a : Nat) (g : Nat → Nat → Int) (v : Nat → Int) (i : Int) (K : ag_Rs → ag_S → Prop) : ag_cl9 92 [ag_R (a + 2), ag_I i] (ag_SP σ a g v) K = K (Sum.inl (some (ag_I (ag_rd 20 (g 1) i)))) (ag_SP σ a g v) := ag_at_eq (ag_SP_a1 σ a g v) (by decide) i K
theorem ag_SP_u1 (σ : ag_S) (a : Nat) (g : Nat → Nat → Int) (v : Nat → Int) (x : Nat → Int) : (ag_up (ag_SP σ a g v).1 (a + 2) (Sum.inl (20, x)), (ag_SP σ a g v).2) = ag_SP σ a (ag_ug g 1 x) v := by
  refine Prod.ext (funext fun z => ?_) rfl
  unfold ag_up ag_SP
  dsimp only
  by_cases hz : z = a + 2
  · subst hz
    simp [ag_ug]
  · rw [if_neg hz]
    simp [ag_ug, hz]
theorem ag_SP_pt1 (σ : ag_S) (a : Nat) (g : Nat → Nat → Int) (v : Nat → Int) (i x : Int) (K : ag_Rs → ag_S → Prop) : ag_cl9 93 [ag_R (a + 2), ag_I i, ag_I x] (ag_SP σ a g v) K = K (Sum.inl none) (ag_SP σ a (ag_ug g 1 (ag_wr 20 (g 1) i x)) v) := by
  rw [ag_put_eq (ag_SP_a1 σ a g v) (by decide) (by omega) i x K, ag_SP_u1]
theorem ag_SP_at2 (σ : ag_S) (a : Nat) (g : Nat → Nat → Int) (v : Nat → Int) (i : Int) (K : ag_Rs → ag_S → Prop) : ag_cl9 92 [ag_R (a + 3), ag_I i] (ag_SP σ a g v) K = K (Sum.inl (some (ag_I (ag_rd 20 (g 2) i)))) (ag_SP σ a g v) := ag_at_eq (ag_SP_a2 σ a g v) (by decide) i K
theorem ag_SP_u2 (σ : ag_S) (a : Nat) (g : Nat → Nat → Int) (v : Nat → Int) (x : Nat → Int) : (ag_up (ag_SP σ a g v).1 (a + 3) (Sum.inl (20, x)), (ag_SP σ a g v).2) = ag_SP σ a (ag_ug g 2 x) v := by
  refine Prod.ext (funext fun z => ?_) rfl
  unfold ag_up ag_SP
  dsimp only
  by_cases hz : z = a + 3
  · subst hz
    simp [ag_ug]
  · rw [if_neg hz]
    simp [ag_ug, hz]
theorem ag_SP_pt2 (σ : ag_S) (a : Nat) (g : Nat → Nat → Int) (v : Nat → Int) (i x : Int) (K : ag_Rs → ag_S → Prop) : ag_cl9 93 [ag_R (a + 3), ag_I i, ag_I x] (ag_SP σ a g v) K = K (Sum.inl none) (ag_SP σ a (ag_ug g 2 (ag_wr 20 (g 2) i x)) v) := by
  rw [ag_put_eq (ag_SP_a2 σ a g v) (by decide) (by omega) i x K, ag_SP_u2]
theorem ag_SP_at3 (σ : ag_S) (a : Nat) (g : Nat → Nat → Int) (v : Nat → Int) (i : Int) (K : ag_Rs → ag_S → Prop) : ag_cl9 92 [ag_R (a + 4), ag_I i] (ag_SP σ a g v) K = K (Sum.inl (some (ag_I (ag_rd 20 (g 3) i)))) (ag_SP σ a g v) := ag_at_eq (ag_SP_a3 σ a g v) (by decide) i K
theorem ag_SP_u3 (σ : ag_S) (a : Nat) (g : Nat → Nat → Int) (v : Nat → Int) (x : Nat → Int) : (ag_up (ag_SP σ a g v).1 (a + 4) (Sum.inl (20, x)), (ag_SP σ a g v).2) = ag_SP σ a (ag_ug g 3 x) v := by
  refine Prod.ext (funext fun z => ?_) rfl
  unfold ag_up ag_SP
  dsimp only
  by_cases hz : z = a + 4
  · subst hz
    simp [ag_ug]
  · rw [if_neg hz]
    simp [ag_ug, hz]
theorem ag_SP_pt3 (σ : ag_S) (a : Nat) (g : Nat → Nat → Int) (v : Nat → Int) (i x : Int) (K : ag_Rs → ag_S → Prop) : ag_cl9 93 [ag_R (a + 4), ag_I i, ag_I x] (ag_SP σ a g v) K = K (Sum.inl none) (ag_SP σ a (ag_ug g 3 (ag_wr 20 (g 3) i x)) v) := by
  rw [ag_put_eq (ag_SP_a3 σ a g v) (by decide) (by omega) i x K, ag_SP_u3]
theorem ag_SP_at4 (σ : ag_S) (a : Nat) (g : Nat → Nat → Int) (v : Nat → Int) (i : Int) (K : ag_Rs → ag_S → Prop) : ag_cl9 92 [ag_R (a + 5), ag_I i] (ag_SP σ a g v) K = K (Sum.inl (some (ag_I (ag_rd 20 (g 4) i)))) (ag_SP σ a g v) := ag_at_eq (ag_SP_a4 σ a g v) (by decide) i K
theorem ag_SP_u4 (σ : ag_S) (a : Nat) (g : Nat → Nat → Int) (v : Nat → Int) (x : Nat → Int) : (ag_up (ag_SP σ a g v).1 (a + 5) (Sum.inl (20, x)), (ag_SP σ a g v).2) = ag_SP σ a (ag_ug g 4 x) v := by
  refine Prod.ext (funext fun z => ?_) rfl
  unfold ag_up ag_SP
  dsimp only
  by_cases hz : z = a + 5
  · subst hz
    simp [ag_ug]
  · rw [if_neg hz]
    simp [ag_ug, hz]
theorem ag_SP_pt4 (σ : ag_S) (a : Nat) (g : Nat → Nat → Int) (v : Nat → Int) (i x : Int) (K : ag_Rs → ag_S → Prop) : ag_cl9 93 [ag_R (a + 5), ag_I i, ag_I x] (ag_SP σ a g v) K = K (Sum.inl none) (ag_SP σ a (ag_ug g 4 (ag_wr 20 (g 4) i x)) v) := by
  rw [ag_put_eq (ag_SP_a4 σ a g v) (by decide) (by omega) i x K, ag_SP_u4]
theorem ag_SP_at5 (σ : ag_S) (a : Nat) (g : Nat → Nat → Int) (v : Nat → Int) (i : Int) (K : ag_Rs → ag_S → Prop) : ag_cl9 92 [ag_R (a + 6), ag_I i] (ag_SP σ a g v) K = K (Sum.inl (some (ag_I (ag_rd 20 (g 5) i)))) (ag_SP σ a g v) := ag_at_eq (ag_SP_a5 σ a g v) (by decide) i K
theorem ag_SP_u5 (σ : ag_S) (a : Nat) (g : Nat → Nat → Int) (v : Nat → Int) (x : Nat → Int) : (ag_up (ag_SP σ a g v).1 (a + 6) (Sum.inl (20, x)), (ag_SP σ a g v).2) = ag_SP σ a (ag_ug g 5 x) v := by
  refine Prod.ext (funext fun z => ?_) rfl
  unfold ag_up ag_SP
  dsimp only
  by_cases hz : z = a + 6
  · subst hz
    simp [ag_ug]
  · rw [if_neg hz]
    simp [ag_ug, hz]
theorem ag_SP_pt5 (σ : ag_S) (a : Nat) (g : Nat → Nat → Int) (v : Nat → Int) (i x : Int) (K : ag_Rs → ag_S → Prop) : ag_cl9 93 [ag_R (a + 6), ag_I i, ag_I x] (ag_SP σ a g v) K = K (Sum.inl none) (ag_SP σ a (ag_ug g 5 (ag_wr 20 (g 5) i x)) v) := by
  rw [ag_put_eq (ag_SP_a5 σ a g v) (by decide) (by omega) i x K, ag_SP_u5]
theorem ag_SP_ck (σ : ag_S) (a : Nat) (g : Nat → Nat → Int) (v : Nat → Int) (P : Prop) : ag_ck (ag_SP σ a g v) a 3 P = P := by
  unfold ag_ck
  rw [ag_SP_o]
  simp
def ag_SQ (σ : ag_S) (a : Nat) (g : Nat → Nat → Int) (v : Nat → Int) : ag_S := (fun z => if z = a then some (Sum.inr (Sum.inr (Sum.inr (4, [ag_R (a + 1), ag_R (a + 2), ag_I (v 0)])))) else if z = a + 1 then some (Sum.inl (12, g 0)) else if z = a + 2 then some (Sum.inl (12, g 1)) else σ.1 z, σ.2)
def ag_CQ (σ : ag_S) (a : Nat) (g : Nat → Nat → Int) (v : Nat → Int) : Prop := σ.1 a = some (Sum.inr (Sum.inr (Sum.inr (4, [ag_R (a + 1), ag_R (a + 2), ag_I (v 0)])))) ∧ σ.1 (a + 1) = some (Sum.inl (12, g 0)) ∧ σ.1 (a + 2) = some (Sum.inl (12, g 1))
theorem ag_SQ_o (σ : ag_S) (a : Nat) (g : Nat → Nat → Int) (v : Nat → Int) : (ag_SQ σ a g v).1 a = some (Sum.inr (Sum.inr (Sum.inr (4, [ag_R (a + 1), ag_R (a + 2), ag_I (v 0)])))) := by simp [ag_SQ]
theorem ag_SQ_a0 (σ : ag_S) (a : Nat) (g : Nat → Nat → Int) (v : Nat → Int) : (ag_SQ σ a g v).1 (a + 1) = some (Sum.inl (12, g 0)) := by simp [ag_SQ]
theorem ag_SQ_a1 (σ : ag_S) (a : Nat) (g : Nat → Nat → Int) (v : Nat → Int) : (ag_SQ σ a g v).1 (a + 2) = some (Sum.inl (12, g 1)) := by simp [ag_SQ]
theorem ag_SQ_c (σ : ag_S) (a : Nat) (g : Nat → Nat → Int) (v : Nat → Int) : ag_CQ (ag_SQ σ a g v) a g v := ⟨ag_SQ_o σ a g v, ag_SQ_a0 σ a g v, ag_SQ_a1 σ a g v⟩
theorem ag_SQ_fr (σ : ag_S) (a : Nat) (g : Nat → Nat → Int) (v : Nat → Int) {z : Nat} (h : z < a ∨ a + 2 < z) : (ag_SQ σ a g v).1 z = σ.1 z := by
  unfold ag_SQ
  dsimp only
  rw [if_neg (by omega), if_neg (by omega), if_neg (by omega)]
theorem ag_SQ_of {σ : ag_S} {a : Nat} {g : Nat → Nat → Int} {v : Nat → Int} (h : ag_CQ σ a g v) : ag_SQ σ a g v = σ := by
  obtain ⟨h0, h1, h2⟩ := h
  refine Prod.ext (funext fun z => ?_) rfl
  unfold ag_SQ
  dsimp only
  split
  · rename_i q; rw [q, h0]
  · split
    · rename_i q; rw [q, h1]
    · split
      · rename_i q; rw [q, h2]
      · rfl
theorem ag_SQ_2 (σ : ag_S) (a : Nat) (g g2 : Nat → Nat → Int) (v v2 : Nat → Int) : ag_SQ (ag_SQ σ a g v) a g2 v2 = ag_SQ σ a g2 v2 := by
  refine Prod.ext (funext fun z => ?_) rfl
  by_cases h : z < a ∨ a + 2 < z
  · rw [ag_SQ_fr _ a g2 v2 h, ag_SQ_fr _ a g2 v2 h, ag_SQ_fr _ a g v h]
  · have h2 : z = a ∨ z = a + 1 ∨ z = a + 2 := by omega
    rcases h2 with rfl | rfl | rfl
    · exact (ag_SQ_o _ _ g2 v2).trans (ag_SQ_o _ _ g2 v2).symm
    · exact (ag_SQ_a0 _ _ g2 v2).trans (ag_SQ_a0 _ _ g2 v2).symm
    · exact (ag_SQ_a1 _ _ g2 v2).trans (ag_SQ_a1 _ _ g2 v2).symm

theorem ag_SQ_g0 (σ : ag_S) (a : Nat) (g : Nat → Nat → Int) (v : Nat → Int) (K : ag_V → Prop) : ag_gf (ag_SQ σ a g v) a 4 0 K = K (ag_R (a + 1)) := by
  unfold ag_gf
  rw [ag_SQ_o]
  simp
theorem ag_SQ_g1 (σ : ag_S) (a : Nat) (g : Nat → Nat → Int) (v : Nat → Int) (K : ag_V → Prop) : ag_gf (ag_SQ σ a g v) a 4 1 K = K (ag_R (a + 2)) := by
  unfold ag_gf
  rw [ag_SQ_o]
  simp
theorem ag_SQ_g2 (σ : ag_S) (a : Nat) (g : Nat → Nat → Int) (v : Nat → Int) (K : ag_V → Prop) : ag_gf (ag_SQ σ a g v) a 4 2 K = K (ag_I (v 0)) := by
  unfold ag_gf
  rw [ag_SQ_o]
  simp
theorem ag_SQ_p2 (σ : ag_S) {a : Nat} (ha : 1 ≤ a) (g : Nat → Nat → Int) (v : Nat → Int) (x : Int) (K : ag_S → Prop) : ag_pf (ag_SQ σ a g v) a 4 2 (ag_I x) K = K (ag_SQ σ a g (ag_ui v 0 x)) := by
  unfold ag_pf
  rw [ag_SQ_o]
  have e : (ag_up (ag_SQ σ a g v).1 a (Sum.inr (Sum.inr (Sum.inr (4, ([ag_R (a + 1), ag_R (a + 2), ag_I (v 0)] : List ag_V).set 2 (ag_I x))))), (ag_SQ σ a g v).2) = ag_SQ σ a g (ag_ui v 0 x) := by
    refine Prod.ext (funext fun z => ?_) rfl
    unfold ag_up ag_SQ
    dsimp only
    by_cases hz : z = a
    · rw [if_pos hz, if_pos hz]
      simp [ag_ui]
    · rw [if_neg hz, if_neg hz, if_neg hz]
  dsimp only
  rw [e]
  simp [ha]
theorem ag_SQ_at0 (σ : ag_S) (a : Nat) (g : Nat → Nat → Int) (v : Nat → Int) (i : Int) (K : ag_Rs → ag_S → Prop) : ag_cl9 92 [ag_R (a + 1), ag_I i] (ag_SQ σ a g v) K = K (Sum.inl (some (ag_I (ag_rd 12 (g 0) i)))) (ag_SQ σ a g v) := ag_at_eq (ag_SQ_a0 σ a g v) (by decide) i K
theorem ag_SQ_u0 (σ : ag_S) (a : Nat) (g : Nat → Nat → Int) (v : Nat → Int) (x : Nat → Int) : (ag_up (ag_SQ σ a g v).1 (a + 1) (Sum.inl (12, x)), (ag_SQ σ a g v).2) = ag_SQ σ a (ag_ug g 0 x) v := by
  refine Prod.ext (funext fun z => ?_) rfl
  unfold ag_up ag_SQ
  dsimp only
  by_cases hz : z = a + 1
  · subst hz
    simp [ag_ug]
  · rw [if_neg hz]
    simp [ag_ug, hz]
theorem ag_SQ_pt0 (σ : ag_S) (a : Nat) (g : Nat → Nat → Int) (v : Nat → Int) (i x : Int) (K : ag_Rs → ag_S → Prop) : ag_cl9 93 [ag_R (a + 1), ag_I i, ag_I x] (ag_SQ σ a g v) K = K (Sum.inl none) (ag_SQ σ a (ag_ug g 0 (ag_wr 12 (g 0) i x)) v) := by
  rw [ag_put_eq (ag_SQ_a0 σ a g v) (by decide) (by omega) i x K, ag_SQ_u0]
theorem ag_SQ_at1 (σ : ag_S) (a : Nat) (g : Nat → Nat → Int) (v : Nat → Int) (i : Int) (K : ag_Rs → ag_S → Prop) : ag_cl9 92 [ag_R (a + 2), ag_I i] (ag_SQ σ a g v) K = K (Sum.inl (some (ag_I (ag_rd 12 (g 1) i)))) (ag_SQ σ a g v) := ag_at_eq (ag_SQ_a1 σ a g v) (by decide) i K
theorem ag_SQ_u1 (σ : ag_S) (a : Nat) (g : Nat → Nat → Int) (v : Nat → Int) (x : Nat → Int) : (ag_up (ag_SQ σ a g v).1 (a + 2) (Sum.inl (12, x)), (ag_SQ σ a g v).2) = ag_SQ σ a (ag_ug g 1 x) v := by
  refine Prod.ext (funext fun z => ?_) rfl
  unfold ag_up ag_SQ
  dsimp only
  by_cases hz : z = a + 2
  · subst hz
    simp [ag_ug]
  · rw [if_neg hz]
    simp [ag_ug, hz]
theorem ag_SQ_pt1 (σ : ag_S) (a : Nat) (g : Nat → Nat → Int) (v : Nat → Int) (i x : Int) (K : ag_Rs → ag_S → Prop) : ag_cl9 93 [ag_R (a + 2), ag_I i, ag_I x] (ag_SQ σ a g v) K = K (Sum.inl none) (ag_SQ σ a (ag_ug g 1 (ag_wr 12 (g 1) i x)) v) := by
  rw [ag_put_eq (ag_SQ_a1 σ a g v) (by decide) (by omega) i x K, ag_SQ_u1]
theorem ag_SQ_ck (σ : ag_S) (a : Nat) (g : Nat → Nat → Int) (v : Nat → Int) (P : Prop) : ag_ck (ag_SQ σ a g v) a 4 P = P := by
  unfold ag_ck
  rw [ag_SQ_o]
  simp
