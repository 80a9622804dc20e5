/-! THE PAPERS' rows, as they are settled. -/
variable {B : Nat}
/-- what settling leaves alone -/
def ag_st (gp gp' : Nat → Nat → Int) (m : Nat) : Prop := (∀ k, k ≠ 3 → k ≠ 4 → gp' k = gp k) ∧ (∀ j, gp' 3 j = 0 → gp 3 j = 0) ∧ (∀ j : Nat, j < m → 0 ≤ gp 3 j ∧ gp 3 j ≤ 4 → 0 ≤ gp' 3 j ∧ gp' 3 j ≤ 4) ∧ (∀ k j, 20 ≤ j → gp' k j = gp k j) ∧ (ag_sm gp → ag_sm gp')
theorem ag_st_refl (gp : Nat → Nat → Int) (m : Nat) : ag_st gp gp m := ⟨fun _ _ _ => rfl, fun _ h => h, fun _ _ h => h, fun _ _ _ => rfl, fun h => h⟩
theorem ag_st_trans {gp gp' gp'' : Nat → Nat → Int} {m : Nat} (h1 : ag_st gp gp' m) (h2 : ag_st gp' gp'' m) : ag_st gp gp'' m := by
  obtain ⟨a1, a2, a3, a4, a5⟩ := h1
  obtain ⟨b1, b2, b3, b4, b5⟩ := h2
  exact ⟨fun k k3 k4 => (b1 k k3 k4).trans (a1 k k3 k4), fun j h => a2 j (b2 j h), fun j hj h => b3 j hj (a3 j hj h), fun k j hj => (b4 k j hj).trans (a4 k j hj), fun h => b5 (a5 h)⟩
theorem ag_set_k {gp : Nat → Nat → Int} {c s y : Int} {m k : Nat} (h3 : k ≠ 3) (h4 : k ≠ 4) : ag_set gp c s y m k = gp k := by
  unfold ag_set
  rw [ag_ug_ne _ _ h4, ag_ug_ne _ _ h3]
theorem ag_set_3 {gp : Nat → Nat → Int} {b m : Nat} {s y : Int} (hb : b < 20) (j : Nat) : ag_set gp b s y m 3 j = if j < m ∧ ag_ui (gp 3) b s j = 0 ∧ gp 0 j = 5 ∧ gp 1 j = b then 3 else ag_ui (gp 3) b s j := by
  unfold ag_set
  rw [ag_ug_ne _ _ (by decide), ag_ug_same, ag_wr_nat _ (by decide) hb]
  rfl
theorem ag_set_4 {gp : Nat → Nat → Int} {b m : Nat} {s y : Int} (hb : b < 20) (j : Nat) : ag_set gp b s y m 4 j = if j < m ∧ ag_ui (gp 3) b s j = 0 ∧ gp 0 j = 5 ∧ gp 1 j = b then (b : Int) else ag_ui (gp 4) b y j := by
  unfold ag_set
  rw [ag_ug_same, ag_wr_nat _ (by decide) hb, ag_wr_nat _ (by decide) hb]
  rfl
theorem ag_set_b {gp : Nat → Nat → Int} {b m : Nat} {s y : Int} (hb : b < 20) (hs : s ≠ 0) : ag_set gp b s y m 3 b = s := by
  rw [ag_set_3 hb, ag_ui_eq, if_neg (fun h => hs h.2.1)]
theorem ag_set_st {gp : Nat → Nat → Int} {b m : Nat} {s y : Int} (hb : b < 20) (hm : m ≤ 20) (s1 : 1 ≤ s) (s4 : s ≤ 4) (y1 : -1 ≤ y) (y2 : y ≤ 20) : ag_st gp (ag_set gp b s y m) m := by
  refine ⟨fun k k3 k4 => ag_set_k k3 k4, fun j h => ?_, fun j hj h => ?_, fun k j hj => ?_, fun h => ag_set_sm h (by omega) (by omega) (by omega) (by omega) (by omega) (by omega)⟩
  · rw [ag_set_3 hb] at h
    split at h
    · omega
    · by_cases q : j = b
      · rw [q, ag_ui_eq] at h
        omega
      · rwa [ag_ui_ne q] at h
  · rw [ag_set_3 hb]
    split
    · omega
    · by_cases q : j = b
      · rw [q, ag_ui_eq]
        omega
      · rwa [ag_ui_ne q]
  · by_cases k3 : k = 3
    · rw [k3, ag_set_3 hb, if_neg (by omega), ag_ui_ne (by omega)]
    · by_cases k4 : k = 4
      · rw [k4, ag_set_4 hb, if_neg (by omega), ag_ui_ne (by omega)]
      · rw [ag_set_k k3 k4]
theorem ag_fat_congr {gb gp gp' : Nat → Nat → Int} {x b : Int} (h0 : gp' 0 = gp 0) (h1 : gp' 1 = gp 1) (h2 : gp' 2 = gp 2) (h3 : ag_rd 20 (gp' 3) b = ag_rd 20 (gp 3) b) : ag_fat gb gp' x b = ag_fat gb gp x b := by
  unfold ag_fat ag_ios
  rw [h0, h1, h2, h3]
theorem ag_spl_st {gb : Nat → Nat → Int} {x m : Nat} (hx : x < 20) (hm : m ≤ 20) : ∀ (k i : Nat) (gp : Nat → Nat → Int), i + k = m → ag_st gp (ag_spl gb x m k i gp) m := by
  intro k
  induction k with
  | zero => intro i gp _; exact ag_st_refl gp m
  | succ k ih =>
    intro i gp hi
    rw [ag_spl]
    refine ag_st_trans ?_ (ih (i + 1) _ (by omega))
    have f := ag_fat_013 gb gp x i
    split
    · exact ag_st_refl gp m
    · refine ag_set_st (by omega) hm (by omega) (by omega) ?_ ?_
      · split <;> omega
      · split <;> omega
/-- what is laid behind it has no fate -/
theorem ag_spl_done {gb : Nat → Nat → Int} {x m : Nat} (hx : x < 20) (hm : m ≤ 20) : ∀ (k i : Nat) (gp : Nat → Nat → Int), i + k = m → ∀ j : Nat, i ≤ j → j < m → ag_spl gb x m k i gp 3 j = 0 → ag_fat gb gp x j = 0 := by
  intro k
  induction k with
  | zero => intro i gp hi j h1 h2; omega
  | succ k ih =>
    intro i gp hi j h1 h2 h3
    have f := ag_fat_013 gb gp x i
    rw [ag_spl] at h3
    have hst := (ag_spl_st (gb := gb) hx hm k (i + 1) (if ag_fat gb gp x i = 0 then gp else ag_set gp i (ag_fat gb gp x i) (if ag_fat gb gp x i = 3 then x else -1) m) (by omega)).2.1 j h3
    by_cases q : ag_fat gb gp x i = 0
    · by_cases hji : j = i
      · rw [hji]; exact q
      · rw [if_pos q] at h3
        exact ih (i + 1) gp (by omega) j (by omega) h2 h3
    · rw [if_neg q] at h3 hst
      by_cases hji : j = i
      · exfalso
        rw [hji, ag_set_b (by omega) q] at hst
        exact q hst
      · have h4 := ih (i + 1) _ (by omega) j (by omega) h2 h3
        have h5 : gp 3 j = 0 := by
          rw [ag_set_3 (by omega)] at hst
          split at hst
          · omega
          · rwa [ag_ui_ne hji] at hst
        rw [ag_fat_congr (ag_set_k (by decide) (by decide)) (ag_set_k (by decide) (by decide)) (ag_set_k (by decide) (by decide)) (by rw [ag_rd_nat (by decide) (by omega), ag_rd_nat (by decide) (by omega), hst, h5])] at h4
        exact h4
theorem ag_IP_st {gb gp gp' : Nat → Nat → Int} {w m : Nat} (h : ag_IP gb gp w m) (hs : ag_st gp gp' m) : ag_IP gb gp' w m := by
  obtain ⟨⟨a1, a2, a3⟩, b, c⟩ := h
  obtain ⟨s1, s2, s3, s4, s5⟩ := hs
  have e0 := s1 0 (by decide) (by decide)
  have e1 := s1 1 (by decide) (by decide)
  have e2 := s1 2 (by decide) (by decide)
  refine ⟨⟨fun k j hj => (s4 k j hj).trans (a1 k j hj), s5 a2, a3⟩, ?_, fun a ha => ?_⟩
  · rw [e0, e1]; exact b
  · obtain ⟨c1, c2, c3, c4⟩ := c a ha
    have := s3 a ha ⟨c1.2.2.1, c1.2.2.2⟩
    rw [e0, e1, e2]
    exact ⟨⟨c1.1, c1.2.1, this.1, this.2⟩, c2, c3, c4⟩
theorem ag_IH_st {gb gp gp' : Nat → Nat → Int} {m : Nat} (h : ag_IH gb gp m) (hs : ag_st gp gp' m) : ag_IH gb gp' m := by
  obtain ⟨s1, s2, s3, s4, s5⟩ := hs
  intro a ha h3
  rw [s1 0 (by decide) (by decide), s1 1 (by decide) (by decide), s1 2 (by decide) (by decide)]
  exact h a ha (s2 a h3)
/-- the next one is laid -/
theorem ag_fol_is (gb gp : Nat → Nat → Int) {m : Nat} : ∀ (k i : Nat) (f : Int), i + k = m → (f = -1 ∨ ∃ a : Nat, a < m ∧ f = a ∧ gp 3 a = 0 ∧ gp 0 a ≠ 5) → (ag_fol gb gp k i f = -1 ∨ ∃ a : Nat, a < m ∧ ag_fol gb gp k i f = a ∧ gp 3 a = 0 ∧ gp 0 a ≠ 5) := by
  intro k
  induction k with
  | zero => intro i f _ h; exact h
  | succ k ih =>
    intro i f hi h
    rw [ag_fol]
    refine ih (i + 1) _ (by omega) ?_
    split
    · rename_i q
      exact Or.inr ⟨i, by omega, rfl, q.1, q.2.1⟩
    · exact h
theorem ag_nxt_is {gb gp : Nat → Nat → Int} {m : Nat} (h : ag_nxt gb gp m ≠ -1) : ∃ b : Nat, b < m ∧ ag_nxt gb gp m = b ∧ gp 3 b = 0 := by
  unfold ag_nxt at h ⊢
  dsimp only at h ⊢
  have hf := ag_fol_is gb gp (m := m) m 0 (-1) (by omega) (Or.inl rfl)
  generalize ag_fol gb gp m 0 (-1) = f at h hf
  by_cases q : f = -1
  · rw [if_pos q] at h
    exact absurd rfl h
  · rw [if_neg q]
    rcases hf with hf | ⟨a, a1, a2, a3, a4⟩
    · exact absurd hf q
    · have y := ag_ff_yes (fun i => decide (gp 3 i = 0 ∧ gp 0 i = 5 ∧ gp 1 i = f)) m 0
      by_cases q2 : ag_ff (fun i => decide (gp 3 i = 0 ∧ gp 0 i = 5 ∧ gp 1 i = f)) m 0 < m
      · rw [if_pos q2]
        have := of_decide_eq_true (y (by omega))
        exact ⟨_, q2, rfl, this.1⟩
      · rw [if_neg q2]
        exact ⟨a, a1, a2, a3⟩
theorem ag_nxt_no {gb gp : Nat → Nat → Int} {m : Nat} (h : ∀ a : Nat, a < m → gp 3 a ≠ 0) : ag_nxt gb gp m = -1 := by
  by_cases q : ag_nxt gb gp m = -1
  · exact q
  · obtain ⟨b, b1, b2, b3⟩ := ag_nxt_is q
    exact absurd b3 (h b b1)
/-- counts -/
theorem ag_ct_0 {p : Nat → Bool} : ∀ (k i : Nat), ag_ct p k i = 0 → ∀ j, i ≤ j → j < i + k → p j = false := by
  intro k
  induction k with
  | zero => intro i _ j h1 h2; omega
  | succ k ih =>
    intro i h j h1 h2
    rw [ag_ct] at h
    by_cases q : p i = true
    · rw [if_pos q] at h
      omega
    · by_cases hji : j = i
      · rw [hji]; simpa using q
      · rw [if_neg q] at h
        exact ih (i + 1) (by omega) j (by omega) (by omega)
theorem ag_ct_mono {p p' : Nat → Bool} : ∀ (k i : Nat), (∀ j, i ≤ j → j < i + k → p' j = true → p j = true) → ag_ct p' k i ≤ ag_ct p k i := by
  intro k
  induction k with
  | zero => intro i _; exact Nat.le_refl _
  | succ k ih =>
    intro i h
    have h1 := ih (i + 1) (fun j a b => h j (by omega) (by omega))
    have h2 := h i (Nat.le_refl _) (by omega)
    rw [ag_ct, ag_ct]
    by_cases q : p' i = true
    · rw [if_pos q, if_pos (h2 q)]
      omega
    · rw [if_neg q]
      split <;> omega
theorem ag_ct_less {p p' : Nat → Bool} {b : Nat} : ∀ (k i : Nat), (∀ j, i ≤ j → j < i + k → p' j = true → p j = true) → i ≤ b → b < i + k → p b = true → p' b = false → ag_ct p' k i < ag_ct p k i := by
  intro k
  induction k with
  | zero => intro i _ h1 h2; omega
  | succ k ih =>
    intro i h hb1 hb2 hp hp'
    rw [ag_ct, ag_ct]
    by_cases hbi : b = i
    · subst hbi
      have := ag_ct_mono k (b + 1) (fun j a c => h j (by omega) (by omega))
      rw [if_pos hp, if_neg (by rw [hp']; decide)]
      omega
    · have h1 := ih (i + 1) (fun j a b => h j (by omega) (by omega)) (by omega) (by omega) hp hp'
      have h2 := h i (Nat.le_refl _) (by omega)
      by_cases q : p' i = true
      · rw [if_pos q, if_pos (h2 q)]
        omega
      · rw [if_neg q]
        split <;> omega
/-- how many are laid -/
def ag_lc (gp : Nat → Nat → Int) (m : Nat) : Nat := ag_ct (fun i => decide (gp 3 i = 0)) m 0
theorem ag_lc_st {gp gp' : Nat → Nat → Int} {m b : Nat} (hs : ag_st gp gp' m) (hb : b < m) (h1 : gp 3 b = 0) (h2 : gp' 3 b ≠ 0) : ag_lc gp' m < ag_lc gp m := by
  unfold ag_lc
  refine ag_ct_less (b := b) m 0 (fun j _ _ h => ?_) (Nat.zero_le _) (by omega) (decide_eq_true h1) (decide_eq_false h2)
  exact decide_eq_true (hs.2.1 j (of_decide_eq_true h))
