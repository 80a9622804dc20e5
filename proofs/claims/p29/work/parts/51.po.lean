/-! PREORDER, by places: h height, u parent (a clause), r the row. -/
variable {B : Nat}
def ag_po (h u r : Nat → Int) (n : Nat) : Prop :=
  ∀ i, i < n → 0 ≤ h i ∧ h i ≤ 3 ∧ ((h i = 0 ∧ u i = -1) ∨ ∃ j, j < i ∧ u i = r j ∧ h j + 1 = h i ∧ ∀ k, j < k → k < i → h i ≤ h k)
/-- put at e -/
def ag_pin (h : Nat → Int) (e : Nat) (x : Int) : Nat → Int := fun i => if i < e then h i else if i = e then x else h (i - 1)
theorem ag_pin_lt {h : Nat → Int} {e i : Nat} {x : Int} (hi : i < e) : ag_pin h e x i = h i := by
  unfold ag_pin
  rw [if_pos hi]
theorem ag_pin_eq {h : Nat → Int} {e : Nat} {x : Int} : ag_pin h e x e = x := by
  unfold ag_pin
  rw [if_neg (Nat.lt_irrefl e), if_pos rfl]
theorem ag_pin_gt {h : Nat → Int} {e i : Nat} {x : Int} (hi : e ≤ i) : ag_pin h e x (i + 1) = h i := by
  unfold ag_pin
  rw [if_neg (show ¬ i + 1 < e by omega), if_neg (show ¬ i + 1 = e by omega), Nat.add_sub_cancel]
theorem ag_po_insert {h u r : Nat → Int} {n e : Nat} {hn un rn : Int} (hp : ag_po h u r n) (he : e ≤ n) (h0 : 0 ≤ hn) (h3 : hn ≤ 3) (hlast : e < n → h e ≤ hn)
    (hnew : (hn = 0 ∧ un = -1) ∨ ∃ j, j < e ∧ un = r j ∧ h j + 1 = hn ∧ ∀ k, j < k → k < e → hn ≤ h k) : ag_po (ag_pin h e hn) (ag_pin u e un) (ag_pin r e rn) (n + 1) := by
  intro i hi
  rcases Nat.lt_trichotomy i e with q | q | q
  · rw [ag_pin_lt q, ag_pin_lt q]
    obtain ⟨a1, a2, a3⟩ := hp i (by omega)
    refine ⟨a1, a2, ?_⟩
    rcases a3 with a3 | ⟨j, b1, b2, b3, b4⟩
    · exact Or.inl a3
    · refine Or.inr ⟨j, b1, ?_, ?_, ?_⟩
      · rw [ag_pin_lt (by omega)]; exact b2
      · rw [ag_pin_lt (by omega)]; exact b3
      · intro k k1 k2
        rw [ag_pin_lt (by omega)]
        exact b4 k k1 k2
  · subst q
    rw [ag_pin_eq, ag_pin_eq]
    refine ⟨h0, h3, ?_⟩
    rcases hnew with a3 | ⟨j, b1, b2, b3, b4⟩
    · exact Or.inl a3
    · refine Or.inr ⟨j, b1, ?_, ?_, ?_⟩
      · rw [ag_pin_lt b1]; exact b2
      · rw [ag_pin_lt b1]; exact b3
      · intro k k1 k2
        rw [ag_pin_lt k2]
        exact b4 k k1 k2
  · obtain ⟨i, rfl⟩ : ∃ z, i = z + 1 := ⟨i - 1, by omega⟩
    rw [ag_pin_gt (by omega), ag_pin_gt (by omega)]
    obtain ⟨a1, a2, a3⟩ := hp i (by omega)
    refine ⟨a1, a2, ?_⟩
    rcases a3 with a3 | ⟨j, b1, b2, b3, b4⟩
    · exact Or.inl a3
    · by_cases hj : j < e
      · refine Or.inr ⟨j, by omega, ?_, ?_, ?_⟩
        · rw [ag_pin_lt hj]; exact b2
        · rw [ag_pin_lt hj]; exact b3
        · intro k k1 k2
          rcases Nat.lt_trichotomy k e with c | c | c
          · rw [ag_pin_lt c]
            exact b4 k k1 (by omega)
          · subst c
            rw [ag_pin_eq]
            by_cases hie : i = k
            · subst hie
              exact hlast (by omega)
            · have := b4 k k1 (by omega)
              have := hlast (by omega)
              omega
          · obtain ⟨k, rfl⟩ : ∃ z, k = z + 1 := ⟨k - 1, by omega⟩
            rw [ag_pin_gt (by omega)]
            exact b4 k (by omega) (by omega)
      · refine Or.inr ⟨j + 1, by omega, ?_, ?_, ?_⟩
        · rw [ag_pin_gt (by omega)]; exact b2
        · rw [ag_pin_gt (by omega)]; exact b3
        · intro k k1 k2
          obtain ⟨k, rfl⟩ : ∃ z, k = z + 1 := ⟨k - 1, by omega⟩
          rw [ag_pin_gt (by omega)]
          exact b4 k (by omega) (by omega)
/-- cut from p to e -/
def ag_pcu (h : Nat → Int) (p e : Nat) : Nat → Int := fun i => if i < p then h i else h (i + (e - p))
theorem ag_pcu_lt {h : Nat → Int} {p e i : Nat} (hi : i < p) : ag_pcu h p e i = h i := by
  unfold ag_pcu
  rw [if_pos hi]
theorem ag_pcu_ge {h : Nat → Int} {p e i : Nat} (hi : p ≤ i) : ag_pcu h p e i = h (i + (e - p)) := by
  unfold ag_pcu
  rw [if_neg (by omega)]
/-- a block: from p to e, all within higher than p, the one behind not -/
def ag_blk (h : Nat → Int) (n p e : Nat) : Prop := p < e ∧ e ≤ n ∧ (∀ k, p < k → k < e → h p < h k) ∧ (e < n → h e ≤ h p)
/-- the parent of one outside lies outside -/
theorem ag_blk_out {h : Nat → Int} {n p e i j : Nat} (hb : ag_blk h n p e) (hi : e ≤ i) (hin : i < n) (hj : j < i) (h1 : h j + 1 = h i) (h2 : ∀ k, j < k → k < i → h i ≤ h k) : j < p ∨ e ≤ j := by
  obtain ⟨b1, b2, b3, b4⟩ := hb
  have b4 := b4 (by omega)
  by_cases q1 : j < p
  · exact Or.inl q1
  · by_cases q2 : e ≤ j
    · exact Or.inr q2
    · exfalso
      have hjp : h p ≤ h j := by
        by_cases hjp : j = p
        · rw [hjp]
          exact Int.le_refl _
        · have := b3 j (by omega) (by omega)
          omega
      by_cases q3 : i = e
      · subst q3
        omega
      · have := h2 e (by omega) (by omega)
        omega
theorem ag_po_cut {h u r : Nat → Int} {n p e : Nat} (hp : ag_po h u r n) (hb : ag_blk h n p e) : ag_po (ag_pcu h p e) (ag_pcu u p e) (ag_pcu r p e) (n - (e - p)) := by
  have hb' := hb
  obtain ⟨b1, b2, b3, b4⟩ := hb'
  intro i hi
  by_cases q : i < p
  · rw [ag_pcu_lt q, ag_pcu_lt q]
    obtain ⟨a1, a2, a3⟩ := hp i (by omega)
    refine ⟨a1, a2, ?_⟩
    rcases a3 with a3 | ⟨j, c1, c2, c3, c4⟩
    · exact Or.inl a3
    · refine Or.inr ⟨j, c1, ?_, ?_, ?_⟩
      · rw [ag_pcu_lt (by omega)]; exact c2
      · rw [ag_pcu_lt (by omega)]; exact c3
      · intro k k1 k2
        rw [ag_pcu_lt (by omega)]
        exact c4 k k1 k2
  · rw [ag_pcu_ge (by omega), ag_pcu_ge (by omega)]
    obtain ⟨a1, a2, a3⟩ := hp (i + (e - p)) (by omega)
    refine ⟨a1, a2, ?_⟩
    rcases a3 with a3 | ⟨j, c1, c2, c3, c4⟩
    · exact Or.inl a3
    · have ho := ag_blk_out hb (by omega) (by omega) c1 c3 c4
      by_cases hj : j < p
      · refine Or.inr ⟨j, by omega, ?_, ?_, ?_⟩
        · rw [ag_pcu_lt hj]; exact c2
        · rw [ag_pcu_lt hj]; exact c3
        · intro k k1 k2
          by_cases hk : k < p
          · rw [ag_pcu_lt hk]
            exact c4 k k1 (by omega)
          · rw [ag_pcu_ge (by omega)]
            exact c4 _ (by omega) (by omega)
      · obtain ⟨z, rfl⟩ : ∃ z, j = z + (e - p) := ⟨j - (e - p), by omega⟩
        refine Or.inr ⟨z, by omega, ?_, ?_, ?_⟩
        · rw [ag_pcu_ge (by omega)]; exact c2
        · rw [ag_pcu_ge (by omega)]; exact c3
        · intro k k1 k2
          rw [ag_pcu_ge (by omega)]
          exact c4 _ (by omega) (by omega)
