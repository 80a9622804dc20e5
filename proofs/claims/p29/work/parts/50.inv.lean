/-! THE INVARIANT of the bill, and what numbering anew, taking out and raising do to rows. -/
variable {B : Nat}
def ag_rdg (g : Nat → Nat → Int) (i : Nat) : Nat := (g 6 i).toNat
def ag_hgt (g : Nat → Nat → Int) (i : Nat) : Int := g 2 (ag_rdg g i)
def ag_PO (g : Nat → Nat → Int) (i : Nat) : Prop :=
  0 ≤ ag_hgt g i ∧ ag_hgt g i ≤ 3 ∧ ((ag_hgt g i = 0 ∧ g 1 (ag_rdg g i) = -1) ∨ ∃ j, j < i ∧ g 1 (ag_rdg g i) = g 6 j ∧ ag_hgt g j + 1 = ag_hgt g i ∧ ∀ k, j < k → k < i → ag_hgt g i ≤ ag_hgt g k)
def ag_BI (g : Nat → Nat → Int) (w n : Nat) : Prop :=
  ag_sm g ∧ n ≤ w ∧ w ≤ 40 ∧ (∀ i, i < n → 0 ≤ g 6 i ∧ g 6 i < w ∧ g 5 (ag_rdg g i) = i) ∧ (∀ c, c < w → g 5 c = -1 ∨ ∃ i, i < n ∧ g 5 c = (i : Nat) ∧ g 6 i = (c : Nat)) ∧ (∀ i, i < n → ag_PO g i)
theorem ag_rn_no (r q : Nat → Int) (c : Nat) : ∀ (k : Nat), k ≤ 40 → (∀ i, i < k → 0 ≤ r i ∧ r i < 40) → (∀ i, i < k → r i ≠ c) → ag_rn r q k c = q c := by
  intro k
  induction k with
  | zero => intro _ _ _; rfl
  | succ k ih =>
    intro hk hr h
    have h1 := hr k (by omega)
    have h2 := h k (by omega)
    obtain ⟨z, hz⟩ : ∃ z : Nat, r k = z := ⟨(r k).toNat, by omega⟩
    rw [ag_rn, ag_rd_nat (by decide) (by omega), hz, ag_wr_nat _ (by decide) (by omega)]
    unfold ag_ui
    rw [if_neg (by omega)]
    exact ih (by omega) (fun i hi => hr i (by omega)) (fun i hi => h i (by omega))
theorem ag_rn_yes (r q : Nat → Int) : ∀ (k : Nat), k ≤ 40 → (∀ i, i < k → 0 ≤ r i ∧ r i < 40) → (∀ i j, i < j → j < k → r i ≠ r j) → ∀ i, i < k → ag_rn r q k (r i).toNat = i := by
  intro k
  induction k with
  | zero => intro _ _ _ i hi; omega
  | succ k ih =>
    intro hk hr hj i hi
    have h1 := hr k (by omega)
    obtain ⟨z, hz⟩ : ∃ z : Nat, r k = z := ⟨(r k).toNat, by omega⟩
    rw [ag_rn, ag_rd_nat (by decide) (by omega), hz, ag_wr_nat _ (by decide) (by omega)]
    unfold ag_ui
    by_cases hik : i = k
    · subst hik
      rw [if_pos (by omega)]
    · have h2 := hj i k (by omega) (by omega)
      have h3 := hr i (by omega)
      rw [if_neg (by omega)]
      exact ih (by omega) (fun i hi => hr i (by omega)) (fun i j h1 h2 => hj i j h1 (by omega)) i (by omega)
