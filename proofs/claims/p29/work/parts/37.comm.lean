/-! OBJECTS APART (by program, wip/whole/gen_obj3.py): a setter within its own places does not ask what was there; setters apart commute. -/
theorem ag_SB_in (σ τ : ag_S) (a : Nat) (g : Nat → Nat → Int) (v : Nat → Int) {z : Nat} (h : ¬ (z < a ∨ a + 8 < z)) : (ag_SB σ a g v).1 z = (ag_SB τ a g v).1 z := by
  have h2 : z = a ∨ z = a + 1 ∨ z = a + 2 ∨ z = a + 3 ∨ z = a + 4 ∨ z = a + 5 ∨ z = a + 6 ∨ z = a + 7 ∨ z = a + 8 := by omega
  rcases h2 with rfl | rfl | rfl | rfl | rfl | rfl | rfl | rfl | rfl
  · exact (ag_SB_o _ _ g v).trans (ag_SB_o _ _ g v).symm
  · exact (ag_SB_a0 _ _ g v).trans (ag_SB_a0 _ _ g v).symm
  · exact (ag_SB_a1 _ _ g v).trans (ag_SB_a1 _ _ g v).symm
  · exact (ag_SB_a2 _ _ g v).trans (ag_SB_a2 _ _ g v).symm
  · exact (ag_SB_a3 _ _ g v).trans (ag_SB_a3 _ _ g v).symm
  · exact (ag_SB_a4 _ _ g v).trans (ag_SB_a4 _ _ g v).symm
  · exact (ag_SB_a5 _ _ g v).trans (ag_SB_a5 _ _ g v).symm
  · exact (ag_SB_a6 _ _ g v).trans (ag_SB_a6 _ _ g v).symm
  · exact (ag_SB_a7 _ _ g v).trans (ag_SB_a7 _ _ g v).symm

theorem ag_SH_in (σ τ : ag_S) (a : Nat) (g : Nat → Nat → Int) (v : Nat → Int) {z : Nat} (h : ¬ (z < a ∨ a + 4 < z)) : (ag_SH σ a g v).1 z = (ag_SH τ a g v).1 z := by
  have h2 : z = a ∨ z = a + 1 ∨ z = a + 2 ∨ z = a + 3 ∨ z = a + 4 := by omega
  rcases h2 with rfl | rfl | rfl | rfl | rfl
  · exact (ag_SH_o _ _ g v).trans (ag_SH_o _ _ g v).symm
  · exact (ag_SH_a0 _ _ g v).trans (ag_SH_a0 _ _ g v).symm
  · exact (ag_SH_a1 _ _ g v).trans (ag_SH_a1 _ _ g v).symm
  · exact (ag_SH_a2 _ _ g v).trans (ag_SH_a2 _ _ g v).symm
  · exact (ag_SH_a3 _ _ g v).trans (ag_SH_a3 _ _ g v).symm

theorem ag_SP_in (σ τ : ag_S) (a : Nat) (g : Nat → Nat → Int) (v : Nat → Int) {z : Nat} (h : ¬ (z < a ∨ a + 6 < z)) : (ag_SP σ a g v).1 z = (ag_SP τ a g v).1 z := by
  have h2 : z = a ∨ z = a + 1 ∨ z = a + 2 ∨ z = a + 3 ∨ z = a + 4 ∨ z = a + 5 ∨ z = a + 6 := by omega
  rcases h2 with rfl | rfl | rfl | rfl | rfl | rfl | rfl
  · exact (ag_SP_o _ _ g v).trans (ag_SP_o _ _ g v).symm
  · exact (ag_SP_a0 _ _ g v).trans (ag_SP_a0 _ _ g v).symm
  · exact (ag_SP_a1 _ _ g v).trans (ag_SP_a1 _ _ g v).symm
  · exact (ag_SP_a2 _ _ g v).trans (ag_SP_a2 _ _ g v).symm
  · exact (ag_SP_a3 _ _ g v).trans (ag_SP_a3 _ _ g v).symm
  · exact (ag_SP_a4 _ _ g v).trans (ag_SP_a4 _ _ g v).symm
  · exact (ag_SP_a5 _ _ g v).trans (ag_SP_a5 _ _ g v).symm

theorem ag_SQ_in (σ τ : ag_S) (a : Nat) (g : Nat → Nat → Int) (v : Nat → Int) {z : Nat} (h : ¬ (z < a ∨ a + 2 < z)) : (ag_SQ σ a g v).1 z = (ag_SQ τ a g v).1 z := by
  have h2 : z = a ∨ z = a + 1 ∨ z = a + 2 := by omega
  rcases h2 with rfl | rfl | rfl
  · exact (ag_SQ_o _ _ g v).trans (ag_SQ_o _ _ g v).symm
  · exact (ag_SQ_a0 _ _ g v).trans (ag_SQ_a0 _ _ g v).symm
  · exact (ag_SQ_a1 _ _ g v).trans (ag_SQ_a1 _ _ g v).symm

theorem ag_SBB (σ : ag_S) {a b : Nat} (g g2 : Nat → Nat → Int) (v v2 : Nat → Int) (hd : a + 8 < b ∨ b + 8 < a) : ag_SB (ag_SB σ b g2 v2) a g v = ag_SB (ag_SB σ a g v) b g2 v2 := by
  refine Prod.ext (funext fun z => ?_) rfl
  by_cases h1 : z < a ∨ a + 8 < z
  · rw [ag_SB_fr _ a g v h1]
    by_cases h2 : z < b ∨ b + 8 < z
    · rw [ag_SB_fr _ b g2 v2 h2, ag_SB_fr _ b g2 v2 h2, ag_SB_fr _ a g v h1]
    · exact ag_SB_in _ _ b g2 v2 h2
  · rw [ag_SB_fr _ b g2 v2 (by omega)]
    exact ag_SB_in _ _ a g v h1
theorem ag_SBH (σ : ag_S) {a b : Nat} (g g2 : Nat → Nat → Int) (v v2 : Nat → Int) (hd : a + 8 < b ∨ b + 4 < a) : ag_SB (ag_SH σ b g2 v2) a g v = ag_SH (ag_SB σ a g v) b g2 v2 := by
  refine Prod.ext (funext fun z => ?_) rfl
  by_cases h1 : z < a ∨ a + 8 < z
  · rw [ag_SB_fr _ a g v h1]
    by_cases h2 : z < b ∨ b + 4 < z
    · rw [ag_SH_fr _ b g2 v2 h2, ag_SH_fr _ b g2 v2 h2, ag_SB_fr _ a g v h1]
    · exact ag_SH_in _ _ b g2 v2 h2
  · rw [ag_SH_fr _ b g2 v2 (by omega)]
    exact ag_SB_in _ _ a g v h1
theorem ag_SBP (σ : ag_S) {a b : Nat} (g g2 : Nat → Nat → Int) (v v2 : Nat → Int) (hd : a + 8 < b ∨ b + 6 < a) : ag_SB (ag_SP σ b g2 v2) a g v = ag_SP (ag_SB σ a g v) b g2 v2 := by
  refine Prod.ext (funext fun z => ?_) rfl
  by_cases h1 : z < a ∨ a + 8 < z
  · rw [ag_SB_fr _ a g v h1]
    by_cases h2 : z < b ∨ b + 6 < z
    · rw [ag_SP_fr _ b g2 v2 h2, ag_SP_fr _ b g2 v2 h2, ag_SB_fr _ a g v h1]
    · exact ag_SP_in _ _ b g2 v2 h2
  · rw [ag_SP_fr _ b g2 v2 (by omega)]
    exact ag_SB_in _ _ a g v h1
theorem ag_SBQ (σ : ag_S) {a b : Nat} (g g2 : Nat → Nat → Int) (v v2 : Nat → Int) (hd : a + 8 < b ∨ b + 2 < a) : ag_SB (ag_SQ σ b g2 v2) a g v = ag_SQ (ag_SB σ a g v) b g2 v2 := by
  refine Prod.ext (funext fun z => ?_) rfl
  by_cases h1 : z < a ∨ a + 8 < z
  · rw [ag_SB_fr _ a g v h1]
    by_cases h2 : z < b ∨ b + 2 < z
    · rw [ag_SQ_fr _ b g2 v2 h2, ag_SQ_fr _ b g2 v2 h2, ag_SB_fr _ a g v h1]
    · exact ag_SQ_in _ _ b g2 v2 h2
  · rw [ag_SQ_fr _ b g2 v2 (by omega)]
    exact ag_SB_in _ _ a g v h1
theorem ag_SHH (σ : ag_S) {a b : Nat} (g g2 : Nat → Nat → Int) (v v2 : Nat → Int) (hd : a + 4 < b ∨ b + 4 < a) : ag_SH (ag_SH σ b g2 v2) a g v = ag_SH (ag_SH σ a g v) b g2 v2 := by
  refine Prod.ext (funext fun z => ?_) rfl
  by_cases h1 : z < a ∨ a + 4 < z
  · rw [ag_SH_fr _ a g v h1]
    by_cases h2 : z < b ∨ b + 4 < z
    · rw [ag_SH_fr _ b g2 v2 h2, ag_SH_fr _ b g2 v2 h2, ag_SH_fr _ a g v h1]
    · exact ag_SH_in _ _ b g2 v2 h2
  · rw [ag_SH_fr _ b g2 v2 (by omega)]
    exact ag_SH_in _ _ a g v h1
theorem ag_SHP (σ : ag_S) {a b : Nat} (g g2 : Nat → Nat → Int) (v v2 : Nat → Int) (hd : a + 4 < b ∨ b + 6 < a) : ag_SH (ag_SP σ b g2 v2) a g v = ag_SP (ag_SH σ a g v) b g2 v2 := by
  refine Prod.ext (funext fun z => ?_) rfl
  by_cases h1 : z < a ∨ a + 4 < z
  · rw [ag_SH_fr _ a g v h1]
    by_cases h2 : z < b ∨ b + 6 < z
    · rw [ag_SP_fr _ b g2 v2 h2, ag_SP_fr _ b g2 v2 h2, ag_SH_fr _ a g v h1]
    · exact ag_SP_in _ _ b g2 v2 h2
  · rw [ag_SP_fr _ b g2 v2 (by omega)]
    exact ag_SH_in _ _ a g v h1
theorem ag_SHQ (σ : ag_S) {a b : Nat} (g g2 : Nat → Nat → Int) (v v2 : Nat → Int) (hd : a + 4 < b ∨ b + 2 < a) : ag_SH (ag_SQ σ b g2 v2) a g v = ag_SQ (ag_SH σ a g v) b g2 v2 := by
  refine Prod.ext (funext fun z => ?_) rfl
  by_cases h1 : z < a ∨ a + 4 < z
  · rw [ag_SH_fr _ a g v h1]
    by_cases h2 : z < b ∨ b + 2 < z
    · rw [ag_SQ_fr _ b g2 v2 h2, ag_SQ_fr _ b g2 v2 h2, ag_SH_fr _ a g v h1]
    · exact ag_SQ_in _ _ b g2 v2 h2
  · rw [ag_SQ_fr _ b g2 v2 (by omega)]
    exact ag_SH_in _ _ a g v h1
theorem ag_SPP (σ : ag_S) {a b : Nat} (g g2 : Nat → Nat → Int) (v v2 : Nat → Int) (hd : a + 6 < b ∨ b + 6 < a) : ag_SP (ag_SP σ b g2 v2) a g v = ag_SP (ag_SP σ a g v) b g2 v2 := by
  refine Prod.ext (funext fun z => ?_) rfl
  by_cases h1 : z < a ∨ a + 6 < z
  · rw [ag_SP_fr _ a g v h1]
    by_cases h2 : z < b ∨ b + 6 < z
    · rw [ag_SP_fr _ b g2 v2 h2, ag_SP_fr _ b g2 v2 h2, ag_SP_fr _ a g v h1]
    · exact ag_SP_in _ _ b g2 v2 h2
  · rw [ag_SP_fr _ b g2 v2 (by omega)]
    exact ag_SP_in _ _ a g v h1
theorem ag_SPQ (σ : ag_S) {a b : Nat} (g g2 : Nat → Nat → Int) (v v2 : Nat → Int) (hd : a + 6 < b ∨ b + 2 < a) : ag_SP (ag_SQ σ b g2 v2) a g v = ag_SQ (ag_SP σ a g v) b g2 v2 := by
  refine Prod.ext (funext fun z => ?_) rfl
  by_cases h1 : z < a ∨ a + 6 < z
  · rw [ag_SP_fr _ a g v h1]
    by_cases h2 : z < b ∨ b + 2 < z
    · rw [ag_SQ_fr _ b g2 v2 h2, ag_SQ_fr _ b g2 v2 h2, ag_SP_fr _ a g v h1]
    · exact ag_SQ_in _ _ b g2 v2 h2
  · rw [ag_SQ_fr _ b g2 v2 (by omega)]
    exact ag_SP_in _ _ a g v h1
theorem ag_SQQ (σ : ag_S) {a b : Nat} (g g2 : Nat → Nat → Int) (v v2 : Nat → Int) (hd : a + 2 < b ∨ b + 2 < a) : ag_SQ (ag_SQ σ b g2 v2) a g v = ag_SQ (ag_SQ σ a g v) b g2 v2 := by
  refine Prod.ext (funext fun z => ?_) rfl
  by_cases h1 : z < a ∨ a + 2 < z
  · rw [ag_SQ_fr _ a g v h1]
    by_cases h2 : z < b ∨ b + 2 < z
    · rw [ag_SQ_fr _ b g2 v2 h2, ag_SQ_fr _ b g2 v2 h2, ag_SQ_fr _ a g v h1]
    · exact ag_SQ_in _ _ b g2 v2 h2
  · rw [ag_SQ_fr _ b g2 v2 (by omega)]
    exact ag_SQ_in _ _ a g v h1
