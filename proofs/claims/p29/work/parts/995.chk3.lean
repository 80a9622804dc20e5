/-! THE LAW'S THIRD CHECK: the clauses are counted. -/
variable {B : Nat}
/-- what is mapped one to one is no more -/
theorem ag_ct_inj {q : Nat → Bool} {k' : Nat} : ∀ (k : Nat) (p q : Nat → Bool) (f : Nat → Nat), (∀ i, i < k → p i = true → f i < k' ∧ q (f i) = true) → (∀ i j, i < k → j < k → p i = true → p j = true → f i = f j → i = j) → ag_ct p k 0 ≤ ag_ct q k' 0 := by
  intro k
  induction k with
  | zero => intro p q f _ _; exact Nat.zero_le _
  | succ k ih =>
    intro p q f h1 h2
    have e : ag_ct p (k + 1) 0 = ag_ct p k 0 + (if p k = true then 1 else 0) := by
      have w : ∀ (d i : Nat), ag_ct p (d + 1) i = ag_ct p d i + (if p (i + d) = true then 1 else 0) := by
        intro d
        induction d with
        | zero => intro i; show (if p i = true then 1 else 0) + 0 = 0 + (if p (i + 0) = true then 1 else 0); rw [Nat.add_zero, Nat.zero_add, Nat.add_zero]
        | succ d ihd =>
          intro i
          show (if p i = true then 1 else 0) + ag_ct p (d + 1) (i + 1) = ((if p i = true then 1 else 0) + ag_ct p d (i + 1)) + (if p (i + (d + 1)) = true then 1 else 0)
          rw [ihd (i + 1), show i + 1 + d = i + (d + 1) by omega]
          omega
      rw [w k 0, Nat.zero_add]
    rw [e]
    by_cases c : p k = true
    · rw [if_pos c]
      obtain ⟨u1, u2⟩ := h1 k (Nat.lt_succ_self k) c
      have i1 := ih p (fun j => q j && !(decide (j = f k))) f (fun i hi hp => by
        obtain ⟨v1, v2⟩ := h1 i (by omega) hp
        refine ⟨v1, ?_⟩
        have : f i ≠ f k := fun z => by
          have := h2 i k (by omega) (by omega) hp c z
          omega
        simp [v2, this]) (fun i j hi hj => h2 i j (by omega) (by omega))
      have add := ag_ct_add (p := q) (q := fun j => q j && !(decide (j = f k))) (r := fun j => decide (j = f k)) k' 0 (fun j _ _ => by
        by_cases z : j = f k
        · subst z
          simp [u2]
        · simp [z])
      have one := ag_ct_one (f k) k' 0
      rw [if_pos ⟨Nat.zero_le _, by omega⟩] at one
      omega
    · rw [if_neg c]
      exact ih p q f (fun i hi hp => h1 i (by omega) hp) (fun i j hi hj => h2 i j (by omega) (by omega))
theorem ag_ct_bij {p q : Nat → Bool} {k k' : Nat} (f g : Nat → Nat) (h1 : ∀ i, i < k → p i = true → f i < k' ∧ q (f i) = true ∧ g (f i) = i) (h2 : ∀ i, i < k' → q i = true → g i < k ∧ p (g i) = true ∧ f (g i) = i) : ag_ct p k 0 = ag_ct q k' 0 := by
  have a := ag_ct_inj (q := q) (k' := k') k p q f (fun i hi hp => ⟨(h1 i hi hp).1, (h1 i hi hp).2.1⟩) (fun i j hi hj hp hq e => by rw [← (h1 i hi hp).2.2, ← (h1 j hj hq).2.2, e])
  have b := ag_ct_inj (q := p) (k' := k) k' q p g (fun i hi hp => ⟨(h2 i hi hp).1, (h2 i hi hp).2.1⟩) (fun i j hi hj hp hq e => by rw [← (h2 i hi hp).2.2, ← (h2 j hj hq).2.2, e])
  omega
theorem ag_ct_cg3 {p q : Nat → Bool} : ∀ (k i : Nat), (∀ j, i ≤ j → j < i + k → p j = q j) → ag_ct p k i = ag_ct q k i := by
  intro k
  induction k with
  | zero => intro i _; rfl
  | succ k ih =>
    intro i h
    show (if p i = true then 1 else 0) + ag_ct p k (i + 1) = (if q i = true then 1 else 0) + ag_ct q k (i + 1)
    rw [h i (Nat.le_refl _) (by omega), ih (i + 1) (fun j a b => h j (by omega) (by omega))]
/-- a sum of small numbers, by counts -/
theorem ag_su_cts {v : Nat → Int} : ∀ (k i : Nat), (∀ j, i ≤ j → j < i + k → 0 ≤ v j ∧ v j ≤ 3) → ag_su v k i = (ag_ct (fun j => decide (1 ≤ v j)) k i : Int) + (ag_ct (fun j => decide (2 ≤ v j)) k i : Int) + (ag_ct (fun j => decide (3 ≤ v j)) k i : Int) := by
  intro k
  induction k with
  | zero => intro i _; rfl
  | succ k ih =>
    intro i h
    have h0 := h i (Nat.le_refl _) (by omega)
    have h1 := ih (i + 1) (fun j a b => h j (by omega) (by omega))
    have e : ∀ t : Int, ag_ct (fun j => decide (t ≤ v j)) (k + 1) i = (if decide (t ≤ v i) = true then 1 else 0) + ag_ct (fun j => decide (t ≤ v j)) k (i + 1) := fun t => rfl
    rw [e 1, e 2, e 3]
    show v i + ag_su v k (i + 1) = _
    rw [h1]
    have h4 : v i = 0 ∨ v i = 1 ∨ v i = 2 ∨ v i = 3 := by omega
    rcases h4 with z | z | z | z <;> rw [z] <;> simp <;> omega
section AGC3
variable {gb gp : Nat → Nat → Int} {w n m : Nat}
theorem ag_came (hV : ag_IV (gb, (w, (n, gp))) m) (hE : ag_E (gb, (w, (n, gp))) m) : ag_ct (fun c => decide (0 ≤ gb 3 c)) w 0 = ag_ct (fun a => decide (0 ≤ gp 5 a)) m 0 := by
  have hIP : ∀ c : Nat, c < w → gb 3 c < m := fun c hc => (hV.2.1.2.1 c hc).2.1
  have e2 : ∀ b : Nat, b < m → gp 5 b = -1 ∨ (0 ≤ gp 5 b ∧ gp 5 b < w ∧ gp 3 b = 1 ∧ (gp 0 b = 3 ∨ gp 0 b = 4) ∧ gb 3 (gp 5 b).toNat = b) := hE.2.1
  have e3 : ∀ c : Nat, c < w → 0 ≤ gb 3 c → gp 5 (gb 3 c).toNat = c := hE.2.2.1
  refine ag_ct_bij (fun c => (gb 3 c).toNat) (fun a => (gp 5 a).toNat) (fun c hc h => ?_) (fun a ha h => ?_)
  · have h := of_decide_eq_true h
    have y := e3 c hc h
    have := hIP c hc
    exact ⟨by omega, decide_eq_true (by omega), by omega⟩
  · have h := of_decide_eq_true h
    rcases e2 a ha with z | ⟨z1, z2, z3, z4, z5⟩
    · omega
    · exact ⟨by omega, decide_eq_true (by rw [z5]; omega), by omega⟩
theorem ag_held_n (hB : ag_IB gb w n) (t : Int) : ag_ct (fun c => decide (gb 5 c ≠ -1 ∧ t ≤ gb 2 c)) w 0 = ag_ct (fun i => decide (t ≤ gb 2 (gb 6 i).toNat)) n 0 := by
  refine ag_ct_bij (fun c => (gb 5 c).toNat) (fun i => (gb 6 i).toNat) (fun c hc h => ?_) (fun i hi h => ?_)
  · obtain ⟨h1, h2⟩ := of_decide_eq_true h
    rcases hB.2.2.1 c hc with z | ⟨i, i1, i2, i3⟩
    · exact absurd z h1
    · refine ⟨by omega, decide_eq_true ?_, ?_⟩
      · rw [i2, Int.toNat_natCast, i3, Int.toNat_natCast]
        exact h2
      · rw [i2, Int.toNat_natCast, i3, Int.toNat_natCast]
  · have h2 := of_decide_eq_true h
    obtain ⟨r1, r2, r3⟩ := hB.2.1 i hi
    refine ⟨by omega, decide_eq_true ⟨by rw [r3]; omega, h2⟩, ?_⟩
    rw [r3, Int.toNat_natCast]
theorem ag_ct_all {p : Nat → Bool} : ∀ (k i : Nat), (∀ j, i ≤ j → j < i + k → p j = true) → ag_ct p k i = k := by
  intro k
  induction k with
  | zero => intro i _; rfl
  | succ k ih =>
    intro i h
    show (if p i = true then 1 else 0) + ag_ct p k (i + 1) = k + 1
    rw [h i (Nat.le_refl _) (by omega), if_pos rfl, ih (i + 1) (fun j a b => h j (by omega) (by omega))]
    omega
/-- who is in the bill, and who is struck -/
theorem ag_struck (hB : ag_IB gb w n) : ag_ct (fun c => decide (gb 5 c = -1)) w 0 + n = w := by
  have add := ag_ct_add (p := fun _ => true) (q := fun c => decide (gb 5 c = -1)) (r := fun c => decide (gb 5 c ≠ -1)) w 0 (fun j _ _ => by
    by_cases z : gb 5 j = -1 <;> simp [z])
  rw [ag_ct_all (p := fun _ => true) w 0 (fun _ _ _ => rfl)] at add
  have h := ag_held_n hB (-100000)
  have hs := hB.1.2.1
  have e1 : ag_ct (fun c => decide (gb 5 c ≠ -1 ∧ -100000 ≤ gb 2 c)) w 0 = ag_ct (fun c => decide (gb 5 c ≠ -1)) w 0 := ag_ct_cg3 w 0 (fun j _ _ => by
    have := (hs 2 j).1
    by_cases z : gb 5 j = -1
    · simp [z]
    · simp [z, this])
  have e2 : ag_ct (fun i => decide (-100000 ≤ gb 2 (gb 6 i).toNat)) n 0 = n := ag_ct_all n 0 (fun j _ _ => decide_eq_true (hs 2 _).1)
  omega
/-- the heights together -/
theorem ag_belows (hB : ag_IB gb w n) : ag_su (fun c => if gb 5 c = -1 then 0 else gb 2 c) w 0 = ag_su (fun i => gb 2 (gb 6 i).toNat) n 0 := by
  have hg : ∀ i, i < n → 0 ≤ gb 2 (gb 6 i).toNat ∧ gb 2 (gb 6 i).toNat ≤ 3 := fun i hi => ag_IB_hg hB hi
  rw [ag_su_cts (v := fun i => gb 2 (gb 6 i).toNat) n 0 (fun j _ hj => hg j (by omega))]
  rw [ag_su_cts (v := fun c => if gb 5 c = -1 then 0 else gb 2 c) w 0 (fun j _ hj => by
    by_cases z : gb 5 j = -1
    · rw [if_pos z]
      omega
    · rw [if_neg z]
      rcases hB.2.2.1 j (by omega) with y | ⟨i, i1, i2, i3⟩
      · exact absurd y z
      · have := hg i i1
        rw [i3, Int.toNat_natCast] at this
        exact this)]
  have e : ∀ t : Int, 1 ≤ t → ag_ct (fun c => decide (t ≤ (if gb 5 c = -1 then 0 else gb 2 c))) w 0 = ag_ct (fun i => decide (t ≤ gb 2 (gb 6 i).toNat)) n 0 := fun t ht => by
    rw [← ag_held_n hB t]
    refine ag_ct_cg3 w 0 (fun j _ _ => ?_)
    by_cases z : gb 5 j = -1
    · rw [if_pos z]
      rw [decide_eq_false (show ¬ t ≤ 0 by omega), decide_eq_false (fun y => y.1 z)]
    · rw [if_neg z]
      by_cases y : t ≤ gb 2 j
      · rw [decide_eq_true y, decide_eq_true ⟨z, y⟩]
      · rw [decide_eq_false y, decide_eq_false (fun u => y u.2)]
  rw [e 1 (by decide), e 2 (by decide), e 3 (by decide)]
end AGC3
