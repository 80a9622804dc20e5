/-! ROWS: at, put, copy of the class. -/
def ag_rd (n : Nat) (g : Nat → Int) (i : Int) : Int := if 0 ≤ ag_nm i ∧ ag_nm i < n then g (ag_nm i).toNat else -1
def ag_wr (n : Nat) (g : Nat → Int) (i x : Int) : Nat → Int := if 0 ≤ ag_nm i ∧ ag_nm i < n then ag_ui g (ag_nm i).toNat x else g
theorem ag_nm_of {x : Int} (h1 : -2147483648 ≤ x) (h2 : x < 2147483648) : ag_nm x = x := by
  unfold ag_nm
  exact Int32.toInt_ofInt_of_le h1 h2
theorem ag_nm_nat {n : Nat} (h : n ≤ 1000000) : ag_nm (n : Int) = n := ag_nm_of (by omega) (by omega)
theorem ag_nm_m : ag_nm (-1) = -1 := by decide +kernel
theorem ag_nm_1 : ag_nm 1 = 1 := by decide +kernel
theorem ag_at_eq {σ : ag_S} {a n : Nat} {g : Nat → Int} (h : σ.1 a = some (Sum.inl (n, g))) (hn : n ≤ 1000000) (i : Int) (K : ag_Rs → ag_S → Prop) : ag_cl9 94 [ag_R a, ag_I i] σ K = K (Sum.inl (some (ag_I (ag_rd n g i)))) σ := by
  simp only [ag_e94, ag_i94_0, ag_i94_1, ag_i94_4, ag_i94_5, ag_i94_6, ag_i94_7, ag_i94_10, ag_i94_11, ag_i94_12, ag_i94_13, ag_i94_16, ag_i94_17, ag_al9, ag_ia, h, ag_nm_z, ag_nm_nat hn]
  unfold ag_rd
  by_cases h1 : ag_nm i < 0
  · rw [if_pos h1, if_neg (by omega)]
  · rw [if_neg h1]
    by_cases h2 : (n : Int) ≤ ag_nm i
    · rw [if_pos h2, if_neg (by omega)]
    · rw [if_neg h2, if_pos (by omega)]
      simp only [show (0 ≤ ag_nm i ∧ ag_nm i < n) = True from by simp; omega, true_and]
theorem ag_put_eq {σ : ag_S} {a n : Nat} {g : Nat → Int} (h : σ.1 a = some (Sum.inl (n, g))) (hn : n ≤ 1000000) (ha : 1 ≤ a) (i x : Int) (K : ag_Rs → ag_S → Prop) : ag_cl9 95 [ag_R a, ag_I i, ag_I x] σ K = K (Sum.inl none) (ag_up σ.1 a (Sum.inl (n, ag_wr n g i x)), σ.2) := by
  have hup : (ag_up σ.1 a (Sum.inl (n, g)), σ.2) = σ := by
    refine Prod.ext (funext fun k => ?_) rfl
    show (if k = a then some (Sum.inl (n, g)) else σ.1 k) = σ.1 k
    split
    · rename_i hk; rw [hk, h]
    · rfl
  simp only [ag_e95, ag_i95_0, ag_i95_1, ag_i95_4, ag_i95_5, ag_i95_6, ag_i95_7, ag_i95_10, ag_i95_11, ag_i95_12, ag_i95_13, ag_i95_14, ag_al9, ag_is, h, ag_nm_z, ag_nm_nat hn]
  unfold ag_wr
  by_cases h1 : ag_nm i < 0
  · rw [if_pos h1, if_neg (by omega), hup]
  · rw [if_neg h1]
    by_cases h2 : (n : Int) ≤ ag_nm i
    · rw [if_pos h2, if_neg (by omega), hup]
    · rw [if_neg h2, if_pos (by omega)]
      simp only [show (0 ≤ ag_nm i ∧ ag_nm i < n ∧ 1 ≤ a) = True from by simp; omega, true_and]
