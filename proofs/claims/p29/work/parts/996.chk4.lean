/-! THE LAW'S THIRD CHECK, on the machine: clauses counted. -/
variable {B : Nat}
section AGC4
variable {σ : ag_S} {dr qu mi : Int} {gh gq : Nat → Nat → Int} {m np nq k : Nat} {S : ag_T} {a0 a1 a2 a4 a5 a6 a7 a8 a9 a11 a12 a13 a14 a15 a16 a17 a18 a19 a20 a21 : Option ag_V}
theorem ag_c3_foc (hU : ag_U S m gh np qu mi gq nq k) {c : Nat} (hc : c < S.2.1) : ag_foc gq nq S (c : Int) 6 = S.1 3 c ∧ ag_foc gq nq S (c : Int) 4 = (if S.1 5 c = -1 then 1 else 0) ∧ ag_foc gq nq S (c : Int) 3 = S.1 2 c := by
  have hw : S.2.1 ≤ 40 := hU.1.1.1.2.2.2
  have cn : ag_nm (c : Int) = c := ag_nm_nat (by omega)
  refine ⟨?_, ?_, ?_⟩
  · show ag_rd 40 (S.1 3) (c : Int) = S.1 3 c
    exact ag_rd_nat (by decide) (by omega)
  · show ag_if (ag_hld S (c : Int)) 0 1 = _
    by_cases z : S.1 5 c = -1
    · rw [if_pos z, ag_if_f]
      intro y
      have := y.2.2
      rw [ag_rd_nat (by decide) (by omega)] at this
      exact this z
    · rw [if_neg z, ag_if_t]
      exact ⟨by rw [cn]; omega, by rw [cn]; omega, by rw [ag_rd_nat (by decide) (by omega)]; exact z⟩
  · show ag_rd 40 (S.1 2) (c : Int) = S.1 2 c
    exact ag_rd_nat (by decide) (by omega)
theorem ag_c3_loop (hM : ag_M B σ dr qu mi S m gh np gq nq) (hU : ag_U S m gh np qu mi gq nq k) (K : ag_Rs → ag_S → Prop) {x9 : Int} : ∀ (d i p q : Nat) (s : Int), i + d = S.2.1 →
      ag_wp 136 365 [a0, a1, a2, some (ag_R (B + 1)), a4, a5, a6, a7, a8, some (ag_I x9), some (ag_I (p : Int)), some (ag_I (q : Int)), some (ag_I s), some (ag_I (i : Int)), a14, a15, a16, a17, a18, a19, a20, a21] [] σ K =
      ag_wp 136 440 [a0, a1, a2, some (ag_R (B + 1)), a4, a5, a6, a7, a8, some (ag_I x9), some (ag_I ((p + ag_ct (fun c => decide (0 ≤ S.1 3 c)) d i : Nat) : Int)), some (ag_I ((q + ag_ct (fun c => decide (S.1 5 c = -1)) d i : Nat) : Int)), some (ag_I (s + ag_su (fun c => if S.1 5 c = -1 then 0 else S.1 2 c) d i)), some (ag_I (S.2.1 : Int)), a14, a15, a16, a17, a18, a19, a20, a21] [] σ K := by
  have hw : S.2.1 ≤ 40 := hU.1.1.1.2.2.2
  have hs : ag_sm S.1 := hU.1.1.1.2.1
  have enb := fun k i => ag_nm_s hs k i
  have ck := ag_m_ck hM
  have mn : ∀ K : ag_Rs → ag_S → Prop, ag_cl9 61 [ag_R (B + 1), ag_I 0] σ K = K (Sum.inl (some (ag_I (S.2.1 : Int)))) σ := fun K => ag_m_many hM hU (j := 0) (by decide) rfl K
  intro d
  induction d with
  | zero =>
    intro i p q s hi
    have hiw : i = S.2.1 := by omega
    subst hiw
    rw [ag_i136_365]
    simp only [ag_i136_367, ag_i136_368, ag_i136_369, ck, mn, ag_kk_v, ag_kk_n, Nat.reduceAdd, ag_i136_372]
    rw [if_pos (Int.le_refl _), show ag_su (fun c => if S.1 5 c = -1 then 0 else S.1 2 c) 0 S.2.1 = 0 from rfl, Int.add_zero]
    rfl
  | succ d ih =>
    intro i p q s hi
    have hiw : i < S.2.1 := by omega
    obtain ⟨f6, f4, f3⟩ := ag_c3_foc hU hiw
    have C6 : ∀ K : ag_Rs → ag_S → Prop, ag_cl9 60 [ag_R (B + 1), ag_I (i : Int), ag_I 6] σ K = K (Sum.inl (some (ag_I (S.1 3 i)))) σ := fun K => by rw [ag_m_ofC hM hU hiw (j := 6) (by decide) (x := (i : Int)) (y := 6) rfl rfl K, f6]
    have C4 : ∀ K : ag_Rs → ag_S → Prop, ag_cl9 60 [ag_R (B + 1), ag_I (i : Int), ag_I 4] σ K = K (Sum.inl (some (ag_I (if S.1 5 i = -1 then 1 else 0)))) σ := fun K => by rw [ag_m_ofC hM hU hiw (j := 4) (by decide) (x := (i : Int)) (y := 4) rfl rfl K, f4]
    have C3 : ∀ K : ag_Rs → ag_S → Prop, ag_cl9 60 [ag_R (B + 1), ag_I (i : Int), ag_I 3] σ K = K (Sum.inl (some (ag_I (S.1 2 i)))) σ := fun K => by rw [ag_m_ofC hM hU hiw (j := 3) (by decide) (x := (i : Int)) (y := 3) rfl rfl K, f3]
    have nx := ih (i + 1) (p + (if decide (0 ≤ S.1 3 i) = true then 1 else 0)) (q + (if decide (S.1 5 i = -1) = true then 1 else 0)) (s + (if S.1 5 i = -1 then 0 else S.1 2 i)) (by omega)
    rw [show ag_ct (fun c => decide (0 ≤ S.1 3 c)) (d + 1) i = (if decide (0 ≤ S.1 3 i) = true then 1 else 0) + ag_ct (fun c => decide (0 ≤ S.1 3 c)) d (i + 1) from rfl, show ag_ct (fun c => decide (S.1 5 c = -1)) (d + 1) i = (if decide (S.1 5 i = -1) = true then 1 else 0) + ag_ct (fun c => decide (S.1 5 c = -1)) d (i + 1) from rfl, show ag_su (fun c => if S.1 5 c = -1 then 0 else S.1 2 c) (d + 1) i = (if S.1 5 i = -1 then 0 else S.1 2 i) + ag_su (fun c => if S.1 5 c = -1 then 0 else S.1 2 c) d (i + 1) from rfl, ← Nat.add_assoc, ← Nat.add_assoc, ← Int.add_assoc, ← nx, ag_i136_365]
    simp only [ag_i136_367, ag_i136_368, ag_i136_369, ck, mn, ag_kk_v, ag_kk_n, Nat.reduceAdd, ag_i136_372, ag_nm_nat (show S.2.1 ≤ 1000000 by omega), ag_nm_nat (show i ≤ 1000000 by omega)]
    rw [if_neg (show ¬ (S.2.1 : Int) ≤ i by omega)]
    simp only [ag_i136_375, ag_i136_377, ag_i136_378, ag_i136_380, ag_i136_382, ck, C6, ag_kk_v, ag_kk_n, Nat.reduceAdd, ag_i136_385, enb, ag_nm_z]
    by_cases c1 : 0 ≤ S.1 3 i
    · rw [if_neg (show ¬ S.1 3 i < 0 by omega), if_pos (decide_eq_true c1)]
      simp only [ag_i136_388, ag_i136_389, ag_i136_393, ag_i136_394_n, ag_i136_394_i, ag_i136_394_r, ag_i136_396, ag_i136_398, ag_i136_399, ag_i136_401, ag_i136_402, ck, C4, ag_kk_v, ag_kk_n, Nat.reduceAdd, ag_i136_405, ag_i136_406_n, ag_i136_406_i, ag_i136_406_r, ag_i136_408, ag_i136_410, ag_i136_411, ag_i136_413, ag_i136_414, ck, C4, ag_kk_v, ag_kk_n, Nat.reduceAdd, ag_i136_417]
      by_cases c2 : S.1 5 i = -1
      · rw [if_pos c2, if_pos (decide_eq_true c2), if_pos (show ag_nm 1 ≠ ag_nm 0 by decide +kernel), if_pos c2]
        simp only [ag_i136_430, ag_i136_431, ag_i136_432_n, ag_i136_432_i, ag_i136_432_r, ag_i136_434_n, ag_i136_434_i, ag_i136_434_r, ag_i136_437]
        rfl
      · rw [if_neg c2, if_neg (show ¬ decide (S.1 5 i = -1) = true by simp [c2]), if_neg (show ¬ ag_nm 0 ≠ ag_nm 0 by simp), if_neg c2]
        simp only [ag_i136_420, ag_i136_421, ag_i136_423, ag_i136_424, ck, C3, ag_kk_v, ag_kk_n, Nat.reduceAdd, ag_i136_427, ag_i136_431, ag_i136_432_n, ag_i136_432_i, ag_i136_432_r, ag_i136_434_n, ag_i136_434_i, ag_i136_434_r, ag_i136_437]
        rfl
    · rw [if_pos (show S.1 3 i < 0 by omega), if_neg (show ¬ decide (0 ≤ S.1 3 i) = true by simp; omega)]
      simp only [ag_i136_392, ag_i136_393, ag_i136_394_n, ag_i136_394_i, ag_i136_394_r, ag_i136_396, ag_i136_398, ag_i136_399, ag_i136_401, ag_i136_402, ck, C4, ag_kk_v, ag_kk_n, Nat.reduceAdd, ag_i136_405, ag_i136_406_n, ag_i136_406_i, ag_i136_406_r, ag_i136_408, ag_i136_410, ag_i136_411, ag_i136_413, ag_i136_414, ck, C4, ag_kk_v, ag_kk_n, Nat.reduceAdd, ag_i136_417]
      by_cases c2 : S.1 5 i = -1
      · rw [if_pos c2, if_pos (decide_eq_true c2), if_pos (show ag_nm 1 ≠ ag_nm 0 by decide +kernel), if_pos c2]
        simp only [ag_i136_430, ag_i136_431, ag_i136_432_n, ag_i136_432_i, ag_i136_432_r, ag_i136_434_n, ag_i136_434_i, ag_i136_434_r, ag_i136_437]
        rfl
      · rw [if_neg c2, if_neg (show ¬ decide (S.1 5 i = -1) = true by simp [c2]), if_neg (show ¬ ag_nm 0 ≠ ag_nm 0 by simp), if_neg c2]
        simp only [ag_i136_420, ag_i136_421, ag_i136_423, ag_i136_424, ck, C3, ag_kk_v, ag_kk_n, Nat.reduceAdd, ag_i136_427, ag_i136_431, ag_i136_432_n, ag_i136_432_i, ag_i136_432_r, ag_i136_434_n, ag_i136_434_i, ag_i136_434_r, ag_i136_437]
        rfl
end AGC4
