/-! THE LAW, of every script. -/
/-- one time -/
theorem ag_tm_one {u : Nat} (hu : u < 3) {σ : ag_S} (a2 a3 a4 a5 a6 a7 a8 a9 a10 a11 a12 a13 a14 a15 a16 a17 a18 a19 a20 a21 : Option ag_V) (h0 : ∃ n g, n ≤ 1000 ∧ σ.1 0 = some (Sum.inl (n, g))) :
    ∃ (σ' : ag_S) (y2 y3 y4 y5 y6 y7 y8 y9 y10 y11 y12 y13 y14 y15 y16 y17 y18 y19 y20 y21 : Option ag_V), (∃ n g, n ≤ 1000 ∧ σ'.1 0 = some (Sum.inl (n, g))) ∧ σ'.2.1 ≤ σ.2.1 + 74363 ∧ σ'.2.2 ≤ σ.2.2 + 1199157 ∧ ∀ K : ag_Rs → ag_S → Prop,
      ag_wp 136 2 [some (ag_R 0), some (ag_I (u : Int)), a2, a3, a4, a5, a6, a7, a8, a9, a10, a11, a12, a13, a14, a15, a16, a17, a18, a19, a20, a21] [] σ K = ag_wp 136 2 [some (ag_R 0), some (ag_I ((u + 1 : Nat) : Int)), y2, y3, y4, y5, y6, y7, y8, y9, y10, y11, y12, y13, y14, y15, y16, y17, y18, y19, y20, y21] [] σ' K := by
  obtain ⟨n, g, n1, n2⟩ := h0
  obtain ⟨τ, hW, k1, e1, d1⟩ := ag_W0 (B := σ.2.1 + 1) (f := ag_up σ.1 (σ.2.1 + 1) (Sum.inr (Sum.inr (Sum.inr (6, [ag_N, ag_N, ag_I 0, ag_N, ag_N, ag_N, ag_N, ag_N, ag_N, ag_N, ag_I 0, ag_I 0, ag_N, ag_N]))))) (s := σ.2.2 + 14) (d := 31 * (u : Int) + 7) (by omega) (ag_up_a9 _ _ _) ⟨n, g, n1, (ag_up_ne (by omega)).trans n2⟩ (by omega)
  have M0 : (∀ K : ag_V → Prop, ag_gf τ (σ.2.1 + 1) 6 0 K = K (ag_R (σ.2.1 + 1 + 1))) ∧ (∀ P, ag_ck τ (σ.2.1 + 1) 6 P = P) := by
    obtain ⟨dr, mi, S, gh, np, gq, nq, hM, -⟩ := hW
    exact ⟨fun K => ag_m_m hM K, ag_M_ck hM⟩
  obtain ⟨m1, ck1⟩ := M0
  obtain ⟨σ2, h2, f2, d2⟩ := ag_o_found hW
  obtain ⟨σ3, y4, y5, y6, y7, y8, y9, y10, y11, y12, y13, y14, y15, y16, y17, y18, y19, y20, y21, f3, g3⟩ := ag_st_loop (B := σ.2.1 + 1) (a0 := some (ag_R 0)) (a1 := some (ag_I (u : Int))) 8 0 33 σ2 a5 a6 a7 a8 a9 a10 a11 a12 a13 a14 a15 a16 a17 a18 a19 a20 a21 rfl (by decide) h2
  have g3 : ∀ K : ag_Rs → ag_S → Prop, ag_wp 136 40 [some (ag_R 0), some (ag_I (u : Int)), some (ag_R (σ.2.1 + 1)), some (ag_R (σ.2.1 + 1 + 1)), some (ag_I 0), a5, a6, a7, a8, a9, a10, a11, a12, a13, a14, a15, a16, a17, a18, a19, a20, a21] [] σ2 K = _ := g3
  have un : ag_nm (u : Int) = u := ag_nm_nat (by omega)
  have e21 : τ.2.1 = σ.2.1 + 1 + 94 := congrArg Prod.fst e1
  have e22 : τ.2.2 = σ.2.2 + 14 + 1135 := congrArg Prod.snd e1
  refine ⟨σ3, some (ag_R (σ.2.1 + 1)), some (ag_R (σ.2.1 + 1 + 1)), y4, y5, y6, y7, y8, y9, y10, y11, y12, y13, y14, y15, y16, y17, y18, y19, y20, y21, ⟨n, g, n1, ?_⟩, ?_, ?_, fun K => ?_⟩
  · rw [f3.1 0 (by omega), f2.1 0 (by omega), k1 0 (by omega), ag_up_ne (by omega)]
    exact n2
  · have := f2.2.2.1
    have := f3.2.2.1
    omega
  · have := f2.2.2.2
    have := f3.2.2.2
    omega
  · rw [ag_i136_2]
    simp only [ag_i136_3, ag_i136_4, un, ag_nmk_3]
    rw [if_neg (show ¬ (3 : Int) ≤ u by omega)]
    simp only [ag_i136_7, ag_i136_10, ag_i136_11, ag_i136_12, ag_i136_14, ag_i136_15, ag_i136_16, ag_i136_18, ag_i136_19, d1, ag_kk_v, ag_kk_n, Nat.reduceAdd, ag_i136_22_n, ag_i136_22_i, ag_i136_22_r, ag_i136_23, ag_i136_24, m1, ag_i136_27_n, ag_i136_27_i, ag_i136_27_r, ag_i136_28, ag_i136_29, ck1, d2, ag_kk_v, ag_kk_n, Nat.reduceAdd, ag_i136_32, ag_nm_1, ag_nm_z, ne_eq, Int.reduceEq, not_false_eq_true, ↓reduceIte, ag_i136_37, ag_i136_38_n, ag_i136_38_i, ag_i136_38_r, g3, ag_i136_832_n, ag_i136_832_i, ag_i136_832_r, ag_i136_835]
    rfl
theorem ag_tm_loop : ∀ (d u : Nat) (σ : ag_S) (a2 a3 a4 a5 a6 a7 a8 a9 a10 a11 a12 a13 a14 a15 a16 a17 a18 a19 a20 a21 : Option ag_V), u + d = 3 → (∃ n g, n ≤ 1000 ∧ σ.1 0 = some (Sum.inl (n, g))) →
    ∃ σ' : ag_S, σ'.2.1 ≤ σ.2.1 + 74363 * d ∧ σ'.2.2 ≤ σ.2.2 + 1199157 * d ∧ ∀ K : ag_Rs → ag_S → Prop,
      ag_wp 136 2 [some (ag_R 0), some (ag_I (u : Int)), a2, a3, a4, a5, a6, a7, a8, a9, a10, a11, a12, a13, a14, a15, a16, a17, a18, a19, a20, a21] [] σ K = K (Sum.inl (some (ag_I 1))) σ' := by
  intro d
  induction d with
  | zero =>
    intro u σ a2 a3 a4 a5 a6 a7 a8 a9 a10 a11 a12 a13 a14 a15 a16 a17 a18 a19 a20 a21 hu h0
    refine ⟨σ, by omega, by omega, fun K => ?_⟩
    rw [ag_i136_2]
    simp only [ag_i136_3, ag_i136_4, ag_nm_nat (show u ≤ 1000000 by omega), ag_nmk_3]
    rw [if_pos (show (3 : Int) ≤ u by omega)]
    simp only [ag_i136_838, ag_i136_839, ag_b0, ag_b1, true_and, or_true, true_or, Int.reduceEq, ne_eq, not_false_eq_true, not_true_eq_false, ↓reduceIte]
  | succ d ih =>
    intro u σ a2 a3 a4 a5 a6 a7 a8 a9 a10 a11 a12 a13 a14 a15 a16 a17 a18 a19 a20 a21 hu h0
    obtain ⟨σ1, y2, y3, y4, y5, y6, y7, y8, y9, y10, y11, y12, y13, y14, y15, y16, y17, y18, y19, y20, y21, h1, c1, s1, g1⟩ := ag_tm_one (u := u) (by omega) a2 a3 a4 a5 a6 a7 a8 a9 a10 a11 a12 a13 a14 a15 a16 a17 a18 a19 a20 a21 h0
    obtain ⟨σ2, c2, s2, g2⟩ := ih (u + 1) σ1 y2 y3 y4 y5 y6 y7 y8 y9 y10 y11 y12 y13 y14 y15 y16 y17 y18 y19 y20 y21 (by omega) h1
    exact ⟨σ2, by omega, by omega, fun K => (g1 K).trans (g2 K)⟩
theorem ag_room29 : 223089 ≤ room_1.cells ∧ 3597471 ≤ room_1.slots := by decide +kernel
theorem ag_law29 (L : Nat) (xs : Nat → Int) (hL : L ≤ 260) (hx : ∀ i, -2147483648 ≤ xs i ∧ xs i < 2147483648) : ag_wp 136 0 (ag_en 136 [ag_R 0]) [] (ag_S0 L xs) ag_fin := by
  obtain ⟨σ', c, s, g⟩ := ag_tm_loop 3 0 (ag_S0 L xs) none none none none none none none none none none none none none none none none none none none none rfl ⟨L, xs, by omega, rfl⟩
  have c : σ'.2.1 ≤ 0 + 223089 := c
  have s : σ'.2.2 ≤ 0 + 3597471 := s
  have r := ag_room29
  have g : ∀ K : ag_Rs → ag_S → Prop, ag_wp 136 2 [some (ag_R 0), some (ag_I 0), none, none, none, none, none, none, none, none, none, none, none, none, none, none, none, none, none, none, none, none] [] (ag_S0 L xs) K = _ := g
  show ag_wp 136 0 [some (ag_R 0), none, none, none, none, none, none, none, none, none, none, none, none, none, none, none, none, none, none, none, none, none] [] (ag_S0 L xs) ag_fin
  simp only [ag_i136_0, ag_i136_1_n, ag_i136_1_i, ag_i136_1_r, g]
  exact ⟨rfl, by omega, by omega⟩
