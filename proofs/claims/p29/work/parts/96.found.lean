/-! THE HOUSE: act and found. -/
variable {B : Nat}
def ag_Wc (B : Nat) (σ : ag_S) (qu : Int) (k i : Nat) : Prop := ∃ dr mi S gh np gq nq, ag_M B σ dr qu mi S 0 gh np gq nq ∧ ag_U S 0 gh np qu mi gq nq k ∧ dr ≤ 1000 + 16 * k ∧ (∀ c, c < S.2.1 → S.1 5 c ≠ -1) ∧ (1 ≤ i → 1 ≤ S.2.1)
def ag_Wq (B : Nat) (σ : ag_S) (qu : Int) (k i : Nat) : Prop := ∃ dr mi S m gh np gq nq, ag_M B σ dr qu mi S m gh np gq nq ∧ ag_U S m gh np qu mi gq nq k ∧ dr ≤ 1000 + 16 * k ∧ 1 ≤ S.2.1 ∧ (1 ≤ i → 1 ≤ np)
def ag_Wo (B : Nat) (σ : ag_S) (qu : Int) (k : Nat) : Prop := ∃ dr mi S m gh np gq nq, ag_M B σ dr qu mi S m gh np gq nq ∧ ag_U S m gh np qu mi gq nq k ∧ dr ≤ 1000 + 16 * k ∧ 1 ≤ S.2.1 ∧ 1 ≤ np
theorem ag_M_ck {σ : ag_S} {dr qu mi : Int} {S : ag_T} {m : Nat} {gh : Nat → Nat → Int} {np : Nat} {gq : Nat → Nat → Int} {nq : Nat} (h : ag_M B σ dr qu mi S m gh np gq nq) (P : Prop) : ag_ck σ B 6 P = P := by
  obtain ⟨L, ln, g, T, mt, en, h, -⟩ := h
  exact ag_h_ck h P
theorem ag_m_draw {σ : ag_S} {dr qu mi : Int} {S : ag_T} {m : Nat} {gh : Nat → Nat → Int} {np : Nat} {gq : Nat → Nat → Int} {nq : Nat} (h : ag_M B σ dr qu mi S m gh np gq nq) (hd : dr < 100000) {z : Nat} (hk : 1 ≤ z) (hk2 : z ≤ 1000) : ∃ (v : Nat) (σ' : ag_S), v < z ∧ ag_M B σ' (dr + 1) qu mi S m gh np gq nq ∧ ag_af B σ σ' 0 0 ∧ ∀ K : ag_Rs → ag_S → Prop, ag_cl9 96 [ag_R B, ag_I (z : Int)] σ K = K (Sum.inl (some (ag_I (v : Int)))) σ' := by
  obtain ⟨L, ln, g, T, mt, en, h, hX, r⟩ := h
  obtain ⟨v, σ1, v1, h1, f1, o1, e1, d1⟩ := ag_w_draw h hd hk hk2
  exact ⟨v, σ1, v1, ⟨L, ln, g, T, mt, en, h1, ag_hf_CX f1 hX, r⟩, ag_af_hf f1, d1⟩
section AGFO
variable {σ : ag_S} {qu : Int} {k i : Nat}
theorem ag_o_clause (h : ag_Wc B σ qu k i) (hk : k < 500) : ∃ σ', ag_Wc B σ' qu (k + 1) (i + 1) ∧ ag_af B σ σ' 1300 21000 ∧ (∀ K : ag_Rs → ag_S → Prop, ag_cl9 109 [ag_R B] σ K = K (Sum.inl (some (ag_I 1))) σ') ∧ ∀ P, ag_ck σ B 6 P = P := by
  obtain ⟨dr, mi, S, gh, np, gq, nq, hM, hU, hd, ha, -⟩ := h
  obtain ⟨σ', dr', S', a1, a2, a3, a4, a5, a6, a7, a8⟩ := ag_a_clause hM hU (by omega) ha
  exact ⟨σ', ⟨dr', mi, S', gh, np, gq, nq, a1, a2, by omega, a3, fun _ => a4⟩, a7, a8, ag_M_ck hM⟩
theorem ag_o_party (h : ag_Wq B σ qu k i) (hk : k < 500) : ∃ σ', ag_Wq B σ' qu (k + 1) (i + 1) ∧ ag_af B σ σ' 1300 21000 ∧ (∀ K : ag_Rs → ag_S → Prop, ag_cl9 123 [ag_R B] σ K = K (Sum.inl (some (ag_I 1))) σ') ∧ ∀ P, ag_ck σ B 6 P = P := by
  obtain ⟨dr, mi, S, m, gh, np, gq, nq, hM, hU, hd, hw, -⟩ := h
  obtain ⟨σ', dr', gh', np', a1, a2, a3, a4, a5, a6, a7, a8⟩ := ag_a_party hM hU (by omega)
  exact ⟨σ', ⟨dr', mi, S, m, gh', np', gq, nq, a1, a2, by omega, hw, fun _ => a4⟩, a7, a8, ag_M_ck hM⟩
theorem ag_o_petition (h : ag_Wo B σ qu k) (hk : k < 500) : ∃ σ', ag_Wo B σ' qu (k + 1) ∧ ag_af B σ σ' 1300 21000 ∧ (∀ K : ag_Rs → ag_S → Prop, ag_cl9 129 [ag_R B] σ K = K (Sum.inl (some (ag_I 1))) σ') ∧ ∀ P, ag_ck σ B 6 P = P := by
  obtain ⟨dr, mi, S, m, gh, np, gq, nq, hM, hU, hd, hw, hp⟩ := h
  obtain ⟨σ', dr', gq', nq', a1, a2, a5, a6, a7, a8⟩ := ag_a_petition hM hU hw (by omega)
  exact ⟨σ', ⟨dr', mi, S, m, gh, np, gq', nq', a1, a2, by omega, hw, hp⟩, a7, a8, ag_M_ck hM⟩
theorem ag_o_lay (h : ag_Wo B σ qu k) (hk : k < 500) : ∃ σ', ag_Wo B σ' qu (k + 1) ∧ ag_af B σ σ' 1300 21000 ∧ (∀ K : ag_Rs → ag_S → Prop, ag_cl9 112 [ag_R B] σ K = K (Sum.inl (some (ag_I 1))) σ') ∧ ∀ P, ag_ck σ B 6 P = P := by
  obtain ⟨dr, mi, S, m, gh, np, gq, nq, hM, hU, hd, hw, hp⟩ := h
  obtain ⟨σ', dr', S', m', a1, a2, a3, a5, a6, a7, a8⟩ := ag_a_lay hM hU hw (by omega)
  exact ⟨σ', ⟨dr', mi, S', m', gh, np, gq, nq, a1, a2, by omega, by omega, hp⟩, a7, a8, ag_M_ck hM⟩
theorem ag_o_vote (h : ag_Wo B σ qu k) (hk : k < 500) : ∃ σ', ag_Wo B σ' qu (k + 1) ∧ ag_af B σ σ' 1300 21000 ∧ (∀ K : ag_Rs → ag_S → Prop, ag_cl9 124 [ag_R B] σ K = K (Sum.inl (some (ag_I 1))) σ') ∧ ∀ P, ag_ck σ B 6 P = P := by
  obtain ⟨dr, mi, S, m, gh, np, gq, nq, hM, hU, hd, hw, hp⟩ := h
  obtain ⟨σ', dr', gh', a1, a2, a5, a6, a7, a8⟩ := ag_a_vote hM hU hp (by omega)
  exact ⟨σ', ⟨dr', mi, S, m, gh', np, gq, nq, a1, a2, by omega, hw, hp⟩, a7, a8, ag_M_ck hM⟩
theorem ag_o_change (h : ag_Wo B σ qu k) (hk : k < 500) : ∃ σ', ag_Wo B σ' qu (k + 1) ∧ ag_af B σ σ' 1300 21000 ∧ (∀ K : ag_Rs → ag_S → Prop, ag_cl9 113 [ag_R B] σ K = K (Sum.inl (some (ag_I 1))) σ') ∧ ∀ P, ag_ck σ B 6 P = P := by
  obtain ⟨dr, mi, S, m, gh, np, gq, nq, hM, hU, hd, hw, hp⟩ := h
  obtain ⟨σ', dr', S', m', a1, a2, a3, a5, a6, a7, a8⟩ := ag_a_change hM hU (by omega)
  exact ⟨σ', ⟨dr', mi, S', m', gh, np, gq, nq, a1, a2, by omega, by omega, hp⟩, a7, a8, ag_M_ck hM⟩
theorem ag_o_withdraw (h : ag_Wo B σ qu k) (hk : k < 500) : ∃ σ', ag_Wo B σ' qu (k + 1) ∧ ag_af B σ σ' 1300 21000 ∧ (∀ K : ag_Rs → ag_S → Prop, ag_cl9 116 [ag_R B] σ K = K (Sum.inl (some (ag_I 1))) σ') ∧ ∀ P, ag_ck σ B 6 P = P := by
  obtain ⟨dr, mi, S, m, gh, np, gq, nq, hM, hU, hd, hw, hp⟩ := h
  obtain ⟨σ', dr', S', a1, a2, a3, a5, a6, a7, a8⟩ := ag_a_withdraw hM hU (by omega)
  exact ⟨σ', ⟨dr', mi, S', m, gh, np, gq, nq, a1, a2, by omega, by omega, hp⟩, a7, a8, ag_M_ck hM⟩
theorem ag_o_sit (h : ag_Wo B σ qu k) (hk : k < 500) : ∃ σ', ag_Wo B σ' qu (k + 1) ∧ ag_af B σ σ' 1300 21000 ∧ (∀ K : ag_Rs → ag_S → Prop, ag_cl9 126 [ag_R B] σ K = K (Sum.inl (some (ag_I 1))) σ') ∧ ∀ P, ag_ck σ B 6 P = P := by
  obtain ⟨dr, mi, S, m, gh, np, gq, nq, hM, hU, hd, hw, hp⟩ := h
  obtain ⟨σ', dr', gh', mi', a0, a1, a2, a5, a6, a7, a8⟩ := ag_a_sit hM hU hp (by omega)
  exact ⟨σ', ⟨dr', mi', S, m, gh', np, gq, nq, a1, a2, by omega, hw, hp⟩, a7, a8, ag_M_ck hM⟩
theorem ag_o_speak (h : ag_Wo B σ qu k) (hk : k < 500) : ∃ σ', ag_Wo B σ' qu (k + 1) ∧ ag_af B σ σ' 1300 21000 ∧ (∀ K : ag_Rs → ag_S → Prop, ag_cl9 127 [ag_R B] σ K = K (Sum.inl (some (ag_I 1))) σ') ∧ ∀ P, ag_ck σ B 6 P = P := by
  obtain ⟨dr, mi, S, m, gh, np, gq, nq, hM, hU, hd, hw, hp⟩ := h
  obtain ⟨σ', dr', gh', mi', a1, a2, a5, a6, a7, a8⟩ := ag_a_speak hM hU hp (by omega) (by omega)
  exact ⟨σ', ⟨dr', mi', S, m, gh', np, gq, nq, a1, a2, by omega, hw, hp⟩, a7, a8, ag_M_ck hM⟩
theorem ag_o_party2 (h : ag_Wo B σ qu k) (hk : k < 500) : ∃ σ', ag_Wo B σ' qu (k + 1) ∧ ag_af B σ σ' 1300 21000 ∧ (∀ K : ag_Rs → ag_S → Prop, ag_cl9 123 [ag_R B] σ K = K (Sum.inl (some (ag_I 1))) σ') ∧ ∀ P, ag_ck σ B 6 P = P := by
  obtain ⟨dr, mi, S, m, gh, np, gq, nq, hM, hU, hd, hw, hp⟩ := h
  obtain ⟨σ', dr', gh', np', a1, a2, a3, a4, a5, a6, a7, a8⟩ := ag_a_party hM hU (by omega)
  exact ⟨σ', ⟨dr', mi, S, m, gh', np', gq, nq, a1, a2, by omega, hw, a4⟩, a7, a8, ag_M_ck hM⟩
theorem ag_o_call (h : ag_Wo B σ qu k) (hk : k < 500) : ∃ σ', ag_Wo B σ' qu (k + 1) ∧ ag_af B σ σ' 1300 21000 ∧ (∀ K : ag_Rs → ag_S → Prop, ag_cl9 128 [ag_R B] σ K = K (Sum.inl (some (ag_I 1))) σ') ∧ ∀ P, ag_ck σ B 6 P = P := by
  obtain ⟨dr, mi, S, m, gh, np, gq, nq, hM, hU, hd, hw, hp⟩ := h
  by_cases c : ag_nxt S.1 S.2.2.2 m = -1 ∨ mi < 3
  · obtain ⟨σ', a1, a7, a8⟩ := ag_a_call0 hM hU c
    exact ⟨σ', ⟨dr, mi, S, m, gh, np, gq, nq, a1, ag_U_k hU, by omega, hw, hp⟩, a7, a8, ag_M_ck hM⟩
  · obtain ⟨b, hb, hn, hl⟩ := ag_nxt_is (gb := S.1) (gp := S.2.2.2) (m := m) (fun z => c (Or.inl z))
    obtain ⟨σ', gq', a0, a1, a2, a3, a7, a8⟩ := ag_a_call1 hM hU hb hn (by omega)
    exact ⟨σ', ⟨dr, mi - 3, _, m, gh, np, gq', nq, a1, a2, by omega, by omega, hp⟩, a7, a8, ag_M_ck hM⟩
/-- an act -/
theorem ag_o_act (h : ag_Wo B σ qu k) (hk : k < 500) : ∃ σ', ag_Wo B σ' qu (k + 1) ∧ ag_af B σ σ' 1300 21000 ∧ (∀ K : ag_Rs → ag_S → Prop, ag_cl9 131 [ag_R B] σ K = K (Sum.inl (some (ag_I 1))) σ') ∧ ∀ P, ag_ck σ B 6 P = P := by
  obtain ⟨dr, mi, S, m, gh, np, gq, nq, hM, hU, hd, hw, hp⟩ := h
  have ck0 := ag_M_ck hM
  obtain ⟨v, σ1, v1, hM1, f1, d1⟩ := ag_m_draw hM (by omega) (show 1 ≤ 12 by decide) (by decide)
  have d1 : ∀ K : ag_Rs → ag_S → Prop, ag_cl9 96 [ag_R B, ag_I 12] σ K = K (Sum.inl (some (ag_I (v : Int)))) σ1 := d1
  have vn : ag_nm (v : Int) = v := ag_nm_nat (by omega)
  have go : ∀ K : ag_Rs → ag_S → Prop, ag_cl9 131 [ag_R B] σ K = ag_wp 131 6 [some (ag_R B)] [ag_I (v : Int)] σ1 K := fun K => by
    simp only [ag_e131, ag_i131_0, ag_i131_1, ag_i131_3, ck0, d1, ag_kk_v, ag_kk_n, Nat.reduceAdd]
  have lft : ∀ {σ'' : ag_S}, ag_af B σ1 σ'' 1300 21000 → ag_af B σ σ'' 1300 21000 := fun f => ag_af_le (ag_af_trans f1 f) (by omega) (by omega)
  -- behind the draws the acts need what they cost
  have W1 : ∀ (σ9 : ag_S) (dr9 : Int), ag_M B σ9 dr9 qu mi S m gh np gq nq → dr9 ≤ dr + 2 → ∃ dr mi S m gh np gq nq, ag_M B σ9 dr qu mi S m gh np gq nq ∧ ag_U S m gh np qu mi gq nq k ∧ dr ≤ 1002 + 16 * k ∧ 1 ≤ S.2.1 ∧ 1 ≤ np := fun σ9 dr9 h9 h8 => ⟨dr9, mi, S, m, gh, np, gq, nq, h9, hU, by omega, hw, hp⟩
  by_cases c0 : v = 0
  · obtain ⟨σ', dr', S', m', a1, a2, a3, a5, a6, a7, a8⟩ := ag_a_lay hM1 hU hw (by omega)
    refine ⟨σ', ⟨dr', mi, S', m', gh, np, gq, nq, a1, a2, by omega, by omega, hp⟩, lft a7, fun K => ?_, ck0⟩
    rw [go K, ag_i131_6_0 _ _ _ _ (show ag_nm (v : Int) = 0 by omega)]
    simp only [ag_i131_64, ag_i131_65, ag_i131_68, ag_M_ck hM1, a8, ag_kk_v, ag_kk_n, Nat.reduceAdd, ag_b0, ag_b1, true_and, or_true, true_or, Int.reduceEq, ne_eq, not_false_eq_true, not_true_eq_false, ↓reduceIte]
  by_cases c1 : v = 1
  · obtain ⟨σ', dr', S', m', a1, a2, a3, a5, a6, a7, a8⟩ := ag_a_lay hM1 hU hw (by omega)
    refine ⟨σ', ⟨dr', mi, S', m', gh, np, gq, nq, a1, a2, by omega, by omega, hp⟩, lft a7, fun K => ?_, ck0⟩
    rw [go K, ag_i131_6_1 _ _ _ _ (show ag_nm (v : Int) = 1 by omega)]
    simp only [ag_i131_64, ag_i131_65, ag_i131_68, ag_M_ck hM1, a8, ag_kk_v, ag_kk_n, Nat.reduceAdd, ag_b0, ag_b1, true_and, or_true, true_or, Int.reduceEq, ne_eq, not_false_eq_true, not_true_eq_false, ↓reduceIte]
  by_cases c2 : v = 2
  · obtain ⟨σ', dr', S', m', a1, a2, a3, a5, a6, a7, a8⟩ := ag_a_lay hM1 hU hw (by omega)
    refine ⟨σ', ⟨dr', mi, S', m', gh, np, gq, nq, a1, a2, by omega, by omega, hp⟩, lft a7, fun K => ?_, ck0⟩
    rw [go K, ag_i131_6_2 _ _ _ _ (show ag_nm (v : Int) = 2 by omega)]
    simp only [ag_i131_64, ag_i131_65, ag_i131_68, ag_M_ck hM1, a8, ag_kk_v, ag_kk_n, Nat.reduceAdd, ag_b0, ag_b1, true_and, or_true, true_or, Int.reduceEq, ne_eq, not_false_eq_true, not_true_eq_false, ↓reduceIte]
  by_cases c3 : v = 3
  · obtain ⟨σ', dr', S', m', a1, a2, a3, a5, a6, a7, a8⟩ := ag_a_change hM1 hU (by omega)
    refine ⟨σ', ⟨dr', mi, S', m', gh, np, gq, nq, a1, a2, by omega, by omega, hp⟩, lft a7, fun K => ?_, ck0⟩
    rw [go K, ag_i131_6_3 _ _ _ _ (show ag_nm (v : Int) = 3 by omega)]
    simp only [ag_i131_69, ag_i131_70, ag_i131_73, ag_M_ck hM1, a8, ag_kk_v, ag_kk_n, Nat.reduceAdd, ag_b0, ag_b1, true_and, or_true, true_or, Int.reduceEq, ne_eq, not_false_eq_true, not_true_eq_false, ↓reduceIte]
  by_cases c5 : v = 5
  · obtain ⟨σ', dr', gh', a1, a2, a5, a6, a7, a8⟩ := ag_a_vote hM1 hU hp (by omega)
    refine ⟨σ', ⟨dr', mi, S, m, gh', np, gq, nq, a1, a2, by omega, hw, hp⟩, lft a7, fun K => ?_, ck0⟩
    rw [go K, ag_i131_6_5 _ _ _ _ (show ag_nm (v : Int) = 5 by omega)]
    simp only [ag_i131_94, ag_i131_95, ag_i131_98, ag_M_ck hM1, a8, ag_kk_v, ag_kk_n, Nat.reduceAdd, ag_b0, ag_b1, true_and, or_true, true_or, Int.reduceEq, ne_eq, not_false_eq_true, not_true_eq_false, ↓reduceIte]
  by_cases c6 : v = 6
  · obtain ⟨σ', dr', gh', a1, a2, a5, a6, a7, a8⟩ := ag_a_vote hM1 hU hp (by omega)
    refine ⟨σ', ⟨dr', mi, S, m, gh', np, gq, nq, a1, a2, by omega, hw, hp⟩, lft a7, fun K => ?_, ck0⟩
    rw [go K, ag_i131_6_6 _ _ _ _ (show ag_nm (v : Int) = 6 by omega)]
    simp only [ag_i131_94, ag_i131_95, ag_i131_98, ag_M_ck hM1, a8, ag_kk_v, ag_kk_n, Nat.reduceAdd, ag_b0, ag_b1, true_and, or_true, true_or, Int.reduceEq, ne_eq, not_false_eq_true, not_true_eq_false, ↓reduceIte]
  by_cases c7 : v = 7
  · obtain ⟨σ', dr', gh', a1, a2, a5, a6, a7, a8⟩ := ag_a_vote hM1 hU hp (by omega)
    refine ⟨σ', ⟨dr', mi, S, m, gh', np, gq, nq, a1, a2, by omega, hw, hp⟩, lft a7, fun K => ?_, ck0⟩
    rw [go K, ag_i131_6_7 _ _ _ _ (show ag_nm (v : Int) = 7 by omega)]
    simp only [ag_i131_94, ag_i131_95, ag_i131_98, ag_M_ck hM1, a8, ag_kk_v, ag_kk_n, Nat.reduceAdd, ag_b0, ag_b1, true_and, or_true, true_or, Int.reduceEq, ne_eq, not_false_eq_true, not_true_eq_false, ↓reduceIte]
  by_cases c8 : v = 8
  · obtain ⟨σ', dr', gh', mi', a1, a2, a5, a6, a7, a8⟩ := ag_a_speak hM1 hU hp (by omega) (by omega)
    refine ⟨σ', ⟨dr', mi', S, m, gh', np, gq, nq, a1, a2, by omega, hw, hp⟩, lft a7, fun K => ?_, ck0⟩
    rw [go K, ag_i131_6_8 _ _ _ _ (show ag_nm (v : Int) = 8 by omega)]
    simp only [ag_i131_99, ag_i131_100, ag_i131_103, ag_M_ck hM1, a8, ag_kk_v, ag_kk_n, Nat.reduceAdd, ag_b0, ag_b1, true_and, or_true, true_or, Int.reduceEq, ne_eq, not_false_eq_true, not_true_eq_false, ↓reduceIte]
  by_cases c9 : v = 9
  · obtain ⟨σ', dr', gh', mi', a0, a1, a2, a5, a6, a7, a8⟩ := ag_a_sit hM1 hU hp (by omega)
    refine ⟨σ', ⟨dr', mi', S, m, gh', np, gq, nq, a1, a2, by omega, hw, hp⟩, lft a7, fun K => ?_, ck0⟩
    rw [go K, ag_i131_6_9 _ _ _ _ (show ag_nm (v : Int) = 9 by omega)]
    simp only [ag_i131_104, ag_i131_105, ag_i131_108, ag_M_ck hM1, a8, ag_kk_v, ag_kk_n, Nat.reduceAdd, ag_b0, ag_b1, true_and, or_true, true_or, Int.reduceEq, ne_eq, not_false_eq_true, not_true_eq_false, ↓reduceIte]
  by_cases c4 : v = 4
  · obtain ⟨y, σ2, y1, hM2, f2, d2⟩ := ag_m_draw hM1 (by omega) (show 1 ≤ 3 by decide) (by decide)
    have d2 : ∀ K : ag_Rs → ag_S → Prop, ag_cl9 96 [ag_R B, ag_I 3] σ1 K = K (Sum.inl (some (ag_I (y : Int)))) σ2 := d2
    have yn : ag_nm (y : Int) = y := ag_nm_nat (by omega)
    have lft2 : ∀ {σ'' : ag_S}, ag_af B σ2 σ'' 1300 21000 → ag_af B σ σ'' 1300 21000 := fun f => ag_af_le (ag_af_trans f1 (ag_af_trans f2 f)) (by omega) (by omega)
    by_cases cy : y = 0
    · obtain ⟨σ', dr', S', a1, a2, a3, a5, a6, a7, a8⟩ := ag_a_withdraw hM2 hU (by omega)
      refine ⟨σ', ⟨dr', mi, S', m, gh, np, gq, nq, a1, a2, by omega, by omega, hp⟩, lft2 a7, fun K => ?_, ck0⟩
      rw [go K, ag_i131_6_4 _ _ _ _ (show ag_nm (v : Int) = 4 by omega)]
      simp only [ag_i131_74, ag_i131_75, ag_i131_76, ag_M_ck hM1, d2, ag_kk_v, ag_kk_n, Nat.reduceAdd, ag_i131_79, yn, ag_nm_z]
      rw [if_neg (show ¬ (y : Int) ≠ 0 by omega)]
      simp only [ag_i131_82, ag_i131_83, ag_i131_86, ag_i131_93, ag_M_ck hM2, a8, ag_kk_v, ag_kk_n, Nat.reduceAdd, ag_b0, ag_b1, true_and, or_true, true_or, Int.reduceEq, ne_eq, not_false_eq_true, not_true_eq_false, ↓reduceIte]
    · obtain ⟨σ', dr', gq', nq', a1, a2, a5, a6, a7, a8⟩ := ag_a_petition hM2 hU hw (by omega)
      refine ⟨σ', ⟨dr', mi, S, m, gh, np, gq', nq', a1, a2, by omega, hw, hp⟩, lft2 a7, fun K => ?_, ck0⟩
      rw [go K, ag_i131_6_4 _ _ _ _ (show ag_nm (v : Int) = 4 by omega)]
      simp only [ag_i131_74, ag_i131_75, ag_i131_76, ag_M_ck hM1, d2, ag_kk_v, ag_kk_n, Nat.reduceAdd, ag_i131_79, yn, ag_nm_z]
      rw [if_pos (show (y : Int) ≠ 0 by omega)]
      simp only [ag_i131_89, ag_i131_90, ag_i131_93, ag_M_ck hM2, a8, ag_kk_v, ag_kk_n, Nat.reduceAdd, ag_b0, ag_b1, true_and, or_true, true_or, Int.reduceEq, ne_eq, not_false_eq_true, not_true_eq_false, ↓reduceIte]
  by_cases c10 : v = 10
  · obtain ⟨y, σ2, y1, hM2, f2, d2⟩ := ag_m_draw hM1 (by omega) (show 1 ≤ 2 by decide) (by decide)
    have d2 : ∀ K : ag_Rs → ag_S → Prop, ag_cl9 96 [ag_R B, ag_I 2] σ1 K = K (Sum.inl (some (ag_I (y : Int)))) σ2 := d2
    have yn : ag_nm (y : Int) = y := ag_nm_nat (by omega)
    have lft2 : ∀ {σ'' : ag_S}, ag_af B σ2 σ'' 1300 21000 → ag_af B σ σ'' 1300 21000 := fun f => ag_af_le (ag_af_trans f1 (ag_af_trans f2 f)) (by omega) (by omega)
    by_cases cy : y = 0
    · obtain ⟨σ', dr', gh', np', a1, a2, a3, a4, a5, a6, a7, a8⟩ := ag_a_party hM2 hU (by omega)
      refine ⟨σ', ⟨dr', mi, S, m, gh', np', gq, nq, a1, a2, by omega, hw, a4⟩, lft2 a7, fun K => ?_, ck0⟩
      rw [go K, ag_i131_6_10 _ _ _ _ (show ag_nm (v : Int) = 10 by omega)]
      simp only [ag_i131_109, ag_i131_110, ag_i131_111, ag_M_ck hM1, d2, ag_kk_v, ag_kk_n, Nat.reduceAdd, ag_i131_114, yn, ag_nm_z]
      rw [if_neg (show ¬ (y : Int) ≠ 0 by omega)]
      simp only [ag_i131_117, ag_i131_118, ag_i131_121, ag_i131_128, ag_M_ck hM2, a8, ag_kk_v, ag_kk_n, Nat.reduceAdd, ag_b0, ag_b1, true_and, or_true, true_or, Int.reduceEq, ne_eq, not_false_eq_true, not_true_eq_false, ↓reduceIte]
    · obtain ⟨σ', dr', S', m', a1, a2, a3, a5, a6, a7, a8⟩ := ag_a_lay hM2 hU hw (by omega)
      refine ⟨σ', ⟨dr', mi, S', m', gh, np, gq, nq, a1, a2, by omega, by omega, hp⟩, lft2 a7, fun K => ?_, ck0⟩
      rw [go K, ag_i131_6_10 _ _ _ _ (show ag_nm (v : Int) = 10 by omega)]
      simp only [ag_i131_109, ag_i131_110, ag_i131_111, ag_M_ck hM1, d2, ag_kk_v, ag_kk_n, Nat.reduceAdd, ag_i131_114, yn, ag_nm_z]
      rw [if_pos (show (y : Int) ≠ 0 by omega)]
      simp only [ag_i131_124, ag_i131_125, ag_i131_128, ag_M_ck hM2, a8, ag_kk_v, ag_kk_n, Nat.reduceAdd, ag_b0, ag_b1, true_and, or_true, true_or, Int.reduceEq, ne_eq, not_false_eq_true, not_true_eq_false, ↓reduceIte]
  have h11 : v = 11 := by omega
  by_cases c : ag_nxt S.1 S.2.2.2 m = -1 ∨ mi < 3
  · obtain ⟨σ', a1, a7, a8⟩ := ag_a_call0 hM1 hU c
    refine ⟨σ', ⟨dr + 1, mi, S, m, gh, np, gq, nq, a1, ag_U_k hU, by omega, hw, hp⟩, lft a7, fun K => ?_, ck0⟩
    rw [go K, ag_i131_6_d _ _ _ _ (show ag_nm (v : Int) < 0 ∨ 10 < ag_nm (v : Int) by omega)]
    simp only [ag_i131_129, ag_i131_130, ag_i131_133, ag_M_ck hM1, a8, ag_kk_v, ag_kk_n, Nat.reduceAdd, ag_b0, ag_b1, true_and, or_true, true_or, Int.reduceEq, ne_eq, not_false_eq_true, not_true_eq_false, ↓reduceIte]
  · obtain ⟨b, hb, hn, hl⟩ := ag_nxt_is (gb := S.1) (gp := S.2.2.2) (m := m) (fun z => c (Or.inl z))
    obtain ⟨σ', gq', a0, a1, a2, a3, a7, a8⟩ := ag_a_call1 hM1 hU hb hn (by omega)
    refine ⟨σ', ⟨dr + 1, mi - 3, _, m, gh, np, gq', nq, a1, a2, by omega, by omega, hp⟩, lft a7, fun K => ?_, ck0⟩
    rw [go K, ag_i131_6_d _ _ _ _ (show ag_nm (v : Int) < 0 ∨ 10 < ag_nm (v : Int) by omega)]
    simp only [ag_i131_129, ag_i131_130, ag_i131_133, ag_M_ck hM1, a8, ag_kk_v, ag_kk_n, Nat.reduceAdd, ag_b0, ag_b1, true_and, or_true, true_or, Int.reduceEq, ne_eq, not_false_eq_true, not_true_eq_false, ↓reduceIte]
theorem ag_fl_clause : ∀ (d i : Nat) (σ : ag_S) (k : Nat), i + d = 9 → k + d ≤ 400 → ag_Wc B σ qu k i → ∃ σ', ag_Wc B σ' qu (k + d) 9 ∧ ag_af B σ σ' (1300 * d) (21000 * d) ∧ ∀ K : ag_Rs → ag_S → Prop, ag_wp 130 2 [some (ag_R B), some (ag_I (i : Int))] [] σ K = ag_wp 130 23 [some (ag_R B), some (ag_I 9)] [] σ' K := by
  intro d
  induction d with
  | zero =>
    intro i σ k hi hk h
    have hi9 : i = 9 := by omega
    subst hi9
    refine ⟨σ, h, ag_af_le (ag_af_hf (ag_hf_refl σ)) (by omega) (by omega), fun K => ?_⟩
    rw [ag_i130_2]
    simp only [ag_i130_3, ag_i130_5]
    rw [if_pos (by decide +kernel)]
    rfl
  | succ d ih =>
    intro i σ k hi hk h
    obtain ⟨σ1, a1, a2, a3, a4⟩ := ag_o_clause h (by omega)
    obtain ⟨σ2, b1, b2, b3⟩ := ih (i + 1) σ1 (k + 1) (by omega) (by omega) a1
    rw [show k + 1 + d = k + (d + 1) by omega] at b1
    refine ⟨σ2, b1, ag_af_le (ag_af_trans a2 b2) (by omega) (by omega), fun K => ?_⟩
    rw [← b3 K, ag_i130_2]
    simp only [ag_i130_3, ag_i130_5, ag_nm_nat (show i ≤ 1000000 by omega), show ag_nm 9 = 9 from by decide +kernel]
    rw [if_neg (show ¬ (9 : Int) ≤ i by omega)]
    simp only [ag_i130_8, ag_i130_9, a4, a3, ag_kk_v, ag_kk_n, Nat.reduceAdd, ag_i130_12, ag_nm_1, ag_nm_z, ne_eq, Int.reduceEq, not_false_eq_true, ↓reduceIte, ag_i130_17_n, ag_i130_17_i, ag_i130_17_r, ag_i130_20]
    rfl
theorem ag_fl_party : ∀ (d i : Nat) (σ : ag_S) (k : Nat), i + d = 3 → k + d ≤ 400 → ag_Wq B σ qu k i → ∃ σ', ag_Wq B σ' qu (k + d) 3 ∧ ag_af B σ σ' (1300 * d) (21000 * d) ∧ ∀ K : ag_Rs → ag_S → Prop, ag_wp 130 25 [some (ag_R B), some (ag_I (i : Int))] [] σ K = ag_wp 130 45 [some (ag_R B), some (ag_I 3)] [] σ' K := by
  intro d
  induction d with
  | zero =>
    intro i σ k hi hk h
    have hi9 : i = 3 := by omega
    subst hi9
    refine ⟨σ, h, ag_af_le (ag_af_hf (ag_hf_refl σ)) (by omega) (by omega), fun K => ?_⟩
    rw [ag_i130_25]
    simp only [ag_i130_26, ag_i130_27]
    rw [if_pos (by decide +kernel)]
    rfl
  | succ d ih =>
    intro i σ k hi hk h
    obtain ⟨σ1, a1, a2, a3, a4⟩ := ag_o_party h (by omega)
    obtain ⟨σ2, b1, b2, b3⟩ := ih (i + 1) σ1 (k + 1) (by omega) (by omega) a1
    rw [show k + 1 + d = k + (d + 1) by omega] at b1
    refine ⟨σ2, b1, ag_af_le (ag_af_trans a2 b2) (by omega) (by omega), fun K => ?_⟩
    rw [← b3 K, ag_i130_25]
    simp only [ag_i130_26, ag_i130_27, ag_nm_nat (show i ≤ 1000000 by omega), show ag_nm 3 = 3 from by decide +kernel]
    rw [if_neg (show ¬ (3 : Int) ≤ i by omega)]
    simp only [ag_i130_30, ag_i130_31, a4, a3, ag_kk_v, ag_kk_n, Nat.reduceAdd, ag_i130_34, ag_nm_1, ag_nm_z, ne_eq, Int.reduceEq, not_false_eq_true, ↓reduceIte, ag_i130_39_n, ag_i130_39_i, ag_i130_39_r, ag_i130_42]
    rfl
theorem ag_fl_petition : ∀ (d i : Nat) (σ : ag_S) (k : Nat), i + d = 3 → k + d ≤ 400 → ag_Wo B σ qu k → ∃ σ', ag_Wo B σ' qu (k + d) ∧ ag_af B σ σ' (1300 * d) (21000 * d) ∧ ∀ K : ag_Rs → ag_S → Prop, ag_wp 130 47 [some (ag_R B), some (ag_I (i : Int))] [] σ K = ag_wp 130 67 [some (ag_R B), some (ag_I 3)] [] σ' K := by
  intro d
  induction d with
  | zero =>
    intro i σ k hi hk h
    have hi9 : i = 3 := by omega
    subst hi9
    refine ⟨σ, h, ag_af_le (ag_af_hf (ag_hf_refl σ)) (by omega) (by omega), fun K => ?_⟩
    rw [ag_i130_47]
    simp only [ag_i130_48, ag_i130_49]
    rw [if_pos (by decide +kernel)]
    rfl
  | succ d ih =>
    intro i σ k hi hk h
    obtain ⟨σ1, a1, a2, a3, a4⟩ := ag_o_petition h (by omega)
    obtain ⟨σ2, b1, b2, b3⟩ := ih (i + 1) σ1 (k + 1) (by omega) (by omega) a1
    rw [show k + 1 + d = k + (d + 1) by omega] at b1
    refine ⟨σ2, b1, ag_af_le (ag_af_trans a2 b2) (by omega) (by omega), fun K => ?_⟩
    rw [← b3 K, ag_i130_47]
    simp only [ag_i130_48, ag_i130_49, ag_nm_nat (show i ≤ 1000000 by omega), show ag_nm 3 = 3 from by decide +kernel]
    rw [if_neg (show ¬ (3 : Int) ≤ i by omega)]
    simp only [ag_i130_52, ag_i130_53, a4, a3, ag_kk_v, ag_kk_n, Nat.reduceAdd, ag_i130_56, ag_nm_1, ag_nm_z, ne_eq, Int.reduceEq, not_false_eq_true, ↓reduceIte, ag_i130_61_n, ag_i130_61_i, ag_i130_61_r, ag_i130_64]
    rfl
theorem ag_fl_lay : ∀ (d i : Nat) (σ : ag_S) (k : Nat), i + d = 7 → k + d ≤ 400 → ag_Wo B σ qu k → ∃ σ', ag_Wo B σ' qu (k + d) ∧ ag_af B σ σ' (1300 * d) (21000 * d) ∧ ∀ K : ag_Rs → ag_S → Prop, ag_wp 130 69 [some (ag_R B), some (ag_I (i : Int))] [] σ K = ag_wp 130 90 [some (ag_R B), some (ag_I 7)] [] σ' K := by
  intro d
  induction d with
  | zero =>
    intro i σ k hi hk h
    have hi9 : i = 7 := by omega
    subst hi9
    refine ⟨σ, h, ag_af_le (ag_af_hf (ag_hf_refl σ)) (by omega) (by omega), fun K => ?_⟩
    rw [ag_i130_69]
    simp only [ag_i130_70, ag_i130_72]
    rw [if_pos (by decide +kernel)]
    rfl
  | succ d ih =>
    intro i σ k hi hk h
    obtain ⟨σ1, a1, a2, a3, a4⟩ := ag_o_lay h (by omega)
    obtain ⟨σ2, b1, b2, b3⟩ := ih (i + 1) σ1 (k + 1) (by omega) (by omega) a1
    rw [show k + 1 + d = k + (d + 1) by omega] at b1
    refine ⟨σ2, b1, ag_af_le (ag_af_trans a2 b2) (by omega) (by omega), fun K => ?_⟩
    rw [← b3 K, ag_i130_69]
    simp only [ag_i130_70, ag_i130_72, ag_nm_nat (show i ≤ 1000000 by omega), show ag_nm 7 = 7 from by decide +kernel]
    rw [if_neg (show ¬ (7 : Int) ≤ i by omega)]
    simp only [ag_i130_75, ag_i130_76, a4, a3, ag_kk_v, ag_kk_n, Nat.reduceAdd, ag_i130_79, ag_nm_1, ag_nm_z, ne_eq, Int.reduceEq, not_false_eq_true, ↓reduceIte, ag_i130_84_n, ag_i130_84_i, ag_i130_84_r, ag_i130_87]
    rfl
theorem ag_fl_vote : ∀ (d i : Nat) (σ : ag_S) (k : Nat), i + d = 8 → k + d ≤ 400 → ag_Wo B σ qu k → ∃ σ', ag_Wo B σ' qu (k + d) ∧ ag_af B σ σ' (1300 * d) (21000 * d) ∧ ∀ K : ag_Rs → ag_S → Prop, ag_wp 130 92 [some (ag_R B), some (ag_I (i : Int))] [] σ K = ag_wp 130 113 [some (ag_R B), some (ag_I 8)] [] σ' K := by
  intro d
  induction d with
  | zero =>
    intro i σ k hi hk h
    have hi9 : i = 8 := by omega
    subst hi9
    refine ⟨σ, h, ag_af_le (ag_af_hf (ag_hf_refl σ)) (by omega) (by omega), fun K => ?_⟩
    rw [ag_i130_92]
    simp only [ag_i130_93, ag_i130_95]
    rw [if_pos (by decide +kernel)]
    rfl
  | succ d ih =>
    intro i σ k hi hk h
    obtain ⟨σ1, a1, a2, a3, a4⟩ := ag_o_vote h (by omega)
    obtain ⟨σ2, b1, b2, b3⟩ := ih (i + 1) σ1 (k + 1) (by omega) (by omega) a1
    rw [show k + 1 + d = k + (d + 1) by omega] at b1
    refine ⟨σ2, b1, ag_af_le (ag_af_trans a2 b2) (by omega) (by omega), fun K => ?_⟩
    rw [← b3 K, ag_i130_92]
    simp only [ag_i130_93, ag_i130_95, ag_nm_nat (show i ≤ 1000000 by omega), show ag_nm 8 = 8 from by decide +kernel]
    rw [if_neg (show ¬ (8 : Int) ≤ i by omega)]
    simp only [ag_i130_98, ag_i130_99, a4, a3, ag_kk_v, ag_kk_n, Nat.reduceAdd, ag_i130_102, ag_nm_1, ag_nm_z, ne_eq, Int.reduceEq, not_false_eq_true, ↓reduceIte, ag_i130_107_n, ag_i130_107_i, ag_i130_107_r, ag_i130_110]
    rfl
/-- the founding -/
theorem ag_o_found (h : ag_Wc B σ qu 0 0) : ∃ σ', ag_Wo B σ' qu 33 ∧ ag_af B σ σ' 42900 693000 ∧ ∀ K : ag_Rs → ag_S → Prop, ag_cl9 130 [ag_R B] σ K = K (Sum.inl (some (ag_I 1))) σ' := by
  obtain ⟨σ1, a1, a2, a3⟩ := ag_fl_clause 9 0 σ 0 rfl (by decide) h
  obtain ⟨dr, mi, S, gh, np, gq, nq, hM, hU, hd, -, hw⟩ := a1
  obtain ⟨σ2, b1, b2, b3⟩ := ag_fl_party 3 0 σ1 (0 + 9) rfl (by decide) ⟨dr, mi, S, 0, gh, np, gq, nq, hM, hU, hd, hw (by decide), fun z => absurd z (by decide)⟩
  obtain ⟨dr, mi, S, m, gh, np, gq, nq, hM, hU, hd, hw, hp⟩ := b1
  obtain ⟨σ3, c1, c2, c3⟩ := ag_fl_petition 3 0 σ2 (0 + 9 + 3) rfl (by decide) ⟨dr, mi, S, m, gh, np, gq, nq, hM, hU, hd, hw, hp (by decide)⟩
  obtain ⟨σ4, d1, d2, d3⟩ := ag_fl_lay 7 0 σ3 (0 + 9 + 3 + 3) rfl (by decide) c1
  obtain ⟨σ5, e1, e2, e3⟩ := ag_fl_vote 8 0 σ4 (0 + 9 + 3 + 3 + 7) rfl (by decide) d1
  obtain ⟨σ6, f1, f2, f3, f4⟩ := ag_o_change e1 (by decide)
  obtain ⟨σ7, g1, g2, g3, g4⟩ := ag_o_change f1 (by decide)
  obtain ⟨σ8, h1, h2, h3, h4⟩ := ag_o_sit g1 (by decide)
  refine ⟨σ8, h1, ag_af_le (ag_af_trans a2 (ag_af_trans b2 (ag_af_trans c2 (ag_af_trans d2 (ag_af_trans e2 (ag_af_trans f2 (ag_af_trans g2 h2))))))) (by omega) (by omega), fun K => ?_⟩
  have a3 : ∀ K : ag_Rs → ag_S → Prop, ag_wp 130 2 [some (ag_R B), some (ag_I 0)] [] σ K = ag_wp 130 23 [some (ag_R B), some (ag_I 9)] [] σ1 K := a3
  have b3 : ∀ K : ag_Rs → ag_S → Prop, ag_wp 130 25 [some (ag_R B), some (ag_I 0)] [] σ1 K = ag_wp 130 45 [some (ag_R B), some (ag_I 3)] [] σ2 K := b3
  have c3 : ∀ K : ag_Rs → ag_S → Prop, ag_wp 130 47 [some (ag_R B), some (ag_I 0)] [] σ2 K = ag_wp 130 67 [some (ag_R B), some (ag_I 3)] [] σ3 K := c3
  have d3 : ∀ K : ag_Rs → ag_S → Prop, ag_wp 130 69 [some (ag_R B), some (ag_I 0)] [] σ3 K = ag_wp 130 90 [some (ag_R B), some (ag_I 7)] [] σ4 K := d3
  have e3 : ∀ K : ag_Rs → ag_S → Prop, ag_wp 130 92 [some (ag_R B), some (ag_I 0)] [] σ4 K = ag_wp 130 113 [some (ag_R B), some (ag_I 8)] [] σ5 K := e3
  simp only [ag_e130, ag_i130_0, ag_i130_1_n, ag_i130_1_i, ag_i130_1_r, a3, ag_i130_23, ag_i130_24_n, ag_i130_24_i, ag_i130_24_r, b3, ag_i130_45, ag_i130_46_n, ag_i130_46_i, ag_i130_46_r, c3, ag_i130_67, ag_i130_68_n, ag_i130_68_i, ag_i130_68_r, d3, ag_i130_90, ag_i130_91_n, ag_i130_91_i, ag_i130_91_r, e3, ag_i130_113, ag_i130_114, f4, f3, ag_kk_v, ag_kk_n, Nat.reduceAdd, ag_i130_117, ag_nm_1, ag_nm_z, Int.reduceEq, ↓reduceIte, ag_i130_120, ag_i130_121, g4, g3, ag_kk_v, ag_kk_n, Nat.reduceAdd, ag_i130_124, ag_i130_127, ag_i130_128, h4, h3, ag_kk_v, ag_kk_n, Nat.reduceAdd, ag_i130_131, ag_i130_134, ag_i130_135, ag_i130_139, ag_b0, ag_b1, true_and, or_true, true_or, Int.reduceEq, ne_eq, not_false_eq_true, not_true_eq_false, ↓reduceIte]
end AGFO
