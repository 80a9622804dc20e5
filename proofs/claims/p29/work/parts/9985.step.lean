/-! A STEP OF THE LAW, and all steps of one House. -/
variable {B : Nat}
theorem ag_nmk_8 : ag_nm 8 = 8 := by decide +kernel
section AGST
variable {σ : ag_S} {qu : Int} {k : Nat} {a0 a1 a5 a6 a7 a8 a9 a10 a11 a12 a13 a14 a15 a16 a17 a18 a19 a20 a21 : Option ag_V}
/-- the act, and a sitting where the minutes are out -/
theorem ag_st_act (h : ag_Wo B σ qu k) (hk : k < 400) {t : Nat} (ht : t < 8) : ∃ σ' : ag_S, ag_Wo B σ' qu (k + 2) ∧ ag_af B σ σ' 2600 42000 ∧ ∀ K : ag_Rs → ag_S → Prop,
      ag_wp 136 40 [a0, a1, some (ag_R B), some (ag_R (B + 1)), some (ag_I (t : Int)), a5, a6, a7, a8, a9, a10, a11, a12, a13, a14, a15, a16, a17, a18, a19, a20, a21] [] σ K =
      ag_wp 136 73 [a0, a1, some (ag_R B), some (ag_R (B + 1)), some (ag_I (t : Int)), a5, a6, a7, a8, a9, a10, a11, a12, a13, a14, a15, a16, a17, a18, a19, a20, a21] [] σ' K := by
  obtain ⟨σ1, h1, f1, d1, ck0⟩ := ag_o_act h (by omega)
  obtain ⟨σ2, h2, f2, d2, ck1⟩ := ag_o_sit h1 (by omega)
  obtain ⟨dr, mi, S, m, gh, np, gq, nq, hM, hU, hd, hw, hp⟩ := h1
  have hli := hU.2.1.2.2.2.1
  have min : ag_nm mi = mi := ag_nm_of (by omega) (by omega)
  have g11 := fun K => ag_m_mi hM K
  have tn : ag_nm (t : Int) = t := ag_nm_nat (by omega)
  have go : ∀ K : ag_Rs → ag_S → Prop, ag_wp 136 40 [a0, a1, some (ag_R B), some (ag_R (B + 1)), some (ag_I (t : Int)), a5, a6, a7, a8, a9, a10, a11, a12, a13, a14, a15, a16, a17, a18, a19, a20, a21] [] σ K = if 3 ≤ mi then ag_wp 136 73 [a0, a1, some (ag_R B), some (ag_R (B + 1)), some (ag_I (t : Int)), a5, a6, a7, a8, a9, a10, a11, a12, a13, a14, a15, a16, a17, a18, a19, a20, a21] [] σ1 K else ag_wp 136 64 [a0, a1, some (ag_R B), some (ag_R (B + 1)), some (ag_I (t : Int)), a5, a6, a7, a8, a9, a10, a11, a12, a13, a14, a15, a16, a17, a18, a19, a20, a21] [] σ1 K := fun K => by
    rw [ag_i136_40]
    simp only [ag_i136_42, ag_i136_44, tn, ag_nmk_8]
    rw [if_neg (show ¬ (8 : Int) ≤ t by omega)]
    simp only [ag_i136_47, ag_i136_48, ck0, d1, ag_kk_v, ag_kk_n, Nat.reduceAdd, ag_i136_51, ag_nm_1, ag_nm_z, ne_eq, Int.reduceEq, not_false_eq_true, ↓reduceIte, ag_i136_56, ag_i136_57, g11, ag_i136_60, ag_i136_61, min, ag_nmk_3]
  by_cases c : 3 ≤ mi
  · refine ⟨σ1, ⟨dr, mi, S, m, gh, np, gq, nq, hM, ag_U_k hU, by omega, hw, hp⟩, ag_af_le f1 (by omega) (by omega), fun K => ?_⟩
    rw [go K, if_pos c]
  · refine ⟨σ2, h2, ag_af_le (ag_af_trans f1 f2) (by omega) (by omega), fun K => ?_⟩
    rw [go K, if_neg c]
    simp only [ag_i136_64, ag_i136_65, ck1, d2, ag_kk_v, ag_kk_n, Nat.reduceAdd, ag_i136_68, ag_nm_1, ag_nm_z, ne_eq, Int.reduceEq, not_false_eq_true, ↓reduceIte]
/-- the checks, and a call -/
theorem ag_st_check (h : ag_Wo B σ qu k) {t : Nat} : ∃ (σ' : ag_S) (y5 y6 y7 y8 y9 y10 y11 y12 y13 y14 y15 y16 y17 y18 y19 y20 y21 : Option ag_V), ag_Wo B σ' qu (k + 1) ∧ ag_af B σ σ' 1321 21126 ∧ ∀ K : ag_Rs → ag_S → Prop,
      ag_wp 136 73 [a0, a1, some (ag_R B), some (ag_R (B + 1)), some (ag_I (t : Int)), a5, a6, a7, a8, a9, a10, a11, a12, a13, a14, a15, a16, a17, a18, a19, a20, a21] [] σ K =
      ag_wp 136 826 [a0, a1, some (ag_R B), some (ag_R (B + 1)), some (ag_I (t : Int)), y5, y6, y7, y8, y9, y10, y11, y12, y13, y14, y15, y16, y17, y18, y19, y20, y21] [] σ' K := by
  obtain ⟨dr, mi, S, m, gh, np, gq, nq, hM, hU, hd, hw, hp⟩ := h
  obtain ⟨σ1, u10, u11, hM1, f1, g1⟩ := ag_c_next (a0 := a0) (a1 := a1) (a2 := some (ag_R B)) (a5 := a5) (a6 := a6) (a7 := a7) (a8 := a8) (a9 := a9) (a10 := a10) (a11 := a11) (a12 := a12) (a13 := a13) (a14 := a14) (a15 := a15) (a16 := a16) (a17 := a17) (a18 := a18) (a19 := a19) (a20 := a20) (a21 := a21) hM hU (t : Int)
  obtain ⟨σ2, u11', u12, u13, hM2, f2, g2⟩ := ag_c2_loop (a0 := a0) (a1 := a1) (a2 := some (ag_R B)) (a4 := some (ag_I (t : Int))) (a5 := some (ag_L (ag_dg9 S m gh np qu mi gq nq))) (a6 := none) (a14 := a14) (a15 := a15) (a16 := a16) (a17 := a17) (a18 := a18) (a19 := a19) (a20 := a20) (a21 := a21) (dr := dr) hU (x := ag_nxt S.1 S.2.2.2 m) m 0 σ1 0 u11 a12 a13 (Nat.zero_add _) hM1
  rw [Nat.zero_add] at g2
  have g2 : ∀ K : ag_Rs → ag_S → Prop, ag_wp 136 187 [a0, a1, some (ag_R B), some (ag_R (B + 1)), some (ag_I (t : Int)), some (ag_L (ag_dg9 S m gh np qu mi gq nq)), none, some (ag_I (ag_nxt S.1 S.2.2.2 m)), some (ag_I 0), some (ag_I (m : Int)), some (ag_I 0), u11, a12, a13, a14, a15, a16, a17, a18, a19, a20, a21] [] σ1 K = _ := g2
  obtain ⟨z10, z11, z13, g3⟩ := ag_c3 (a0 := a0) (a1 := a1) (a2 := some (ag_R B)) (a4 := some (ag_I (t : Int))) (a5 := some (ag_L (ag_dg9 S m gh np qu mi gq nq))) (a6 := none) (a7 := some (ag_I (ag_nxt S.1 S.2.2.2 m))) (a10 := some (ag_I (m : Int))) (a11 := u11') (a12 := u12) (a13 := u13) (a14 := a14) (a15 := a15) (a16 := a16) (a17 := a17) (a18 := a18) (a19 := a19) (a20 := a20) (a21 := a21) hM2 hU (x9 := (m : Int))
  obtain ⟨σ4, e13, e14, hM4, f4, g4⟩ := ag_c4 (a0 := a0) (a1 := a1) (a4 := some (ag_I (t : Int))) (a5 := some (ag_L (ag_dg9 S m gh np qu mi gq nq))) (a6 := none) (a7 := some (ag_I (ag_nxt S.1 S.2.2.2 m))) (a8 := some (ag_I ((ag_ct (fun a => decide (0 ≤ S.2.2.2 5 a)) m 0 : Nat) : Int))) (a9 := some (ag_I (m : Int))) (a10 := z10) (a11 := z11) (a13 := z13) (a14 := a14) (a15 := a15) (a16 := a16) (a17 := a17) (a18 := a18) (a19 := a19) (a20 := a20) (a21 := a21) hM2 hU (x12 := (ag_su (fun c => if S.1 5 c = -1 then 0 else S.1 2 c) S.2.1 0))
  obtain ⟨σ5, x14, x15, hM5, f5, g5⟩ := ag_c5 (a0 := a0) (a1 := a1) (a2 := some (ag_R B)) (a4 := some (ag_I (t : Int))) (a6 := none) (a7 := some (ag_I (ag_nxt S.1 S.2.2.2 m))) (a8 := some (ag_I ((ag_ct (fun a => decide (0 ≤ S.2.2.2 5 a)) m 0 : Nat) : Int))) (a9 := some (ag_I (m : Int))) (a10 := z10) (a11 := z11) (a12 := some (ag_I (ag_su (fun c => if S.1 5 c = -1 then 0 else S.1 2 c) S.2.1 0))) (a14 := some (ag_I (np : Int))) (a15 := a15) (a16 := a16) (a17 := a17) (a18 := a18) (a19 := a19) (a20 := a20) (a21 := a21) hM4 hU (x13 := (ag_su (fun p => if mi = -1 then -1 else gh 1 p) np 0))
  obtain ⟨σ6, S', mi', gq', v16, v17, v18, v19, v20, v21, hM6, hU6, hw6, f6, g6⟩ := ag_c6 (a0 := a0) (a1 := a1) (a4 := some (ag_I (t : Int))) (a6 := none) (a8 := some (ag_I ((ag_ct (fun a => decide (0 ≤ S.2.2.2 5 a)) m 0 : Nat) : Int))) (a9 := some (ag_I (m : Int))) (a10 := z10) (a11 := z11) (a12 := some (ag_I (ag_su (fun c => if S.1 5 c = -1 then 0 else S.1 2 c) S.2.1 0))) (a13 := some (ag_I (ag_su (fun p => if mi = -1 then -1 else gh 1 p) np 0))) (a14 := some (ag_I x14)) (a16 := a16) (a17 := a17) (a18 := a18) (a19 := a19) (a20 := a20) (a21 := a21) hM5 hU hp (x15 := x15)
  refine ⟨σ6, some (ag_L (ag_dg9 S m gh np qu mi gq nq)), none, some (ag_I (ag_nxt S.1 S.2.2.2 m)), some (ag_I ((ag_ct (fun a => decide (0 ≤ S.2.2.2 5 a)) m 0 : Nat) : Int)), some (ag_I (m : Int)), z10, z11, some (ag_I (ag_su (fun c => if S.1 5 c = -1 then 0 else S.1 2 c) S.2.1 0)), some (ag_I (ag_su (fun p => if mi = -1 then -1 else gh 1 p) np 0)), some (ag_I x14), some (ag_I x15), v16, v17, v18, v19, v20, v21, ⟨dr, mi', S', m, gh, np, gq', nq, hM6, hU6, by omega, by omega, hp⟩, ag_af_le (ag_af_trans f1 (ag_af_trans f2 (ag_af_trans f4 (ag_af_trans f5 f6)))) (by omega) (by omega), fun K => ?_⟩
  rw [g1 K]
  simp only [ag_i136_184, ag_i136_185_n, ag_i136_185_i, ag_i136_185_r]
  rw [g2 K, g3 K, g4 K, g5 K, g6 K]
/-- the steps of one House -/
theorem ag_st_loop : ∀ (d t k : Nat) (σ : ag_S) (a5 a6 a7 a8 a9 a10 a11 a12 a13 a14 a15 a16 a17 a18 a19 a20 a21 : Option ag_V), t + d = 8 → k + 3 * d ≤ 300 → ag_Wo B σ qu k → ∃ (σ' : ag_S) (y4 y5 y6 y7 y8 y9 y10 y11 y12 y13 y14 y15 y16 y17 y18 y19 y20 y21 : Option ag_V), ag_af B σ σ' (3921 * d) (63126 * d) ∧ ∀ K : ag_Rs → ag_S → Prop,
      ag_wp 136 40 [a0, a1, some (ag_R B), some (ag_R (B + 1)), some (ag_I (t : Int)), a5, a6, a7, a8, a9, a10, a11, a12, a13, a14, a15, a16, a17, a18, a19, a20, a21] [] σ K =
      ag_wp 136 832 [a0, a1, some (ag_R B), some (ag_R (B + 1)), y4, y5, y6, y7, y8, y9, y10, y11, y12, y13, y14, y15, y16, y17, y18, y19, y20, y21] [] σ' K := by
  intro d
  induction d with
  | zero =>
    intro t k σ a5 a6 a7 a8 a9 a10 a11 a12 a13 a14 a15 a16 a17 a18 a19 a20 a21 ht hk h
    refine ⟨σ, some (ag_I (t : Int)), a5, a6, a7, a8, a9, a10, a11, a12, a13, a14, a15, a16, a17, a18, a19, a20, a21, ag_af_hf (ag_hf_refl σ), fun K => ?_⟩
    rw [ag_i136_40]
    simp only [ag_i136_42, ag_i136_44, ag_nm_nat (show t ≤ 1000000 by omega), ag_nmk_8]
    rw [if_pos (show (8 : Int) ≤ t by omega)]
  | succ d ih =>
    intro t k σ a5 a6 a7 a8 a9 a10 a11 a12 a13 a14 a15 a16 a17 a18 a19 a20 a21 ht hk h
    obtain ⟨σ1, h1, f1, g1⟩ := ag_st_act (a0 := a0) (a1 := a1) (a5 := a5) (a6 := a6) (a7 := a7) (a8 := a8) (a9 := a9) (a10 := a10) (a11 := a11) (a12 := a12) (a13 := a13) (a14 := a14) (a15 := a15) (a16 := a16) (a17 := a17) (a18 := a18) (a19 := a19) (a20 := a20) (a21 := a21) h (by omega) (t := t) (by omega)
    obtain ⟨σ2, b5, b6, b7, b8, b9, b10, b11, b12, b13, b14, b15, b16, b17, b18, b19, b20, b21, h2, f2, g2⟩ := ag_st_check (a0 := a0) (a1 := a1) (a5 := a5) (a6 := a6) (a7 := a7) (a8 := a8) (a9 := a9) (a10 := a10) (a11 := a11) (a12 := a12) (a13 := a13) (a14 := a14) (a15 := a15) (a16 := a16) (a17 := a17) (a18 := a18) (a19 := a19) (a20 := a20) (a21 := a21) h1 (t := t)
    obtain ⟨σ3, y4, y5, y6, y7, y8, y9, y10, y11, y12, y13, y14, y15, y16, y17, y18, y19, y20, y21, f3, g3⟩ := ih (t + 1) (k + 2 + 1) σ2 b5 b6 b7 b8 b9 b10 b11 b12 b13 b14 b15 b16 b17 b18 b19 b20 b21 (by omega) (by omega) h2
    refine ⟨σ3, y4, y5, y6, y7, y8, y9, y10, y11, y12, y13, y14, y15, y16, y17, y18, y19, y20, y21, ag_af_le (ag_af_trans f1 (ag_af_trans f2 f3)) (by omega) (by omega), fun K => ?_⟩
    rw [g1 K, g2 K, ← g3 K]
    simp only [ag_i136_826_n, ag_i136_826_i, ag_i136_826_r, ag_i136_829]
    rfl
end AGST
