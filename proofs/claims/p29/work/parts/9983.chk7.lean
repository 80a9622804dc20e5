/-! THE LAW'S FIFTH CHECK: as many are called as are laid, at most, and one at least. -/
variable {B : Nat}
theorem ag_nmk_25 : ag_nm 25 = 25 := by decide +kernel
theorem ag_nmk_50 : ag_nm 50 = 50 := by decide +kernel
section AGNN
variable {m : Nat}
/-- one laid: one is next -/
theorem ag_nxt_some {S : ag_T} (hV : ag_IV S m) (h3 : ag_E3 S.2.2.2 m) {a : Nat} (ha : a < m) (hl : S.2.2.2 3 a = 0) : ag_nxt S.1 S.2.2.2 m ≠ -1 := by
  have h5 : ∃ c : Nat, c < m ∧ S.2.2.2 3 c = 0 ∧ S.2.2.2 0 c ≠ 5 := by
    by_cases q : S.2.2.2 0 a = 5
    · obtain ⟨u1, u2, u3, u4⟩ := (hV.2.1.2.2 a ha).2.1 q
      have := h3 a ha hl q
      exact ⟨(S.2.2.2 1 a).toNat, by omega, this, by omega⟩
    · exact ⟨a, ha, hl, q⟩
  obtain ⟨c, c1, c2, c3⟩ := h5
  have hF := ag_fol_min hV m 0 (-1) (Nat.zero_add _) (Or.inl ⟨rfl, fun c hc => absurd hc (Nat.not_lt_zero _)⟩)
  rcases hF with ⟨-, f2⟩ | ⟨b, b1, b2, -⟩
  · exact absurd ⟨c2, c3⟩ (f2 c c1)
  · unfold ag_nxt
    dsimp only
    rw [b2, if_neg (show ¬ (b : Int) = -1 by omega)]
    split <;> omega
/-- as long as one is next, each put lessens those laid -/
theorem ag_dal_lc {gh : Nat → Nat → Int} {np : Nat} {qu : Int} : ∀ (k : Nat) (S : ag_T), ag_IV S m → ag_nxt (ag_dal gh np qu (-1) m k S).1 (ag_dal gh np qu (-1) m k S).2.2.2 m ≠ -1 → ag_lc (ag_dal gh np qu (-1) m k S).2.2.2 m + k ≤ ag_lc S.2.2.2 m := by
  intro k
  induction k with
  | zero => intro S _ _; exact Nat.le_refl _
  | succ k ih =>
    intro S hV
    have e : ag_dal gh np qu (-1) m (k + 1) S = if ag_nxt S.1 S.2.2.2 m = -1 then S else ag_dal gh np qu (-1) m k (ag_dec gh np qu (-1) m S (ag_nxt S.1 S.2.2.2 m).toNat) := rfl
    rw [e]
    by_cases c : ag_nxt S.1 S.2.2.2 m = -1
    · rw [if_pos c]
      intro h
      exact absurd c h
    · rw [if_neg c]
      obtain ⟨b, hb, hn, hl⟩ := ag_nxt_is c
      have e9 : (ag_nxt S.1 S.2.2.2 m).toNat = b := by omega
      rw [e9]
      intro h
      obtain ⟨i1, i2, -, -⟩ := ag_dec_IV (gh := gh) (np := np) (qu := qu) (x := -1) hV hb hl
      have := ih _ i1 h
      omega
theorem ag_lc_pos {gp : Nat → Nat → Int} {a : Nat} (ha : a < m) (hl : gp 3 a = 0) : 1 ≤ ag_lc gp m := by
  rcases Nat.eq_zero_or_pos (ag_lc gp m) with z | z
  · have := ag_ct_0 m 0 z a (Nat.zero_le _) (by omega)
    exact absurd hl (of_decide_eq_false this)
  · exact z
theorem ag_lc_some {gp : Nat → Nat → Int} (h : 1 ≤ ag_lc gp m) : ∃ a, a < m ∧ gp 3 a = 0 := by
  rcases Classical.em (∃ a, a < m ∧ gp 3 a = 0) with y | y
  · exact y
  · have w : ∀ k i, i + k = m → ag_ct (fun i => decide (gp 3 i = 0)) k i = 0 := by
      intro k
      induction k with
      | zero => intro i _; rfl
      | succ k ih =>
        intro i hi
        show (if decide (gp 3 i = 0) = true then 1 else 0) + ag_ct (fun i => decide (gp 3 i = 0)) k (i + 1) = 0
        rw [ih (i + 1) (by omega), if_neg (fun z => y ⟨i, by omega, of_decide_eq_true z⟩)]
    have := w m 0 (Nat.zero_add _)
    unfold ag_lc at h
    omega
end AGNN
section AGC7
variable {σ : ag_S} {dr qu mi : Int} {gh gq : Nat → Nat → Int} {m np nq k : Nat} {S : ag_T} {a0 a1 a2 a4 a5 a6 a7 a8 a9 a10 a11 a12 a13 a14 a15 a16 a17 a18 a19 a20 a21 : Option ag_V}
theorem ag_M_bp (hM : ag_M B σ dr qu mi S m gh np gq nq) : ag_M B (ag_bp σ) dr qu mi S m gh np gq nq := by
  obtain ⟨L, ln, g, T, mt, en, h, hX, hT, r⟩ := hM
  exact ⟨L, ln, g, T, mt, en, ag_HS_bp h, ag_CX_bp hX, hT, r⟩
theorem ag_m_there1 (hM : ag_M B σ dr qu mi S m gh np gq nq) (hU : ag_U S m gh np qu mi gq nq k) {i : Nat} (hi : i < 20) : ∃ σ', ag_M B σ' dr qu mi S m gh np gq nq ∧ ag_af B σ σ' 1 6 ∧ ∀ (x : Int), x = i → ∀ K : ag_Rs → ag_S → Prop, ag_cl9 135 [ag_R (B + 1), ag_I x] σ K = K (Sum.inl (some (ag_I (if ag_nxt (ag_dal gh np qu (-1) m i S).1 (ag_dal gh np qu (-1) m i S).2.2.2 m = -1 then 0 else 1)))) σ' := by
  have hm : m ≤ 20 := hU.1.2.1.1.2.2
  obtain ⟨T, mt, en, hX, hT, re⟩ := ag_M_re hM
  have ck := fun P => ag_X_oc hX P
  obtain ⟨σ', T', mt', hX', hT', hF, es, z, -, hK⟩ := ag_F_putB_1 hX hU.1 hU.2.1 hT hi
  rw [ag_vC9 hU.1 i z] at hK
  have hM' := re σ' T' mt' en hX' hT' hF (by rw [es]; exact Nat.le_refl _)
  obtain ⟨r1, r2, r3⟩ := ag_nxt_rg (gb := (ag_dal gh np qu (-1) m i S).1) (gp := (ag_dal gh np qu (-1) m i S).2.2.2) (m := m) hm
  generalize ag_nxt (ag_dal gh np qu (-1) m i S).1 (ag_dal gh np qu (-1) m i S).2.2.2 m = v at hK r1 r2 r3
  by_cases c : v = -1
  · rw [c] at hK
    refine ⟨ag_bp σ', ag_M_bp hM', ag_af_le (ag_af_trans (ag_af_Fr hF es) (ag_af_bp σ')) (by omega) (by omega), fun x hx K => ?_⟩
    subst hx
    have h0 := fun K => ag_F_cA_0 hK hX K
    rw [if_pos c]
    simp only [ag_e135, ag_i135_0, ag_i135_1, ag_i135_2, ck, h0, ag_h135_0_i, ag_i135_15, ag_i135_16, ag_b0, ag_b1, true_and, or_true, true_or, Int.reduceEq, ne_eq, not_false_eq_true, not_true_eq_false, ↓reduceIte]
  · refine ⟨σ', hM', ag_af_le (ag_af_Fr hF es) (by omega) (by omega), fun x hx K => ?_⟩
    subst hx
    have h0 := fun K => ag_F_cA_1 hK hX r1 c K
    rw [if_neg c]
    simp only [ag_e135, ag_i135_0, ag_i135_1, ag_i135_2, ck, h0, ag_kk_v, ag_kk_n, Nat.reduceAdd, ag_i135_5, r1, ag_nm_z]
    rw [if_neg (show ¬ v < 0 by omega)]
    simp only [ag_i135_8, ag_i135_9, ag_i135_13, ag_b0, ag_b1, true_and, or_true, true_or, Int.reduceEq, ne_eq, not_false_eq_true, not_true_eq_false, ↓reduceIte]
theorem ag_m_there0 (hM : ag_M B σ dr qu mi S m gh np gq nq) {i : Nat} (hi : i = 20) : ∃ σ', ag_M B σ' dr qu mi S m gh np gq nq ∧ ag_af B σ σ' 1 6 ∧ ∀ (x : Int), x = i → ∀ K : ag_Rs → ag_S → Prop, ag_cl9 135 [ag_R (B + 1), ag_I x] σ K = K (Sum.inl (some (ag_I 0))) σ' := by
  subst hi
  obtain ⟨T, mt, en, hX, hT, re⟩ := ag_M_re hM
  have ck := fun P => ag_X_oc hX P
  refine ⟨ag_bp σ, ag_M_bp hM, ag_af_bp σ, fun x hx K => ?_⟩
  subst hx
  have hK := fun K => ag_F_putB_0 (B := B) (τ := σ) (k := ((20 : Nat) : Int)) (ag_nm_nat (by decide)) (by omega) K
  have h0 := fun K => ag_F_cA_0 hK hX K
  simp only [ag_e135, ag_i135_0, ag_i135_1, ag_i135_2, ck, h0, ag_h135_0_i, ag_i135_15, ag_i135_16, ag_b0, ag_b1, true_and, or_true, true_or, Int.reduceEq, ne_eq, not_false_eq_true, not_true_eq_false, ↓reduceIte]
/-- how many are called -/
theorem ag_c5_loop (hU : ag_U S m gh np qu mi gq nq k) {x14 : Int} : ∀ (d i : Nat) (σ : ag_S), i + d = 20 → ag_M B σ dr qu mi S m gh np gq nq → i ≤ ag_lc S.2.2.2 m → (1 ≤ i → ag_nxt S.1 S.2.2.2 m ≠ -1) → ∃ (σ' : ag_S) (j : Nat), ag_M B σ' dr qu mi S m gh np gq nq ∧ ag_af B σ σ' (d + 1) (6 * d + 6) ∧ j ≤ ag_lc S.2.2.2 m ∧ (1 ≤ j ↔ ag_nxt S.1 S.2.2.2 m ≠ -1) ∧ ∀ K : ag_Rs → ag_S → Prop,
      ag_wp 136 588 [a0, a1, a2, some (ag_R (B + 1)), a4, a5, a6, a7, a8, a9, a10, a11, a12, a13, some (ag_I x14), some (ag_I (i : Int)), a16, a17, a18, a19, a20, a21] [] σ K =
      ag_wp 136 610 [a0, a1, a2, some (ag_R (B + 1)), a4, a5, a6, a7, a8, a9, a10, a11, a12, a13, some (ag_I x14), some (ag_I (j : Int)), a16, a17, a18, a19, a20, a21] [] σ' K := by
  have hV := hU.1
  have hm : m ≤ 20 := hV.2.1.1.2.2
  intro d
  induction d with
  | zero =>
    intro i σ hi hM h1 h2
    have hi : i = 20 := by omega
    obtain ⟨σ1, hM1, f1, d1⟩ := ag_m_there0 hM hi
    refine ⟨σ1, i, hM1, ag_af_le f1 (by omega) (by omega), h1, ⟨h2, fun _ => by omega⟩, fun K => ?_⟩
    have d1 := d1 (i : Int) rfl
    rw [ag_i136_588]
    simp only [ag_i136_590, ag_i136_592, ag_nm_nat (show i ≤ 1000000 by omega), ag_nmk_25]
    rw [if_neg (show ¬ 25 ≤ (i : Int) by omega)]
    simp only [ag_i136_595, ag_i136_596, ag_i136_598, d1, ag_kk_v, ag_kk_n, Nat.reduceAdd, ag_i136_601, ag_nm_z, ↓reduceIte]
  | succ d ih =>
    intro i σ hi hM h1 h2
    obtain ⟨σ1, hM1, f1, d1⟩ := ag_m_there1 hM hU (i := i) (by omega)
    have d1 := d1 (i : Int) rfl
    have dl := ag_dal_lc (gh := gh) (np := np) (qu := qu) (m := m) i S hV
    have vI := ag_vi9_le (gh := gh) (np := np) (qu := qu) hV i
    have st : ∀ K : ag_Rs → ag_S → Prop, ag_wp 136 588 [a0, a1, a2, some (ag_R (B + 1)), a4, a5, a6, a7, a8, a9, a10, a11, a12, a13, some (ag_I x14), some (ag_I (i : Int)), a16, a17, a18, a19, a20, a21] [] σ K = ag_wp 136 601 [a0, a1, a2, some (ag_R (B + 1)), a4, a5, a6, a7, a8, a9, a10, a11, a12, a13, some (ag_I x14), some (ag_I (i : Int)), a16, a17, a18, a19, a20, a21] [ag_I (if ag_nxt (ag_dal gh np qu (-1) m i S).1 (ag_dal gh np qu (-1) m i S).2.2.2 m = -1 then 0 else 1)] σ1 K := fun K => by
      rw [ag_i136_588]
      simp only [ag_i136_590, ag_i136_592, ag_nm_nat (show i ≤ 1000000 by omega), ag_nmk_25]
      rw [if_neg (show ¬ 25 ≤ (i : Int) by omega)]
      simp only [ag_i136_595, ag_i136_596, ag_i136_598, d1, ag_kk_v, ag_kk_n, Nat.reduceAdd]
    by_cases c : ag_nxt (ag_dal gh np qu (-1) m i S).1 (ag_dal gh np qu (-1) m i S).2.2.2 m = -1
    · refine ⟨σ1, i, hM1, ag_af_le f1 (by omega) (by omega), h1, ⟨h2, fun y => ?_⟩, fun K => ?_⟩
      · rcases Nat.eq_zero_or_pos i with z | z
        · subst z
          exact absurd c y
        · exact z
      · rw [st K, if_pos c]
        simp only [ag_i136_601, ag_nm_z, ↓reduceIte]
    · obtain ⟨b, hb, hn, hl⟩ := ag_nxt_is c
      have p1 := ag_lc_pos (m := m) hb hl
      have p2 := dl c
      have y : ag_nxt S.1 S.2.2.2 m ≠ -1 := by
        rcases Nat.eq_zero_or_pos i with z | z
        · subst z
          exact c
        · exact h2 z
      obtain ⟨σ2, j, hM2, f2, j1, j2, g2⟩ := ih (i + 1) σ1 (by omega) hM1 (by omega) (fun _ => y)
      refine ⟨σ2, j, hM2, ag_af_le (ag_af_trans f1 f2) (by omega) (by omega), j1, j2, fun K => ?_⟩
      rw [st K, if_neg c, ← g2 K]
      simp only [ag_i136_601, ag_nm_1, ag_nm_z, Int.reduceEq, ↓reduceIte, ag_i136_604_n, ag_i136_604_i, ag_i136_604_r, ag_i136_607]
      rfl
theorem ag_c5 (hM : ag_M B σ dr qu mi S m gh np gq nq) (hU : ag_U S m gh np qu mi gq nq k) {x13 : Int} : ∃ (σ' : ag_S) (x14 x15 : Int), ag_M B σ' dr qu mi S m gh np gq nq ∧ ag_af B σ σ' 21 126 ∧ ∀ K : ag_Rs → ag_S → Prop,
      ag_wp 136 578 [a0, a1, a2, some (ag_R (B + 1)), a4, some (ag_L (ag_dg9 S m gh np qu mi gq nq)), a6, a7, a8, a9, a10, a11, a12, some (ag_I x13), a14, a15, a16, a17, a18, a19, a20, a21] [] σ K =
      ag_wp 136 663 [a0, a1, a2, some (ag_R (B + 1)), a4, some (ag_L (ag_dg9 S m gh np qu mi gq nq)), a6, a7, a8, a9, a10, a11, a12, some (ag_I x13), some (ag_I x14), some (ag_I x15), a16, a17, a18, a19, a20, a21] [] σ' K := by
  have hV := hU.1
  have hm : m ≤ 20 := hV.2.1.1.2.2
  have ck0 := ag_m_ck hM
  have M3 : ∀ K : ag_Rs → ag_S → Prop, ag_cl9 61 [ag_R (B + 1), ag_I 3] σ K = K (Sum.inl (some (ag_I (ag_lc S.2.2.2 m : Int)))) σ := fun K => ag_m_many hM hU (j := 3) (by decide) rfl K
  obtain ⟨σ1, j, hM1, f1, j1, j2, g1⟩ := ag_c5_loop (a0 := a0) (a1 := a1) (a2 := a2) (a4 := a4) (a5 := some (ag_L (ag_dg9 S m gh np qu mi gq nq))) (a6 := a6) (a7 := a7) (a8 := a8) (a9 := a9) (a10 := a10) (a11 := a11) (a12 := a12) (a13 := some (ag_I x13)) (x14 := (ag_lc S.2.2.2 m : Int)) (a16 := a16) (a17 := a17) (a18 := a18) (a19 := a19) (a20 := a20) (a21 := a21) (B := B) (dr := dr) hU 20 0 σ rfl hM (Nat.zero_le _) (fun z => absurd z (by decide))
  have g1 : ∀ K : ag_Rs → ag_S → Prop, ag_wp 136 588 [a0, a1, a2, some (ag_R (B + 1)), a4, some (ag_L (ag_dg9 S m gh np qu mi gq nq)), a6, a7, a8, a9, a10, a11, a12, some (ag_I x13), some (ag_I (ag_lc S.2.2.2 m : Int)), some (ag_I 0), a16, a17, a18, a19, a20, a21] [] σ K = _ := g1
  obtain ⟨σ2, hM2, f2, d2⟩ := ag_m_end hM1 hU
  obtain ⟨σ3, hM3, f3, d3⟩ := ag_m_digest hM2 hU
  have ck1 := ag_m_ck hM1
  have ck2 := ag_m_ck hM2
  have lm : ag_lc S.2.2.2 m ≤ m := ag_ct_le _ m 0
  have jn : ag_nm (j : Int) = j := ag_nm_nat (by omega)
  have ln : ag_nm (ag_lc S.2.2.2 m : Int) = (ag_lc S.2.2.2 m : Int) := ag_nm_nat (by omega)
  have vI := (ag_vi9_le (gh := gh) (np := np) (qu := qu) hV 20).1.1.2
  have v40 : ag_vi9 gh np qu S m ≤ 40 ∧ 0 ≤ ag_vi9 gh np qu S m := by
    have h1 : (ag_dal gh np qu (-1) m 20 S).2.2.1 ≤ (ag_dal gh np qu (-1) m 20 S).2.1 := vI.2.1
    have h2 : (ag_dal gh np qu (-1) m 20 S).2.1 ≤ 40 := vI.2.2
    unfold ag_vi9
    omega
  have vn : ag_nm (ag_vi9 gh np qu S m) = ag_vi9 gh np qu S m := ag_nm_of (by omega) (by omega)
  have iff1 : 1 ≤ ag_lc S.2.2.2 m ↔ 1 ≤ j := by
    rw [j2]
    constructor
    · intro h
      obtain ⟨a, ha, hl⟩ := ag_lc_some h
      exact ag_nxt_some hV hU.2.2.2.2.2.2.2.2.2.2.2 ha hl
    · intro h
      obtain ⟨b, hb, hn, hl⟩ := ag_nxt_is h
      exact ag_lc_pos hb hl
  refine ⟨σ3, (ag_lc S.2.2.2 m : Int), (j : Int), hM3, ag_af_le (ag_af_trans f1 (ag_af_trans f2 f3)) (by omega) (by omega), fun K => ?_⟩
  simp only [ag_i136_578, ag_i136_579, ag_i136_580, ck0, M3, ag_kk_v, ag_kk_n, Nat.reduceAdd, ag_i136_583_n, ag_i136_583_i, ag_i136_583_r, ag_i136_585, ag_i136_586_n, ag_i136_586_i, ag_i136_586_r, g1, ag_i136_610, ag_i136_612, ag_i136_614, jn, ln]
  rw [if_neg (show ¬ (ag_lc S.2.2.2 m : Int) < j by omega)]
  have tail : ∀ (K : ag_Rs → ag_S → Prop), ag_wp 136 640 [a0, a1, a2, some (ag_R (B + 1)), a4, some (ag_L (ag_dg9 S m gh np qu mi gq nq)), a6, a7, a8, a9, a10, a11, a12, some (ag_I x13), some (ag_I (ag_lc S.2.2.2 m : Int)), some (ag_I (j : Int)), a16, a17, a18, a19, a20, a21] [] σ1 K = ag_wp 136 663 [a0, a1, a2, some (ag_R (B + 1)), a4, some (ag_L (ag_dg9 S m gh np qu mi gq nq)), a6, a7, a8, a9, a10, a11, a12, some (ag_I x13), some (ag_I (ag_lc S.2.2.2 m : Int)), some (ag_I (j : Int)), a16, a17, a18, a19, a20, a21] [] σ3 K := fun K => by
    simp only [ag_i136_640, ag_i136_641, ck1, d2, ag_kk_v, ag_kk_n, Nat.reduceAdd, ag_i136_644, ag_i136_646, vn, ag_nmk_40]
    rw [if_pos (show ag_vi9 gh np qu S m ≤ 40 from v40.1)]
    simp only [ag_i136_651, ag_i136_652, ck2, d3, ag_kk_v, ag_kk_n, Nat.reduceAdd, ag_i136_655, ag_i136_657, Int.lt_irrefl, ↓reduceIte, ag_i136_658, ag_b0, ag_b1, true_and, or_true, true_or, Int.reduceEq, ne_eq, not_false_eq_true, not_true_eq_false, ↓reduceIte]
  by_cases c : 1 ≤ ag_lc S.2.2.2 m
  · have cj := iff1.mp c
    simp only [ag_i136_617, ag_i136_619, ln, ag_nm_z]
    rw [if_neg (show ¬ (ag_lc S.2.2.2 m : Int) ≤ 0 by omega)]
    simp only [ag_i136_622, ag_i136_623, ag_i136_627, ag_i136_629, jn, ag_nm_z]
    rw [if_neg (show ¬ (j : Int) ≤ 0 by omega)]
    simp only [ag_i136_632, ag_i136_633, ag_i136_637, not_true_eq_false, ↓reduceIte, ne_eq, tail]
  · have cj : ¬ 1 ≤ j := fun z => c (iff1.mpr z)
    simp only [ag_i136_617, ag_i136_619, ln, ag_nm_z]
    rw [if_pos (show (ag_lc S.2.2.2 m : Int) ≤ 0 by omega)]
    simp only [ag_i136_626, ag_i136_627, ag_i136_629, jn, ag_nm_z]
    rw [if_pos (show (j : Int) ≤ 0 by omega)]
    simp only [ag_i136_636, ag_i136_637, not_true_eq_false, ↓reduceIte, ne_eq, tail]
end AGC7
