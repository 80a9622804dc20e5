/-! THE LAW'S FIRST CHECK: who is next. -/
variable {B : Nat}
theorem ag_L_isIn (σ : ag_S) {x lo hi : Int} (hx : ag_nm x = x) (hl : ag_nm lo = lo) (hh : ag_nm hi = hi) (K : ag_Rs → ag_S → Prop) : ag_cl9 134 [ag_I x, ag_I lo, ag_I hi] σ K = K (Sum.inl (some (ag_I (if lo ≤ x ∧ x ≤ hi then 1 else 0)))) σ := by
  simp only [ag_e134, ag_i134_0, ag_i134_1, ag_i134_2, hx, hl]
  by_cases c1 : x < lo
  · rw [if_pos c1, if_neg (by omega)]
    simp only [ag_i134_14, ag_i134_15, ag_b0, ag_b1, true_and, or_true, true_or, Int.reduceEq, ne_eq, not_false_eq_true, not_true_eq_false, ↓reduceIte]
  · rw [if_neg c1]
    simp only [ag_i134_5, ag_i134_6, ag_i134_7, hx, hh]
    by_cases c2 : hi < x
    · rw [if_pos c2, if_neg (by omega)]
      simp only [ag_i134_14, ag_i134_15, ag_b0, ag_b1, true_and, or_true, true_or, Int.reduceEq, ne_eq, not_false_eq_true, not_true_eq_false, ↓reduceIte]
    · rw [if_neg c2, if_pos (by omega)]
      simp only [ag_i134_10, ag_i134_11, ag_i134_15, ag_b0, ag_b1, true_and, or_true, true_or, Int.reduceEq, ne_eq, not_false_eq_true, not_true_eq_false, ↓reduceIte]
/-- a change is next only ahead of one that is laid -/
theorem ag_nxt_5 {gb gp : Nat → Nat → Int} {m b : Nat} (h : ag_nxt gb gp m = b) (h5 : gp 0 b = 5) : ∃ f : Nat, f < m ∧ gp 1 b = f ∧ gp 3 f = 0 := by
  have hf := ag_fol_is gb gp (m := m) m 0 (-1) (Nat.zero_add _) (Or.inl rfl)
  unfold ag_nxt at h
  dsimp only at h
  rcases hf with hf | ⟨a, a1, a2, a3, a4⟩
  · rw [if_pos hf] at h
    omega
  · rw [a2, if_neg (by omega)] at h
    have yes := ag_ff_yes (fun i => decide (gp 3 i = 0 ∧ gp 0 i = 5 ∧ gp 1 i = a)) m 0
    generalize ag_ff (fun i => decide (gp 3 i = 0 ∧ gp 0 i = 5 ∧ gp 1 i = a)) m 0 = c at h yes
    by_cases q : c < m
    · rw [if_pos q] at h
      have e := of_decide_eq_true (yes (by omega))
      have hc : c = b := by omega
      rw [hc] at e
      exact ⟨a, a1, e.2.2, a3⟩
    · rw [if_neg q] at h
      have : a = b := by omega
      rw [this] at a4
      exact absurd h5 a4
section AGC1
variable {σ : ag_S} {dr qu mi : Int} {gh gq : Nat → Nat → Int} {m np nq k : Nat} {S : ag_T} {a0 a1 a2 a4 a5 a6 a7 a8 a9 a10 a11 a12 a13 a14 a15 a16 a17 a18 a19 a20 a21 : Option ag_V}
theorem ag_c_next (hM : ag_M B σ dr qu mi S m gh np gq nq) (hU : ag_U S m gh np qu mi gq nq k) (t : Int) :
    ∃ (σ' : ag_S) (y10 y11 : Option ag_V), ag_M B σ' dr qu mi S m gh np gq nq ∧ ag_af B σ σ' 0 0 ∧ ∀ K : ag_Rs → ag_S → Prop,
      ag_wp 136 73 [a0, a1, a2, some (ag_R (B + 1)), some (ag_I t), a5, a6, a7, a8, a9, a10, a11, a12, a13, a14, a15, a16, a17, a18, a19, a20, a21] [] σ K =
      ag_wp 136 184 [a0, a1, a2, some (ag_R (B + 1)), some (ag_I t), some (ag_L (ag_dg9 S m gh np qu mi gq nq)), none, some (ag_I (ag_nxt S.1 S.2.2.2 m)), some (ag_I 0), some (ag_I (m : Int)), y10, y11, a12, a13, a14, a15, a16, a17, a18, a19, a20, a21] [] σ' K := by
  have hV := hU.1
  have hm : m ≤ 20 := hV.2.1.1.2.2
  have hw : S.2.1 ≤ 40 := hV.1.1.2.2.2
  have hsp : ag_sm S.2.2.2 := hV.2.1.1.2.1
  have enm := fun k i => ag_nm_s hsp k i
  obtain ⟨σ1, hM1, f1, d1⟩ := ag_m_digest hM hU
  have ck0 := ag_m_ck hM
  have ck1 := ag_m_ck hM1
  have nx := fun K => ag_m_next hM1 hU K
  have mn : ∀ K : ag_Rs → ag_S → Prop, ag_cl9 61 [ag_R (B + 1), ag_I 2] σ1 K = K (Sum.inl (some (ag_I (m : Int)))) σ1 := fun K => ag_m_many hM1 hU (j := 2) (by decide) rfl K
  obtain ⟨r1, r2, r3⟩ := ag_nxt_rg (gb := S.1) (gp := S.2.2.2) (m := m) hm
  have st : ∀ K : ag_Rs → ag_S → Prop, ag_wp 136 73 [a0, a1, a2, some (ag_R (B + 1)), some (ag_I t), a5, a6, a7, a8, a9, a10, a11, a12, a13, a14, a15, a16, a17, a18, a19, a20, a21] [] σ K =
      if ag_nxt S.1 S.2.2.2 m < 0 then ag_wp 136 184 [a0, a1, a2, some (ag_R (B + 1)), some (ag_I t), some (ag_L (ag_dg9 S m gh np qu mi gq nq)), none, some (ag_I (ag_nxt S.1 S.2.2.2 m)), some (ag_I 0), some (ag_I (m : Int)), a10, a11, a12, a13, a14, a15, a16, a17, a18, a19, a20, a21] [] σ1 K
      else ag_wp 136 100 [a0, a1, a2, some (ag_R (B + 1)), some (ag_I t), some (ag_L (ag_dg9 S m gh np qu mi gq nq)), none, some (ag_I (ag_nxt S.1 S.2.2.2 m)), some (ag_I 0), some (ag_I (m : Int)), a10, a11, a12, a13, a14, a15, a16, a17, a18, a19, a20, a21] [] σ1 K := fun K => by
    simp only [ag_i136_73, ag_i136_74, ck0, d1, ag_kk_v, ag_kk_n, Nat.reduceAdd, ag_i136_77_n, ag_i136_77_i, ag_i136_77_r, ag_i136_79, ag_i136_80, ck1, nx, ag_kk_v, ag_kk_n, Nat.reduceAdd, ag_i136_83_n, ag_i136_83_i, ag_i136_83_r, ag_i136_85, ag_i136_86_n, ag_i136_86_i, ag_i136_86_r, ag_i136_88, ag_i136_89, ag_i136_90, mn, ag_kk_v, ag_kk_n, Nat.reduceAdd, ag_i136_93_n, ag_i136_93_i, ag_i136_93_r, ag_i136_95, ag_i136_97, r1, ag_nm_z]
  by_cases c : ag_nxt S.1 S.2.2.2 m = -1
  · refine ⟨σ1, a10, a11, hM1, f1, fun K => ?_⟩
    rw [st K, if_pos (by omega)]
  · obtain ⟨b, hb, hn, hl⟩ := ag_nxt_is c
    have bn : ag_nm (b : Int) = b := ag_nm_nat (by omega)
    have A : ∀ {j : Nat}, j ≤ 5 → ∀ {y : Int}, y = j → ∀ K : ag_Rs → ag_S → Prop, ag_cl9 65 [ag_R (B + 1), ag_I (b : Int), ag_I y] σ1 K = K (Sum.inl (some (ag_I (S.2.2.2 j b)))) σ1 := fun hj _ hy K => ag_m_ofA hM1 hU hb hj rfl hy K
    have A0 := fun K => A (j := 0) (by decide) (y := 0) rfl K
    have A1 := fun K => A (j := 1) (by decide) (y := 1) rfl K
    have A3 := fun K => A (j := 3) (by decide) (y := 3) rfl K
    have t5 := (hV.2.1.2.2 b hb).2.1
    have t4 := (hV.2.1.2.2 b hb).2.2.1
    have ih := (hV.2.2 b hb hl).1
    by_cases c5 : S.2.2.2 0 b = 5
    · obtain ⟨f, hf, e1, e3⟩ := ag_nxt_5 hn c5
      obtain ⟨-, -, u1, u2⟩ := t5 c5
      rw [e1, Int.toNat_natCast] at u1 u2
      have F3 : ∀ K : ag_Rs → ag_S → Prop, ag_cl9 65 [ag_R (B + 1), ag_I (f : Int), ag_I 3] σ1 K = K (Sum.inl (some (ag_I 0))) σ1 := fun K => by rw [ag_m_ofA hM1 hU hf (j := 3) (by decide) (x := (f : Int)) (y := 3) rfl rfl K, e3]
      have F0 := fun K => ag_m_ofA hM1 hU hf (j := 0) (by decide) (x := (f : Int)) (y := 0) rfl rfl K
      have isin := fun K => ag_L_isIn σ1 (x := S.2.2.2 0 f) (lo := 2) (hi := 4) (enm 0 f) ag_nmk_2 ag_nmk_4 K
      refine ⟨σ1, some (ag_I (f : Int)), some (ag_I 1), hM1, f1, fun K => ?_⟩
      rw [st K, hn, if_neg (by omega)]
      simp only [ag_i136_100, ag_i136_101, ag_i136_103, ag_i136_104, ck1, A1, e1, ag_kk_v, ag_kk_n, Nat.reduceAdd, ag_i136_107_n, ag_i136_107_i, ag_i136_107_r, ag_i136_109, ag_i136_110, ag_i136_112, ag_i136_113, A0, c5, ag_kk_v, ag_kk_n, Nat.reduceAdd, ag_i136_116, ag_i136_117, ag_nmk_5, ne_eq, not_true_eq_false, ↓reduceIte, ag_i136_120, ag_i136_121, ag_i136_125_n, ag_i136_125_i, ag_i136_125_r, ag_i136_127, ag_i136_128, ag_i136_130, ag_i136_131, A3, hl, ag_kk_v, ag_kk_n, Nat.reduceAdd, ag_i136_134, ag_nm_z, ag_i136_137, ag_i136_139, ag_nm_1, Int.reduceEq, not_false_eq_true, ag_i136_152, ag_i136_154, ag_i136_157, ag_i136_158, ag_i136_160, ag_i136_161, F3, ag_kk_v, ag_kk_n, Nat.reduceAdd, ag_i136_164, ag_i136_167, ag_i136_168, ag_i136_170, ag_i136_171, F0, ag_kk_v, ag_kk_n, Nat.reduceAdd, ag_i136_174, ag_i136_175, ag_i136_176, isin]
      rw [if_pos (show 2 ≤ S.2.2.2 0 f ∧ S.2.2.2 0 f ≤ 4 from ⟨u1, u2⟩)]
      simp only [ag_kk_v, ag_kk_n, Nat.reduceAdd, ag_i136_179, ag_nm_1, ag_nm_z, ne_eq, Int.reduceEq, not_false_eq_true, ↓reduceIte]
    · obtain ⟨u1, u2⟩ := t4 c5
      have u3 := ih c5
      obtain ⟨f, e1⟩ : ∃ f : Nat, S.2.2.2 1 b = f := ⟨(S.2.2.2 1 b).toNat, by omega⟩
      rw [e1, Int.toNat_natCast] at u3
      have C4 : ∀ K : ag_Rs → ag_S → Prop, ag_cl9 60 [ag_R (B + 1), ag_I (f : Int), ag_I 4] σ1 K = K (Sum.inl (some (ag_I 0))) σ1 := fun K => by
        rw [ag_m_ofC hM1 hU (c := f) (j := 4) (by omega) (by decide) (x := (f : Int)) (y := 4) rfl rfl K]
        have e9 : ag_foc gq nq S (f : Int) 4 = 0 := by
          show ag_if (ag_hld S (f : Int)) 0 1 = 0
          exact ag_if_t ⟨by rw [ag_nm_nat (by omega)]; omega, by rw [ag_nm_nat (by omega)]; omega, by rw [ag_rd_nat (by decide) (by omega)]; exact u3⟩
        rw [e9]
      refine ⟨σ1, some (ag_I (f : Int)), some (ag_I 0), hM1, f1, fun K => ?_⟩
      rw [st K, hn, if_neg (by omega)]
      simp only [ag_i136_100, ag_i136_101, ag_i136_103, ag_i136_104, ck1, A1, e1, ag_kk_v, ag_kk_n, Nat.reduceAdd, ag_i136_107_n, ag_i136_107_i, ag_i136_107_r, ag_i136_109, ag_i136_110, ag_i136_112, ag_i136_113, A0, ag_kk_v, ag_kk_n, Nat.reduceAdd, ag_i136_116, ag_i136_117, ag_nmk_5, enm]
      rw [if_pos (show S.2.2.2 0 b ≠ 5 from c5)]
      simp only [ag_i136_124, ag_i136_125_n, ag_i136_125_i, ag_i136_125_r, ag_i136_127, ag_i136_128, ag_i136_130, ag_i136_131, ck1, A3, hl, ag_kk_v, ag_kk_n, Nat.reduceAdd, ag_i136_134, ag_nm_z, ne_eq, not_true_eq_false, ↓reduceIte, ag_i136_137, ag_i136_139, ag_i136_142, ag_i136_143, ag_i136_145, ag_i136_146, C4, ag_kk_v, ag_kk_n, Nat.reduceAdd, ag_i136_149, ag_i136_152, ag_i136_154]
end AGC1
