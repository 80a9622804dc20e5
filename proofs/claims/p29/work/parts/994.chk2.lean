/-! THE LAW'S SECOND CHECK: every amendment. -/
variable {B : Nat}
theorem ag_ct_lt {p : Nat → Bool} : ∀ (k i b : Nat), i ≤ b → b < i + k → p b = false → ag_ct p k i < k := by
  intro k
  induction k with
  | zero => intro i b h1 h2 _; omega
  | succ k ih =>
    intro i b h1 h2 hb
    show (if p i = true then 1 else 0) + ag_ct p k (i + 1) < k + 1
    by_cases c : b = i
    · rw [c] at hb
      rw [hb, if_neg (by decide)]
      have := ag_ct_le p k (i + 1)
      omega
    · have := ih (i + 1) b (by omega) (by omega) hb
      split <;> omega
section AGC2
variable {σ : ag_S} {dr qu mi : Int} {gh gq : Nat → Nat → Int} {m np nq k : Nat} {S : ag_T} {a0 a1 a2 a4 a5 a6 a7 a8 a11 a12 a13 a14 a15 a16 a17 a18 a19 a20 a21 : Option ag_V}
theorem ag_moo_lt (hV : ag_IV S m) {b : Nat} (hb : b < m) : ag_moo S m b < m ∧ -1000 ≤ ag_moo S m b ∧ (S.2.2.2 3 b ≠ 0 → ag_dbl S m b = 0 ∧ ag_moo S m b = 0) := by
  have hm : m ≤ 20 := hV.2.1.1.2.2
  have hno : S.2.2.2 3 b ≠ 0 → ag_dbl S m b = 0 := fun h => by
    unfold ag_dbl
    rw [ag_if_f]
    intro z
    have := z.2.2
    rw [ag_rd_nat (by decide) (by omega)] at this
    exact h this
  unfold ag_moo
  by_cases c : ag_dbl S m b = 0
  · rw [ag_if_t c]
    exact ⟨by omega, by omega, fun h => ⟨c, rfl⟩⟩
  · rw [ag_if_f c]
    obtain ⟨q1, q2⟩ := ag_dbl_yes hV hb c
    refine ⟨?_, ?_, fun h => absurd (hno h) c⟩
    · unfold ag_vm9
      have f2 : ag_set (ag_pfm S.1 S.2.1 S.2.2.1 S.2.2.2 b).2.2.2 b 1 (-1) m 3 b = 1 := ag_set_b (by omega) (by decide)
      have one : (ag_psd S.1 S.2.1 S.2.2.1 S.2.2.2 m b).2.2.2 3 b = 1 := by
        have w : ∀ (k i : Nat) (gp : Nat → Nat → Int), i + k = m → gp 3 b = 1 → ag_spl (ag_pfm S.1 S.2.1 S.2.2.1 S.2.2.2 b).1 b m k i gp 3 b = 1 := by
          intro k
          induction k with
          | zero => intro i gp _ h; exact h
          | succ k ih =>
            intro i gp hi h
            rw [ag_spl]
            refine ih (i + 1) _ (by omega) ?_
            by_cases z : ag_fat (ag_pfm S.1 S.2.1 S.2.2.1 S.2.2.2 b).1 gp b i = 0
            · rw [if_pos z]
              exact h
            · rw [if_neg z]
              have hl : gp 3 i = 0 := by
                by_cases z2 : gp 3 i = 0
                · exact z2
                · refine absurd ?_ z
                  unfold ag_fat
                  rw [ag_rd_nat (by decide) (show i < 20 by omega), if_pos z2]
              exact ag_set_one (by omega) hl b h
        exact w m 0 _ (Nat.zero_add _) f2
      have := ag_ct_lt (p := fun i => decide ((ag_psd S.1 S.2.1 S.2.2.1 S.2.2.2 m b).2.2.2 3 i = 3)) m 0 b (Nat.zero_le _) (by omega) (decide_eq_false (by rw [one]; decide))
      have e : ag_cnt (ag_psd S.1 S.2.1 S.2.2.1 S.2.2.2 m b).2.2.2 m 3 = ag_ct (fun i => decide ((ag_psd S.1 S.2.1 S.2.2.1 S.2.2.2 m b).2.2.2 3 i = 3)) m 0 := rfl
      rw [← e] at this
      omega
    · unfold ag_vm9
      have e : ag_cnt S.2.2.2 m 3 ≤ m := ag_ct_le _ m 0
      omega
/-- by whom it is moot -/
theorem ag_c2_by (hM : ag_M B σ dr qu mi S m gh np gq nq) (hU : ag_U S m gh np qu mi gq nq k) {a : Nat} (ha : a < m) (K : ag_Rs → ag_S → Prop) :
    ag_wp 136 194 [a0, a1, a2, some (ag_R (B + 1)), a4, a5, a6, a7, a8, some (ag_I (m : Int)), some (ag_I (a : Int)), a11, a12, a13, a14, a15, a16, a17, a18, a19, a20, a21] [] σ K =
    ag_wp 136 267 [a0, a1, a2, some (ag_R (B + 1)), a4, a5, a6, a7, a8, some (ag_I (m : Int)), some (ag_I (a : Int)), some (ag_I (S.2.2.2 3 a)), some (ag_I (S.2.2.2 4 a)), some (ag_I (S.2.2.2 5 a)), a14, a15, a16, a17, a18, a19, a20, a21] [] σ K := by
  have hV := hU.1
  have hm : m ≤ 20 := hV.2.1.1.2.2
  have hsp : ag_sm S.2.2.2 := hV.2.1.1.2.1
  have enm := fun k i => ag_nm_s hsp k i
  have hE := hU.2.2.2.2.2.2.2.2.1 a ha
  have ck := ag_m_ck hM
  have A3 := fun K => ag_m_ofA hM hU ha (j := 3) (by decide) (x := (a : Int)) (y := 3) rfl rfl K
  have A4 := fun K => ag_m_ofA hM hU ha (j := 4) (by decide) (x := (a : Int)) (y := 4) rfl rfl K
  have A5 := fun K => ag_m_ofA hM hU ha (j := 5) (by decide) (x := (a : Int)) (y := 5) rfl rfl K
  obtain ⟨e1, e2, e3⟩ := hE
  have an : ag_nm (a : Int) = a := ag_nm_nat (by omega)
  simp only [ag_i136_194, ag_i136_195, ag_i136_197, ag_i136_198, ck, A3, ag_kk_v, ag_kk_n, Nat.reduceAdd, ag_i136_201_n, ag_i136_201_i, ag_i136_201_r, ag_i136_203, ag_i136_204, ag_i136_206, ag_i136_207, ck, A4, ag_kk_v, ag_kk_n, Nat.reduceAdd, ag_i136_210_n, ag_i136_210_i, ag_i136_210_r, ag_i136_212, ag_i136_213, ag_i136_215, ag_i136_216, ck, A5, ag_kk_v, ag_kk_n, Nat.reduceAdd, ag_i136_219_n, ag_i136_219_i, ag_i136_219_r, ag_i136_221, ag_i136_223, ag_i136_224, enm, ag_nmk_3]
  by_cases c : S.2.2.2 3 a = 3
  · have c2 := e1.mp c
    obtain ⟨y1, y2⟩ := e3 c2
    rw [if_neg (show ¬ S.2.2.2 3 a ≠ 3 by omega)]
    simp only [ag_i136_227, ag_i136_228, ag_i136_232, ag_i136_234, enm, ag_nm_z]
    rw [if_neg (show ¬ S.2.2.2 4 a < 0 by omega)]
    simp only [ag_i136_237, ag_i136_238, ag_i136_242, ne_eq, not_true_eq_false, ↓reduceIte, ag_i136_245, ag_i136_247, enm, ag_nm_z]
    rw [if_neg (show ¬ S.2.2.2 4 a < 0 by omega)]
    simp only [ag_i136_250, ag_i136_252, ag_i136_254, enm, an]
    by_cases c3 : S.2.2.2 4 a = a
    · rw [if_pos c3]
    · rw [if_neg c3]
      have y3 := y2.resolve_left c3
      obtain ⟨f, hf⟩ : ∃ f : Nat, S.2.2.2 4 a = f := ⟨(S.2.2.2 4 a).toNat, by omega⟩
      rw [hf, Int.toNat_natCast] at y3
      have F3 := fun K => ag_m_ofA hM hU (b := f) (by omega) (j := 3) (by decide) (x := S.2.2.2 4 a) (y := 3) hf rfl K
      simp only [ag_i136_257, ag_i136_258, ag_i136_260, ag_i136_261, ck, F3, ag_kk_v, ag_kk_n, Nat.reduceAdd, ag_i136_264, enm, ag_nm_z]
      rw [if_neg y3]
  · have c2 : ¬ 0 ≤ S.2.2.2 4 a := fun z => c (e1.mpr z)
    rw [if_pos (show S.2.2.2 3 a ≠ 3 from c)]
    simp only [ag_i136_231, ag_i136_232, ag_i136_234, enm, ag_nm_z]
    rw [if_pos (show S.2.2.2 4 a < 0 by omega)]
    simp only [ag_i136_241, ag_i136_242, ne_eq, not_true_eq_false, ↓reduceIte, ag_i136_245, ag_i136_247, enm, ag_nm_z]
    rw [if_pos (show S.2.2.2 4 a < 0 by omega)]
/-- whether it would moot -/
theorem ag_c2_moot (hM : ag_M B σ dr qu mi S m gh np gq nq) (hU : ag_U S m gh np qu mi gq nq k) {a : Nat} (ha : a < m) :
    ∃ σ' : ag_S, ag_M B σ' dr qu mi S m gh np gq nq ∧ ag_af B σ σ' 0 0 ∧ ∀ K : ag_Rs → ag_S → Prop,
      ag_wp 136 267 [a0, a1, a2, some (ag_R (B + 1)), a4, a5, a6, a7, a8, some (ag_I (m : Int)), some (ag_I (a : Int)), some (ag_I (S.2.2.2 3 a)), a12, a13, a14, a15, a16, a17, a18, a19, a20, a21] [] σ K =
      ag_wp 136 303 [a0, a1, a2, some (ag_R (B + 1)), a4, a5, a6, a7, a8, some (ag_I (m : Int)), some (ag_I (a : Int)), some (ag_I (S.2.2.2 3 a)), a12, a13, a14, a15, a16, a17, a18, a19, a20, a21] [] σ' K := by
  have hV := hU.1
  have hm : m ≤ 20 := hV.2.1.1.2.2
  have hsp : ag_sm S.2.2.2 := hV.2.1.1.2.1
  have enm := fun k i => ag_nm_s hsp k i
  obtain ⟨l1, l2, l3⟩ := ag_moo_lt hV ha
  have mn : ag_nm (ag_moo S m a) = ag_moo S m a := ag_nm_of (by omega) (by omega)
  have mm : ag_nm (m : Int) = m := ag_nm_nat (by omega)
  by_cases c : S.2.2.2 3 a = 0
  · obtain ⟨σ1, hM1, f1, d1⟩ := ag_m_moot hM hU ha
    have d1 := d1 (a : Int) rfl
    refine ⟨σ1, hM1, f1, fun K => ?_⟩
    have ck := ag_m_ck hM
    simp only [ag_i136_267, ag_i136_269, enm, ag_nm_z]
    rw [if_pos c]
    simp only [ag_i136_290, ag_i136_291, ag_i136_293, ck, d1, ag_kk_v, ag_kk_n, Nat.reduceAdd, ag_i136_296, ag_i136_298, mn, mm]
    rw [if_pos l1]
  · obtain ⟨q1, q2⟩ := l3 c
    obtain ⟨σ1, hM1, f1, d1⟩ := ag_m_moot hM hU ha
    obtain ⟨σ2, hM2, f2, d2⟩ := ag_m_moot hM1 hU ha
    have d1 := d1 (a : Int) rfl
    have d2 := d2 (a : Int) rfl
    have ck := ag_m_ck hM
    have ck1 := ag_m_ck hM1
    have cb := fun K => ag_m_can hM hU ha (x := (a : Int)) rfl K
    rw [q1] at cb
    rw [q2] at d1 d2 l1
    refine ⟨σ2, hM2, ag_af_le (ag_af_trans f1 f2) (by omega) (by omega), fun K => ?_⟩
    simp only [ag_i136_267, ag_i136_269, enm, ag_nm_z]
    rw [if_neg c]
    simp only [ag_i136_272, ag_i136_273, ag_i136_275, ck, cb, ag_kk_v, ag_kk_n, Nat.reduceAdd, ag_i136_278, ag_nm_z, ne_eq, not_true_eq_false, ↓reduceIte, ag_i136_281, ag_i136_282, ag_i136_284, ck, d1, ag_kk_v, ag_kk_n, Nat.reduceAdd, ag_i136_287, ag_i136_290, ag_i136_291, ag_i136_293, ck1, d2, ag_kk_v, ag_kk_n, Nat.reduceAdd, ag_i136_296, ag_i136_298, mm]
    rw [if_pos l1]
/-- what it made -/
theorem ag_c2_made (hM : ag_M B σ dr qu mi S m gh np gq nq) (hU : ag_U S m gh np qu mi gq nq k) {a : Nat} (ha : a < m) {x : Int} (c : Nat) (K : ag_Rs → ag_S → Prop) :
    ag_wp 136 303 [a0, a1, a2, some (ag_R (B + 1)), a4, a5, a6, some (ag_I x), some (ag_I (c : Int)), some (ag_I (m : Int)), some (ag_I (a : Int)), some (ag_I (S.2.2.2 3 a)), a12, some (ag_I (S.2.2.2 5 a)), a14, a15, a16, a17, a18, a19, a20, a21] [] σ K =
    ag_wp 136 187 [a0, a1, a2, some (ag_R (B + 1)), a4, a5, a6, some (ag_I x), some (ag_I ((c + (if decide (0 ≤ S.2.2.2 5 a) = true then 1 else 0) : Nat) : Int)), some (ag_I (m : Int)), some (ag_I ((a + 1 : Nat) : Int)), some (ag_I (S.2.2.2 3 a)), a12, some (ag_I (S.2.2.2 5 a)), a14, a15, a16, a17, a18, a19, a20, a21] [] σ K := by
  have hV := hU.1
  have hm : m ≤ 20 := hV.2.1.1.2.2
  have hw : S.2.1 ≤ 40 := hV.1.1.2.2.2
  have hsp : ag_sm S.2.2.2 := hV.2.1.1.2.1
  have enm := fun k i => ag_nm_s hsp k i
  have hE := hU.2.2.2.2.2.2.2.2.2.1 a ha
  have ck := ag_m_ck hM
  have an : ag_nm (a : Int) = a := ag_nm_nat (by omega)
  simp only [ag_i136_303, ag_i136_305, enm, ag_nm_z]
  rcases hE with z | ⟨z1, z2, z3, z4, z5⟩
  · rw [if_pos (by omega), if_neg (show ¬ decide (0 ≤ S.2.2.2 5 a) = true by rw [z]; decide)]
    simp only [ag_i136_347_n, ag_i136_347_i, ag_i136_347_r, ag_i136_350]
    rfl
  · obtain ⟨f, hf⟩ : ∃ f : Nat, S.2.2.2 5 a = f := ⟨(S.2.2.2 5 a).toNat, by omega⟩
    rw [hf, Int.toNat_natCast] at z5
    have hfw : f < S.2.1 := by omega
    have C6 : ∀ K : ag_Rs → ag_S → Prop, ag_cl9 60 [ag_R (B + 1), ag_I (S.2.2.2 5 a), ag_I 6] σ K = K (Sum.inl (some (ag_I (a : Int)))) σ := fun K => by
      rw [ag_m_ofC hM hU hfw (j := 6) (by decide) (x := S.2.2.2 5 a) (y := 6) hf rfl K]
      have e9 : ag_foc gq nq S (f : Int) 6 = a := by
        show ag_rd 40 (S.1 3) (f : Int) = a
        rw [ag_rd_nat (by decide) (by omega)]
        exact z5
      rw [e9]
    have A0 := fun K => ag_m_ofA hM hU ha (j := 0) (by decide) (x := (a : Int)) (y := 0) rfl rfl K
    have isin := fun K => ag_L_isIn σ (x := S.2.2.2 0 a) (lo := 3) (hi := 4) (enm 0 a) ag_nmk_3 ag_nmk_4 K
    rw [if_neg (by omega), if_pos (decide_eq_true z1)]
    simp only [ag_i136_308_n, ag_i136_308_i, ag_i136_308_r, ag_i136_311, ag_i136_313, ag_i136_314, z3, ne_eq, not_true_eq_false, ↓reduceIte, ag_i136_317, ag_i136_318, ag_i136_320, ag_i136_322, ck, C6, ag_kk_v, ag_kk_n, Nat.reduceAdd, ag_i136_325, ag_i136_327, ag_i136_330, ag_i136_331, ag_i136_333, ag_i136_334, A0, ag_kk_v, ag_kk_n, Nat.reduceAdd, ag_i136_337, ag_i136_338, ag_i136_339, isin]
    rw [if_pos (show 3 ≤ S.2.2.2 0 a ∧ S.2.2.2 0 a ≤ 4 by omega)]
    simp only [ag_kk_v, ag_kk_n, Nat.reduceAdd, ag_i136_342, ag_nm_1, ag_nm_z, ne_eq, Int.reduceEq, not_false_eq_true, ↓reduceIte, ag_i136_347_n, ag_i136_347_i, ag_i136_347_r, ag_i136_350]
    rfl
theorem ag_c2_loop (hU : ag_U S m gh np qu mi gq nq k) {x : Int} : ∀ (d i : Nat) (σ : ag_S) (c : Nat) (x11 x12 x13 : Option ag_V), i + d = m → ag_M B σ dr qu mi S m gh np gq nq → ∃ (σ' : ag_S) (y11 y12 y13 : Option ag_V), ag_M B σ' dr qu mi S m gh np gq nq ∧ ag_af B σ σ' 0 0 ∧ ∀ K : ag_Rs → ag_S → Prop,
      ag_wp 136 187 [a0, a1, a2, some (ag_R (B + 1)), a4, a5, a6, some (ag_I x), some (ag_I (c : Int)), some (ag_I (m : Int)), some (ag_I (i : Int)), x11, x12, x13, a14, a15, a16, a17, a18, a19, a20, a21] [] σ K =
      ag_wp 136 353 [a0, a1, a2, some (ag_R (B + 1)), a4, a5, a6, some (ag_I x), some (ag_I ((c + ag_ct (fun a => decide (0 ≤ S.2.2.2 5 a)) d i : Nat) : Int)), some (ag_I (m : Int)), some (ag_I (m : Int)), y11, y12, y13, a14, a15, a16, a17, a18, a19, a20, a21] [] σ' K := by
  have hm : m ≤ 20 := hU.1.2.1.1.2.2
  intro d
  induction d with
  | zero =>
    intro i σ c x11 x12 x13 hi hM
    have him : i = m := by omega
    subst him
    refine ⟨σ, x11, x12, x13, hM, ag_af_hf (ag_hf_refl σ), fun K => ?_⟩
    rw [ag_i136_187]
    simp only [ag_i136_189, ag_i136_191]
    rw [if_pos (Int.le_refl _)]
    rfl
  | succ d ih =>
    intro i σ c x11 x12 x13 hi hM
    have him : i < m := by omega
    obtain ⟨σ1, hM1, f1, g1⟩ := ag_c2_moot (a0 := a0) (a1 := a1) (a2 := a2) (a4 := a4) (a5 := a5) (a6 := a6) (a7 := some (ag_I x)) (a8 := some (ag_I (c : Int))) (a12 := some (ag_I (S.2.2.2 4 i))) (a13 := some (ag_I (S.2.2.2 5 i))) (a14 := a14) (a15 := a15) (a16 := a16) (a17 := a17) (a18 := a18) (a19 := a19) (a20 := a20) (a21 := a21) hM hU him
    obtain ⟨σ2, y11, y12, y13, hM2, f2, g2⟩ := ih (i + 1) σ1 (c + (if decide (0 ≤ S.2.2.2 5 i) = true then 1 else 0)) (some (ag_I (S.2.2.2 3 i))) (some (ag_I (S.2.2.2 4 i))) (some (ag_I (S.2.2.2 5 i))) (by omega) hM1
    refine ⟨σ2, y11, y12, y13, hM2, ag_af_le (ag_af_trans f1 f2) (by omega) (by omega), fun K => ?_⟩
    rw [show ag_ct (fun a => decide (0 ≤ S.2.2.2 5 a)) (d + 1) i = (if decide (0 ≤ S.2.2.2 5 i) = true then 1 else 0) + ag_ct (fun a => decide (0 ≤ S.2.2.2 5 a)) d (i + 1) from rfl, ← Nat.add_assoc, ← g2 K, ← ag_c2_made hM1 hU him c K, ← g1 K, ← ag_c2_by hM hU him K, ag_i136_187]
    simp only [ag_i136_189, ag_i136_191, ag_nm_nat (show m ≤ 1000000 by omega), ag_nm_nat (show i ≤ 1000000 by omega)]
    rw [if_neg (show ¬ (m : Int) ≤ i by omega)]
end AGC2
