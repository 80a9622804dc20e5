/-! THE LAW: its loop. -/
theorem ag_ia_law {τ : ag_S} {L : Nat} {xs : Nat → Int} (h : τ.1 0 = some (Sum.inl (L, xs))) (hL : L ≤ 2048) {i : Int} (h0 : 0 ≤ i) (h1 : i < L) (K : Int → Prop) : ag_ia τ 0 i K = K (xs i.toNat) := by
  rw [ag_ia_at h, ag_rd_i (by omega) h0 h1]
  refine propext ⟨fun z => z.2, fun z => ⟨?_, z⟩⟩
  unfold ag_inb
  rw [ag_nm_of (by omega) (by omega)]
  exact ⟨h0, h1⟩
theorem ag_la_law {τ : ag_S} {f : Nat → Int} (h : τ.1 63 = some (Sum.inr (Sum.inl (1, f)))) (K : Int → Prop) : ag_la τ 63 0 K = K (f 0) := by
  unfold ag_la
  rw [h]
  dsimp only
  rw [ag_nm_z]
  exact propext ⟨fun z => z.2, fun z => ⟨by decide, z⟩⟩
theorem ag_Wd_45 {L : Nat} {xs : Nat → Int} {k : Nat} {τ : ag_S} (h : ag_Wd L xs k τ) : ∃ fs, τ.1 45 = some (Sum.inr (Sum.inr (Sum.inr (6, fs)))) := by
  obtain ⟨S, m, T, mt, en, gh, gq, np, nq, qu, li, r, th, hX, hM, -⟩ := h
  have h2 : τ = ag_SM τ 45 ag_r0 (ag_mg S.1 r S.2.2.2 (gq 0) (gq 1) gh) (ag_mv th S.2.1 S.2.2.1 m nq np qu li) := hM
  have e := ag_SM_o τ 45 ag_r0 (ag_mg S.1 r S.2.2.2 (gq 0) (gq 1) gh) (ag_mv th S.2.1 S.2.2.1 m nq np qu li)
  rw [← h2] at e
  exact ⟨_, e⟩
theorem ag_Wd_1 {L : Nat} {xs : Nat → Int} {k : Nat} {τ : ag_S} (h : ag_Wd L xs k τ) : τ.1 1 = some (Sum.inr (Sum.inr (Sum.inr (5, [ag_R 2, ag_R 7, ag_R 10, ag_R 27, ag_R 44])))) := by
  obtain ⟨S, m, T, mt, en, gh, gq, np, nq, qu, li, r, th, hX, -⟩ := h
  exact hX.1
theorem ag_Wd_0 {L : Nat} {xs : Nat → Int} {k : Nat} {τ : ag_S} (h : ag_Wd L xs k τ) : τ.1 0 = some (Sum.inl (L, xs)) := by
  obtain ⟨S, m, T, mt, en, gh, gq, np, nq, qu, li, r, th, hX, hM, hA, -⟩ := h
  exact hA.1
theorem ag_room9 : ∀ w, w < 41 → ∀ m, m < 21 → ∀ p, p < 6 → (512 - (w + m + p)) * ag_Cw w m p ≤ 7239165 := by
  unfold ag_Cw
  decide +kernel
theorem ag_Wd_fin {L : Nat} {xs : Nat → Int} {k : Nat} {τ : ag_S} (h : ag_Wd L xs k τ) (hk : k ≤ 512) : ag_fin (Sum.inl (some (ag_I 1))) τ := by
  obtain ⟨S, m, T, mt, en, gh, gq, np, nq, qu, li, r, th, hX, hM, hA, hV, hr, hH, hQ, hT, hsp, h1, h2, h3⟩ := h
  have e := ag_room9 S.2.1 (by have := hV.1.1.2.2.2; omega) m (by have := hV.2.1.1.2.2; omega) np (by have := hH.2.1; omega)
  have e2 : (k - (S.2.1 + m + np)) * ag_Cw S.2.1 m np ≤ (512 - (S.2.1 + m + np)) * ag_Cw S.2.1 m np := Nat.mul_le_mul_right _ (by omega)
  exact ⟨rfl, by omega, by omega⟩
section AGLAW
variable {L : Nat} {xs : Nat → Int} {k : Nat} {τ : ag_S}

/-- the loop's head behind the call k is well -/
def ag_LH (L : Nat) (xs : Nat → Int) (k : Nat) : Prop := ∀ (τ : ag_S) (x5 x6 x7 x8 : Option ag_V), ag_Wd L xs k τ → ag_wp 189 23 [some (ag_R 0), some (ag_R 1), some (ag_R 45), some (ag_R 63), some (ag_I ((4 * k : Nat) : Int)), x5, x6, x7, x8] [] τ ag_fin
theorem ag_k4 (k : Nat) : ((4 * k : Nat) : Int) + 4 = ((4 * (k + 1) : Nat) : Int) := by omega
theorem ag_case_clause (hL : L ≤ 2048) (hx : ∀ i, -2147483648 ≤ xs i ∧ xs i < 2147483648) (hi : 4 * k + 4 ≤ L) (ih : ag_LH L xs (k + 1)) (hW : ag_Wd L xs k τ) (x5 x6 x7 x8 : Option ag_V) : ag_wp 189 156 [some (ag_R 0), some (ag_R 1), some (ag_R 45), some (ag_R 63), some (ag_I ((4 * k : Nat) : Int)), x5, x6, x7, x8] [] τ ag_fin := by
  have h0 := ag_Wd_0 hW
  obtain ⟨fs, h45⟩ := ag_Wd_45 hW
  have hk : k < 512 := by omega
  have hW9 := hW
  obtain ⟨S, m, T, mt, en, gh, gq, np, nq, qu, li, r, th, hW8⟩ := hW9
  obtain ⟨c, b, τ1, τ2, q1, q2, q3, q4, q5, ⟨q6, q7⟩, q8⟩ := ag_go_clause hW8  (ag_nm_of (hx (((4 * k : Nat) : Int) + 1).toNat).1 (hx (((4 * k : Nat) : Int) + 1).toNat).2) (ag_nm_of (hx (((4 * k : Nat) : Int) + 2).toNat).1 (hx (((4 * k : Nat) : Int) + 2).toNat).2)
  have g0 : τ1.1 0 = some (Sum.inl (L, xs)) := q6.trans h0
  have g45 : τ1.1 45 = some (Sum.inr (Sum.inr (Sum.inr (6, fs)))) := q7.trans h45
  obtain ⟨fs2, g46⟩ := ag_Wd_45 q8
  have i1 : ∀ K : Int → Prop, ag_ia τ 0 (((4 * k : Nat) : Int) + 1) K = K (xs (((4 * k : Nat) : Int) + 1).toNat) := fun K => ag_ia_law h0 hL (by omega) (by omega) K
  have i2 : ∀ K : Int → Prop, ag_ia τ 0 (((4 * k : Nat) : Int) + 2) K = K (xs (((4 * k : Nat) : Int) + 2).toNat) := fun K => ag_ia_law h0 hL (by omega) (by omega) K
  have i3 : ∀ K : Int → Prop, ag_ia τ 0 (((4 * k : Nat) : Int) + 3) K = K (xs (((4 * k : Nat) : Int) + 3).toNat) := fun K => ag_ia_law h0 hL (by omega) (by omega) K
  have j1 : ∀ K : Int → Prop, ag_ia τ1 0 (((4 * k : Nat) : Int) + 1) K = K (xs (((4 * k : Nat) : Int) + 1).toNat) := fun K => ag_ia_law g0 hL (by omega) (by omega) K
  have j2 : ∀ K : Int → Prop, ag_ia τ1 0 (((4 * k : Nat) : Int) + 2) K = K (xs (((4 * k : Nat) : Int) + 2).toNat) := fun K => ag_ia_law g0 hL (by omega) (by omega) K
  have j3 : ∀ K : Int → Prop, ag_ia τ1 0 (((4 * k : Nat) : Int) + 3) K = K (xs (((4 * k : Nat) : Int) + 3).toNat) := fun K => ag_ia_law g0 hL (by omega) (by omega) K
  have c45 : ∀ P : Prop, ag_ck τ1 45 6 P = P := ag_cka g45
  have c46 : ∀ P : Prop, ag_ck τ2 45 6 P = P := ag_cka g46
  simp only [List.cons_append, List.nil_append] at q1 q2
  by_cases hc : c = 0
  · obtain ⟨-, f, hf, hf0⟩ := q5 hc
    have hla := fun K => ag_la_law hf K
    rw [hf0] at hla
    simp only [ag_i189_156, ag_i189_157, ag_i189_158, ag_i189_160, ag_i189_161, ag_i189_162, ag_i189_163, ag_i189_164, ag_i189_166, ag_i189_167, ag_i189_168, ag_i189_169, ag_i189_170, ag_i189_173_n, ag_i189_173_i, ag_i189_173_r, ag_i189_175, ag_i189_176, ag_i189_177, ag_i189_179, ag_i189_180, ag_i189_181, ag_i189_182, ag_i189_183, ag_i189_185, ag_i189_186, ag_i189_187, ag_i189_188, ag_i189_191_n, ag_i189_191_i, ag_i189_191_r, ag_i189_193, ag_i189_194, ag_i189_197, ag_i189_199, ag_i189_202, ag_i189_203, ag_i189_204, ag_i189_206, ag_i189_209, ag_i189_210, ag_i189_211, ag_i189_212, ag_i189_214, ag_i189_215, ag_i189_216, ag_i189_219, ag_i189_220, ag_i189_221, ag_i189_1603_n, ag_i189_1603_i, ag_i189_1603_r, ag_i189_1606, i1, i2, i3, j1, j2, j3, c45, c46, q1, q2, q3, ag_kk_v, ag_kk_n, Nat.reduceAdd, ag_b0, ag_b1, true_and, or_true, true_or, Int.reduceEq, ne_eq, not_false_eq_true, not_true_eq_false, ↓reduceIte, ag_nm_z, ag_nm_1, ag_k4, hc, hla, Int.lt_irrefl]
    exact ih _ _ _ _ _ q8
  · have hc2 : ¬ ag_nm c = 0 := by
      rw [ag_nm_of (by omega) (by omega)]
      exact hc
    simp only [ag_i189_156, ag_i189_157, ag_i189_158, ag_i189_160, ag_i189_161, ag_i189_162, ag_i189_163, ag_i189_164, ag_i189_166, ag_i189_167, ag_i189_168, ag_i189_169, ag_i189_170, ag_i189_173_n, ag_i189_173_i, ag_i189_173_r, ag_i189_175, ag_i189_176, ag_i189_177, ag_i189_179, ag_i189_180, ag_i189_181, ag_i189_182, ag_i189_183, ag_i189_185, ag_i189_186, ag_i189_187, ag_i189_188, ag_i189_191_n, ag_i189_191_i, ag_i189_191_r, ag_i189_193, ag_i189_194, ag_i189_197, ag_i189_199, ag_i189_202, ag_i189_203, ag_i189_204, ag_i189_206, ag_i189_209, ag_i189_210, ag_i189_211, ag_i189_212, ag_i189_214, ag_i189_215, ag_i189_216, ag_i189_219, ag_i189_220, ag_i189_221, ag_i189_1603_n, ag_i189_1603_i, ag_i189_1603_r, ag_i189_1606, i1, i2, i3, j1, j2, j3, c45, c46, q1, q2, q3, ag_kk_v, ag_kk_n, Nat.reduceAdd, ag_b0, ag_b1, true_and, or_true, true_or, Int.reduceEq, ne_eq, not_false_eq_true, not_true_eq_false, ↓reduceIte, ag_nm_z, ag_nm_1, ag_k4, hc2]
    exact ih _ _ _ _ _ q8
theorem ag_case_ofClause (hL : L ≤ 2048) (hx : ∀ i, -2147483648 ≤ xs i ∧ xs i < 2147483648) (hi : 4 * k + 4 ≤ L) (ih : ag_LH L xs (k + 1)) (hW : ag_Wd L xs k τ) (x5 x6 x7 x8 : Option ag_V) : ag_wp 189 224 [some (ag_R 0), some (ag_R 1), some (ag_R 45), some (ag_R 63), some (ag_I ((4 * k : Nat) : Int)), x5, x6, x7, x8] [] τ ag_fin := by
  have h0 := ag_Wd_0 hW
  obtain ⟨fs, h45⟩ := ag_Wd_45 hW
  have hk : k < 512 := by omega
  have hW9 := hW
  obtain ⟨S, m, T, mt, en, gh, gq, np, nq, qu, li, r, th, hW8⟩ := hW9
  obtain ⟨c, b, τ1, τ2, q1, q2, q3, q4, q5, ⟨q6, q7⟩, q8⟩ := ag_go_ofClause hW8  (ag_nm_of (hx (((4 * k : Nat) : Int) + 1).toNat).1 (hx (((4 * k : Nat) : Int) + 1).toNat).2) (ag_nm_of (hx (((4 * k : Nat) : Int) + 2).toNat).1 (hx (((4 * k : Nat) : Int) + 2).toNat).2)
  have g0 : τ1.1 0 = some (Sum.inl (L, xs)) := q6.trans h0
  have g45 : τ1.1 45 = some (Sum.inr (Sum.inr (Sum.inr (6, fs)))) := q7.trans h45
  obtain ⟨fs2, g46⟩ := ag_Wd_45 q8
  have i1 : ∀ K : Int → Prop, ag_ia τ 0 (((4 * k : Nat) : Int) + 1) K = K (xs (((4 * k : Nat) : Int) + 1).toNat) := fun K => ag_ia_law h0 hL (by omega) (by omega) K
  have i2 : ∀ K : Int → Prop, ag_ia τ 0 (((4 * k : Nat) : Int) + 2) K = K (xs (((4 * k : Nat) : Int) + 2).toNat) := fun K => ag_ia_law h0 hL (by omega) (by omega) K
  have i3 : ∀ K : Int → Prop, ag_ia τ 0 (((4 * k : Nat) : Int) + 3) K = K (xs (((4 * k : Nat) : Int) + 3).toNat) := fun K => ag_ia_law h0 hL (by omega) (by omega) K
  have j1 : ∀ K : Int → Prop, ag_ia τ1 0 (((4 * k : Nat) : Int) + 1) K = K (xs (((4 * k : Nat) : Int) + 1).toNat) := fun K => ag_ia_law g0 hL (by omega) (by omega) K
  have j2 : ∀ K : Int → Prop, ag_ia τ1 0 (((4 * k : Nat) : Int) + 2) K = K (xs (((4 * k : Nat) : Int) + 2).toNat) := fun K => ag_ia_law g0 hL (by omega) (by omega) K
  have j3 : ∀ K : Int → Prop, ag_ia τ1 0 (((4 * k : Nat) : Int) + 3) K = K (xs (((4 * k : Nat) : Int) + 3).toNat) := fun K => ag_ia_law g0 hL (by omega) (by omega) K
  have c45 : ∀ P : Prop, ag_ck τ1 45 6 P = P := ag_cka g45
  have c46 : ∀ P : Prop, ag_ck τ2 45 6 P = P := ag_cka g46
  simp only [List.cons_append, List.nil_append] at q1 q2
  by_cases hc : c = 0
  · obtain ⟨-, f, hf, hf0⟩ := q5 hc
    have hla := fun K => ag_la_law hf K
    rw [hf0] at hla
    simp only [ag_i189_224, ag_i189_225, ag_i189_226, ag_i189_228, ag_i189_229, ag_i189_230, ag_i189_231, ag_i189_232, ag_i189_234, ag_i189_235, ag_i189_236, ag_i189_237, ag_i189_238, ag_i189_241_n, ag_i189_241_i, ag_i189_241_r, ag_i189_243, ag_i189_244, ag_i189_245, ag_i189_247, ag_i189_248, ag_i189_249, ag_i189_250, ag_i189_251, ag_i189_253, ag_i189_254, ag_i189_255, ag_i189_256, ag_i189_259_n, ag_i189_259_i, ag_i189_259_r, ag_i189_261, ag_i189_262, ag_i189_265, ag_i189_267, ag_i189_270, ag_i189_271, ag_i189_272, ag_i189_274, ag_i189_277, ag_i189_278, ag_i189_279, ag_i189_280, ag_i189_282, ag_i189_283, ag_i189_284, ag_i189_287, ag_i189_288, ag_i189_289, ag_i189_1603_n, ag_i189_1603_i, ag_i189_1603_r, ag_i189_1606, i1, i2, i3, j1, j2, j3, c45, c46, q1, q2, q3, ag_kk_v, ag_kk_n, Nat.reduceAdd, ag_b0, ag_b1, true_and, or_true, true_or, Int.reduceEq, ne_eq, not_false_eq_true, not_true_eq_false, ↓reduceIte, ag_nm_z, ag_nm_1, ag_k4, hc, hla, Int.lt_irrefl]
    exact ih _ _ _ _ _ q8
  · have hc2 : ¬ ag_nm c = 0 := by
      rw [ag_nm_of (by omega) (by omega)]
      exact hc
    simp only [ag_i189_224, ag_i189_225, ag_i189_226, ag_i189_228, ag_i189_229, ag_i189_230, ag_i189_231, ag_i189_232, ag_i189_234, ag_i189_235, ag_i189_236, ag_i189_237, ag_i189_238, ag_i189_241_n, ag_i189_241_i, ag_i189_241_r, ag_i189_243, ag_i189_244, ag_i189_245, ag_i189_247, ag_i189_248, ag_i189_249, ag_i189_250, ag_i189_251, ag_i189_253, ag_i189_254, ag_i189_255, ag_i189_256, ag_i189_259_n, ag_i189_259_i, ag_i189_259_r, ag_i189_261, ag_i189_262, ag_i189_265, ag_i189_267, ag_i189_270, ag_i189_271, ag_i189_272, ag_i189_274, ag_i189_277, ag_i189_278, ag_i189_279, ag_i189_280, ag_i189_282, ag_i189_283, ag_i189_284, ag_i189_287, ag_i189_288, ag_i189_289, ag_i189_1603_n, ag_i189_1603_i, ag_i189_1603_r, ag_i189_1606, i1, i2, i3, j1, j2, j3, c45, c46, q1, q2, q3, ag_kk_v, ag_kk_n, Nat.reduceAdd, ag_b0, ag_b1, true_and, or_true, true_or, Int.reduceEq, ne_eq, not_false_eq_true, not_true_eq_false, ↓reduceIte, ag_nm_z, ag_nm_1, ag_k4, hc2]
    exact ih _ _ _ _ _ q8
theorem ag_case_read (hL : L ≤ 2048) (hx : ∀ i, -2147483648 ≤ xs i ∧ xs i < 2147483648) (hi : 4 * k + 4 ≤ L) (ih : ag_LH L xs (k + 1)) (hW : ag_Wd L xs k τ) (x5 x6 x7 x8 : Option ag_V) : ag_wp 189 292 [some (ag_R 0), some (ag_R 1), some (ag_R 45), some (ag_R 63), some (ag_I ((4 * k : Nat) : Int)), x5, x6, x7, x8] [] τ ag_fin := by
  have h0 := ag_Wd_0 hW
  obtain ⟨fs, h45⟩ := ag_Wd_45 hW
  have hk : k < 512 := by omega
  have hW9 := hW
  obtain ⟨S, m, T, mt, en, gh, gq, np, nq, qu, li, r, th, hW8⟩ := hW9
  obtain ⟨c, b, τ1, τ2, q1, q2, q3, q4, q5, ⟨q6, q7⟩, q8⟩ := ag_go_read hW8  (ag_nm_of (hx (((4 * k : Nat) : Int) + 1).toNat).1 (hx (((4 * k : Nat) : Int) + 1).toNat).2)
  have g0 : τ1.1 0 = some (Sum.inl (L, xs)) := q6.trans h0
  have g45 : τ1.1 45 = some (Sum.inr (Sum.inr (Sum.inr (6, fs)))) := q7.trans h45
  obtain ⟨fs2, g46⟩ := ag_Wd_45 q8
  have i1 : ∀ K : Int → Prop, ag_ia τ 0 (((4 * k : Nat) : Int) + 1) K = K (xs (((4 * k : Nat) : Int) + 1).toNat) := fun K => ag_ia_law h0 hL (by omega) (by omega) K
  have i2 : ∀ K : Int → Prop, ag_ia τ 0 (((4 * k : Nat) : Int) + 2) K = K (xs (((4 * k : Nat) : Int) + 2).toNat) := fun K => ag_ia_law h0 hL (by omega) (by omega) K
  have i3 : ∀ K : Int → Prop, ag_ia τ 0 (((4 * k : Nat) : Int) + 3) K = K (xs (((4 * k : Nat) : Int) + 3).toNat) := fun K => ag_ia_law h0 hL (by omega) (by omega) K
  have j1 : ∀ K : Int → Prop, ag_ia τ1 0 (((4 * k : Nat) : Int) + 1) K = K (xs (((4 * k : Nat) : Int) + 1).toNat) := fun K => ag_ia_law g0 hL (by omega) (by omega) K
  have j2 : ∀ K : Int → Prop, ag_ia τ1 0 (((4 * k : Nat) : Int) + 2) K = K (xs (((4 * k : Nat) : Int) + 2).toNat) := fun K => ag_ia_law g0 hL (by omega) (by omega) K
  have j3 : ∀ K : Int → Prop, ag_ia τ1 0 (((4 * k : Nat) : Int) + 3) K = K (xs (((4 * k : Nat) : Int) + 3).toNat) := fun K => ag_ia_law g0 hL (by omega) (by omega) K
  have c45 : ∀ P : Prop, ag_ck τ1 45 6 P = P := ag_cka g45
  have c46 : ∀ P : Prop, ag_ck τ2 45 6 P = P := ag_cka g46
  simp only [List.cons_append, List.nil_append] at q1 q2
  by_cases hc : c = 0
  · obtain ⟨-, f, hf, hf0⟩ := q5 hc
    have hla := fun K => ag_la_law hf K
    rw [hf0] at hla
    simp only [ag_i189_292, ag_i189_293, ag_i189_294, ag_i189_296, ag_i189_297, ag_i189_298, ag_i189_299, ag_i189_300, ag_i189_303_n, ag_i189_303_i, ag_i189_303_r, ag_i189_305, ag_i189_306, ag_i189_307, ag_i189_309, ag_i189_310, ag_i189_311, ag_i189_312, ag_i189_315_n, ag_i189_315_i, ag_i189_315_r, ag_i189_317, ag_i189_318, ag_i189_321, ag_i189_323, ag_i189_326, ag_i189_327, ag_i189_328, ag_i189_330, ag_i189_333, ag_i189_334, ag_i189_335, ag_i189_336, ag_i189_338, ag_i189_339, ag_i189_340, ag_i189_343, ag_i189_344, ag_i189_345, ag_i189_1603_n, ag_i189_1603_i, ag_i189_1603_r, ag_i189_1606, i1, i2, i3, j1, j2, j3, c45, c46, q1, q2, q3, ag_kk_v, ag_kk_n, Nat.reduceAdd, ag_b0, ag_b1, true_and, or_true, true_or, Int.reduceEq, ne_eq, not_false_eq_true, not_true_eq_false, ↓reduceIte, ag_nm_z, ag_nm_1, ag_k4, hc, hla, Int.lt_irrefl]
    exact ih _ _ _ _ _ q8
  · have hc2 : ¬ ag_nm c = 0 := by
      rw [ag_nm_of (by omega) (by omega)]
      exact hc
    simp only [ag_i189_292, ag_i189_293, ag_i189_294, ag_i189_296, ag_i189_297, ag_i189_298, ag_i189_299, ag_i189_300, ag_i189_303_n, ag_i189_303_i, ag_i189_303_r, ag_i189_305, ag_i189_306, ag_i189_307, ag_i189_309, ag_i189_310, ag_i189_311, ag_i189_312, ag_i189_315_n, ag_i189_315_i, ag_i189_315_r, ag_i189_317, ag_i189_318, ag_i189_321, ag_i189_323, ag_i189_326, ag_i189_327, ag_i189_328, ag_i189_330, ag_i189_333, ag_i189_334, ag_i189_335, ag_i189_336, ag_i189_338, ag_i189_339, ag_i189_340, ag_i189_343, ag_i189_344, ag_i189_345, ag_i189_1603_n, ag_i189_1603_i, ag_i189_1603_r, ag_i189_1606, i1, i2, i3, j1, j2, j3, c45, c46, q1, q2, q3, ag_kk_v, ag_kk_n, Nat.reduceAdd, ag_b0, ag_b1, true_and, or_true, true_or, Int.reduceEq, ne_eq, not_false_eq_true, not_true_eq_false, ↓reduceIte, ag_nm_z, ag_nm_1, ag_k4, hc2]
    exact ih _ _ _ _ _ q8
theorem ag_case_many (hL : L ≤ 2048) (hx : ∀ i, -2147483648 ≤ xs i ∧ xs i < 2147483648) (hi : 4 * k + 4 ≤ L) (ih : ag_LH L xs (k + 1)) (hW : ag_Wd L xs k τ) (x5 x6 x7 x8 : Option ag_V) : ag_wp 189 348 [some (ag_R 0), some (ag_R 1), some (ag_R 45), some (ag_R 63), some (ag_I ((4 * k : Nat) : Int)), x5, x6, x7, x8] [] τ ag_fin := by
  have h0 := ag_Wd_0 hW
  obtain ⟨fs, h45⟩ := ag_Wd_45 hW
  have hk : k < 512 := by omega
  have hW9 := hW
  obtain ⟨S, m, T, mt, en, gh, gq, np, nq, qu, li, r, th, hW8⟩ := hW9
  obtain ⟨c, b, τ1, τ2, q1, q2, q3, q4, q5, ⟨q6, q7⟩, q8⟩ := ag_go_many hW8  (ag_nm_of (hx (((4 * k : Nat) : Int) + 1).toNat).1 (hx (((4 * k : Nat) : Int) + 1).toNat).2)
  have g0 : τ1.1 0 = some (Sum.inl (L, xs)) := q6.trans h0
  have g45 : τ1.1 45 = some (Sum.inr (Sum.inr (Sum.inr (6, fs)))) := q7.trans h45
  obtain ⟨fs2, g46⟩ := ag_Wd_45 q8
  have i1 : ∀ K : Int → Prop, ag_ia τ 0 (((4 * k : Nat) : Int) + 1) K = K (xs (((4 * k : Nat) : Int) + 1).toNat) := fun K => ag_ia_law h0 hL (by omega) (by omega) K
  have i2 : ∀ K : Int → Prop, ag_ia τ 0 (((4 * k : Nat) : Int) + 2) K = K (xs (((4 * k : Nat) : Int) + 2).toNat) := fun K => ag_ia_law h0 hL (by omega) (by omega) K
  have i3 : ∀ K : Int → Prop, ag_ia τ 0 (((4 * k : Nat) : Int) + 3) K = K (xs (((4 * k : Nat) : Int) + 3).toNat) := fun K => ag_ia_law h0 hL (by omega) (by omega) K
  have j1 : ∀ K : Int → Prop, ag_ia τ1 0 (((4 * k : Nat) : Int) + 1) K = K (xs (((4 * k : Nat) : Int) + 1).toNat) := fun K => ag_ia_law g0 hL (by omega) (by omega) K
  have j2 : ∀ K : Int → Prop, ag_ia τ1 0 (((4 * k : Nat) : Int) + 2) K = K (xs (((4 * k : Nat) : Int) + 2).toNat) := fun K => ag_ia_law g0 hL (by omega) (by omega) K
  have j3 : ∀ K : Int → Prop, ag_ia τ1 0 (((4 * k : Nat) : Int) + 3) K = K (xs (((4 * k : Nat) : Int) + 3).toNat) := fun K => ag_ia_law g0 hL (by omega) (by omega) K
  have c45 : ∀ P : Prop, ag_ck τ1 45 6 P = P := ag_cka g45
  have c46 : ∀ P : Prop, ag_ck τ2 45 6 P = P := ag_cka g46
  simp only [List.cons_append, List.nil_append] at q1 q2
  by_cases hc : c = 0
  · obtain ⟨-, f, hf, hf0⟩ := q5 hc
    have hla := fun K => ag_la_law hf K
    rw [hf0] at hla
    simp only [ag_i189_348, ag_i189_349, ag_i189_350, ag_i189_352, ag_i189_353, ag_i189_354, ag_i189_355, ag_i189_356, ag_i189_359_n, ag_i189_359_i, ag_i189_359_r, ag_i189_361, ag_i189_362, ag_i189_363, ag_i189_365, ag_i189_366, ag_i189_367, ag_i189_368, ag_i189_371_n, ag_i189_371_i, ag_i189_371_r, ag_i189_373, ag_i189_374, ag_i189_377, ag_i189_379, ag_i189_382, ag_i189_383, ag_i189_384, ag_i189_386, ag_i189_389, ag_i189_390, ag_i189_391, ag_i189_392, ag_i189_394, ag_i189_395, ag_i189_396, ag_i189_399, ag_i189_400, ag_i189_401, ag_i189_1603_n, ag_i189_1603_i, ag_i189_1603_r, ag_i189_1606, i1, i2, i3, j1, j2, j3, c45, c46, q1, q2, q3, ag_kk_v, ag_kk_n, Nat.reduceAdd, ag_b0, ag_b1, true_and, or_true, true_or, Int.reduceEq, ne_eq, not_false_eq_true, not_true_eq_false, ↓reduceIte, ag_nm_z, ag_nm_1, ag_k4, hc, hla, Int.lt_irrefl]
    exact ih _ _ _ _ _ q8
  · have hc2 : ¬ ag_nm c = 0 := by
      rw [ag_nm_of (by omega) (by omega)]
      exact hc
    simp only [ag_i189_348, ag_i189_349, ag_i189_350, ag_i189_352, ag_i189_353, ag_i189_354, ag_i189_355, ag_i189_356, ag_i189_359_n, ag_i189_359_i, ag_i189_359_r, ag_i189_361, ag_i189_362, ag_i189_363, ag_i189_365, ag_i189_366, ag_i189_367, ag_i189_368, ag_i189_371_n, ag_i189_371_i, ag_i189_371_r, ag_i189_373, ag_i189_374, ag_i189_377, ag_i189_379, ag_i189_382, ag_i189_383, ag_i189_384, ag_i189_386, ag_i189_389, ag_i189_390, ag_i189_391, ag_i189_392, ag_i189_394, ag_i189_395, ag_i189_396, ag_i189_399, ag_i189_400, ag_i189_401, ag_i189_1603_n, ag_i189_1603_i, ag_i189_1603_r, ag_i189_1606, i1, i2, i3, j1, j2, j3, c45, c46, q1, q2, q3, ag_kk_v, ag_kk_n, Nat.reduceAdd, ag_b0, ag_b1, true_and, or_true, true_or, Int.reduceEq, ne_eq, not_false_eq_true, not_true_eq_false, ↓reduceIte, ag_nm_z, ag_nm_1, ag_k4, hc2]
    exact ih _ _ _ _ _ q8
theorem ag_case_lay (hL : L ≤ 2048) (hx : ∀ i, -2147483648 ≤ xs i ∧ xs i < 2147483648) (hi : 4 * k + 4 ≤ L) (ih : ag_LH L xs (k + 1)) (hW : ag_Wd L xs k τ) (x5 x6 x7 x8 : Option ag_V) : ag_wp 189 404 [some (ag_R 0), some (ag_R 1), some (ag_R 45), some (ag_R 63), some (ag_I ((4 * k : Nat) : Int)), x5, x6, x7, x8] [] τ ag_fin := by
  have h0 := ag_Wd_0 hW
  obtain ⟨fs, h45⟩ := ag_Wd_45 hW
  have hk : k < 512 := by omega
  have hW9 := hW
  obtain ⟨S, m, T, mt, en, gh, gq, np, nq, qu, li, r, th, hW8⟩ := hW9
  obtain ⟨c, b, τ1, τ2, q1, q2, q3, q4, q5, ⟨q6, q7⟩, q8⟩ := ag_go_lay hW8  (ag_nm_of (hx (((4 * k : Nat) : Int) + 1).toNat).1 (hx (((4 * k : Nat) : Int) + 1).toNat).2) (ag_nm_of (hx (((4 * k : Nat) : Int) + 2).toNat).1 (hx (((4 * k : Nat) : Int) + 2).toNat).2) (ag_nm_of (hx (((4 * k : Nat) : Int) + 3).toNat).1 (hx (((4 * k : Nat) : Int) + 3).toNat).2)
  have g0 : τ1.1 0 = some (Sum.inl (L, xs)) := q6.trans h0
  have g45 : τ1.1 45 = some (Sum.inr (Sum.inr (Sum.inr (6, fs)))) := q7.trans h45
  obtain ⟨fs2, g46⟩ := ag_Wd_45 q8
  have i1 : ∀ K : Int → Prop, ag_ia τ 0 (((4 * k : Nat) : Int) + 1) K = K (xs (((4 * k : Nat) : Int) + 1).toNat) := fun K => ag_ia_law h0 hL (by omega) (by omega) K
  have i2 : ∀ K : Int → Prop, ag_ia τ 0 (((4 * k : Nat) : Int) + 2) K = K (xs (((4 * k : Nat) : Int) + 2).toNat) := fun K => ag_ia_law h0 hL (by omega) (by omega) K
  have i3 : ∀ K : Int → Prop, ag_ia τ 0 (((4 * k : Nat) : Int) + 3) K = K (xs (((4 * k : Nat) : Int) + 3).toNat) := fun K => ag_ia_law h0 hL (by omega) (by omega) K
  have j1 : ∀ K : Int → Prop, ag_ia τ1 0 (((4 * k : Nat) : Int) + 1) K = K (xs (((4 * k : Nat) : Int) + 1).toNat) := fun K => ag_ia_law g0 hL (by omega) (by omega) K
  have j2 : ∀ K : Int → Prop, ag_ia τ1 0 (((4 * k : Nat) : Int) + 2) K = K (xs (((4 * k : Nat) : Int) + 2).toNat) := fun K => ag_ia_law g0 hL (by omega) (by omega) K
  have j3 : ∀ K : Int → Prop, ag_ia τ1 0 (((4 * k : Nat) : Int) + 3) K = K (xs (((4 * k : Nat) : Int) + 3).toNat) := fun K => ag_ia_law g0 hL (by omega) (by omega) K
  have c45 : ∀ P : Prop, ag_ck τ1 45 6 P = P := ag_cka g45
  have c46 : ∀ P : Prop, ag_ck τ2 45 6 P = P := ag_cka g46
  simp only [List.cons_append, List.nil_append] at q1 q2
  by_cases hc : c = 0
  · obtain ⟨-, f, hf, hf0⟩ := q5 hc
    have hla := fun K => ag_la_law hf K
    rw [hf0] at hla
    simp only [ag_i189_404, ag_i189_405, ag_i189_406, ag_i189_408, ag_i189_409, ag_i189_410, ag_i189_411, ag_i189_412, ag_i189_414, ag_i189_415, ag_i189_416, ag_i189_417, ag_i189_418, ag_i189_420, ag_i189_421, ag_i189_422, ag_i189_423, ag_i189_424, ag_i189_427_n, ag_i189_427_i, ag_i189_427_r, ag_i189_429, ag_i189_430, ag_i189_431, ag_i189_433, ag_i189_434, ag_i189_435, ag_i189_436, ag_i189_437, ag_i189_439, ag_i189_440, ag_i189_441, ag_i189_442, ag_i189_443, ag_i189_445, ag_i189_446, ag_i189_447, ag_i189_448, ag_i189_451_n, ag_i189_451_i, ag_i189_451_r, ag_i189_453, ag_i189_454, ag_i189_457, ag_i189_459, ag_i189_462, ag_i189_463, ag_i189_464, ag_i189_466, ag_i189_469, ag_i189_470, ag_i189_471, ag_i189_472, ag_i189_474, ag_i189_475, ag_i189_476, ag_i189_479, ag_i189_480, ag_i189_481, ag_i189_1603_n, ag_i189_1603_i, ag_i189_1603_r, ag_i189_1606, i1, i2, i3, j1, j2, j3, c45, c46, q1, q2, q3, ag_kk_v, ag_kk_n, Nat.reduceAdd, ag_b0, ag_b1, true_and, or_true, true_or, Int.reduceEq, ne_eq, not_false_eq_true, not_true_eq_false, ↓reduceIte, ag_nm_z, ag_nm_1, ag_k4, hc, hla, Int.lt_irrefl]
    exact ih _ _ _ _ _ q8
  · have hc2 : ¬ ag_nm c = 0 := by
      rw [ag_nm_of (by omega) (by omega)]
      exact hc
    simp only [ag_i189_404, ag_i189_405, ag_i189_406, ag_i189_408, ag_i189_409, ag_i189_410, ag_i189_411, ag_i189_412, ag_i189_414, ag_i189_415, ag_i189_416, ag_i189_417, ag_i189_418, ag_i189_420, ag_i189_421, ag_i189_422, ag_i189_423, ag_i189_424, ag_i189_427_n, ag_i189_427_i, ag_i189_427_r, ag_i189_429, ag_i189_430, ag_i189_431, ag_i189_433, ag_i189_434, ag_i189_435, ag_i189_436, ag_i189_437, ag_i189_439, ag_i189_440, ag_i189_441, ag_i189_442, ag_i189_443, ag_i189_445, ag_i189_446, ag_i189_447, ag_i189_448, ag_i189_451_n, ag_i189_451_i, ag_i189_451_r, ag_i189_453, ag_i189_454, ag_i189_457, ag_i189_459, ag_i189_462, ag_i189_463, ag_i189_464, ag_i189_466, ag_i189_469, ag_i189_470, ag_i189_471, ag_i189_472, ag_i189_474, ag_i189_475, ag_i189_476, ag_i189_479, ag_i189_480, ag_i189_481, ag_i189_1603_n, ag_i189_1603_i, ag_i189_1603_r, ag_i189_1606, i1, i2, i3, j1, j2, j3, c45, c46, q1, q2, q3, ag_kk_v, ag_kk_n, Nat.reduceAdd, ag_b0, ag_b1, true_and, or_true, true_or, Int.reduceEq, ne_eq, not_false_eq_true, not_true_eq_false, ↓reduceIte, ag_nm_z, ag_nm_1, ag_k4, hc2]
    exact ih _ _ _ _ _ q8
theorem ag_case_change (hL : L ≤ 2048) (hx : ∀ i, -2147483648 ≤ xs i ∧ xs i < 2147483648) (hi : 4 * k + 4 ≤ L) (ih : ag_LH L xs (k + 1)) (hW : ag_Wd L xs k τ) (x5 x6 x7 x8 : Option ag_V) : ag_wp 189 484 [some (ag_R 0), some (ag_R 1), some (ag_R 45), some (ag_R 63), some (ag_I ((4 * k : Nat) : Int)), x5, x6, x7, x8] [] τ ag_fin := by
  have h0 := ag_Wd_0 hW
  obtain ⟨fs, h45⟩ := ag_Wd_45 hW
  have hk : k < 512 := by omega
  have hW9 := hW
  obtain ⟨S, m, T, mt, en, gh, gq, np, nq, qu, li, r, th, hW8⟩ := hW9
  obtain ⟨c, b, τ1, τ2, q1, q2, q3, q4, q5, ⟨q6, q7⟩, q8⟩ := ag_go_change hW8  (ag_nm_of (hx (((4 * k : Nat) : Int) + 1).toNat).1 (hx (((4 * k : Nat) : Int) + 1).toNat).2) (ag_nm_of (hx (((4 * k : Nat) : Int) + 2).toNat).1 (hx (((4 * k : Nat) : Int) + 2).toNat).2)
  have g0 : τ1.1 0 = some (Sum.inl (L, xs)) := q6.trans h0
  have g45 : τ1.1 45 = some (Sum.inr (Sum.inr (Sum.inr (6, fs)))) := q7.trans h45
  obtain ⟨fs2, g46⟩ := ag_Wd_45 q8
  have i1 : ∀ K : Int → Prop, ag_ia τ 0 (((4 * k : Nat) : Int) + 1) K = K (xs (((4 * k : Nat) : Int) + 1).toNat) := fun K => ag_ia_law h0 hL (by omega) (by omega) K
  have i2 : ∀ K : Int → Prop, ag_ia τ 0 (((4 * k : Nat) : Int) + 2) K = K (xs (((4 * k : Nat) : Int) + 2).toNat) := fun K => ag_ia_law h0 hL (by omega) (by omega) K
  have i3 : ∀ K : Int → Prop, ag_ia τ 0 (((4 * k : Nat) : Int) + 3) K = K (xs (((4 * k : Nat) : Int) + 3).toNat) := fun K => ag_ia_law h0 hL (by omega) (by omega) K
  have j1 : ∀ K : Int → Prop, ag_ia τ1 0 (((4 * k : Nat) : Int) + 1) K = K (xs (((4 * k : Nat) : Int) + 1).toNat) := fun K => ag_ia_law g0 hL (by omega) (by omega) K
  have j2 : ∀ K : Int → Prop, ag_ia τ1 0 (((4 * k : Nat) : Int) + 2) K = K (xs (((4 * k : Nat) : Int) + 2).toNat) := fun K => ag_ia_law g0 hL (by omega) (by omega) K
  have j3 : ∀ K : Int → Prop, ag_ia τ1 0 (((4 * k : Nat) : Int) + 3) K = K (xs (((4 * k : Nat) : Int) + 3).toNat) := fun K => ag_ia_law g0 hL (by omega) (by omega) K
  have c45 : ∀ P : Prop, ag_ck τ1 45 6 P = P := ag_cka g45
  have c46 : ∀ P : Prop, ag_ck τ2 45 6 P = P := ag_cka g46
  simp only [List.cons_append, List.nil_append] at q1 q2
  by_cases hc : c = 0
  · obtain ⟨-, f, hf, hf0⟩ := q5 hc
    have hla := fun K => ag_la_law hf K
    rw [hf0] at hla
    simp only [ag_i189_484, ag_i189_485, ag_i189_486, ag_i189_488, ag_i189_489, ag_i189_490, ag_i189_491, ag_i189_492, ag_i189_494, ag_i189_495, ag_i189_496, ag_i189_497, ag_i189_498, ag_i189_501_n, ag_i189_501_i, ag_i189_501_r, ag_i189_503, ag_i189_504, ag_i189_505, ag_i189_507, ag_i189_508, ag_i189_509, ag_i189_510, ag_i189_511, ag_i189_513, ag_i189_514, ag_i189_515, ag_i189_516, ag_i189_519_n, ag_i189_519_i, ag_i189_519_r, ag_i189_521, ag_i189_522, ag_i189_525, ag_i189_527, ag_i189_530, ag_i189_531, ag_i189_532, ag_i189_534, ag_i189_537, ag_i189_538, ag_i189_539, ag_i189_540, ag_i189_542, ag_i189_543, ag_i189_544, ag_i189_547, ag_i189_548, ag_i189_549, ag_i189_1603_n, ag_i189_1603_i, ag_i189_1603_r, ag_i189_1606, i1, i2, i3, j1, j2, j3, c45, c46, q1, q2, q3, ag_kk_v, ag_kk_n, Nat.reduceAdd, ag_b0, ag_b1, true_and, or_true, true_or, Int.reduceEq, ne_eq, not_false_eq_true, not_true_eq_false, ↓reduceIte, ag_nm_z, ag_nm_1, ag_k4, hc, hla, Int.lt_irrefl]
    exact ih _ _ _ _ _ q8
  · have hc2 : ¬ ag_nm c = 0 := by
      rw [ag_nm_of (by omega) (by omega)]
      exact hc
    simp only [ag_i189_484, ag_i189_485, ag_i189_486, ag_i189_488, ag_i189_489, ag_i189_490, ag_i189_491, ag_i189_492, ag_i189_494, ag_i189_495, ag_i189_496, ag_i189_497, ag_i189_498, ag_i189_501_n, ag_i189_501_i, ag_i189_501_r, ag_i189_503, ag_i189_504, ag_i189_505, ag_i189_507, ag_i189_508, ag_i189_509, ag_i189_510, ag_i189_511, ag_i189_513, ag_i189_514, ag_i189_515, ag_i189_516, ag_i189_519_n, ag_i189_519_i, ag_i189_519_r, ag_i189_521, ag_i189_522, ag_i189_525, ag_i189_527, ag_i189_530, ag_i189_531, ag_i189_532, ag_i189_534, ag_i189_537, ag_i189_538, ag_i189_539, ag_i189_540, ag_i189_542, ag_i189_543, ag_i189_544, ag_i189_547, ag_i189_548, ag_i189_549, ag_i189_1603_n, ag_i189_1603_i, ag_i189_1603_r, ag_i189_1606, i1, i2, i3, j1, j2, j3, c45, c46, q1, q2, q3, ag_kk_v, ag_kk_n, Nat.reduceAdd, ag_b0, ag_b1, true_and, or_true, true_or, Int.reduceEq, ne_eq, not_false_eq_true, not_true_eq_false, ↓reduceIte, ag_nm_z, ag_nm_1, ag_k4, hc2]
    exact ih _ _ _ _ _ q8
theorem ag_case_withdraw (hL : L ≤ 2048) (hx : ∀ i, -2147483648 ≤ xs i ∧ xs i < 2147483648) (hi : 4 * k + 4 ≤ L) (ih : ag_LH L xs (k + 1)) (hW : ag_Wd L xs k τ) (x5 x6 x7 x8 : Option ag_V) : ag_wp 189 552 [some (ag_R 0), some (ag_R 1), some (ag_R 45), some (ag_R 63), some (ag_I ((4 * k : Nat) : Int)), x5, x6, x7, x8] [] τ ag_fin := by
  have h0 := ag_Wd_0 hW
  obtain ⟨fs, h45⟩ := ag_Wd_45 hW
  have hk : k < 512 := by omega
  have hW9 := hW
  obtain ⟨S, m, T, mt, en, gh, gq, np, nq, qu, li, r, th, hW8⟩ := hW9
  obtain ⟨c, b, τ1, τ2, q1, q2, q3, q4, q5, ⟨q6, q7⟩, q8⟩ := ag_go_withdraw hW8  (ag_nm_of (hx (((4 * k : Nat) : Int) + 1).toNat).1 (hx (((4 * k : Nat) : Int) + 1).toNat).2)
  have g0 : τ1.1 0 = some (Sum.inl (L, xs)) := q6.trans h0
  have g45 : τ1.1 45 = some (Sum.inr (Sum.inr (Sum.inr (6, fs)))) := q7.trans h45
  obtain ⟨fs2, g46⟩ := ag_Wd_45 q8
  have i1 : ∀ K : Int → Prop, ag_ia τ 0 (((4 * k : Nat) : Int) + 1) K = K (xs (((4 * k : Nat) : Int) + 1).toNat) := fun K => ag_ia_law h0 hL (by omega) (by omega) K
  have i2 : ∀ K : Int → Prop, ag_ia τ 0 (((4 * k : Nat) : Int) + 2) K = K (xs (((4 * k : Nat) : Int) + 2).toNat) := fun K => ag_ia_law h0 hL (by omega) (by omega) K
  have i3 : ∀ K : Int → Prop, ag_ia τ 0 (((4 * k : Nat) : Int) + 3) K = K (xs (((4 * k : Nat) : Int) + 3).toNat) := fun K => ag_ia_law h0 hL (by omega) (by omega) K
  have j1 : ∀ K : Int → Prop, ag_ia τ1 0 (((4 * k : Nat) : Int) + 1) K = K (xs (((4 * k : Nat) : Int) + 1).toNat) := fun K => ag_ia_law g0 hL (by omega) (by omega) K
  have j2 : ∀ K : Int → Prop, ag_ia τ1 0 (((4 * k : Nat) : Int) + 2) K = K (xs (((4 * k : Nat) : Int) + 2).toNat) := fun K => ag_ia_law g0 hL (by omega) (by omega) K
  have j3 : ∀ K : Int → Prop, ag_ia τ1 0 (((4 * k : Nat) : Int) + 3) K = K (xs (((4 * k : Nat) : Int) + 3).toNat) := fun K => ag_ia_law g0 hL (by omega) (by omega) K
  have c45 : ∀ P : Prop, ag_ck τ1 45 6 P = P := ag_cka g45
  have c46 : ∀ P : Prop, ag_ck τ2 45 6 P = P := ag_cka g46
  simp only [List.cons_append, List.nil_append] at q1 q2
  by_cases hc : c = 0
  · obtain ⟨-, f, hf, hf0⟩ := q5 hc
    have hla := fun K => ag_la_law hf K
    rw [hf0] at hla
    simp only [ag_i189_552, ag_i189_553, ag_i189_554, ag_i189_556, ag_i189_557, ag_i189_558, ag_i189_559, ag_i189_560, ag_i189_563_n, ag_i189_563_i, ag_i189_563_r, ag_i189_565, ag_i189_566, ag_i189_567, ag_i189_569, ag_i189_570, ag_i189_571, ag_i189_572, ag_i189_575_n, ag_i189_575_i, ag_i189_575_r, ag_i189_577, ag_i189_578, ag_i189_581, ag_i189_583, ag_i189_586, ag_i189_587, ag_i189_588, ag_i189_590, ag_i189_593, ag_i189_594, ag_i189_595, ag_i189_596, ag_i189_598, ag_i189_599, ag_i189_600, ag_i189_603, ag_i189_604, ag_i189_605, ag_i189_1603_n, ag_i189_1603_i, ag_i189_1603_r, ag_i189_1606, i1, i2, i3, j1, j2, j3, c45, c46, q1, q2, q3, ag_kk_v, ag_kk_n, Nat.reduceAdd, ag_b0, ag_b1, true_and, or_true, true_or, Int.reduceEq, ne_eq, not_false_eq_true, not_true_eq_false, ↓reduceIte, ag_nm_z, ag_nm_1, ag_k4, hc, hla, Int.lt_irrefl]
    exact ih _ _ _ _ _ q8
  · have hc2 : ¬ ag_nm c = 0 := by
      rw [ag_nm_of (by omega) (by omega)]
      exact hc
    simp only [ag_i189_552, ag_i189_553, ag_i189_554, ag_i189_556, ag_i189_557, ag_i189_558, ag_i189_559, ag_i189_560, ag_i189_563_n, ag_i189_563_i, ag_i189_563_r, ag_i189_565, ag_i189_566, ag_i189_567, ag_i189_569, ag_i189_570, ag_i189_571, ag_i189_572, ag_i189_575_n, ag_i189_575_i, ag_i189_575_r, ag_i189_577, ag_i189_578, ag_i189_581, ag_i189_583, ag_i189_586, ag_i189_587, ag_i189_588, ag_i189_590, ag_i189_593, ag_i189_594, ag_i189_595, ag_i189_596, ag_i189_598, ag_i189_599, ag_i189_600, ag_i189_603, ag_i189_604, ag_i189_605, ag_i189_1603_n, ag_i189_1603_i, ag_i189_1603_r, ag_i189_1606, i1, i2, i3, j1, j2, j3, c45, c46, q1, q2, q3, ag_kk_v, ag_kk_n, Nat.reduceAdd, ag_b0, ag_b1, true_and, or_true, true_or, Int.reduceEq, ne_eq, not_false_eq_true, not_true_eq_false, ↓reduceIte, ag_nm_z, ag_nm_1, ag_k4, hc2]
    exact ih _ _ _ _ _ q8
theorem ag_case_ofAmendment (hL : L ≤ 2048) (hx : ∀ i, -2147483648 ≤ xs i ∧ xs i < 2147483648) (hi : 4 * k + 4 ≤ L) (ih : ag_LH L xs (k + 1)) (hW : ag_Wd L xs k τ) (x5 x6 x7 x8 : Option ag_V) : ag_wp 189 608 [some (ag_R 0), some (ag_R 1), some (ag_R 45), some (ag_R 63), some (ag_I ((4 * k : Nat) : Int)), x5, x6, x7, x8] [] τ ag_fin := by
  have h0 := ag_Wd_0 hW
  obtain ⟨fs, h45⟩ := ag_Wd_45 hW
  have hk : k < 512 := by omega
  have hW9 := hW
  obtain ⟨S, m, T, mt, en, gh, gq, np, nq, qu, li, r, th, hW8⟩ := hW9
  obtain ⟨c, b, τ1, τ2, q1, q2, q3, q4, q5, ⟨q6, q7⟩, q8⟩ := ag_go_ofAmendment hW8  (ag_nm_of (hx (((4 * k : Nat) : Int) + 1).toNat).1 (hx (((4 * k : Nat) : Int) + 1).toNat).2) (ag_nm_of (hx (((4 * k : Nat) : Int) + 2).toNat).1 (hx (((4 * k : Nat) : Int) + 2).toNat).2)
  have g0 : τ1.1 0 = some (Sum.inl (L, xs)) := q6.trans h0
  have g45 : τ1.1 45 = some (Sum.inr (Sum.inr (Sum.inr (6, fs)))) := q7.trans h45
  obtain ⟨fs2, g46⟩ := ag_Wd_45 q8
  have i1 : ∀ K : Int → Prop, ag_ia τ 0 (((4 * k : Nat) : Int) + 1) K = K (xs (((4 * k : Nat) : Int) + 1).toNat) := fun K => ag_ia_law h0 hL (by omega) (by omega) K
  have i2 : ∀ K : Int → Prop, ag_ia τ 0 (((4 * k : Nat) : Int) + 2) K = K (xs (((4 * k : Nat) : Int) + 2).toNat) := fun K => ag_ia_law h0 hL (by omega) (by omega) K
  have i3 : ∀ K : Int → Prop, ag_ia τ 0 (((4 * k : Nat) : Int) + 3) K = K (xs (((4 * k : Nat) : Int) + 3).toNat) := fun K => ag_ia_law h0 hL (by omega) (by omega) K
  have j1 : ∀ K : Int → Prop, ag_ia τ1 0 (((4 * k : Nat) : Int) + 1) K = K (xs (((4 * k : Nat) : Int) + 1).toNat) := fun K => ag_ia_law g0 hL (by omega) (by omega) K
  have j2 : ∀ K : Int → Prop, ag_ia τ1 0 (((4 * k : Nat) : Int) + 2) K = K (xs (((4 * k : Nat) : Int) + 2).toNat) := fun K => ag_ia_law g0 hL (by omega) (by omega) K
  have j3 : ∀ K : Int → Prop, ag_ia τ1 0 (((4 * k : Nat) : Int) + 3) K = K (xs (((4 * k : Nat) : Int) + 3).toNat) := fun K => ag_ia_law g0 hL (by omega) (by omega) K
  have c45 : ∀ P : Prop, ag_ck τ1 45 6 P = P := ag_cka g45
  have c46 : ∀ P : Prop, ag_ck τ2 45 6 P = P := ag_cka g46
  simp only [List.cons_append, List.nil_append] at q1 q2
  by_cases hc : c = 0
  · obtain ⟨-, f, hf, hf0⟩ := q5 hc
    have hla := fun K => ag_la_law hf K
    rw [hf0] at hla
    simp only [ag_i189_608, ag_i189_609, ag_i189_610, ag_i189_612, ag_i189_613, ag_i189_614, ag_i189_615, ag_i189_616, ag_i189_618, ag_i189_619, ag_i189_620, ag_i189_621, ag_i189_622, ag_i189_625_n, ag_i189_625_i, ag_i189_625_r, ag_i189_627, ag_i189_628, ag_i189_629, ag_i189_631, ag_i189_632, ag_i189_633, ag_i189_634, ag_i189_635, ag_i189_637, ag_i189_638, ag_i189_639, ag_i189_640, ag_i189_643_n, ag_i189_643_i, ag_i189_643_r, ag_i189_645, ag_i189_646, ag_i189_649, ag_i189_651, ag_i189_654, ag_i189_655, ag_i189_656, ag_i189_658, ag_i189_661, ag_i189_662, ag_i189_663, ag_i189_664, ag_i189_666, ag_i189_667, ag_i189_668, ag_i189_671, ag_i189_672, ag_i189_673, ag_i189_1603_n, ag_i189_1603_i, ag_i189_1603_r, ag_i189_1606, i1, i2, i3, j1, j2, j3, c45, c46, q1, q2, q3, ag_kk_v, ag_kk_n, Nat.reduceAdd, ag_b0, ag_b1, true_and, or_true, true_or, Int.reduceEq, ne_eq, not_false_eq_true, not_true_eq_false, ↓reduceIte, ag_nm_z, ag_nm_1, ag_k4, hc, hla, Int.lt_irrefl]
    exact ih _ _ _ _ _ q8
  · have hc2 : ¬ ag_nm c = 0 := by
      rw [ag_nm_of (by omega) (by omega)]
      exact hc
    simp only [ag_i189_608, ag_i189_609, ag_i189_610, ag_i189_612, ag_i189_613, ag_i189_614, ag_i189_615, ag_i189_616, ag_i189_618, ag_i189_619, ag_i189_620, ag_i189_621, ag_i189_622, ag_i189_625_n, ag_i189_625_i, ag_i189_625_r, ag_i189_627, ag_i189_628, ag_i189_629, ag_i189_631, ag_i189_632, ag_i189_633, ag_i189_634, ag_i189_635, ag_i189_637, ag_i189_638, ag_i189_639, ag_i189_640, ag_i189_643_n, ag_i189_643_i, ag_i189_643_r, ag_i189_645, ag_i189_646, ag_i189_649, ag_i189_651, ag_i189_654, ag_i189_655, ag_i189_656, ag_i189_658, ag_i189_661, ag_i189_662, ag_i189_663, ag_i189_664, ag_i189_666, ag_i189_667, ag_i189_668, ag_i189_671, ag_i189_672, ag_i189_673, ag_i189_1603_n, ag_i189_1603_i, ag_i189_1603_r, ag_i189_1606, i1, i2, i3, j1, j2, j3, c45, c46, q1, q2, q3, ag_kk_v, ag_kk_n, Nat.reduceAdd, ag_b0, ag_b1, true_and, or_true, true_or, Int.reduceEq, ne_eq, not_false_eq_true, not_true_eq_false, ↓reduceIte, ag_nm_z, ag_nm_1, ag_k4, hc2]
    exact ih _ _ _ _ _ q8
theorem ag_case_next (ih : ag_LH L xs (k + 1)) (hW : ag_Wd L xs k τ) (x5 x6 x7 x8 : Option ag_V) : ag_wp 189 676 [some (ag_R 0), some (ag_R 1), some (ag_R 45), some (ag_R 63), some (ag_I ((4 * k : Nat) : Int)), x5, x6, x7, x8] [] τ ag_fin := by
  have h1 := ag_Wd_1 hW
  obtain ⟨fs, h45⟩ := ag_Wd_45 hW
  have hW9 := hW
  obtain ⟨S, m, T, mt, en, gh, gq, np, nq, qu, li, r, th, hW8⟩ := hW9
  obtain ⟨v, τ1, τ2, q1, q2, ⟨x, rfl⟩, q3, q4⟩ := ag_go_next hW8
  have c1 : ∀ P : Prop, ag_ck τ 1 5 P = P := ag_cka h1
  have c45 : ∀ P : Prop, ag_ck τ1 45 6 P = P := ag_cka (q3.trans h45)
  simp only [ag_i189_676, ag_i189_677, ag_i189_680, ag_i189_681, ag_i189_684, ag_i189_687, ag_i189_688, ag_i189_1603_n, ag_i189_1603_i, ag_i189_1603_r, ag_i189_1606, c1, c45, q1, q2, ag_kk_v, ag_kk_n, Nat.reduceAdd, ag_b0, ag_b1, true_and, or_true, true_or, Int.reduceEq, ne_eq, not_false_eq_true, not_true_eq_false, ↓reduceIte, ag_nm_z, ag_k4, Int.lt_irrefl]
  exact ih _ _ _ _ _ q4
theorem ag_case_canBeDone (hL : L ≤ 2048) (hx : ∀ i, -2147483648 ≤ xs i ∧ xs i < 2147483648) (hi : 4 * k + 4 ≤ L) (ih : ag_LH L xs (k + 1)) (hW : ag_Wd L xs k τ) (x5 x6 x7 x8 : Option ag_V) : ag_wp 189 689 [some (ag_R 0), some (ag_R 1), some (ag_R 45), some (ag_R 63), some (ag_I ((4 * k : Nat) : Int)), x5, x6, x7, x8] [] τ ag_fin := by
  have h0 := ag_Wd_0 hW
  obtain ⟨fs, h45⟩ := ag_Wd_45 hW
  have hk : k < 512 := by omega
  have hW9 := hW
  obtain ⟨S, m, T, mt, en, gh, gq, np, nq, qu, li, r, th, hW8⟩ := hW9
  obtain ⟨c, b, τ1, τ2, q1, q2, q3, q4, q5, ⟨q6, q7⟩, q8⟩ := ag_go_canBeDone hW8  (ag_nm_of (hx (((4 * k : Nat) : Int) + 1).toNat).1 (hx (((4 * k : Nat) : Int) + 1).toNat).2)
  have g0 : τ1.1 0 = some (Sum.inl (L, xs)) := q6.trans h0
  have g45 : τ1.1 45 = some (Sum.inr (Sum.inr (Sum.inr (6, fs)))) := q7.trans h45
  obtain ⟨fs2, g46⟩ := ag_Wd_45 q8
  have i1 : ∀ K : Int → Prop, ag_ia τ 0 (((4 * k : Nat) : Int) + 1) K = K (xs (((4 * k : Nat) : Int) + 1).toNat) := fun K => ag_ia_law h0 hL (by omega) (by omega) K
  have i2 : ∀ K : Int → Prop, ag_ia τ 0 (((4 * k : Nat) : Int) + 2) K = K (xs (((4 * k : Nat) : Int) + 2).toNat) := fun K => ag_ia_law h0 hL (by omega) (by omega) K
  have i3 : ∀ K : Int → Prop, ag_ia τ 0 (((4 * k : Nat) : Int) + 3) K = K (xs (((4 * k : Nat) : Int) + 3).toNat) := fun K => ag_ia_law h0 hL (by omega) (by omega) K
  have j1 : ∀ K : Int → Prop, ag_ia τ1 0 (((4 * k : Nat) : Int) + 1) K = K (xs (((4 * k : Nat) : Int) + 1).toNat) := fun K => ag_ia_law g0 hL (by omega) (by omega) K
  have j2 : ∀ K : Int → Prop, ag_ia τ1 0 (((4 * k : Nat) : Int) + 2) K = K (xs (((4 * k : Nat) : Int) + 2).toNat) := fun K => ag_ia_law g0 hL (by omega) (by omega) K
  have j3 : ∀ K : Int → Prop, ag_ia τ1 0 (((4 * k : Nat) : Int) + 3) K = K (xs (((4 * k : Nat) : Int) + 3).toNat) := fun K => ag_ia_law g0 hL (by omega) (by omega) K
  have c45 : ∀ P : Prop, ag_ck τ1 45 6 P = P := ag_cka g45
  have c46 : ∀ P : Prop, ag_ck τ2 45 6 P = P := ag_cka g46
  simp only [List.cons_append, List.nil_append] at q1 q2
  by_cases hc : c = 0
  · obtain ⟨hb, f, hf, hf0⟩ := q5 hc
    have hla := fun K => ag_la_law hf K
    rw [hf0] at hla
    rcases hb with rfl | rfl
    · simp only [ag_i189_689, ag_i189_690, ag_i189_691, ag_i189_693, ag_i189_694, ag_i189_695, ag_i189_696, ag_i189_697, ag_i189_700_n, ag_i189_700_i, ag_i189_700_r, ag_i189_702, ag_i189_703, ag_i189_704, ag_i189_706, ag_i189_707, ag_i189_708, ag_i189_709, ag_i189_712_n, ag_i189_712_i, ag_i189_712_r, ag_i189_714, ag_i189_715, ag_i189_718, ag_i189_720, ag_i189_723, ag_i189_724, ag_i189_725, ag_i189_727, ag_i189_730, ag_i189_731, ag_i189_732, ag_i189_733, ag_i189_735, ag_i189_738, ag_i189_739, ag_i189_742, ag_i189_743, ag_i189_744, ag_i189_747, ag_i189_748, ag_i189_749, ag_i189_1603_n, ag_i189_1603_i, ag_i189_1603_r, ag_i189_1606, i1, i2, i3, j1, j2, j3, c45, c46, q1, q2, q3, ag_kk_v, ag_kk_n, Nat.reduceAdd, ag_b0, ag_b1, true_and, or_true, true_or, Int.reduceEq, ne_eq, not_false_eq_true, not_true_eq_false, ↓reduceIte, ag_nm_z, ag_nm_1, ag_k4, hc, hla, Int.lt_irrefl]
      exact ih _ _ _ _ _ q8
    · simp only [ag_i189_689, ag_i189_690, ag_i189_691, ag_i189_693, ag_i189_694, ag_i189_695, ag_i189_696, ag_i189_697, ag_i189_700_n, ag_i189_700_i, ag_i189_700_r, ag_i189_702, ag_i189_703, ag_i189_704, ag_i189_706, ag_i189_707, ag_i189_708, ag_i189_709, ag_i189_712_n, ag_i189_712_i, ag_i189_712_r, ag_i189_714, ag_i189_715, ag_i189_718, ag_i189_720, ag_i189_723, ag_i189_724, ag_i189_725, ag_i189_727, ag_i189_730, ag_i189_731, ag_i189_732, ag_i189_733, ag_i189_735, ag_i189_738, ag_i189_739, ag_i189_742, ag_i189_743, ag_i189_744, ag_i189_747, ag_i189_748, ag_i189_749, ag_i189_1603_n, ag_i189_1603_i, ag_i189_1603_r, ag_i189_1606, i1, i2, i3, j1, j2, j3, c45, c46, q1, q2, q3, ag_kk_v, ag_kk_n, Nat.reduceAdd, ag_b0, ag_b1, true_and, or_true, true_or, Int.reduceEq, ne_eq, not_false_eq_true, not_true_eq_false, ↓reduceIte, ag_nm_z, ag_nm_1, ag_k4, hc, hla, Int.lt_irrefl]
      exact ih _ _ _ _ _ q8
  · have hc2 : ¬ ag_nm c = 0 := by
      rw [ag_nm_of (by omega) (by omega)]
      exact hc
    simp only [ag_i189_689, ag_i189_690, ag_i189_691, ag_i189_693, ag_i189_694, ag_i189_695, ag_i189_696, ag_i189_697, ag_i189_700_n, ag_i189_700_i, ag_i189_700_r, ag_i189_702, ag_i189_703, ag_i189_704, ag_i189_706, ag_i189_707, ag_i189_708, ag_i189_709, ag_i189_712_n, ag_i189_712_i, ag_i189_712_r, ag_i189_714, ag_i189_715, ag_i189_718, ag_i189_720, ag_i189_723, ag_i189_724, ag_i189_725, ag_i189_727, ag_i189_730, ag_i189_731, ag_i189_732, ag_i189_733, ag_i189_735, ag_i189_738, ag_i189_739, ag_i189_742, ag_i189_743, ag_i189_744, ag_i189_747, ag_i189_748, ag_i189_749, ag_i189_1603_n, ag_i189_1603_i, ag_i189_1603_r, ag_i189_1606, i1, i2, i3, j1, j2, j3, c45, c46, q1, q2, q3, ag_kk_v, ag_kk_n, Nat.reduceAdd, ag_b0, ag_b1, true_and, or_true, true_or, Int.reduceEq, ne_eq, not_false_eq_true, not_true_eq_false, ↓reduceIte, ag_nm_z, ag_nm_1, ag_k4, hc2]
    exact ih _ _ _ _ _ q8
theorem ag_case_party (hL : L ≤ 2048) (hx : ∀ i, -2147483648 ≤ xs i ∧ xs i < 2147483648) (hi : 4 * k + 4 ≤ L) (ih : ag_LH L xs (k + 1)) (hW : ag_Wd L xs k τ) (x5 x6 x7 x8 : Option ag_V) : ag_wp 189 752 [some (ag_R 0), some (ag_R 1), some (ag_R 45), some (ag_R 63), some (ag_I ((4 * k : Nat) : Int)), x5, x6, x7, x8] [] τ ag_fin := by
  have h0 := ag_Wd_0 hW
  obtain ⟨fs, h45⟩ := ag_Wd_45 hW
  have hk : k < 512 := by omega
  have hW9 := hW
  obtain ⟨S, m, T, mt, en, gh, gq, np, nq, qu, li, r, th, hW8⟩ := hW9
  obtain ⟨c, b, τ1, τ2, q1, q2, q3, q4, q5, ⟨q6, q7⟩, q8⟩ := ag_go_party hW8  (ag_nm_of (hx (((4 * k : Nat) : Int) + 1).toNat).1 (hx (((4 * k : Nat) : Int) + 1).toNat).2)
  have g0 : τ1.1 0 = some (Sum.inl (L, xs)) := q6.trans h0
  have g45 : τ1.1 45 = some (Sum.inr (Sum.inr (Sum.inr (6, fs)))) := q7.trans h45
  obtain ⟨fs2, g46⟩ := ag_Wd_45 q8
  have i1 : ∀ K : Int → Prop, ag_ia τ 0 (((4 * k : Nat) : Int) + 1) K = K (xs (((4 * k : Nat) : Int) + 1).toNat) := fun K => ag_ia_law h0 hL (by omega) (by omega) K
  have i2 : ∀ K : Int → Prop, ag_ia τ 0 (((4 * k : Nat) : Int) + 2) K = K (xs (((4 * k : Nat) : Int) + 2).toNat) := fun K => ag_ia_law h0 hL (by omega) (by omega) K
  have i3 : ∀ K : Int → Prop, ag_ia τ 0 (((4 * k : Nat) : Int) + 3) K = K (xs (((4 * k : Nat) : Int) + 3).toNat) := fun K => ag_ia_law h0 hL (by omega) (by omega) K
  have j1 : ∀ K : Int → Prop, ag_ia τ1 0 (((4 * k : Nat) : Int) + 1) K = K (xs (((4 * k : Nat) : Int) + 1).toNat) := fun K => ag_ia_law g0 hL (by omega) (by omega) K
  have j2 : ∀ K : Int → Prop, ag_ia τ1 0 (((4 * k : Nat) : Int) + 2) K = K (xs (((4 * k : Nat) : Int) + 2).toNat) := fun K => ag_ia_law g0 hL (by omega) (by omega) K
  have j3 : ∀ K : Int → Prop, ag_ia τ1 0 (((4 * k : Nat) : Int) + 3) K = K (xs (((4 * k : Nat) : Int) + 3).toNat) := fun K => ag_ia_law g0 hL (by omega) (by omega) K
  have c45 : ∀ P : Prop, ag_ck τ1 45 6 P = P := ag_cka g45
  have c46 : ∀ P : Prop, ag_ck τ2 45 6 P = P := ag_cka g46
  simp only [List.cons_append, List.nil_append] at q1 q2
  by_cases hc : c = 0
  · obtain ⟨-, f, hf, hf0⟩ := q5 hc
    have hla := fun K => ag_la_law hf K
    rw [hf0] at hla
    simp only [ag_i189_752, ag_i189_753, ag_i189_754, ag_i189_756, ag_i189_757, ag_i189_758, ag_i189_759, ag_i189_760, ag_i189_763_n, ag_i189_763_i, ag_i189_763_r, ag_i189_765, ag_i189_766, ag_i189_767, ag_i189_769, ag_i189_770, ag_i189_771, ag_i189_772, ag_i189_775_n, ag_i189_775_i, ag_i189_775_r, ag_i189_777, ag_i189_778, ag_i189_781, ag_i189_783, ag_i189_786, ag_i189_787, ag_i189_788, ag_i189_790, ag_i189_793, ag_i189_794, ag_i189_795, ag_i189_796, ag_i189_798, ag_i189_799, ag_i189_800, ag_i189_803, ag_i189_804, ag_i189_805, ag_i189_1603_n, ag_i189_1603_i, ag_i189_1603_r, ag_i189_1606, i1, i2, i3, j1, j2, j3, c45, c46, q1, q2, q3, ag_kk_v, ag_kk_n, Nat.reduceAdd, ag_b0, ag_b1, true_and, or_true, true_or, Int.reduceEq, ne_eq, not_false_eq_true, not_true_eq_false, ↓reduceIte, ag_nm_z, ag_nm_1, ag_k4, hc, hla, Int.lt_irrefl]
    exact ih _ _ _ _ _ q8
  · have hc2 : ¬ ag_nm c = 0 := by
      rw [ag_nm_of (by omega) (by omega)]
      exact hc
    simp only [ag_i189_752, ag_i189_753, ag_i189_754, ag_i189_756, ag_i189_757, ag_i189_758, ag_i189_759, ag_i189_760, ag_i189_763_n, ag_i189_763_i, ag_i189_763_r, ag_i189_765, ag_i189_766, ag_i189_767, ag_i189_769, ag_i189_770, ag_i189_771, ag_i189_772, ag_i189_775_n, ag_i189_775_i, ag_i189_775_r, ag_i189_777, ag_i189_778, ag_i189_781, ag_i189_783, ag_i189_786, ag_i189_787, ag_i189_788, ag_i189_790, ag_i189_793, ag_i189_794, ag_i189_795, ag_i189_796, ag_i189_798, ag_i189_799, ag_i189_800, ag_i189_803, ag_i189_804, ag_i189_805, ag_i189_1603_n, ag_i189_1603_i, ag_i189_1603_r, ag_i189_1606, i1, i2, i3, j1, j2, j3, c45, c46, q1, q2, q3, ag_kk_v, ag_kk_n, Nat.reduceAdd, ag_b0, ag_b1, true_and, or_true, true_or, Int.reduceEq, ne_eq, not_false_eq_true, not_true_eq_false, ↓reduceIte, ag_nm_z, ag_nm_1, ag_k4, hc2]
    exact ih _ _ _ _ _ q8
theorem ag_case_vote (hL : L ≤ 2048) (hx : ∀ i, -2147483648 ≤ xs i ∧ xs i < 2147483648) (hi : 4 * k + 4 ≤ L) (ih : ag_LH L xs (k + 1)) (hW : ag_Wd L xs k τ) (x5 x6 x7 x8 : Option ag_V) : ag_wp 189 808 [some (ag_R 0), some (ag_R 1), some (ag_R 45), some (ag_R 63), some (ag_I ((4 * k : Nat) : Int)), x5, x6, x7, x8] [] τ ag_fin := by
  have h0 := ag_Wd_0 hW
  obtain ⟨fs, h45⟩ := ag_Wd_45 hW
  have hk : k < 512 := by omega
  have hW9 := hW
  obtain ⟨S, m, T, mt, en, gh, gq, np, nq, qu, li, r, th, hW8⟩ := hW9
  obtain ⟨c, b, τ1, τ2, q1, q2, q3, q4, q5, ⟨q6, q7⟩, q8⟩ := ag_go_vote hW8  (ag_nm_of (hx (((4 * k : Nat) : Int) + 1).toNat).1 (hx (((4 * k : Nat) : Int) + 1).toNat).2) (ag_nm_of (hx (((4 * k : Nat) : Int) + 2).toNat).1 (hx (((4 * k : Nat) : Int) + 2).toNat).2) (ag_nm_of (hx (((4 * k : Nat) : Int) + 3).toNat).1 (hx (((4 * k : Nat) : Int) + 3).toNat).2)
  have g0 : τ1.1 0 = some (Sum.inl (L, xs)) := q6.trans h0
  have g45 : τ1.1 45 = some (Sum.inr (Sum.inr (Sum.inr (6, fs)))) := q7.trans h45
  obtain ⟨fs2, g46⟩ := ag_Wd_45 q8
  have i1 : ∀ K : Int → Prop, ag_ia τ 0 (((4 * k : Nat) : Int) + 1) K = K (xs (((4 * k : Nat) : Int) + 1).toNat) := fun K => ag_ia_law h0 hL (by omega) (by omega) K
  have i2 : ∀ K : Int → Prop, ag_ia τ 0 (((4 * k : Nat) : Int) + 2) K = K (xs (((4 * k : Nat) : Int) + 2).toNat) := fun K => ag_ia_law h0 hL (by omega) (by omega) K
  have i3 : ∀ K : Int → Prop, ag_ia τ 0 (((4 * k : Nat) : Int) + 3) K = K (xs (((4 * k : Nat) : Int) + 3).toNat) := fun K => ag_ia_law h0 hL (by omega) (by omega) K
  have j1 : ∀ K : Int → Prop, ag_ia τ1 0 (((4 * k : Nat) : Int) + 1) K = K (xs (((4 * k : Nat) : Int) + 1).toNat) := fun K => ag_ia_law g0 hL (by omega) (by omega) K
  have j2 : ∀ K : Int → Prop, ag_ia τ1 0 (((4 * k : Nat) : Int) + 2) K = K (xs (((4 * k : Nat) : Int) + 2).toNat) := fun K => ag_ia_law g0 hL (by omega) (by omega) K
  have j3 : ∀ K : Int → Prop, ag_ia τ1 0 (((4 * k : Nat) : Int) + 3) K = K (xs (((4 * k : Nat) : Int) + 3).toNat) := fun K => ag_ia_law g0 hL (by omega) (by omega) K
  have c45 : ∀ P : Prop, ag_ck τ1 45 6 P = P := ag_cka g45
  have c46 : ∀ P : Prop, ag_ck τ2 45 6 P = P := ag_cka g46
  simp only [List.cons_append, List.nil_append] at q1 q2
  by_cases hc : c = 0
  · obtain ⟨-, f, hf, hf0⟩ := q5 hc
    have hla := fun K => ag_la_law hf K
    rw [hf0] at hla
    simp only [ag_i189_808, ag_i189_809, ag_i189_810, ag_i189_812, ag_i189_813, ag_i189_814, ag_i189_815, ag_i189_816, ag_i189_818, ag_i189_819, ag_i189_820, ag_i189_821, ag_i189_822, ag_i189_824, ag_i189_825, ag_i189_826, ag_i189_827, ag_i189_828, ag_i189_831_n, ag_i189_831_i, ag_i189_831_r, ag_i189_833, ag_i189_834, ag_i189_835, ag_i189_837, ag_i189_838, ag_i189_839, ag_i189_840, ag_i189_841, ag_i189_843, ag_i189_844, ag_i189_845, ag_i189_846, ag_i189_847, ag_i189_849, ag_i189_850, ag_i189_851, ag_i189_852, ag_i189_855_n, ag_i189_855_i, ag_i189_855_r, ag_i189_857, ag_i189_858, ag_i189_861, ag_i189_863, ag_i189_866, ag_i189_867, ag_i189_868, ag_i189_870, ag_i189_873, ag_i189_874, ag_i189_875, ag_i189_876, ag_i189_878, ag_i189_879, ag_i189_880, ag_i189_883, ag_i189_884, ag_i189_885, ag_i189_1603_n, ag_i189_1603_i, ag_i189_1603_r, ag_i189_1606, i1, i2, i3, j1, j2, j3, c45, c46, q1, q2, q3, ag_kk_v, ag_kk_n, Nat.reduceAdd, ag_b0, ag_b1, true_and, or_true, true_or, Int.reduceEq, ne_eq, not_false_eq_true, not_true_eq_false, ↓reduceIte, ag_nm_z, ag_nm_1, ag_k4, hc, hla, Int.lt_irrefl]
    exact ih _ _ _ _ _ q8
  · have hc2 : ¬ ag_nm c = 0 := by
      rw [ag_nm_of (by omega) (by omega)]
      exact hc
    simp only [ag_i189_808, ag_i189_809, ag_i189_810, ag_i189_812, ag_i189_813, ag_i189_814, ag_i189_815, ag_i189_816, ag_i189_818, ag_i189_819, ag_i189_820, ag_i189_821, ag_i189_822, ag_i189_824, ag_i189_825, ag_i189_826, ag_i189_827, ag_i189_828, ag_i189_831_n, ag_i189_831_i, ag_i189_831_r, ag_i189_833, ag_i189_834, ag_i189_835, ag_i189_837, ag_i189_838, ag_i189_839, ag_i189_840, ag_i189_841, ag_i189_843, ag_i189_844, ag_i189_845, ag_i189_846, ag_i189_847, ag_i189_849, ag_i189_850, ag_i189_851, ag_i189_852, ag_i189_855_n, ag_i189_855_i, ag_i189_855_r, ag_i189_857, ag_i189_858, ag_i189_861, ag_i189_863, ag_i189_866, ag_i189_867, ag_i189_868, ag_i189_870, ag_i189_873, ag_i189_874, ag_i189_875, ag_i189_876, ag_i189_878, ag_i189_879, ag_i189_880, ag_i189_883, ag_i189_884, ag_i189_885, ag_i189_1603_n, ag_i189_1603_i, ag_i189_1603_r, ag_i189_1606, i1, i2, i3, j1, j2, j3, c45, c46, q1, q2, q3, ag_kk_v, ag_kk_n, Nat.reduceAdd, ag_b0, ag_b1, true_and, or_true, true_or, Int.reduceEq, ne_eq, not_false_eq_true, not_true_eq_false, ↓reduceIte, ag_nm_z, ag_nm_1, ag_k4, hc2]
    exact ih _ _ _ _ _ q8
theorem ag_case_quorum (hL : L ≤ 2048) (hx : ∀ i, -2147483648 ≤ xs i ∧ xs i < 2147483648) (hi : 4 * k + 4 ≤ L) (ih : ag_LH L xs (k + 1)) (hW : ag_Wd L xs k τ) (x5 x6 x7 x8 : Option ag_V) : ag_wp 189 888 [some (ag_R 0), some (ag_R 1), some (ag_R 45), some (ag_R 63), some (ag_I ((4 * k : Nat) : Int)), x5, x6, x7, x8] [] τ ag_fin := by
  have h0 := ag_Wd_0 hW
  obtain ⟨fs, h45⟩ := ag_Wd_45 hW
  have hk : k < 512 := by omega
  have hW9 := hW
  obtain ⟨S, m, T, mt, en, gh, gq, np, nq, qu, li, r, th, hW8⟩ := hW9
  obtain ⟨c, b, τ1, τ2, q1, q2, q3, q4, q5, ⟨q6, q7⟩, q8⟩ := ag_go_quorum hW8  (ag_nm_of (hx (((4 * k : Nat) : Int) + 1).toNat).1 (hx (((4 * k : Nat) : Int) + 1).toNat).2)
  have g0 : τ1.1 0 = some (Sum.inl (L, xs)) := q6.trans h0
  have g45 : τ1.1 45 = some (Sum.inr (Sum.inr (Sum.inr (6, fs)))) := q7.trans h45
  obtain ⟨fs2, g46⟩ := ag_Wd_45 q8
  have i1 : ∀ K : Int → Prop, ag_ia τ 0 (((4 * k : Nat) : Int) + 1) K = K (xs (((4 * k : Nat) : Int) + 1).toNat) := fun K => ag_ia_law h0 hL (by omega) (by omega) K
  have i2 : ∀ K : Int → Prop, ag_ia τ 0 (((4 * k : Nat) : Int) + 2) K = K (xs (((4 * k : Nat) : Int) + 2).toNat) := fun K => ag_ia_law h0 hL (by omega) (by omega) K
  have i3 : ∀ K : Int → Prop, ag_ia τ 0 (((4 * k : Nat) : Int) + 3) K = K (xs (((4 * k : Nat) : Int) + 3).toNat) := fun K => ag_ia_law h0 hL (by omega) (by omega) K
  have j1 : ∀ K : Int → Prop, ag_ia τ1 0 (((4 * k : Nat) : Int) + 1) K = K (xs (((4 * k : Nat) : Int) + 1).toNat) := fun K => ag_ia_law g0 hL (by omega) (by omega) K
  have j2 : ∀ K : Int → Prop, ag_ia τ1 0 (((4 * k : Nat) : Int) + 2) K = K (xs (((4 * k : Nat) : Int) + 2).toNat) := fun K => ag_ia_law g0 hL (by omega) (by omega) K
  have j3 : ∀ K : Int → Prop, ag_ia τ1 0 (((4 * k : Nat) : Int) + 3) K = K (xs (((4 * k : Nat) : Int) + 3).toNat) := fun K => ag_ia_law g0 hL (by omega) (by omega) K
  have c45 : ∀ P : Prop, ag_ck τ1 45 6 P = P := ag_cka g45
  have c46 : ∀ P : Prop, ag_ck τ2 45 6 P = P := ag_cka g46
  simp only [List.cons_append, List.nil_append] at q1 q2
  by_cases hc : c = 0
  · obtain ⟨-, f, hf, hf0⟩ := q5 hc
    have hla := fun K => ag_la_law hf K
    rw [hf0] at hla
    simp only [ag_i189_888, ag_i189_889, ag_i189_890, ag_i189_892, ag_i189_893, ag_i189_894, ag_i189_895, ag_i189_896, ag_i189_899_n, ag_i189_899_i, ag_i189_899_r, ag_i189_901, ag_i189_902, ag_i189_903, ag_i189_905, ag_i189_906, ag_i189_907, ag_i189_908, ag_i189_911_n, ag_i189_911_i, ag_i189_911_r, ag_i189_913, ag_i189_914, ag_i189_917, ag_i189_919, ag_i189_922, ag_i189_923, ag_i189_924, ag_i189_926, ag_i189_929, ag_i189_930, ag_i189_931, ag_i189_932, ag_i189_934, ag_i189_935, ag_i189_936, ag_i189_939, ag_i189_940, ag_i189_941, ag_i189_1603_n, ag_i189_1603_i, ag_i189_1603_r, ag_i189_1606, i1, i2, i3, j1, j2, j3, c45, c46, q1, q2, q3, ag_kk_v, ag_kk_n, Nat.reduceAdd, ag_b0, ag_b1, true_and, or_true, true_or, Int.reduceEq, ne_eq, not_false_eq_true, not_true_eq_false, ↓reduceIte, ag_nm_z, ag_nm_1, ag_k4, hc, hla, Int.lt_irrefl]
    exact ih _ _ _ _ _ q8
  · have hc2 : ¬ ag_nm c = 0 := by
      rw [ag_nm_of (by omega) (by omega)]
      exact hc
    simp only [ag_i189_888, ag_i189_889, ag_i189_890, ag_i189_892, ag_i189_893, ag_i189_894, ag_i189_895, ag_i189_896, ag_i189_899_n, ag_i189_899_i, ag_i189_899_r, ag_i189_901, ag_i189_902, ag_i189_903, ag_i189_905, ag_i189_906, ag_i189_907, ag_i189_908, ag_i189_911_n, ag_i189_911_i, ag_i189_911_r, ag_i189_913, ag_i189_914, ag_i189_917, ag_i189_919, ag_i189_922, ag_i189_923, ag_i189_924, ag_i189_926, ag_i189_929, ag_i189_930, ag_i189_931, ag_i189_932, ag_i189_934, ag_i189_935, ag_i189_936, ag_i189_939, ag_i189_940, ag_i189_941, ag_i189_1603_n, ag_i189_1603_i, ag_i189_1603_r, ag_i189_1606, i1, i2, i3, j1, j2, j3, c45, c46, q1, q2, q3, ag_kk_v, ag_kk_n, Nat.reduceAdd, ag_b0, ag_b1, true_and, or_true, true_or, Int.reduceEq, ne_eq, not_false_eq_true, not_true_eq_false, ↓reduceIte, ag_nm_z, ag_nm_1, ag_k4, hc2]
    exact ih _ _ _ _ _ q8
theorem ag_case_sit (hL : L ≤ 2048) (hx : ∀ i, -2147483648 ≤ xs i ∧ xs i < 2147483648) (hi : 4 * k + 4 ≤ L) (ih : ag_LH L xs (k + 1)) (hW : ag_Wd L xs k τ) (x5 x6 x7 x8 : Option ag_V) : ag_wp 189 944 [some (ag_R 0), some (ag_R 1), some (ag_R 45), some (ag_R 63), some (ag_I ((4 * k : Nat) : Int)), x5, x6, x7, x8] [] τ ag_fin := by
  have h0 := ag_Wd_0 hW
  obtain ⟨fs, h45⟩ := ag_Wd_45 hW
  have hk : k < 512 := by omega
  have hW9 := hW
  obtain ⟨S, m, T, mt, en, gh, gq, np, nq, qu, li, r, th, hW8⟩ := hW9
  obtain ⟨c, b, τ1, τ2, q1, q2, q3, q4, q5, ⟨q6, q7⟩, q8⟩ := ag_go_sit hW8  (ag_nm_of (hx (((4 * k : Nat) : Int) + 1).toNat).1 (hx (((4 * k : Nat) : Int) + 1).toNat).2)
  have g0 : τ1.1 0 = some (Sum.inl (L, xs)) := q6.trans h0
  have g45 : τ1.1 45 = some (Sum.inr (Sum.inr (Sum.inr (6, fs)))) := q7.trans h45
  obtain ⟨fs2, g46⟩ := ag_Wd_45 q8
  have i1 : ∀ K : Int → Prop, ag_ia τ 0 (((4 * k : Nat) : Int) + 1) K = K (xs (((4 * k : Nat) : Int) + 1).toNat) := fun K => ag_ia_law h0 hL (by omega) (by omega) K
  have i2 : ∀ K : Int → Prop, ag_ia τ 0 (((4 * k : Nat) : Int) + 2) K = K (xs (((4 * k : Nat) : Int) + 2).toNat) := fun K => ag_ia_law h0 hL (by omega) (by omega) K
  have i3 : ∀ K : Int → Prop, ag_ia τ 0 (((4 * k : Nat) : Int) + 3) K = K (xs (((4 * k : Nat) : Int) + 3).toNat) := fun K => ag_ia_law h0 hL (by omega) (by omega) K
  have j1 : ∀ K : Int → Prop, ag_ia τ1 0 (((4 * k : Nat) : Int) + 1) K = K (xs (((4 * k : Nat) : Int) + 1).toNat) := fun K => ag_ia_law g0 hL (by omega) (by omega) K
  have j2 : ∀ K : Int → Prop, ag_ia τ1 0 (((4 * k : Nat) : Int) + 2) K = K (xs (((4 * k : Nat) : Int) + 2).toNat) := fun K => ag_ia_law g0 hL (by omega) (by omega) K
  have j3 : ∀ K : Int → Prop, ag_ia τ1 0 (((4 * k : Nat) : Int) + 3) K = K (xs (((4 * k : Nat) : Int) + 3).toNat) := fun K => ag_ia_law g0 hL (by omega) (by omega) K
  have c45 : ∀ P : Prop, ag_ck τ1 45 6 P = P := ag_cka g45
  have c46 : ∀ P : Prop, ag_ck τ2 45 6 P = P := ag_cka g46
  simp only [List.cons_append, List.nil_append] at q1 q2
  by_cases hc : c = 0
  · obtain ⟨-, f, hf, hf0⟩ := q5 hc
    have hla := fun K => ag_la_law hf K
    rw [hf0] at hla
    simp only [ag_i189_944, ag_i189_945, ag_i189_946, ag_i189_948, ag_i189_949, ag_i189_950, ag_i189_951, ag_i189_952, ag_i189_955_n, ag_i189_955_i, ag_i189_955_r, ag_i189_957, ag_i189_958, ag_i189_959, ag_i189_961, ag_i189_962, ag_i189_963, ag_i189_964, ag_i189_967_n, ag_i189_967_i, ag_i189_967_r, ag_i189_969, ag_i189_970, ag_i189_973, ag_i189_975, ag_i189_978, ag_i189_979, ag_i189_980, ag_i189_982, ag_i189_985, ag_i189_986, ag_i189_987, ag_i189_988, ag_i189_990, ag_i189_991, ag_i189_992, ag_i189_995, ag_i189_996, ag_i189_997, ag_i189_1603_n, ag_i189_1603_i, ag_i189_1603_r, ag_i189_1606, i1, i2, i3, j1, j2, j3, c45, c46, q1, q2, q3, ag_kk_v, ag_kk_n, Nat.reduceAdd, ag_b0, ag_b1, true_and, or_true, true_or, Int.reduceEq, ne_eq, not_false_eq_true, not_true_eq_false, ↓reduceIte, ag_nm_z, ag_nm_1, ag_k4, hc, hla, Int.lt_irrefl]
    exact ih _ _ _ _ _ q8
  · have hc2 : ¬ ag_nm c = 0 := by
      rw [ag_nm_of (by omega) (by omega)]
      exact hc
    simp only [ag_i189_944, ag_i189_945, ag_i189_946, ag_i189_948, ag_i189_949, ag_i189_950, ag_i189_951, ag_i189_952, ag_i189_955_n, ag_i189_955_i, ag_i189_955_r, ag_i189_957, ag_i189_958, ag_i189_959, ag_i189_961, ag_i189_962, ag_i189_963, ag_i189_964, ag_i189_967_n, ag_i189_967_i, ag_i189_967_r, ag_i189_969, ag_i189_970, ag_i189_973, ag_i189_975, ag_i189_978, ag_i189_979, ag_i189_980, ag_i189_982, ag_i189_985, ag_i189_986, ag_i189_987, ag_i189_988, ag_i189_990, ag_i189_991, ag_i189_992, ag_i189_995, ag_i189_996, ag_i189_997, ag_i189_1603_n, ag_i189_1603_i, ag_i189_1603_r, ag_i189_1606, i1, i2, i3, j1, j2, j3, c45, c46, q1, q2, q3, ag_kk_v, ag_kk_n, Nat.reduceAdd, ag_b0, ag_b1, true_and, or_true, true_or, Int.reduceEq, ne_eq, not_false_eq_true, not_true_eq_false, ↓reduceIte, ag_nm_z, ag_nm_1, ag_k4, hc2]
    exact ih _ _ _ _ _ q8
theorem ag_case_speak (hL : L ≤ 2048) (hx : ∀ i, -2147483648 ≤ xs i ∧ xs i < 2147483648) (hi : 4 * k + 4 ≤ L) (ih : ag_LH L xs (k + 1)) (hW : ag_Wd L xs k τ) (x5 x6 x7 x8 : Option ag_V) : ag_wp 189 1000 [some (ag_R 0), some (ag_R 1), some (ag_R 45), some (ag_R 63), some (ag_I ((4 * k : Nat) : Int)), x5, x6, x7, x8] [] τ ag_fin := by
  have h0 := ag_Wd_0 hW
  obtain ⟨fs, h45⟩ := ag_Wd_45 hW
  have hk : k < 512 := by omega
  have hW9 := hW
  obtain ⟨S, m, T, mt, en, gh, gq, np, nq, qu, li, r, th, hW8⟩ := hW9
  obtain ⟨c, b, τ1, τ2, q1, q2, q3, q4, q5, ⟨q6, q7⟩, q8⟩ := ag_go_speak hW8 hk (ag_nm_of (hx (((4 * k : Nat) : Int) + 1).toNat).1 (hx (((4 * k : Nat) : Int) + 1).toNat).2) (ag_nm_of (hx (((4 * k : Nat) : Int) + 2).toNat).1 (hx (((4 * k : Nat) : Int) + 2).toNat).2)
  have g0 : τ1.1 0 = some (Sum.inl (L, xs)) := q6.trans h0
  have g45 : τ1.1 45 = some (Sum.inr (Sum.inr (Sum.inr (6, fs)))) := q7.trans h45
  obtain ⟨fs2, g46⟩ := ag_Wd_45 q8
  have i1 : ∀ K : Int → Prop, ag_ia τ 0 (((4 * k : Nat) : Int) + 1) K = K (xs (((4 * k : Nat) : Int) + 1).toNat) := fun K => ag_ia_law h0 hL (by omega) (by omega) K
  have i2 : ∀ K : Int → Prop, ag_ia τ 0 (((4 * k : Nat) : Int) + 2) K = K (xs (((4 * k : Nat) : Int) + 2).toNat) := fun K => ag_ia_law h0 hL (by omega) (by omega) K
  have i3 : ∀ K : Int → Prop, ag_ia τ 0 (((4 * k : Nat) : Int) + 3) K = K (xs (((4 * k : Nat) : Int) + 3).toNat) := fun K => ag_ia_law h0 hL (by omega) (by omega) K
  have j1 : ∀ K : Int → Prop, ag_ia τ1 0 (((4 * k : Nat) : Int) + 1) K = K (xs (((4 * k : Nat) : Int) + 1).toNat) := fun K => ag_ia_law g0 hL (by omega) (by omega) K
  have j2 : ∀ K : Int → Prop, ag_ia τ1 0 (((4 * k : Nat) : Int) + 2) K = K (xs (((4 * k : Nat) : Int) + 2).toNat) := fun K => ag_ia_law g0 hL (by omega) (by omega) K
  have j3 : ∀ K : Int → Prop, ag_ia τ1 0 (((4 * k : Nat) : Int) + 3) K = K (xs (((4 * k : Nat) : Int) + 3).toNat) := fun K => ag_ia_law g0 hL (by omega) (by omega) K
  have c45 : ∀ P : Prop, ag_ck τ1 45 6 P = P := ag_cka g45
  have c46 : ∀ P : Prop, ag_ck τ2 45 6 P = P := ag_cka g46
  simp only [List.cons_append, List.nil_append] at q1 q2
  by_cases hc : c = 0
  · obtain ⟨-, f, hf, hf0⟩ := q5 hc
    have hla := fun K => ag_la_law hf K
    rw [hf0] at hla
    simp only [ag_i189_1000, ag_i189_1001, ag_i189_1002, ag_i189_1004, ag_i189_1005, ag_i189_1006, ag_i189_1007, ag_i189_1008, ag_i189_1010, ag_i189_1011, ag_i189_1012, ag_i189_1013, ag_i189_1014, ag_i189_1017_n, ag_i189_1017_i, ag_i189_1017_r, ag_i189_1019, ag_i189_1020, ag_i189_1021, ag_i189_1023, ag_i189_1024, ag_i189_1025, ag_i189_1026, ag_i189_1027, ag_i189_1029, ag_i189_1030, ag_i189_1031, ag_i189_1032, ag_i189_1035_n, ag_i189_1035_i, ag_i189_1035_r, ag_i189_1037, ag_i189_1038, ag_i189_1041, ag_i189_1043, ag_i189_1046, ag_i189_1047, ag_i189_1048, ag_i189_1050, ag_i189_1053, ag_i189_1054, ag_i189_1055, ag_i189_1056, ag_i189_1058, ag_i189_1059, ag_i189_1060, ag_i189_1063, ag_i189_1064, ag_i189_1065, ag_i189_1603_n, ag_i189_1603_i, ag_i189_1603_r, ag_i189_1606, i1, i2, i3, j1, j2, j3, c45, c46, q1, q2, q3, ag_kk_v, ag_kk_n, Nat.reduceAdd, ag_b0, ag_b1, true_and, or_true, true_or, Int.reduceEq, ne_eq, not_false_eq_true, not_true_eq_false, ↓reduceIte, ag_nm_z, ag_nm_1, ag_k4, hc, hla, Int.lt_irrefl]
    exact ih _ _ _ _ _ q8
  · have hc2 : ¬ ag_nm c = 0 := by
      rw [ag_nm_of (by omega) (by omega)]
      exact hc
    simp only [ag_i189_1000, ag_i189_1001, ag_i189_1002, ag_i189_1004, ag_i189_1005, ag_i189_1006, ag_i189_1007, ag_i189_1008, ag_i189_1010, ag_i189_1011, ag_i189_1012, ag_i189_1013, ag_i189_1014, ag_i189_1017_n, ag_i189_1017_i, ag_i189_1017_r, ag_i189_1019, ag_i189_1020, ag_i189_1021, ag_i189_1023, ag_i189_1024, ag_i189_1025, ag_i189_1026, ag_i189_1027, ag_i189_1029, ag_i189_1030, ag_i189_1031, ag_i189_1032, ag_i189_1035_n, ag_i189_1035_i, ag_i189_1035_r, ag_i189_1037, ag_i189_1038, ag_i189_1041, ag_i189_1043, ag_i189_1046, ag_i189_1047, ag_i189_1048, ag_i189_1050, ag_i189_1053, ag_i189_1054, ag_i189_1055, ag_i189_1056, ag_i189_1058, ag_i189_1059, ag_i189_1060, ag_i189_1063, ag_i189_1064, ag_i189_1065, ag_i189_1603_n, ag_i189_1603_i, ag_i189_1603_r, ag_i189_1606, i1, i2, i3, j1, j2, j3, c45, c46, q1, q2, q3, ag_kk_v, ag_kk_n, Nat.reduceAdd, ag_b0, ag_b1, true_and, or_true, true_or, Int.reduceEq, ne_eq, not_false_eq_true, not_true_eq_false, ↓reduceIte, ag_nm_z, ag_nm_1, ag_k4, hc2]
    exact ih _ _ _ _ _ q8
theorem ag_case_call (hL : L ≤ 2048) (hx : ∀ i, -2147483648 ≤ xs i ∧ xs i < 2147483648) (hi : 4 * k + 4 ≤ L) (ih : ag_LH L xs (k + 1)) (hW : ag_Wd L xs k τ) (x5 x6 x7 x8 : Option ag_V) : ag_wp 189 1068 [some (ag_R 0), some (ag_R 1), some (ag_R 45), some (ag_R 63), some (ag_I ((4 * k : Nat) : Int)), x5, x6, x7, x8] [] τ ag_fin := by
  have h0 := ag_Wd_0 hW
  obtain ⟨fs, h45⟩ := ag_Wd_45 hW
  have hk : k < 512 := by omega
  have hW9 := hW
  obtain ⟨S, m, T, mt, en, gh, gq, np, nq, qu, li, r, th, hW8⟩ := hW9
  obtain ⟨c, b, τ1, τ2, q1, q2, q3, q4, q5, ⟨q6, q7⟩, q8⟩ := ag_go_call hW8
  have g0 : τ1.1 0 = some (Sum.inl (L, xs)) := q6.trans h0
  have g45 : τ1.1 45 = some (Sum.inr (Sum.inr (Sum.inr (6, fs)))) := q7.trans h45
  obtain ⟨fs2, g46⟩ := ag_Wd_45 q8
  have i1 : ∀ K : Int → Prop, ag_ia τ 0 (((4 * k : Nat) : Int) + 1) K = K (xs (((4 * k : Nat) : Int) + 1).toNat) := fun K => ag_ia_law h0 hL (by omega) (by omega) K
  have i2 : ∀ K : Int → Prop, ag_ia τ 0 (((4 * k : Nat) : Int) + 2) K = K (xs (((4 * k : Nat) : Int) + 2).toNat) := fun K => ag_ia_law h0 hL (by omega) (by omega) K
  have i3 : ∀ K : Int → Prop, ag_ia τ 0 (((4 * k : Nat) : Int) + 3) K = K (xs (((4 * k : Nat) : Int) + 3).toNat) := fun K => ag_ia_law h0 hL (by omega) (by omega) K
  have j1 : ∀ K : Int → Prop, ag_ia τ1 0 (((4 * k : Nat) : Int) + 1) K = K (xs (((4 * k : Nat) : Int) + 1).toNat) := fun K => ag_ia_law g0 hL (by omega) (by omega) K
  have j2 : ∀ K : Int → Prop, ag_ia τ1 0 (((4 * k : Nat) : Int) + 2) K = K (xs (((4 * k : Nat) : Int) + 2).toNat) := fun K => ag_ia_law g0 hL (by omega) (by omega) K
  have j3 : ∀ K : Int → Prop, ag_ia τ1 0 (((4 * k : Nat) : Int) + 3) K = K (xs (((4 * k : Nat) : Int) + 3).toNat) := fun K => ag_ia_law g0 hL (by omega) (by omega) K
  have c45 : ∀ P : Prop, ag_ck τ1 45 6 P = P := ag_cka g45
  have c46 : ∀ P : Prop, ag_ck τ2 45 6 P = P := ag_cka g46
  simp only [List.cons_append, List.nil_append] at q1 q2
  by_cases hc : c = 0
  · obtain ⟨-, f, hf, hf0⟩ := q5 hc
    have hla := fun K => ag_la_law hf K
    rw [hf0] at hla
    simp only [ag_i189_1068, ag_i189_1069, ag_i189_1070, ag_i189_1073_n, ag_i189_1073_i, ag_i189_1073_r, ag_i189_1075, ag_i189_1076, ag_i189_1079_n, ag_i189_1079_i, ag_i189_1079_r, ag_i189_1081, ag_i189_1082, ag_i189_1085, ag_i189_1087, ag_i189_1090, ag_i189_1091, ag_i189_1092, ag_i189_1094, ag_i189_1097, ag_i189_1098, ag_i189_1099, ag_i189_1100, ag_i189_1102, ag_i189_1103, ag_i189_1104, ag_i189_1107, ag_i189_1108, ag_i189_1109, ag_i189_1603_n, ag_i189_1603_i, ag_i189_1603_r, ag_i189_1606, i1, i2, i3, j1, j2, j3, c45, c46, q1, q2, q3, ag_kk_v, ag_kk_n, Nat.reduceAdd, ag_b0, ag_b1, true_and, or_true, true_or, Int.reduceEq, ne_eq, not_false_eq_true, not_true_eq_false, ↓reduceIte, ag_nm_z, ag_nm_1, ag_k4, hc, hla, Int.lt_irrefl]
    exact ih _ _ _ _ _ q8
  · have hc2 : ¬ ag_nm c = 0 := by
      rw [ag_nm_of (by omega) (by omega)]
      exact hc
    simp only [ag_i189_1068, ag_i189_1069, ag_i189_1070, ag_i189_1073_n, ag_i189_1073_i, ag_i189_1073_r, ag_i189_1075, ag_i189_1076, ag_i189_1079_n, ag_i189_1079_i, ag_i189_1079_r, ag_i189_1081, ag_i189_1082, ag_i189_1085, ag_i189_1087, ag_i189_1090, ag_i189_1091, ag_i189_1092, ag_i189_1094, ag_i189_1097, ag_i189_1098, ag_i189_1099, ag_i189_1100, ag_i189_1102, ag_i189_1103, ag_i189_1104, ag_i189_1107, ag_i189_1108, ag_i189_1109, ag_i189_1603_n, ag_i189_1603_i, ag_i189_1603_r, ag_i189_1606, i1, i2, i3, j1, j2, j3, c45, c46, q1, q2, q3, ag_kk_v, ag_kk_n, Nat.reduceAdd, ag_b0, ag_b1, true_and, or_true, true_or, Int.reduceEq, ne_eq, not_false_eq_true, not_true_eq_false, ↓reduceIte, ag_nm_z, ag_nm_1, ag_k4, hc2]
    exact ih _ _ _ _ _ q8
theorem ag_case_ofParty (hL : L ≤ 2048) (hx : ∀ i, -2147483648 ≤ xs i ∧ xs i < 2147483648) (hi : 4 * k + 4 ≤ L) (ih : ag_LH L xs (k + 1)) (hW : ag_Wd L xs k τ) (x5 x6 x7 x8 : Option ag_V) : ag_wp 189 1112 [some (ag_R 0), some (ag_R 1), some (ag_R 45), some (ag_R 63), some (ag_I ((4 * k : Nat) : Int)), x5, x6, x7, x8] [] τ ag_fin := by
  have h0 := ag_Wd_0 hW
  obtain ⟨fs, h45⟩ := ag_Wd_45 hW
  have hk : k < 512 := by omega
  have hW9 := hW
  obtain ⟨S, m, T, mt, en, gh, gq, np, nq, qu, li, r, th, hW8⟩ := hW9
  obtain ⟨c, b, τ1, τ2, q1, q2, q3, q4, q5, ⟨q6, q7⟩, q8⟩ := ag_go_ofParty hW8  (ag_nm_of (hx (((4 * k : Nat) : Int) + 1).toNat).1 (hx (((4 * k : Nat) : Int) + 1).toNat).2) (ag_nm_of (hx (((4 * k : Nat) : Int) + 2).toNat).1 (hx (((4 * k : Nat) : Int) + 2).toNat).2)
  have g0 : τ1.1 0 = some (Sum.inl (L, xs)) := q6.trans h0
  have g45 : τ1.1 45 = some (Sum.inr (Sum.inr (Sum.inr (6, fs)))) := q7.trans h45
  obtain ⟨fs2, g46⟩ := ag_Wd_45 q8
  have i1 : ∀ K : Int → Prop, ag_ia τ 0 (((4 * k : Nat) : Int) + 1) K = K (xs (((4 * k : Nat) : Int) + 1).toNat) := fun K => ag_ia_law h0 hL (by omega) (by omega) K
  have i2 : ∀ K : Int → Prop, ag_ia τ 0 (((4 * k : Nat) : Int) + 2) K = K (xs (((4 * k : Nat) : Int) + 2).toNat) := fun K => ag_ia_law h0 hL (by omega) (by omega) K
  have i3 : ∀ K : Int → Prop, ag_ia τ 0 (((4 * k : Nat) : Int) + 3) K = K (xs (((4 * k : Nat) : Int) + 3).toNat) := fun K => ag_ia_law h0 hL (by omega) (by omega) K
  have j1 : ∀ K : Int → Prop, ag_ia τ1 0 (((4 * k : Nat) : Int) + 1) K = K (xs (((4 * k : Nat) : Int) + 1).toNat) := fun K => ag_ia_law g0 hL (by omega) (by omega) K
  have j2 : ∀ K : Int → Prop, ag_ia τ1 0 (((4 * k : Nat) : Int) + 2) K = K (xs (((4 * k : Nat) : Int) + 2).toNat) := fun K => ag_ia_law g0 hL (by omega) (by omega) K
  have j3 : ∀ K : Int → Prop, ag_ia τ1 0 (((4 * k : Nat) : Int) + 3) K = K (xs (((4 * k : Nat) : Int) + 3).toNat) := fun K => ag_ia_law g0 hL (by omega) (by omega) K
  have c45 : ∀ P : Prop, ag_ck τ1 45 6 P = P := ag_cka g45
  have c46 : ∀ P : Prop, ag_ck τ2 45 6 P = P := ag_cka g46
  simp only [List.cons_append, List.nil_append] at q1 q2
  by_cases hc : c = 0
  · obtain ⟨-, f, hf, hf0⟩ := q5 hc
    have hla := fun K => ag_la_law hf K
    rw [hf0] at hla
    simp only [ag_i189_1112, ag_i189_1113, ag_i189_1114, ag_i189_1116, ag_i189_1117, ag_i189_1118, ag_i189_1119, ag_i189_1120, ag_i189_1122, ag_i189_1123, ag_i189_1124, ag_i189_1125, ag_i189_1126, ag_i189_1129_n, ag_i189_1129_i, ag_i189_1129_r, ag_i189_1131, ag_i189_1132, ag_i189_1133, ag_i189_1135, ag_i189_1136, ag_i189_1137, ag_i189_1138, ag_i189_1139, ag_i189_1141, ag_i189_1142, ag_i189_1143, ag_i189_1144, ag_i189_1147_n, ag_i189_1147_i, ag_i189_1147_r, ag_i189_1149, ag_i189_1150, ag_i189_1153, ag_i189_1155, ag_i189_1158, ag_i189_1159, ag_i189_1160, ag_i189_1162, ag_i189_1165, ag_i189_1166, ag_i189_1167, ag_i189_1168, ag_i189_1170, ag_i189_1171, ag_i189_1172, ag_i189_1175, ag_i189_1176, ag_i189_1177, ag_i189_1603_n, ag_i189_1603_i, ag_i189_1603_r, ag_i189_1606, i1, i2, i3, j1, j2, j3, c45, c46, q1, q2, q3, ag_kk_v, ag_kk_n, Nat.reduceAdd, ag_b0, ag_b1, true_and, or_true, true_or, Int.reduceEq, ne_eq, not_false_eq_true, not_true_eq_false, ↓reduceIte, ag_nm_z, ag_nm_1, ag_k4, hc, hla, Int.lt_irrefl]
    exact ih _ _ _ _ _ q8
  · have hc2 : ¬ ag_nm c = 0 := by
      rw [ag_nm_of (by omega) (by omega)]
      exact hc
    simp only [ag_i189_1112, ag_i189_1113, ag_i189_1114, ag_i189_1116, ag_i189_1117, ag_i189_1118, ag_i189_1119, ag_i189_1120, ag_i189_1122, ag_i189_1123, ag_i189_1124, ag_i189_1125, ag_i189_1126, ag_i189_1129_n, ag_i189_1129_i, ag_i189_1129_r, ag_i189_1131, ag_i189_1132, ag_i189_1133, ag_i189_1135, ag_i189_1136, ag_i189_1137, ag_i189_1138, ag_i189_1139, ag_i189_1141, ag_i189_1142, ag_i189_1143, ag_i189_1144, ag_i189_1147_n, ag_i189_1147_i, ag_i189_1147_r, ag_i189_1149, ag_i189_1150, ag_i189_1153, ag_i189_1155, ag_i189_1158, ag_i189_1159, ag_i189_1160, ag_i189_1162, ag_i189_1165, ag_i189_1166, ag_i189_1167, ag_i189_1168, ag_i189_1170, ag_i189_1171, ag_i189_1172, ag_i189_1175, ag_i189_1176, ag_i189_1177, ag_i189_1603_n, ag_i189_1603_i, ag_i189_1603_r, ag_i189_1606, i1, i2, i3, j1, j2, j3, c45, c46, q1, q2, q3, ag_kk_v, ag_kk_n, Nat.reduceAdd, ag_b0, ag_b1, true_and, or_true, true_or, Int.reduceEq, ne_eq, not_false_eq_true, not_true_eq_false, ↓reduceIte, ag_nm_z, ag_nm_1, ag_k4, hc2]
    exact ih _ _ _ _ _ q8
theorem ag_case_petition (hL : L ≤ 2048) (hx : ∀ i, -2147483648 ≤ xs i ∧ xs i < 2147483648) (hi : 4 * k + 4 ≤ L) (ih : ag_LH L xs (k + 1)) (hW : ag_Wd L xs k τ) (x5 x6 x7 x8 : Option ag_V) : ag_wp 189 1180 [some (ag_R 0), some (ag_R 1), some (ag_R 45), some (ag_R 63), some (ag_I ((4 * k : Nat) : Int)), x5, x6, x7, x8] [] τ ag_fin := by
  have h0 := ag_Wd_0 hW
  obtain ⟨fs, h45⟩ := ag_Wd_45 hW
  have hk : k < 512 := by omega
  have hW9 := hW
  obtain ⟨S, m, T, mt, en, gh, gq, np, nq, qu, li, r, th, hW8⟩ := hW9
  obtain ⟨c, b, τ1, τ2, q1, q2, q3, q4, q5, ⟨q6, q7⟩, q8⟩ := ag_go_petition hW8  (ag_nm_of (hx (((4 * k : Nat) : Int) + 1).toNat).1 (hx (((4 * k : Nat) : Int) + 1).toNat).2) (ag_nm_of (hx (((4 * k : Nat) : Int) + 2).toNat).1 (hx (((4 * k : Nat) : Int) + 2).toNat).2)
  have g0 : τ1.1 0 = some (Sum.inl (L, xs)) := q6.trans h0
  have g45 : τ1.1 45 = some (Sum.inr (Sum.inr (Sum.inr (6, fs)))) := q7.trans h45
  obtain ⟨fs2, g46⟩ := ag_Wd_45 q8
  have i1 : ∀ K : Int → Prop, ag_ia τ 0 (((4 * k : Nat) : Int) + 1) K = K (xs (((4 * k : Nat) : Int) + 1).toNat) := fun K => ag_ia_law h0 hL (by omega) (by omega) K
  have i2 : ∀ K : Int → Prop, ag_ia τ 0 (((4 * k : Nat) : Int) + 2) K = K (xs (((4 * k : Nat) : Int) + 2).toNat) := fun K => ag_ia_law h0 hL (by omega) (by omega) K
  have i3 : ∀ K : Int → Prop, ag_ia τ 0 (((4 * k : Nat) : Int) + 3) K = K (xs (((4 * k : Nat) : Int) + 3).toNat) := fun K => ag_ia_law h0 hL (by omega) (by omega) K
  have j1 : ∀ K : Int → Prop, ag_ia τ1 0 (((4 * k : Nat) : Int) + 1) K = K (xs (((4 * k : Nat) : Int) + 1).toNat) := fun K => ag_ia_law g0 hL (by omega) (by omega) K
  have j2 : ∀ K : Int → Prop, ag_ia τ1 0 (((4 * k : Nat) : Int) + 2) K = K (xs (((4 * k : Nat) : Int) + 2).toNat) := fun K => ag_ia_law g0 hL (by omega) (by omega) K
  have j3 : ∀ K : Int → Prop, ag_ia τ1 0 (((4 * k : Nat) : Int) + 3) K = K (xs (((4 * k : Nat) : Int) + 3).toNat) := fun K => ag_ia_law g0 hL (by omega) (by omega) K
  have c45 : ∀ P : Prop, ag_ck τ1 45 6 P = P := ag_cka g45
  have c46 : ∀ P : Prop, ag_ck τ2 45 6 P = P := ag_cka g46
  simp only [List.cons_append, List.nil_append] at q1 q2
  by_cases hc : c = 0
  · obtain ⟨-, f, hf, hf0⟩ := q5 hc
    have hla := fun K => ag_la_law hf K
    rw [hf0] at hla
    simp only [ag_i189_1180, ag_i189_1181, ag_i189_1182, ag_i189_1184, ag_i189_1185, ag_i189_1186, ag_i189_1187, ag_i189_1188, ag_i189_1190, ag_i189_1191, ag_i189_1192, ag_i189_1193, ag_i189_1194, ag_i189_1197_n, ag_i189_1197_i, ag_i189_1197_r, ag_i189_1199, ag_i189_1200, ag_i189_1201, ag_i189_1203, ag_i189_1204, ag_i189_1205, ag_i189_1206, ag_i189_1207, ag_i189_1209, ag_i189_1210, ag_i189_1211, ag_i189_1212, ag_i189_1215_n, ag_i189_1215_i, ag_i189_1215_r, ag_i189_1217, ag_i189_1218, ag_i189_1221, ag_i189_1223, ag_i189_1226, ag_i189_1227, ag_i189_1228, ag_i189_1230, ag_i189_1233, ag_i189_1234, ag_i189_1235, ag_i189_1236, ag_i189_1238, ag_i189_1239, ag_i189_1240, ag_i189_1243, ag_i189_1244, ag_i189_1245, ag_i189_1603_n, ag_i189_1603_i, ag_i189_1603_r, ag_i189_1606, i1, i2, i3, j1, j2, j3, c45, c46, q1, q2, q3, ag_kk_v, ag_kk_n, Nat.reduceAdd, ag_b0, ag_b1, true_and, or_true, true_or, Int.reduceEq, ne_eq, not_false_eq_true, not_true_eq_false, ↓reduceIte, ag_nm_z, ag_nm_1, ag_k4, hc, hla, Int.lt_irrefl]
    exact ih _ _ _ _ _ q8
  · have hc2 : ¬ ag_nm c = 0 := by
      rw [ag_nm_of (by omega) (by omega)]
      exact hc
    simp only [ag_i189_1180, ag_i189_1181, ag_i189_1182, ag_i189_1184, ag_i189_1185, ag_i189_1186, ag_i189_1187, ag_i189_1188, ag_i189_1190, ag_i189_1191, ag_i189_1192, ag_i189_1193, ag_i189_1194, ag_i189_1197_n, ag_i189_1197_i, ag_i189_1197_r, ag_i189_1199, ag_i189_1200, ag_i189_1201, ag_i189_1203, ag_i189_1204, ag_i189_1205, ag_i189_1206, ag_i189_1207, ag_i189_1209, ag_i189_1210, ag_i189_1211, ag_i189_1212, ag_i189_1215_n, ag_i189_1215_i, ag_i189_1215_r, ag_i189_1217, ag_i189_1218, ag_i189_1221, ag_i189_1223, ag_i189_1226, ag_i189_1227, ag_i189_1228, ag_i189_1230, ag_i189_1233, ag_i189_1234, ag_i189_1235, ag_i189_1236, ag_i189_1238, ag_i189_1239, ag_i189_1240, ag_i189_1243, ag_i189_1244, ag_i189_1245, ag_i189_1603_n, ag_i189_1603_i, ag_i189_1603_r, ag_i189_1606, i1, i2, i3, j1, j2, j3, c45, c46, q1, q2, q3, ag_kk_v, ag_kk_n, Nat.reduceAdd, ag_b0, ag_b1, true_and, or_true, true_or, Int.reduceEq, ne_eq, not_false_eq_true, not_true_eq_false, ↓reduceIte, ag_nm_z, ag_nm_1, ag_k4, hc2]
    exact ih _ _ _ _ _ q8
theorem ag_case_tied (hL : L ≤ 2048) (hx : ∀ i, -2147483648 ≤ xs i ∧ xs i < 2147483648) (hi : 4 * k + 4 ≤ L) (ih : ag_LH L xs (k + 1)) (hW : ag_Wd L xs k τ) (x5 x6 x7 x8 : Option ag_V) : ag_wp 189 1248 [some (ag_R 0), some (ag_R 1), some (ag_R 45), some (ag_R 63), some (ag_I ((4 * k : Nat) : Int)), x5, x6, x7, x8] [] τ ag_fin := by
  have h0 := ag_Wd_0 hW
  obtain ⟨fs, h45⟩ := ag_Wd_45 hW
  have hk : k < 512 := by omega
  have hW9 := hW
  obtain ⟨S, m, T, mt, en, gh, gq, np, nq, qu, li, r, th, hW8⟩ := hW9
  obtain ⟨c, b, τ1, τ2, q1, q2, q3, q4, q5, ⟨q6, q7⟩, q8⟩ := ag_go_tied hW8  (ag_nm_of (hx (((4 * k : Nat) : Int) + 1).toNat).1 (hx (((4 * k : Nat) : Int) + 1).toNat).2)
  have g0 : τ1.1 0 = some (Sum.inl (L, xs)) := q6.trans h0
  have g45 : τ1.1 45 = some (Sum.inr (Sum.inr (Sum.inr (6, fs)))) := q7.trans h45
  obtain ⟨fs2, g46⟩ := ag_Wd_45 q8
  have i1 : ∀ K : Int → Prop, ag_ia τ 0 (((4 * k : Nat) : Int) + 1) K = K (xs (((4 * k : Nat) : Int) + 1).toNat) := fun K => ag_ia_law h0 hL (by omega) (by omega) K
  have i2 : ∀ K : Int → Prop, ag_ia τ 0 (((4 * k : Nat) : Int) + 2) K = K (xs (((4 * k : Nat) : Int) + 2).toNat) := fun K => ag_ia_law h0 hL (by omega) (by omega) K
  have i3 : ∀ K : Int → Prop, ag_ia τ 0 (((4 * k : Nat) : Int) + 3) K = K (xs (((4 * k : Nat) : Int) + 3).toNat) := fun K => ag_ia_law h0 hL (by omega) (by omega) K
  have j1 : ∀ K : Int → Prop, ag_ia τ1 0 (((4 * k : Nat) : Int) + 1) K = K (xs (((4 * k : Nat) : Int) + 1).toNat) := fun K => ag_ia_law g0 hL (by omega) (by omega) K
  have j2 : ∀ K : Int → Prop, ag_ia τ1 0 (((4 * k : Nat) : Int) + 2) K = K (xs (((4 * k : Nat) : Int) + 2).toNat) := fun K => ag_ia_law g0 hL (by omega) (by omega) K
  have j3 : ∀ K : Int → Prop, ag_ia τ1 0 (((4 * k : Nat) : Int) + 3) K = K (xs (((4 * k : Nat) : Int) + 3).toNat) := fun K => ag_ia_law g0 hL (by omega) (by omega) K
  have c45 : ∀ P : Prop, ag_ck τ1 45 6 P = P := ag_cka g45
  have c46 : ∀ P : Prop, ag_ck τ2 45 6 P = P := ag_cka g46
  simp only [List.cons_append, List.nil_append] at q1 q2
  by_cases hc : c = 0
  · obtain ⟨-, f, hf, hf0⟩ := q5 hc
    have hla := fun K => ag_la_law hf K
    rw [hf0] at hla
    simp only [ag_i189_1248, ag_i189_1249, ag_i189_1250, ag_i189_1252, ag_i189_1253, ag_i189_1254, ag_i189_1255, ag_i189_1256, ag_i189_1259_n, ag_i189_1259_i, ag_i189_1259_r, ag_i189_1261, ag_i189_1262, ag_i189_1263, ag_i189_1265, ag_i189_1266, ag_i189_1267, ag_i189_1268, ag_i189_1271_n, ag_i189_1271_i, ag_i189_1271_r, ag_i189_1273, ag_i189_1274, ag_i189_1277, ag_i189_1279, ag_i189_1282, ag_i189_1283, ag_i189_1284, ag_i189_1286, ag_i189_1289, ag_i189_1290, ag_i189_1291, ag_i189_1292, ag_i189_1294, ag_i189_1295, ag_i189_1296, ag_i189_1299, ag_i189_1300, ag_i189_1301, ag_i189_1603_n, ag_i189_1603_i, ag_i189_1603_r, ag_i189_1606, i1, i2, i3, j1, j2, j3, c45, c46, q1, q2, q3, ag_kk_v, ag_kk_n, Nat.reduceAdd, ag_b0, ag_b1, true_and, or_true, true_or, Int.reduceEq, ne_eq, not_false_eq_true, not_true_eq_false, ↓reduceIte, ag_nm_z, ag_nm_1, ag_k4, hc, hla, Int.lt_irrefl]
    exact ih _ _ _ _ _ q8
  · have hc2 : ¬ ag_nm c = 0 := by
      rw [ag_nm_of (by omega) (by omega)]
      exact hc
    simp only [ag_i189_1248, ag_i189_1249, ag_i189_1250, ag_i189_1252, ag_i189_1253, ag_i189_1254, ag_i189_1255, ag_i189_1256, ag_i189_1259_n, ag_i189_1259_i, ag_i189_1259_r, ag_i189_1261, ag_i189_1262, ag_i189_1263, ag_i189_1265, ag_i189_1266, ag_i189_1267, ag_i189_1268, ag_i189_1271_n, ag_i189_1271_i, ag_i189_1271_r, ag_i189_1273, ag_i189_1274, ag_i189_1277, ag_i189_1279, ag_i189_1282, ag_i189_1283, ag_i189_1284, ag_i189_1286, ag_i189_1289, ag_i189_1290, ag_i189_1291, ag_i189_1292, ag_i189_1294, ag_i189_1295, ag_i189_1296, ag_i189_1299, ag_i189_1300, ag_i189_1301, ag_i189_1603_n, ag_i189_1603_i, ag_i189_1603_r, ag_i189_1606, i1, i2, i3, j1, j2, j3, c45, c46, q1, q2, q3, ag_kk_v, ag_kk_n, Nat.reduceAdd, ag_b0, ag_b1, true_and, or_true, true_or, Int.reduceEq, ne_eq, not_false_eq_true, not_true_eq_false, ↓reduceIte, ag_nm_z, ag_nm_1, ag_k4, hc2]
    exact ih _ _ _ _ _ q8
theorem ag_case_meanBelow (ih : ag_LH L xs (k + 1)) (hW : ag_Wd L xs k τ) (x5 x6 x7 x8 : Option ag_V) : ag_wp 189 1304 [some (ag_R 0), some (ag_R 1), some (ag_R 45), some (ag_R 63), some (ag_I ((4 * k : Nat) : Int)), x5, x6, x7, x8] [] τ ag_fin := by
  have h1 := ag_Wd_1 hW
  obtain ⟨fs, h45⟩ := ag_Wd_45 hW
  have hW9 := hW
  obtain ⟨S, m, T, mt, en, gh, gq, np, nq, qu, li, r, th, hW8⟩ := hW9
  obtain ⟨v, τ1, τ2, q1, q2, ⟨x, rfl⟩, q3, q4⟩ := ag_go_meanBelow hW8
  have c1 : ∀ P : Prop, ag_ck τ 1 5 P = P := ag_cka h1
  have c45 : ∀ P : Prop, ag_ck τ1 45 6 P = P := ag_cka (q3.trans h45)
  by_cases hz : ag_nm (Op.cmpValue (FP.dcmp x x) .l).toInt = 0
  · simp only [ag_i189_1304, ag_i189_1305, ag_i189_1308_n, ag_i189_1308_i, ag_i189_1308_r, ag_i189_1310, ag_i189_1311, ag_i189_1314_n, ag_i189_1314_i, ag_i189_1314_r, ag_i189_1316, ag_i189_1318, ag_i189_1320, ag_i189_1321, ag_i189_1324, ag_i189_1326, ag_i189_1328, ag_i189_1329, ag_i189_1332, ag_i189_1334, ag_i189_1336, ag_i189_1337, ag_i189_1340, ag_i189_1341, ag_i189_1342, ag_i189_1603_n, ag_i189_1603_i, ag_i189_1603_r, ag_i189_1606, c1, c45, q1, q2, ag_kk_v, ag_kk_n, Nat.reduceAdd, ag_b0, ag_b1, true_and, or_true, true_or, Int.reduceEq, ne_eq, not_false_eq_true, not_true_eq_false, ↓reduceIte, ag_nm_z, ag_k4, hz]
    exact ih _ _ _ _ _ q4
  · simp only [ag_i189_1304, ag_i189_1305, ag_i189_1308_n, ag_i189_1308_i, ag_i189_1308_r, ag_i189_1310, ag_i189_1311, ag_i189_1314_n, ag_i189_1314_i, ag_i189_1314_r, ag_i189_1316, ag_i189_1318, ag_i189_1320, ag_i189_1321, ag_i189_1324, ag_i189_1326, ag_i189_1328, ag_i189_1329, ag_i189_1332, ag_i189_1334, ag_i189_1336, ag_i189_1337, ag_i189_1340, ag_i189_1341, ag_i189_1342, ag_i189_1603_n, ag_i189_1603_i, ag_i189_1603_r, ag_i189_1606, c1, c45, q1, q2, ag_kk_v, ag_kk_n, Nat.reduceAdd, ag_b0, ag_b1, true_and, or_true, true_or, Int.reduceEq, ne_eq, not_false_eq_true, not_true_eq_false, ↓reduceIte, ag_nm_z, ag_k4, hz]
    exact ih _ _ _ _ _ q4
theorem ag_case_wouldPass (hL : L ≤ 2048) (hx : ∀ i, -2147483648 ≤ xs i ∧ xs i < 2147483648) (hi : 4 * k + 4 ≤ L) (ih : ag_LH L xs (k + 1)) (hW : ag_Wd L xs k τ) (x5 x6 x7 x8 : Option ag_V) : ag_wp 189 1345 [some (ag_R 0), some (ag_R 1), some (ag_R 45), some (ag_R 63), some (ag_I ((4 * k : Nat) : Int)), x5, x6, x7, x8] [] τ ag_fin := by
  have h0 := ag_Wd_0 hW
  obtain ⟨fs, h45⟩ := ag_Wd_45 hW
  have hk : k < 512 := by omega
  have hW9 := hW
  obtain ⟨S, m, T, mt, en, gh, gq, np, nq, qu, li, r, th, hW8⟩ := hW9
  obtain ⟨c, b, τ1, τ2, q1, q2, q3, q4, q5, ⟨q6, q7⟩, q8⟩ := ag_go_wouldPass hW8  (ag_nm_of (hx (((4 * k : Nat) : Int) + 1).toNat).1 (hx (((4 * k : Nat) : Int) + 1).toNat).2)
  have g0 : τ1.1 0 = some (Sum.inl (L, xs)) := q6.trans h0
  have g45 : τ1.1 45 = some (Sum.inr (Sum.inr (Sum.inr (6, fs)))) := q7.trans h45
  obtain ⟨fs2, g46⟩ := ag_Wd_45 q8
  have i1 : ∀ K : Int → Prop, ag_ia τ 0 (((4 * k : Nat) : Int) + 1) K = K (xs (((4 * k : Nat) : Int) + 1).toNat) := fun K => ag_ia_law h0 hL (by omega) (by omega) K
  have i2 : ∀ K : Int → Prop, ag_ia τ 0 (((4 * k : Nat) : Int) + 2) K = K (xs (((4 * k : Nat) : Int) + 2).toNat) := fun K => ag_ia_law h0 hL (by omega) (by omega) K
  have i3 : ∀ K : Int → Prop, ag_ia τ 0 (((4 * k : Nat) : Int) + 3) K = K (xs (((4 * k : Nat) : Int) + 3).toNat) := fun K => ag_ia_law h0 hL (by omega) (by omega) K
  have j1 : ∀ K : Int → Prop, ag_ia τ1 0 (((4 * k : Nat) : Int) + 1) K = K (xs (((4 * k : Nat) : Int) + 1).toNat) := fun K => ag_ia_law g0 hL (by omega) (by omega) K
  have j2 : ∀ K : Int → Prop, ag_ia τ1 0 (((4 * k : Nat) : Int) + 2) K = K (xs (((4 * k : Nat) : Int) + 2).toNat) := fun K => ag_ia_law g0 hL (by omega) (by omega) K
  have j3 : ∀ K : Int → Prop, ag_ia τ1 0 (((4 * k : Nat) : Int) + 3) K = K (xs (((4 * k : Nat) : Int) + 3).toNat) := fun K => ag_ia_law g0 hL (by omega) (by omega) K
  have c45 : ∀ P : Prop, ag_ck τ1 45 6 P = P := ag_cka g45
  have c46 : ∀ P : Prop, ag_ck τ2 45 6 P = P := ag_cka g46
  simp only [List.cons_append, List.nil_append] at q1 q2
  by_cases hc : c = 0
  · obtain ⟨hb, f, hf, hf0⟩ := q5 hc
    have hla := fun K => ag_la_law hf K
    rw [hf0] at hla
    rcases hb with rfl | rfl
    · simp only [ag_i189_1345, ag_i189_1346, ag_i189_1347, ag_i189_1349, ag_i189_1350, ag_i189_1351, ag_i189_1352, ag_i189_1353, ag_i189_1356_n, ag_i189_1356_i, ag_i189_1356_r, ag_i189_1358, ag_i189_1359, ag_i189_1360, ag_i189_1362, ag_i189_1363, ag_i189_1364, ag_i189_1365, ag_i189_1368_n, ag_i189_1368_i, ag_i189_1368_r, ag_i189_1370, ag_i189_1371, ag_i189_1374, ag_i189_1376, ag_i189_1379, ag_i189_1380, ag_i189_1381, ag_i189_1383, ag_i189_1386, ag_i189_1387, ag_i189_1388, ag_i189_1389, ag_i189_1391, ag_i189_1394, ag_i189_1395, ag_i189_1398, ag_i189_1399, ag_i189_1400, ag_i189_1403, ag_i189_1404, ag_i189_1405, ag_i189_1603_n, ag_i189_1603_i, ag_i189_1603_r, ag_i189_1606, i1, i2, i3, j1, j2, j3, c45, c46, q1, q2, q3, ag_kk_v, ag_kk_n, Nat.reduceAdd, ag_b0, ag_b1, true_and, or_true, true_or, Int.reduceEq, ne_eq, not_false_eq_true, not_true_eq_false, ↓reduceIte, ag_nm_z, ag_nm_1, ag_k4, hc, hla, Int.lt_irrefl]
      exact ih _ _ _ _ _ q8
    · simp only [ag_i189_1345, ag_i189_1346, ag_i189_1347, ag_i189_1349, ag_i189_1350, ag_i189_1351, ag_i189_1352, ag_i189_1353, ag_i189_1356_n, ag_i189_1356_i, ag_i189_1356_r, ag_i189_1358, ag_i189_1359, ag_i189_1360, ag_i189_1362, ag_i189_1363, ag_i189_1364, ag_i189_1365, ag_i189_1368_n, ag_i189_1368_i, ag_i189_1368_r, ag_i189_1370, ag_i189_1371, ag_i189_1374, ag_i189_1376, ag_i189_1379, ag_i189_1380, ag_i189_1381, ag_i189_1383, ag_i189_1386, ag_i189_1387, ag_i189_1388, ag_i189_1389, ag_i189_1391, ag_i189_1394, ag_i189_1395, ag_i189_1398, ag_i189_1399, ag_i189_1400, ag_i189_1403, ag_i189_1404, ag_i189_1405, ag_i189_1603_n, ag_i189_1603_i, ag_i189_1603_r, ag_i189_1606, i1, i2, i3, j1, j2, j3, c45, c46, q1, q2, q3, ag_kk_v, ag_kk_n, Nat.reduceAdd, ag_b0, ag_b1, true_and, or_true, true_or, Int.reduceEq, ne_eq, not_false_eq_true, not_true_eq_false, ↓reduceIte, ag_nm_z, ag_nm_1, ag_k4, hc, hla, Int.lt_irrefl]
      exact ih _ _ _ _ _ q8
  · have hc2 : ¬ ag_nm c = 0 := by
      rw [ag_nm_of (by omega) (by omega)]
      exact hc
    simp only [ag_i189_1345, ag_i189_1346, ag_i189_1347, ag_i189_1349, ag_i189_1350, ag_i189_1351, ag_i189_1352, ag_i189_1353, ag_i189_1356_n, ag_i189_1356_i, ag_i189_1356_r, ag_i189_1358, ag_i189_1359, ag_i189_1360, ag_i189_1362, ag_i189_1363, ag_i189_1364, ag_i189_1365, ag_i189_1368_n, ag_i189_1368_i, ag_i189_1368_r, ag_i189_1370, ag_i189_1371, ag_i189_1374, ag_i189_1376, ag_i189_1379, ag_i189_1380, ag_i189_1381, ag_i189_1383, ag_i189_1386, ag_i189_1387, ag_i189_1388, ag_i189_1389, ag_i189_1391, ag_i189_1394, ag_i189_1395, ag_i189_1398, ag_i189_1399, ag_i189_1400, ag_i189_1403, ag_i189_1404, ag_i189_1405, ag_i189_1603_n, ag_i189_1603_i, ag_i189_1603_r, ag_i189_1606, i1, i2, i3, j1, j2, j3, c45, c46, q1, q2, q3, ag_kk_v, ag_kk_n, Nat.reduceAdd, ag_b0, ag_b1, true_and, or_true, true_or, Int.reduceEq, ne_eq, not_false_eq_true, not_true_eq_false, ↓reduceIte, ag_nm_z, ag_nm_1, ag_k4, hc2]
    exact ih _ _ _ _ _ q8
theorem ag_case_wouldMoot (hL : L ≤ 2048) (hx : ∀ i, -2147483648 ≤ xs i ∧ xs i < 2147483648) (hi : 4 * k + 4 ≤ L) (ih : ag_LH L xs (k + 1)) (hW : ag_Wd L xs k τ) (x5 x6 x7 x8 : Option ag_V) : ag_wp 189 1408 [some (ag_R 0), some (ag_R 1), some (ag_R 45), some (ag_R 63), some (ag_I ((4 * k : Nat) : Int)), x5, x6, x7, x8] [] τ ag_fin := by
  have h0 := ag_Wd_0 hW
  obtain ⟨fs, h45⟩ := ag_Wd_45 hW
  have hk : k < 512 := by omega
  have hW9 := hW
  obtain ⟨S, m, T, mt, en, gh, gq, np, nq, qu, li, r, th, hW8⟩ := hW9
  obtain ⟨c, b, τ1, τ2, q1, q2, q3, q4, q5, ⟨q6, q7⟩, q8⟩ := ag_go_wouldMoot hW8  (ag_nm_of (hx (((4 * k : Nat) : Int) + 1).toNat).1 (hx (((4 * k : Nat) : Int) + 1).toNat).2)
  have g0 : τ1.1 0 = some (Sum.inl (L, xs)) := q6.trans h0
  have g45 : τ1.1 45 = some (Sum.inr (Sum.inr (Sum.inr (6, fs)))) := q7.trans h45
  obtain ⟨fs2, g46⟩ := ag_Wd_45 q8
  have i1 : ∀ K : Int → Prop, ag_ia τ 0 (((4 * k : Nat) : Int) + 1) K = K (xs (((4 * k : Nat) : Int) + 1).toNat) := fun K => ag_ia_law h0 hL (by omega) (by omega) K
  have i2 : ∀ K : Int → Prop, ag_ia τ 0 (((4 * k : Nat) : Int) + 2) K = K (xs (((4 * k : Nat) : Int) + 2).toNat) := fun K => ag_ia_law h0 hL (by omega) (by omega) K
  have i3 : ∀ K : Int → Prop, ag_ia τ 0 (((4 * k : Nat) : Int) + 3) K = K (xs (((4 * k : Nat) : Int) + 3).toNat) := fun K => ag_ia_law h0 hL (by omega) (by omega) K
  have j1 : ∀ K : Int → Prop, ag_ia τ1 0 (((4 * k : Nat) : Int) + 1) K = K (xs (((4 * k : Nat) : Int) + 1).toNat) := fun K => ag_ia_law g0 hL (by omega) (by omega) K
  have j2 : ∀ K : Int → Prop, ag_ia τ1 0 (((4 * k : Nat) : Int) + 2) K = K (xs (((4 * k : Nat) : Int) + 2).toNat) := fun K => ag_ia_law g0 hL (by omega) (by omega) K
  have j3 : ∀ K : Int → Prop, ag_ia τ1 0 (((4 * k : Nat) : Int) + 3) K = K (xs (((4 * k : Nat) : Int) + 3).toNat) := fun K => ag_ia_law g0 hL (by omega) (by omega) K
  have c45 : ∀ P : Prop, ag_ck τ1 45 6 P = P := ag_cka g45
  have c46 : ∀ P : Prop, ag_ck τ2 45 6 P = P := ag_cka g46
  simp only [List.cons_append, List.nil_append] at q1 q2
  by_cases hc : c = 0
  · obtain ⟨-, f, hf, hf0⟩ := q5 hc
    have hla := fun K => ag_la_law hf K
    rw [hf0] at hla
    simp only [ag_i189_1408, ag_i189_1409, ag_i189_1410, ag_i189_1412, ag_i189_1413, ag_i189_1414, ag_i189_1415, ag_i189_1416, ag_i189_1419_n, ag_i189_1419_i, ag_i189_1419_r, ag_i189_1421, ag_i189_1422, ag_i189_1423, ag_i189_1425, ag_i189_1426, ag_i189_1427, ag_i189_1428, ag_i189_1431_n, ag_i189_1431_i, ag_i189_1431_r, ag_i189_1433, ag_i189_1434, ag_i189_1437, ag_i189_1439, ag_i189_1442, ag_i189_1443, ag_i189_1444, ag_i189_1446, ag_i189_1449, ag_i189_1450, ag_i189_1451, ag_i189_1452, ag_i189_1454, ag_i189_1455, ag_i189_1456, ag_i189_1459, ag_i189_1460, ag_i189_1461, ag_i189_1603_n, ag_i189_1603_i, ag_i189_1603_r, ag_i189_1606, i1, i2, i3, j1, j2, j3, c45, c46, q1, q2, q3, ag_kk_v, ag_kk_n, Nat.reduceAdd, ag_b0, ag_b1, true_and, or_true, true_or, Int.reduceEq, ne_eq, not_false_eq_true, not_true_eq_false, ↓reduceIte, ag_nm_z, ag_nm_1, ag_k4, hc, hla, Int.lt_irrefl]
    exact ih _ _ _ _ _ q8
  · have hc2 : ¬ ag_nm c = 0 := by
      rw [ag_nm_of (by omega) (by omega)]
      exact hc
    simp only [ag_i189_1408, ag_i189_1409, ag_i189_1410, ag_i189_1412, ag_i189_1413, ag_i189_1414, ag_i189_1415, ag_i189_1416, ag_i189_1419_n, ag_i189_1419_i, ag_i189_1419_r, ag_i189_1421, ag_i189_1422, ag_i189_1423, ag_i189_1425, ag_i189_1426, ag_i189_1427, ag_i189_1428, ag_i189_1431_n, ag_i189_1431_i, ag_i189_1431_r, ag_i189_1433, ag_i189_1434, ag_i189_1437, ag_i189_1439, ag_i189_1442, ag_i189_1443, ag_i189_1444, ag_i189_1446, ag_i189_1449, ag_i189_1450, ag_i189_1451, ag_i189_1452, ag_i189_1454, ag_i189_1455, ag_i189_1456, ag_i189_1459, ag_i189_1460, ag_i189_1461, ag_i189_1603_n, ag_i189_1603_i, ag_i189_1603_r, ag_i189_1606, i1, i2, i3, j1, j2, j3, c45, c46, q1, q2, q3, ag_kk_v, ag_kk_n, Nat.reduceAdd, ag_b0, ag_b1, true_and, or_true, true_or, Int.reduceEq, ne_eq, not_false_eq_true, not_true_eq_false, ↓reduceIte, ag_nm_z, ag_nm_1, ag_k4, hc2]
    exact ih _ _ _ _ _ q8
theorem ag_case_inTheEnd (ih : ag_LH L xs (k + 1)) (hW : ag_Wd L xs k τ) (x5 x6 x7 x8 : Option ag_V) : ag_wp 189 1464 [some (ag_R 0), some (ag_R 1), some (ag_R 45), some (ag_R 63), some (ag_I ((4 * k : Nat) : Int)), x5, x6, x7, x8] [] τ ag_fin := by
  have h1 := ag_Wd_1 hW
  obtain ⟨fs, h45⟩ := ag_Wd_45 hW
  have hW9 := hW
  obtain ⟨S, m, T, mt, en, gh, gq, np, nq, qu, li, r, th, hW8⟩ := hW9
  obtain ⟨v, τ1, τ2, q1, q2, ⟨x, rfl⟩, q3, q4⟩ := ag_go_inTheEnd hW8
  have c1 : ∀ P : Prop, ag_ck τ 1 5 P = P := ag_cka h1
  have c45 : ∀ P : Prop, ag_ck τ1 45 6 P = P := ag_cka (q3.trans h45)
  simp only [ag_i189_1464, ag_i189_1465, ag_i189_1468, ag_i189_1469, ag_i189_1472, ag_i189_1475, ag_i189_1476, ag_i189_1603_n, ag_i189_1603_i, ag_i189_1603_r, ag_i189_1606, c1, c45, q1, q2, ag_kk_v, ag_kk_n, Nat.reduceAdd, ag_b0, ag_b1, true_and, or_true, true_or, Int.reduceEq, ne_eq, not_false_eq_true, not_true_eq_false, ↓reduceIte, ag_nm_z, ag_k4, Int.lt_irrefl]
  exact ih _ _ _ _ _ q4
theorem ag_case_otherwise (hL : L ≤ 2048) (hx : ∀ i, -2147483648 ≤ xs i ∧ xs i < 2147483648) (hi : 4 * k + 4 ≤ L) (ih : ag_LH L xs (k + 1)) (hW : ag_Wd L xs k τ) (x5 x6 x7 x8 : Option ag_V) : ag_wp 189 1477 [some (ag_R 0), some (ag_R 1), some (ag_R 45), some (ag_R 63), some (ag_I ((4 * k : Nat) : Int)), x5, x6, x7, x8] [] τ ag_fin := by
  have h0 := ag_Wd_0 hW
  obtain ⟨fs, h45⟩ := ag_Wd_45 hW
  have hk : k < 512 := by omega
  have hW9 := hW
  obtain ⟨S, m, T, mt, en, gh, gq, np, nq, qu, li, r, th, hW8⟩ := hW9
  obtain ⟨c, b, τ1, τ2, q1, q2, q3, q4, q5, ⟨q6, q7⟩, q8⟩ := ag_go_otherwise hW8  (ag_nm_of (hx (((4 * k : Nat) : Int) + 1).toNat).1 (hx (((4 * k : Nat) : Int) + 1).toNat).2)
  have g0 : τ1.1 0 = some (Sum.inl (L, xs)) := q6.trans h0
  have g45 : τ1.1 45 = some (Sum.inr (Sum.inr (Sum.inr (6, fs)))) := q7.trans h45
  obtain ⟨fs2, g46⟩ := ag_Wd_45 q8
  have i1 : ∀ K : Int → Prop, ag_ia τ 0 (((4 * k : Nat) : Int) + 1) K = K (xs (((4 * k : Nat) : Int) + 1).toNat) := fun K => ag_ia_law h0 hL (by omega) (by omega) K
  have i2 : ∀ K : Int → Prop, ag_ia τ 0 (((4 * k : Nat) : Int) + 2) K = K (xs (((4 * k : Nat) : Int) + 2).toNat) := fun K => ag_ia_law h0 hL (by omega) (by omega) K
  have i3 : ∀ K : Int → Prop, ag_ia τ 0 (((4 * k : Nat) : Int) + 3) K = K (xs (((4 * k : Nat) : Int) + 3).toNat) := fun K => ag_ia_law h0 hL (by omega) (by omega) K
  have j1 : ∀ K : Int → Prop, ag_ia τ1 0 (((4 * k : Nat) : Int) + 1) K = K (xs (((4 * k : Nat) : Int) + 1).toNat) := fun K => ag_ia_law g0 hL (by omega) (by omega) K
  have j2 : ∀ K : Int → Prop, ag_ia τ1 0 (((4 * k : Nat) : Int) + 2) K = K (xs (((4 * k : Nat) : Int) + 2).toNat) := fun K => ag_ia_law g0 hL (by omega) (by omega) K
  have j3 : ∀ K : Int → Prop, ag_ia τ1 0 (((4 * k : Nat) : Int) + 3) K = K (xs (((4 * k : Nat) : Int) + 3).toNat) := fun K => ag_ia_law g0 hL (by omega) (by omega) K
  have c45 : ∀ P : Prop, ag_ck τ1 45 6 P = P := ag_cka g45
  have c46 : ∀ P : Prop, ag_ck τ2 45 6 P = P := ag_cka g46
  simp only [List.cons_append, List.nil_append] at q1 q2
  by_cases hc : c = 0
  · obtain ⟨-, f, hf, hf0⟩ := q5 hc
    have hla := fun K => ag_la_law hf K
    rw [hf0] at hla
    simp only [ag_i189_1477, ag_i189_1478, ag_i189_1479, ag_i189_1481, ag_i189_1482, ag_i189_1483, ag_i189_1484, ag_i189_1485, ag_i189_1488_n, ag_i189_1488_i, ag_i189_1488_r, ag_i189_1490, ag_i189_1491, ag_i189_1492, ag_i189_1494, ag_i189_1495, ag_i189_1496, ag_i189_1497, ag_i189_1500_n, ag_i189_1500_i, ag_i189_1500_r, ag_i189_1502, ag_i189_1503, ag_i189_1506, ag_i189_1508, ag_i189_1511, ag_i189_1512, ag_i189_1513, ag_i189_1515, ag_i189_1518, ag_i189_1519, ag_i189_1520, ag_i189_1521, ag_i189_1523, ag_i189_1524, ag_i189_1525, ag_i189_1528, ag_i189_1529, ag_i189_1530, ag_i189_1603_n, ag_i189_1603_i, ag_i189_1603_r, ag_i189_1606, i1, i2, i3, j1, j2, j3, c45, c46, q1, q2, q3, ag_kk_v, ag_kk_n, Nat.reduceAdd, ag_b0, ag_b1, true_and, or_true, true_or, Int.reduceEq, ne_eq, not_false_eq_true, not_true_eq_false, ↓reduceIte, ag_nm_z, ag_nm_1, ag_k4, hc, hla, Int.lt_irrefl]
    exact ih _ _ _ _ _ q8
  · have hc2 : ¬ ag_nm c = 0 := by
      rw [ag_nm_of (by omega) (by omega)]
      exact hc
    simp only [ag_i189_1477, ag_i189_1478, ag_i189_1479, ag_i189_1481, ag_i189_1482, ag_i189_1483, ag_i189_1484, ag_i189_1485, ag_i189_1488_n, ag_i189_1488_i, ag_i189_1488_r, ag_i189_1490, ag_i189_1491, ag_i189_1492, ag_i189_1494, ag_i189_1495, ag_i189_1496, ag_i189_1497, ag_i189_1500_n, ag_i189_1500_i, ag_i189_1500_r, ag_i189_1502, ag_i189_1503, ag_i189_1506, ag_i189_1508, ag_i189_1511, ag_i189_1512, ag_i189_1513, ag_i189_1515, ag_i189_1518, ag_i189_1519, ag_i189_1520, ag_i189_1521, ag_i189_1523, ag_i189_1524, ag_i189_1525, ag_i189_1528, ag_i189_1529, ag_i189_1530, ag_i189_1603_n, ag_i189_1603_i, ag_i189_1603_r, ag_i189_1606, i1, i2, i3, j1, j2, j3, c45, c46, q1, q2, q3, ag_kk_v, ag_kk_n, Nat.reduceAdd, ag_b0, ag_b1, true_and, or_true, true_or, Int.reduceEq, ne_eq, not_false_eq_true, not_true_eq_false, ↓reduceIte, ag_nm_z, ag_nm_1, ag_k4, hc2]
    exact ih _ _ _ _ _ q8
theorem ag_case_calledAt (hL : L ≤ 2048) (hx : ∀ i, -2147483648 ≤ xs i ∧ xs i < 2147483648) (hi : 4 * k + 4 ≤ L) (ih : ag_LH L xs (k + 1)) (hW : ag_Wd L xs k τ) (x5 x6 x7 x8 : Option ag_V) : ag_wp 189 1533 [some (ag_R 0), some (ag_R 1), some (ag_R 45), some (ag_R 63), some (ag_I ((4 * k : Nat) : Int)), x5, x6, x7, x8] [] τ ag_fin := by
  have h0 := ag_Wd_0 hW
  obtain ⟨fs, h45⟩ := ag_Wd_45 hW
  have hk : k < 512 := by omega
  have hW9 := hW
  obtain ⟨S, m, T, mt, en, gh, gq, np, nq, qu, li, r, th, hW8⟩ := hW9
  obtain ⟨c, b, τ1, τ2, q1, q2, q3, q4, q5, ⟨q6, q7⟩, q8⟩ := ag_go_calledAt hW8  (ag_nm_of (hx (((4 * k : Nat) : Int) + 1).toNat).1 (hx (((4 * k : Nat) : Int) + 1).toNat).2)
  have g0 : τ1.1 0 = some (Sum.inl (L, xs)) := q6.trans h0
  have g45 : τ1.1 45 = some (Sum.inr (Sum.inr (Sum.inr (6, fs)))) := q7.trans h45
  obtain ⟨fs2, g46⟩ := ag_Wd_45 q8
  have i1 : ∀ K : Int → Prop, ag_ia τ 0 (((4 * k : Nat) : Int) + 1) K = K (xs (((4 * k : Nat) : Int) + 1).toNat) := fun K => ag_ia_law h0 hL (by omega) (by omega) K
  have i2 : ∀ K : Int → Prop, ag_ia τ 0 (((4 * k : Nat) : Int) + 2) K = K (xs (((4 * k : Nat) : Int) + 2).toNat) := fun K => ag_ia_law h0 hL (by omega) (by omega) K
  have i3 : ∀ K : Int → Prop, ag_ia τ 0 (((4 * k : Nat) : Int) + 3) K = K (xs (((4 * k : Nat) : Int) + 3).toNat) := fun K => ag_ia_law h0 hL (by omega) (by omega) K
  have j1 : ∀ K : Int → Prop, ag_ia τ1 0 (((4 * k : Nat) : Int) + 1) K = K (xs (((4 * k : Nat) : Int) + 1).toNat) := fun K => ag_ia_law g0 hL (by omega) (by omega) K
  have j2 : ∀ K : Int → Prop, ag_ia τ1 0 (((4 * k : Nat) : Int) + 2) K = K (xs (((4 * k : Nat) : Int) + 2).toNat) := fun K => ag_ia_law g0 hL (by omega) (by omega) K
  have j3 : ∀ K : Int → Prop, ag_ia τ1 0 (((4 * k : Nat) : Int) + 3) K = K (xs (((4 * k : Nat) : Int) + 3).toNat) := fun K => ag_ia_law g0 hL (by omega) (by omega) K
  have c45 : ∀ P : Prop, ag_ck τ1 45 6 P = P := ag_cka g45
  have c46 : ∀ P : Prop, ag_ck τ2 45 6 P = P := ag_cka g46
  simp only [List.cons_append, List.nil_append] at q1 q2
  by_cases hc : c = 0
  · obtain ⟨-, f, hf, hf0⟩ := q5 hc
    have hla := fun K => ag_la_law hf K
    rw [hf0] at hla
    simp only [ag_i189_1533, ag_i189_1534, ag_i189_1535, ag_i189_1537, ag_i189_1538, ag_i189_1539, ag_i189_1540, ag_i189_1541, ag_i189_1544_n, ag_i189_1544_i, ag_i189_1544_r, ag_i189_1546, ag_i189_1547, ag_i189_1548, ag_i189_1550, ag_i189_1551, ag_i189_1552, ag_i189_1553, ag_i189_1556_n, ag_i189_1556_i, ag_i189_1556_r, ag_i189_1558, ag_i189_1559, ag_i189_1562, ag_i189_1564, ag_i189_1567, ag_i189_1568, ag_i189_1569, ag_i189_1571, ag_i189_1574, ag_i189_1575, ag_i189_1576, ag_i189_1577, ag_i189_1579, ag_i189_1580, ag_i189_1581, ag_i189_1584, ag_i189_1585, ag_i189_1586, ag_i189_1603_n, ag_i189_1603_i, ag_i189_1603_r, ag_i189_1606, i1, i2, i3, j1, j2, j3, c45, c46, q1, q2, q3, ag_kk_v, ag_kk_n, Nat.reduceAdd, ag_b0, ag_b1, true_and, or_true, true_or, Int.reduceEq, ne_eq, not_false_eq_true, not_true_eq_false, ↓reduceIte, ag_nm_z, ag_nm_1, ag_k4, hc, hla, Int.lt_irrefl]
    exact ih _ _ _ _ _ q8
  · have hc2 : ¬ ag_nm c = 0 := by
      rw [ag_nm_of (by omega) (by omega)]
      exact hc
    simp only [ag_i189_1533, ag_i189_1534, ag_i189_1535, ag_i189_1537, ag_i189_1538, ag_i189_1539, ag_i189_1540, ag_i189_1541, ag_i189_1544_n, ag_i189_1544_i, ag_i189_1544_r, ag_i189_1546, ag_i189_1547, ag_i189_1548, ag_i189_1550, ag_i189_1551, ag_i189_1552, ag_i189_1553, ag_i189_1556_n, ag_i189_1556_i, ag_i189_1556_r, ag_i189_1558, ag_i189_1559, ag_i189_1562, ag_i189_1564, ag_i189_1567, ag_i189_1568, ag_i189_1569, ag_i189_1571, ag_i189_1574, ag_i189_1575, ag_i189_1576, ag_i189_1577, ag_i189_1579, ag_i189_1580, ag_i189_1581, ag_i189_1584, ag_i189_1585, ag_i189_1586, ag_i189_1603_n, ag_i189_1603_i, ag_i189_1603_r, ag_i189_1606, i1, i2, i3, j1, j2, j3, c45, c46, q1, q2, q3, ag_kk_v, ag_kk_n, Nat.reduceAdd, ag_b0, ag_b1, true_and, or_true, true_or, Int.reduceEq, ne_eq, not_false_eq_true, not_true_eq_false, ↓reduceIte, ag_nm_z, ag_nm_1, ag_k4, hc2]
    exact ih _ _ _ _ _ q8
theorem ag_case_digest (ih : ag_LH L xs (k + 1)) (hW : ag_Wd L xs k τ) (x5 x6 x7 x8 : Option ag_V) : ag_wp 189 1589 [some (ag_R 0), some (ag_R 1), some (ag_R 45), some (ag_R 63), some (ag_I ((4 * k : Nat) : Int)), x5, x6, x7, x8] [] τ ag_fin := by
  have h1 := ag_Wd_1 hW
  obtain ⟨fs, h45⟩ := ag_Wd_45 hW
  have hW9 := hW
  obtain ⟨S, m, T, mt, en, gh, gq, np, nq, qu, li, r, th, hW8⟩ := hW9
  obtain ⟨v, τ1, τ2, q1, q2, ⟨x, rfl⟩, q3, q4⟩ := ag_go_digest hW8
  have c1 : ∀ P : Prop, ag_ck τ 1 5 P = P := ag_cka h1
  have c45 : ∀ P : Prop, ag_ck τ1 45 6 P = P := ag_cka (q3.trans h45)
  simp only [ag_i189_1589, ag_i189_1590, ag_i189_1593, ag_i189_1594, ag_i189_1597, ag_i189_1598, ag_i189_1601, ag_i189_1602, ag_i189_1603_n, ag_i189_1603_i, ag_i189_1603_r, ag_i189_1606, c1, c45, q1, q2, ag_kk_v, ag_kk_n, Nat.reduceAdd, ag_b0, ag_b1, true_and, or_true, true_or, Int.reduceEq, ne_eq, not_false_eq_true, not_true_eq_false, ↓reduceIte, ag_nm_z, ag_k4, Int.lt_irrefl]
  exact ih _ _ _ _ _ q4
theorem ag_law_loop (hL : L ≤ 2048) (hx : ∀ i, -2147483648 ≤ xs i ∧ xs i < 2147483648) : ∀ (n k : Nat), 4 * k ≤ L → L < 4 * (k + n) → ag_LH L xs k := by
  intro n
  induction n with
  | zero => intro k h1 h2; omega
  | succ n ihn =>
    intro k h1 h2 τ x5 x6 x7 x8 hW
    have h0 := ag_Wd_0 hW
    have e1 : ag_nm ((L : Int) - 4) = (L : Int) - 4 := ag_nm_of (by omega) (by omega)
    have e2 : ag_nm ((4 * k : Nat) : Int) = ((4 * k : Nat) : Int) := ag_nm_of (by omega) (by omega)
    have hal := fun K => ag_al_at h0 K
    rw [ag_i189_23]
    by_cases hend : (L : Int) - 4 < ((4 * k : Nat) : Int)
    · simp only [ag_i189_25, ag_i189_26, ag_i189_27, ag_i189_28, ag_i189_29, ag_i189_1609, ag_i189_1610, hal, e1, e2, if_pos hend, ag_nm_1, or_true, true_and]
      exact ag_Wd_fin hW (by omega)
    · have i0 : ∀ K : Int → Prop, ag_ia τ 0 ((4 * k : Nat) : Int) K = K (xs (((4 * k : Nat) : Int)).toNat) := fun K => ag_ia_law h0 hL (by omega) (by omega) K
      simp only [ag_i189_25, ag_i189_26, ag_i189_27, ag_i189_28, ag_i189_29, ag_i189_32, ag_i189_33, ag_i189_35, ag_i189_36, ag_i189_38, hal, e1, e2, if_neg hend, i0]
      have ih : ag_LH L xs (k + 1) := ihn (k + 1) (by omega) (by omega)
      have hi : 4 * k + 4 ≤ L := by omega
      generalize hv : (Int32.ofInt (xs (((4 * k : Nat) : Int)).toNat) &&& Int32.ofInt 31).toInt = v
      obtain hd | h0 | h1 | h2 | h3 | h4 | h5 | h6 | h7 | h8 | h9 | h10 | h11 | h12 | h13 | h14 | h15 | h16 | h17 | h18 | h19 | h20 | h21 | h22 | h23 | h24 | h25 : (ag_nm v < 0 ∨ 25 < ag_nm v) ∨ ag_nm v = 0 ∨ ag_nm v = 1 ∨ ag_nm v = 2 ∨ ag_nm v = 3 ∨ ag_nm v = 4 ∨ ag_nm v = 5 ∨ ag_nm v = 6 ∨ ag_nm v = 7 ∨ ag_nm v = 8 ∨ ag_nm v = 9 ∨ ag_nm v = 10 ∨ ag_nm v = 11 ∨ ag_nm v = 12 ∨ ag_nm v = 13 ∨ ag_nm v = 14 ∨ ag_nm v = 15 ∨ ag_nm v = 16 ∨ ag_nm v = 17 ∨ ag_nm v = 18 ∨ ag_nm v = 19 ∨ ag_nm v = 20 ∨ ag_nm v = 21 ∨ ag_nm v = 22 ∨ ag_nm v = 23 ∨ ag_nm v = 24 ∨ ag_nm v = 25 := by omega
      · rw [ag_i189_39_d _ _ _ _ _ _ _ _ _ _ _ _ hd]
        simp only [ag_i189_1603_n, ag_i189_1603_i, ag_i189_1603_r, ag_i189_1606, ag_k4]
        refine ih _ _ _ _ _ ?_
        obtain ⟨S, m, T, mt, en, gh, gq, np, nq, qu, li, r, th, w1, w2, w3, w4, w5, w6, w7, w8, w9, w10⟩ := hW
        exact ⟨S, m, T, mt, en, gh, gq, np, nq, qu, li, r, th, w1, w2, w3, w4, w5, w6, w7, w8, ag_sp9_s w9, ag_WR_s w10 (ag_Gr_0 _ _ _) (by omega) (by omega)⟩
      · rw [ag_i189_39_0 _ _ _ _ _ _ _ _ _ _ _ _ h0]
        exact ag_case_clause hL hx hi ih hW _ _ _ _
      · rw [ag_i189_39_1 _ _ _ _ _ _ _ _ _ _ _ _ h1]
        exact ag_case_ofClause hL hx hi ih hW _ _ _ _
      · rw [ag_i189_39_2 _ _ _ _ _ _ _ _ _ _ _ _ h2]
        exact ag_case_read hL hx hi ih hW _ _ _ _
      · rw [ag_i189_39_3 _ _ _ _ _ _ _ _ _ _ _ _ h3]
        exact ag_case_many hL hx hi ih hW _ _ _ _
      · rw [ag_i189_39_4 _ _ _ _ _ _ _ _ _ _ _ _ h4]
        exact ag_case_lay hL hx hi ih hW _ _ _ _
      · rw [ag_i189_39_5 _ _ _ _ _ _ _ _ _ _ _ _ h5]
        exact ag_case_change hL hx hi ih hW _ _ _ _
      · rw [ag_i189_39_6 _ _ _ _ _ _ _ _ _ _ _ _ h6]
        exact ag_case_withdraw hL hx hi ih hW _ _ _ _
      · rw [ag_i189_39_7 _ _ _ _ _ _ _ _ _ _ _ _ h7]
        exact ag_case_ofAmendment hL hx hi ih hW _ _ _ _
      · rw [ag_i189_39_8 _ _ _ _ _ _ _ _ _ _ _ _ h8]
        exact ag_case_next ih hW _ _ _ _
      · rw [ag_i189_39_9 _ _ _ _ _ _ _ _ _ _ _ _ h9]
        exact ag_case_canBeDone hL hx hi ih hW _ _ _ _
      · rw [ag_i189_39_10 _ _ _ _ _ _ _ _ _ _ _ _ h10]
        exact ag_case_party hL hx hi ih hW _ _ _ _
      · rw [ag_i189_39_11 _ _ _ _ _ _ _ _ _ _ _ _ h11]
        exact ag_case_vote hL hx hi ih hW _ _ _ _
      · rw [ag_i189_39_12 _ _ _ _ _ _ _ _ _ _ _ _ h12]
        exact ag_case_quorum hL hx hi ih hW _ _ _ _
      · rw [ag_i189_39_13 _ _ _ _ _ _ _ _ _ _ _ _ h13]
        exact ag_case_sit hL hx hi ih hW _ _ _ _
      · rw [ag_i189_39_14 _ _ _ _ _ _ _ _ _ _ _ _ h14]
        exact ag_case_speak hL hx hi ih hW _ _ _ _
      · rw [ag_i189_39_15 _ _ _ _ _ _ _ _ _ _ _ _ h15]
        exact ag_case_call hL hx hi ih hW _ _ _ _
      · rw [ag_i189_39_16 _ _ _ _ _ _ _ _ _ _ _ _ h16]
        exact ag_case_ofParty hL hx hi ih hW _ _ _ _
      · rw [ag_i189_39_17 _ _ _ _ _ _ _ _ _ _ _ _ h17]
        exact ag_case_petition hL hx hi ih hW _ _ _ _
      · rw [ag_i189_39_18 _ _ _ _ _ _ _ _ _ _ _ _ h18]
        exact ag_case_tied hL hx hi ih hW _ _ _ _
      · rw [ag_i189_39_19 _ _ _ _ _ _ _ _ _ _ _ _ h19]
        exact ag_case_meanBelow ih hW _ _ _ _
      · rw [ag_i189_39_20 _ _ _ _ _ _ _ _ _ _ _ _ h20]
        exact ag_case_wouldPass hL hx hi ih hW _ _ _ _
      · rw [ag_i189_39_21 _ _ _ _ _ _ _ _ _ _ _ _ h21]
        exact ag_case_wouldMoot hL hx hi ih hW _ _ _ _
      · rw [ag_i189_39_22 _ _ _ _ _ _ _ _ _ _ _ _ h22]
        exact ag_case_inTheEnd ih hW _ _ _ _
      · rw [ag_i189_39_23 _ _ _ _ _ _ _ _ _ _ _ _ h23]
        exact ag_case_otherwise hL hx hi ih hW _ _ _ _
      · rw [ag_i189_39_24 _ _ _ _ _ _ _ _ _ _ _ _ h24]
        exact ag_case_calledAt hL hx hi ih hW _ _ _ _
      · rw [ag_i189_39_25 _ _ _ _ _ _ _ _ _ _ _ _ h25]
        exact ag_case_digest ih hW _ _ _ _
end AGLAW
theorem ag_law (L : Nat) (xs : Nat → Int) (hL : L ≤ 2048) (hx : ∀ i, -2147483648 ≤ xs i ∧ xs i < 2147483648) : ag_wp 189 0 (ag_en 189 [ag_R 0]) [] (ag_S0 L xs) ag_fin := by
  obtain ⟨τ, hW, hq⟩ := ag_begin L xs
  rw [hq]
  exact ag_law_loop hL hx (L + 1) 0 (by omega) (by omega) τ _ _ _ _ hW
theorem whole_start {p : Program} {e : Env} {s : State} {m : MethodId} {below : List Frame} {meth : Method} {c : Code} (l : Launch) (hflags : l.flags = flags0) {b L : Nat} {xs : Nat → Int32} (hL : L ≤ 2048) (C0 : lw_At p s m meth c b L xs) : W p l e room_1 s m #[Value.ref b] below meth c s.heap [] 0 0 (lw_Z below #[Value.ref b] s) (entryFrame m ([Value.ref b] : List Value).toArray 9) := ag_start ag_law l hflags hL C0
