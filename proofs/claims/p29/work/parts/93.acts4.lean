/-! THE HOUSE: lay. -/
variable {B : Nat}
section AGAF
variable {σ : ag_S} {L ln : Nat → Nat} {g : Nat → Nat → Int} {dr qu mi : Int} {gb gp gh gq : Nat → Nat → Int} {w n m np nq k : Nat} {S : ag_T}
def ag_row6 (kd t o : Int) : Nat → Int := ag_ui (ag_ui (ag_ui (ag_ui (ag_ui (ag_ui (fun _ => 0) 0 kd) 1 t) 2 o) 3 0) 4 (-1)) 5 (-1)
/-- one more amendment, and its votes -/
theorem ag_w_add (h : ag_HS B σ L ln g dr qu mi) (ta : ag_TA gp m ln g) (tv : ag_TV gh m ln g) (hz : ∀ p b : Nat, p < 5 → m ≤ b → b < 20 → gh 3 (p * 20 + b) = 0) (hm : m < 20) {kd t o : Int} (k1 : -100000 ≤ kd ∧ kd ≤ 100000) (t1 : -100000 ≤ t ∧ t ≤ 100000) (o1 : -100000 ≤ o ∧ o ≤ 100000) :
    ∃ (σa σb σd σe : ag_S) (Lb lnb : Nat → Nat) (gb' : Nat → Nat → Int) (q3 q4 : Nat) (Le lne : Nat → Nat) (ge : Nat → Nat → Int), (∀ K : ag_Rs → ag_S → Prop, ag_cl9 98 [ag_R (L 3), ag_R (σ.2.1 + 1)] (ag_n9 σ (Sum.inl (6, ag_row6 kd t o)) 6) K = K (Sum.inl (some (ag_R q3))) σa) ∧ ag_HS B (ag_n9 σ (Sum.inl (6, ag_row6 kd t o)) 6) L ln g dr qu mi ∧ (∀ K : ag_S → Prop, ag_pf σa B 6 5 (ag_R q3) K = K σb) ∧ ag_HS B σb Lb lnb gb' dr qu mi ∧
      (∀ K : ag_Rs → ag_S → Prop, ag_cl9 98 [ag_R (Lb 4), ag_R (σb.2.1 + 1)] (ag_n9 σb (Sum.inl (5, fun _ => 0)) 5) K = K (Sum.inl (some (ag_R q4))) σd) ∧ (∀ K : ag_S → Prop, ag_pf σd B 6 6 (ag_R q4) K = K σe) ∧
      ag_HS B σe Le lne ge dr qu mi ∧ ag_TA (ag_adp gp m kd t o) (m + 1) lne ge ∧ ag_TV gh (m + 1) lne ge ∧ (∀ r, r ≠ 3 → r ≠ 4 → r ≠ 300 + m → r ≠ 400 + m → lne r = ln r ∧ ge r = g r) ∧ ag_hf B σ σe 4 400 := by
  have hB9 := h.2.2.2.2.2.1.2
  have f1 := ag_fr_n9 σ (Sum.inl (6, ag_row6 kd t o)) 6
  have h1 := ag_HS_fr h f1
  have hF : ∀ i, -100000 ≤ ag_row6 kd t o i ∧ ag_row6 kd t o i ≤ 100000 := fun i => by
    unfold ag_row6 ag_ui
    repeat' split
    all_goals first
      | omega
      | (dsimp only; omega)
  have hn1 : ag_hnew B (ag_n9 σ (Sum.inl (6, ag_row6 kd t o)) 6) L ln (σ.2.1 + 1) := ag_HS_new h (Nat.lt_succ_self _) (Nat.lt_succ_self _) (Nat.le_refl _)
  obtain ⟨σa, σb, a1, a2, a3, a4⟩ := ag_h_add3 h1 (ag_n9_at _ _ _) hn1 hF (by rw [ta.1]; omega)
  have f2 := ag_fr_n9 σb (Sum.inl (5, fun _ => (0 : Int))) 5
  have h2 := ag_HS_fr a4 f2
  have l4 : ag_uf (ag_uf ln 3 (ln 3 + 1)) (300 + ln 3) 6 4 = m := by
    rw [ag_uf_ne (by omega), ag_uf_ne (by omega)]
    exact tv.1
  obtain ⟨σd, σe, b1, b2, b3, b4⟩ := ag_h_add4 h2 (ag_n9_at σb (Sum.inl (5, fun _ => (0 : Int))) 5) (ag_HS_new a4 (Nat.lt_succ_self _) (Nat.lt_succ_self _) (Nat.le_refl _)) (fun i => ⟨show (-100000 : Int) ≤ 0 by decide, show (0 : Int) ≤ 100000 by decide⟩) (by rw [l4]; omega)
  rw [l4] at b4
  rw [ta.1] at a4 b1 b4
  have keep : ∀ r, r ≠ 3 → r ≠ 4 → r ≠ 300 + m → r ≠ 400 + m → ag_uf (ag_uf (ag_uf (ag_uf ln 3 (m + 1)) (300 + m) 6) 4 (m + 1)) (400 + m) 5 r = ln r ∧ ag_ug (ag_ug g (300 + m) (ag_row6 kd t o)) (400 + m) (fun _ => 0) r = g r := fun r r1 r2 r3 r4 => by
    rw [ag_uf_ne r4, ag_uf_ne r2, ag_uf_ne r3, ag_uf_ne r1, ag_ug_ne _ _ r4, ag_ug_ne _ _ r3]
    exact ⟨rfl, rfl⟩
  refine ⟨σa, σb, σd, σe, _, _, _, _, _, _, _, _, a1, h1, a2, a4, b1, b2, b4, ?_, ?_, keep, ag_hf_le (ag_hf_trans (ag_hf_fr f1 hB9) (ag_hf_trans a3 (ag_hf_trans (ag_hf_fr f2 a4.2.2.2.2.2.1.2) b3))) (by omega) (by omega)⟩
  · refine ⟨by rw [ag_uf_ne (by omega), ag_uf_ne (by omega), ag_uf_ne (by omega), ag_uf_at], fun b hb => ?_⟩
    by_cases z : b = m
    · subst z
      rw [ag_uf_ne (by omega), ag_uf_ne (by omega), ag_uf_at, ag_ug_ne _ _ (by omega), ag_ug_same]
      refine ⟨rfl, fun j hj => ?_⟩
      have h6 : j = 0 ∨ j = 1 ∨ j = 2 ∨ j = 3 ∨ j = 4 ∨ j = 5 := by omega
      rcases h6 with h6 | h6 | h6 | h6 | h6 | h6 <;> subst h6
      · show kd = ag_ui (gp 0) b kd b
        rw [ag_ui_eq9]
      · show t = ag_ui (gp 1) b t b
        rw [ag_ui_eq9]
      · show o = ag_ui (gp 2) b o b
        rw [ag_ui_eq9]
      · show 0 = ag_ui (gp 3) b 0 b
        rw [ag_ui_eq9]
      · show -1 = ag_ui (gp 4) b (-1) b
        rw [ag_ui_eq9]
      · show -1 = ag_ui (gp 5) b (-1) b
        rw [ag_ui_eq9]
    · obtain ⟨e1, e2⟩ := keep (300 + b) (by omega) (by omega) (by omega) (by omega)
      rw [e1, e2]
      obtain ⟨t1, t2⟩ := ta.2 b (by omega)
      refine ⟨t1, fun j hj => (t2 j hj).trans ?_⟩
      have h6 : j = 0 ∨ j = 1 ∨ j = 2 ∨ j = 3 ∨ j = 4 ∨ j = 5 := by omega
      rcases h6 with h6 | h6 | h6 | h6 | h6 | h6 <;> subst h6
      · exact (show ag_ui (gp 0) m kd b = gp 0 b from if_neg z).symm
      · exact (show ag_ui (gp 1) m t b = gp 1 b from if_neg z).symm
      · exact (show ag_ui (gp 2) m o b = gp 2 b from if_neg z).symm
      · exact (show ag_ui (gp 3) m 0 b = gp 3 b from if_neg z).symm
      · exact (show ag_ui (gp 4) m (-1) b = gp 4 b from if_neg z).symm
      · exact (show ag_ui (gp 5) m (-1) b = gp 5 b from if_neg z).symm
  · refine ⟨by rw [ag_uf_ne (by omega), ag_uf_at], fun b hb => ?_⟩
    by_cases z : b = m
    · subst z
      rw [ag_uf_at, ag_ug_same]
      exact ⟨rfl, fun p hp => (hz p b hp (Nat.le_refl _) hm).symm⟩
    · obtain ⟨e1, e2⟩ := keep (400 + b) (by omega) (by omega) (by omega) (by omega)
      rw [e1, e2]
      exact tv.2 b (by omega)
/-- what is drawn to lay -/
theorem ag_l_pre (h : ag_HS B σ L ln g dr qu mi) (tc : ag_TC gb w n ln g) (hw : 1 ≤ w) (hw40 : w ≤ 40) (hd : dr ≤ 90000) :
    ∃ (kd t x : Nat) (σ3 : ag_S), kd < 5 ∧ t < w ∧ (kd = 1 → x < w) ∧ (kd ≠ 1 → x < 6) ∧ ag_HS B σ3 L ln g (dr + 1 + 1 + 1) qu mi ∧ ag_hf B σ σ3 0 0 ∧ ∀ K : ag_Rs → ag_S → Prop, ag_cl9 112 [ag_R B] σ K = ag_wp 112 40 [some (ag_R B), some (ag_I (kd : Int)), some (ag_I (t : Int)), some (ag_I (x : Int)), none, none, none] [] σ3 K := by
  obtain ⟨kd, σ1, v1, h1, f1, o1, e1, d1⟩ := ag_w_draw h (by omega) (show 1 ≤ 5 by decide) (by decide)
  have d1 : ∀ K : ag_Rs → ag_S → Prop, ag_cl9 96 [ag_R B, ag_I 5] σ K = K (Sum.inl (some (ag_I (kd : Int)))) σ1 := d1
  obtain ⟨t, σ2, v2, h2, f2, o2, e2, d2⟩ := ag_w_draw h1 (by omega) hw (by omega)
  have kn : ag_nm (kd : Int) = kd := ag_nm_nat (by omega)
  by_cases c : kd = 1
  · obtain ⟨x, σ3, v3, h3, f3, o3, e3, d3⟩ := ag_w_draw h2 (by omega) hw (by omega)
    refine ⟨kd, t, x, σ3, v1, v2, fun _ => v3, fun z => absurd c z, h3, ag_hf_trans f1 (ag_hf_trans f2 f3), fun K => ?_⟩
    simp only [ag_e112, ag_i112_0, ag_i112_1, ag_i112_2, ag_h_ck h, d1, ag_kk_v, ag_kk_n, Nat.reduceAdd, ag_i112_5_n, ag_i112_5_i, ag_i112_5_r, ag_i112_6, ag_i112_7, ag_i112_8, ag_h_g3 h1, ag_i112_11, ag_h_a1 h1, tc.1, ag_i112_12, ag_h_ck h1, d2, ag_kk_v, ag_kk_n, Nat.reduceAdd, ag_i112_15_n, ag_i112_15_i, ag_i112_15_r, ag_i112_16, ag_i112_17, ag_i112_18, kn, ag_nm_1]
    rw [if_neg (show ¬ (kd : Int) ≠ 1 by omega)]
    simp only [ag_i112_21, ag_i112_22, ag_i112_23, ag_h_g3 h2, ag_i112_26, ag_h_a1 h2, tc.1, ag_i112_27, ag_h_ck h2, d3, ag_kk_v, ag_kk_n, Nat.reduceAdd, ag_i112_30, ag_i112_39_n, ag_i112_39_i, ag_i112_39_r]
  · obtain ⟨x, σ3, v3, h3, f3, o3, e3, d3⟩ := ag_w_draw h2 (by omega) (show 1 ≤ 6 by decide) (by decide)
    have d3 : ∀ K : ag_Rs → ag_S → Prop, ag_cl9 96 [ag_R B, ag_I 6] σ2 K = K (Sum.inl (some (ag_I (x : Int)))) σ3 := d3
    refine ⟨kd, t, x, σ3, v1, v2, fun z => absurd z c, fun _ => v3, h3, ag_hf_trans f1 (ag_hf_trans f2 f3), fun K => ?_⟩
    simp only [ag_e112, ag_i112_0, ag_i112_1, ag_i112_2, ag_h_ck h, d1, ag_kk_v, ag_kk_n, Nat.reduceAdd, ag_i112_5_n, ag_i112_5_i, ag_i112_5_r, ag_i112_6, ag_i112_7, ag_i112_8, ag_h_g3 h1, ag_i112_11, ag_h_a1 h1, tc.1, ag_i112_12, ag_h_ck h1, d2, ag_kk_v, ag_kk_n, Nat.reduceAdd, ag_i112_15_n, ag_i112_15_i, ag_i112_15_r, ag_i112_16, ag_i112_17, ag_i112_18, kn, ag_nm_1]
    rw [if_pos (show (kd : Int) ≠ 1 by omega)]
    simp only [ag_i112_33, ag_i112_34, ag_i112_36, ag_h_ck h2, d3, ag_kk_v, ag_kk_n, Nat.reduceAdd, ag_i112_39_n, ag_i112_39_i, ag_i112_39_r]
/-- struck ones are left alone -/
theorem ag_l_str (h : ag_HS B σ L ln g dr qu mi) (tc : ag_TC gb w n ln g) {kd t x : Nat} (hk : kd < 5) (ht : t < w) (hx : kd = 1 → x < w) (K : ag_Rs → ag_S → Prop) :
    ag_wp 112 40 [some (ag_R B), some (ag_I (kd : Int)), some (ag_I (t : Int)), some (ag_I (x : Int)), none, none, none] [] σ K = if gb 5 t = -1 ∨ (kd = 1 ∧ gb 5 x = -1) then K (Sum.inl (some (ag_I 1))) σ else ag_wp 112 71 [some (ag_R B), some (ag_I (kd : Int)), some (ag_I (t : Int)), some (ag_I (x : Int)), none, none, none] [] σ K := by
  have kn : ag_nm (kd : Int) = kd := ag_nm_nat (by omega)
  rw [ag_i112_40]
  simp only [ag_i112_41, ag_h_g3 h, ag_i112_44, ag_i112_45, ag_c_q h tc ht (x := (t : Int)) rfl, ag_i112_46, ag_i112_47, ag_c_i4 h tc ht, ag_i112_48, ag_i112_49, ag_nm_1]
  by_cases c : gb 5 t = -1
  · rw [if_pos c, if_pos ag_nm_1, if_pos (Or.inl c)]
    simp only [ag_i112_69, ag_i112_70, ag_b0, ag_b1, true_and, or_true, true_or, Int.reduceEq, ne_eq, not_false_eq_true, not_true_eq_false, ↓reduceIte]
  · rw [if_neg c, if_neg (show ¬ ag_nm 0 = 1 by decide +kernel)]
    simp only [ag_i112_52, ag_i112_53, ag_i112_54, kn, ag_nm_1]
    by_cases c2 : kd = 1
    · rw [if_neg (show ¬ (kd : Int) ≠ 1 by omega)]
      simp only [ag_i112_57, ag_i112_58, ag_h_g3 h, ag_i112_61, ag_i112_62, ag_c_q h tc (hx c2) (x := (x : Int)) rfl, ag_i112_63, ag_i112_64, ag_c_i4 h tc (hx c2), ag_i112_65, ag_i112_66, ag_nm_1]
      by_cases c3 : gb 5 x = -1
      · rw [if_pos c3, if_neg (show ¬ ag_nm 1 ≠ 1 by decide +kernel), if_pos (Or.inr ⟨c2, c3⟩)]
        simp only [ag_i112_69, ag_i112_70, ag_b0, ag_b1, true_and, or_true, true_or, Int.reduceEq, ne_eq, not_false_eq_true, not_true_eq_false, ↓reduceIte]
      · rw [if_neg c3, if_pos (show ag_nm 0 ≠ 1 by decide +kernel), if_neg (by omega)]
    · rw [if_pos (show (kd : Int) ≠ 1 by omega), if_neg (by omega)]
/-- whether it may be laid -/
theorem ag_l_may (h : ag_HS B σ L ln g dr qu mi) (tc : ag_TC gb w n ln g) (ta : ag_TA gp m ln g) (hB : ag_IB gb w n) (hm : m ≤ 20) {kd t x : Nat} (hk : kd < 5) {p e : Nat} (hc : ag_hat gb w n (t : Int) p e) (hx : (kd : Int) = 1 → ∃ q f, ag_hat gb w n (x : Int) q f) :
    ∃ (σ' : ag_S) (y : Int), ((y = 1 ∧ m < 20 ∧ ag_fit gb w n (kd : Int) (t : Int) (x : Int) = 1) ∨ (y = 0 ∧ (20 ≤ m ∨ ag_fit gb w n (kd : Int) (t : Int) (x : Int) = 0))) ∧ ag_fr σ σ' 400 6500 ∧ ∀ K : ag_Rs → ag_S → Prop, ag_wp 112 71 [some (ag_R B), some (ag_I (kd : Int)), some (ag_I (t : Int)), some (ag_I (x : Int)), none, none, none] [] σ K = ag_wp 112 98 [some (ag_R B), some (ag_I (kd : Int)), some (ag_I (t : Int)), some (ag_I (x : Int)), some (ag_I y), none, none] [] σ' K := by
  by_cases c1 : m < 20
  · obtain ⟨σ1, d1, d2⟩ := ag_h_canDo h tc hB (kind := (kd : Int)) ⟨by omega, by omega⟩ hc hx
    have f01 : ag_fit gb w n (kd : Int) (t : Int) (x : Int) = 0 ∨ ag_fit gb w n (kd : Int) (t : Int) (x : Int) = 1 := by
      unfold ag_fit
      dsimp only
      repeat' split
      all_goals omega
    rcases f01 with c2 | c2
    · refine ⟨σ1, 0, Or.inr ⟨rfl, Or.inr c2⟩, d2, fun K => ?_⟩
      rw [c2] at d1
      rw [ag_i112_71]
      simp only [ag_i112_72, ag_h_g5 h, ag_i112_75, ag_h_a3 h, ta.1, ag_i112_76, ag_i112_78, ag_nmk_20, ag_nm_nat (show m ≤ 1000000 by omega)]
      rw [if_neg (show ¬ (20 : Int) ≤ m by omega)]
      simp only [ag_i112_81, ag_i112_82, ag_i112_83, ag_i112_84, ag_i112_85, ag_h_ck h, d1, ag_kk_v, ag_kk_n, Nat.reduceAdd, ag_i112_88, ag_nm_z, ↓reduceIte, ag_i112_95, ag_i112_96_n, ag_i112_96_i, ag_i112_96_r]
    · refine ⟨σ1, 1, Or.inl ⟨rfl, c1, c2⟩, d2, fun K => ?_⟩
      rw [c2] at d1
      rw [ag_i112_71]
      simp only [ag_i112_72, ag_h_g5 h, ag_i112_75, ag_h_a3 h, ta.1, ag_i112_76, ag_i112_78, ag_nmk_20, ag_nm_nat (show m ≤ 1000000 by omega)]
      rw [if_neg (show ¬ (20 : Int) ≤ m by omega)]
      simp only [ag_i112_81, ag_i112_82, ag_i112_83, ag_i112_84, ag_i112_85, ag_h_ck h, d1, ag_kk_v, ag_kk_n, Nat.reduceAdd, ag_i112_88, ag_nm_1, ag_nm_z, Int.reduceEq, ↓reduceIte, ag_i112_91, ag_i112_92, ag_i112_96_n, ag_i112_96_i, ag_i112_96_r]
  · refine ⟨σ, 0, Or.inr ⟨rfl, Or.inl (by omega)⟩, ag_fr_le (ag_fr_refl σ) (by omega) (by omega), fun K => ?_⟩
    rw [ag_i112_71]
    simp only [ag_i112_72, ag_h_g5 h, ag_i112_75, ag_h_a3 h, ta.1, ag_i112_76, ag_i112_78, ag_nmk_20, ag_nm_nat (show m ≤ 1000000 by omega)]
    rw [if_pos (show (20 : Int) ≤ m by omega)]
    simp only [ag_i112_95, ag_i112_96_n, ag_i112_96_i, ag_i112_96_r]
theorem ag_a_lay (hM : ag_M B σ dr qu mi S m gh np gq nq) (hU : ag_U S m gh np qu mi gq nq k) (hw1 : 1 ≤ S.2.1) (hd : dr ≤ 90000) :
    ∃ σ' dr' S' m', ag_M B σ' dr' qu mi S' m' gh np gq nq ∧ ag_U S' m' gh np qu mi gq nq (k + 1) ∧ S.2.1 ≤ S'.2.1 ∧ dr ≤ dr' ∧ dr' ≤ dr + 8 ∧ ag_af B σ σ' 1300 21000 ∧ ∀ K : ag_Rs → ag_S → Prop, ag_cl9 112 [ag_R B] σ K = K (Sum.inl (some (ag_I 1))) σ' := by
  obtain ⟨gb, w, n, gp⟩ := S
  obtain ⟨L, ln, g, T, mt, en, h, hX, hT, tc, ta, tv, tp, ts⟩ := hM
  obtain ⟨hV, hH, hQ, hv, hz, hp0, h9, hs3, hE⟩ := hU
  have hB : ag_IB gb w n := hV.1
  have hw40 : w ≤ 40 := hB.1.2.2.2
  have hm : m ≤ 20 := hV.2.1.1.2.2
  have hw1 : 1 ≤ w := hw1
  have tc : ag_TC gb w n ln g := tc
  have ta : ag_TA gp m ln g := ta
  obtain ⟨kd, t, x, σ3, k1, t1, x1, x2, h3, f3, go40⟩ := ag_l_pre h tc hw1 hw40 hd
  have hX3 := ag_hf_CX f3 hX
  have go71 := fun K => (go40 K).trans (ag_l_str h3 tc k1 t1 x1 K)
  by_cases c : gb 5 t = -1 ∨ (kd = 1 ∧ gb 5 x = -1)
  · refine ⟨σ3, dr + 1 + 1 + 1, (gb, (w, (n, gp))), m, ⟨L, ln, g, T, mt, en, h3, hX3, hT, tc, ta, tv, tp, ts⟩, ag_U_k ⟨hV, hH, hQ, hv, hz, hp0, h9, hs3, hE⟩, Nat.le_refl _, by omega, by omega, ag_af_le (ag_af_hf f3) (by omega) (by omega), fun K => ?_⟩
    rw [go71 K, if_pos c]
  · have ct : gb 5 t ≠ -1 := fun z => c (Or.inl z)
    have cx : kd = 1 → gb 5 x ≠ -1 := fun z1 z => c (Or.inr ⟨z1, z⟩)
    have x40 : x ≤ 40 := by
      by_cases z : kd = 1
      · have := x1 z
        omega
      · have := x2 z
        omega
    obtain ⟨p, e, hat⟩ := ag_hat_of hB (c := (t : Int)) (by omega) (by omega) (by rw [Int.toNat_natCast]; exact ct)
    have hax : (kd : Int) = 1 → ∃ q f, ag_hat gb w n (x : Int) q f := fun z => ag_hat_of hB (by omega) (by have := x1 (by omega); omega) (by rw [Int.toNat_natCast]; exact cx (by omega))
    obtain ⟨σ4, y, hy, f4, go98⟩ := ag_l_may h3 tc ta hB hm k1 hat hax
    have h4 := ag_HS_fr h3 f4
    have hX4 := ag_hf_CX (ag_hf_fr f4 h3.2.2.2.2.2.1.2) hX3
    have go : ∀ K : ag_Rs → ag_S → Prop, ag_cl9 112 [ag_R B] σ K = ag_wp 112 98 [some (ag_R B), some (ag_I (kd : Int)), some (ag_I (t : Int)), some (ag_I (x : Int)), some (ag_I y), none, none] [] σ4 K := fun K => by
      rw [go71 K, if_neg c, go98 K]
    have hkn : ag_nm (kd : Int) = kd := ag_nm_nat (by omega)
    have htn : ag_nm (t : Int) = t := ag_nm_nat (by omega)
    have hxx : (2 : Int) ≤ kd → ag_tx (x : Int) := fun z => ag_tx_nat (by omega)
    have hlt : ag_hld (gb, (w, (n, gp))) (t : Int) := ⟨by rw [htn]; omega, by rw [htn]; show (t : Int) < w; omega, by show ag_rd 40 (gb 5) (t : Int) ≠ -1; rw [ag_rd_nat (by decide) (by omega)]; exact ct⟩
    have hlx : (kd : Int) = 1 → ag_hld (gb, (w, (n, gp))) (x : Int) := fun z => by
      have z1 := x1 (by omega)
      exact ⟨by rw [ag_nm_nat (by omega)]; omega, by rw [ag_nm_nat (by omega)]; show (x : Int) < w; omega, by show ag_rd 40 (gb 5) (x : Int) ≠ -1; rw [ag_rd_nat (by decide) (by omega)]; exact cx (by omega)⟩
    rcases hy with ⟨y1, y2, y3⟩ | ⟨y1, y2⟩
    · have hP := fun K => ag_F_lay_3 hX4 hV hH hQ hkn ⟨by omega, by omega⟩ hxx htn hlt hlx y2 y3 K
      generalize ho : (if (kd : Int) = 0 then -1 else (x : Int)) = o at hP
      have ho1 : -100000 ≤ o ∧ o ≤ 100000 := by
        rw [← ho]
        split <;> omega
      have hV' := ag_IV_adp (k := (kd : Int)) (t := (t : Int)) (o := o) hV y2 ⟨by omega, by omega⟩ ho1 (fun z => by omega) (fun _ => ⟨by omega, by show (t : Int) < w; omega, by rw [Int.toNat_natCast]; exact ct⟩) (fun z => by
        rw [← ho, if_neg (by omega)]
        have z1 := x1 (by omega)
        exact ⟨by omega, by show (x : Int) < w; omega, by rw [Int.toNat_natCast]; exact cx (by omega)⟩)
      have hX5 := ag_CX_P (g := ag_adp gp m (kd : Int) (t : Int) o) (k := m + 1) hX4
      have hFr := ag_Fr_P (B := B) σ4 (g := ag_adp gp m (kd : Int) (t : Int) o) (k := m + 1)
      have h5 := ag_HS_Fr h4 hFr (Nat.le_refl _)
      have f5 : ag_af B σ4 (ag_SP σ4 (B + 20) (ag_adp gp m (kd : Int) (t : Int) o) (ag_vP (m + 1))) 0 0 := ag_af_Fr hFr rfl
      have hP : ∀ K : ag_Rs → ag_S → Prop, ag_cl9 62 [ag_R (B + 1), ag_I (kd : Int), ag_I (t : Int), ag_I (x : Int)] σ4 K = K (Sum.inl (some (ag_I (m : Int)))) (ag_SP σ4 (B + 20) (ag_adp gp m (kd : Int) (t : Int) o) (ag_vP (m + 1))) := hP
      generalize ag_SP σ4 (B + 20) (ag_adp gp m (kd : Int) (t : Int) o) (ag_vP (m + 1)) = σ5 at hP hX5 h5 f5
      obtain ⟨σa, σb, σd, σe, Lb, lnb, gb', q3, q4, Le, lne, ge, a1, a2, a3, a4, a5, a6, a7, a8, a9, keep, fa⟩ := ag_w_add h5 ta tv hz y2 (kd := (kd : Int)) (t := (t : Int)) (o := o) (by omega) (by omega) ho1
      have hXe := ag_hf_CX fa hX5
      have le3 : lne 3 = m + 1 := a8.1
      refine ⟨σe, dr + 1 + 1 + 1, (gb, (w, (n, ag_adp gp m (kd : Int) (t : Int) o))), m + 1, ⟨Le, lne, ge, T, mt, en, a7, hXe, hT, ag_TC_eq hw40 (fun r hr => keep r (by omega) (by omega) (by omega) (by omega)) tc, a8, a9, ag_TP_eq (fun r hr => keep r (by omega) (by omega) (by omega) (by omega)) tp, ag_TS_eq (fun r hr => keep r (by omega) (by omega) (by omega) (by omega)) ts⟩, ag_U_k ⟨hV', hH, hQ, hv, fun p b hp hb hb2 => hz p b hp (by omega) hb2, hp0, h9, hs3, ag_E_adp hV hE (fun z => by omega)⟩, Nat.le_refl _, by omega, by omega, ag_af_le (ag_af_trans (ag_af_hf f3) (ag_af_trans (ag_af_hf (ag_hf_fr f4 h3.2.2.2.2.2.1.2)) (ag_af_trans f5 (ag_af_hf fa)))) (by omega) (by omega), fun K => ?_⟩
      have en1 : ag_nm (((m + 1 : Nat) : Int) - 1) = m := by rw [ag_nm_of (by omega) (by omega)]; omega
      have fld : ∀ K : ag_Rs → ag_S → Prop, ag_wp 112 110 [some (ag_R B), some (ag_I (kd : Int)), some (ag_I (t : Int)), some (ag_I (x : Int)), some (ag_I y), some (ag_I (m : Int)), none] [] σ5 K = ag_wp 112 148 [some (ag_R B), some (ag_I (kd : Int)), some (ag_I (t : Int)), some (ag_I (x : Int)), some (ag_I y), some (ag_I (m : Int)), some (ag_R (σ5.2.1 + 1))] [] (ag_n9 σ5 (Sum.inl (6, ag_row6 (kd : Int) (t : Int) o)) 6) K := fun K => by
        simp only [ag_i112_110, ag_i112_112, show ag_nm 6 = 6 from by decide +kernel, show ((0 : Int) ≤ 6 ∧ (6 : Int) ≤ 1000000) = True from by simp, true_and, show (6 : Int).toNat = 6 from rfl, ag_n9_f, ag_i112_114, ag_i112_115, ag_i112_116, ag_i112_117]
        rw [ag_n9_is (l := 6) (k := 0) (x := 0) (by decide) (by decide) rfl]
        simp only [ag_i112_118, ag_i112_119, ag_i112_120, ag_i112_121]
        rw [ag_n9_is (l := 6) (k := 1) (x := 1) (by decide) (by decide) rfl]
        simp only [ag_i112_122, ag_i112_123, ag_i112_124, ag_i112_125, hkn, ag_nm_z]
        by_cases z : (kd : Int) = 0
        · rw [if_neg (show ¬ (kd : Int) ≠ 0 by omega)]
          rw [if_pos z] at ho
          simp only [ag_i112_128, ag_i112_129, ag_i112_133]
          rw [ho, ag_n9_is (l := 6) (k := 2) (x := 2) (by decide) (by decide) rfl]
          simp only [ag_i112_134, ag_i112_135, ag_i112_136, ag_i112_137]
          rw [ag_n9_is (l := 6) (k := 3) (x := 3) (by decide) (by decide) rfl]
          simp only [ag_i112_138, ag_i112_139, ag_i112_140, ag_i112_141]
          rw [ag_n9_is (l := 6) (k := 4) (x := 4) (by decide) (by decide) rfl]
          simp only [ag_i112_142, ag_i112_143, ag_i112_144, ag_i112_145]
          rw [ag_n9_is (l := 6) (k := 5) (x := 5) (by decide) (by decide) rfl]
          simp only [ag_i112_146_n, ag_i112_146_i, ag_i112_146_r]
          rfl
        · rw [if_pos (show (kd : Int) ≠ 0 by omega)]
          rw [if_neg z] at ho
          simp only [ag_i112_132, ag_i112_133]
          rw [ho, ag_n9_is (l := 6) (k := 2) (x := 2) (by decide) (by decide) rfl]
          simp only [ag_i112_134, ag_i112_135, ag_i112_136, ag_i112_137]
          rw [ag_n9_is (l := 6) (k := 3) (x := 3) (by decide) (by decide) rfl]
          simp only [ag_i112_138, ag_i112_139, ag_i112_140, ag_i112_141]
          rw [ag_n9_is (l := 6) (k := 4) (x := 4) (by decide) (by decide) rfl]
          simp only [ag_i112_142, ag_i112_143, ag_i112_144, ag_i112_145]
          rw [ag_n9_is (l := 6) (k := 5) (x := 5) (by decide) (by decide) rfl]
          simp only [ag_i112_146_n, ag_i112_146_i, ag_i112_146_r]
          rw [← ho]
          rfl
      rw [go K]
      simp only [ag_i112_98, ag_i112_99, ag_h_g0 h4, ag_i112_102, ag_i112_103, ag_i112_104, ag_i112_105, ag_X_o0 hX4, ag_X_o1 hX4, ag_X_o2 hX4, ag_X_o3 hX4, ag_X_o4 hX4, ag_X_oc hX4, ag_X_n0 hX4, ag_X_n1 hX4, ag_X_n2 hX4, ag_X_nc hX4, ag_X_t0 hX4, ag_X_t1 hX4, ag_X_t2 hX4, ag_X_tc hX4, ag_X_b0 hX4, ag_X_b1 hX4, ag_X_b2 hX4, ag_X_b3 hX4, ag_X_b4 hX4, ag_X_b5 hX4, ag_X_b6 hX4, ag_X_b7 hX4, ag_X_b8 hX4, ag_X_b9 hX4, ag_X_bc hX4, ag_X_p0 hX4, ag_X_p1 hX4, ag_X_p2 hX4, ag_X_p3 hX4, ag_X_p4 hX4, ag_X_p5 hX4, ag_X_p6 hX4, ag_X_pc hX4, ag_X_h0 hX4, ag_X_h1 hX4, ag_X_h2 hX4, ag_X_h3 hX4, ag_X_h4 hX4, ag_X_h5 hX4, ag_X_h6 hX4, ag_X_hc hX4, ag_X_q0 hX4, ag_X_q1 hX4, ag_X_q2 hX4, ag_X_qc hX4, ag_X_tb0 hX4, ag_X_tb1 hX4, ag_X_tb2 hX4, ag_X_tb3 hX4, ag_X_tb4 hX4, ag_X_tb5 hX4, ag_X_tb6 hX4, ag_X_tb7 hX4, ag_X_tb8 hX4, ag_X_tb9 hX4, ag_X_tbc hX4, ag_X_tp0 hX4, ag_X_tp1 hX4, ag_X_tp2 hX4, ag_X_tp3 hX4, ag_X_tp4 hX4, ag_X_tp5 hX4, ag_X_tp6 hX4, ag_X_tpc hX4, ag_X_ba0 hX4, ag_X_ba1 hX4, ag_X_ba2 hX4, ag_X_ba3 hX4, ag_X_ba4 hX4, ag_X_ba5 hX4, ag_X_ba6 hX4, ag_X_ba7 hX4, ag_X_pa0 hX4, ag_X_pa1 hX4, ag_X_pa2 hX4, ag_X_pa3 hX4, ag_X_pa4 hX4, ag_X_pa5 hX4, ag_X_ha0 hX4, ag_X_ha1 hX4, ag_X_ha2 hX4, ag_X_ha3 hX4, ag_X_qa0 hX4, ag_X_qa1 hX4, ag_X_tba0 hX4, ag_X_tba1 hX4, ag_X_tba2 hX4, ag_X_tba3 hX4, ag_X_tba4 hX4, ag_X_tba5 hX4, ag_X_tba6 hX4, ag_X_tba7 hX4, ag_X_tpa0 hX4, ag_X_tpa1 hX4, ag_X_tpa2 hX4, ag_X_tpa3 hX4, ag_X_tpa4 hX4, ag_X_tpa5 hX4, ag_X_ea hX4, hP, ag_kk_v, ag_kk_n, Nat.reduceAdd, ag_i112_108_n, ag_i112_108_i, ag_i112_108_r, fld]
      simp only [ag_i112_148, ag_i112_149, ag_i112_150, ag_h_g5 a2, ag_i112_153, ag_i112_155, a1, ag_kk_v, ag_kk_n, Nat.reduceAdd, ag_i112_158, a3, ag_i112_161, ag_i112_162, ag_i112_163, ag_h_g6 a4, ag_i112_166, ag_i112_167, ag_nmk_5, show ((0 : Int) ≤ 5 ∧ (5 : Int) ≤ 1000000) = True from by simp, true_and, show (5 : Int).toNat = 5 from rfl, ag_n9_f, ag_i112_169, a5, ag_kk_v, ag_kk_n, Nat.reduceAdd, ag_i112_172, a6, ag_i112_175, ag_i112_177, y1, ag_nm_1, ag_nm_z, Int.reduceEq, ↓reduceIte]
      simp only [ag_i112_180, ag_i112_182, ag_i112_183, ag_h_g5 a7, ag_i112_186, ag_h_a3 a7, le3, ag_i112_187, ag_i112_188, ag_i112_189, en1, ag_nm_nat (show m ≤ 1000000 by omega)]
      rw [if_neg (by simp)]
      simp only [ag_i112_192, ag_i112_193, ag_i112_197, ag_b0, ag_b1, true_and, or_true, true_or, Int.reduceEq, ne_eq, not_false_eq_true, not_true_eq_false, ↓reduceIte]
    · have hP := fun K => ag_F_lay_2 hX4 hV hH hQ hkn ⟨by omega, by omega⟩ hxx htn hlt hlx y2 K
      refine ⟨ag_bp σ4, dr + 1 + 1 + 1, (gb, (w, (n, gp))), m, ⟨L, ln, g, T, mt, en, ag_HS_bp h4, ag_CX_bp hX4, hT, tc, ta, tv, tp, ts⟩, ag_U_k ⟨hV, hH, hQ, hv, hz, hp0, h9, hs3, hE⟩, Nat.le_refl _, by omega, by omega, ag_af_le (ag_af_trans (ag_af_hf f3) (ag_af_trans (ag_af_hf (ag_hf_fr f4 h3.2.2.2.2.2.1.2)) (ag_af_bp σ4))) (by omega) (by omega), fun K => ?_⟩
      rw [go K]
      simp only [ag_i112_98, ag_i112_99, ag_h_g0 h4, ag_i112_102, ag_i112_103, ag_i112_104, ag_i112_105, ag_X_o0 hX4, ag_X_o1 hX4, ag_X_o2 hX4, ag_X_o3 hX4, ag_X_o4 hX4, ag_X_oc hX4, ag_X_n0 hX4, ag_X_n1 hX4, ag_X_n2 hX4, ag_X_nc hX4, ag_X_t0 hX4, ag_X_t1 hX4, ag_X_t2 hX4, ag_X_tc hX4, ag_X_b0 hX4, ag_X_b1 hX4, ag_X_b2 hX4, ag_X_b3 hX4, ag_X_b4 hX4, ag_X_b5 hX4, ag_X_b6 hX4, ag_X_b7 hX4, ag_X_b8 hX4, ag_X_b9 hX4, ag_X_bc hX4, ag_X_p0 hX4, ag_X_p1 hX4, ag_X_p2 hX4, ag_X_p3 hX4, ag_X_p4 hX4, ag_X_p5 hX4, ag_X_p6 hX4, ag_X_pc hX4, ag_X_h0 hX4, ag_X_h1 hX4, ag_X_h2 hX4, ag_X_h3 hX4, ag_X_h4 hX4, ag_X_h5 hX4, ag_X_h6 hX4, ag_X_hc hX4, ag_X_q0 hX4, ag_X_q1 hX4, ag_X_q2 hX4, ag_X_qc hX4, ag_X_tb0 hX4, ag_X_tb1 hX4, ag_X_tb2 hX4, ag_X_tb3 hX4, ag_X_tb4 hX4, ag_X_tb5 hX4, ag_X_tb6 hX4, ag_X_tb7 hX4, ag_X_tb8 hX4, ag_X_tb9 hX4, ag_X_tbc hX4, ag_X_tp0 hX4, ag_X_tp1 hX4, ag_X_tp2 hX4, ag_X_tp3 hX4, ag_X_tp4 hX4, ag_X_tp5 hX4, ag_X_tp6 hX4, ag_X_tpc hX4, ag_X_ba0 hX4, ag_X_ba1 hX4, ag_X_ba2 hX4, ag_X_ba3 hX4, ag_X_ba4 hX4, ag_X_ba5 hX4, ag_X_ba6 hX4, ag_X_ba7 hX4, ag_X_pa0 hX4, ag_X_pa1 hX4, ag_X_pa2 hX4, ag_X_pa3 hX4, ag_X_pa4 hX4, ag_X_pa5 hX4, ag_X_ha0 hX4, ag_X_ha1 hX4, ag_X_ha2 hX4, ag_X_ha3 hX4, ag_X_qa0 hX4, ag_X_qa1 hX4, ag_X_tba0 hX4, ag_X_tba1 hX4, ag_X_tba2 hX4, ag_X_tba3 hX4, ag_X_tba4 hX4, ag_X_tba5 hX4, ag_X_tba6 hX4, ag_X_tba7 hX4, ag_X_tpa0 hX4, ag_X_tpa1 hX4, ag_X_tpa2 hX4, ag_X_tpa3 hX4, ag_X_tpa4 hX4, ag_X_tpa5 hX4, ag_X_ea hX4, hP, ag_h112_2_n, ag_h112_2_i, ag_h112_2_r, ag_i112_200, ag_i112_202, y1, ag_nm_z, ne_eq, not_true_eq_false, ↓reduceIte, ag_i112_205, ag_i112_206, ag_i112_210, ag_b0, ag_b1, true_and, or_true, true_or, Int.reduceEq, ne_eq, not_false_eq_true, not_true_eq_false, ↓reduceIte]
end AGAF
