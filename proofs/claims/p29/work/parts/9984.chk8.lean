/-! THE LAW'S SIXTH CHECK: votes taken back, a quorum, and what is called. -/
variable {B : Nat}
section AGPP
variable {m : Nat} {S : ag_T}
theorem ag_dbl_ftb {b : Nat} (hV : ag_IV S m) (hb : b < m) (hl : S.2.2.2 3 b = 0) : ag_dbl S m (b : Int) = ag_ftb S.1 S.2.1 S.2.2.1 S.2.2.2 b := by
  have hm : m ≤ 20 := hV.2.1.1.2.2
  have h : ag_lad S m (b : Int) := ⟨by rw [ag_nm_nat (by omega)]; omega, by rw [ag_nm_nat (by omega)]; omega, by rw [ag_rd_nat (by decide) (by omega)]; exact hl⟩
  unfold ag_dbl
  rw [ag_if_t h, ag_rd_nat (by decide) (by omega), ag_rd_nat (by decide) (by omega), ag_rd_nat (by decide) (by omega)]
  rfl
/-- what is put is as told -/
theorem ag_dec_as {gh : Nat → Nat → Int} {np b : Nat} {qu x : Int} (hV : ag_IV S m) (hb : b < m) (hl : S.2.2.2 3 b = 0) :
    (ag_ftb S.1 S.2.1 S.2.2.1 S.2.2.2 b = 0 → (ag_dec gh np qu x m S b).2.2.2 3 b = 3) ∧ (ag_ftb S.1 S.2.1 S.2.2.1 S.2.2.2 b ≠ 0 → ag_car gh np qu b x = 0 → (ag_dec gh np qu x m S b).2.2.2 3 b = 2) ∧ (ag_ftb S.1 S.2.1 S.2.2.1 S.2.2.2 b ≠ 0 → ag_car gh np qu b x ≠ 0 → (ag_dec gh np qu x m S b).2.2.2 3 b = 1 ∧ (ag_cnt (ag_dec gh np qu x m S b).2.2.2 m 3 : Int) = (ag_cnt S.2.2.2 m 3 : Int) + ag_vm9 S m b) := by
  have hm : m ≤ 20 := hV.2.1.1.2.2
  refine ⟨fun q1 => ?_, fun q1 q2 => ?_, fun q1 q2 => ?_⟩
  · unfold ag_dec
    rw [if_pos q1]
    exact ag_set_b (s := 3) (y := (b : Int)) (by omega) (by decide)
  · unfold ag_dec
    rw [if_neg q1, if_pos q2]
    exact ag_set_b (s := 2) (y := -1) (by omega) (by decide)
  · have e : ag_dec gh np qu x m S b = ag_psd S.1 S.2.1 S.2.2.1 S.2.2.2 m b := by
      unfold ag_dec
      rw [if_neg q1, if_neg q2]
    rw [e]
    constructor
    · have k1 : ag_set (ag_pfm S.1 S.2.1 S.2.2.1 S.2.2.2 b).2.2.2 b 1 (-1) m 3 b = 1 := ag_set_b (by omega) (by decide)
      show ag_spl (ag_pfm S.1 S.2.1 S.2.2.1 S.2.2.2 b).1 b m m 0 (ag_set (ag_pfm S.1 S.2.1 S.2.2.1 S.2.2.2 b).2.2.2 b 1 (-1) m) 3 b = 1
      rw [ag_spl_keep hm m 0 _ (Nat.zero_add _) b (by rw [k1]; decide), k1]
    · unfold ag_vm9
      omega
theorem ag_car_01 (gh : Nat → Nat → Int) (np : Nat) (qu b x : Int) : ag_car gh np qu b x = 0 ∨ ag_car gh np qu b x = 1 := ag_cy_01 _ _ _ _
theorem ag_ftb_01 (gb : Nat → Nat → Int) (w n : Nat) (gp : Nat → Nat → Int) (b : Nat) : ag_ftb gb w n gp b = 0 ∨ ag_ftb gb w n gp b = 1 := ag_fit_01 _ _ _ _ _ _
end AGPP
section AGC8
variable {σ : ag_S} {dr qu mi : Int} {gh gq : Nat → Nat → Int} {m np nq k : Nat} {S : ag_T} {a0 a1 a4 a5 a6 a8 a9 a10 a11 a12 a13 a14 a15 a16 a17 a18 a19 a20 a21 : Option ag_V}
/-- a vote that is taken back -/
theorem ag_m_votes (hM : ag_M B σ dr qu mi S m gh np gq nq) (hU : ag_U S m gh np qu mi gq nq k) (hp : 1 ≤ np) {b : Nat} (hb : b < m) (hl : S.2.2.2 3 b = 0) :
    ∃ (σ1 σ2 σ3 : ag_S) (v v2 v3 : Int), (∀ P, ag_ck σ1 (B + 1) 5 P = P) ∧ (∀ P, ag_ck σ2 (B + 1) 5 P = P) ∧ ag_M B σ3 dr qu mi S m gh np gq nq ∧ ag_af B σ σ3 0 0 ∧
      (∀ K : ag_Rs → ag_S → Prop, ag_cl9 69 [ag_R (B + 1), ag_I 0, ag_I (b : Int), ag_I (-1)] σ K = K (Sum.inl (some (ag_I v))) σ1) ∧
      (∀ K : ag_Rs → ag_S → Prop, ag_cl9 69 [ag_R (B + 1), ag_I 0, ag_I (b : Int), ag_I 1] σ1 K = K (Sum.inl (some (ag_I v2))) σ2) ∧
      (∀ K : ag_Rs → ag_S → Prop, ag_cl9 69 [ag_R (B + 1), ag_I 0, ag_I (b : Int), ag_I v] σ2 K = K (Sum.inl (some (ag_I v3))) σ3) := by
  have hV := hU.1
  have hH := hU.2.1
  have hQ := hU.2.2.1
  have hv := hU.2.2.2.1
  have hm : m ≤ 20 := hV.2.1.1.2.2
  have hn : np ≤ 5 := hH.2.1
  obtain ⟨L, ln, g, T, mt, en, h, hX, hT, tc, ta, tv, tp, ts⟩ := hM
  have bn : ag_nm (b : Int) = b := ag_nm_nat (by omega)
  have k1 : ag_kno np 0 := ⟨by rw [ag_nm_z]; decide, by rw [ag_nm_z]; omega⟩
  have k2 : ag_kno m (b : Int) := ⟨by rw [bn]; omega, by rw [bn]; omega⟩
  have k4 : ag_lad S m (b : Int) := ⟨by rw [bn]; omega, by rw [bn]; omega, by rw [ag_rd_nat (by decide) (by omega)]; exact hl⟩
  have e0 : ((0 : Int) * 20 + (b : Int)) = (b : Int) := by omega
  have vb := hv b
  have F1 := fun K => ag_F_vote_3 hX hV hH hQ (p := 0) (a := (b : Int)) (x := -1) ag_nm_m k1 k2 (by decide) k4 K
  rw [e0, ag_rd_nat (by decide) (show b < 100 by omega), ag_wr_nat _ (by decide) (show b < 100 by omega)] at F1
  have hX1 := ag_CX_H (g := ag_ug gh 3 (ag_ui (gh 3) b (-1))) (v := ag_vH np qu mi) hX
  have r1 := ag_Fr_H (B := B) σ (g := ag_ug gh 3 (ag_ui (gh 3) b (-1))) (v := ag_vH np qu mi)
  have h1 := ag_HS_Fr h r1 (Nat.le_refl _)
  have H1 : ag_HI (ag_ug gh 3 (ag_ui (gh 3) b (-1))) np qu mi := by
    have := ag_HI_vote (i := (b : Int)) (x := -1) hH (by decide)
    rwa [ag_wr_nat _ (by decide) (show b < 100 by omega)] at this
  have F2 := fun K => ag_F_vote_3 hX1 hV H1 hQ (p := 0) (a := (b : Int)) (x := 1) ag_nm_1 k1 k2 (by decide) k4 K
  rw [e0, ag_rd_nat (by decide) (show b < 100 by omega), ag_wr_nat _ (by decide) (show b < 100 by omega), ag_ug_same, ag_ui_ui, ag_ug_tw] at F2
  have hX2 := ag_CX_H (g := ag_ug gh 3 (ag_ui (gh 3) b 1)) (v := ag_vH np qu mi) hX1
  have r2 := ag_Fr_H (B := B) (ag_SH σ (B + 2) (ag_ug gh 3 (ag_ui (gh 3) b (-1))) (ag_vH np qu mi)) (g := ag_ug gh 3 (ag_ui (gh 3) b 1)) (v := ag_vH np qu mi)
  have h2 := ag_HS_Fr h1 r2 (Nat.le_refl _)
  have H2 : ag_HI (ag_ug gh 3 (ag_ui (gh 3) b 1)) np qu mi := by
    have := ag_HI_vote (i := (b : Int)) (x := 1) hH (by decide)
    rwa [ag_wr_nat _ (by decide) (show b < 100 by omega)] at this
  have F3 := fun K => ag_F_vote_3 hX2 hV H2 hQ (p := 0) (a := (b : Int)) (x := gh 3 b) (ag_nm_of (by omega) (by omega)) k1 k2 vb k4 K
  have ev : ag_ui (gh 3) b (gh 3 b) = gh 3 := by
    funext z
    unfold ag_ui
    split
    · rename_i q
      rw [q]
    · rfl
  rw [e0, ag_rd_nat (by decide) (show b < 100 by omega), ag_wr_nat _ (by decide) (show b < 100 by omega), ag_ug_same, ag_ui_ui, ag_ug_tw, ev, ag_ug_sf] at F3
  have hX3 := ag_CX_H (g := gh) (v := ag_vH np qu mi) hX2
  have r3 := ag_Fr_H (B := B) (ag_SH (ag_SH σ (B + 2) (ag_ug gh 3 (ag_ui (gh 3) b (-1))) (ag_vH np qu mi)) (B + 2) (ag_ug gh 3 (ag_ui (gh 3) b 1)) (ag_vH np qu mi)) (g := gh) (v := ag_vH np qu mi)
  have h3 := ag_HS_Fr h2 r3 (Nat.le_refl _)
  exact ⟨_, _, _, _, _, _, fun P => ag_X_oc hX1 P, fun P => ag_X_oc hX2 P, ⟨L, ln, g, T, mt, en, h3, hX3, hT, tc, ta, tv, tp, ts⟩, ag_af_Fr (ag_Fr_trans r1 (ag_Fr_trans r2 r3)) rfl, F1, F2, F3⟩
/-- a quorum that is taken back -/
theorem ag_m_quorum (hM : ag_M B σ dr qu mi S m gh np gq nq) (hU : ag_U S m gh np qu mi gq nq k) :
    ∃ (σ1 σ2 : ag_S), (∀ P, ag_ck σ1 (B + 1) 5 P = P) ∧ ag_M B σ2 dr qu mi S m gh np gq nq ∧ ag_af B σ σ2 0 0 ∧
      (∀ K : ag_Rs → ag_S → Prop, ag_cl9 70 [ag_R (B + 1), ag_I 50] σ K = K (Sum.inl (some (ag_I qu))) σ1) ∧
      (∀ K : ag_Rs → ag_S → Prop, ag_cl9 70 [ag_R (B + 1), ag_I qu] σ1 K = K (Sum.inl (some (ag_I 50))) σ2) := by
  have hV := hU.1
  have hH := hU.2.1
  have hQ := hU.2.2.1
  have hq := hH.2.2.1
  obtain ⟨L, ln, g, T, mt, en, h, hX, hT, tc, ta, tv, tp, ts⟩ := hM
  have F1 := fun K => ag_F_quorum_1 hX hV hH hQ (s := 50) ag_nmk_50 (by decide) K
  have hX1 := ag_CX_H (g := gh) (v := ag_vH np 50 mi) hX
  have r1 := ag_Fr_H (B := B) σ (g := gh) (v := ag_vH np 50 mi)
  have h1 := ag_HS_Fr h r1 (Nat.le_refl _)
  have H1 : ag_HI gh np 50 mi := ⟨hH.1, hH.2.1, ⟨by decide, by decide⟩, hH.2.2.2⟩
  have F2 := fun K => ag_F_quorum_1 hX1 hV H1 hQ (s := qu) (ag_nm_of (by omega) (by omega)) hq K
  have hX2 := ag_CX_H (g := gh) (v := ag_vH np qu mi) hX1
  have r2 := ag_Fr_H (B := B) (ag_SH σ (B + 2) gh (ag_vH np 50 mi)) (g := gh) (v := ag_vH np qu mi)
  have h2 := ag_HS_Fr h1 r2 (Nat.le_refl _)
  exact ⟨_, _, fun P => ag_X_oc hX1 P, ⟨L, ln, g, T, mt, en, h2, hX2, hT, tc, ta, tv, tp, ts⟩, ag_af_Fr (ag_Fr_trans r1 r2) rfl, F1, F2⟩
/-- one called: its state, as told, and as many moot -/
theorem ag_c6_last {τ : ag_S} {S' : ag_T} {gq' : Nat → Nat → Int} {mi' : Int} {k' b : Nat} {was had : Int} (hM : ag_M B τ dr qu mi' S' m gh np gq' nq) (hU : ag_U S' m gh np qu mi' gq' nq k') (hV : ag_IV S m) (hb : b < m) (hl : S.2.2.2 3 b = 0) (hS : S' = ag_dec gh np qu (-1) m S b) (hh : had = (ag_cnt S.2.2.2 m 3 : Int)) :
    ∃ y21 : Option ag_V, ∀ K : ag_Rs → ag_S → Prop,
      ag_wp 136 771 [a0, a1, some (ag_R B), some (ag_R (B + 1)), a4, a5, a6, some (ag_I (b : Int)), a8, a9, a10, a11, a12, a13, a14, a15, some (ag_I was), some (ag_I (ag_car gh np qu b (-1))), some (ag_I (ag_dbl S m b)), some (ag_I (ag_moo S m b)), some (ag_I had), a21] [] τ K =
      ag_wp 136 826 [a0, a1, some (ag_R B), some (ag_R (B + 1)), a4, a5, a6, some (ag_I (b : Int)), a8, a9, a10, a11, a12, a13, a14, a15, some (ag_I was), some (ag_I (ag_car gh np qu b (-1))), some (ag_I (ag_dbl S m b)), some (ag_I (ag_moo S m b)), some (ag_I had), y21] [] τ K := by
  have hm : m ≤ 20 := hV.2.1.1.2.2
  obtain ⟨s1, s2, s3⟩ := ag_dec_as (gh := gh) (np := np) (qu := qu) (x := -1) hV hb hl
  rw [← hS] at s1 s2 s3
  have ck := ag_m_ck hM
  have A3 : ∀ K : ag_Rs → ag_S → Prop, ag_cl9 65 [ag_R (B + 1), ag_I (b : Int), ag_I 3] τ K = K (Sum.inl (some (ag_I (S'.2.2.2 3 b)))) τ := fun K => ag_m_ofA hM hU hb (j := 3) (by decide) rfl rfl K
  have M6 : ∀ K : ag_Rs → ag_S → Prop, ag_cl9 61 [ag_R (B + 1), ag_I 6] τ K = K (Sum.inl (some (ag_I (ag_cnt S'.2.2.2 m 3 : Int)))) τ := fun K => ag_m_many hM hU (j := 6) (by decide) rfl K
  have c6 : ag_cnt S'.2.2.2 m 3 ≤ m := ag_ct_le _ m 0
  refine ⟨some (ag_I (S'.2.2.2 3 b)), fun K => ?_⟩
  rw [ag_dbl_ftb hV hb hl]
  rcases ag_ftb_01 S.1 S.2.1 S.2.2.1 S.2.2.2 b with q1 | q1
  · rw [s1 q1] at A3
    rw [q1, s1 q1]
    simp only [ag_i136_771, ag_i136_772, ag_i136_774, ag_i136_775, ck, A3, ag_kk_v, ag_kk_n, Nat.reduceAdd, ag_i136_778_n, ag_i136_778_i, ag_i136_778_r, ag_i136_780, ag_i136_782, ag_i136_784, ag_nm_z, ne_eq, not_true_eq_false, ↓reduceIte, ag_i136_787, ag_i136_788, ag_i136_801, ag_i136_804, ag_i136_806, ag_i136_807, ag_nmk_3, ag_nm_1, Int.reduceEq, not_false_eq_true]
  · have q0 : ag_ftb S.1 S.2.1 S.2.2.1 S.2.2.2 b ≠ 0 := by omega
    rcases ag_car_01 gh np qu (b : Int) (-1) with q2 | q2
    · rw [s2 q0 q2] at A3
      rw [q1, q2, s2 q0 q2]
      simp only [ag_i136_771, ag_i136_772, ag_i136_774, ag_i136_775, ck, A3, ag_kk_v, ag_kk_n, Nat.reduceAdd, ag_i136_778_n, ag_i136_778_i, ag_i136_778_r, ag_i136_780, ag_i136_782, ag_i136_784, ag_nm_z, ag_nm_1, ne_eq, Int.reduceEq, not_false_eq_true, not_true_eq_false, ↓reduceIte, ag_i136_791, ag_i136_793, ag_i136_800, ag_i136_801, ag_i136_804, ag_i136_806, ag_i136_807, ag_nmk_2]
    · have q20 : ag_car gh np qu b (-1) ≠ 0 := by omega
      obtain ⟨t1, t2⟩ := s3 q0 q20
      have hmoo : ag_moo S m b = ag_vm9 S m b := by
        unfold ag_moo
        rw [ag_dbl_ftb hV hb hl, ag_if_f q0]
      rw [t1] at A3
      rw [q1, q2, t1, hmoo]
      simp only [ag_i136_771, ag_i136_772, ag_i136_774, ag_i136_775, ck, A3, ag_kk_v, ag_kk_n, Nat.reduceAdd, ag_i136_778_n, ag_i136_778_i, ag_i136_778_r, ag_i136_780, ag_i136_782, ag_i136_784, ag_nm_z, ag_nm_1, ne_eq, Int.reduceEq, not_false_eq_true, not_true_eq_false, ↓reduceIte, ag_i136_791, ag_i136_793, ag_i136_796, ag_i136_797, ag_i136_801, ag_i136_804, ag_i136_806, ag_i136_807, ag_i136_810, ag_i136_811, M6, ag_i136_813, ag_i136_816, ag_i136_818, ag_i136_820, ag_i136_821]
      rw [hh, ← t2, if_pos rfl]
theorem ag_c6_go (hM : ag_M B σ dr qu mi S m gh np gq nq) (hU : ag_U S m gh np qu mi gq nq k) (hp : 1 ≤ np) {b : Nat} (hb : b < m) (hn : ag_nxt S.1 S.2.2.2 m = b) (h3 : 3 ≤ mi) {x15 : Int} :
    ∃ (σ' : ag_S) (gq' : Nat → Nat → Int) (was had : Int), ag_M B σ' dr qu (mi - 3) (ag_dec gh np qu (-1) m S b) m gh np gq' nq ∧ ag_U (ag_dec gh np qu (-1) m S b) m gh np qu (mi - 3) gq' nq (k + 1) ∧ S.2.1 ≤ (ag_dec gh np qu (-1) m S b).2.1 ∧ S.2.2.2 3 b = 0 ∧ had = (ag_cnt S.2.2.2 m 3 : Int) ∧ ag_af B σ σ' 1300 21000 ∧ ∀ K : ag_Rs → ag_S → Prop,
      ag_wp 136 676 [a0, a1, some (ag_R B), some (ag_R (B + 1)), a4, some (ag_L (ag_dg9 S m gh np qu mi gq nq)), a6, some (ag_I (b : Int)), a8, a9, a10, a11, a12, a13, a14, some (ag_I x15), a16, a17, a18, a19, a20, a21] [] σ K =
      ag_wp 136 771 [a0, a1, some (ag_R B), some (ag_R (B + 1)), a4, some (ag_L (ag_dg9 S m gh np qu mi gq nq)), a6, some (ag_I (b : Int)), a8, a9, a10, a11, a12, a13, a14, some (ag_I x15), some (ag_I was), some (ag_I (ag_car gh np qu b (-1))), some (ag_I (ag_dbl S m b)), some (ag_I (ag_moo S m b)), some (ag_I had), a21] [] σ' K := by
  have hV := hU.1
  have hm : m ≤ 20 := hV.2.1.1.2.2
  have hl : S.2.2.2 3 b = 0 := by
    obtain ⟨b', q1, q2, q3⟩ := ag_nxt_is (gb := S.1) (gp := S.2.2.2) (m := m) (by omega)
    have : b' = b := by omega
    rw [← this]
    exact q3
  obtain ⟨σ1, σ2, σ3, v, v2, v3, ck1, ck2, hM3, f3, d1, d2, d3⟩ := ag_m_votes hM hU hp hb hl
  have ck0 := ag_m_ck hM
  have ck3 := ag_m_ck hM3
  have w3 := fun K => ag_m_would hM3 hU hb (x := (b : Int)) rfl K
  have c3 := fun K => ag_m_can hM3 hU hb (x := (b : Int)) rfl K
  obtain ⟨σ4, hM4, f4, d4⟩ := ag_m_moot hM3 hU hb
  have d4 := d4 (b : Int) rfl
  have ck4 := ag_m_ck hM4
  have M6 : ∀ K : ag_Rs → ag_S → Prop, ag_cl9 61 [ag_R (B + 1), ag_I 6] σ4 K = K (Sum.inl (some (ag_I (ag_cnt S.2.2.2 m 3 : Int)))) σ4 := fun K => ag_m_many hM4 hU (j := 6) (by decide) rfl K
  obtain ⟨σ5, σ6, ck5, hM6, f6, d5, d6⟩ := ag_m_quorum hM4 hU
  have ck6 := ag_m_ck hM6
  obtain ⟨σ7, hM7, f7, d7⟩ := ag_m_digest hM6 hU
  obtain ⟨σ8, gq', -, hM8, hU8, hw8, f8, d8⟩ := ag_a_call1 hM7 hU hb hn h3
  have ck7 := ag_M_ck hM7
  refine ⟨σ8, gq', v, _, hM8, hU8, hw8, hl, rfl, ag_af_le (ag_af_trans f3 (ag_af_trans f4 (ag_af_trans f6 (ag_af_trans f7 f8)))) (by omega) (by omega), fun K => ?_⟩
  simp only [ag_i136_676, ag_i136_677, ag_i136_678, ag_i136_680, ag_i136_681, ck0, d1, ag_kk_v, ag_kk_n, Nat.reduceAdd, ag_i136_684_n, ag_i136_684_i, ag_i136_684_r, ag_i136_686, ag_i136_687, ag_i136_688, ag_i136_690, ag_i136_691, ck1, d2, ag_kk_v, ag_kk_n, Nat.reduceAdd, ag_i136_694, ag_i136_695, ag_i136_696, ag_i136_697, ag_i136_699, ag_i136_701, ck2, d3, ag_kk_v, ag_kk_n, Nat.reduceAdd, ag_i136_704, ag_i136_705, ag_i136_706, ag_i136_708, ck3, w3, ag_kk_v, ag_kk_n, Nat.reduceAdd, ag_i136_711_n, ag_i136_711_i, ag_i136_711_r, ag_i136_713, ag_i136_714, ag_i136_716, c3, ag_kk_v, ag_kk_n, Nat.reduceAdd, ag_i136_719_n, ag_i136_719_i, ag_i136_719_r, ag_i136_721, ag_i136_722, ag_i136_724, d4, ag_kk_v, ag_kk_n, Nat.reduceAdd, ag_i136_727_n, ag_i136_727_i, ag_i136_727_r, ag_i136_729, ag_i136_730, ag_i136_732, ck4, M6, ag_kk_v, ag_kk_n, Nat.reduceAdd, ag_i136_735_n, ag_i136_735_i, ag_i136_735_r, ag_i136_737, ag_i136_738, ag_i136_739, ag_i136_741, d5, ag_kk_v, ag_kk_n, Nat.reduceAdd, ag_i136_744, ck5, d6, ag_kk_v, ag_kk_n, Nat.reduceAdd, ag_i136_747, ag_i136_749, ne_eq, not_true_eq_false, ↓reduceIte, ag_i136_752, ag_i136_753, ck6, d7, ag_kk_v, ag_kk_n, Nat.reduceAdd, ag_i136_756, ag_i136_758, Int.lt_irrefl, ag_i136_759, ag_i136_762, ag_i136_763, ck7, d8, ag_kk_v, ag_kk_n, Nat.reduceAdd, ag_i136_766, ag_nm_1, ag_nm_z, Int.reduceEq, not_false_eq_true]
/-- the last of a step -/
theorem ag_c6 (hM : ag_M B σ dr qu mi S m gh np gq nq) (hU : ag_U S m gh np qu mi gq nq k) (hp : 1 ≤ np) {x15 : Int} :
    ∃ (σ' : ag_S) (S' : ag_T) (mi' : Int) (gq' : Nat → Nat → Int) (y16 y17 y18 y19 y20 y21 : Option ag_V), ag_M B σ' dr qu mi' S' m gh np gq' nq ∧ ag_U S' m gh np qu mi' gq' nq (k + 1) ∧ S.2.1 ≤ S'.2.1 ∧ ag_af B σ σ' 1300 21000 ∧ ∀ K : ag_Rs → ag_S → Prop,
      ag_wp 136 663 [a0, a1, some (ag_R B), some (ag_R (B + 1)), a4, some (ag_L (ag_dg9 S m gh np qu mi gq nq)), a6, some (ag_I (ag_nxt S.1 S.2.2.2 m)), a8, a9, a10, a11, a12, a13, a14, some (ag_I x15), a16, a17, a18, a19, a20, a21] [] σ K =
      ag_wp 136 826 [a0, a1, some (ag_R B), some (ag_R (B + 1)), a4, some (ag_L (ag_dg9 S m gh np qu mi gq nq)), a6, some (ag_I (ag_nxt S.1 S.2.2.2 m)), a8, a9, a10, a11, a12, a13, a14, some (ag_I x15), y16, y17, y18, y19, y20, y21] [] σ' K := by
  have hV := hU.1
  have hm : m ≤ 20 := hV.2.1.1.2.2
  have hli := hU.2.1.2.2.2.1
  have min : ag_nm mi = mi := ag_nm_of (by omega) (by omega)
  have g11 := fun K => ag_m_mi hM K
  obtain ⟨r1, r2, r3⟩ := ag_nxt_rg (gb := S.1) (gp := S.2.2.2) (m := m) hm
  by_cases c : ag_nxt S.1 S.2.2.2 m = -1
  · refine ⟨σ, S, mi, gq, a16, a17, a18, a19, a20, a21, hM, ag_U_k hU, Nat.le_refl _, ag_af_le (ag_af_hf (ag_hf_refl σ)) (by omega) (by omega), fun K => ?_⟩
    simp only [ag_i136_663, ag_i136_665, r1, ag_nm_z]
    rw [if_pos (show ag_nxt S.1 S.2.2.2 m < 0 by omega)]
  · by_cases c3 : mi < 3
    · refine ⟨σ, S, mi, gq, a16, a17, a18, a19, a20, a21, hM, ag_U_k hU, Nat.le_refl _, ag_af_le (ag_af_hf (ag_hf_refl σ)) (by omega) (by omega), fun K => ?_⟩
      simp only [ag_i136_663, ag_i136_665, r1, ag_nm_z]
      rw [if_neg (show ¬ ag_nxt S.1 S.2.2.2 m < 0 by omega)]
      simp only [ag_i136_668, ag_i136_669, g11, ag_i136_672, ag_i136_673, min, ag_nmk_3]
      rw [if_pos (show mi < 3 from c3)]
    · obtain ⟨b, hb, hn, -⟩ := ag_nxt_is c
      obtain ⟨σ1, gq', was, had, hM1, hU1, hw1, hl, hh, f1, g1⟩ := ag_c6_go (a0 := a0) (a1 := a1) (a4 := a4) (a6 := a6) (a8 := a8) (a9 := a9) (a10 := a10) (a11 := a11) (a12 := a12) (a13 := a13) (a14 := a14) (x15 := x15) (a16 := a16) (a17 := a17) (a18 := a18) (a19 := a19) (a20 := a20) (a21 := a21) hM hU hp hb hn (by omega)
      obtain ⟨y21, g2⟩ := ag_c6_last (a0 := a0) (a1 := a1) (a4 := a4) (a5 := some (ag_L (ag_dg9 S m gh np qu mi gq nq))) (a6 := a6) (a8 := a8) (a9 := a9) (a10 := a10) (a11 := a11) (a12 := a12) (a13 := a13) (a14 := a14) (a15 := some (ag_I x15)) (a21 := a21) (was := was) (had := had) hM1 hU1 hV hb hl rfl hh
      refine ⟨σ1, ag_dec gh np qu (-1) m S b, mi - 3, gq', some (ag_I was), some (ag_I (ag_car gh np qu (b : Int) (-1))), some (ag_I (ag_dbl S m (b : Int))), some (ag_I (ag_moo S m b)), some (ag_I had), y21, hM1, hU1, hw1, f1, fun K => ?_⟩
      simp only [ag_i136_663, ag_i136_665, r1, ag_nm_z]
      rw [if_neg (show ¬ ag_nxt S.1 S.2.2.2 m < 0 by omega)]
      simp only [ag_i136_668, ag_i136_669, g11, ag_i136_672, ag_i136_673, min, ag_nmk_3]
      rw [if_neg c3, hn, g1 K, g2 K]
end AGC8
