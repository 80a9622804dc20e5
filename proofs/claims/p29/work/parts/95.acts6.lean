/-! THE HOUSE: speak, call. -/
variable {B : Nat}
section AGAH
variable {σ : ag_S} {L ln : Nat → Nat} {g : Nat → Nat → Int} {dr qu mi : Int} {gb gp gh gq : Nat → Nat → Int} {w n m np nq k : Nat} {S : ag_T}
/-- who speaks, how long, whether it may -/
theorem ag_sp_pre (h : ag_HS B σ L ln g dr qu mi) (tc : ag_TC gb w n ln g) (ta : ag_TA gp m ln g) (ts : ag_TS gh np ln g) (hV : ag_IV (gb, (w, (n, gp))) m) (hH : ag_HI gh np qu mi) (hp1 : 1 ≤ np) (hd : dr ≤ 90000) :
    ∃ (p x : Nat) (y : Int) (σ4 : ag_S) (dr4 : Int), p < np ∧ 1 ≤ x ∧ x ≤ 60 ∧ dr ≤ dr4 ∧ dr4 ≤ dr + 3 ∧ ((y = 1 ∧ (x : Int) ≤ mi ∧ (x : Int) ≤ gh 1 p ∧ ag_nxt gb gp m ≠ -1) ∨ (y = 0 ∧ ¬ ((x : Int) ≤ mi ∧ (x : Int) ≤ gh 1 p ∧ ag_nxt gb gp m ≠ -1))) ∧ ag_HS B σ4 L ln g dr4 qu mi ∧ ag_hf B σ σ4 330 6500 ∧ ∀ K : ag_Rs → ag_S → Prop, ag_cl9 127 [ag_R B] σ K = ag_wp 127 63 [some (ag_R B), some (ag_I (p : Int)), some (ag_I (x : Int)), some (ag_I y), none] [] σ4 K := by
  have hn : np ≤ 5 := hH.2.1
  have hli := hH.2.2.2.1
  obtain ⟨p, σ1, p1, h1, f1, o1, e1, d1⟩ := ag_w_draw h (by omega) hp1 (by omega)
  obtain ⟨v, σ2, v1, h2, f2, o2, e2, d2⟩ := ag_w_draw h1 (by omega) (show 1 ≤ 2 by decide) (by decide)
  have d2 : ∀ K : ag_Rs → ag_S → Prop, ag_cl9 96 [ag_R B, ag_I 2] σ1 K = K (Sum.inl (some (ag_I (v : Int)))) σ2 := d2
  have its : ∃ (x : Nat) (σ3 : ag_S), 1 ≤ x ∧ x ≤ 60 ∧ ag_HS B σ3 L ln g (dr + 1 + 1 + 1) qu mi ∧ ag_hf B σ2 σ3 0 0 ∧ ∀ K : ag_Rs → ag_S → Prop, ag_cl9 127 [ag_R B] σ K = ag_wp 127 32 [some (ag_R B), some (ag_I (p : Int)), some (ag_I (x : Int)), none, none] [] σ3 K := by
    by_cases c : v = 0
    · obtain ⟨y, σ3, y1, h3, f3, o3, e3, d3⟩ := ag_w_draw h2 (by omega) (show 1 ≤ 10 by decide) (by decide)
      have d3 : ∀ K : ag_Rs → ag_S → Prop, ag_cl9 96 [ag_R B, ag_I 10] σ2 K = K (Sum.inl (some (ag_I (y : Int)))) σ3 := d3
      refine ⟨1 + y, σ3, by omega, by omega, h3, f3, fun K => ?_⟩
      simp only [ag_e127, ag_i127_0, ag_i127_1, ag_i127_2, ag_h_g7 h, ag_i127_5, ag_h_a6 h, ts.1, ag_i127_6, ag_h_ck h, d1, ag_kk_v, ag_kk_n, Nat.reduceAdd, ag_i127_9_n, ag_i127_9_i, ag_i127_9_r, ag_i127_10, ag_i127_11, ag_i127_12, ag_i127_13, ag_i127_14, ag_h_ck h1, d2, ag_kk_v, ag_kk_n, Nat.reduceAdd, ag_i127_17, ag_nm_nat (show v ≤ 1000000 by omega), ag_nm_z]
      rw [if_neg (show ¬ (v : Int) ≠ 0 by omega)]
      simp only [ag_i127_20, ag_i127_22, ag_i127_27, ag_h_ck h2, d3, ag_kk_v, ag_kk_n, Nat.reduceAdd, ag_i127_30, ag_i127_31_n, ag_i127_31_i, ag_i127_31_r]
      rw [show (1 : Int) + (y : Int) = ((1 + y : Nat) : Int) by omega]
    · obtain ⟨y, σ3, y1, h3, f3, o3, e3, d3⟩ := ag_w_draw h2 (by omega) (show 1 ≤ 60 by decide) (by decide)
      have d3 : ∀ K : ag_Rs → ag_S → Prop, ag_cl9 96 [ag_R B, ag_I 60] σ2 K = K (Sum.inl (some (ag_I (y : Int)))) σ3 := d3
      refine ⟨1 + y, σ3, by omega, by omega, h3, f3, fun K => ?_⟩
      simp only [ag_e127, ag_i127_0, ag_i127_1, ag_i127_2, ag_h_g7 h, ag_i127_5, ag_h_a6 h, ts.1, ag_i127_6, ag_h_ck h, d1, ag_kk_v, ag_kk_n, Nat.reduceAdd, ag_i127_9_n, ag_i127_9_i, ag_i127_9_r, ag_i127_10, ag_i127_11, ag_i127_12, ag_i127_13, ag_i127_14, ag_h_ck h1, d2, ag_kk_v, ag_kk_n, Nat.reduceAdd, ag_i127_17, ag_nm_nat (show v ≤ 1000000 by omega), ag_nm_z]
      rw [if_pos (show (v : Int) ≠ 0 by omega)]
      simp only [ag_i127_25, ag_i127_27, ag_h_ck h2, d3, ag_kk_v, ag_kk_n, Nat.reduceAdd, ag_i127_30, ag_i127_31_n, ag_i127_31_i, ag_i127_31_r]
      rw [show (1 : Int) + (y : Int) = ((1 + y : Nat) : Int) by omega]
  obtain ⟨x, σ3, x0, x1, h3, f3, go⟩ := its
  have xn : ag_nm (x : Int) = x := ag_nm_nat (by omega)
  have min : ag_nm mi = mi := ag_nm_of (by omega) (by omega)
  have hf3 := ag_hf_trans f1 (ag_hf_trans f2 f3)
  have h17 : ∀ K : Int → Prop, ag_ia σ3 (L 7) (p : Int) K = K (gh 1 p) := fun K => ag_s_i7 h3 ts (by omega) p1 rfl K
  have hg1 := hH.2.2.2.2.2 p
  have g1n : ag_nm (gh 1 p) = gh 1 p := ag_nm_of (by omega) (by omega)
  by_cases c1 : (x : Int) ≤ mi
  · by_cases c2 : (x : Int) ≤ gh 1 p
    · obtain ⟨σ4, n1, n2⟩ := ag_h_next h3 tc ta hV
      obtain ⟨r1, r2, r3⟩ := ag_nxt_rg (gb := gb) (gp := gp) (m := m) hV.2.1.1.2.2
      have h4 := ag_HS_fr h3 n2
      have hf4 := ag_hf_trans hf3 (ag_hf_fr n2 h3.2.2.2.2.2.1.2)
      have st : ∀ K : ag_Rs → ag_S → Prop, ag_cl9 127 [ag_R B] σ K = if ag_nxt gb gp m < 0 then ag_wp 127 61 [some (ag_R B), some (ag_I (p : Int)), some (ag_I (x : Int)), none, none] [] σ4 K else ag_wp 127 57 [some (ag_R B), some (ag_I (p : Int)), some (ag_I (x : Int)), none, none] [] σ4 K := fun K => by
        rw [go K]
        simp only [ag_i127_32, ag_i127_33, ag_h_g11 h3, ag_i127_36, ag_i127_37, xn, min]
        rw [if_neg (show ¬ mi < (x : Int) by omega)]
        simp only [ag_i127_40, ag_i127_41, ag_h_g8 h3, ag_i127_44, ag_i127_45, h17, ag_i127_46, ag_i127_47, xn, g1n]
        rw [if_neg (show ¬ gh 1 p < (x : Int) by omega)]
        simp only [ag_i127_50, ag_i127_51, ag_h_ck h3, n1, ag_kk_v, ag_kk_n, Nat.reduceAdd, ag_i127_54, r1, ag_nm_z]
      by_cases c3 : ag_nxt gb gp m = -1
      · refine ⟨p, x, 0, σ4, dr + 1 + 1 + 1, p1, x0, x1, by omega, by omega, Or.inr ⟨rfl, fun q => q.2.2 c3⟩, h4, ag_hf_le hf4 (by omega) (by omega), fun K => ?_⟩
        rw [st K, if_pos (by omega)]
        simp only [ag_i127_61, ag_i127_62_n, ag_i127_62_i, ag_i127_62_r]
      · refine ⟨p, x, 1, σ4, dr + 1 + 1 + 1, p1, x0, x1, by omega, by omega, Or.inl ⟨rfl, c1, c2, c3⟩, h4, ag_hf_le hf4 (by omega) (by omega), fun K => ?_⟩
        rw [st K, if_neg (by omega)]
        simp only [ag_i127_57, ag_i127_58, ag_i127_62_n, ag_i127_62_i, ag_i127_62_r]
    · refine ⟨p, x, 0, σ3, dr + 1 + 1 + 1, p1, x0, x1, by omega, by omega, Or.inr ⟨rfl, fun q => c2 q.2.1⟩, h3, ag_hf_le hf3 (by omega) (by omega), fun K => ?_⟩
      rw [go K]
      simp only [ag_i127_32, ag_i127_33, ag_h_g11 h3, ag_i127_36, ag_i127_37, xn, min]
      rw [if_neg (show ¬ mi < (x : Int) by omega)]
      simp only [ag_i127_40, ag_i127_41, ag_h_g8 h3, ag_i127_44, ag_i127_45, h17, ag_i127_46, ag_i127_47, xn, g1n]
      rw [if_pos (show gh 1 p < (x : Int) by omega)]
      simp only [ag_i127_61, ag_i127_62_n, ag_i127_62_i, ag_i127_62_r]
  · refine ⟨p, x, 0, σ3, dr + 1 + 1 + 1, p1, x0, x1, by omega, by omega, Or.inr ⟨rfl, fun q => c1 q.1⟩, h3, ag_hf_le hf3 (by omega) (by omega), fun K => ?_⟩
    rw [go K]
    simp only [ag_i127_32, ag_i127_33, ag_h_g11 h3, ag_i127_36, ag_i127_37, xn, min]
    rw [if_pos (show mi < (x : Int) by omega)]
    simp only [ag_i127_61, ag_i127_62_n, ag_i127_62_i, ag_i127_62_r]
theorem ag_a_speak (hM : ag_M B σ dr qu mi S m gh np gq nq) (hU : ag_U S m gh np qu mi gq nq k) (hp1 : 1 ≤ np) (hd : dr ≤ 90000) (hk : k < 512) :
    ∃ σ' dr' gh' mi', ag_M B σ' dr' qu mi' S m gh' np gq nq ∧ ag_U S m gh' np qu mi' gq nq (k + 1) ∧ dr ≤ dr' ∧ dr' ≤ dr + 8 ∧ ag_af B σ σ' 1300 21000 ∧ ∀ K : ag_Rs → ag_S → Prop, ag_cl9 127 [ag_R B] σ K = K (Sum.inl (some (ag_I 1))) σ' := by
  obtain ⟨gb, w, n, gp⟩ := S
  obtain ⟨L, ln, g, T, mt, en, h, hX, hT, tc, ta, tv, tp, ts⟩ := hM
  obtain ⟨hV, hH, hQ, hv, hz, hp0, h9, hs3, hE⟩ := hU
  have hB : ag_IB gb w n := hV.1
  have hw40 : w ≤ 40 := hB.1.2.2.2
  have hm : m ≤ 20 := hV.2.1.1.2.2
  have hn : np ≤ 5 := hH.2.1
  have hli := hH.2.2.2.1
  have tc : ag_TC gb w n ln g := tc
  have ta : ag_TA gp m ln g := ta
  obtain ⟨p, x, y, σ4, dr4, p1, x0, x1, u1, u2, hy, h4, f4, go⟩ := ag_sp_pre h tc ta ts hV hH hp1 hd
  have hX4 := ag_hf_CX f4 hX
  have xn : ag_nm (x : Int) = x := ag_nm_nat (by omega)
  have hkp : ag_kno np (p : Int) := ⟨by rw [ag_nm_nat (by omega)]; omega, by rw [ag_nm_nat (by omega)]; omega⟩
  have rdp : ∀ j, ag_rd 5 (gh j) (p : Int) = gh j p := fun j => ag_rd_nat (by decide) (by omega)
  have hg1 := hH.2.2.2.2.2 p
  rcases hy with ⟨y1, c1, c2, c3⟩ | ⟨y1, c1⟩
  · have hP := fun K => ag_F_speak_3 hX4 hV hH hQ xn hkp (by omega) (by omega) c3 ⟨c1, by rw [rdp]; exact c2⟩ K
    rw [rdp, rdp, ag_wr_nat _ (by decide) (show p < 5 by omega), ag_wr_nat _ (by decide) (show p < 5 by omega), ag_rd_nat (by decide) (show p < 5 by omega), ag_ui_eq] at hP
    obtain ⟨i1, i2⟩ := ag_HI_speak (p := p) hH h9 hk (x := (x : Int)) (by omega) ⟨c1, c2⟩
    have hX5 := ag_CX_H (g := ag_ug (ag_ug gh 2 (ag_ui (gh 2) p (gh 2 p + x))) 1 (ag_ui (gh 1) p (gh 1 p - x))) (v := ag_vH np qu (mi - x)) hX4
    have hFr := ag_Fr_H (B := B) σ4 (g := ag_ug (ag_ug gh 2 (ag_ui (gh 2) p (gh 2 p + x))) 1 (ag_ui (gh 1) p (gh 1 p - x))) (v := ag_vH np qu (mi - x))
    have h5 := ag_HS_Fr h4 hFr (Nat.le_refl _)
    have f5 : ag_af B σ4 (ag_SH σ4 (B + 2) (ag_ug (ag_ug gh 2 (ag_ui (gh 2) p (gh 2 p + x))) 1 (ag_ui (gh 1) p (gh 1 p - x))) (ag_vH np qu (mi - x))) 0 0 := ag_af_Fr hFr rfl
    generalize ag_SH σ4 (B + 2) (ag_ug (ag_ug gh 2 (ag_ui (gh 2) p (gh 2 p + x))) 1 (ag_ui (gh 1) p (gh 1 p - x))) (ag_vH np qu (mi - x)) = σ5 at hP hX5 h5 f5
    have p11 := fun K => ag_h_p11 h5 (mi - (x : Int)) K
    have h6 := ag_HS_ob h5 (dr' := dr4) (mi' := mi - (x : Int)) h5.2.2.2.2.2.2.2.2.2.1 h5.2.2.2.2.2.2.2.2.2.2
    have f6 : ag_hf B σ5 (ag_up σ5.1 B (ag_hob B L dr4 qu (mi - (x : Int))), σ5.2) 0 0 := ag_hf_up σ5 _ (Or.inl rfl)
    generalize ((ag_up σ5.1 B (ag_hob B L dr4 qu (mi - (x : Int))), σ5.2) : ag_S) = σ6 at p11 h6 f6
    obtain ⟨σ7, g7, a1, a2, a3, a4, a5⟩ := ag_s_w7 h6 ts hn p1 (v := gh 1 p - (x : Int)) (by omega) (by omega)
    have h2p := h9 p
    obtain ⟨σ8, g8, b1, b2, b3, b4, b5⟩ := ag_s_w8 a1 a2 hn p1 (v := gh 2 p + (x : Int)) (by omega) (by omega)
    have e9 : ag_ug (ag_ug gh 1 (ag_ui (gh 1) p (gh 1 p - x))) 2 (ag_ui (ag_ug gh 1 (ag_ui (gh 1) p (gh 1 p - x)) 2) p (gh 2 p + x)) = ag_ug (ag_ug gh 2 (ag_ui (gh 2) p (gh 2 p + x))) 1 (ag_ui (gh 1) p (gh 1 p - x)) := by
      rw [ag_ug_co _ _ _ (by decide)]
      rfl
    rw [e9] at b2
    have hX8 := ag_hf_CX b4 (ag_hf_CX a4 (ag_hf_CX f6 hX5))
    have keep : ∀ r, r ≠ 7 → r ≠ 8 → ln r = ln r ∧ g8 r = g r := fun r r1 r2 => ⟨rfl, (b3 r r2).trans (a3 r r1)⟩
    refine ⟨σ8, dr4, ag_ug (ag_ug gh 2 (ag_ui (gh 2) p (gh 2 p + x))) 1 (ag_ui (gh 1) p (gh 1 p - x)), mi - x, ⟨L, ln, g8, T, mt, en, b1, hX8, hT, ag_TC_eq hw40 (fun r hr => keep r (by omega) (by omega)) tc, ag_TA_eq (by omega) (fun r hr => keep r (by omega) (by omega)) ta, ag_TV_eq (gh := ag_ug (ag_ug gh 2 (ag_ui (gh 2) p (gh 2 p + x))) 1 (ag_ui (gh 1) p (gh 1 p - x))) (by omega) (fun r hr => keep r (by omega) (by omega)) tv, ag_TP_eq (fun r hr => keep r (by omega) (by omega)) tp, b2⟩, ⟨hV, i1, hQ, hv, hz, fun p' hp' => ?_, i2, ?_, hE⟩, u1, by omega, ag_af_le (ag_af_trans (ag_af_hf f4) (ag_af_trans f5 (ag_af_hf (ag_hf_trans f6 (ag_hf_trans a4 b4))))) (by omega) (by omega), fun K => ?_⟩
    · show ag_ui (gh 1) p (gh 1 p - x) p' = 0 ∧ ag_ui (gh 2) p (gh 2 p + x) p' = 0
      rw [ag_ui_ne (by omega), ag_ui_ne (by omega)]
      exact hp0 p' hp'
    · refine Int.le_trans (ag_su_le (f' := gh 1) np 0 (fun j _ _ => ?_)) hs3
      show ag_ui (gh 1) p (gh 1 p - x) j ≤ gh 1 j
      by_cases z : j = p
      · rw [z, ag_ui_eq]
        omega
      · rw [ag_ui_ne z]
        exact Int.le_refl _
    · have w7 := fun K => a5 (p : Int) K rfl
      have w8 := fun K => b5 (p : Int) K rfl
      have r7 : ∀ K : Int → Prop, ag_ia σ6 (L 7) (p : Int) K = K (gh 1 p) := fun K => ag_s_i7 h6 ts (by omega) p1 rfl K
      have r8 : ∀ K : Int → Prop, ag_ia σ7 (L 8) (p : Int) K = K (gh 2 p) := fun K => ag_s_i8 a1 a2 (by omega) p1 rfl K
      have r9 : ∀ K : Int → Prop, ag_ia σ8 (L 7) (p : Int) K = K (gh 1 p - x) := fun K => by
        rw [ag_s_i7 b1 b2 (by omega) p1 rfl K]
        show K (ag_ui (gh 1) p (gh 1 p - x) p) = _
        rw [ag_ui_eq]
      rw [go K, y1]
      simp only [ag_i127_63, ag_i127_64, ag_h_g0 h4, ag_i127_67, ag_i127_68, ag_i127_69, ag_X_o0 hX4, ag_X_o1 hX4, ag_X_o2 hX4, ag_X_o3 hX4, ag_X_o4 hX4, ag_X_oc hX4, ag_X_n0 hX4, ag_X_n1 hX4, ag_X_n2 hX4, ag_X_nc hX4, ag_X_t0 hX4, ag_X_t1 hX4, ag_X_t2 hX4, ag_X_tc hX4, ag_X_b0 hX4, ag_X_b1 hX4, ag_X_b2 hX4, ag_X_b3 hX4, ag_X_b4 hX4, ag_X_b5 hX4, ag_X_b6 hX4, ag_X_b7 hX4, ag_X_b8 hX4, ag_X_b9 hX4, ag_X_bc hX4, ag_X_p0 hX4, ag_X_p1 hX4, ag_X_p2 hX4, ag_X_p3 hX4, ag_X_p4 hX4, ag_X_p5 hX4, ag_X_p6 hX4, ag_X_pc hX4, ag_X_h0 hX4, ag_X_h1 hX4, ag_X_h2 hX4, ag_X_h3 hX4, ag_X_h4 hX4, ag_X_h5 hX4, ag_X_h6 hX4, ag_X_hc hX4, ag_X_q0 hX4, ag_X_q1 hX4, ag_X_q2 hX4, ag_X_qc hX4, ag_X_tb0 hX4, ag_X_tb1 hX4, ag_X_tb2 hX4, ag_X_tb3 hX4, ag_X_tb4 hX4, ag_X_tb5 hX4, ag_X_tb6 hX4, ag_X_tb7 hX4, ag_X_tb8 hX4, ag_X_tb9 hX4, ag_X_tbc hX4, ag_X_tp0 hX4, ag_X_tp1 hX4, ag_X_tp2 hX4, ag_X_tp3 hX4, ag_X_tp4 hX4, ag_X_tp5 hX4, ag_X_tp6 hX4, ag_X_tpc hX4, ag_X_ba0 hX4, ag_X_ba1 hX4, ag_X_ba2 hX4, ag_X_ba3 hX4, ag_X_ba4 hX4, ag_X_ba5 hX4, ag_X_ba6 hX4, ag_X_ba7 hX4, ag_X_pa0 hX4, ag_X_pa1 hX4, ag_X_pa2 hX4, ag_X_pa3 hX4, ag_X_pa4 hX4, ag_X_pa5 hX4, ag_X_ha0 hX4, ag_X_ha1 hX4, ag_X_ha2 hX4, ag_X_ha3 hX4, ag_X_qa0 hX4, ag_X_qa1 hX4, ag_X_tba0 hX4, ag_X_tba1 hX4, ag_X_tba2 hX4, ag_X_tba3 hX4, ag_X_tba4 hX4, ag_X_tba5 hX4, ag_X_tba6 hX4, ag_X_tba7 hX4, ag_X_tpa0 hX4, ag_X_tpa1 hX4, ag_X_tpa2 hX4, ag_X_tpa3 hX4, ag_X_tpa4 hX4, ag_X_tpa5 hX4, ag_X_ea hX4, hP, ag_kk_v, ag_kk_n, Nat.reduceAdd, ag_i127_72_n, ag_i127_72_i, ag_i127_72_r, ag_i127_74, ag_i127_75, ag_i127_76, ag_h_g11 h5, ag_i127_79, ag_i127_80, ag_i127_81, p11, ag_i127_84, ag_i127_85, ag_h_g8 h6, ag_i127_88, ag_i127_89, ag_i127_90, r7, ag_i127_91, ag_i127_92, ag_i127_93, w7, ag_i127_94, ag_i127_95, ag_h_g9 a1, ag_i127_98, ag_i127_99, ag_i127_100, r8, ag_i127_101, ag_i127_102, ag_i127_103, w8, ag_i127_104, ag_i127_105, ag_nm_1, ag_nm_z, Int.reduceEq, ↓reduceIte, ag_i127_108, ag_i127_110, ag_i127_111, ag_h_g8 b1, ag_i127_114, ag_i127_115, r9, ag_i127_116]
      rw [if_neg (by simp)]
      simp only [ag_i127_119, ag_i127_120, ag_i127_124, ag_b0, ag_b1, true_and, or_true, true_or, Int.reduceEq, ne_eq, not_false_eq_true, not_true_eq_false, ↓reduceIte]
  · have hP := fun K => ag_F_speak_2 hX4 hV hH hQ xn hkp (by omega) (by
      rw [rdp]
      show mi = -1 ∨ ag_nxt gb gp m = -1 ∨ ¬ ((x : Int) ≤ mi ∧ (x : Int) ≤ gh 1 p)
      by_cases q : ag_nxt gb gp m = -1
      · exact Or.inr (Or.inl q)
      · exact Or.inr (Or.inr fun q2 => c1 ⟨q2.1, q2.2, q⟩)) K
    refine ⟨ag_bp σ4, dr4, gh, mi, ⟨L, ln, g, T, mt, en, ag_HS_bp h4, ag_CX_bp hX4, hT, tc, ta, tv, tp, ts⟩, ag_U_k ⟨hV, hH, hQ, hv, hz, hp0, h9, hs3, hE⟩, u1, by omega, ag_af_le (ag_af_trans (ag_af_hf f4) (ag_af_bp σ4)) (by omega) (by omega), fun K => ?_⟩
    rw [go K, y1]
    simp only [ag_i127_63, ag_i127_64, ag_h_g0 h4, ag_i127_67, ag_i127_68, ag_i127_69, ag_X_o0 hX4, ag_X_o1 hX4, ag_X_o2 hX4, ag_X_o3 hX4, ag_X_o4 hX4, ag_X_oc hX4, ag_X_n0 hX4, ag_X_n1 hX4, ag_X_n2 hX4, ag_X_nc hX4, ag_X_t0 hX4, ag_X_t1 hX4, ag_X_t2 hX4, ag_X_tc hX4, ag_X_b0 hX4, ag_X_b1 hX4, ag_X_b2 hX4, ag_X_b3 hX4, ag_X_b4 hX4, ag_X_b5 hX4, ag_X_b6 hX4, ag_X_b7 hX4, ag_X_b8 hX4, ag_X_b9 hX4, ag_X_bc hX4, ag_X_p0 hX4, ag_X_p1 hX4, ag_X_p2 hX4, ag_X_p3 hX4, ag_X_p4 hX4, ag_X_p5 hX4, ag_X_p6 hX4, ag_X_pc hX4, ag_X_h0 hX4, ag_X_h1 hX4, ag_X_h2 hX4, ag_X_h3 hX4, ag_X_h4 hX4, ag_X_h5 hX4, ag_X_h6 hX4, ag_X_hc hX4, ag_X_q0 hX4, ag_X_q1 hX4, ag_X_q2 hX4, ag_X_qc hX4, ag_X_tb0 hX4, ag_X_tb1 hX4, ag_X_tb2 hX4, ag_X_tb3 hX4, ag_X_tb4 hX4, ag_X_tb5 hX4, ag_X_tb6 hX4, ag_X_tb7 hX4, ag_X_tb8 hX4, ag_X_tb9 hX4, ag_X_tbc hX4, ag_X_tp0 hX4, ag_X_tp1 hX4, ag_X_tp2 hX4, ag_X_tp3 hX4, ag_X_tp4 hX4, ag_X_tp5 hX4, ag_X_tp6 hX4, ag_X_tpc hX4, ag_X_ba0 hX4, ag_X_ba1 hX4, ag_X_ba2 hX4, ag_X_ba3 hX4, ag_X_ba4 hX4, ag_X_ba5 hX4, ag_X_ba6 hX4, ag_X_ba7 hX4, ag_X_pa0 hX4, ag_X_pa1 hX4, ag_X_pa2 hX4, ag_X_pa3 hX4, ag_X_pa4 hX4, ag_X_pa5 hX4, ag_X_ha0 hX4, ag_X_ha1 hX4, ag_X_ha2 hX4, ag_X_ha3 hX4, ag_X_qa0 hX4, ag_X_qa1 hX4, ag_X_tba0 hX4, ag_X_tba1 hX4, ag_X_tba2 hX4, ag_X_tba3 hX4, ag_X_tba4 hX4, ag_X_tba5 hX4, ag_X_tba6 hX4, ag_X_tba7 hX4, ag_X_tpa0 hX4, ag_X_tpa1 hX4, ag_X_tpa2 hX4, ag_X_tpa3 hX4, ag_X_tpa4 hX4, ag_X_tpa5 hX4, ag_X_ea hX4, hP, ag_h127_2_n, ag_h127_2_i, ag_h127_2_r, ag_i127_127, ag_i127_128, ag_nm_z, ne_eq, not_true_eq_false, ↓reduceIte, ag_i127_131, ag_i127_132, ag_i127_136, ag_b0, ag_b1, true_and, or_true, true_or, Int.reduceEq, ne_eq, not_false_eq_true, not_true_eq_false, ↓reduceIte]
/-- a call that finds one -/
theorem ag_a_call1 (hM : ag_M B σ dr qu mi S m gh np gq nq) (hU : ag_U S m gh np qu mi gq nq k) {b : Nat} (hb : b < m) (hn : ag_nxt S.1 S.2.2.2 m = b) (h3 : 3 ≤ mi) :
    ∃ σ' gq', S.2.2.2 3 b = 0 ∧ ag_M B σ' dr qu (mi - 3) (ag_dec gh np qu (-1) m S b) m gh np gq' nq ∧ ag_U (ag_dec gh np qu (-1) m S b) m gh np qu (mi - 3) gq' nq (k + 1) ∧ S.2.1 ≤ (ag_dec gh np qu (-1) m S b).2.1 ∧ ag_af B σ σ' 1300 21000 ∧ ∀ K : ag_Rs → ag_S → Prop, ag_cl9 128 [ag_R B] σ K = K (Sum.inl (some (ag_I 1))) σ' := by
  obtain ⟨gb, w, n, gp⟩ := S
  obtain ⟨L, ln, g, T, mt, en, h, hX, hT, tc, ta, tv, tp, ts⟩ := hM
  obtain ⟨hV, hH, hQ, hv, hz, hp0, h9, hs3, hE⟩ := hU
  have hB : ag_IB gb w n := hV.1
  have hw40 : w ≤ 40 := hB.1.2.2.2
  have hm : m ≤ 20 := hV.2.1.1.2.2
  have hli := hH.2.2.2.1
  have tc : ag_TC gb w n ln g := tc
  have ta : ag_TA gp m ln g := ta
  have hn : ag_nxt gb gp m = b := hn
  have hl : gp 3 b = 0 := by
    obtain ⟨b', q1, q2, q3⟩ := ag_nxt_is (gb := gb) (gp := gp) (m := m) (by omega)
    have : b' = b := by omega
    rw [← this]
    exact q3
  obtain ⟨σ1, n1, n2⟩ := ag_h_next h tc ta hV
  rw [hn] at n1
  have h1 := ag_HS_fr h n2
  have f1 := ag_hf_fr n2 h.2.2.2.2.2.1.2
  have hX1 := ag_hf_CX f1 hX
  obtain ⟨σ2, hX2, hFr, es, hP⟩ := ag_F_call_1 hX1 hV hH hQ hb hn hl h3
  have h2 := ag_HS_Fr h1 hFr (by rw [es]; exact Nat.le_refl _)
  have p11 := fun K => ag_h_p11 h2 (mi - 3) K
  have hd2 := h2.2.2.2.2.2.2.2.2.2
  have h3' := ag_HS_ob h2 (dr' := dr) (mi' := mi - 3) hd2.1 hd2.2
  have f3 : ag_hf B σ2 (ag_up σ2.1 B (ag_hob B L dr qu (mi - 3)), σ2.2) 0 0 := ag_hf_up σ2 _ (Or.inl rfl)
  generalize ((ag_up σ2.1 B (ag_hob B L dr qu (mi - 3)), σ2.2) : ag_S) = σ3 at p11 h3' f3
  have hH3 : ag_HI gh np qu (mi - 3) := ⟨hH.1, hH.2.1, hH.2.2.1, by omega, hH.2.2.2.2⟩
  obtain ⟨σ4, L4, ln4, g4, a1, a2, a3, a4, a5, a6, a7⟩ := ag_h_put h3' tc ta tp tv ts hH3 hv hV hb hl
  have hX4 := ag_hf_CX a6 (ag_hf_CX f3 hX2)
  have hties := ag_ties_fn (gh := gh) (gq := gq) (np := np) (nq := nq) (qu := qu) (x := -1) hV hb hl hQ
  rw [hties] at hX4
  have hQ4 := ag_ties_QI (gh := gh) (gq := gq) (np := np) (nq := nq) (qu := qu) (x := -1) hV hb hl hQ
  obtain ⟨iv, -, z0, z1⟩ := ag_dec_IV (gh := gh) (np := np) (qu := qu) (x := -1) hV hb hl
  have hE4 := ag_E_dec (gh := gh) (np := np) (qu := qu) (x := -1) hV hE hb hl
  have hww : w ≤ (ag_dec gh np qu (-1) m (gb, (w, (n, gp))) b).2.1 := by
    have dec : ag_dec gh np qu (-1) m (gb, (w, (n, gp))) b = if ag_ftb gb w n gp b = 0 then (gb, (w, (n, ag_set gp b 3 b m))) else if ag_car gh np qu b (-1) = 0 then (gb, (w, (n, ag_set gp b 2 (-1) m))) else ag_psd gb w n gp m b := rfl
    rw [dec]
    split
    · exact Nat.le_refl _
    · split
      · exact Nat.le_refl _
      · exact ag_pfm_w gb w n gp b
  have st4 : ∀ K : Int → Prop, ag_ia σ4 (L4 (300 + b)) 3 K = K ((ag_dec gh np qu (-1) m (gb, (w, (n, gp))) b).2.2.2 3 b) := fun K => ag_a_i3 a1 a3 hb K
  have bn : ag_nm (b : Int) = b := ag_nm_nat (by omega)
  refine ⟨σ4, ag_ug gq 0 (ag_tpt gh np qu (-1) (gb, (w, (n, gp))) (gq 0) nq b), hl, ⟨L4, ln4, g4, T, mt, en, a1, hX4, hT, a2, a3, ag_TV_eq (by omega) (fun r hr => a5 r (by omega)) tv, a4, ag_TS_eq (fun r hr => a5 r (by omega)) ts⟩, ag_U_k ⟨iv, hH3, hQ4, hv, hz, hp0, fun p => ?_, hs3, hE4⟩, hww, ag_af_le (ag_af_trans (ag_af_hf f1) (ag_af_trans (ag_af_Fr hFr es) (ag_af_hf (ag_hf_trans f3 a6)))) (by omega) (by omega), fun K => ?_⟩
  · have := h9 p
    omega
  · have min : ag_nm mi = mi := ag_nm_of (by omega) (by omega)
    simp only [ag_e128, ag_i128_0, ag_i128_1, ag_h_ck h, n1, ag_kk_v, ag_kk_n, Nat.reduceAdd, ag_i128_4_n, ag_i128_4_i, ag_i128_4_r, ag_i128_5, ag_i128_6, bn, ag_nm_z]
    rw [if_neg (show ¬ (b : Int) < 0 by omega)]
    simp only [ag_i128_9, ag_i128_10, ag_h_g11 h1, ag_i128_13, ag_i128_14, ag_nmk_3, min]
    rw [if_neg (show ¬ mi < 3 by omega)]
    simp only [ag_i128_17, ag_i128_18, ag_i128_22_n, ag_i128_22_i, ag_i128_22_r, ag_i128_23, ag_i128_24, ag_h_g0 h1, ag_i128_27, ag_X_o0 hX1, ag_X_o1 hX1, ag_X_o2 hX1, ag_X_o3 hX1, ag_X_o4 hX1, ag_X_oc hX1, ag_X_n0 hX1, ag_X_n1 hX1, ag_X_n2 hX1, ag_X_nc hX1, ag_X_t0 hX1, ag_X_t1 hX1, ag_X_t2 hX1, ag_X_tc hX1, ag_X_b0 hX1, ag_X_b1 hX1, ag_X_b2 hX1, ag_X_b3 hX1, ag_X_b4 hX1, ag_X_b5 hX1, ag_X_b6 hX1, ag_X_b7 hX1, ag_X_b8 hX1, ag_X_b9 hX1, ag_X_bc hX1, ag_X_p0 hX1, ag_X_p1 hX1, ag_X_p2 hX1, ag_X_p3 hX1, ag_X_p4 hX1, ag_X_p5 hX1, ag_X_p6 hX1, ag_X_pc hX1, ag_X_h0 hX1, ag_X_h1 hX1, ag_X_h2 hX1, ag_X_h3 hX1, ag_X_h4 hX1, ag_X_h5 hX1, ag_X_h6 hX1, ag_X_hc hX1, ag_X_q0 hX1, ag_X_q1 hX1, ag_X_q2 hX1, ag_X_qc hX1, ag_X_tb0 hX1, ag_X_tb1 hX1, ag_X_tb2 hX1, ag_X_tb3 hX1, ag_X_tb4 hX1, ag_X_tb5 hX1, ag_X_tb6 hX1, ag_X_tb7 hX1, ag_X_tb8 hX1, ag_X_tb9 hX1, ag_X_tbc hX1, ag_X_tp0 hX1, ag_X_tp1 hX1, ag_X_tp2 hX1, ag_X_tp3 hX1, ag_X_tp4 hX1, ag_X_tp5 hX1, ag_X_tp6 hX1, ag_X_tpc hX1, ag_X_ba0 hX1, ag_X_ba1 hX1, ag_X_ba2 hX1, ag_X_ba3 hX1, ag_X_ba4 hX1, ag_X_ba5 hX1, ag_X_ba6 hX1, ag_X_ba7 hX1, ag_X_pa0 hX1, ag_X_pa1 hX1, ag_X_pa2 hX1, ag_X_pa3 hX1, ag_X_pa4 hX1, ag_X_pa5 hX1, ag_X_ha0 hX1, ag_X_ha1 hX1, ag_X_ha2 hX1, ag_X_ha3 hX1, ag_X_qa0 hX1, ag_X_qa1 hX1, ag_X_tba0 hX1, ag_X_tba1 hX1, ag_X_tba2 hX1, ag_X_tba3 hX1, ag_X_tba4 hX1, ag_X_tba5 hX1, ag_X_tba6 hX1, ag_X_tba7 hX1, ag_X_tpa0 hX1, ag_X_tpa1 hX1, ag_X_tpa2 hX1, ag_X_tpa3 hX1, ag_X_tpa4 hX1, ag_X_tpa5 hX1, ag_X_ea hX1, hP, ag_kk_v, ag_kk_n, Nat.reduceAdd, ag_i128_30_n, ag_i128_30_i, ag_i128_30_r, ag_i128_31, ag_i128_32, ag_nm_1, ag_nm_z, ne_eq, Int.reduceEq, not_false_eq_true, ↓reduceIte, ag_i128_37, ag_i128_38, ag_i128_39, ag_h_g11 h2, ag_i128_42, ag_i128_43, ag_i128_44, p11, ag_i128_47, ag_i128_48, ag_i128_49, ag_i128_50, ag_h_ck h3', a7, ag_kk_v, ag_kk_n, Nat.reduceAdd, ag_i128_53, ag_i128_54, ag_i128_55, ag_h_g5 a1, ag_i128_58, ag_i128_59, ag_a_q a1 a3 hb (x := (b : Int)) rfl, ag_i128_60, ag_i128_61, st4, ag_i128_62]
    simp only [not_true_eq_false, ↓reduceIte, ag_i128_65, ag_i128_66, ag_i128_70, ag_b0, ag_b1, true_and, or_true, true_or, Int.reduceEq, ne_eq, not_false_eq_true, not_true_eq_false, ↓reduceIte]
/-- a call that is refused -/
theorem ag_a_call0 (hM : ag_M B σ dr qu mi S m gh np gq nq) (hU : ag_U S m gh np qu mi gq nq k) (hc : ag_nxt S.1 S.2.2.2 m = -1 ∨ mi < 3) :
    ∃ σ', ag_M B σ' dr qu mi S m gh np gq nq ∧ ag_af B σ σ' 1300 21000 ∧ ∀ K : ag_Rs → ag_S → Prop, ag_cl9 128 [ag_R B] σ K = K (Sum.inl (some (ag_I 1))) σ' := by
  obtain ⟨gb, w, n, gp⟩ := S
  obtain ⟨L, ln, g, T, mt, en, h, hX, hT, tc, ta, tv, tp, ts⟩ := hM
  obtain ⟨hV, hH, hQ, hv, hz, hp0, h9, hs3, hE⟩ := hU
  have hli := hH.2.2.2.1
  have tc : ag_TC gb w n ln g := tc
  have ta : ag_TA gp m ln g := ta
  obtain ⟨σ1, n1, n2⟩ := ag_h_next h tc ta hV
  have h1 := ag_HS_fr h n2
  have f1 := ag_hf_fr n2 h.2.2.2.2.2.1.2
  have hX1 := ag_hf_CX f1 hX
  have hP := fun K => ag_F_call_0 hX1 hV hH hc K
  have hc : ag_nxt gb gp m = -1 ∨ mi < 3 := hc
  obtain ⟨r1, r2, r3⟩ := ag_nxt_rg (gb := gb) (gp := gp) (m := m) hV.2.1.1.2.2
  have min : ag_nm mi = mi := ag_nm_of (by omega) (by omega)
  refine ⟨ag_bp σ1, ⟨L, ln, g, T, mt, en, ag_HS_bp h1, ag_CX_bp hX1, hT, tc, ta, tv, tp, ts⟩, ag_af_le (ag_af_trans (ag_af_hf f1) (ag_af_bp σ1)) (by omega) (by omega), fun K => ?_⟩
  simp only [ag_e128, ag_i128_0, ag_i128_1, ag_h_ck h, n1, ag_kk_v, ag_kk_n, Nat.reduceAdd, ag_i128_4_n, ag_i128_4_i, ag_i128_4_r, ag_i128_5, ag_i128_6, r1, ag_nm_z]
  by_cases c : ag_nxt gb gp m < 0
  · rw [if_pos c]
    simp only [ag_i128_21, ag_i128_22_n, ag_i128_22_i, ag_i128_22_r, ag_i128_23, ag_i128_24, ag_h_g0 h1, ag_i128_27, ag_X_o0 hX1, ag_X_o1 hX1, ag_X_o2 hX1, ag_X_o3 hX1, ag_X_o4 hX1, ag_X_oc hX1, ag_X_n0 hX1, ag_X_n1 hX1, ag_X_n2 hX1, ag_X_nc hX1, ag_X_t0 hX1, ag_X_t1 hX1, ag_X_t2 hX1, ag_X_tc hX1, ag_X_b0 hX1, ag_X_b1 hX1, ag_X_b2 hX1, ag_X_b3 hX1, ag_X_b4 hX1, ag_X_b5 hX1, ag_X_b6 hX1, ag_X_b7 hX1, ag_X_b8 hX1, ag_X_b9 hX1, ag_X_bc hX1, ag_X_p0 hX1, ag_X_p1 hX1, ag_X_p2 hX1, ag_X_p3 hX1, ag_X_p4 hX1, ag_X_p5 hX1, ag_X_p6 hX1, ag_X_pc hX1, ag_X_h0 hX1, ag_X_h1 hX1, ag_X_h2 hX1, ag_X_h3 hX1, ag_X_h4 hX1, ag_X_h5 hX1, ag_X_h6 hX1, ag_X_hc hX1, ag_X_q0 hX1, ag_X_q1 hX1, ag_X_q2 hX1, ag_X_qc hX1, ag_X_tb0 hX1, ag_X_tb1 hX1, ag_X_tb2 hX1, ag_X_tb3 hX1, ag_X_tb4 hX1, ag_X_tb5 hX1, ag_X_tb6 hX1, ag_X_tb7 hX1, ag_X_tb8 hX1, ag_X_tb9 hX1, ag_X_tbc hX1, ag_X_tp0 hX1, ag_X_tp1 hX1, ag_X_tp2 hX1, ag_X_tp3 hX1, ag_X_tp4 hX1, ag_X_tp5 hX1, ag_X_tp6 hX1, ag_X_tpc hX1, ag_X_ba0 hX1, ag_X_ba1 hX1, ag_X_ba2 hX1, ag_X_ba3 hX1, ag_X_ba4 hX1, ag_X_ba5 hX1, ag_X_ba6 hX1, ag_X_ba7 hX1, ag_X_pa0 hX1, ag_X_pa1 hX1, ag_X_pa2 hX1, ag_X_pa3 hX1, ag_X_pa4 hX1, ag_X_pa5 hX1, ag_X_ha0 hX1, ag_X_ha1 hX1, ag_X_ha2 hX1, ag_X_ha3 hX1, ag_X_qa0 hX1, ag_X_qa1 hX1, ag_X_tba0 hX1, ag_X_tba1 hX1, ag_X_tba2 hX1, ag_X_tba3 hX1, ag_X_tba4 hX1, ag_X_tba5 hX1, ag_X_tba6 hX1, ag_X_tba7 hX1, ag_X_tpa0 hX1, ag_X_tpa1 hX1, ag_X_tpa2 hX1, ag_X_tpa3 hX1, ag_X_tpa4 hX1, ag_X_tpa5 hX1, ag_X_ea hX1, hP, ag_h128_2_n, ag_h128_2_i, ag_h128_2_r, ag_i128_72, ag_i128_73, ag_nm_z, ne_eq, not_true_eq_false, ↓reduceIte, ag_i128_76, ag_i128_77, ag_i128_81, ag_b0, ag_b1, true_and, or_true, true_or, Int.reduceEq, ne_eq, not_false_eq_true, not_true_eq_false, ↓reduceIte]
  · rw [if_neg c]
    simp only [ag_i128_9, ag_i128_10, ag_h_g11 h1, ag_i128_13, ag_i128_14, ag_nmk_3, min]
    rw [if_pos (show mi < 3 by omega)]
    simp only [ag_i128_21, ag_i128_22_n, ag_i128_22_i, ag_i128_22_r, ag_i128_23, ag_i128_24, ag_h_g0 h1, ag_i128_27, ag_X_o0 hX1, ag_X_o1 hX1, ag_X_o2 hX1, ag_X_o3 hX1, ag_X_o4 hX1, ag_X_oc hX1, ag_X_n0 hX1, ag_X_n1 hX1, ag_X_n2 hX1, ag_X_nc hX1, ag_X_t0 hX1, ag_X_t1 hX1, ag_X_t2 hX1, ag_X_tc hX1, ag_X_b0 hX1, ag_X_b1 hX1, ag_X_b2 hX1, ag_X_b3 hX1, ag_X_b4 hX1, ag_X_b5 hX1, ag_X_b6 hX1, ag_X_b7 hX1, ag_X_b8 hX1, ag_X_b9 hX1, ag_X_bc hX1, ag_X_p0 hX1, ag_X_p1 hX1, ag_X_p2 hX1, ag_X_p3 hX1, ag_X_p4 hX1, ag_X_p5 hX1, ag_X_p6 hX1, ag_X_pc hX1, ag_X_h0 hX1, ag_X_h1 hX1, ag_X_h2 hX1, ag_X_h3 hX1, ag_X_h4 hX1, ag_X_h5 hX1, ag_X_h6 hX1, ag_X_hc hX1, ag_X_q0 hX1, ag_X_q1 hX1, ag_X_q2 hX1, ag_X_qc hX1, ag_X_tb0 hX1, ag_X_tb1 hX1, ag_X_tb2 hX1, ag_X_tb3 hX1, ag_X_tb4 hX1, ag_X_tb5 hX1, ag_X_tb6 hX1, ag_X_tb7 hX1, ag_X_tb8 hX1, ag_X_tb9 hX1, ag_X_tbc hX1, ag_X_tp0 hX1, ag_X_tp1 hX1, ag_X_tp2 hX1, ag_X_tp3 hX1, ag_X_tp4 hX1, ag_X_tp5 hX1, ag_X_tp6 hX1, ag_X_tpc hX1, ag_X_ba0 hX1, ag_X_ba1 hX1, ag_X_ba2 hX1, ag_X_ba3 hX1, ag_X_ba4 hX1, ag_X_ba5 hX1, ag_X_ba6 hX1, ag_X_ba7 hX1, ag_X_pa0 hX1, ag_X_pa1 hX1, ag_X_pa2 hX1, ag_X_pa3 hX1, ag_X_pa4 hX1, ag_X_pa5 hX1, ag_X_ha0 hX1, ag_X_ha1 hX1, ag_X_ha2 hX1, ag_X_ha3 hX1, ag_X_qa0 hX1, ag_X_qa1 hX1, ag_X_tba0 hX1, ag_X_tba1 hX1, ag_X_tba2 hX1, ag_X_tba3 hX1, ag_X_tba4 hX1, ag_X_tba5 hX1, ag_X_tba6 hX1, ag_X_tba7 hX1, ag_X_tpa0 hX1, ag_X_tpa1 hX1, ag_X_tpa2 hX1, ag_X_tpa3 hX1, ag_X_tpa4 hX1, ag_X_tpa5 hX1, ag_X_ea hX1, hP, ag_h128_2_n, ag_h128_2_i, ag_h128_2_r, ag_i128_72, ag_i128_73, ag_nm_z, ne_eq, not_true_eq_false, ↓reduceIte, ag_i128_76, ag_i128_77, ag_i128_81, ag_b0, ag_b1, true_and, or_true, true_or, Int.reduceEq, ne_eq, not_false_eq_true, not_true_eq_false, ↓reduceIte]
end AGAH
