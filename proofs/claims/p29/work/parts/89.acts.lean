/-! THE HOUSE: party and vote. -/
variable {B : Nat}
theorem ag_su_end (f : Nat → Int) : ∀ (k i : Nat), ag_su f (k + 1) i = ag_su f k i + f (i + k) := by
  intro k
  induction k with
  | zero =>
    intro i
    show f i + ag_su f 0 (i + 1) = ag_su f 0 i + f (i + 0)
    rw [show ag_su f 0 (i + 1) = 0 from rfl, show ag_su f 0 i = 0 from rfl, Nat.add_zero]
    omega
  | succ k ih =>
    intro i
    show f i + ag_su f (k + 1) (i + 1) = (f i + ag_su f k (i + 1)) + f (i + (k + 1))
    rw [ih (i + 1), show i + 1 + k = i + (k + 1) by omega]
    omega
section AGAC
variable {σ : ag_S} {L ln : Nat → Nat} {g : Nat → Nat → Int} {dr qu mi : Int} {gb gp gh gq : Nat → Nat → Int} {w n m np nq k : Nat} {S : ag_T}
theorem ag_a_party (hM : ag_M B σ dr qu mi S m gh np gq nq) (hU : ag_U S m gh np qu mi gq nq k) (hd : dr ≤ 90000) :
    ∃ σ' dr' gh' np', ag_M B σ' dr' qu mi S m gh' np' gq nq ∧ ag_U S m gh' np' qu mi gq nq (k + 1) ∧ np ≤ np' ∧ 1 ≤ np' ∧ dr ≤ dr' ∧ dr' ≤ dr + 8 ∧ ag_af B σ σ' 1300 21000 ∧ ∀ K : ag_Rs → ag_S → Prop, ag_cl9 123 [ag_R B] σ K = K (Sum.inl (some (ag_I 1))) σ' := by
  obtain ⟨L, ln, g, T, mt, en, h, hX, hT, tc, ta, tv, tp, ts⟩ := hM
  obtain ⟨hV, hH, hQ, hv, hz, hp0, h9, hs3, hE⟩ := hU
  have hw40 : S.2.1 ≤ 40 := hV.1.1.2.2.2
  have hm : m ≤ 20 := hV.2.1.1.2.2
  have hn : np ≤ 5 := hH.2.1
  by_cases z : np = 5
  · refine ⟨σ, dr, gh, np, ⟨L, ln, g, T, mt, en, h, hX, hT, tc, ta, tv, tp, ts⟩, ag_U_k ⟨hV, hH, hQ, hv, hz, hp0, h9, hs3, hE⟩, Nat.le_refl _, by omega, by omega, by omega, ag_af_le (ag_af_hf (ag_hf_refl σ)) (by omega) (by omega), fun K => ?_⟩
    simp only [ag_e123, ag_i123_0, ag_i123_1, ag_h_g7 h, ag_i123_4, ag_h_a6 h, ts.1, ag_i123_5, ag_i123_6, ag_nmk_5, ag_nm_nat (show np ≤ 1000000 by omega)]
    rw [if_neg (show ¬ (np : Int) ≠ 5 by omega)]
    simp only [ag_i123_9, ag_i123_10, ag_b0, ag_b1, true_and, or_true, true_or, Int.reduceEq, ne_eq, not_false_eq_true, not_true_eq_false, ↓reduceIte]
  · obtain ⟨v, σ1, v1, h1, f1, o1, e1, d1⟩ := ag_w_draw h (by omega) (show 1 ≤ 30 by decide) (by decide)
    have hX1 := ag_hf_CX f1 hX
    obtain ⟨σ2, σ3, a1, a2, a3, a4⟩ := ag_h_rep6 h1 (x := 1 + (v : Int)) (by omega) (by omega) (by rw [ts.1]; omega)
    rw [ts.1] at a1 a4
    have l7 : ag_uf ln 6 (np + 1) 7 = np := by rw [ag_uf_ne (by decide)]; exact ts.2.1
    obtain ⟨σ4, σ5, b1, b2, b3, b4⟩ := ag_h_rep7 a4 (x := 0) (by decide) (by decide) (by rw [l7]; omega)
    rw [l7] at b1 b4
    have l8 : ag_uf (ag_uf ln 6 (np + 1)) 7 (np + 1) 8 = np := by rw [ag_uf_ne (by decide), ag_uf_ne (by decide)]; exact ts.2.2.1
    obtain ⟨σ6, σ7, c1, c2, c3, c4⟩ := ag_h_rep8 b4 (x := 0) (by decide) (by decide) (by rw [l8]; omega)
    rw [l8] at c1 c4
    have hX7 := ag_hf_CX c3 (ag_hf_CX b3 (ag_hf_CX a3 hX1))
    have hP := fun K => ag_F_party_2 hX7 hV hH hQ (s := 1 + (v : Int)) (ag_nm_of (by omega) (by omega)) (by omega) (by omega) K
    have hX8 := ag_CX_H (g := ag_ug gh 0 (ag_ui (gh 0) np (1 + (v : Int)))) (v := ag_vH (np + 1) qu mi) hX7
    have hFr := ag_Fr_H (B := B) σ7 (g := ag_ug gh 0 (ag_ui (gh 0) np (1 + (v : Int)))) (v := ag_vH (np + 1) qu mi)
    have h8 := ag_HS_Fr c4 hFr (Nat.le_refl _)
    have keep : ∀ r, r < 6 ∨ 8 < r → ag_uf (ag_uf (ag_uf ln 6 (np + 1)) 7 (np + 1)) 8 (np + 1) r = ln r ∧ ag_ug (ag_ug (ag_ug g 6 (ag_pls (g 6) np np (1 + (v : Int)))) 7 (ag_pls (ag_ug g 6 (ag_pls (g 6) np np (1 + (v : Int))) 7) np np 0)) 8 (ag_pls (ag_ug (ag_ug g 6 (ag_pls (g 6) np np (1 + (v : Int)))) 7 (ag_pls (ag_ug g 6 (ag_pls (g 6) np np (1 + (v : Int))) 7) np np 0) 8) np np 0) r = g r := fun r hr => by
      rw [ag_uf_ne (by omega), ag_uf_ne (by omega), ag_uf_ne (by omega), ag_ug_ne _ _ (by omega), ag_ug_ne _ _ (by omega), ag_ug_ne _ _ (by omega)]
      exact ⟨rfl, rfl⟩
    have pl : ∀ (f : Nat → Int) (x : Int) (p : Nat), p < np + 1 → ag_pls f np np x p = if p = np then x else f p := fun f x p hp => by
      unfold ag_pls
      by_cases y : p = np
      · rw [if_neg (by omega), if_pos y, if_pos y]
      · rw [if_pos (by omega), if_neg y]
    have ts8 : ag_TS (ag_ug gh 0 (ag_ui (gh 0) np (1 + (v : Int)))) (np + 1) (ag_uf (ag_uf (ag_uf ln 6 (np + 1)) 7 (np + 1)) 8 (np + 1)) (ag_ug (ag_ug (ag_ug g 6 (ag_pls (g 6) np np (1 + (v : Int)))) 7 (ag_pls (ag_ug g 6 (ag_pls (g 6) np np (1 + (v : Int))) 7) np np 0)) 8 (ag_pls (ag_ug (ag_ug g 6 (ag_pls (g 6) np np (1 + (v : Int)))) 7 (ag_pls (ag_ug g 6 (ag_pls (g 6) np np (1 + (v : Int))) 7) np np 0) 8) np np 0)) := by
      refine ⟨by rw [ag_uf_ne (by decide), ag_uf_ne (by decide), ag_uf_at], by rw [ag_uf_ne (by decide), ag_uf_at], by rw [ag_uf_at], fun p hp => ⟨?_, ?_, ?_⟩⟩
      · rw [ag_ug_ne _ _ (by decide), ag_ug_ne _ _ (by decide), ag_ug_same, pl _ _ _ hp]
        show _ = ag_ui (gh 0) np (1 + (v : Int)) p
        unfold ag_ui
        by_cases y : p = np
        · rw [if_pos y, if_pos y]
        · rw [if_neg y, if_neg y]
          exact (ts.2.2.2 p (by omega)).1
      · rw [ag_ug_ne _ _ (by decide), ag_ug_same, pl _ _ _ hp, ag_ug_ne _ _ (by decide)]
        show _ = gh 1 p
        by_cases y : p = np
        · rw [if_pos y, y, (hp0 np (Nat.le_refl _)).1]
        · rw [if_neg y]
          exact (ts.2.2.2 p (by omega)).2.1
      · rw [ag_ug_same, pl _ _ _ hp, ag_ug_ne _ _ (by decide), ag_ug_ne _ _ (by decide)]
        show _ = gh 2 p
        by_cases y : p = np
        · rw [if_pos y, y, (hp0 np (Nat.le_refl _)).2]
        · rw [if_neg y]
          exact (ts.2.2.2 p (by omega)).2.2
    have l86 : ag_uf (ag_uf (ag_uf ln 6 (np + 1)) 7 (np + 1)) 8 (np + 1) 6 = np + 1 := ts8.1
    refine ⟨_, dr + 1, _, np + 1, ⟨_, _, _, T, mt, en, h8, hX8, hT, ag_TC_eq hw40 (fun r hr => keep r (by omega)) tc, ag_TA_eq (by omega) (fun r hr => keep r (by omega)) ta, ag_TV_eq (gh := ag_ug gh 0 (ag_ui (gh 0) np (1 + (v : Int)))) (by omega) (fun r hr => keep r (by omega)) tv, ag_TP_eq (fun r hr => keep r (by omega)) tp, ts8⟩, ag_U_k ⟨hV, ag_HI_party hH (by omega) (by omega), hQ, hv, hz, fun p hp => hp0 p (by omega), h9, ?_, hE⟩, by omega, by omega, by omega, by omega, ag_af_le (ag_af_trans (ag_af_hf (ag_hf_trans f1 (ag_hf_trans a3 (ag_hf_trans b3 c3)))) (ag_af_Fr hFr rfl)) (by omega) (by omega), fun K => ?_⟩
    · show ag_su (gh 1) (np + 1) 0 ≤ 300
      rw [ag_su_end, Nat.zero_add, (hp0 np (Nat.le_refl _)).1]
      omega
    · have en1 : ag_nm (((np + 1 : Nat) : Int) - 1) = np := by rw [ag_nm_of (by omega) (by omega)]; omega
      have d1 : ∀ K : ag_Rs → ag_S → Prop, ag_cl9 96 [ag_R B, ag_I 30] σ K = K (Sum.inl (some (ag_I (v : Int)))) σ1 := d1
      simp only [ag_e123, ag_i123_0, ag_i123_1, ag_h_g7 h, ag_i123_4, ag_h_a6 h, ts.1, ag_i123_5, ag_i123_6, ag_nmk_5, ag_nm_nat (show np ≤ 1000000 by omega)]
      rw [if_pos (show (np : Int) ≠ 5 by omega)]
      simp only [ag_i123_11, ag_i123_12, ag_i123_13, ag_i123_15, ag_h_ck h, d1, ag_kk_v, ag_kk_n, Nat.reduceAdd, ag_i123_18, ag_i123_19_n, ag_i123_19_i, ag_i123_19_r, ag_i123_20, ag_i123_21, ag_i123_22, ag_h_g7 h1, ag_i123_25, ag_i123_26, ag_h_g7 h1, ag_i123_29, ag_h_a6 h1, ts.1, ag_i123_30, ag_i123_31, a1, ag_kk_v, ag_kk_n, Nat.reduceAdd, ag_i123_34, a2, ag_i123_37, ag_i123_38, ag_i123_39, ag_h_g8 a4, ag_i123_42, ag_i123_43, ag_h_g8 a4, ag_i123_46, ag_h_a7 a4, l7, ag_i123_47, ag_i123_48, b1, ag_kk_v, ag_kk_n, Nat.reduceAdd, ag_i123_51, b2, ag_i123_54, ag_i123_55, ag_i123_56, ag_h_g9 b4, ag_i123_59, ag_i123_60, ag_h_g9 b4, ag_i123_63, ag_h_a8 b4, l8, ag_i123_64, ag_i123_65, c1, ag_kk_v, ag_kk_n, Nat.reduceAdd, ag_i123_68, c2, ag_i123_71, ag_i123_72, ag_h_g0 c4, ag_i123_75, ag_i123_76, ag_X_o0 hX7, ag_X_o1 hX7, ag_X_o2 hX7, ag_X_o3 hX7, ag_X_o4 hX7, ag_X_oc hX7, ag_X_n0 hX7, ag_X_n1 hX7, ag_X_n2 hX7, ag_X_nc hX7, ag_X_t0 hX7, ag_X_t1 hX7, ag_X_t2 hX7, ag_X_tc hX7, ag_X_b0 hX7, ag_X_b1 hX7, ag_X_b2 hX7, ag_X_b3 hX7, ag_X_b4 hX7, ag_X_b5 hX7, ag_X_b6 hX7, ag_X_b7 hX7, ag_X_b8 hX7, ag_X_b9 hX7, ag_X_bc hX7, ag_X_p0 hX7, ag_X_p1 hX7, ag_X_p2 hX7, ag_X_p3 hX7, ag_X_p4 hX7, ag_X_p5 hX7, ag_X_p6 hX7, ag_X_pc hX7, ag_X_h0 hX7, ag_X_h1 hX7, ag_X_h2 hX7, ag_X_h3 hX7, ag_X_h4 hX7, ag_X_h5 hX7, ag_X_h6 hX7, ag_X_hc hX7, ag_X_q0 hX7, ag_X_q1 hX7, ag_X_q2 hX7, ag_X_qc hX7, ag_X_tb0 hX7, ag_X_tb1 hX7, ag_X_tb2 hX7, ag_X_tb3 hX7, ag_X_tb4 hX7, ag_X_tb5 hX7, ag_X_tb6 hX7, ag_X_tb7 hX7, ag_X_tb8 hX7, ag_X_tb9 hX7, ag_X_tbc hX7, ag_X_tp0 hX7, ag_X_tp1 hX7, ag_X_tp2 hX7, ag_X_tp3 hX7, ag_X_tp4 hX7, ag_X_tp5 hX7, ag_X_tp6 hX7, ag_X_tpc hX7, ag_X_ba0 hX7, ag_X_ba1 hX7, ag_X_ba2 hX7, ag_X_ba3 hX7, ag_X_ba4 hX7, ag_X_ba5 hX7, ag_X_ba6 hX7, ag_X_ba7 hX7, ag_X_pa0 hX7, ag_X_pa1 hX7, ag_X_pa2 hX7, ag_X_pa3 hX7, ag_X_pa4 hX7, ag_X_pa5 hX7, ag_X_ha0 hX7, ag_X_ha1 hX7, ag_X_ha2 hX7, ag_X_ha3 hX7, ag_X_qa0 hX7, ag_X_qa1 hX7, ag_X_tba0 hX7, ag_X_tba1 hX7, ag_X_tba2 hX7, ag_X_tba3 hX7, ag_X_tba4 hX7, ag_X_tba5 hX7, ag_X_tba6 hX7, ag_X_tba7 hX7, ag_X_tpa0 hX7, ag_X_tpa1 hX7, ag_X_tpa2 hX7, ag_X_tpa3 hX7, ag_X_tpa4 hX7, ag_X_tpa5 hX7, ag_X_ea hX7, hP, ag_kk_v, ag_kk_n, Nat.reduceAdd, ag_i123_79, ag_i123_80, ag_h_g7 h8, ag_i123_83, ag_h_a6 h8, l86, ag_i123_84, ag_i123_85, ag_i123_86, en1, ag_nm_nat (show np ≤ 1000000 by omega)]
      rw [if_neg (by simp)]
      simp only [ag_i123_89, ag_i123_90, ag_i123_94, ag_b0, ag_b1, true_and, or_true, true_or, Int.reduceEq, ne_eq, not_false_eq_true, not_true_eq_false, ↓reduceIte]
end AGAC
