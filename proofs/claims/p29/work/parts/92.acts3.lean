/-! THE HOUSE: clause. -/
variable {B : Nat}
theorem ag_tx_nat {v : Nat} (h : v ≤ 999) : ag_tx (v : Int) := ⟨by rw [ag_nm_nat (by omega)]; omega, by rw [ag_nm_nat (by omega)]; omega⟩
section AGAE
variable {σ : ag_S} {L ln : Nat → Nat} {g : Nat → Nat → Int} {dr qu mi : Int} {gb gp gh gq : Nat → Nat → Int} {w n m np nq k : Nat} {S : ag_T}
theorem ag_gi_all {place : Nat} {u x hh : Int} (hB : ag_IB (ag_gi gb w n place u x hh) (w + 1) (n + 1)) (hp : place ≤ n) (hB0 : ag_IB gb w n) (ha : ∀ c, c < w → gb 5 c ≠ -1) : ∀ c, c < w + 1 → ag_gi gb w n place u x hh 5 c ≠ -1 := by
  intro c hc h
  rw [ag_IB_in hB hc] at h
  by_cases z : c = w
  · exact h place (by omega) (by rw [ag_gi_rows.2.2.2.2, ag_ui_eq, z])
  · have hc' : c < w := by omega
    have y := ha c hc'
    rcases hB0.2.2.1 c hc' with y1 | ⟨i, i1, -, i3⟩
    · exact y y1
    · obtain ⟨j, j1, j2⟩ := ag_gi_has (gb := gb) (w := w) (n := n) (place := place) (above := u) (words := x) (hu := hh) hp (c := (c : Int)) ⟨i, i1, i3⟩
      exact h j j1 j2
theorem ag_cl_hun {u : Int} {sl : Nat} (hu : ag_slt w u sl) (hw40 : w ≤ 40) : ag_hun gb u = if u < 0 then 0 else gb 2 u.toNat + 1 := by
  obtain ⟨s40, sle, hun⟩ := ag_slt_40 hu hw40
  unfold ag_hun
  rw [hun]
  rcases hu with ⟨y1, -⟩ | ⟨y, y1, y2, -⟩
  · rw [y1, if_pos rfl, if_pos (by decide)]
  · rw [y1, if_neg (by omega), if_neg (by omega), Int.toNat_natCast, ag_rd_nat (by decide) (by omega)]
theorem ag_cl_held (hB : ag_IB gb w n) (hall : ∀ c, c < w → gb 5 c ≠ -1) (c : Nat) (hc : c < w) : ∃ p e, ag_hat gb w n (c : Int) p e := ag_hat_of hB (by omega) (by omega) (by rw [Int.toNat_natCast]; exact hall c hc)
theorem ag_cl_gr (hB : ag_IB gb w n) (hall : ∀ c, c < w → gb 5 c ≠ -1) (c : Nat) (hc : c < w) : 0 ≤ gb 2 c ∧ gb 2 c ≤ 3 := by
  obtain ⟨p, e, q1, q2, -⟩ := ag_cl_held hB hall c hc
  have := ag_IB_hg hB q1
  have e9 : ag_hg gb p = gb 2 c := by
    show gb 2 (gb 6 p).toNat = _
    rw [q2, Int.toNat_natCast]
  omega
theorem ag_cl_par (h : ag_HS B σ L ln g dr qu mi) (tc : ag_TC gb w n ln g) (hw40 : w ≤ 40) (hd : dr ≤ 90000) :
    ∃ (u : Int) (sl x : Nat) (σ3 : ag_S) (dr3 : Int), ag_slt w u sl ∧ x < 6 ∧ dr ≤ dr3 ∧ dr3 ≤ dr + 3 ∧ ag_HS B σ3 L ln g dr3 qu mi ∧ ag_hf B σ σ3 0 0 ∧ ∀ K : ag_Rs → ag_S → Prop, ag_cl9 109 [ag_R B] σ K = ag_wp 109 37 [some (ag_R B), some (ag_I u), some (ag_I (x : Int)), none, none] [] σ3 K := by
  obtain ⟨v, σ1, v1, h1, f1, o1, e1, d1⟩ := ag_w_draw h (by omega) (show 1 ≤ 3 by decide) (by decide)
  have d1 : ∀ K : ag_Rs → ag_S → Prop, ag_cl9 96 [ag_R B, ag_I 3] σ K = K (Sum.inl (some (ag_I (v : Int)))) σ1 := d1
  -- the parent
  have par : ∃ (u : Int) (sl : Nat) (σ2 : ag_S) (dr2 : Int), ag_slt w u sl ∧ dr ≤ dr2 ∧ dr2 ≤ dr + 2 ∧ ag_HS B σ2 L ln g dr2 qu mi ∧ ag_hf B σ σ2 0 0 ∧ ∀ K : ag_Rs → ag_S → Prop, ag_cl9 109 [ag_R B] σ K = ag_wp 109 29 [some (ag_R B), none, none, none, none] [ag_I u] σ2 K := by
    by_cases c : v = 0 ∨ w = 0
    · refine ⟨-1, 40, σ1, dr + 1, Or.inl ⟨rfl, rfl⟩, by omega, by omega, h1, f1, fun K => ?_⟩
      simp only [ag_e109, ag_i109_0, ag_i109_1, ag_i109_2, ag_h_ck h, d1, ag_kk_v, ag_kk_n, Nat.reduceAdd, ag_i109_5, ag_nm_nat (show v ≤ 1000000 by omega), ag_nm_z]
      by_cases c1 : v = 0
      · rw [if_pos (show (v : Int) = 0 by omega)]
        simp only [ag_i109_16, ag_i109_17]
      · rw [if_neg (show ¬ (v : Int) = 0 by omega)]
        simp only [ag_i109_8, ag_i109_9, ag_h_g3 h1, ag_i109_12, ag_h_a1 h1, tc.1, ag_i109_13, ag_nm_nat (show w ≤ 1000000 by omega), ag_nm_z]
        rw [if_neg (show ¬ (w : Int) ≠ 0 by omega)]
        simp only [ag_i109_16, ag_i109_17]
    · obtain ⟨y, σ2, y1, h2, f2, o2, e2, d2⟩ := ag_w_draw h1 (by omega) (show 1 ≤ w by omega) (by omega)
      refine ⟨(y : Int), y, σ2, dr + 1 + 1, Or.inr ⟨y, rfl, y1, rfl⟩, by omega, by omega, h2, ag_hf_trans f1 f2, fun K => ?_⟩
      simp only [ag_e109, ag_i109_0, ag_i109_1, ag_i109_2, ag_h_ck h, d1, ag_kk_v, ag_kk_n, Nat.reduceAdd, ag_i109_5, ag_nm_nat (show v ≤ 1000000 by omega), ag_nm_z]
      rw [if_neg (show ¬ (v : Int) = 0 by omega)]
      simp only [ag_i109_8, ag_i109_9, ag_h_g3 h1, ag_i109_12, ag_h_a1 h1, tc.1, ag_i109_13, ag_nm_nat (show w ≤ 1000000 by omega), ag_nm_z]
      rw [if_pos (show (w : Int) ≠ 0 by omega)]
      simp only [ag_i109_20, ag_i109_21, ag_i109_22, ag_h_g3 h1, ag_i109_25, ag_h_a1 h1, tc.1, ag_i109_26, ag_h_ck h1, d2, ag_kk_v, ag_kk_n, Nat.reduceAdd]
  obtain ⟨u, sl, σ2, dr2, hu, u1, u2, h2, f2, d2⟩ := par
  obtain ⟨s40, sle, hun⟩ := ag_slt_40 hu hw40
  obtain ⟨x, σ3, x1, h3, f3, o3, e3, d3⟩ := ag_w_draw h2 (by omega) (show 1 ≤ 6 by decide) (by decide)
  have d3 : ∀ K : ag_Rs → ag_S → Prop, ag_cl9 96 [ag_R B, ag_I 6] σ2 K = K (Sum.inl (some (ag_I (x : Int)))) σ3 := d3
  refine ⟨u, sl, x, σ3, dr2 + 1, hu, x1, by omega, by omega, h3, ag_hf_trans f2 f3, fun K => ?_⟩
  rw [d2 K]
  simp only [ag_i109_29_n, ag_i109_29_i, ag_i109_29_r, ag_i109_30, ag_i109_31, ag_i109_33, ag_h_ck h2, d3, ag_kk_v, ag_kk_n, Nat.reduceAdd, ag_i109_36_n, ag_i109_36_i, ag_i109_36_r]
theorem ag_cl_may {σ3 : ag_S} {u : Int} {sl x : Nat} (h3 : ag_HS B σ3 L ln g dr qu mi) (tc : ag_TC gb w n ln g) (ta : ag_TA gp 0 ln g) (hB : ag_IB gb w n) (hall : ∀ c, c < w → gb 5 c ≠ -1) (hu : ag_slt w u sl) :
    ∃ y : Int, ((y = 1 ∧ w < 40 ∧ ag_hun gb u ≤ 3) ∨ (y = 0 ∧ ¬ (w < 40 ∧ ag_hun gb u ≤ 3))) ∧ ∀ K : ag_Rs → ag_S → Prop, ag_wp 109 37 [some (ag_R B), some (ag_I u), some (ag_I (x : Int)), none, none] [] σ3 K = ag_wp 109 77 [some (ag_R B), some (ag_I u), some (ag_I (x : Int)), some (ag_I y), none] [] σ3 K  := by
  have hw40 : w ≤ 40 := hB.1.2.2.2
  have hs : ag_sm gb := hB.1.2.1
  have enb := fun k i => ag_nm_s hs k i
  obtain ⟨s40, sle, hun⟩ := ag_slt_40 hu hw40
  have hcond := ag_cl_hun (gb := gb) hu hw40
  have hgr := ag_cl_gr hB hall
  have go : ∀ K : ag_Rs → ag_S → Prop, ag_wp 109 37 [some (ag_R B), some (ag_I u), some (ag_I (x : Int)), none, none] [] σ3 K = ag_wp 109 45 [some (ag_R B), some (ag_I u), some (ag_I (x : Int)), none, none] [] σ3 K := fun K => by
    simp only [ag_i109_37, ag_i109_38, ag_h_g5 h3, ag_i109_41, ag_h_a3 h3, ta.1, ag_i109_42, ag_nm_nat (show 0 ≤ 1000000 by omega), ag_nm_z]
    rw [if_neg (by simp)]
  by_cases c1 : w < 40
  · by_cases c2 : u < 0
    · refine ⟨1, Or.inl ⟨rfl, c1, by rw [hcond, if_pos c2]; decide⟩, fun K => ?_⟩
      rw [go K]
      simp only [ag_i109_45, ag_i109_46, ag_h_g3 h3, ag_i109_49, ag_h_a1 h3, tc.1, ag_i109_50, ag_i109_52, ag_nm_nat (show w ≤ 1000000 by omega), show ag_nm 40 = 40 from by decide +kernel]
      rw [if_neg (show ¬ (40 : Int) ≤ w by omega)]
      simp only [ag_i109_55, ag_i109_56, hun, ag_nm_z]
      rw [if_pos c2]
      simp only [ag_i109_71, ag_i109_72, ag_i109_76_n, ag_i109_76_i, ag_i109_76_r]
    · have hc : ∃ c : Nat, u = c ∧ c < w := by
        rcases hu with ⟨y1, -⟩ | ⟨y, y1, y2, -⟩
        · omega
        · exact ⟨y, y1, y2⟩
      obtain ⟨c, hc1, hc2⟩ := hc
      have hg := hgr c hc2
      have e9 : ag_hun gb u = gb 2 c + 1 := by rw [hcond, if_neg c2, hc1, Int.toNat_natCast]
      by_cases c3 : gb 2 c < 3
      · refine ⟨1, Or.inl ⟨rfl, c1, by omega⟩, fun K => ?_⟩
        rw [go K]
        simp only [ag_i109_45, ag_i109_46, ag_h_g3 h3, ag_i109_49, ag_h_a1 h3, tc.1, ag_i109_50, ag_i109_52, ag_nm_nat (show w ≤ 1000000 by omega), show ag_nm 40 = 40 from by decide +kernel]
        rw [if_neg (show ¬ (40 : Int) ≤ w by omega)]
        simp only [ag_i109_55, ag_i109_56, hun, ag_nm_z]
        rw [if_neg c2]
        simp only [ag_i109_59, ag_i109_60, ag_h_g3 h3, ag_i109_63, ag_i109_64, ag_c_q h3 tc hc2 (x := u) hc1, ag_i109_65, ag_i109_66, ag_c_i2 h3 tc hc2, ag_i109_67, ag_i109_68, enb, ag_nmk_3]
        rw [if_neg (show ¬ (3 : Int) ≤ gb 2 c by omega)]
        simp only [ag_i109_71, ag_i109_72, ag_i109_76_n, ag_i109_76_i, ag_i109_76_r]
      · refine ⟨0, Or.inr ⟨rfl, by omega⟩, fun K => ?_⟩
        rw [go K]
        simp only [ag_i109_45, ag_i109_46, ag_h_g3 h3, ag_i109_49, ag_h_a1 h3, tc.1, ag_i109_50, ag_i109_52, ag_nm_nat (show w ≤ 1000000 by omega), show ag_nm 40 = 40 from by decide +kernel]
        rw [if_neg (show ¬ (40 : Int) ≤ w by omega)]
        simp only [ag_i109_55, ag_i109_56, hun, ag_nm_z]
        rw [if_neg c2]
        simp only [ag_i109_59, ag_i109_60, ag_h_g3 h3, ag_i109_63, ag_i109_64, ag_c_q h3 tc hc2 (x := u) hc1, ag_i109_65, ag_i109_66, ag_c_i2 h3 tc hc2, ag_i109_67, ag_i109_68, enb, ag_nmk_3]
        rw [if_pos (show (3 : Int) ≤ gb 2 c by omega)]
        simp only [ag_i109_75, ag_i109_76_n, ag_i109_76_i, ag_i109_76_r]
  · refine ⟨0, Or.inr ⟨rfl, by omega⟩, fun K => ?_⟩
    rw [go K]
    simp only [ag_i109_45, ag_i109_46, ag_h_g3 h3, ag_i109_49, ag_h_a1 h3, tc.1, ag_i109_50, ag_i109_52, ag_nm_nat (show w ≤ 1000000 by omega), show ag_nm 40 = 40 from by decide +kernel]
    rw [if_pos (show (40 : Int) ≤ w by omega)]
    simp only [ag_i109_75, ag_i109_76_n, ag_i109_76_i, ag_i109_76_r]
theorem ag_cl_mk {σ3 : ag_S} {u : Int} {sl x : Nat} {T : ag_T} {mt : Nat} {en : Nat → Int} (hX3 : ag_CX B σ3 (gh, ag_vH np qu mi) (gq, ag_vP nq) (gb, (w, (n, gp))) 0 T mt en) (hV : ag_IV (gb, (w, (n, gp))) 0) (tc : ag_TC gb w n ln g) (hall : ∀ c, c < w → gb 5 c ≠ -1) (hu : ag_slt w u sl) (hld : u = -1 ∨ ag_hld (gb, (w, (n, gp))) u) (hx : x < 6) (c1 : w < 40) (c2 : ag_hun gb u ≤ 3) :
    ∃ place, place ≤ n ∧ (ag_kid (ag_sgm gb 0 place) u).length = ln (200 + sl) ∧ ag_IV (ag_gi gb w n place u (x : Int) (ag_hun gb u), (w + 1, (n + 1, gp))) 0 ∧ ∀ K : ag_Rs → ag_S → Prop, ag_cl9 59 [ag_R (B + 1), ag_I u, ag_I (x : Int)] σ3 K = K (Sum.inl (some (ag_I (w : Int)))) (ag_SB σ3 (B + 11) (ag_gi gb w n place u (x : Int) (ag_hun gb u)) (ag_vB (w + 1) (n + 1))) := by
  have hB : ag_IB gb w n := hV.1
  have hw40 : w ≤ 40 := hB.1.2.2.2
  obtain ⟨s40, sle, hun⟩ := ag_slt_40 hu hw40
  have hheld := ag_cl_held hB hall
  have hxt := ag_tx_nat (show x ≤ 999 by omega)
  have hxn : ag_nm (x : Int) = x := ag_nm_nat (by omega)
  obtain ⟨q1, q2⟩ := ag_kds_u tc.2.2.2 hw40 hu
  rcases hu with ⟨y1, y2⟩ | ⟨c, y1, y2, y3⟩
  · subst y1
    have e1 := ag_IV_cl3 hV c1 hxt hxn
    have e2 := fun K => ag_F_clause_3 hX3 hV hxt c1 rfl K
    refine ⟨n, Nat.le_refl _, ?_, e1, e2⟩
    rw [ag_sgm_all, ← q1, ag_kds_len]
  · obtain ⟨p, e, hp1, hp6, hp5, hp3, hp2, hpb, hpe, -, -⟩ := hheld c y2
    have hne : ¬ u = -1 := by omega
    have hl9 : ag_hld (gb, (w, (n, gp))) u := hld.resolve_left hne
    rw [← y1] at hpe hp6
    refine ⟨e, hpb.2.1, ?_, ?_, fun K => ?_⟩
    · have hnone : ag_kid (ag_sgm gb e n) u = [] := ag_kid_no fun i i1 i2 => by
        rw [← hp6]
        exact ag_pg_out hB hpb i2 (Or.inr i1) (Nat.le_refl p) hpb.1
      have z1 : ag_kid (ag_prl gb n) u = ag_kid (ag_sgm gb 0 e) u := by
        rw [← ag_sgm_all, ag_sgm_app (b := e) (Nat.zero_le _) hpb.2.1, ag_kid_app, hnone, List.append_nil]
      rw [← z1, ← q1, ag_kds_len]
    · have := ag_IV_cl4 hV hun hne hl9 c1 c2 hxt hxn
      rw [hpe]
      exact this
    · have := ag_F_clause_4 hX3 hV hun hne hl9 hxt c1 c2 rfl K
      rw [hpe]
      exact this
theorem ag_a_clause (hM : ag_M B σ dr qu mi S 0 gh np gq nq) (hU : ag_U S 0 gh np qu mi gq nq k) (hd : dr ≤ 90000) (hall : ∀ c, c < S.2.1 → S.1 5 c ≠ -1) :
    ∃ σ' dr' S', ag_M B σ' dr' qu mi S' 0 gh np gq nq ∧ ag_U S' 0 gh np qu mi gq nq (k + 1) ∧ (∀ c, c < S'.2.1 → S'.1 5 c ≠ -1) ∧ 1 ≤ S'.2.1 ∧ dr ≤ dr' ∧ dr' ≤ dr + 8 ∧ ag_af B σ σ' 1300 21000 ∧ ∀ K : ag_Rs → ag_S → Prop, ag_cl9 109 [ag_R B] σ K = K (Sum.inl (some (ag_I 1))) σ' := by
  obtain ⟨gb, w, n, gp⟩ := S
  obtain ⟨L, ln, g, T, mt, en, h, hX, hT, tc, ta, tv, tp, ts⟩ := hM
  obtain ⟨hV, hH, hQ, hv, hz, hp0, h9, hs3, hE⟩ := hU
  have hB : ag_IB gb w n := hV.1
  have hw40 : w ≤ 40 := hB.1.2.2.2
  have hnw : n ≤ w := hB.1.2.2.1
  have hs : ag_sm gb := hB.1.2.1
  have enb := fun k i => ag_nm_s hs k i
  have tc : ag_TC gb w n ln g := tc
  have ta : ag_TA gp 0 ln g := ta
  have hall : ∀ c, c < w → gb 5 c ≠ -1 := hall
  obtain ⟨u, sl, x, σ3, dr3, hu, x1, u1, u2, h3, f3, go37⟩ := ag_cl_par h tc hw40 hd
  obtain ⟨s40, sle, hun⟩ := ag_slt_40 hu hw40
  have hX3 := ag_hf_CX f3 hX
  have hcond := ag_cl_hun (gb := gb) hu hw40
  have hgr := ag_cl_gr hB hall
  obtain ⟨y, hy, may⟩ := ag_cl_may (x := x) h3 tc ta hB hall hu
  have go77 := fun K => (go37 K).trans (may K)
  have hxt := ag_tx_nat (show x ≤ 999 by omega)
  have hxn : ag_nm (x : Int) = x := ag_nm_nat (by omega)
  have hld : u = -1 ∨ ag_hld (gb, (w, (n, gp))) u := by
    rcases hu with ⟨y1, -⟩ | ⟨c, y1, y2, -⟩
    · exact Or.inl y1
    · refine Or.inr ⟨by rw [hun]; omega, by rw [hun]; show u < w; omega, ?_⟩
      rw [y1]
      show ag_rd 40 (gb 5) (c : Int) ≠ -1
      rw [ag_rd_nat (by decide) (by omega)]
      exact hall c y2
  rcases hy with ⟨y1, c1, c2⟩ | ⟨y1, c1⟩
  · -- it is made
    have mk := ag_cl_mk hX3 hV tc hall hu hld x1 c1 c2
    obtain ⟨place, pl1, pl2, pl3, pl4⟩ := mk
    have hX4 := ag_CX_B (g := ag_gi gb w n place u (x : Int) (ag_hun gb u)) (w := w + 1) (n := n + 1) hX3
    have hFr := ag_Fr_B (B := B) σ3 (g := ag_gi gb w n place u (x : Int) (ag_hun gb u)) (w := w + 1) (n := n + 1)
    have h4 := ag_HS_Fr h3 hFr (Nat.le_refl _)
    have hf4 : ag_af B σ3 (ag_SB σ3 (B + 11) (ag_gi gb w n place u (x : Int) (ag_hun gb u)) (ag_vB (w + 1) (n + 1))) 0 0 := ag_af_Fr hFr rfl
    generalize ag_SB σ3 (B + 11) (ag_gi gb w n place u (x : Int) (ag_hun gb u)) (ag_vB (w + 1) (n + 1)) = σ4 at pl4 hX4 h4 hf4
    obtain ⟨q1, q2⟩ := ag_kds_u tc.2.2.2 hw40 hu
    obtain ⟨σ5, L5, ln5, g5, a1, a2, a3, a4, a5, a6, a7, a8⟩ := ag_h_create h4 tc hs c1 (u := u) (x := (x : Int)) (y := -1) (sl := sl) (k := ln (200 + sl)) hu (by omega) (by omega) (by decide) (by decide) (Nat.le_refl _) (by omega) (fun z hz => by
      rcases hu with ⟨y1, -⟩ | ⟨c, y1, y2, -⟩
      · omega
      · have : z = c := by omega
        have := hgr c y2
        rw [show z = c by omega]
        omega)
    have hX5 := ag_hf_CX a2 hX4
    have hB5 : ag_IB (ag_gi gb w n place u (x : Int) (ag_hun gb u)) (w + 1) (n + 1) := pl3.1
    rw [← hcond] at a6
    have tc5 : ag_TC (ag_gi gb w n place u (x : Int) (ag_hun gb u)) (w + 1) (n + 1) ln5 g5 := ag_TC_ins hB hB5 tc pl1 ag_gi_rows.2.2.2.2 ag_gi_rows.1 ag_gi_rows.2.1 ag_gi_rows.2.2.1 ag_gi_rows.2.2.2.1 hu pl2 a3 a4 (fun r r1 r2 r3 => (a5 r r1 r2 r3).2) a6 a7
    have gc : ag_gc ln g ln5 g5 := fun r hr => (a5 r (by omega) (by omega) (by omega)).2
    refine ⟨σ5, dr3, (ag_gi gb w n place u (x : Int) (ag_hun gb u), (w + 1, (n + 1, gp))), ⟨L5, ln5, g5, T, mt, en, a1, hX5, hT, tc5, ag_TA_gc gc ta, ag_TV_gc gc tv, ag_TP_gc gc tp, ag_TS_gc gc ts⟩, ag_U_k ⟨pl3, hH, ag_QI_ins hV hQ pl1 hB5, hv, hz, hp0, h9, hs3, ag_E_ins hE⟩, ag_gi_all hB5 pl1 hB hall, by show 1 ≤ w + 1; omega, by omega, by omega, ag_af_le (ag_af_trans (ag_af_hf f3) (ag_af_trans hf4 (ag_af_hf a2))) (by omega) (by omega), fun K => ?_⟩
    have hsl := fun K => ag_h_slot h4 hun K
    rw [sle] at hsl
    rw [go77 K, y1]
    simp only [ag_i109_77, ag_i109_78, ag_h_g0 h3, ag_i109_81, ag_i109_82, ag_i109_83, ag_X_o0 hX3, ag_X_o1 hX3, ag_X_o2 hX3, ag_X_o3 hX3, ag_X_o4 hX3, ag_X_oc hX3, ag_X_n0 hX3, ag_X_n1 hX3, ag_X_n2 hX3, ag_X_nc hX3, ag_X_t0 hX3, ag_X_t1 hX3, ag_X_t2 hX3, ag_X_tc hX3, ag_X_b0 hX3, ag_X_b1 hX3, ag_X_b2 hX3, ag_X_b3 hX3, ag_X_b4 hX3, ag_X_b5 hX3, ag_X_b6 hX3, ag_X_b7 hX3, ag_X_b8 hX3, ag_X_b9 hX3, ag_X_bc hX3, ag_X_p0 hX3, ag_X_p1 hX3, ag_X_p2 hX3, ag_X_p3 hX3, ag_X_p4 hX3, ag_X_p5 hX3, ag_X_p6 hX3, ag_X_pc hX3, ag_X_h0 hX3, ag_X_h1 hX3, ag_X_h2 hX3, ag_X_h3 hX3, ag_X_h4 hX3, ag_X_h5 hX3, ag_X_h6 hX3, ag_X_hc hX3, ag_X_q0 hX3, ag_X_q1 hX3, ag_X_q2 hX3, ag_X_qc hX3, ag_X_tb0 hX3, ag_X_tb1 hX3, ag_X_tb2 hX3, ag_X_tb3 hX3, ag_X_tb4 hX3, ag_X_tb5 hX3, ag_X_tb6 hX3, ag_X_tb7 hX3, ag_X_tb8 hX3, ag_X_tb9 hX3, ag_X_tbc hX3, ag_X_tp0 hX3, ag_X_tp1 hX3, ag_X_tp2 hX3, ag_X_tp3 hX3, ag_X_tp4 hX3, ag_X_tp5 hX3, ag_X_tp6 hX3, ag_X_tpc hX3, ag_X_ba0 hX3, ag_X_ba1 hX3, ag_X_ba2 hX3, ag_X_ba3 hX3, ag_X_ba4 hX3, ag_X_ba5 hX3, ag_X_ba6 hX3, ag_X_ba7 hX3, ag_X_pa0 hX3, ag_X_pa1 hX3, ag_X_pa2 hX3, ag_X_pa3 hX3, ag_X_pa4 hX3, ag_X_pa5 hX3, ag_X_ha0 hX3, ag_X_ha1 hX3, ag_X_ha2 hX3, ag_X_ha3 hX3, ag_X_qa0 hX3, ag_X_qa1 hX3, ag_X_tba0 hX3, ag_X_tba1 hX3, ag_X_tba2 hX3, ag_X_tba3 hX3, ag_X_tba4 hX3, ag_X_tba5 hX3, ag_X_tba6 hX3, ag_X_tba7 hX3, ag_X_tpa0 hX3, ag_X_tpa1 hX3, ag_X_tpa2 hX3, ag_X_tpa3 hX3, ag_X_tpa4 hX3, ag_X_tpa5 hX3, ag_X_ea hX3, pl4, ag_kk_v, ag_kk_n, Nat.reduceAdd, ag_i109_86_n, ag_i109_86_i, ag_i109_86_r, ag_i109_88, ag_i109_89, ag_nm_1, ag_nm_z, Int.reduceEq, ↓reduceIte, ag_i109_92, ag_i109_94, ag_i109_95, ag_i109_96, ag_i109_97, ag_i109_98, ag_i109_99, ag_h_g4 h4, ag_i109_102, ag_i109_103, ag_i109_104, ag_h_ck h4, hsl, ag_kk_v, ag_kk_n, Nat.reduceAdd, ag_i109_107, ag_k_q h4 tc s40 (x := (sl : Int)) rfl, ag_i109_108, ag_h_lal h4 (ag_k_lv tc s40), ag_i109_109, a8, ag_kk_v, ag_kk_n, Nat.reduceAdd, ag_i109_112]
    rw [if_neg (by simp)]
    simp only [ag_i109_115, ag_i109_116, ag_i109_120, ag_b0, ag_b1, true_and, or_true, true_or, Int.reduceEq, ne_eq, not_false_eq_true, not_true_eq_false, ↓reduceIte]
  · -- it is refused
    have hP := fun K => ag_F_clause_2 hX3 hV hH hQ hun hld hxt (by
      show 40 ≤ w ∨ 3 < ag_hun gb u ∨ 0 < 0
      omega) K
    refine ⟨ag_bp σ3, dr3, (gb, (w, (n, gp))), ⟨L, ln, g, T, mt, en, ag_HS_bp h3, ag_CX_bp hX3, hT, tc, ta, tv, tp, ts⟩, ag_U_k ⟨hV, hH, hQ, hv, hz, hp0, h9, hs3, hE⟩, hall, ?_, by omega, by omega, ag_af_le (ag_af_trans (ag_af_hf f3) (ag_af_bp σ3)) (by omega) (by omega), fun K => ?_⟩
    · show 1 ≤ w
      rcases hu with ⟨z1, -⟩ | ⟨c, z1, z2, -⟩
      · rw [hcond, if_pos (by omega)] at c1
        omega
      · omega
    · rw [go77 K, y1]
      simp only [ag_i109_77, ag_i109_78, ag_h_g0 h3, ag_i109_81, ag_i109_82, ag_i109_83, ag_X_o0 hX3, ag_X_o1 hX3, ag_X_o2 hX3, ag_X_o3 hX3, ag_X_o4 hX3, ag_X_oc hX3, ag_X_n0 hX3, ag_X_n1 hX3, ag_X_n2 hX3, ag_X_nc hX3, ag_X_t0 hX3, ag_X_t1 hX3, ag_X_t2 hX3, ag_X_tc hX3, ag_X_b0 hX3, ag_X_b1 hX3, ag_X_b2 hX3, ag_X_b3 hX3, ag_X_b4 hX3, ag_X_b5 hX3, ag_X_b6 hX3, ag_X_b7 hX3, ag_X_b8 hX3, ag_X_b9 hX3, ag_X_bc hX3, ag_X_p0 hX3, ag_X_p1 hX3, ag_X_p2 hX3, ag_X_p3 hX3, ag_X_p4 hX3, ag_X_p5 hX3, ag_X_p6 hX3, ag_X_pc hX3, ag_X_h0 hX3, ag_X_h1 hX3, ag_X_h2 hX3, ag_X_h3 hX3, ag_X_h4 hX3, ag_X_h5 hX3, ag_X_h6 hX3, ag_X_hc hX3, ag_X_q0 hX3, ag_X_q1 hX3, ag_X_q2 hX3, ag_X_qc hX3, ag_X_tb0 hX3, ag_X_tb1 hX3, ag_X_tb2 hX3, ag_X_tb3 hX3, ag_X_tb4 hX3, ag_X_tb5 hX3, ag_X_tb6 hX3, ag_X_tb7 hX3, ag_X_tb8 hX3, ag_X_tb9 hX3, ag_X_tbc hX3, ag_X_tp0 hX3, ag_X_tp1 hX3, ag_X_tp2 hX3, ag_X_tp3 hX3, ag_X_tp4 hX3, ag_X_tp5 hX3, ag_X_tp6 hX3, ag_X_tpc hX3, ag_X_ba0 hX3, ag_X_ba1 hX3, ag_X_ba2 hX3, ag_X_ba3 hX3, ag_X_ba4 hX3, ag_X_ba5 hX3, ag_X_ba6 hX3, ag_X_ba7 hX3, ag_X_pa0 hX3, ag_X_pa1 hX3, ag_X_pa2 hX3, ag_X_pa3 hX3, ag_X_pa4 hX3, ag_X_pa5 hX3, ag_X_ha0 hX3, ag_X_ha1 hX3, ag_X_ha2 hX3, ag_X_ha3 hX3, ag_X_qa0 hX3, ag_X_qa1 hX3, ag_X_tba0 hX3, ag_X_tba1 hX3, ag_X_tba2 hX3, ag_X_tba3 hX3, ag_X_tba4 hX3, ag_X_tba5 hX3, ag_X_tba6 hX3, ag_X_tba7 hX3, ag_X_tpa0 hX3, ag_X_tpa1 hX3, ag_X_tpa2 hX3, ag_X_tpa3 hX3, ag_X_tpa4 hX3, ag_X_tpa5 hX3, ag_X_ea hX3, hP, ag_h109_2_n, ag_h109_2_i, ag_h109_2_r, ag_i109_123, ag_i109_124, ag_nm_z, ne_eq, not_true_eq_false, ↓reduceIte, ag_i109_127, ag_i109_128, ag_i109_132, ag_b0, ag_b1, true_and, or_true, true_or, Int.reduceEq, ne_eq, not_false_eq_true, not_true_eq_false, ↓reduceIte]
end AGAE
