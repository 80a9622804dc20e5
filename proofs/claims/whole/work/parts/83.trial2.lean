/-! THE REFERENCE: what would be. -/
theorem ag_dal_01 {gh : Nat → Nat → Int} {np m : Nat} {qu x : Int} : ∀ (k : Nat) (S : ag_T), ag_IV S m → (ag_dal gh np qu x m k S).2.2.2 0 = S.2.2.2 0 ∧ (ag_dal gh np qu x m k S).2.2.2 1 = S.2.2.2 1 := by
  intro k
  induction k with
  | zero => intro S _; exact ⟨rfl, rfl⟩
  | succ k ih =>
    intro S hV
    rw [ag_dal_s]
    by_cases q : ag_nxt S.1 S.2.2.2 m = -1
    · rw [if_pos q]
      exact ⟨rfl, rfl⟩
    · rw [if_neg q]
      obtain ⟨b, b1, b2, b3⟩ := ag_nxt_is q
      rw [b2, Int.toNat_natCast]
      obtain ⟨d1, -, d3, d4⟩ := ag_dec_IV (gh := gh) (np := np) (qu := qu) (x := x) hV b1 b3
      obtain ⟨e1, e2⟩ := ih _ d1
      exact ⟨e1.trans d3, e2.trans d4⟩
section AGTR
variable {σ : ag_S} {a : Nat} {ρ : Nat → Nat} {gb gp gh : Nat → Nat → Int} {r t sg : Nat → Int} {th qu mi : Int} {w n m nq np : Nat}
theorem ag_gc_mg (hz1 : ∀ k j, 40 ≤ j → gb k j = 0) (hz2 : ∀ k j, 20 ≤ j → gp k j = 0) : ag_gc (ag_mg gb r gp t sg gh) = ag_mg gb (ag_cq r 40) gp (ag_cq t 12) sg gh := by
  have b := fun k => ag_cq_of (hz1 k)
  have p := fun k => ag_cq_of (hz2 k)
  funext k
  unfold ag_gc
  by_cases q : k ∈ ag_TEN
  · rw [if_pos q]
    have hm : k = 0 ∨ k = 1 ∨ k = 2 ∨ k = 3 ∨ k = 4 ∨ k = 7 ∨ k = 8 ∨ k = 9 ∨ k = 10 ∨ k = 11 := by
      simp only [List.mem_cons, List.not_mem_nil, or_false] at q
      omega
    rcases hm with rfl | rfl | rfl | rfl | rfl | rfl | rfl | rfl | rfl | rfl
    · exact b 0
    · exact b 1
    · exact b 2
    · exact b 3
    · rfl
    · exact p 2
    · exact p 3
    · exact p 4
    · exact p 5
    · rfl
  · rw [if_neg q]
    have hm : k ≠ 4 ∧ k ≠ 11 := by
      simp only [List.mem_cons, List.not_mem_nil, or_false] at q
      omega
    match k, hm with
    | 0, _ => rfl | 1, _ => rfl | 2, _ => rfl | 3, _ => rfl | 4, h => exact absurd rfl h.1 | 5, _ => rfl | 6, _ => rfl | 7, _ => rfl | 8, _ => rfl | 9, _ => rfl | 10, _ => rfl | 11, h => exact absurd rfl h.2 | 12, _ => rfl | 13, _ => rfl | 14, _ => rfl | 15, _ => rfl | 16, _ => rfl | j + 17, _ => rfl
theorem ag_R_kp (h : ag_mi a ρ σ.2.1) (hV : ag_IV (gb, (w, (n, gp))) m) (hr : ∀ i, i < n → r i = gb 6 i) (ht : ∀ j, ag_nm (t j) = t j) :
    ∃ σ1 ρ' r1 t1, ag_KK σ a ρ (ag_mg gb r gp t sg gh) (ag_mv th w n m nq np qu mi) σ1 ρ' ∧ (∀ i, i < n → r1 i = gb 6 i) ∧ (∀ j, ag_nm (t1 j) = t1 j) ∧
    ∀ K, ag_cl9 155 [ag_R a] (ag_SM σ a ρ (ag_mg gb r gp t sg gh) (ag_mv th w n m nq np qu mi)) K = K (Sum.inl (some (ag_R (σ.2.1 + 1)))) (ag_SM σ1 a ρ' (ag_mg gb r1 gp t1 sg gh) (ag_mv th w n m nq np qu mi)) := by
  obtain ⟨σ1, ρ', k1, k2⟩ := ag_R_keep h (ag_mg gb r gp t sg gh) (ag_mv th w n m nq np qu mi)
  have hw := hV.1.1.2.2
  dsimp only at hw
  rw [ag_gc_mg hV.1.1.1 hV.2.1.1.1] at k2
  refine ⟨σ1, ρ', ag_cq r 40, ag_cq t 12, k1, fun i hi => ?_, fun j => ?_, k2⟩
  · unfold ag_cq
    rw [if_pos (by omega), hr i hi]
  · unfold ag_cq
    split
    · exact ht j
    · exact ag_nm_z
theorem ag_R_pb {σ1 σ2 : ag_S} {dc ds : Nat} {ρ' : Nat → Nat} {gb2 gp2 : Nat → Nat → Int} {r2 t2 : Nat → Int} {th2 : Int} {w2 n2 : Nat} (h : ag_mi a ρ σ.2.1) (hk : ag_KK σ a ρ (ag_mg gb r gp t sg gh) (ag_mv th w n m nq np qu mi) σ1 ρ') (hf : ag_fr σ1 σ2 dc ds) (h0 : gp2 0 = gp 0) (h1 : gp2 1 = gp 1) :
    ∃ σ3, ag_fr σ σ3 (12 + dc) (305 + ds) ∧ (∀ y, σ.2.1 < y → σ3.1 y = (ag_SM σ2 a ρ' (ag_mg gb2 r2 gp2 t2 sg gh) (ag_mv th2 w2 n2 m nq np qu mi)).1 y) ∧ σ3.2 = σ2.2 ∧
    ∀ K, ag_cl9 156 [ag_R a, ag_R (σ.2.1 + 1)] (ag_SM σ2 a ρ' (ag_mg gb2 r2 gp2 t2 sg gh) (ag_mv th2 w2 n2 m nq np qu mi)) K = K (Sum.inl none) (ag_SM σ3 a ρ (ag_mg gb r gp t sg gh) (ag_mv th2 w n m nq np qu mi)) := by
  obtain ⟨σ3, x1, x2, x3, x4⟩ := ag_R_putBack (σ2 := σ2) (g2 := ag_mg gb2 r2 gp2 t2 sg gh) (v2 := ag_mv th2 w2 n2 m nq np qu mi) h hk hf (fun k hk17 hkt => by
    have hm : k = 5 ∨ k = 6 ∨ k = 12 ∨ k = 13 ∨ k = 14 ∨ k = 15 ∨ k = 16 := by
      simp only [List.mem_cons, List.not_mem_nil, or_false] at hkt
      omega
    rcases hm with rfl | rfl | rfl | rfl | rfl | rfl | rfl
    · exact h0
    · exact h1
    · rfl
    · rfl
    · rfl
    · rfl
    · rfl)
  have c := hk.2.1
  have c1 : σ1.2.1 = σ.2.1 + 12 := by rw [c]
  have c2 : σ1.2.2 = σ.2.2 + 305 := by rw [c]
  have c3 : σ3.2.1 = σ2.2.1 := by rw [x3]
  have c4 : σ3.2.2 = σ2.2.2 := by rw [x3]
  have f2 := hf.2.1
  have f3 := hf.2.2.1
  have f4 := hf.2.2.2
  refine ⟨σ3, ⟨x1, by omega, by omega, by omega⟩, x2, x3, fun K => ?_⟩
  have := x4 K
  simp only [ag_mv_1, ag_mv_2, ag_mv_u1, ag_mv_u2] at this
  exact this
theorem ag_R_wMN (h : ag_mi a ρ σ.2.1) (hV : ag_IV (gb, (w, (n, gp))) m) (hr : ∀ i, i < n → r i = gb 6 i) (hn : nq ≤ 12) (ht : ∀ j, ag_nm (t j) = t j) {b : Nat} (hb : b < m) :
    ∃ σ3, ag_fr σ σ3 13 345 ∧ ∀ K, ag_cl9 158 [ag_R a, ag_I b] (ag_SM σ a ρ (ag_mg gb r gp t sg gh) (ag_mv th w n m nq np qu mi)) K = K (Sum.inl (some (ag_I (ag_if (ag_dbl (gb, (w, (n, gp))) m b = 0) 0 ((ag_cnt (ag_psd gb w n gp m b).2.2.2 m 3 : Int) - (ag_cnt gp m 3 : Int)))))) (ag_SM σ3 a ρ (ag_mg gb r gp t sg gh) (ag_mv th w n m nq np qu mi)) := by
  have hm : m ≤ 20 := hV.2.1.1.2.2
  have hw := hV.1.1.2.2
  dsimp only at hw
  have hC := fun K => ag_R_canDo2 (σ := σ) (gh := gh) (t := t) (sg := sg) (th := th) (qu := qu) (mi := mi) (nq := nq) (np := np) h hV hr hb K
  rcases ag_dbl_0 (S := (gb, (w, (n, gp)))) hm hb with q | ⟨q1, q2, q3⟩
  · refine ⟨σ, ag_fr_le (ag_fr_refl σ) (by omega) (by omega), fun K => ?_⟩
    rw [ag_if_t q]
    rw [q] at hC
    simp only [ag_e158, ag_i158_0, ag_i158_1, ag_i158_2, ag_i158_5, ag_i158_8, ag_i158_9, ag_i158_10, ag_i158_11, ag_i158_14_n, ag_i158_14_i, ag_i158_14_r, ag_i158_15, ag_i158_16, ag_i158_17, ag_i158_20_n, ag_i158_20_i, ag_i158_20_r, ag_i158_21, ag_i158_22, ag_i158_23, ag_i158_26, ag_i158_27, ag_mv_0, ag_mv_u0, ag_mv_1, ag_mv_u1, ag_mv_2, ag_mv_u2, ag_mv_3, ag_mv_u3, ag_mv_4, ag_mv_u4, ag_mv_5, ag_mv_u5, ag_mv_6, ag_mv_u6, ag_mv_7, ag_mv_u7, ag_mg_0, ag_mg_u0, ag_mg_1, ag_mg_u1, ag_mg_2, ag_mg_u2, ag_mg_3, ag_mg_u3, ag_mg_4, ag_mg_u4, ag_mg_5, ag_mg_u5, ag_mg_6, ag_mg_u6, ag_mg_7, ag_mg_u7, ag_mg_8, ag_mg_u8, ag_mg_9, ag_mg_u9, ag_mg_10, ag_mg_u10, ag_mg_11, ag_mg_u11, ag_mg_12, ag_mg_u12, ag_mg_13, ag_mg_u13, ag_mg_14, ag_mg_u14, ag_mg_15, ag_mg_u15, ag_mg_16, ag_mg_u16, ag_M_g0, ag_M_g1, ag_M_g2, ag_M_g3, ag_M_g4, ag_M_g5, ag_M_g6, ag_M_g7, ag_M_g8, ag_M_g9, ag_M_g10, ag_M_g11, ag_M_g12, ag_M_g13, ag_M_g14, ag_M_g15, ag_M_g16, ag_M_g17, ag_M_g18, ag_M_g19, ag_M_g20, ag_M_g21, ag_M_g22, ag_M_g23, ag_M_g24, ag_M_ck, ag_SM_2, ag_M_p0 h, ag_M_p1 h, ag_M_p2 h, ag_M_p3 h, ag_M_p16 h, ag_M_p18 h, ag_M_p19 h, ag_M_p24 h, ag_M_ia0 h, ag_M_is0 h, ag_M_al0 h, ag_M_ia1 h, ag_M_is1 h, ag_M_al1 h, ag_M_ia2 h, ag_M_is2 h, ag_M_al2 h, ag_M_ia3 h, ag_M_is3 h, ag_M_al3 h, ag_M_ia4 h, ag_M_is4 h, ag_M_al4 h, ag_M_ia5 h, ag_M_is5 h, ag_M_al5 h, ag_M_ia6 h, ag_M_is6 h, ag_M_al6 h, ag_M_ia7 h, ag_M_is7 h, ag_M_al7 h, ag_M_ia8 h, ag_M_is8 h, ag_M_al8 h, ag_M_ia9 h, ag_M_is9 h, ag_M_al9 h, ag_M_ia10 h, ag_M_is10 h, ag_M_al10 h, ag_M_ia11 h, ag_M_is11 h, ag_M_al11 h, ag_M_ia12 h, ag_M_is12 h, ag_M_al12 h, ag_M_ia13 h, ag_M_is13 h, ag_M_al13 h, ag_M_ia14 h, ag_M_is14 h, ag_M_al14 h, ag_M_ia15 h, ag_M_is15 h, ag_M_al15 h, ag_M_ia16 h, ag_M_is16 h, ag_M_al16 h, ag_kk_v, ag_kk_n, Nat.reduceAdd, ag_b0, ag_b1, true_and, or_true, true_or, Int.reduceEq, ne_eq, not_false_eq_true, not_true_eq_false, ↓reduceIte, ag_nmk_2, ag_nmk_3, ag_nmk_4, ag_nmk_5, ag_nmk_7, ag_nmk_11, ag_nmk_12, ag_nmk_20, ag_nmk_99, ag_nmk_100, ag_nmk_300, ag_nmk_999, ag_nmk_9999, ag_nm_1, ag_nm_z, ag_nm_m, hC]
  · dsimp only at q1 q2
    obtain ⟨σ1, ρ', r1, t1, k1, k2, k3, k4⟩ := ag_R_kp (sg := sg) (gh := gh) (th := th) (qu := qu) (mi := mi) (nq := nq) (np := np) h hV hr ht
    have h' := k1.1
    obtain ⟨σ2, r2, u1, u2, u3⟩ := ag_R_passed (σ := σ1) (gh := gh) (sg := sg) (th := th) (qu := qu) (mi := mi) (np := np) h' hV k2 hn k3 hb q1 q2
    obtain ⟨-, -, p0, p1⟩ := ag_psd_IV hV hb q1 q2
    dsimp only at p0 p1
    obtain ⟨σ3, x1, -, -, x4⟩ := ag_R_pb (σ2 := σ2) (gb2 := (ag_psd gb w n gp m b).1) (gp2 := (ag_psd gb w n gp m b).2.2.2) (r2 := r2) (t2 := ag_tpf gb n gp t1 nq b) (th2 := th) (w2 := (ag_psd gb w n gp m b).2.1) (n2 := (ag_psd gb w n gp m b).2.2.1) h k1 u1 p0 p1
    have hcst : ag_cst gb n gp b ≤ 40 := by
      unfold ag_cst
      split
      · have := ag_ff_le (fun i => decide (ag_rd 40 (gb 2) (ag_rd 40 (gb 6) i) ≤ ag_rd 40 (gb 2) (gp 1 b))) (n - (ag_plc gb (gp 1 b) + 1)) (ag_plc gb (gp 1 b) + 1)
        unfold ag_edd
        omega
      · split <;> omega
    refine ⟨σ3, ag_fr_le x1 (by omega) (by omega), fun K => ?_⟩
    rw [ag_if_f (by omega)]
    rw [q3] at hC
    simp only [ag_i158_0, ag_i158_1, ag_i158_2, ag_i158_5, ag_i158_10, ag_i158_11, ag_i158_14_n, ag_i158_14_i, ag_i158_14_r, ag_i158_15, ag_i158_16, ag_i158_17, ag_i158_20_n, ag_i158_20_i, ag_i158_20_r, ag_i158_21, ag_i158_22, ag_i158_23, ag_i158_26, ag_i158_27, ag_e158, ag_mv_0, ag_mv_u0, ag_mv_1, ag_mv_u1, ag_mv_2, ag_mv_u2, ag_mv_3, ag_mv_u3, ag_mv_4, ag_mv_u4, ag_mv_5, ag_mv_u5, ag_mv_6, ag_mv_u6, ag_mv_7, ag_mv_u7, ag_mg_0, ag_mg_u0, ag_mg_1, ag_mg_u1, ag_mg_2, ag_mg_u2, ag_mg_3, ag_mg_u3, ag_mg_4, ag_mg_u4, ag_mg_5, ag_mg_u5, ag_mg_6, ag_mg_u6, ag_mg_7, ag_mg_u7, ag_mg_8, ag_mg_u8, ag_mg_9, ag_mg_u9, ag_mg_10, ag_mg_u10, ag_mg_11, ag_mg_u11, ag_mg_12, ag_mg_u12, ag_mg_13, ag_mg_u13, ag_mg_14, ag_mg_u14, ag_mg_15, ag_mg_u15, ag_mg_16, ag_mg_u16, ag_M_g0, ag_M_g1, ag_M_g2, ag_M_g3, ag_M_g4, ag_M_g5, ag_M_g6, ag_M_g7, ag_M_g8, ag_M_g9, ag_M_g10, ag_M_g11, ag_M_g12, ag_M_g13, ag_M_g14, ag_M_g15, ag_M_g16, ag_M_g17, ag_M_g18, ag_M_g19, ag_M_g20, ag_M_g21, ag_M_g22, ag_M_g23, ag_M_g24, ag_M_ck, ag_SM_2, ag_M_p0 h, ag_M_p1 h, ag_M_p2 h, ag_M_p3 h, ag_M_p16 h, ag_M_p18 h, ag_M_p19 h, ag_M_p24 h, ag_M_ia0 h, ag_M_is0 h, ag_M_al0 h, ag_M_ia1 h, ag_M_is1 h, ag_M_al1 h, ag_M_ia2 h, ag_M_is2 h, ag_M_al2 h, ag_M_ia3 h, ag_M_is3 h, ag_M_al3 h, ag_M_ia4 h, ag_M_is4 h, ag_M_al4 h, ag_M_ia5 h, ag_M_is5 h, ag_M_al5 h, ag_M_ia6 h, ag_M_is6 h, ag_M_al6 h, ag_M_ia7 h, ag_M_is7 h, ag_M_al7 h, ag_M_ia8 h, ag_M_is8 h, ag_M_al8 h, ag_M_ia9 h, ag_M_is9 h, ag_M_al9 h, ag_M_ia10 h, ag_M_is10 h, ag_M_al10 h, ag_M_ia11 h, ag_M_is11 h, ag_M_al11 h, ag_M_ia12 h, ag_M_is12 h, ag_M_al12 h, ag_M_ia13 h, ag_M_is13 h, ag_M_al13 h, ag_M_ia14 h, ag_M_is14 h, ag_M_al14 h, ag_M_ia15 h, ag_M_is15 h, ag_M_al15 h, ag_M_ia16 h, ag_M_is16 h, ag_M_al16 h, ag_kk_v, ag_kk_n, Nat.reduceAdd, ag_b0, ag_b1, true_and, or_true, true_or, Int.reduceEq, ne_eq, not_false_eq_true, not_true_eq_false, ↓reduceIte, ag_nmk_2, ag_nmk_3, ag_nmk_4, ag_nmk_5, ag_nmk_7, ag_nmk_11, ag_nmk_12, ag_nmk_20, ag_nmk_99, ag_nmk_100, ag_nmk_300, ag_nmk_999, ag_nmk_9999, ag_nm_1, ag_nm_z, ag_nm_m, hC, k4, ag_M_ck, u3, x4]
theorem ag_R_iEN (h : ag_mi a ρ σ.2.1) (hV : ag_IV (gb, (w, (n, gp))) m) (hr : ∀ i, i < n → r i = gb 6 i) (hH : ag_sm gh) (hp : np ≤ 5) (hn : nq ≤ 12) (ht : ∀ j, ag_nm (t j) = t j) :
    ∃ σ3, ag_fr σ σ3 34 (325 + 10 * m + 8 * w) ∧ ∀ K, ag_cl9 161 [ag_R a] (ag_SM σ a ρ (ag_mg gb r gp t sg gh) (ag_mv th w n m nq np qu mi)) K = K (Sum.inl (some (ag_I (ag_dal gh np qu (-1) m 20 (gb, (w, (n, gp)))).2.2.1))) (ag_SM σ3 a ρ (ag_mg gb r gp t sg gh) (ag_mv th w n m nq np qu mi)) := by
  obtain ⟨σ1, ρ', r1, t1, k1, k2, k3, k4⟩ := ag_R_kp (sg := sg) (gh := gh) (th := th) (qu := qu) (mi := mi) (nq := nq) (np := np) h hV hr ht
  have h' := k1.1
  obtain ⟨σ2, r2, t2, z, f, N, u1, u2, u3, u4, u5, u6, u7, u8, u9, u10⟩ := ag_R_putAll (gh := gh) (sg := sg) (th := th) (qu := qu) (mi := mi) (m := m) (nq := nq) (np := np) (σ := σ1) (S := (gb, (w, (n, gp)))) (r := r1) (t := t1) (x := -1) h' hV k2 hH hp hn k3 ag_nm_m
  dsimp only at u10
  have hroom := ag_cal_room (gh := gh) (np := np) (qu := qu) (x := -1) 20 _ hV
  have hpsi := ag_psi_le hV
  dsimp only at hpsi
  obtain ⟨p0, p1⟩ := ag_dal_01 (gh := gh) (np := np) (qu := qu) (x := -1) 20 _ hV
  dsimp only at p0 p1
  generalize ag_dal gh np qu (-1) m 20 (gb, (w, (n, gp))) = T at *
  obtain ⟨σ3, x1, -, -, x4⟩ := ag_R_pb (σ2 := σ2) (gb2 := T.1) (gp2 := T.2.2.2) (r2 := r2) (t2 := t2) (th2 := th) (w2 := T.2.1) (n2 := T.2.2.1) h k1 u1 p0 p1
  refine ⟨σ3, ag_fr_le x1 (by omega) (by omega), fun K => ?_⟩
  simp only [ag_i161_0, ag_i161_1, ag_i161_4_n, ag_i161_4_i, ag_i161_4_r, ag_i161_5, ag_i161_6, ag_i161_7, ag_i161_10, ag_i161_11, ag_i161_12, ag_i161_15_n, ag_i161_15_i, ag_i161_15_r, ag_i161_16, ag_i161_17, ag_i161_18, ag_i161_21, ag_i161_22, ag_e161, ag_mv_0, ag_mv_u0, ag_mv_1, ag_mv_u1, ag_mv_2, ag_mv_u2, ag_mv_3, ag_mv_u3, ag_mv_4, ag_mv_u4, ag_mv_5, ag_mv_u5, ag_mv_6, ag_mv_u6, ag_mv_7, ag_mv_u7, ag_mg_0, ag_mg_u0, ag_mg_1, ag_mg_u1, ag_mg_2, ag_mg_u2, ag_mg_3, ag_mg_u3, ag_mg_4, ag_mg_u4, ag_mg_5, ag_mg_u5, ag_mg_6, ag_mg_u6, ag_mg_7, ag_mg_u7, ag_mg_8, ag_mg_u8, ag_mg_9, ag_mg_u9, ag_mg_10, ag_mg_u10, ag_mg_11, ag_mg_u11, ag_mg_12, ag_mg_u12, ag_mg_13, ag_mg_u13, ag_mg_14, ag_mg_u14, ag_mg_15, ag_mg_u15, ag_mg_16, ag_mg_u16, ag_M_g0, ag_M_g1, ag_M_g2, ag_M_g3, ag_M_g4, ag_M_g5, ag_M_g6, ag_M_g7, ag_M_g8, ag_M_g9, ag_M_g10, ag_M_g11, ag_M_g12, ag_M_g13, ag_M_g14, ag_M_g15, ag_M_g16, ag_M_g17, ag_M_g18, ag_M_g19, ag_M_g20, ag_M_g21, ag_M_g22, ag_M_g23, ag_M_g24, ag_M_ck, ag_SM_2, ag_M_p0 h, ag_M_p1 h, ag_M_p2 h, ag_M_p3 h, ag_M_p16 h, ag_M_p18 h, ag_M_p19 h, ag_M_p24 h, ag_M_ia0 h, ag_M_is0 h, ag_M_al0 h, ag_M_ia1 h, ag_M_is1 h, ag_M_al1 h, ag_M_ia2 h, ag_M_is2 h, ag_M_al2 h, ag_M_ia3 h, ag_M_is3 h, ag_M_al3 h, ag_M_ia4 h, ag_M_is4 h, ag_M_al4 h, ag_M_ia5 h, ag_M_is5 h, ag_M_al5 h, ag_M_ia6 h, ag_M_is6 h, ag_M_al6 h, ag_M_ia7 h, ag_M_is7 h, ag_M_al7 h, ag_M_ia8 h, ag_M_is8 h, ag_M_al8 h, ag_M_ia9 h, ag_M_is9 h, ag_M_al9 h, ag_M_ia10 h, ag_M_is10 h, ag_M_al10 h, ag_M_ia11 h, ag_M_is11 h, ag_M_al11 h, ag_M_ia12 h, ag_M_is12 h, ag_M_al12 h, ag_M_ia13 h, ag_M_is13 h, ag_M_al13 h, ag_M_ia14 h, ag_M_is14 h, ag_M_al14 h, ag_M_ia15 h, ag_M_is15 h, ag_M_al15 h, ag_M_ia16 h, ag_M_is16 h, ag_M_al16 h, ag_kk_v, ag_kk_n, Nat.reduceAdd, ag_b0, ag_b1, true_and, or_true, true_or, Int.reduceEq, ne_eq, not_false_eq_true, not_true_eq_false, ↓reduceIte, ag_nmk_2, ag_nmk_3, ag_nmk_4, ag_nmk_5, ag_nmk_7, ag_nmk_11, ag_nmk_12, ag_nmk_20, ag_nmk_99, ag_nmk_100, ag_nmk_300, ag_nmk_999, ag_nmk_9999, ag_nm_1, ag_nm_z, ag_nm_m, k4, u10, ag_M_ck, x4]
end AGTR
