/-! THE REFERENCE: otherwise, calledAt. -/
section AGTS
variable {σ : ag_S} {a : Nat} {ρ : Nat → Nat} {gb gp gh : Nat → Nat → Int} {r t sg : Nat → Int} {th qu mi : Int} {w n m nq np : Nat}
theorem ag_R_ot_loop {a0 : Nat} {N : Nat} (h : ag_mi a0 ρ N) (hm : m ≤ 20) (hs : ag_sm gp) {e : Nat → Int} (he : ∀ j, ag_nm (e j) = e j) {y : Nat} (hy : y ≠ a0) (hyr : ∀ k, k < 17 → ρ k ≠ y) (hc : σ.1 y = some (Sum.inl (20, e))) (p : Int) (x : Option ag_V) (K : ag_Rs → ag_S → Prop) : ∀ (k i s : Nat), i + k = m →
    ag_wp 163 38 [some (ag_R a0), some (ag_I p), x, some (ag_R y), some (ag_I s), some (ag_I i)] [] (ag_SM σ a0 ρ (ag_mg gb r gp t sg gh) (ag_mv th w n m nq np qu mi)) K = ag_wp 163 77 [some (ag_R a0), some (ag_I p), x, some (ag_R y), some (ag_I (s + ag_ct (fun i => decide (gp 3 i ≠ e i)) k i : Nat)), some (ag_I m)] [] (ag_SM σ a0 ρ (ag_mg gb r gp t sg gh) (ag_mv th w n m nq np qu mi)) K := by
  have hia := fun g v (i : Int) K => ag_ia_at ((ag_SM_b (σ := σ) (a := a0) (ρ := ρ) g v hy hyr).trans hc) i K
  intro k
  induction k with
  | zero =>
    intro i s hi
    rw [ag_i163_38]
    simp only [ag_i163_40, ag_i163_41, ag_i163_44, ag_mv_0, ag_mv_u0, ag_mv_1, ag_mv_u1, ag_mv_2, ag_mv_u2, ag_mv_3, ag_mv_u3, ag_mv_4, ag_mv_u4, ag_mv_5, ag_mv_u5, ag_mv_6, ag_mv_u6, ag_mv_7, ag_mv_u7, ag_mg_0, ag_mg_u0, ag_mg_1, ag_mg_u1, ag_mg_2, ag_mg_u2, ag_mg_3, ag_mg_u3, ag_mg_4, ag_mg_u4, ag_mg_5, ag_mg_u5, ag_mg_6, ag_mg_u6, ag_mg_7, ag_mg_u7, ag_mg_8, ag_mg_u8, ag_mg_9, ag_mg_u9, ag_mg_10, ag_mg_u10, ag_mg_11, ag_mg_u11, ag_mg_12, ag_mg_u12, ag_mg_13, ag_mg_u13, ag_mg_14, ag_mg_u14, ag_mg_15, ag_mg_u15, ag_mg_16, ag_mg_u16, ag_M_g0, ag_M_g1, ag_M_g2, ag_M_g3, ag_M_g4, ag_M_g5, ag_M_g6, ag_M_g7, ag_M_g8, ag_M_g9, ag_M_g10, ag_M_g11, ag_M_g12, ag_M_g13, ag_M_g14, ag_M_g15, ag_M_g16, ag_M_g17, ag_M_g18, ag_M_g19, ag_M_g20, ag_M_g21, ag_M_g22, ag_M_g23, ag_M_g24, ag_M_ck, ag_SM_2, ag_M_p0 h, ag_M_p1 h, ag_M_p2 h, ag_M_p3 h, ag_M_p16 h, ag_M_p18 h, ag_M_p19 h, ag_M_p24 h, ag_M_ia0 h, ag_M_is0 h, ag_M_al0 h, ag_M_ia1 h, ag_M_is1 h, ag_M_al1 h, ag_M_ia2 h, ag_M_is2 h, ag_M_al2 h, ag_M_ia3 h, ag_M_is3 h, ag_M_al3 h, ag_M_ia4 h, ag_M_is4 h, ag_M_al4 h, ag_M_ia5 h, ag_M_is5 h, ag_M_al5 h, ag_M_ia6 h, ag_M_is6 h, ag_M_al6 h, ag_M_ia7 h, ag_M_is7 h, ag_M_al7 h, ag_M_ia8 h, ag_M_is8 h, ag_M_al8 h, ag_M_ia9 h, ag_M_is9 h, ag_M_al9 h, ag_M_ia10 h, ag_M_is10 h, ag_M_al10 h, ag_M_ia11 h, ag_M_is11 h, ag_M_al11 h, ag_M_ia12 h, ag_M_is12 h, ag_M_al12 h, ag_M_ia13 h, ag_M_is13 h, ag_M_al13 h, ag_M_ia14 h, ag_M_is14 h, ag_M_al14 h, ag_M_ia15 h, ag_M_is15 h, ag_M_al15 h, ag_M_ia16 h, ag_M_is16 h, ag_M_al16 h, ag_kk_v, ag_kk_n, Nat.reduceAdd, ag_b0, ag_b1, true_and, or_true, true_or, Int.reduceEq, ne_eq, not_false_eq_true, not_true_eq_false, ↓reduceIte, ag_nm_nat (show i ≤ 1000000 by omega), ag_nm_nat (show m ≤ 1000000 by omega)]
    rw [if_pos (show (m : Int) ≤ i by omega), show i = m by omega]
    rfl
  | succ k ih =>
    intro i s hi
    have ii : ag_inb 20 (i : Int) := ag_inb_nat (by omega) (by decide)
    rw [ag_i163_38]
    simp only [ag_i163_40, ag_i163_41, ag_i163_44, ag_i163_47, ag_i163_49, ag_i163_50, ag_i163_53, ag_i163_55, ag_i163_56, ag_i163_57, ag_i163_59, ag_i163_60, ag_i163_63, ag_i163_64, ag_i163_67, ag_i163_68, ag_i163_69_n, ag_i163_69_i, ag_i163_69_r, ag_i163_71_n, ag_i163_71_i, ag_i163_71_r, ag_i163_74, ag_mv_0, ag_mv_u0, ag_mv_1, ag_mv_u1, ag_mv_2, ag_mv_u2, ag_mv_3, ag_mv_u3, ag_mv_4, ag_mv_u4, ag_mv_5, ag_mv_u5, ag_mv_6, ag_mv_u6, ag_mv_7, ag_mv_u7, ag_mg_0, ag_mg_u0, ag_mg_1, ag_mg_u1, ag_mg_2, ag_mg_u2, ag_mg_3, ag_mg_u3, ag_mg_4, ag_mg_u4, ag_mg_5, ag_mg_u5, ag_mg_6, ag_mg_u6, ag_mg_7, ag_mg_u7, ag_mg_8, ag_mg_u8, ag_mg_9, ag_mg_u9, ag_mg_10, ag_mg_u10, ag_mg_11, ag_mg_u11, ag_mg_12, ag_mg_u12, ag_mg_13, ag_mg_u13, ag_mg_14, ag_mg_u14, ag_mg_15, ag_mg_u15, ag_mg_16, ag_mg_u16, ag_M_g0, ag_M_g1, ag_M_g2, ag_M_g3, ag_M_g4, ag_M_g5, ag_M_g6, ag_M_g7, ag_M_g8, ag_M_g9, ag_M_g10, ag_M_g11, ag_M_g12, ag_M_g13, ag_M_g14, ag_M_g15, ag_M_g16, ag_M_g17, ag_M_g18, ag_M_g19, ag_M_g20, ag_M_g21, ag_M_g22, ag_M_g23, ag_M_g24, ag_M_ck, ag_SM_2, ag_M_p0 h, ag_M_p1 h, ag_M_p2 h, ag_M_p3 h, ag_M_p16 h, ag_M_p18 h, ag_M_p19 h, ag_M_p24 h, ag_M_ia0 h, ag_M_is0 h, ag_M_al0 h, ag_M_ia1 h, ag_M_is1 h, ag_M_al1 h, ag_M_ia2 h, ag_M_is2 h, ag_M_al2 h, ag_M_ia3 h, ag_M_is3 h, ag_M_al3 h, ag_M_ia4 h, ag_M_is4 h, ag_M_al4 h, ag_M_ia5 h, ag_M_is5 h, ag_M_al5 h, ag_M_ia6 h, ag_M_is6 h, ag_M_al6 h, ag_M_ia7 h, ag_M_is7 h, ag_M_al7 h, ag_M_ia8 h, ag_M_is8 h, ag_M_al8 h, ag_M_ia9 h, ag_M_is9 h, ag_M_al9 h, ag_M_ia10 h, ag_M_is10 h, ag_M_al10 h, ag_M_ia11 h, ag_M_is11 h, ag_M_al11 h, ag_M_ia12 h, ag_M_is12 h, ag_M_al12 h, ag_M_ia13 h, ag_M_is13 h, ag_M_al13 h, ag_M_ia14 h, ag_M_is14 h, ag_M_al14 h, ag_M_ia15 h, ag_M_is15 h, ag_M_al15 h, ag_M_ia16 h, ag_M_is16 h, ag_M_al16 h, ag_kk_v, ag_kk_n, Nat.reduceAdd, ag_b0, ag_b1, true_and, or_true, true_or, Int.reduceEq, ne_eq, not_false_eq_true, not_true_eq_false, ↓reduceIte, ag_nmk_2, ag_nmk_3, ag_nmk_4, ag_nmk_5, ag_nmk_7, ag_nmk_11, ag_nmk_12, ag_nmk_20, ag_nmk_99, ag_nmk_100, ag_nmk_300, ag_nmk_999, ag_nmk_9999, ag_nm_1, ag_nm_z, ag_nm_m, ag_nm_nat (show i ≤ 1000000 by omega), ag_nm_nat (show m ≤ 1000000 by omega), ii, hia, ag_rd_nat (show 20 ≤ 1000000 by decide) (show i < 20 by omega), ag_nm_g hs, he]
    rw [if_neg (show ¬ (m : Int) ≤ i by omega), ag_ct]
    by_cases q : gp 3 i = e i
    · have h2 := ih (i + 1) s (by omega)
      rw [if_pos q, if_neg (show ¬ decide (gp 3 i ≠ e i) = true by simp [q]), Nat.zero_add, Int.add_zero]
      exact h2
    · have h2 := ih (i + 1) (s + 1) (by omega)
      rw [if_neg q, if_pos (show decide (gp 3 i ≠ e i) = true by simp [q]), ← Nat.add_assoc]
      exact h2
theorem ag_R_otN (h : ag_mi a ρ σ.2.1) (hV : ag_IV (gb, (w, (n, gp))) m) (hr : ∀ i, i < n → r i = gb 6 i) (hH : ag_sm gh) (hp : np ≤ 5) (hn : nq ≤ 12) (ht : ∀ j, ag_nm (t j) = t j) {p : Int} (hpn : ag_nm p = p) :
    ∃ σ3, ag_fr σ σ3 68 (2 * (325 + 10 * m + 8 * w)) ∧ ∀ K, ag_cl9 163 [ag_R a, ag_I p] (ag_SM σ a ρ (ag_mg gb r gp t sg gh) (ag_mv th w n m nq np qu mi)) K = K (Sum.inl (some (ag_I (ag_ct (fun i => decide ((ag_dal gh np qu p m 20 (gb, (w, (n, gp)))).2.2.2 3 i ≠ (ag_dal gh np qu (-1) m 20 (gb, (w, (n, gp)))).2.2.2 3 i)) m 0)))) (ag_SM σ3 a ρ (ag_mg gb r gp t sg gh) (ag_mv th w n m nq np qu mi)) := by
  have hm : m ≤ 20 := hV.2.1.1.2.2
  have hpsi := ag_psi_le hV
  dsimp only at hpsi
  obtain ⟨σ1, ρ1, r1, t1, k1, k2, k3, k4⟩ := ag_R_kp (sg := sg) (gh := gh) (th := th) (qu := qu) (mi := mi) (nq := nq) (np := np) h hV hr ht
  have h1 := k1.1
  obtain ⟨σ2, r2, t2, z, f, N, u1, u2, u3, u4, u5, u6, u7, u8, u9, u10⟩ := ag_R_putAll (gh := gh) (sg := sg) (th := th) (qu := qu) (mi := mi) (m := m) (nq := nq) (np := np) (σ := σ1) (S := (gb, (w, (n, gp)))) (r := r1) (t := t1) (x := -1) h1 hV k2 hH hp hn k3 ag_nm_m
  dsimp only at u10
  have hroom := ag_cal_room (gh := gh) (np := np) (qu := qu) (x := -1) 20 _ hV
  obtain ⟨p0, p1⟩ := ag_dal_01 (gh := gh) (np := np) (qu := qu) (x := -1) 20 _ hV
  dsimp only at p0 p1
  have hV1 := (ag_dal_IV (gh := gh) (np := np) (qu := qu) (x := -1) 20 _ hV).1
  generalize ag_dal gh np qu (-1) m 20 (gb, (w, (n, gp))) = T at *
  obtain ⟨σ3, x1, x2, x3, x4⟩ := ag_R_pb (σ2 := σ2) (gb2 := T.1) (gp2 := T.2.2.2) (r2 := r2) (t2 := t2) (th2 := th) (w2 := T.2.1) (n2 := T.2.2.1) h k1 u1 p0 p1
  have h3 : ag_mi a ρ σ3.2.1 := ag_mi_le h x1.2.1
  -- the states kept aside
  have hy1 := k1.2.2.2.2.1 8 (by decide)
  have hy2 : ρ1 8 ≤ σ3.2.1 := by
    have := (h1.1 8 (by decide)).2.2
    have := u1.2.1
    rw [x3]
    omega
  have hyc : σ3.1 (ρ1 8) = some (Sum.inl (20, T.2.2.2 3)) := by
    rw [x2 _ (by omega)]
    exact ag_SM_r (ag_mi_le h1 u1.2.1) _ _ (k := 8) (by decide)
  have hya : ρ1 8 ≠ a := by
    have := h.2.2.2
    omega
  have hyr : ∀ k, k < 17 → ρ k ≠ ρ1 8 := fun k hk => by
    have := (h.1 k hk).2.2
    omega
  obtain ⟨σ4, ρ4, r4, t4, l1, l2, l3, l4⟩ := ag_R_kp (σ := σ3) (sg := sg) (gh := gh) (th := th) (qu := qu) (mi := mi) (nq := nq) (np := np) h3 hV hr ht
  have h4 := l1.1
  obtain ⟨σ5, r5, t5, z5, f5, N5, v1, v2, v3, v4, v5, v6, v7, v8, v9, v10⟩ := ag_R_putAll (gh := gh) (sg := sg) (th := th) (qu := qu) (mi := mi) (m := m) (nq := nq) (np := np) (σ := σ4) (S := (gb, (w, (n, gp)))) (r := r4) (t := t4) (x := p) h4 hV l2 hH hp hn l3 hpn
  dsimp only at v10
  have hroom2 := ag_cal_room (gh := gh) (np := np) (qu := qu) (x := p) 20 _ hV
  obtain ⟨p02, p12⟩ := ag_dal_01 (gh := gh) (np := np) (qu := qu) (x := p) 20 _ hV
  dsimp only at p02 p12
  have hV2 := (ag_dal_IV (gh := gh) (np := np) (qu := qu) (x := p) 20 _ hV).1
  generalize ag_dal gh np qu p m 20 (gb, (w, (n, gp))) = T2 at *
  obtain ⟨σ6, y1, y2, y3, y4⟩ := ag_R_pb (σ2 := σ5) (gb2 := T2.1) (gp2 := T2.2.2.2) (r2 := r5) (t2 := t5) (th2 := th) (w2 := T2.2.1) (n2 := T2.2.2.1) h3 l1 v1 p02 p12
  have c4 : σ4.2.1 = σ3.2.1 + 12 := by rw [l1.2.1]
  have hy5 : σ5.1 (ρ1 8) = some (Sum.inl (20, T.2.2.2 3)) := by
    rw [v1.1 _ (by omega), l1.2.2.1 _ hy2 hya, ag_SM_b _ _ hya hyr]
    exact hyc
  have hyr4 : ∀ k, k < 17 → ρ4 k ≠ ρ1 8 := fun k hk => by
    by_cases q : k ∈ ag_TEN
    · have := l1.2.2.2.2.1 k q
      omega
    · rw [l1.2.2.2.1 k q]
      exact hyr k hk
  have hfr := ag_fr_trans x1 y1
  refine ⟨σ6, ag_fr_le hfr (by omega) (by omega), fun K => ?_⟩
  have hL := ag_R_ot_loop (σ := σ5) (gb := T2.1) (gp := T2.2.2.2) (gh := gh) (r := r5) (t := t5) (sg := sg) (th := th) (qu := qu) (mi := mi) (w := T2.2.1) (n := T2.2.2.1) (m := m) (nq := nq) (np := np) (ag_mi_le h4 v1.2.1) hm hV2.2.1.1.2.1 (fun j => ag_nm_g hV1.2.1.1.2.1 3 j) hya hyr4 hy5 p (some (ag_R (σ3.2.1 + 1))) K m 0 0 (by omega)
  rw [Nat.zero_add] at hL
  simp only [ag_i163_0, ag_i163_1, ag_i163_4_n, ag_i163_4_i, ag_i163_4_r, ag_i163_5, ag_i163_6, ag_i163_7, ag_i163_10, ag_i163_11, ag_i163_12, ag_i163_15_n, ag_i163_15_i, ag_i163_15_r, ag_i163_16, ag_i163_17, ag_i163_18, ag_i163_21, ag_i163_22, ag_i163_25_n, ag_i163_25_i, ag_i163_25_r, ag_i163_26, ag_i163_27, ag_i163_28, ag_i163_31, ag_i163_32, ag_i163_33_n, ag_i163_33_i, ag_i163_33_r, ag_i163_35, ag_i163_36_n, ag_i163_36_i, ag_i163_36_r, ag_e163, ag_mv_0, ag_mv_u0, ag_mv_1, ag_mv_u1, ag_mv_2, ag_mv_u2, ag_mv_3, ag_mv_u3, ag_mv_4, ag_mv_u4, ag_mv_5, ag_mv_u5, ag_mv_6, ag_mv_u6, ag_mv_7, ag_mv_u7, ag_mg_0, ag_mg_u0, ag_mg_1, ag_mg_u1, ag_mg_2, ag_mg_u2, ag_mg_3, ag_mg_u3, ag_mg_4, ag_mg_u4, ag_mg_5, ag_mg_u5, ag_mg_6, ag_mg_u6, ag_mg_7, ag_mg_u7, ag_mg_8, ag_mg_u8, ag_mg_9, ag_mg_u9, ag_mg_10, ag_mg_u10, ag_mg_11, ag_mg_u11, ag_mg_12, ag_mg_u12, ag_mg_13, ag_mg_u13, ag_mg_14, ag_mg_u14, ag_mg_15, ag_mg_u15, ag_mg_16, ag_mg_u16, ag_M_g0, ag_M_g1, ag_M_g2, ag_M_g3, ag_M_g4, ag_M_g5, ag_M_g6, ag_M_g7, ag_M_g8, ag_M_g9, ag_M_g10, ag_M_g11, ag_M_g12, ag_M_g13, ag_M_g14, ag_M_g15, ag_M_g16, ag_M_g17, ag_M_g18, ag_M_g19, ag_M_g20, ag_M_g21, ag_M_g22, ag_M_g23, ag_M_g24, ag_M_ck, ag_SM_2, ag_M_p0 h, ag_M_p1 h, ag_M_p2 h, ag_M_p3 h, ag_M_p16 h, ag_M_p18 h, ag_M_p19 h, ag_M_p24 h, ag_M_ia0 h, ag_M_is0 h, ag_M_al0 h, ag_M_ia1 h, ag_M_is1 h, ag_M_al1 h, ag_M_ia2 h, ag_M_is2 h, ag_M_al2 h, ag_M_ia3 h, ag_M_is3 h, ag_M_al3 h, ag_M_ia4 h, ag_M_is4 h, ag_M_al4 h, ag_M_ia5 h, ag_M_is5 h, ag_M_al5 h, ag_M_ia6 h, ag_M_is6 h, ag_M_al6 h, ag_M_ia7 h, ag_M_is7 h, ag_M_al7 h, ag_M_ia8 h, ag_M_is8 h, ag_M_al8 h, ag_M_ia9 h, ag_M_is9 h, ag_M_al9 h, ag_M_ia10 h, ag_M_is10 h, ag_M_al10 h, ag_M_ia11 h, ag_M_is11 h, ag_M_al11 h, ag_M_ia12 h, ag_M_is12 h, ag_M_al12 h, ag_M_ia13 h, ag_M_is13 h, ag_M_al13 h, ag_M_ia14 h, ag_M_is14 h, ag_M_al14 h, ag_M_ia15 h, ag_M_is15 h, ag_M_al15 h, ag_M_ia16 h, ag_M_is16 h, ag_M_al16 h, ag_kk_v, ag_kk_n, Nat.reduceAdd, ag_b0, ag_b1, true_and, or_true, true_or, Int.reduceEq, ne_eq, not_false_eq_true, not_true_eq_false, ↓reduceIte, ag_nmk_2, ag_nmk_3, ag_nmk_4, ag_nmk_5, ag_nmk_7, ag_nmk_11, ag_nmk_12, ag_nmk_20, ag_nmk_99, ag_nmk_100, ag_nmk_300, ag_nmk_999, ag_nmk_9999, ag_nm_1, ag_nm_z, ag_nm_m, k4, u10, ag_M_ck, x4, l4, v10]
  refine Eq.trans hL ?_
  simp only [ag_i163_77, ag_i163_78, ag_i163_79, ag_i163_82, ag_i163_84, ag_kk_v, ag_kk_n, Nat.reduceAdd, ag_M_ck, y4]
theorem ag_R_cAt (h : ag_mi a ρ σ.2.1) (hV : ag_IV (gb, (w, (n, gp))) m) (hr : ∀ i, i < n → r i = gb 6 i) (hH : ag_sm gh) (hp : np ≤ 5) (hn : nq ≤ 12) (ht : ∀ j, ag_nm (t j) = t j) {k : Int} (hk : ag_nm k = k) :
    ∃ σ3 N, ag_fr σ σ3 34 (325 + 10 * m + 8 * w) ∧ N ≤ 20 ∧ ag_nxt (ag_dal gh np qu (-1) m N (gb, (w, (n, gp)))).1 (ag_dal gh np qu (-1) m N (gb, (w, (n, gp)))).2.2.2 m = -1 ∧
    (∀ j, j < N → ag_nxt (ag_dal gh np qu (-1) m j (gb, (w, (n, gp)))).1 (ag_dal gh np qu (-1) m j (gb, (w, (n, gp)))).2.2.2 m ≠ -1) ∧
    (0 ≤ k ∧ k < N → ∀ K, ag_cl9 165 [ag_R a, ag_I k] (ag_SM σ a ρ (ag_mg gb r gp t sg gh) (ag_mv th w n m nq np qu mi)) K = K (Sum.inl (some (ag_I (ag_nxt (ag_dal gh np qu (-1) m k.toNat (gb, (w, (n, gp)))).1 (ag_dal gh np qu (-1) m k.toNat (gb, (w, (n, gp)))).2.2.2 m)))) (ag_SM σ3 a ρ (ag_mg gb r gp t sg gh) (ag_mv 0 w n m nq np qu mi))) ∧
    (¬ (0 ≤ k ∧ k < N) → ∀ K, ag_cl9 165 [ag_R a, ag_I k] (ag_SM σ a ρ (ag_mg gb r gp t sg gh) (ag_mv th w n m nq np qu mi)) K = K (Sum.inl (some (ag_I 0))) (ag_SM σ3 a ρ (ag_mg gb r gp t sg gh) (ag_mv 1 w n m nq np qu mi))) := by
  have hm : m ≤ 20 := hV.2.1.1.2.2
  have hpsi := ag_psi_le hV
  dsimp only at hpsi
  obtain ⟨σ1, ρ1, r1, t1, k1, k2, k3, k4⟩ := ag_R_kp (sg := sg) (gh := gh) (th := 0) (qu := qu) (mi := mi) (nq := nq) (np := np) h hV hr ht
  have h1 := k1.1
  obtain ⟨σ2, r2, t2, z, f, N, u1, u2, u3, u4, u5, u6, u7, u8, u9, u10⟩ := ag_R_putAll (gh := gh) (sg := sg) (th := 0) (qu := qu) (mi := mi) (m := m) (nq := nq) (np := np) (σ := σ1) (S := (gb, (w, (n, gp)))) (r := r1) (t := t1) (x := -1) h1 hV k2 hH hp hn k3 ag_nm_m
  dsimp only at u10
  have hroom := ag_cal_room (gh := gh) (np := np) (qu := qu) (x := -1) 20 _ hV
  obtain ⟨p0, p1⟩ := ag_dal_01 (gh := gh) (np := np) (qu := qu) (x := -1) 20 _ hV
  dsimp only at p0 p1
  generalize ag_dal gh np qu (-1) m 20 (gb, (w, (n, gp))) = T at *
  obtain ⟨σ3, x1, x2, x3, x4⟩ := ag_R_pb (σ2 := σ2) (gb2 := T.1) (gp2 := T.2.2.2) (r2 := r2) (t2 := t2) (th2 := 0) (w2 := T.2.1) (n2 := T.2.2.1) h k1 u1 p0 p1
  have h3 : ag_mi a ρ σ3.2.1 := ag_mi_le h x1.2.1
  have c1 : σ1.2.1 = σ.2.1 + 12 := by rw [k1.2.1]
  have hza : z ≠ a := by have := h.2.2.2; omega
  have hzr : ∀ j, j < 17 → ρ j ≠ z := fun j hj => by have := (h.1 j hj).2.2; omega
  have hzr1 : ∀ j, j < 17 → ρ1 j ≠ z := fun j hj => by have := (h1.1 j hj).2.2; omega
  have hzc : σ3.1 z = some (Sum.inl (N, f)) := by
    rw [x2 _ (by omega), ag_SM_b _ _ hza hzr1]
    exact u6
  have hal := ag_al_at ((ag_SM_b (σ := σ3) (ag_mg gb r gp t sg gh) (ag_mv 0 w n m nq np qu mi) hza hzr).trans hzc)
  have hia := fun i K => ag_ia_at ((ag_SM_b (σ := σ3) (ag_mg gb r gp t sg gh) (ag_mv 0 w n m nq np qu mi) hza hzr).trans hzc) i K
  have hIn := fun K => ag_R_isIn (σ := (ag_SM σ3 a ρ (ag_mg gb r gp t sg gh) (ag_mv 0 w n m nq np qu mi))) k 0 ((N : Int) - 1) K
  rw [ag_nm_z, hk, ag_nm_of (show -2147483648 ≤ (N : Int) - 1 by omega) (by omega)] at hIn
  refine ⟨σ3, N, ag_fr_le x1 (by omega) (by omega), u7, u9, fun j hj => by have := u8 j hj; rw [← this.1]; exact this.2, fun q K => ?_, fun q K => ?_⟩
  · rw [ag_if_t (show 0 ≤ k ∧ k ≤ (N : Int) - 1 by omega)] at hIn
    have iN : ag_inb N k := ag_inb_i q.1 q.2 (by omega)
    have er : ag_rd N f k = f k.toNat := ag_rd_i (by omega) q.1 q.2
    have e8 := (u8 k.toNat (by omega)).1
    simp only [ag_i165_0, ag_i165_1, ag_i165_2, ag_i165_5, ag_i165_6, ag_i165_9_n, ag_i165_9_i, ag_i165_9_r, ag_i165_10, ag_i165_11, ag_i165_12, ag_i165_15_n, ag_i165_15_i, ag_i165_15_r, ag_i165_16, ag_i165_17, ag_i165_18, ag_i165_21, ag_i165_22, ag_i165_23, ag_i165_24, ag_i165_25, ag_i165_26, ag_i165_27, ag_i165_30, ag_i165_33, ag_i165_34, ag_i165_35, ag_i165_36, ag_i165_44, ag_e165, ag_mv_0, ag_mv_u0, ag_mv_1, ag_mv_u1, ag_mv_2, ag_mv_u2, ag_mv_3, ag_mv_u3, ag_mv_4, ag_mv_u4, ag_mv_5, ag_mv_u5, ag_mv_6, ag_mv_u6, ag_mv_7, ag_mv_u7, ag_mg_0, ag_mg_u0, ag_mg_1, ag_mg_u1, ag_mg_2, ag_mg_u2, ag_mg_3, ag_mg_u3, ag_mg_4, ag_mg_u4, ag_mg_5, ag_mg_u5, ag_mg_6, ag_mg_u6, ag_mg_7, ag_mg_u7, ag_mg_8, ag_mg_u8, ag_mg_9, ag_mg_u9, ag_mg_10, ag_mg_u10, ag_mg_11, ag_mg_u11, ag_mg_12, ag_mg_u12, ag_mg_13, ag_mg_u13, ag_mg_14, ag_mg_u14, ag_mg_15, ag_mg_u15, ag_mg_16, ag_mg_u16, ag_M_g0, ag_M_g1, ag_M_g2, ag_M_g3, ag_M_g4, ag_M_g5, ag_M_g6, ag_M_g7, ag_M_g8, ag_M_g9, ag_M_g10, ag_M_g11, ag_M_g12, ag_M_g13, ag_M_g14, ag_M_g15, ag_M_g16, ag_M_g17, ag_M_g18, ag_M_g19, ag_M_g20, ag_M_g21, ag_M_g22, ag_M_g23, ag_M_g24, ag_M_ck, ag_SM_2, ag_M_p0 h, ag_M_p1 h, ag_M_p2 h, ag_M_p3 h, ag_M_p16 h, ag_M_p18 h, ag_M_p19 h, ag_M_p24 h, ag_M_ia0 h, ag_M_is0 h, ag_M_al0 h, ag_M_ia1 h, ag_M_is1 h, ag_M_al1 h, ag_M_ia2 h, ag_M_is2 h, ag_M_al2 h, ag_M_ia3 h, ag_M_is3 h, ag_M_al3 h, ag_M_ia4 h, ag_M_is4 h, ag_M_al4 h, ag_M_ia5 h, ag_M_is5 h, ag_M_al5 h, ag_M_ia6 h, ag_M_is6 h, ag_M_al6 h, ag_M_ia7 h, ag_M_is7 h, ag_M_al7 h, ag_M_ia8 h, ag_M_is8 h, ag_M_al8 h, ag_M_ia9 h, ag_M_is9 h, ag_M_al9 h, ag_M_ia10 h, ag_M_is10 h, ag_M_al10 h, ag_M_ia11 h, ag_M_is11 h, ag_M_al11 h, ag_M_ia12 h, ag_M_is12 h, ag_M_al12 h, ag_M_ia13 h, ag_M_is13 h, ag_M_al13 h, ag_M_ia14 h, ag_M_is14 h, ag_M_al14 h, ag_M_ia15 h, ag_M_is15 h, ag_M_al15 h, ag_M_ia16 h, ag_M_is16 h, ag_M_al16 h, ag_kk_v, ag_kk_n, Nat.reduceAdd, ag_b0, ag_b1, true_and, or_true, true_or, Int.reduceEq, ne_eq, not_false_eq_true, not_true_eq_false, ↓reduceIte, ag_nmk_2, ag_nmk_3, ag_nmk_4, ag_nmk_5, ag_nmk_7, ag_nmk_11, ag_nmk_12, ag_nmk_20, ag_nmk_99, ag_nmk_100, ag_nmk_300, ag_nmk_999, ag_nmk_9999, ag_nm_1, ag_nm_z, ag_nm_m, k4, u10, ag_M_ck, x4, hal, hIn, hia, iN, er, e8]
  · rw [ag_if_f (show ¬ (0 ≤ k ∧ k ≤ (N : Int) - 1) by omega)] at hIn
    have hNo := fun K => ag_R_no (σ := σ3) (gb := gb) (gp := gp) (gh := gh) (r := r) (t := t) (sg := sg) (th := 0) (qu := qu) (mi := mi) (w := w) (n := n) (m := m) (nq := nq) (np := np) h3 1 K
    simp only [ag_i165_0, ag_i165_1, ag_i165_2, ag_i165_5, ag_i165_6, ag_i165_9_n, ag_i165_9_i, ag_i165_9_r, ag_i165_10, ag_i165_11, ag_i165_12, ag_i165_15_n, ag_i165_15_i, ag_i165_15_r, ag_i165_16, ag_i165_17, ag_i165_18, ag_i165_21, ag_i165_22, ag_i165_23, ag_i165_24, ag_i165_25, ag_i165_26, ag_i165_27, ag_i165_30, ag_i165_39, ag_i165_40, ag_i165_41, ag_i165_44, ag_e165, ag_mv_0, ag_mv_u0, ag_mv_1, ag_mv_u1, ag_mv_2, ag_mv_u2, ag_mv_3, ag_mv_u3, ag_mv_4, ag_mv_u4, ag_mv_5, ag_mv_u5, ag_mv_6, ag_mv_u6, ag_mv_7, ag_mv_u7, ag_mg_0, ag_mg_u0, ag_mg_1, ag_mg_u1, ag_mg_2, ag_mg_u2, ag_mg_3, ag_mg_u3, ag_mg_4, ag_mg_u4, ag_mg_5, ag_mg_u5, ag_mg_6, ag_mg_u6, ag_mg_7, ag_mg_u7, ag_mg_8, ag_mg_u8, ag_mg_9, ag_mg_u9, ag_mg_10, ag_mg_u10, ag_mg_11, ag_mg_u11, ag_mg_12, ag_mg_u12, ag_mg_13, ag_mg_u13, ag_mg_14, ag_mg_u14, ag_mg_15, ag_mg_u15, ag_mg_16, ag_mg_u16, ag_M_g0, ag_M_g1, ag_M_g2, ag_M_g3, ag_M_g4, ag_M_g5, ag_M_g6, ag_M_g7, ag_M_g8, ag_M_g9, ag_M_g10, ag_M_g11, ag_M_g12, ag_M_g13, ag_M_g14, ag_M_g15, ag_M_g16, ag_M_g17, ag_M_g18, ag_M_g19, ag_M_g20, ag_M_g21, ag_M_g22, ag_M_g23, ag_M_g24, ag_M_ck, ag_SM_2, ag_M_p0 h, ag_M_p1 h, ag_M_p2 h, ag_M_p3 h, ag_M_p16 h, ag_M_p18 h, ag_M_p19 h, ag_M_p24 h, ag_M_ia0 h, ag_M_is0 h, ag_M_al0 h, ag_M_ia1 h, ag_M_is1 h, ag_M_al1 h, ag_M_ia2 h, ag_M_is2 h, ag_M_al2 h, ag_M_ia3 h, ag_M_is3 h, ag_M_al3 h, ag_M_ia4 h, ag_M_is4 h, ag_M_al4 h, ag_M_ia5 h, ag_M_is5 h, ag_M_al5 h, ag_M_ia6 h, ag_M_is6 h, ag_M_al6 h, ag_M_ia7 h, ag_M_is7 h, ag_M_al7 h, ag_M_ia8 h, ag_M_is8 h, ag_M_al8 h, ag_M_ia9 h, ag_M_is9 h, ag_M_al9 h, ag_M_ia10 h, ag_M_is10 h, ag_M_al10 h, ag_M_ia11 h, ag_M_is11 h, ag_M_al11 h, ag_M_ia12 h, ag_M_is12 h, ag_M_al12 h, ag_M_ia13 h, ag_M_is13 h, ag_M_al13 h, ag_M_ia14 h, ag_M_is14 h, ag_M_al14 h, ag_M_ia15 h, ag_M_is15 h, ag_M_al15 h, ag_M_ia16 h, ag_M_is16 h, ag_M_al16 h, ag_kk_v, ag_kk_n, Nat.reduceAdd, ag_b0, ag_b1, true_and, or_true, true_or, Int.reduceEq, ne_eq, not_false_eq_true, not_true_eq_false, ↓reduceIte, ag_nmk_2, ag_nmk_3, ag_nmk_4, ag_nmk_5, ag_nmk_7, ag_nmk_11, ag_nmk_12, ag_nmk_20, ag_nmk_99, ag_nmk_100, ag_nmk_300, ag_nmk_999, ag_nmk_9999, ag_nm_1, ag_nm_z, ag_nm_m, k4, u10, ag_M_ck, x4, hal, hIn, hNo]
/-! values on a trial course do not depend on its spare row -/
theorem ag_K_inj {P : (ag_Rs → ag_S → Prop) → Prop} {r1 r2 : ag_Rs} {s1 s2 : ag_S} (h1 : ∀ K, P K = K r1 s1) (h2 : ∀ K, P K = K r2 s2) : r1 = r2 := by
  have a1 := h1 (fun r _ => r = r2)
  have a2 := h2 (fun r _ => r = r2)
  have e : (r1 = r2) = (r2 = r2) := a1.symm.trans a2
  rw [e]
end AGTS
