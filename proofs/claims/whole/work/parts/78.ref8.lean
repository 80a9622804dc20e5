/-! THE REFERENCE: passed, put, putAll. -/
/-- slots that b's put takes; the ties behind it -/
def ag_cpt (gh : Nat → Nat → Int) (np : Nat) (qu x : Int) (S : ag_T) (b : Nat) : Nat :=
  if ag_ftb S.1 S.2.1 S.2.2.1 S.2.2.2 b = 0 then 0 else if ag_car gh np qu b x = 0 then 0 else ag_cst S.1 S.2.2.1 S.2.2.2 b
noncomputable def ag_tpt (gh : Nat → Nat → Int) (np : Nat) (qu x : Int) (S : ag_T) (t : Nat → Int) (nq b : Nat) : Nat → Int :=
  if ag_ftb S.1 S.2.1 S.2.2.1 S.2.2.2 b = 0 then t else if ag_car gh np qu b x = 0 then t else ag_tpf S.1 S.2.2.1 S.2.2.2 t nq b
section AGR8
variable {σ : ag_S} {a N : Nat} {ρ : Nat → Nat} {gb gp gh : Nat → Nat → Int} {r t sg : Nat → Int} {th qu mi : Int} {w n m nq np : Nat}
theorem ag_R_passed (h : ag_mi a ρ σ.2.1) (hV : ag_IV (gb, (w, (n, gp))) m) (hr : ∀ i, i < n → r i = gb 6 i) (hn : nq ≤ 12) (ht : ∀ j, ag_nm (t j) = t j) {b : Nat} (hb : b < m) (hl : gp 3 b = 0) (hf : ag_ftb gb w n gp b ≠ 0) :
    ∃ σ' r', ag_fr σ σ' 1 (ag_cst gb n gp b) ∧ (∀ i, i < (ag_psd gb w n gp m b).2.2.1 → r' i = (ag_psd gb w n gp m b).1 6 i) ∧
    ∀ K, ag_cl9 140 [ag_R a, ag_I b] (ag_SM σ a ρ (ag_mg gb r gp t sg gh) (ag_mv th w n m nq np qu mi)) K = K (Sum.inl (some (ag_I ((ag_cnt (ag_psd gb w n gp m b).2.2.2 m 3 : Int) - (ag_cnt gp m 3 : Int))))) (ag_SM σ' a ρ (ag_mg (ag_psd gb w n gp m b).1 r' (ag_psd gb w n gp m b).2.2.2 (ag_tpf gb n gp t nq b) sg gh) (ag_mv th ((ag_psd gb w n gp m b).2.1 : Nat) ((ag_psd gb w n gp m b).2.2.1 : Nat) m nq np qu mi)) := by
  obtain ⟨f1, f2, ⟨f30, f31, f33, f34, f32⟩, -⟩ := ag_pfm_I hV hb hl hf
  dsimp only at f1 f2 f30 f31 f33 f34 f32
  have hm : m ≤ 20 := hV.2.1.1.2.2
  obtain ⟨σ', r', u1, u2, u3⟩ := ag_R_doIt (σ := σ) (gh := gh) (sg := sg) (th := th) (qu := qu) (mi := mi) (np := np) h hV hr hn ht hb hl hf
  have h' := ag_mi_le h u1.2.1
  have hno := ag_IP_no f2
  unfold ag_psd
  dsimp only
  generalize ag_pfm gb w n gp b = S1 at *
  obtain ⟨gb1, w1, n1, gp1⟩ := S1
  dsimp only at *
  have hB0 := fun K => ag_R_bec0 (σ := σ') (gb := gb1) (gp := gp1) (gh := gh) (r := r') (t := ag_tpf gb n gp t nq b) (sg := sg) (th := th) (qu := qu) (mi := mi) (w := w1) (n := n1) (m := m) (nq := nq) (np := np) h' hm f2.1.2.1 (show b < 20 by omega) hno (s := 1) (y := -1) (by omega) (by omega) (by omega) (by omega) K
  have hst : ag_st gp1 (ag_set gp1 b 1 (-1) m) m := ag_set_st (by omega) hm (by omega) (by omega) (by omega) (by omega)
  have hc := ag_cnt_set (gp := gp1) (b := b) (s := 1) (y := -1) hm hb (by rw [f33, hl]; decide)
  have hc2 : ag_cnt gp1 m 3 = ag_cnt gp m 3 := by unfold ag_cnt; rw [f33]
  refine ⟨σ', r', u1, u2, fun K => ?_⟩
  have hL := ag_R_pa_loop (σ := σ') (gb := gb1) (gh := gh) (r := r') (t := ag_tpf gb n gp t nq b) (sg := sg) (th := th) (qu := qu) (mi := mi) (w := w1) (n := n1) (m := m) (nq := nq) (np := np) h' f1 u2 hb K m 0 (ag_set gp1 b 1 (-1) m) ((((if (1 : Int) = 3 then 1 else 0) + ag_cch gp1 (ag_ui (gp1 3) b 1) b m 0 : Nat) : Int)) none none (by omega) (ag_IP_st f2 hst) (Or.inl rfl)
  have e2 : ((((if (1 : Int) = 3 then 1 else 0) + ag_cch gp1 (ag_ui (gp1 3) b 1) b m 0 : Nat) : Int)) + ((ag_cnt (ag_spl gb1 b m m 0 (ag_set gp1 b 1 (-1) m)) m 3 : Int) - (ag_cnt (ag_set gp1 b 1 (-1) m) m 3 : Int)) = (ag_cnt (ag_spl gb1 b m m 0 (ag_set gp1 b 1 (-1) m)) m 3 : Int) - (ag_cnt gp m 3 : Int) := by
    rw [hc, hc2]
    omega
  rw [e2] at hL
  rw [← hL]
  simp only [ag_i140_0, ag_i140_1, ag_i140_2, ag_i140_5, ag_i140_6, ag_i140_7, ag_i140_8, ag_i140_9, ag_i140_12_n, ag_i140_12_i, ag_i140_12_r, ag_i140_13, ag_i140_14_n, ag_i140_14_i, ag_i140_14_r, ag_e140, ag_mv_0, ag_mv_u0, ag_mv_1, ag_mv_u1, ag_mv_2, ag_mv_u2, ag_mv_3, ag_mv_u3, ag_mv_4, ag_mv_u4, ag_mv_5, ag_mv_u5, ag_mv_6, ag_mv_u6, ag_mv_7, ag_mv_u7, ag_mg_0, ag_mg_u0, ag_mg_1, ag_mg_u1, ag_mg_2, ag_mg_u2, ag_mg_3, ag_mg_u3, ag_mg_4, ag_mg_u4, ag_mg_5, ag_mg_u5, ag_mg_6, ag_mg_u6, ag_mg_7, ag_mg_u7, ag_mg_8, ag_mg_u8, ag_mg_9, ag_mg_u9, ag_mg_10, ag_mg_u10, ag_mg_11, ag_mg_u11, ag_mg_12, ag_mg_u12, ag_mg_13, ag_mg_u13, ag_mg_14, ag_mg_u14, ag_mg_15, ag_mg_u15, ag_mg_16, ag_mg_u16, ag_M_g0, ag_M_g1, ag_M_g2, ag_M_g3, ag_M_g4, ag_M_g5, ag_M_g6, ag_M_g7, ag_M_g8, ag_M_g9, ag_M_g10, ag_M_g11, ag_M_g12, ag_M_g13, ag_M_g14, ag_M_g15, ag_M_g16, ag_M_g17, ag_M_g18, ag_M_g19, ag_M_g20, ag_M_g21, ag_M_g22, ag_M_g23, ag_M_g24, ag_M_ck, ag_SM_2, ag_M_p0 h', ag_M_p1 h', ag_M_p2 h', ag_M_p3 h', ag_M_p16 h', ag_M_p18 h', ag_M_p19 h', ag_M_p24 h', ag_M_ia0 h', ag_M_is0 h', ag_M_al0 h', ag_M_ia1 h', ag_M_is1 h', ag_M_al1 h', ag_M_ia2 h', ag_M_is2 h', ag_M_al2 h', ag_M_ia3 h', ag_M_is3 h', ag_M_al3 h', ag_M_ia4 h', ag_M_is4 h', ag_M_al4 h', ag_M_ia5 h', ag_M_is5 h', ag_M_al5 h', ag_M_ia6 h', ag_M_is6 h', ag_M_al6 h', ag_M_ia7 h', ag_M_is7 h', ag_M_al7 h', ag_M_ia8 h', ag_M_is8 h', ag_M_al8 h', ag_M_ia9 h', ag_M_is9 h', ag_M_al9 h', ag_M_ia10 h', ag_M_is10 h', ag_M_al10 h', ag_M_ia11 h', ag_M_is11 h', ag_M_al11 h', ag_M_ia12 h', ag_M_is12 h', ag_M_al12 h', ag_M_ia13 h', ag_M_is13 h', ag_M_al13 h', ag_M_ia14 h', ag_M_is14 h', ag_M_al14 h', ag_M_ia15 h', ag_M_is15 h', ag_M_al15 h', ag_M_ia16 h', ag_M_is16 h', ag_M_al16 h', ag_kk_v, ag_kk_n, Nat.reduceAdd, ag_b0, ag_b1, true_and, or_true, true_or, Int.reduceEq, ne_eq, not_false_eq_true, not_true_eq_false, ↓reduceIte, u3, hB0]
  rfl
theorem ag_R_put (h : ag_mi a ρ σ.2.1) (hV : ag_IV (gb, (w, (n, gp))) m) (hr : ∀ i, i < n → r i = gb 6 i) (hH : ag_sm gh) (hp : np ≤ 5) (hn : nq ≤ 12) (ht : ∀ j, ag_nm (t j) = t j) {b : Nat} {x : Int} (hx : ag_nm x = x) (hb : b < m) (hl : gp 3 b = 0) :
    ∃ σ' r', ag_fr σ σ' 1 (ag_cpt gh np qu x (gb, (w, (n, gp))) b) ∧ (∀ i, i < (ag_dec gh np qu x m (gb, (w, (n, gp))) b).2.2.1 → r' i = (ag_dec gh np qu x m (gb, (w, (n, gp))) b).1 6 i) ∧
    ∀ K, ag_cl9 142 [ag_R a, ag_I b, ag_I x] (ag_SM σ a ρ (ag_mg gb r gp t sg gh) (ag_mv th w n m nq np qu mi)) K = K (Sum.inl none) (ag_SM σ' a ρ (ag_mg (ag_dec gh np qu x m (gb, (w, (n, gp))) b).1 r' (ag_dec gh np qu x m (gb, (w, (n, gp))) b).2.2.2 (ag_tpt gh np qu x (gb, (w, (n, gp))) t nq b) sg gh) (ag_mv th ((ag_dec gh np qu x m (gb, (w, (n, gp))) b).2.1 : Nat) ((ag_dec gh np qu x m (gb, (w, (n, gp))) b).2.2.1 : Nat) m nq np qu mi)) := by
  have hm : m ≤ 20 := hV.2.1.1.2.2
  have hsp : ag_sm gp := hV.2.1.1.2.1
  have hno := ag_IP_no hV.2.1
  dsimp only at hno
  have hC := fun K => ag_R_canDo2 (σ := σ) (gh := gh) (t := t) (sg := sg) (th := th) (qu := qu) (mi := mi) (nq := nq) (np := np) h hV hr hb K
  have hI := fun K => ag_R_isPassing (σ := σ) (gb := gb) (gp := gp) (gh := gh) (r := r) (t := t) (sg := sg) (th := th) (qu := qu) (mi := mi) (w := w) (n := n) (m := m) (nq := nq) (np := np) h hp hH (c := (b : Int)) (x := x) (by omega) hx K
  have hB0 := fun (sv y : Int) (s1 : 0 ≤ sv) (s2 : sv ≤ 4) (y1 : -1 ≤ y) (y2 : y ≤ 20) K => ag_R_bec0 (σ := σ) (gb := gb) (gp := gp) (gh := gh) (r := r) (t := t) (sg := sg) (th := th) (qu := qu) (mi := mi) (w := w) (n := n) (m := m) (nq := nq) (np := np) h hm hsp (show b < 20 by omega) hno s1 s2 y1 y2 K
  have rr : ∀ k, ag_rd 20 (gp k) (b : Int) = gp k b := fun k => ag_rd_nat (by decide) (by omega)
  have ed : ag_dbl (gb, (w, (n, gp))) m b = ag_ftb gb w n gp b := by
    unfold ag_dbl
    rw [ag_if_t ⟨by rw [ag_nm_nat (by omega)]; omega, by rw [ag_nm_nat (by omega)]; omega, by rw [rr]; exact hl⟩, rr, rr, rr]
    rfl
  rw [ed] at hC
  unfold ag_dec ag_cpt ag_tpt
  dsimp only
  by_cases q1 : ag_ftb gb w n gp b = 0
  · rw [if_pos q1, if_pos q1, if_pos q1]
    have hb3 := hB0 3 b (by omega) (by omega) (by omega) (by omega)
    rw [q1] at hC
    refine ⟨σ, r, ag_fr_le (ag_fr_refl σ) (by omega) (by omega), hr, fun K => ?_⟩
    simp only [ag_e142, ag_i142_0, ag_i142_1, ag_i142_2, ag_i142_5, ag_i142_8, ag_i142_9, ag_i142_10, ag_i142_11, ag_i142_12, ag_i142_15, ag_i142_16, ag_i142_19, ag_i142_20, ag_i142_21, ag_i142_22, ag_i142_25, ag_i142_28, ag_i142_29, ag_i142_30, ag_i142_33, ag_i142_34, ag_i142_37, ag_i142_38, ag_i142_39, ag_i142_40, ag_i142_41, ag_i142_44, ag_i142_45, ag_mv_0, ag_mv_u0, ag_mv_1, ag_mv_u1, ag_mv_2, ag_mv_u2, ag_mv_3, ag_mv_u3, ag_mv_4, ag_mv_u4, ag_mv_5, ag_mv_u5, ag_mv_6, ag_mv_u6, ag_mv_7, ag_mv_u7, ag_mg_0, ag_mg_u0, ag_mg_1, ag_mg_u1, ag_mg_2, ag_mg_u2, ag_mg_3, ag_mg_u3, ag_mg_4, ag_mg_u4, ag_mg_5, ag_mg_u5, ag_mg_6, ag_mg_u6, ag_mg_7, ag_mg_u7, ag_mg_8, ag_mg_u8, ag_mg_9, ag_mg_u9, ag_mg_10, ag_mg_u10, ag_mg_11, ag_mg_u11, ag_mg_12, ag_mg_u12, ag_mg_13, ag_mg_u13, ag_mg_14, ag_mg_u14, ag_mg_15, ag_mg_u15, ag_mg_16, ag_mg_u16, ag_M_g0, ag_M_g1, ag_M_g2, ag_M_g3, ag_M_g4, ag_M_g5, ag_M_g6, ag_M_g7, ag_M_g8, ag_M_g9, ag_M_g10, ag_M_g11, ag_M_g12, ag_M_g13, ag_M_g14, ag_M_g15, ag_M_g16, ag_M_g17, ag_M_g18, ag_M_g19, ag_M_g20, ag_M_g21, ag_M_g22, ag_M_g23, ag_M_g24, ag_M_ck, ag_SM_2, ag_M_p0 h, ag_M_p1 h, ag_M_p2 h, ag_M_p3 h, ag_M_p16 h, ag_M_p18 h, ag_M_p19 h, ag_M_p24 h, ag_M_ia0 h, ag_M_is0 h, ag_M_al0 h, ag_M_ia1 h, ag_M_is1 h, ag_M_al1 h, ag_M_ia2 h, ag_M_is2 h, ag_M_al2 h, ag_M_ia3 h, ag_M_is3 h, ag_M_al3 h, ag_M_ia4 h, ag_M_is4 h, ag_M_al4 h, ag_M_ia5 h, ag_M_is5 h, ag_M_al5 h, ag_M_ia6 h, ag_M_is6 h, ag_M_al6 h, ag_M_ia7 h, ag_M_is7 h, ag_M_al7 h, ag_M_ia8 h, ag_M_is8 h, ag_M_al8 h, ag_M_ia9 h, ag_M_is9 h, ag_M_al9 h, ag_M_ia10 h, ag_M_is10 h, ag_M_al10 h, ag_M_ia11 h, ag_M_is11 h, ag_M_al11 h, ag_M_ia12 h, ag_M_is12 h, ag_M_al12 h, ag_M_ia13 h, ag_M_is13 h, ag_M_al13 h, ag_M_ia14 h, ag_M_is14 h, ag_M_al14 h, ag_M_ia15 h, ag_M_is15 h, ag_M_al15 h, ag_M_ia16 h, ag_M_is16 h, ag_M_al16 h, ag_kk_v, ag_kk_n, Nat.reduceAdd, ag_b0, ag_b1, true_and, or_true, true_or, Int.reduceEq, ne_eq, not_false_eq_true, not_true_eq_false, ↓reduceIte, ag_nmk_2, ag_nmk_3, ag_nmk_4, ag_nmk_5, ag_nmk_7, ag_nmk_11, ag_nmk_12, ag_nmk_20, ag_nmk_99, ag_nmk_100, ag_nmk_300, ag_nmk_999, ag_nmk_9999, ag_nm_1, ag_nm_z, ag_nm_m, hC, hb3]
  · rw [if_neg q1, if_neg q1, if_neg q1]
    have q1' : ag_ftb gb w n gp b = 1 := by
      rcases ag_fit_01 gb w n (gp 0 b) (gp 1 b) (gp 2 b) with z | z
      · exact absurd z q1
      · exact z
    rw [q1'] at hC
    by_cases q2 : ag_car gh np qu b x = 0
    · rw [if_pos q2, if_pos q2, if_pos q2]
      have hb2 := hB0 2 (-1) (by omega) (by omega) (by omega) (by omega)
      rw [q2] at hI
      refine ⟨σ, r, ag_fr_le (ag_fr_refl σ) (by omega) (by omega), hr, fun K => ?_⟩
      simp only [ag_e142, ag_i142_0, ag_i142_1, ag_i142_2, ag_i142_5, ag_i142_8, ag_i142_9, ag_i142_10, ag_i142_11, ag_i142_12, ag_i142_15, ag_i142_16, ag_i142_19, ag_i142_20, ag_i142_21, ag_i142_22, ag_i142_25, ag_i142_28, ag_i142_29, ag_i142_30, ag_i142_33, ag_i142_34, ag_i142_37, ag_i142_38, ag_i142_39, ag_i142_40, ag_i142_41, ag_i142_44, ag_i142_45, ag_mv_0, ag_mv_u0, ag_mv_1, ag_mv_u1, ag_mv_2, ag_mv_u2, ag_mv_3, ag_mv_u3, ag_mv_4, ag_mv_u4, ag_mv_5, ag_mv_u5, ag_mv_6, ag_mv_u6, ag_mv_7, ag_mv_u7, ag_mg_0, ag_mg_u0, ag_mg_1, ag_mg_u1, ag_mg_2, ag_mg_u2, ag_mg_3, ag_mg_u3, ag_mg_4, ag_mg_u4, ag_mg_5, ag_mg_u5, ag_mg_6, ag_mg_u6, ag_mg_7, ag_mg_u7, ag_mg_8, ag_mg_u8, ag_mg_9, ag_mg_u9, ag_mg_10, ag_mg_u10, ag_mg_11, ag_mg_u11, ag_mg_12, ag_mg_u12, ag_mg_13, ag_mg_u13, ag_mg_14, ag_mg_u14, ag_mg_15, ag_mg_u15, ag_mg_16, ag_mg_u16, ag_M_g0, ag_M_g1, ag_M_g2, ag_M_g3, ag_M_g4, ag_M_g5, ag_M_g6, ag_M_g7, ag_M_g8, ag_M_g9, ag_M_g10, ag_M_g11, ag_M_g12, ag_M_g13, ag_M_g14, ag_M_g15, ag_M_g16, ag_M_g17, ag_M_g18, ag_M_g19, ag_M_g20, ag_M_g21, ag_M_g22, ag_M_g23, ag_M_g24, ag_M_ck, ag_SM_2, ag_M_p0 h, ag_M_p1 h, ag_M_p2 h, ag_M_p3 h, ag_M_p16 h, ag_M_p18 h, ag_M_p19 h, ag_M_p24 h, ag_M_ia0 h, ag_M_is0 h, ag_M_al0 h, ag_M_ia1 h, ag_M_is1 h, ag_M_al1 h, ag_M_ia2 h, ag_M_is2 h, ag_M_al2 h, ag_M_ia3 h, ag_M_is3 h, ag_M_al3 h, ag_M_ia4 h, ag_M_is4 h, ag_M_al4 h, ag_M_ia5 h, ag_M_is5 h, ag_M_al5 h, ag_M_ia6 h, ag_M_is6 h, ag_M_al6 h, ag_M_ia7 h, ag_M_is7 h, ag_M_al7 h, ag_M_ia8 h, ag_M_is8 h, ag_M_al8 h, ag_M_ia9 h, ag_M_is9 h, ag_M_al9 h, ag_M_ia10 h, ag_M_is10 h, ag_M_al10 h, ag_M_ia11 h, ag_M_is11 h, ag_M_al11 h, ag_M_ia12 h, ag_M_is12 h, ag_M_al12 h, ag_M_ia13 h, ag_M_is13 h, ag_M_al13 h, ag_M_ia14 h, ag_M_is14 h, ag_M_al14 h, ag_M_ia15 h, ag_M_is15 h, ag_M_al15 h, ag_M_ia16 h, ag_M_is16 h, ag_M_al16 h, ag_kk_v, ag_kk_n, Nat.reduceAdd, ag_b0, ag_b1, true_and, or_true, true_or, Int.reduceEq, ne_eq, not_false_eq_true, not_true_eq_false, ↓reduceIte, ag_nmk_2, ag_nmk_3, ag_nmk_4, ag_nmk_5, ag_nmk_7, ag_nmk_11, ag_nmk_12, ag_nmk_20, ag_nmk_99, ag_nmk_100, ag_nmk_300, ag_nmk_999, ag_nmk_9999, ag_nm_1, ag_nm_z, ag_nm_m, hC, hI, hb2]
    · rw [if_neg q2, if_neg q2, if_neg q2]
      have q2' : ag_car gh np qu b x = 1 := by
        rcases ag_cy_01 (ag_su (fun i => if ag_vo gh b x i = 1 then gh 0 i else 0) np 0) (ag_su (fun i => if ag_vo gh b x i = -1 then gh 0 i else 0) np 0) (ag_su (gh 0) np 0) qu with z | z
        · exact absurd z q2
        · exact z
      rw [q2'] at hI
      obtain ⟨σ', r', u1, u2, u3⟩ := ag_R_passed (σ := σ) (gh := gh) (sg := sg) (th := th) (qu := qu) (mi := mi) (np := np) h hV hr hn ht hb hl q1
      refine ⟨σ', r', u1, u2, fun K => ?_⟩
      simp only [ag_e142, ag_i142_0, ag_i142_1, ag_i142_2, ag_i142_5, ag_i142_8, ag_i142_9, ag_i142_10, ag_i142_11, ag_i142_12, ag_i142_15, ag_i142_16, ag_i142_19, ag_i142_20, ag_i142_21, ag_i142_22, ag_i142_25, ag_i142_28, ag_i142_29, ag_i142_30, ag_i142_33, ag_i142_34, ag_i142_37, ag_i142_38, ag_i142_39, ag_i142_40, ag_i142_41, ag_i142_44, ag_i142_45, ag_mv_0, ag_mv_u0, ag_mv_1, ag_mv_u1, ag_mv_2, ag_mv_u2, ag_mv_3, ag_mv_u3, ag_mv_4, ag_mv_u4, ag_mv_5, ag_mv_u5, ag_mv_6, ag_mv_u6, ag_mv_7, ag_mv_u7, ag_mg_0, ag_mg_u0, ag_mg_1, ag_mg_u1, ag_mg_2, ag_mg_u2, ag_mg_3, ag_mg_u3, ag_mg_4, ag_mg_u4, ag_mg_5, ag_mg_u5, ag_mg_6, ag_mg_u6, ag_mg_7, ag_mg_u7, ag_mg_8, ag_mg_u8, ag_mg_9, ag_mg_u9, ag_mg_10, ag_mg_u10, ag_mg_11, ag_mg_u11, ag_mg_12, ag_mg_u12, ag_mg_13, ag_mg_u13, ag_mg_14, ag_mg_u14, ag_mg_15, ag_mg_u15, ag_mg_16, ag_mg_u16, ag_M_g0, ag_M_g1, ag_M_g2, ag_M_g3, ag_M_g4, ag_M_g5, ag_M_g6, ag_M_g7, ag_M_g8, ag_M_g9, ag_M_g10, ag_M_g11, ag_M_g12, ag_M_g13, ag_M_g14, ag_M_g15, ag_M_g16, ag_M_g17, ag_M_g18, ag_M_g19, ag_M_g20, ag_M_g21, ag_M_g22, ag_M_g23, ag_M_g24, ag_M_ck, ag_SM_2, ag_M_p0 h, ag_M_p1 h, ag_M_p2 h, ag_M_p3 h, ag_M_p16 h, ag_M_p18 h, ag_M_p19 h, ag_M_p24 h, ag_M_ia0 h, ag_M_is0 h, ag_M_al0 h, ag_M_ia1 h, ag_M_is1 h, ag_M_al1 h, ag_M_ia2 h, ag_M_is2 h, ag_M_al2 h, ag_M_ia3 h, ag_M_is3 h, ag_M_al3 h, ag_M_ia4 h, ag_M_is4 h, ag_M_al4 h, ag_M_ia5 h, ag_M_is5 h, ag_M_al5 h, ag_M_ia6 h, ag_M_is6 h, ag_M_al6 h, ag_M_ia7 h, ag_M_is7 h, ag_M_al7 h, ag_M_ia8 h, ag_M_is8 h, ag_M_al8 h, ag_M_ia9 h, ag_M_is9 h, ag_M_al9 h, ag_M_ia10 h, ag_M_is10 h, ag_M_al10 h, ag_M_ia11 h, ag_M_is11 h, ag_M_al11 h, ag_M_ia12 h, ag_M_is12 h, ag_M_al12 h, ag_M_ia13 h, ag_M_is13 h, ag_M_al13 h, ag_M_ia14 h, ag_M_is14 h, ag_M_al14 h, ag_M_ia15 h, ag_M_is15 h, ag_M_al15 h, ag_M_ia16 h, ag_M_is16 h, ag_M_al16 h, ag_kk_v, ag_kk_n, Nat.reduceAdd, ag_b0, ag_b1, true_and, or_true, true_or, Int.reduceEq, ne_eq, not_false_eq_true, not_true_eq_false, ↓reduceIte, ag_nmk_2, ag_nmk_3, ag_nmk_4, ag_nmk_5, ag_nmk_7, ag_nmk_11, ag_nmk_12, ag_nmk_20, ag_nmk_99, ag_nmk_100, ag_nmk_300, ag_nmk_999, ag_nmk_9999, ag_nm_1, ag_nm_z, ag_nm_m, hC, hI, u3]
theorem ag_tpt_nm {S : ag_T} {m x : Int} {M : Nat} (hV : ag_IV S M) {b : Nat} (ht : ∀ j, ag_nm (t j) = t j) : ∀ j, ag_nm (ag_tpt gh np qu x S t nq b j) = ag_tpt gh np qu x S t nq b j := by
  unfold ag_tpt
  split
  · exact ht
  · split
    · exact ht
    · unfold ag_tpf
      split
      · exact ag_tdl_nm ht (ag_nm_rd hV.1.1.2.1 _ _ _) _
      · exact ht
end AGR8
