/-! THE REFERENCE: putAll. -/
/-- slots that at most k puts take -/
def ag_cal (gh : Nat → Nat → Int) (np : Nat) (qu x : Int) (m : Nat) : Nat → ag_T → Nat
  | 0, _ => 0
  | k + 1, S => if ag_nxt S.1 S.2.2.2 m = -1 then 0 else ag_cpt gh np qu x S (ag_nxt S.1 S.2.2.2 m).toNat + ag_cal gh np qu x m k (ag_dec gh np qu x m S (ag_nxt S.1 S.2.2.2 m).toNat)
theorem ag_lc_le (gp : Nat → Nat → Int) (m : Nat) : ag_lc gp m ≤ m := ag_ct_le _ m 0
section AGPA
variable {a : Nat} {ρ : Nat → Nat} {gh : Nat → Nat → Int} {sg : Nat → Int} {th qu mi : Int} {m nq np : Nat}
theorem ag_R_pA_loop {c0 z : Nat} {x : Int} (h : ag_mi a ρ c0) (hz : c0 < z) (hH : ag_sm gh) (hp : np ≤ 5) (hn : nq ≤ 12) (hx : ag_nm x = x) : ∀ (k : Nat) (S : ag_T) (σ : ag_S) (r t fo : Nat → Int) (i : Nat), ag_IV S m → ag_lc S.2.2.2 m ≤ k → i + ag_lc S.2.2.2 m ≤ 20 → (∀ j, j < S.2.2.1 → r j = S.1 6 j) → (∀ j, ag_nm (t j) = t j) → z ≤ σ.2.1 → σ.1 z = some (Sum.inl (20, fo)) →
    ∃ σ' r' t' fo' N, (∀ y, y ≤ c0 → σ'.1 y = σ.1 y) ∧ z ≤ σ'.2.1 ∧ σ.2.1 ≤ σ'.2.1 ∧ σ'.2.1 ≤ σ.2.1 + N ∧ σ'.2.2 ≤ σ.2.2 + ag_cal gh np qu x m k S ∧ N ≤ ag_lc S.2.2.2 m ∧
    (∀ j, j < (ag_dal gh np qu x m k S).2.2.1 → r' j = (ag_dal gh np qu x m k S).1 6 j) ∧ (∀ j, ag_nm (t' j) = t' j) ∧ σ'.1 z = some (Sum.inl (20, fo')) ∧ (∀ j, j < i → fo' j = fo j) ∧
    (∀ j, j < N → fo' (i + j) = ag_nxt (ag_dal gh np qu x m j S).1 (ag_dal gh np qu x m j S).2.2.2 m ∧ fo' (i + j) ≠ -1) ∧ ag_nxt (ag_dal gh np qu x m N S).1 (ag_dal gh np qu x m N S).2.2.2 m = -1 ∧
    ∀ K, ag_wp 160 13 [some (ag_R a), some (ag_I x), some (ag_R z), some (ag_I i), some (ag_I (ag_nxt S.1 S.2.2.2 m))] [] (ag_SM σ a ρ (ag_mg S.1 r S.2.2.2 t sg gh) (ag_mv th S.2.1 S.2.2.1 m nq np qu mi)) K = ag_wp 160 43 [some (ag_R a), some (ag_I x), some (ag_R z), some (ag_I (i + N : Nat)), some (ag_I (-1))] [] (ag_SM σ' a ρ (ag_mg (ag_dal gh np qu x m k S).1 r' (ag_dal gh np qu x m k S).2.2.2 t' sg gh) (ag_mv th (ag_dal gh np qu x m k S).2.1 (ag_dal gh np qu x m k S).2.2.1 m nq np qu mi)) K := by
  intro k
  induction k with
  | zero =>
    intro S σ r t fo i hV hl hi hr ht hzs hc
    have hno : ag_nxt S.1 S.2.2.2 m = -1 := (ag_dal_IV (gh := gh) (np := np) (qu := qu) (x := x) 0 S hV).2 hl
    refine ⟨σ, r, t, fo, 0, fun _ _ => rfl, hzs, Nat.le_refl _, Nat.le_refl _, Nat.le_refl _, Nat.zero_le _, hr, ht, hc, fun _ _ => rfl, fun j hj => by omega, hno, fun K => ?_⟩
    rw [hno, ag_i160_13]
    simp only [ag_i160_15, ag_i160_16, ag_nmk_2, ag_nmk_3, ag_nmk_4, ag_nmk_5, ag_nmk_7, ag_nmk_11, ag_nmk_12, ag_nmk_20, ag_nmk_99, ag_nmk_100, ag_nmk_300, ag_nmk_999, ag_nmk_9999, ag_nm_1, ag_nm_z, ag_nm_m, ag_b0, ag_b1, true_and, or_true, true_or, Int.reduceEq, ne_eq, not_false_eq_true, not_true_eq_false, ↓reduceIte, Nat.add_zero]
    rfl
  | succ k ih =>
    intro S σ r t fo i hV hl hi hr ht hzs hc
    by_cases q : ag_nxt S.1 S.2.2.2 m = -1
    · refine ⟨σ, r, t, fo, 0, fun _ _ => rfl, hzs, Nat.le_refl _, Nat.le_refl _, Nat.le_add_right _ _, Nat.zero_le _, ?_, ht, hc, fun _ _ => rfl, fun j hj => by omega, q, fun K => ?_⟩
      · rw [ag_dal_no S (k + 1) q]
        exact hr
      · rw [ag_dal_no S (k + 1) q, q, ag_i160_13]
        simp only [ag_i160_15, ag_i160_16, ag_nmk_2, ag_nmk_3, ag_nmk_4, ag_nmk_5, ag_nmk_7, ag_nmk_11, ag_nmk_12, ag_nmk_20, ag_nmk_99, ag_nmk_100, ag_nmk_300, ag_nmk_999, ag_nmk_9999, ag_nm_1, ag_nm_z, ag_nm_m, ag_b0, ag_b1, true_and, or_true, true_or, Int.reduceEq, ne_eq, not_false_eq_true, not_true_eq_false, ↓reduceIte, Nat.add_zero]
    · obtain ⟨b, b1, b2, b3⟩ := ag_nxt_is q
      have hm : m ≤ 20 := hV.2.1.1.2.2
      obtain ⟨d1, d2, -⟩ := ag_dec_IV (gh := gh) (np := np) (qu := qu) (x := x) hV b1 b3
      have h' : ag_mi a ρ σ.2.1 := ag_mi_le h (by omega)
      obtain ⟨σ1, r1, u1, u2, u3⟩ := ag_R_put (σ := σ) (a := a) (ρ := ρ) (gb := S.1) (gp := S.2.2.2) (gh := gh) (r := r) (t := t) (sg := sg) (th := th) (qu := qu) (mi := mi) (w := S.2.1) (n := S.2.2.1) (m := m) (nq := nq) (np := np) h' hV hr hH hp hn ht hx b1 b3
      have e0 : ((S.1, (S.2.1, (S.2.2.1, S.2.2.2))) : ag_T) = S := rfl
      rw [e0] at u1 u2 u3
      have ht1 : ∀ j, ag_nm (ag_tpt gh np qu x S t nq b j) = ag_tpt gh np qu x S t nq b j := ag_tpt_nm (m := x) (M := m) hV ht
      have hc1 : σ1.1 z = some (Sum.inl (20, fo)) := (u1.1 z hzs).trans hc
      have ii : ag_inb 20 (i : Int) := ag_inb_nat (by omega) (by decide)
      have wi : ag_wr 20 fo (i : Int) (b : Int) = ag_ui fo i b := ag_wr_nat _ (by decide) (by omega)
      have hzs1 : z ≤ σ1.2.1 := Nat.le_trans hzs u1.2.1
      generalize hσ2 : ((ag_up σ1.1 z (Sum.inl (20, ag_ui fo i b)), σ1.2) : ag_S) = σ2
      have c2 : σ2.2 = σ1.2 := by rw [← hσ2]
      have hc2 : σ2.1 z = some (Sum.inl (20, ag_ui fo i b)) := by rw [← hσ2]; exact if_pos rfl
      have hf2 : ∀ y, y ≤ c0 → σ2.1 y = σ1.1 y := fun y hy => by rw [← hσ2]; exact if_neg (by omega)
      generalize hS1 : ag_dec gh np qu x m S b = S1 at *
      obtain ⟨σ', r', t', fo', N, x1, x2, x22, x3, x4, x5, x6, x7, x8, x9, x10, x11, x12⟩ := ih S1 σ2 r1 (ag_tpt gh np qu x S t nq b) (ag_ui fo i b) (i + 1) d1 (by omega) (by omega) u2 ht1 (by rw [c2]; exact hzs1) hc2
      have edal : ∀ j, ag_dal gh np qu x m (j + 1) S = ag_dal gh np qu x m j S1 := fun j => by
        rw [ag_dal_s, if_neg q, b2, Int.toNat_natCast, hS1]
      have ecal : ag_cal gh np qu x m (k + 1) S = ag_cpt gh np qu x S b + ag_cal gh np qu x m k S1 := by
        rw [ag_cal, if_neg q, b2, Int.toNat_natCast, hS1]
      have u4 := u1.2.2.1
      have u5 := u1.2.2.2
      have u6 := u1.2.1
      refine ⟨σ', r', t', fo', N + 1, fun y hy => ?_, x2, ?_, ?_, ?_, by omega, ?_, x7, x8, fun j hj => ?_, fun j hj => ?_, ?_, fun K => ?_⟩
      · rw [x1 y hy, hf2 y hy, u1.1 y (by omega)]
      · rw [c2] at x22
        omega
      · rw [c2] at x3
        omega
      · rw [c2] at x4
        rw [ecal]
        omega
      · rw [edal k]
        exact x6
      · rw [x9 j (by omega), ag_ui_ne (by omega)]
      · by_cases qj : j = 0
        · subst qj
          rw [Nat.add_zero, x9 i (by omega), ag_ui_eq]
          refine ⟨?_, by omega⟩
          show (b : Int) = ag_nxt S.1 S.2.2.2 m
          rw [b2]
        · obtain ⟨y, rfl⟩ : ∃ y, j = y + 1 := ⟨j - 1, by omega⟩
          have := x10 y (by omega)
          rw [show i + (y + 1) = i + 1 + y by omega, edal y]
          exact this
      · rw [edal N]
        exact x11
      · rw [edal k, show i + (N + 1) = i + 1 + N by omega, ← x12 K]
        have hN := fun K => ag_R_nextNow (σ := σ2) (gb := S1.1) (gp := S1.2.2.2) (gh := gh) (r := r1) (t := ag_tpt gh np qu x S t nq b) (sg := sg) (th := th) (qu := qu) (mi := mi) (w := S1.2.1) (n := S1.2.2.1) (m := m) (nq := nq) (np := np) h d1 u2 K
        have his := ag_B_is (g := ag_mg S1.1 r1 S1.2.2.2 (ag_tpt gh np qu x S t nq b) sg gh) (v := ag_mv th S1.2.1 S1.2.2.1 m nq np qu mi) h hz hc1 (i : Int) (b : Int)
        rw [wi, hσ2] at his
        rw [b2, ag_i160_13]
        simp only [ag_i160_15, ag_i160_16, ag_i160_19, ag_i160_20, ag_i160_22, ag_i160_23, ag_i160_26, ag_i160_27, ag_i160_28_n, ag_i160_28_i, ag_i160_28_r, ag_i160_31, ag_i160_33, ag_i160_34, ag_i160_35, ag_i160_38_n, ag_i160_38_i, ag_i160_38_r, ag_i160_40, ag_mv_0, ag_mv_u0, ag_mv_1, ag_mv_u1, ag_mv_2, ag_mv_u2, ag_mv_3, ag_mv_u3, ag_mv_4, ag_mv_u4, ag_mv_5, ag_mv_u5, ag_mv_6, ag_mv_u6, ag_mv_7, ag_mv_u7, ag_mg_0, ag_mg_u0, ag_mg_1, ag_mg_u1, ag_mg_2, ag_mg_u2, ag_mg_3, ag_mg_u3, ag_mg_4, ag_mg_u4, ag_mg_5, ag_mg_u5, ag_mg_6, ag_mg_u6, ag_mg_7, ag_mg_u7, ag_mg_8, ag_mg_u8, ag_mg_9, ag_mg_u9, ag_mg_10, ag_mg_u10, ag_mg_11, ag_mg_u11, ag_mg_12, ag_mg_u12, ag_mg_13, ag_mg_u13, ag_mg_14, ag_mg_u14, ag_mg_15, ag_mg_u15, ag_mg_16, ag_mg_u16, ag_M_g0, ag_M_g1, ag_M_g2, ag_M_g3, ag_M_g4, ag_M_g5, ag_M_g6, ag_M_g7, ag_M_g8, ag_M_g9, ag_M_g10, ag_M_g11, ag_M_g12, ag_M_g13, ag_M_g14, ag_M_g15, ag_M_g16, ag_M_g17, ag_M_g18, ag_M_g19, ag_M_g20, ag_M_g21, ag_M_g22, ag_M_g23, ag_M_g24, ag_M_ck, ag_SM_2, ag_M_p0 h, ag_M_p1 h, ag_M_p2 h, ag_M_p3 h, ag_M_p16 h, ag_M_p18 h, ag_M_p19 h, ag_M_p24 h, ag_M_ia0 h, ag_M_is0 h, ag_M_al0 h, ag_M_ia1 h, ag_M_is1 h, ag_M_al1 h, ag_M_ia2 h, ag_M_is2 h, ag_M_al2 h, ag_M_ia3 h, ag_M_is3 h, ag_M_al3 h, ag_M_ia4 h, ag_M_is4 h, ag_M_al4 h, ag_M_ia5 h, ag_M_is5 h, ag_M_al5 h, ag_M_ia6 h, ag_M_is6 h, ag_M_al6 h, ag_M_ia7 h, ag_M_is7 h, ag_M_al7 h, ag_M_ia8 h, ag_M_is8 h, ag_M_al8 h, ag_M_ia9 h, ag_M_is9 h, ag_M_al9 h, ag_M_ia10 h, ag_M_is10 h, ag_M_al10 h, ag_M_ia11 h, ag_M_is11 h, ag_M_al11 h, ag_M_ia12 h, ag_M_is12 h, ag_M_al12 h, ag_M_ia13 h, ag_M_is13 h, ag_M_al13 h, ag_M_ia14 h, ag_M_is14 h, ag_M_al14 h, ag_M_ia15 h, ag_M_is15 h, ag_M_al15 h, ag_M_ia16 h, ag_M_is16 h, ag_M_al16 h, ag_kk_v, ag_kk_n, Nat.reduceAdd, ag_b0, ag_b1, true_and, or_true, true_or, Int.reduceEq, ne_eq, not_false_eq_true, not_true_eq_false, ↓reduceIte, ag_nmk_2, ag_nmk_3, ag_nmk_4, ag_nmk_5, ag_nmk_7, ag_nmk_11, ag_nmk_12, ag_nmk_20, ag_nmk_99, ag_nmk_100, ag_nmk_300, ag_nmk_999, ag_nmk_9999, ag_nm_1, ag_nm_z, ag_nm_m, ag_nm_nat (show b ≤ 1000000 by omega), show ¬ (b : Int) = -1 by omega, u3, his, ii, hN]
        rfl
theorem ag_R_putAll {σ : ag_S} {S : ag_T} {r t : Nat → Int} {x : Int} (h : ag_mi a ρ σ.2.1) (hV : ag_IV S m) (hr : ∀ i, i < S.2.2.1 → r i = S.1 6 i) (hH : ag_sm gh) (hp : np ≤ 5) (hn : nq ≤ 12) (ht : ∀ j, ag_nm (t j) = t j) (hx : ag_nm x = x) :
    ∃ σ' r' t' z f N, ag_fr σ σ' 22 (20 + ag_cal gh np qu x m 20 S + m) ∧ (∀ j, j < (ag_dal gh np qu x m 20 S).2.2.1 → r' j = (ag_dal gh np qu x m 20 S).1 6 j) ∧ (∀ j, ag_nm (t' j) = t' j) ∧ σ.2.1 < z ∧ z ≤ σ'.2.1 ∧ σ'.1 z = some (Sum.inl (N, f)) ∧ N ≤ 20 ∧
    (∀ j, j < N → f j = ag_nxt (ag_dal gh np qu x m j S).1 (ag_dal gh np qu x m j S).2.2.2 m ∧ f j ≠ -1) ∧ ag_nxt (ag_dal gh np qu x m N S).1 (ag_dal gh np qu x m N S).2.2.2 m = -1 ∧
    ∀ K, ag_cl9 160 [ag_R a, ag_I x] (ag_SM σ a ρ (ag_mg S.1 r S.2.2.2 t sg gh) (ag_mv th S.2.1 S.2.2.1 m nq np qu mi)) K = K (Sum.inl (some (ag_R z))) (ag_SM σ' a ρ (ag_mg (ag_dal gh np qu x m 20 S).1 r' (ag_dal gh np qu x m 20 S).2.2.2 t' sg gh) (ag_mv th (ag_dal gh np qu x m 20 S).2.1 (ag_dal gh np qu x m 20 S).2.2.1 m nq np qu mi)) := by
  have hm : m ≤ 20 := hV.2.1.1.2.2
  have hlm := ag_lc_le S.2.2.2 m
  have n20 : ag_nm 20 = 20 := ag_nmk_20
  generalize hσ1 : ((ag_up σ.1 (σ.2.1 + 1) (Sum.inl (20, fun _ => 0)), (σ.2.1 + 1, σ.2.2 + 20)) : ag_S) = σ1
  have c1 : σ1.1 (σ.2.1 + 1) = some (Sum.inl (20, fun _ => 0)) := by rw [← hσ1]; exact if_pos rfl
  have k1 : σ1.2 = (σ.2.1 + 1, σ.2.2 + 20) := by rw [← hσ1]
  have o1 : ∀ y, y ≤ σ.2.1 → σ1.1 y = σ.1 y := fun y hy => by rw [← hσ1]; exact if_neg (by omega)
  have kk : σ1.2.1 = σ.2.1 + 1 := by rw [k1]
  have kk2 : σ1.2.2 = σ.2.2 + 20 := by rw [k1]
  obtain ⟨σ2, r', t', fo', N, x1, x2, x22, x3, x4, x5, x6, x7, x8, x9, x10, x11, x12⟩ := ag_R_pA_loop (gh := gh) (sg := sg) (th := th) (qu := qu) (mi := mi) (m := m) (nq := nq) (np := np) (c0 := σ.2.1) (z := σ.2.1 + 1) (x := x) h (Nat.lt_succ_self _) hH hp hn hx 20 S σ1 r t (fun _ => 0) 0 hV (by omega) (by omega) hr ht (by rw [kk]; exact Nat.le_refl _) c1
  have hN : ag_nm (N : Int) = N := ag_nm_nat (by omega)
  generalize hσ3 : ((ag_up σ2.1 (σ2.2.1 + 1) (Sum.inl (N, va_cpy fo' (fun _ => 0) 0 0 N)), (σ2.2.1 + 1, σ2.2.2 + N)) : ag_S) = σ3
  have c3 : σ3.1 (σ2.2.1 + 1) = some (Sum.inl (N, va_cpy fo' (fun _ => 0) 0 0 N)) := by rw [← hσ3]; exact if_pos rfl
  have k3 : σ3.2 = (σ2.2.1 + 1, σ2.2.2 + N) := by rw [← hσ3]
  have k31 : σ3.2.1 = σ2.2.1 + 1 := by rw [k3]
  have k32 : σ3.2.2 = σ2.2.2 + N := by rw [k3]
  refine ⟨σ3, r', t', σ2.2.1 + 1, va_cpy fo' (fun _ => 0) 0 0 N, N, ⟨fun y hy => ?_, by omega, by omega, by omega⟩, x6, x7, by omega, by omega, c3, by omega, fun j hj => ?_, x11, fun K => ?_⟩
  · rw [← hσ3]
    show (if y = σ2.2.1 + 1 then _ else σ2.1 y) = σ.1 y
    rw [if_neg (by omega), x1 y hy, o1 y hy]
  · have := x10 j hj
    rw [Nat.zero_add] at this
    have e : va_cpy fo' (fun _ => (0 : Int)) 0 0 N j = fo' j := by
      unfold va_cpy
      rw [if_pos (by omega)]
      congr 1
      omega
    rw [e]
    exact this
  · have hNx := fun K => ag_R_nextNow (σ := σ1) (gb := S.1) (gp := S.2.2.2) (gh := gh) (r := r) (t := t) (sg := sg) (th := th) (qu := qu) (mi := mi) (w := S.2.1) (n := S.2.2.1) (m := m) (nq := nq) (np := np) h hV hr K
    simp only [ag_i160_0, ag_e160]
    rw [ag_i160_2, n20, show (20 : Int).toNat = 20 from rfl, ag_SM_2, ag_SM_new h _ _ (Nat.lt_succ_self _), hσ1]
    refine Eq.trans (propext ⟨fun z => z.2, fun z => ⟨by decide, z⟩⟩ : _ = ag_wp 160 4 [some (ag_R a), some (ag_I x), none, none, none] [ag_R (σ.2.1 + 1)] (ag_SM σ1 a ρ (ag_mg S.1 r S.2.2.2 t sg gh) (ag_mv th S.2.1 S.2.2.1 m nq np qu mi)) K) ?_
    simp only [ag_i160_4_n, ag_i160_4_i, ag_i160_4_r, ag_i160_5, ag_i160_6_n, ag_i160_6_i, ag_i160_6_r, ag_i160_7, ag_i160_8, ag_i160_11_n, ag_i160_11_i, ag_i160_11_r, ag_mv_0, ag_mv_u0, ag_mv_1, ag_mv_u1, ag_mv_2, ag_mv_u2, ag_mv_3, ag_mv_u3, ag_mv_4, ag_mv_u4, ag_mv_5, ag_mv_u5, ag_mv_6, ag_mv_u6, ag_mv_7, ag_mv_u7, ag_mg_0, ag_mg_u0, ag_mg_1, ag_mg_u1, ag_mg_2, ag_mg_u2, ag_mg_3, ag_mg_u3, ag_mg_4, ag_mg_u4, ag_mg_5, ag_mg_u5, ag_mg_6, ag_mg_u6, ag_mg_7, ag_mg_u7, ag_mg_8, ag_mg_u8, ag_mg_9, ag_mg_u9, ag_mg_10, ag_mg_u10, ag_mg_11, ag_mg_u11, ag_mg_12, ag_mg_u12, ag_mg_13, ag_mg_u13, ag_mg_14, ag_mg_u14, ag_mg_15, ag_mg_u15, ag_mg_16, ag_mg_u16, ag_M_g0, ag_M_g1, ag_M_g2, ag_M_g3, ag_M_g4, ag_M_g5, ag_M_g6, ag_M_g7, ag_M_g8, ag_M_g9, ag_M_g10, ag_M_g11, ag_M_g12, ag_M_g13, ag_M_g14, ag_M_g15, ag_M_g16, ag_M_g17, ag_M_g18, ag_M_g19, ag_M_g20, ag_M_g21, ag_M_g22, ag_M_g23, ag_M_g24, ag_M_ck, ag_SM_2, ag_M_p0 h, ag_M_p1 h, ag_M_p2 h, ag_M_p3 h, ag_M_p16 h, ag_M_p18 h, ag_M_p19 h, ag_M_p24 h, ag_M_ia0 h, ag_M_is0 h, ag_M_al0 h, ag_M_ia1 h, ag_M_is1 h, ag_M_al1 h, ag_M_ia2 h, ag_M_is2 h, ag_M_al2 h, ag_M_ia3 h, ag_M_is3 h, ag_M_al3 h, ag_M_ia4 h, ag_M_is4 h, ag_M_al4 h, ag_M_ia5 h, ag_M_is5 h, ag_M_al5 h, ag_M_ia6 h, ag_M_is6 h, ag_M_al6 h, ag_M_ia7 h, ag_M_is7 h, ag_M_al7 h, ag_M_ia8 h, ag_M_is8 h, ag_M_al8 h, ag_M_ia9 h, ag_M_is9 h, ag_M_al9 h, ag_M_ia10 h, ag_M_is10 h, ag_M_al10 h, ag_M_ia11 h, ag_M_is11 h, ag_M_al11 h, ag_M_ia12 h, ag_M_is12 h, ag_M_al12 h, ag_M_ia13 h, ag_M_is13 h, ag_M_al13 h, ag_M_ia14 h, ag_M_is14 h, ag_M_al14 h, ag_M_ia15 h, ag_M_is15 h, ag_M_al15 h, ag_M_ia16 h, ag_M_is16 h, ag_M_al16 h, ag_kk_v, ag_kk_n, Nat.reduceAdd, ag_b0, ag_b1, true_and, or_true, true_or, Int.reduceEq, ne_eq, not_false_eq_true, not_true_eq_false, ↓reduceIte, hNx]
    refine Eq.trans (x12 K) ?_
    rw [Nat.zero_add]
    generalize hT : ag_dal gh np qu x m 20 S = T at *
    have hz2 : σ.2.1 < σ2.2.1 + 1 := by omega
    simp only [ag_i160_43]
    rw [ag_i160_44, hN, Int.toNat_natCast, ag_SM_2, ag_SM_new h _ _ hz2]
    refine Eq.trans (propext ⟨fun z => z.2, fun z => ⟨by omega, z⟩⟩ : _ = ag_wp 160 46 [some (ag_R a), some (ag_I x), some (ag_R (σ.2.1 + 1)), some (ag_I N), some (ag_I (-1))] [ag_R (σ2.2.1 + 1)] (ag_SM ((ag_up σ2.1 (σ2.2.1 + 1) (Sum.inl (N, fun _ => 0)), (σ2.2.1 + 1, σ2.2.2 + N)) : ag_S) a ρ (ag_mg T.1 r' T.2.2.2 t' sg gh) (ag_mv th T.2.1 T.2.2.1 m nq np qu mi)) K) ?_
    simp only [ag_i160_46_n, ag_i160_46_i, ag_i160_46_r, ag_i160_48, ag_i160_49, ag_i160_50, ag_i160_52, ag_i160_53]
    have y1 : ((ag_up σ2.1 (σ2.2.1 + 1) (Sum.inl (N, fun _ => 0)), (σ2.2.1 + 1, σ2.2.2 + N)) : ag_S).1 (σ.2.1 + 1) = some (Sum.inl (20, fo')) := (if_neg (by omega)).trans x8
    have y2 : ((ag_up σ2.1 (σ2.2.1 + 1) (Sum.inl (N, fun _ => 0)), (σ2.2.1 + 1, σ2.2.2 + N)) : ag_S).1 (σ2.2.1 + 1) = some (Sum.inl (N, fun _ => 0)) := if_pos rfl
    rw [ag_i160_54, ag_cp_at ((ag_SM_f h _ _ (Nat.lt_succ_self _)).trans y1) ((ag_SM_f h _ _ hz2).trans y2) (sp := 0) (dp := 0) (n := N) ag_nm_z ag_nm_z hN (by omega) (by omega) (by omega) (by omega), ag_SM_2, ag_SM_new h _ _ hz2]
    simp only [ag_i160_57, ag_i160_59, ag_up_2, hσ3]
end AGPA
