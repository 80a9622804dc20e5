/-! THE REFERENCE: settling (become), the next one, votes. -/
theorem ag_ct_add {p q r : Nat → Bool} : ∀ (k i : Nat), (∀ j, i ≤ j → j < i + k → p j = (q j || r j) ∧ (q j && r j) = false) → ag_ct p k i = ag_ct q k i + ag_ct r k i := by
  intro k
  induction k with
  | zero => intro i _; rfl
  | succ k ih =>
    intro i h
    obtain ⟨h1, h2⟩ := h i (Nat.le_refl _) (by omega)
    rw [ag_ct, ag_ct, ag_ct, ih (i + 1) (fun j a b => h j (by omega) (by omega)), h1]
    cases hq : q i <;> cases hr : r i <;> simp [hq, hr] at h2 ⊢ <;> omega
theorem ag_ct_one (b : Nat) : ∀ (k i : Nat), ag_ct (fun j => decide (j = b)) k i = if i ≤ b ∧ b < i + k then 1 else 0 := by
  intro k
  induction k with
  | zero => intro i; rw [if_neg (by omega)]; rfl
  | succ k ih =>
    intro i
    rw [ag_ct, ih (i + 1)]
    by_cases q : i = b
    · rw [if_pos (by simpa using q), if_neg (by omega), if_pos (by omega)]
    · rw [if_neg (by simpa using q)]
      by_cases q2 : i + 1 ≤ b ∧ b < i + 1 + k
      · rw [if_pos q2, if_pos (by omega)]
      · rw [if_neg q2, if_neg (by omega)]
/-- how many are to change b, of those laid by q -/
def ag_cch (gp : Nat → Nat → Int) (q : Nat → Int) (b : Int) (k i : Nat) : Nat := ag_ct (fun j => decide (q j = 0 ∧ gp 0 j = 5 ∧ gp 1 j = b)) k i
/-- the moot ones, once b is settled -/
theorem ag_cnt_set {gp : Nat → Nat → Int} {b m : Nat} {s y : Int} (hm : m ≤ 20) (hb : b < m) (h3 : gp 3 b ≠ 3) : ag_cnt (ag_set gp b s y m) m 3 = ag_cnt gp m 3 + ((if s = 3 then 1 else 0) + ag_cch gp (ag_ui (gp 3) b s) b m 0) := by
  unfold ag_cnt ag_cch
  have e1 : ag_ct (fun i => decide (ag_set gp b s y m 3 i = 3)) m 0 = ag_ct (fun j => decide (ag_ui (gp 3) b s j = 3)) m 0 + ag_ct (fun j => decide (ag_ui (gp 3) b s j = 0 ∧ gp 0 j = 5 ∧ gp 1 j = b)) m 0 := by
    refine ag_ct_add m 0 (fun j _ hj => ?_)
    rw [ag_set_3 (by omega)]
    by_cases c1 : ag_ui (gp 3) b s j = 0 ∧ gp 0 j = 5 ∧ gp 1 j = b
    · rw [if_pos ⟨by omega, c1⟩]
      have c2 : ¬ ag_ui (gp 3) b s j = 3 := by omega
      simp [c1, c2]
    · rw [if_neg (fun z => c1 z.2)]
      simp [c1]
  have e2 : ag_ct (fun j => decide (ag_ui (gp 3) b s j = 3)) m 0 = ag_ct (fun i => decide (gp 3 i = 3)) m 0 + (if s = 3 then 1 else 0) := by
    by_cases q : s = 3
    · rw [if_pos q]
      have := ag_ct_one b m 0
      rw [if_pos (by omega)] at this
      rw [← this]
      refine ag_ct_add m 0 (fun j _ hj => ?_)
      by_cases c : j = b
      · subst c
        rw [ag_ui_eq]
        simp [q, h3]
      · rw [ag_ui_ne c]
        simp [c]
    · rw [if_neg q, Nat.add_zero]
      refine ag_ct_congr m 0 (fun j _ hj => ?_)
      by_cases c : j = b
      · subst c
        rw [ag_ui_eq]
        simp [q, h3]
      · rw [ag_ui_ne c]
  rw [e1, e2]
  omega
section AGR3
variable {σ : ag_S} {a N : Nat} {ρ : Nat → Nat} {gb gp gh : Nat → Nat → Int} {r t sg : Nat → Int} {th qu mi : Int} {w n m nq np : Nat}
theorem ag_R_bec1_loop (h : ag_mi a ρ N) (hm : m ≤ 20) (hs : ag_sm gp) {b : Nat} (hb : b < 20) (hno : ∀ j : Nat, j < m → gp 0 j = 5 → gp 1 j ≠ b) (x y : Option ag_V) (s : Int) (K : ag_Rs → ag_S → Prop) : ∀ (k i : Nat), i + k = m →
    ag_wp 128 29 [some (ag_R a), some (ag_I b), x, y, some (ag_I s), some (ag_I i)] [] (ag_SM σ a ρ (ag_mg gb r gp t sg gh) (ag_mv th w n m nq np qu mi)) K = K (Sum.inl (some (ag_I s))) (ag_SM σ a ρ (ag_mg gb r gp t sg gh) (ag_mv th w n m nq np qu mi)) := by
  intro k
  induction k with
  | zero =>
    intro i hi
    rw [ag_i128_29]
    simp only [ag_i128_31, ag_i128_32, ag_i128_35, ag_i128_88, ag_i128_90, ag_mv_0, ag_mv_u0, ag_mv_1, ag_mv_u1, ag_mv_2, ag_mv_u2, ag_mv_3, ag_mv_u3, ag_mv_4, ag_mv_u4, ag_mv_5, ag_mv_u5, ag_mv_6, ag_mv_u6, ag_mv_7, ag_mv_u7, ag_mg_0, ag_mg_u0, ag_mg_1, ag_mg_u1, ag_mg_2, ag_mg_u2, ag_mg_3, ag_mg_u3, ag_mg_4, ag_mg_u4, ag_mg_5, ag_mg_u5, ag_mg_6, ag_mg_u6, ag_mg_7, ag_mg_u7, ag_mg_8, ag_mg_u8, ag_mg_9, ag_mg_u9, ag_mg_10, ag_mg_u10, ag_mg_11, ag_mg_u11, ag_mg_12, ag_mg_u12, ag_mg_13, ag_mg_u13, ag_mg_14, ag_mg_u14, ag_mg_15, ag_mg_u15, ag_mg_16, ag_mg_u16, ag_M_g0, ag_M_g1, ag_M_g2, ag_M_g3, ag_M_g4, ag_M_g5, ag_M_g6, ag_M_g7, ag_M_g8, ag_M_g9, ag_M_g10, ag_M_g11, ag_M_g12, ag_M_g13, ag_M_g14, ag_M_g15, ag_M_g16, ag_M_g17, ag_M_g18, ag_M_g19, ag_M_g20, ag_M_g21, ag_M_g22, ag_M_g23, ag_M_g24, ag_M_ck, ag_SM_2, ag_M_p0 h, ag_M_p1 h, ag_M_p2 h, ag_M_p3 h, ag_M_p16 h, ag_M_p18 h, ag_M_p19 h, ag_M_p24 h, ag_M_ia0 h, ag_M_is0 h, ag_M_al0 h, ag_M_ia1 h, ag_M_is1 h, ag_M_al1 h, ag_M_ia2 h, ag_M_is2 h, ag_M_al2 h, ag_M_ia3 h, ag_M_is3 h, ag_M_al3 h, ag_M_ia4 h, ag_M_is4 h, ag_M_al4 h, ag_M_ia5 h, ag_M_is5 h, ag_M_al5 h, ag_M_ia6 h, ag_M_is6 h, ag_M_al6 h, ag_M_ia7 h, ag_M_is7 h, ag_M_al7 h, ag_M_ia8 h, ag_M_is8 h, ag_M_al8 h, ag_M_ia9 h, ag_M_is9 h, ag_M_al9 h, ag_M_ia10 h, ag_M_is10 h, ag_M_al10 h, ag_M_ia11 h, ag_M_is11 h, ag_M_al11 h, ag_M_ia12 h, ag_M_is12 h, ag_M_al12 h, ag_M_ia13 h, ag_M_is13 h, ag_M_al13 h, ag_M_ia14 h, ag_M_is14 h, ag_M_al14 h, ag_M_ia15 h, ag_M_is15 h, ag_M_al15 h, ag_M_ia16 h, ag_M_is16 h, ag_M_al16 h, ag_kk_v, ag_kk_n, Nat.reduceAdd, ag_b0, ag_b1, true_and, or_true, true_or, Int.reduceEq, ne_eq, not_false_eq_true, not_true_eq_false, ↓reduceIte, ag_nm_nat (show i ≤ 1000000 by omega), ag_nm_nat (show m ≤ 1000000 by omega)]
    rw [if_pos (show (m : Int) ≤ i by omega)]
  | succ k ih =>
    intro i hi
    have ib : ag_inb 20 (i : Int) := ag_inb_nat (by omega) (by decide)
    have hL := fun K => ag_R_isLaid (σ := σ) (gb := gb) (gh := gh) (r := r) (t := t) (sg := sg) (th := th) (qu := qu) (mi := mi) (w := w) (n := n) (m := m) (nq := nq) (np := np) h (show i < 20 by omega) hs K
    rw [ag_i128_29]
    simp only [ag_i128_31, ag_i128_32, ag_i128_35, ag_i128_38, ag_i128_39, ag_i128_41, ag_i128_44, ag_i128_47, ag_i128_48, ag_i128_51, ag_i128_53, ag_i128_54, ag_i128_55, ag_i128_58, ag_i128_59, ag_i128_62, ag_i128_64, ag_i128_65, ag_i128_66, ag_i128_82_n, ag_i128_82_i, ag_i128_82_r, ag_i128_85, ag_mv_0, ag_mv_u0, ag_mv_1, ag_mv_u1, ag_mv_2, ag_mv_u2, ag_mv_3, ag_mv_u3, ag_mv_4, ag_mv_u4, ag_mv_5, ag_mv_u5, ag_mv_6, ag_mv_u6, ag_mv_7, ag_mv_u7, ag_mg_0, ag_mg_u0, ag_mg_1, ag_mg_u1, ag_mg_2, ag_mg_u2, ag_mg_3, ag_mg_u3, ag_mg_4, ag_mg_u4, ag_mg_5, ag_mg_u5, ag_mg_6, ag_mg_u6, ag_mg_7, ag_mg_u7, ag_mg_8, ag_mg_u8, ag_mg_9, ag_mg_u9, ag_mg_10, ag_mg_u10, ag_mg_11, ag_mg_u11, ag_mg_12, ag_mg_u12, ag_mg_13, ag_mg_u13, ag_mg_14, ag_mg_u14, ag_mg_15, ag_mg_u15, ag_mg_16, ag_mg_u16, ag_M_g0, ag_M_g1, ag_M_g2, ag_M_g3, ag_M_g4, ag_M_g5, ag_M_g6, ag_M_g7, ag_M_g8, ag_M_g9, ag_M_g10, ag_M_g11, ag_M_g12, ag_M_g13, ag_M_g14, ag_M_g15, ag_M_g16, ag_M_g17, ag_M_g18, ag_M_g19, ag_M_g20, ag_M_g21, ag_M_g22, ag_M_g23, ag_M_g24, ag_M_ck, ag_SM_2, ag_M_p0 h, ag_M_p1 h, ag_M_p2 h, ag_M_p3 h, ag_M_p16 h, ag_M_p18 h, ag_M_p19 h, ag_M_p24 h, ag_M_ia0 h, ag_M_is0 h, ag_M_al0 h, ag_M_ia1 h, ag_M_is1 h, ag_M_al1 h, ag_M_ia2 h, ag_M_is2 h, ag_M_al2 h, ag_M_ia3 h, ag_M_is3 h, ag_M_al3 h, ag_M_ia4 h, ag_M_is4 h, ag_M_al4 h, ag_M_ia5 h, ag_M_is5 h, ag_M_al5 h, ag_M_ia6 h, ag_M_is6 h, ag_M_al6 h, ag_M_ia7 h, ag_M_is7 h, ag_M_al7 h, ag_M_ia8 h, ag_M_is8 h, ag_M_al8 h, ag_M_ia9 h, ag_M_is9 h, ag_M_al9 h, ag_M_ia10 h, ag_M_is10 h, ag_M_al10 h, ag_M_ia11 h, ag_M_is11 h, ag_M_al11 h, ag_M_ia12 h, ag_M_is12 h, ag_M_al12 h, ag_M_ia13 h, ag_M_is13 h, ag_M_al13 h, ag_M_ia14 h, ag_M_is14 h, ag_M_al14 h, ag_M_ia15 h, ag_M_is15 h, ag_M_al15 h, ag_M_ia16 h, ag_M_is16 h, ag_M_al16 h, ag_kk_v, ag_kk_n, Nat.reduceAdd, ag_b0, ag_b1, true_and, or_true, true_or, Int.reduceEq, ne_eq, not_false_eq_true, not_true_eq_false, ↓reduceIte, ag_nmk_2, ag_nmk_3, ag_nmk_4, ag_nmk_5, ag_nmk_7, ag_nmk_11, ag_nmk_12, ag_nmk_20, ag_nmk_99, ag_nmk_100, ag_nmk_300, ag_nmk_999, ag_nmk_9999, ag_nm_1, ag_nm_z, ag_nm_m, ag_nm_nat (show i ≤ 1000000 by omega), ag_nm_nat (show m ≤ 1000000 by omega), ag_nm_nat (show b ≤ 1000000 by omega), hL, ib, ag_rd_nat (show 20 ≤ 1000000 by decide) (show i < 20 by omega), ag_nm_g hs]
    rw [if_neg (show ¬ (m : Int) ≤ i by omega)]
    have h2 := ih (i + 1) (by omega)
    by_cases c1 : gp 3 i = 0
    · by_cases c2 : gp 0 i = 5
      · have c3 := hno i (by omega) c2
        simp only [ag_if_t c1, ag_nm_1, ag_b0, ag_b1, true_and, or_true, true_or, Int.reduceEq, ne_eq, not_false_eq_true, not_true_eq_false, ↓reduceIte, c2, c3]
        exact h2
      · simp only [ag_if_t c1, ag_nm_1, ag_b0, ag_b1, true_and, or_true, true_or, Int.reduceEq, ne_eq, not_false_eq_true, not_true_eq_false, ↓reduceIte, c2]
        exact h2
    · simp only [ag_if_f c1, ag_nm_z, ag_b0, ag_b1, true_and, or_true, true_or, Int.reduceEq, ne_eq, not_false_eq_true, not_true_eq_false, ↓reduceIte]
      exact h2
theorem ag_R_bec1 (h : ag_mi a ρ N) (hm : m ≤ 20) (hs : ag_sm gp) {b : Nat} (hb : b < 20) (hno : ∀ j : Nat, j < m → gp 0 j = 5 → gp 1 j ≠ b) {y : Int} (hy1 : -100000 ≤ y) (hy2 : y ≤ 100000) (K : ag_Rs → ag_S → Prop) :
    ag_cl9 128 [ag_R a, ag_I b, ag_I 3, ag_I y] (ag_SM σ a ρ (ag_mg gb r gp t sg gh) (ag_mv th w n m nq np qu mi)) K = K (Sum.inl (some (ag_I 1))) (ag_SM σ a ρ (ag_mg gb r (ag_ug (ag_ug gp 3 (ag_ui (gp 3) b 3)) 4 (ag_ui (gp 4) b y)) t sg gh) (ag_mv th w n m nq np qu mi)) := by
  have ib : ag_inb 20 (b : Int) := ag_inb_nat hb (by decide)
  have hs' : ag_sm (ag_ug (ag_ug gp 3 (ag_ui (gp 3) b 3)) 4 (ag_ui (gp 4) b y)) := by
    intro k j
    rw [ag_ug_at, ag_ug_at]
    split
    · exact ag_ui_sm (hs 4) hy1 hy2 j
    · split
      · exact ag_ui_sm (hs 3) (by omega) (by omega) j
      · exact hs k j
  have hl := ag_R_bec1_loop (σ := σ) (gb := gb) (gp := ag_ug (ag_ug gp 3 (ag_ui (gp 3) b 3)) 4 (ag_ui (gp 4) b y)) (gh := gh) (r := r) (t := t) (sg := sg) (th := th) (qu := qu) (mi := mi) (w := w) (n := n) (m := m) (nq := nq) (np := np) h hm hs' hb (fun j hj => by rw [ag_ug_ne _ _ (by decide), ag_ug_ne _ _ (by decide), ag_ug_ne _ _ (by decide), ag_ug_ne _ _ (by decide)]; exact hno j hj) (some (ag_I 3)) (some (ag_I y)) 1 K m 0 (by omega)
  simp only [ag_i128_0, ag_i128_1, ag_i128_4, ag_i128_5, ag_i128_6, ag_i128_7, ag_i128_8, ag_i128_11, ag_i128_12, ag_i128_13, ag_i128_14, ag_i128_15, ag_i128_16, ag_i128_19, ag_i128_20, ag_i128_23, ag_i128_24_n, ag_i128_24_i, ag_i128_24_r, ag_i128_26, ag_i128_27_n, ag_i128_27_i, ag_i128_27_r, ag_e128, ag_mv_0, ag_mv_u0, ag_mv_1, ag_mv_u1, ag_mv_2, ag_mv_u2, ag_mv_3, ag_mv_u3, ag_mv_4, ag_mv_u4, ag_mv_5, ag_mv_u5, ag_mv_6, ag_mv_u6, ag_mv_7, ag_mv_u7, ag_mg_0, ag_mg_u0, ag_mg_1, ag_mg_u1, ag_mg_2, ag_mg_u2, ag_mg_3, ag_mg_u3, ag_mg_4, ag_mg_u4, ag_mg_5, ag_mg_u5, ag_mg_6, ag_mg_u6, ag_mg_7, ag_mg_u7, ag_mg_8, ag_mg_u8, ag_mg_9, ag_mg_u9, ag_mg_10, ag_mg_u10, ag_mg_11, ag_mg_u11, ag_mg_12, ag_mg_u12, ag_mg_13, ag_mg_u13, ag_mg_14, ag_mg_u14, ag_mg_15, ag_mg_u15, ag_mg_16, ag_mg_u16, ag_M_g0, ag_M_g1, ag_M_g2, ag_M_g3, ag_M_g4, ag_M_g5, ag_M_g6, ag_M_g7, ag_M_g8, ag_M_g9, ag_M_g10, ag_M_g11, ag_M_g12, ag_M_g13, ag_M_g14, ag_M_g15, ag_M_g16, ag_M_g17, ag_M_g18, ag_M_g19, ag_M_g20, ag_M_g21, ag_M_g22, ag_M_g23, ag_M_g24, ag_M_ck, ag_SM_2, ag_M_p0 h, ag_M_p1 h, ag_M_p2 h, ag_M_p3 h, ag_M_p16 h, ag_M_p18 h, ag_M_p19 h, ag_M_p24 h, ag_M_ia0 h, ag_M_is0 h, ag_M_al0 h, ag_M_ia1 h, ag_M_is1 h, ag_M_al1 h, ag_M_ia2 h, ag_M_is2 h, ag_M_al2 h, ag_M_ia3 h, ag_M_is3 h, ag_M_al3 h, ag_M_ia4 h, ag_M_is4 h, ag_M_al4 h, ag_M_ia5 h, ag_M_is5 h, ag_M_al5 h, ag_M_ia6 h, ag_M_is6 h, ag_M_al6 h, ag_M_ia7 h, ag_M_is7 h, ag_M_al7 h, ag_M_ia8 h, ag_M_is8 h, ag_M_al8 h, ag_M_ia9 h, ag_M_is9 h, ag_M_al9 h, ag_M_ia10 h, ag_M_is10 h, ag_M_al10 h, ag_M_ia11 h, ag_M_is11 h, ag_M_al11 h, ag_M_ia12 h, ag_M_is12 h, ag_M_al12 h, ag_M_ia13 h, ag_M_is13 h, ag_M_al13 h, ag_M_ia14 h, ag_M_is14 h, ag_M_al14 h, ag_M_ia15 h, ag_M_is15 h, ag_M_al15 h, ag_M_ia16 h, ag_M_is16 h, ag_M_al16 h, ag_kk_v, ag_kk_n, Nat.reduceAdd, ag_b0, ag_b1, true_and, or_true, true_or, Int.reduceEq, ne_eq, not_false_eq_true, not_true_eq_false, ↓reduceIte, ag_nmk_2, ag_nmk_3, ag_nmk_4, ag_nmk_5, ag_nmk_7, ag_nmk_11, ag_nmk_12, ag_nmk_20, ag_nmk_99, ag_nmk_100, ag_nmk_300, ag_nmk_999, ag_nmk_9999, ag_nm_1, ag_nm_z, ag_nm_m, ib, ag_wr_nat _ (show 20 ≤ 1000000 by decide) hb, ag_ug_at, Nat.reduceEqDiff]
  exact hl
theorem ag_s3_hit {gp : Nat → Nat → Int} {q : Nat → Int} {b : Int} {i : Nat} (h : q i = 0 ∧ gp 0 i = 5 ∧ gp 1 i = b) : ag_ui (ag_s3 gp q b i) i 3 = ag_s3 gp q b (i + 1) := by
  funext j
  unfold ag_ui ag_s3
  by_cases c : j = i
  · subst c
    rw [if_pos rfl, if_pos ⟨by omega, h⟩]
  · rw [if_neg c]
    by_cases c2 : j < i ∧ q j = 0 ∧ gp 0 j = 5 ∧ gp 1 j = b
    · rw [if_pos c2, if_pos ⟨by omega, c2.2⟩]
    · rw [if_neg c2, if_neg (fun z => c2 ⟨by omega, z.2⟩)]
theorem ag_s3_miss {gp : Nat → Nat → Int} {q : Nat → Int} {b : Int} {i : Nat} (h : ¬ (q i = 0 ∧ gp 0 i = 5 ∧ gp 1 i = b)) : ag_s3 gp q b i = ag_s3 gp q b (i + 1) := by
  funext j
  unfold ag_s3
  by_cases c2 : j < i ∧ q j = 0 ∧ gp 0 j = 5 ∧ gp 1 j = b
  · rw [if_pos c2, if_pos ⟨by omega, c2.2⟩]
  · rw [if_neg c2]
    by_cases c : j = i
    · subst c
      rw [if_neg (fun z => h z.2)]
    · rw [if_neg (fun z => c2 ⟨by omega, z.2⟩)]
theorem ag_s4_hit {gp : Nat → Nat → Int} {q u : Nat → Int} {b : Int} {i : Nat} (h : q i = 0 ∧ gp 0 i = 5 ∧ gp 1 i = b) : ag_ui (ag_s4 gp q u b i) i b = ag_s4 gp q u b (i + 1) := by
  funext j
  unfold ag_ui ag_s4
  by_cases c : j = i
  · subst c
    rw [if_pos rfl, if_pos ⟨by omega, h⟩]
  · rw [if_neg c]
    by_cases c2 : j < i ∧ q j = 0 ∧ gp 0 j = 5 ∧ gp 1 j = b
    · rw [if_pos c2, if_pos ⟨by omega, c2.2⟩]
    · rw [if_neg c2, if_neg (fun z => c2 ⟨by omega, z.2⟩)]
theorem ag_s4_miss {gp : Nat → Nat → Int} {q u : Nat → Int} {b : Int} {i : Nat} (h : ¬ (q i = 0 ∧ gp 0 i = 5 ∧ gp 1 i = b)) : ag_s4 gp q u b i = ag_s4 gp q u b (i + 1) := by
  funext j
  unfold ag_s4
  by_cases c2 : j < i ∧ q j = 0 ∧ gp 0 j = 5 ∧ gp 1 j = b
  · rw [if_pos c2, if_pos ⟨by omega, c2.2⟩]
  · rw [if_neg c2]
    by_cases c : j = i
    · subst c
      rw [if_neg (fun z => h z.2)]
    · rw [if_neg (fun z => c2 ⟨by omega, z.2⟩)]
theorem ag_s34_sm {gp : Nat → Nat → Int} {q u : Nat → Int} {b : Int} (i : Nat) (hs : ag_sm gp) (hq : ∀ j, -100000 ≤ q j ∧ q j ≤ 100000) (hu : ∀ j, -100000 ≤ u j ∧ u j ≤ 100000) (b1 : -100000 ≤ b) (b2 : b ≤ 100000) : ag_sm (ag_ug (ag_ug gp 3 (ag_s3 gp q b i)) 4 (ag_s4 gp q u b i)) := by
  intro k j
  rw [ag_ug_at, ag_ug_at]
  split
  · unfold ag_s4
    split
    · exact ⟨b1, b2⟩
    · exact hu j
  · split
    · unfold ag_s3
      split
      · omega
      · exact hq j
    · exact hs k j
theorem ag_R_bec0_loop (h : ag_mi a ρ N) (hm : m ≤ 20) (hs : ag_sm gp) {b : Nat} (hb : b < 20) (hno : ∀ i : Nat, i < m → gp 0 i = 5 → ∀ j : Nat, j < m → gp 0 j = 5 → gp 1 j ≠ i) {q u : Nat → Int} (hq : ∀ j, -100000 ≤ q j ∧ q j ≤ 100000) (hu : ∀ j, -100000 ≤ u j ∧ u j ≤ 100000) (x y : Option ag_V) (hy : y = none ∨ (∃ z, y = some (ag_I z))) (K : ag_Rs → ag_S → Prop) : ∀ (k i : Nat) (s : Int), i + k = m →
    ag_wp 127 29 [some (ag_R a), some (ag_I b), x, y, some (ag_I s), some (ag_I i)] [] (ag_SM σ a ρ (ag_mg gb r (ag_ug (ag_ug gp 3 (ag_s3 gp q b i)) 4 (ag_s4 gp q u b i)) t sg gh) (ag_mv th w n m nq np qu mi)) K = K (Sum.inl (some (ag_I (s + ag_cch gp q b k i)))) (ag_SM σ a ρ (ag_mg gb r (ag_ug (ag_ug gp 3 (ag_s3 gp q b m)) 4 (ag_s4 gp q u b m)) t sg gh) (ag_mv th w n m nq np qu mi)) := by
  intro k
  induction k with
  | zero =>
    intro i s hi
    rw [ag_i127_29]
    simp only [ag_i127_31, ag_i127_32, ag_i127_35, ag_i127_88, ag_i127_90, ag_mv_0, ag_mv_u0, ag_mv_1, ag_mv_u1, ag_mv_2, ag_mv_u2, ag_mv_3, ag_mv_u3, ag_mv_4, ag_mv_u4, ag_mv_5, ag_mv_u5, ag_mv_6, ag_mv_u6, ag_mv_7, ag_mv_u7, ag_mg_0, ag_mg_u0, ag_mg_1, ag_mg_u1, ag_mg_2, ag_mg_u2, ag_mg_3, ag_mg_u3, ag_mg_4, ag_mg_u4, ag_mg_5, ag_mg_u5, ag_mg_6, ag_mg_u6, ag_mg_7, ag_mg_u7, ag_mg_8, ag_mg_u8, ag_mg_9, ag_mg_u9, ag_mg_10, ag_mg_u10, ag_mg_11, ag_mg_u11, ag_mg_12, ag_mg_u12, ag_mg_13, ag_mg_u13, ag_mg_14, ag_mg_u14, ag_mg_15, ag_mg_u15, ag_mg_16, ag_mg_u16, ag_M_g0, ag_M_g1, ag_M_g2, ag_M_g3, ag_M_g4, ag_M_g5, ag_M_g6, ag_M_g7, ag_M_g8, ag_M_g9, ag_M_g10, ag_M_g11, ag_M_g12, ag_M_g13, ag_M_g14, ag_M_g15, ag_M_g16, ag_M_g17, ag_M_g18, ag_M_g19, ag_M_g20, ag_M_g21, ag_M_g22, ag_M_g23, ag_M_g24, ag_M_ck, ag_SM_2, ag_M_p0 h, ag_M_p1 h, ag_M_p2 h, ag_M_p3 h, ag_M_p16 h, ag_M_p18 h, ag_M_p19 h, ag_M_p24 h, ag_M_ia0 h, ag_M_is0 h, ag_M_al0 h, ag_M_ia1 h, ag_M_is1 h, ag_M_al1 h, ag_M_ia2 h, ag_M_is2 h, ag_M_al2 h, ag_M_ia3 h, ag_M_is3 h, ag_M_al3 h, ag_M_ia4 h, ag_M_is4 h, ag_M_al4 h, ag_M_ia5 h, ag_M_is5 h, ag_M_al5 h, ag_M_ia6 h, ag_M_is6 h, ag_M_al6 h, ag_M_ia7 h, ag_M_is7 h, ag_M_al7 h, ag_M_ia8 h, ag_M_is8 h, ag_M_al8 h, ag_M_ia9 h, ag_M_is9 h, ag_M_al9 h, ag_M_ia10 h, ag_M_is10 h, ag_M_al10 h, ag_M_ia11 h, ag_M_is11 h, ag_M_al11 h, ag_M_ia12 h, ag_M_is12 h, ag_M_al12 h, ag_M_ia13 h, ag_M_is13 h, ag_M_al13 h, ag_M_ia14 h, ag_M_is14 h, ag_M_al14 h, ag_M_ia15 h, ag_M_is15 h, ag_M_al15 h, ag_M_ia16 h, ag_M_is16 h, ag_M_al16 h, ag_kk_v, ag_kk_n, Nat.reduceAdd, ag_b0, ag_b1, true_and, or_true, true_or, Int.reduceEq, ne_eq, not_false_eq_true, not_true_eq_false, ↓reduceIte, ag_nm_nat (show i ≤ 1000000 by omega), ag_nm_nat (show m ≤ 1000000 by omega)]
    rw [if_pos (show (m : Int) ≤ i by omega), show i = m by omega]
    unfold ag_cch
    rw [ag_ct, Int.natCast_zero, Int.add_zero]
  | succ k ih =>
    intro i s hi
    have ib : ag_inb 20 (i : Int) := ag_inb_nat (by omega) (by decide)
    have hs' := ag_s34_sm (b := (b : Int)) i hs hq hu (by omega) (by omega)
    have hL := fun K => ag_R_isLaid (σ := σ) (gb := gb) (gh := gh) (r := r) (t := t) (sg := sg) (th := th) (qu := qu) (mi := mi) (w := w) (n := n) (m := m) (nq := nq) (np := np) h (show i < 20 by omega) hs' K
    have e3 : ag_ug (ag_ug gp 3 (ag_s3 gp q b i)) 4 (ag_s4 gp q u b i) 3 i = q i := by
      rw [ag_ug_ne _ _ (by decide), ag_ug_same]
      unfold ag_s3
      rw [if_neg (by omega)]
    have f0 : ag_ug (ag_ug gp 3 (ag_s3 gp q b i)) 4 (ag_s4 gp q u b i) 0 = gp 0 := by rw [ag_ug_ne _ _ (by decide), ag_ug_ne _ _ (by decide)]
    have f1 : ag_ug (ag_ug gp 3 (ag_s3 gp q b i)) 4 (ag_s4 gp q u b i) 1 = gp 1 := by rw [ag_ug_ne _ _ (by decide), ag_ug_ne _ _ (by decide)]
    have f3 : ag_ug (ag_ug gp 3 (ag_s3 gp q b i)) 4 (ag_s4 gp q u b i) 3 = ag_s3 gp q b i := by rw [ag_ug_ne _ _ (by decide), ag_ug_same]
    have f4 : ag_ug (ag_ug gp 3 (ag_s3 gp q b i)) 4 (ag_s4 gp q u b i) 4 = ag_s4 gp q u b i := by rw [ag_ug_same]
    rw [e3] at hL
    rw [ag_i127_29]
    simp only [ag_i127_31, ag_i127_32, ag_i127_35, ag_i127_38, ag_i127_39, ag_i127_41, ag_i127_44, ag_i127_47, ag_i127_48, ag_i127_51, ag_i127_53, ag_i127_54, ag_i127_55, ag_i127_58, ag_i127_59, ag_i127_62, ag_i127_64, ag_i127_65, ag_i127_66, ag_i127_82_n, ag_i127_82_i, ag_i127_82_r, ag_i127_85, ag_mv_0, ag_mv_u0, ag_mv_1, ag_mv_u1, ag_mv_2, ag_mv_u2, ag_mv_3, ag_mv_u3, ag_mv_4, ag_mv_u4, ag_mv_5, ag_mv_u5, ag_mv_6, ag_mv_u6, ag_mv_7, ag_mv_u7, ag_mg_0, ag_mg_u0, ag_mg_1, ag_mg_u1, ag_mg_2, ag_mg_u2, ag_mg_3, ag_mg_u3, ag_mg_4, ag_mg_u4, ag_mg_5, ag_mg_u5, ag_mg_6, ag_mg_u6, ag_mg_7, ag_mg_u7, ag_mg_8, ag_mg_u8, ag_mg_9, ag_mg_u9, ag_mg_10, ag_mg_u10, ag_mg_11, ag_mg_u11, ag_mg_12, ag_mg_u12, ag_mg_13, ag_mg_u13, ag_mg_14, ag_mg_u14, ag_mg_15, ag_mg_u15, ag_mg_16, ag_mg_u16, ag_M_g0, ag_M_g1, ag_M_g2, ag_M_g3, ag_M_g4, ag_M_g5, ag_M_g6, ag_M_g7, ag_M_g8, ag_M_g9, ag_M_g10, ag_M_g11, ag_M_g12, ag_M_g13, ag_M_g14, ag_M_g15, ag_M_g16, ag_M_g17, ag_M_g18, ag_M_g19, ag_M_g20, ag_M_g21, ag_M_g22, ag_M_g23, ag_M_g24, ag_M_ck, ag_SM_2, ag_M_p0 h, ag_M_p1 h, ag_M_p2 h, ag_M_p3 h, ag_M_p16 h, ag_M_p18 h, ag_M_p19 h, ag_M_p24 h, ag_M_ia0 h, ag_M_is0 h, ag_M_al0 h, ag_M_ia1 h, ag_M_is1 h, ag_M_al1 h, ag_M_ia2 h, ag_M_is2 h, ag_M_al2 h, ag_M_ia3 h, ag_M_is3 h, ag_M_al3 h, ag_M_ia4 h, ag_M_is4 h, ag_M_al4 h, ag_M_ia5 h, ag_M_is5 h, ag_M_al5 h, ag_M_ia6 h, ag_M_is6 h, ag_M_al6 h, ag_M_ia7 h, ag_M_is7 h, ag_M_al7 h, ag_M_ia8 h, ag_M_is8 h, ag_M_al8 h, ag_M_ia9 h, ag_M_is9 h, ag_M_al9 h, ag_M_ia10 h, ag_M_is10 h, ag_M_al10 h, ag_M_ia11 h, ag_M_is11 h, ag_M_al11 h, ag_M_ia12 h, ag_M_is12 h, ag_M_al12 h, ag_M_ia13 h, ag_M_is13 h, ag_M_al13 h, ag_M_ia14 h, ag_M_is14 h, ag_M_al14 h, ag_M_ia15 h, ag_M_is15 h, ag_M_al15 h, ag_M_ia16 h, ag_M_is16 h, ag_M_al16 h, ag_kk_v, ag_kk_n, Nat.reduceAdd, ag_b0, ag_b1, true_and, or_true, true_or, Int.reduceEq, ne_eq, not_false_eq_true, not_true_eq_false, ↓reduceIte, ag_nmk_2, ag_nmk_3, ag_nmk_4, ag_nmk_5, ag_nmk_7, ag_nmk_11, ag_nmk_12, ag_nmk_20, ag_nmk_99, ag_nmk_100, ag_nmk_300, ag_nmk_999, ag_nmk_9999, ag_nm_1, ag_nm_z, ag_nm_m, ag_nm_nat (show i ≤ 1000000 by omega), ag_nm_nat (show m ≤ 1000000 by omega), ag_nm_nat (show b ≤ 1000000 by omega), hL, ib, f0, f1, ag_rd_nat (show 20 ≤ 1000000 by decide) (show i < 20 by omega), ag_nm_g hs]
    rw [if_neg (show ¬ (m : Int) ≤ i by omega)]
    have e5 : ag_cch gp q b (k + 1) i = (if q i = 0 ∧ gp 0 i = 5 ∧ gp 1 i = b then 1 else 0) + ag_cch gp q b k (i + 1) := by
      unfold ag_cch
      rw [ag_ct]
      simp
    rw [e5]
    by_cases c : q i = 0 ∧ gp 0 i = 5 ∧ gp 1 i = b
    · obtain ⟨c1, c2, c3⟩ := c
      have hB := fun K => ag_R_bec1 (σ := σ) (gb := gb) (gp := ag_ug (ag_ug gp 3 (ag_s3 gp q b i)) 4 (ag_s4 gp q u b i)) (gh := gh) (r := r) (t := t) (sg := sg) (th := th) (qu := qu) (mi := mi) (w := w) (n := n) (m := m) (nq := nq) (np := np) h hm hs' (b := i) (by omega) (fun j hj => by rw [f0, f1]; exact hno i (by omega) c2 j hj) (y := (b : Int)) (by omega) (by omega) K
      have e6 : ag_ug (ag_ug (ag_ug (ag_ug gp 3 (ag_s3 gp q b i)) 4 (ag_s4 gp q u b i)) 3 (ag_ui (ag_ug (ag_ug gp 3 (ag_s3 gp q b i)) 4 (ag_s4 gp q u b i) 3) i 3)) 4 (ag_ui (ag_ug (ag_ug gp 3 (ag_s3 gp q b i)) 4 (ag_s4 gp q u b i) 4) i b) = ag_ug (ag_ug gp 3 (ag_s3 gp q b (i + 1))) 4 (ag_s4 gp q u b (i + 1)) := by
        rw [f3, f4, ag_s3_hit ⟨c1, c2, c3⟩, ag_s4_hit ⟨c1, c2, c3⟩, ag_ug_34]
      rw [e6] at hB
      have h2 := ih (i + 1) (s + 1) (by omega)
      rw [if_pos (show q i = 0 ∧ gp 0 i = 5 ∧ gp 1 i = b from ⟨c1, c2, c3⟩)]
      have hB' := fun K => hB K
      have e7 : s + ((1 + ag_cch gp q b k (i + 1) : Nat) : Int) = s + 1 + (ag_cch gp q b k (i + 1) : Nat) := by omega
      rw [e7, ← h2]
      rcases hy with rfl | ⟨z, rfl⟩ <;> (simp only [ag_if_t c1, ag_nm_1, ag_b0, ag_b1, true_and, or_true, true_or, Int.reduceEq, ne_eq, not_false_eq_true, not_true_eq_false, ↓reduceIte, c2, c3, ag_i127_69, ag_i127_71, ag_i127_72, ag_i127_74, ag_i127_75, ag_i127_76, ag_i127_79, ag_i127_80_n, ag_i127_80_i, ag_i127_80_r, ag_i127_82_n, ag_i127_82_i, ag_i127_82_r, ag_i127_85, ag_mv_0, ag_mv_u0, ag_mv_1, ag_mv_u1, ag_mv_2, ag_mv_u2, ag_mv_3, ag_mv_u3, ag_mv_4, ag_mv_u4, ag_mv_5, ag_mv_u5, ag_mv_6, ag_mv_u6, ag_mv_7, ag_mv_u7, ag_mg_0, ag_mg_u0, ag_mg_1, ag_mg_u1, ag_mg_2, ag_mg_u2, ag_mg_3, ag_mg_u3, ag_mg_4, ag_mg_u4, ag_mg_5, ag_mg_u5, ag_mg_6, ag_mg_u6, ag_mg_7, ag_mg_u7, ag_mg_8, ag_mg_u8, ag_mg_9, ag_mg_u9, ag_mg_10, ag_mg_u10, ag_mg_11, ag_mg_u11, ag_mg_12, ag_mg_u12, ag_mg_13, ag_mg_u13, ag_mg_14, ag_mg_u14, ag_mg_15, ag_mg_u15, ag_mg_16, ag_mg_u16, ag_M_g0, ag_M_g1, ag_M_g2, ag_M_g3, ag_M_g4, ag_M_g5, ag_M_g6, ag_M_g7, ag_M_g8, ag_M_g9, ag_M_g10, ag_M_g11, ag_M_g12, ag_M_g13, ag_M_g14, ag_M_g15, ag_M_g16, ag_M_g17, ag_M_g18, ag_M_g19, ag_M_g20, ag_M_g21, ag_M_g22, ag_M_g23, ag_M_g24, ag_M_ck, ag_SM_2, ag_M_p0 h, ag_M_p1 h, ag_M_p2 h, ag_M_p3 h, ag_M_p16 h, ag_M_p18 h, ag_M_p19 h, ag_M_p24 h, ag_M_ia0 h, ag_M_is0 h, ag_M_al0 h, ag_M_ia1 h, ag_M_is1 h, ag_M_al1 h, ag_M_ia2 h, ag_M_is2 h, ag_M_al2 h, ag_M_ia3 h, ag_M_is3 h, ag_M_al3 h, ag_M_ia4 h, ag_M_is4 h, ag_M_al4 h, ag_M_ia5 h, ag_M_is5 h, ag_M_al5 h, ag_M_ia6 h, ag_M_is6 h, ag_M_al6 h, ag_M_ia7 h, ag_M_is7 h, ag_M_al7 h, ag_M_ia8 h, ag_M_is8 h, ag_M_al8 h, ag_M_ia9 h, ag_M_is9 h, ag_M_al9 h, ag_M_ia10 h, ag_M_is10 h, ag_M_al10 h, ag_M_ia11 h, ag_M_is11 h, ag_M_al11 h, ag_M_ia12 h, ag_M_is12 h, ag_M_al12 h, ag_M_ia13 h, ag_M_is13 h, ag_M_al13 h, ag_M_ia14 h, ag_M_is14 h, ag_M_al14 h, ag_M_ia15 h, ag_M_is15 h, ag_M_al15 h, ag_M_ia16 h, ag_M_is16 h, ag_M_al16 h, ag_kk_v, ag_kk_n, Nat.reduceAdd, hB']; rfl)
    · have h2 := ih (i + 1) s (by omega)
      rw [if_neg c, Nat.zero_add, ← h2, ag_s3_miss c, ag_s4_miss c]
      by_cases c1 : q i = 0
      · by_cases c2 : gp 0 i = 5
        · have c3 : ¬ gp 1 i = b := fun z => c ⟨c1, c2, z⟩
          simp only [ag_if_t c1, ag_nm_1, ag_b0, ag_b1, true_and, or_true, true_or, Int.reduceEq, ne_eq, not_false_eq_true, not_true_eq_false, ↓reduceIte, c2, c3]
          rfl
        · simp only [ag_if_t c1, ag_nm_1, ag_b0, ag_b1, true_and, or_true, true_or, Int.reduceEq, ne_eq, not_false_eq_true, not_true_eq_false, ↓reduceIte, c2]
          rfl
      · simp only [ag_if_f c1, ag_nm_z, ag_b0, ag_b1, true_and, or_true, true_or, Int.reduceEq, ne_eq, not_false_eq_true, not_true_eq_false, ↓reduceIte]
        rfl
theorem ag_R_bec0 (h : ag_mi a ρ N) (hm : m ≤ 20) (hs : ag_sm gp) {b : Nat} (hb : b < 20) (hno : ∀ i : Nat, i < m → gp 0 i = 5 → ∀ j : Nat, j < m → gp 0 j = 5 → gp 1 j ≠ i) {s y : Int} (s1 : 0 ≤ s) (s2 : s ≤ 4) (y1 : -1 ≤ y) (y2 : y ≤ 20) (K : ag_Rs → ag_S → Prop) :
    ag_cl9 127 [ag_R a, ag_I b, ag_I s, ag_I y] (ag_SM σ a ρ (ag_mg gb r gp t sg gh) (ag_mv th w n m nq np qu mi)) K = K (Sum.inl (some (ag_I ((((if s = 3 then 1 else 0) + ag_cch gp (ag_ui (gp 3) b s) b m 0 : Nat) : Int))))) (ag_SM σ a ρ (ag_mg gb r (ag_set gp b s y m) t sg gh) (ag_mv th w n m nq np qu mi)) := by
  have ib : ag_inb 20 (b : Int) := ag_inb_nat hb (by decide)
  have hq := ag_ui_sm (i := b) (x := s) (hs 3) (by omega) (by omega)
  have hu := ag_ui_sm (i := b) (x := y) (hs 4) (by omega) (by omega)
  have e0 : ag_ug (ag_ug gp 3 (ag_s3 gp (ag_ui (gp 3) b s) b 0)) 4 (ag_s4 gp (ag_ui (gp 3) b s) (ag_ui (gp 4) b y) b 0) = ag_ug (ag_ug gp 3 (ag_ui (gp 3) b s)) 4 (ag_ui (gp 4) b y) := by
    have f3 : ag_s3 gp (ag_ui (gp 3) b s) b 0 = ag_ui (gp 3) b s := by
      funext j
      unfold ag_s3
      rw [if_neg (by omega)]
    have f4 : ag_s4 gp (ag_ui (gp 3) b s) (ag_ui (gp 4) b y) b 0 = ag_ui (gp 4) b y := by
      funext j
      unfold ag_s4
      rw [if_neg (by omega)]
    rw [f3, f4]
  have e9 : ag_ug (ag_ug gp 3 (ag_s3 gp (ag_ui (gp 3) b s) b m)) 4 (ag_s4 gp (ag_ui (gp 3) b s) (ag_ui (gp 4) b y) b m) = ag_set gp b s y m := by
    unfold ag_set
    rw [ag_wr_nat _ (by decide) hb, ag_wr_nat _ (by decide) hb]
  have hsn : ag_nm s = s := ag_nm_of (by omega) (by omega)
  by_cases q : s = 3
  · have hl := ag_R_bec0_loop (σ := σ) (gb := gb) (gp := gp) (gh := gh) (r := r) (t := t) (sg := sg) (th := th) (qu := qu) (mi := mi) (w := w) (n := n) (m := m) (nq := nq) (np := np) h hm hs hb hno hq hu (some (ag_I s)) (some (ag_I y)) (Or.inr ⟨y, rfl⟩) K m 0 1 (by omega)
    rw [e0, e9] at hl
    rw [if_pos q, show (((1 + ag_cch gp (ag_ui (gp 3) b s) b m 0 : Nat) : Int)) = 1 + (ag_cch gp (ag_ui (gp 3) b s) b m 0 : Nat) by omega, ← hl]
    simp only [ag_i127_0, ag_i127_1, ag_i127_4, ag_i127_5, ag_i127_6, ag_i127_7, ag_i127_8, ag_i127_11, ag_i127_12, ag_i127_13, ag_i127_14, ag_i127_15, ag_i127_16, ag_i127_19, ag_i127_20, ag_i127_23, ag_i127_24_n, ag_i127_24_i, ag_i127_24_r, ag_i127_26, ag_i127_27_n, ag_i127_27_i, ag_i127_27_r, ag_e127, ag_mv_0, ag_mv_u0, ag_mv_1, ag_mv_u1, ag_mv_2, ag_mv_u2, ag_mv_3, ag_mv_u3, ag_mv_4, ag_mv_u4, ag_mv_5, ag_mv_u5, ag_mv_6, ag_mv_u6, ag_mv_7, ag_mv_u7, ag_mg_0, ag_mg_u0, ag_mg_1, ag_mg_u1, ag_mg_2, ag_mg_u2, ag_mg_3, ag_mg_u3, ag_mg_4, ag_mg_u4, ag_mg_5, ag_mg_u5, ag_mg_6, ag_mg_u6, ag_mg_7, ag_mg_u7, ag_mg_8, ag_mg_u8, ag_mg_9, ag_mg_u9, ag_mg_10, ag_mg_u10, ag_mg_11, ag_mg_u11, ag_mg_12, ag_mg_u12, ag_mg_13, ag_mg_u13, ag_mg_14, ag_mg_u14, ag_mg_15, ag_mg_u15, ag_mg_16, ag_mg_u16, ag_M_g0, ag_M_g1, ag_M_g2, ag_M_g3, ag_M_g4, ag_M_g5, ag_M_g6, ag_M_g7, ag_M_g8, ag_M_g9, ag_M_g10, ag_M_g11, ag_M_g12, ag_M_g13, ag_M_g14, ag_M_g15, ag_M_g16, ag_M_g17, ag_M_g18, ag_M_g19, ag_M_g20, ag_M_g21, ag_M_g22, ag_M_g23, ag_M_g24, ag_M_ck, ag_SM_2, ag_M_p0 h, ag_M_p1 h, ag_M_p2 h, ag_M_p3 h, ag_M_p16 h, ag_M_p18 h, ag_M_p19 h, ag_M_p24 h, ag_M_ia0 h, ag_M_is0 h, ag_M_al0 h, ag_M_ia1 h, ag_M_is1 h, ag_M_al1 h, ag_M_ia2 h, ag_M_is2 h, ag_M_al2 h, ag_M_ia3 h, ag_M_is3 h, ag_M_al3 h, ag_M_ia4 h, ag_M_is4 h, ag_M_al4 h, ag_M_ia5 h, ag_M_is5 h, ag_M_al5 h, ag_M_ia6 h, ag_M_is6 h, ag_M_al6 h, ag_M_ia7 h, ag_M_is7 h, ag_M_al7 h, ag_M_ia8 h, ag_M_is8 h, ag_M_al8 h, ag_M_ia9 h, ag_M_is9 h, ag_M_al9 h, ag_M_ia10 h, ag_M_is10 h, ag_M_al10 h, ag_M_ia11 h, ag_M_is11 h, ag_M_al11 h, ag_M_ia12 h, ag_M_is12 h, ag_M_al12 h, ag_M_ia13 h, ag_M_is13 h, ag_M_al13 h, ag_M_ia14 h, ag_M_is14 h, ag_M_al14 h, ag_M_ia15 h, ag_M_is15 h, ag_M_al15 h, ag_M_ia16 h, ag_M_is16 h, ag_M_al16 h, ag_kk_v, ag_kk_n, Nat.reduceAdd, ag_b0, ag_b1, true_and, or_true, true_or, Int.reduceEq, ne_eq, not_false_eq_true, not_true_eq_false, ↓reduceIte, ag_nmk_2, ag_nmk_3, ag_nmk_4, ag_nmk_5, ag_nmk_7, ag_nmk_11, ag_nmk_12, ag_nmk_20, ag_nmk_99, ag_nmk_100, ag_nmk_300, ag_nmk_999, ag_nmk_9999, ag_nm_1, ag_nm_z, ag_nm_m, ib, ag_wr_nat _ (show 20 ≤ 1000000 by decide) hb, ag_ug_at, Nat.reduceEqDiff, hsn, q]
    rfl
  · have hl := ag_R_bec0_loop (σ := σ) (gb := gb) (gp := gp) (gh := gh) (r := r) (t := t) (sg := sg) (th := th) (qu := qu) (mi := mi) (w := w) (n := n) (m := m) (nq := nq) (np := np) h hm hs hb hno hq hu (some (ag_I s)) (some (ag_I y)) (Or.inr ⟨y, rfl⟩) K m 0 0 (by omega)
    rw [e0, e9] at hl
    rw [if_neg q, Nat.zero_add, ← Int.zero_add ((ag_cch gp (ag_ui (gp 3) b s) b m 0 : Nat) : Int), ← hl]
    simp only [ag_i127_0, ag_i127_1, ag_i127_4, ag_i127_5, ag_i127_6, ag_i127_7, ag_i127_8, ag_i127_11, ag_i127_12, ag_i127_13, ag_i127_14, ag_i127_15, ag_i127_16, ag_i127_19, ag_i127_20, ag_i127_23, ag_i127_24_n, ag_i127_24_i, ag_i127_24_r, ag_i127_26, ag_i127_27_n, ag_i127_27_i, ag_i127_27_r, ag_e127, ag_mv_0, ag_mv_u0, ag_mv_1, ag_mv_u1, ag_mv_2, ag_mv_u2, ag_mv_3, ag_mv_u3, ag_mv_4, ag_mv_u4, ag_mv_5, ag_mv_u5, ag_mv_6, ag_mv_u6, ag_mv_7, ag_mv_u7, ag_mg_0, ag_mg_u0, ag_mg_1, ag_mg_u1, ag_mg_2, ag_mg_u2, ag_mg_3, ag_mg_u3, ag_mg_4, ag_mg_u4, ag_mg_5, ag_mg_u5, ag_mg_6, ag_mg_u6, ag_mg_7, ag_mg_u7, ag_mg_8, ag_mg_u8, ag_mg_9, ag_mg_u9, ag_mg_10, ag_mg_u10, ag_mg_11, ag_mg_u11, ag_mg_12, ag_mg_u12, ag_mg_13, ag_mg_u13, ag_mg_14, ag_mg_u14, ag_mg_15, ag_mg_u15, ag_mg_16, ag_mg_u16, ag_M_g0, ag_M_g1, ag_M_g2, ag_M_g3, ag_M_g4, ag_M_g5, ag_M_g6, ag_M_g7, ag_M_g8, ag_M_g9, ag_M_g10, ag_M_g11, ag_M_g12, ag_M_g13, ag_M_g14, ag_M_g15, ag_M_g16, ag_M_g17, ag_M_g18, ag_M_g19, ag_M_g20, ag_M_g21, ag_M_g22, ag_M_g23, ag_M_g24, ag_M_ck, ag_SM_2, ag_M_p0 h, ag_M_p1 h, ag_M_p2 h, ag_M_p3 h, ag_M_p16 h, ag_M_p18 h, ag_M_p19 h, ag_M_p24 h, ag_M_ia0 h, ag_M_is0 h, ag_M_al0 h, ag_M_ia1 h, ag_M_is1 h, ag_M_al1 h, ag_M_ia2 h, ag_M_is2 h, ag_M_al2 h, ag_M_ia3 h, ag_M_is3 h, ag_M_al3 h, ag_M_ia4 h, ag_M_is4 h, ag_M_al4 h, ag_M_ia5 h, ag_M_is5 h, ag_M_al5 h, ag_M_ia6 h, ag_M_is6 h, ag_M_al6 h, ag_M_ia7 h, ag_M_is7 h, ag_M_al7 h, ag_M_ia8 h, ag_M_is8 h, ag_M_al8 h, ag_M_ia9 h, ag_M_is9 h, ag_M_al9 h, ag_M_ia10 h, ag_M_is10 h, ag_M_al10 h, ag_M_ia11 h, ag_M_is11 h, ag_M_al11 h, ag_M_ia12 h, ag_M_is12 h, ag_M_al12 h, ag_M_ia13 h, ag_M_is13 h, ag_M_al13 h, ag_M_ia14 h, ag_M_is14 h, ag_M_al14 h, ag_M_ia15 h, ag_M_is15 h, ag_M_al15 h, ag_M_ia16 h, ag_M_is16 h, ag_M_al16 h, ag_kk_v, ag_kk_n, Nat.reduceAdd, ag_b0, ag_b1, true_and, or_true, true_or, Int.reduceEq, ne_eq, not_false_eq_true, not_true_eq_false, ↓reduceIte, ag_nmk_2, ag_nmk_3, ag_nmk_4, ag_nmk_5, ag_nmk_7, ag_nmk_11, ag_nmk_12, ag_nmk_20, ag_nmk_99, ag_nmk_100, ag_nmk_300, ag_nmk_999, ag_nmk_9999, ag_nm_1, ag_nm_z, ag_nm_m, ib, ag_wr_nat _ (show 20 ≤ 1000000 by decide) hb, ag_ug_at, Nat.reduceEqDiff, hsn, q]
    rfl
/-- no change of a change -/
theorem ag_IP_no {gb gp : Nat → Nat → Int} {w m : Nat} (hP : ag_IP gb gp w m) : ∀ i : Nat, i < m → gp 0 i = 5 → ∀ j : Nat, j < m → gp 0 j = 5 → gp 1 j ≠ i := by
  intro i hi h5 j hj h5' q
  have := (hP.2.2 j hj).2.1 h5'
  rw [q, Int.toNat_natCast] at this
  omega
/-- by what the reference orders -/
def ag_key (gb gp : Nat → Nat → Int) (b : Nat) : Int := 10 * gb 5 (gp 1 b).toNat + gp 0 b
theorem ag_key_lt {S : ag_T} {m b c : Nat} (hV : ag_IV S m) (hb : b < m) (hc : c < m) (b3 : S.2.2.2 3 b = 0) (c3 : S.2.2.2 3 c = 0) (b5 : S.2.2.2 0 b ≠ 5) (c5 : S.2.2.2 0 c ≠ 5) : ag_ahd S.1 S.2.2.2 b c = true ↔ ag_key S.1 S.2.2.2 b < ag_key S.1 S.2.2.2 c := by
  have hm := hV.2.1.1.2.2
  have hw := hV.1.1.2.2
  obtain ⟨t1, p, p1, p2, p3, p4, -, -⟩ := ag_IV_to hV hb b3 b5
  obtain ⟨t2, q, q1, q2, q3, q4, -, -⟩ := ag_IV_to hV hc c3 c5
  have k1 := (hV.2.1.2.2 b hb).1
  have k2 := (hV.2.1.2.2 c hc).1
  have r : ∀ k j, j < m → ag_rd 20 (S.2.2.2 k) (j : Int) = S.2.2.2 k j := fun k j hj => ag_rd_nat (by decide) (by omega)
  have e1 : S.1 5 (S.2.2.2 1 b).toNat = p := by rw [← ag_rd_i (g := S.1 5) (show 40 ≤ 1000000 by decide) t1.1 (by omega), p2]
  have e2 : S.1 5 (S.2.2.2 1 c).toNat = q := by rw [← ag_rd_i (g := S.1 5) (show 40 ≤ 1000000 by decide) t2.1 (by omega), q2]
  unfold ag_ahd ag_key
  rw [decide_eq_true_iff, r 1 b hb, r 1 c hc, r 0 b hb, r 0 c hc, p2, q2, e1, e2]
  omega
theorem ag_R_nx_loop (h : ag_mi a ρ N) (hV : ag_IV (gb, (w, (n, gp))) m) (hr : ∀ i, i < n → r i = gb 6 i) : ∀ (k i : Nat) (f l : Int) (y : Option ag_V), i + k = m → ((f = -1 ∧ l = 0) ∨ ∃ b : Nat, b < m ∧ f = b ∧ gp 3 b = 0 ∧ gp 0 b ≠ 5 ∧ l = ag_key gb gp b) →
    ∃ l' y', ∀ K, ag_wp 133 6 [some (ag_R a), some (ag_I f), some (ag_I l), some (ag_I i), y] [] (ag_SM σ a ρ (ag_mg gb r gp t sg gh) (ag_mv th w n m nq np qu mi)) K = ag_wp 133 82 [some (ag_R a), some (ag_I (ag_fol gb gp k i f)), some (ag_I l'), some (ag_I m), y'] [] (ag_SM σ a ρ (ag_mg gb r gp t sg gh) (ag_mv th w n m nq np qu mi)) K := by
  have hm : m ≤ 20 := hV.2.1.1.2.2
  have hs : ag_sm gp := hV.2.1.1.2.1
  have hw := hV.1.1.2.2
  dsimp only at hw
  intro k
  induction k with
  | zero =>
    intro i f l y hi _
    refine ⟨l, y, fun K => ?_⟩
    rw [ag_i133_6]
    simp only [ag_i133_7, ag_i133_8, ag_i133_11, ag_mv_0, ag_mv_u0, ag_mv_1, ag_mv_u1, ag_mv_2, ag_mv_u2, ag_mv_3, ag_mv_u3, ag_mv_4, ag_mv_u4, ag_mv_5, ag_mv_u5, ag_mv_6, ag_mv_u6, ag_mv_7, ag_mv_u7, ag_mg_0, ag_mg_u0, ag_mg_1, ag_mg_u1, ag_mg_2, ag_mg_u2, ag_mg_3, ag_mg_u3, ag_mg_4, ag_mg_u4, ag_mg_5, ag_mg_u5, ag_mg_6, ag_mg_u6, ag_mg_7, ag_mg_u7, ag_mg_8, ag_mg_u8, ag_mg_9, ag_mg_u9, ag_mg_10, ag_mg_u10, ag_mg_11, ag_mg_u11, ag_mg_12, ag_mg_u12, ag_mg_13, ag_mg_u13, ag_mg_14, ag_mg_u14, ag_mg_15, ag_mg_u15, ag_mg_16, ag_mg_u16, ag_M_g0, ag_M_g1, ag_M_g2, ag_M_g3, ag_M_g4, ag_M_g5, ag_M_g6, ag_M_g7, ag_M_g8, ag_M_g9, ag_M_g10, ag_M_g11, ag_M_g12, ag_M_g13, ag_M_g14, ag_M_g15, ag_M_g16, ag_M_g17, ag_M_g18, ag_M_g19, ag_M_g20, ag_M_g21, ag_M_g22, ag_M_g23, ag_M_g24, ag_M_ck, ag_SM_2, ag_M_p0 h, ag_M_p1 h, ag_M_p2 h, ag_M_p3 h, ag_M_p16 h, ag_M_p18 h, ag_M_p19 h, ag_M_p24 h, ag_M_ia0 h, ag_M_is0 h, ag_M_al0 h, ag_M_ia1 h, ag_M_is1 h, ag_M_al1 h, ag_M_ia2 h, ag_M_is2 h, ag_M_al2 h, ag_M_ia3 h, ag_M_is3 h, ag_M_al3 h, ag_M_ia4 h, ag_M_is4 h, ag_M_al4 h, ag_M_ia5 h, ag_M_is5 h, ag_M_al5 h, ag_M_ia6 h, ag_M_is6 h, ag_M_al6 h, ag_M_ia7 h, ag_M_is7 h, ag_M_al7 h, ag_M_ia8 h, ag_M_is8 h, ag_M_al8 h, ag_M_ia9 h, ag_M_is9 h, ag_M_al9 h, ag_M_ia10 h, ag_M_is10 h, ag_M_al10 h, ag_M_ia11 h, ag_M_is11 h, ag_M_al11 h, ag_M_ia12 h, ag_M_is12 h, ag_M_al12 h, ag_M_ia13 h, ag_M_is13 h, ag_M_al13 h, ag_M_ia14 h, ag_M_is14 h, ag_M_al14 h, ag_M_ia15 h, ag_M_is15 h, ag_M_al15 h, ag_M_ia16 h, ag_M_is16 h, ag_M_al16 h, ag_kk_v, ag_kk_n, Nat.reduceAdd, ag_b0, ag_b1, true_and, or_true, true_or, Int.reduceEq, ne_eq, not_false_eq_true, not_true_eq_false, ↓reduceIte, ag_nm_nat (show i ≤ 1000000 by omega), ag_nm_nat (show m ≤ 1000000 by omega)]
    rw [if_pos (show (m : Int) ≤ i by omega), ag_fol, show i = m by omega]
  | succ k ih =>
    intro i f l y hi hf
    have ib : ag_inb 20 (i : Int) := ag_inb_nat (by omega) (by decide)
    have hL := fun K => ag_R_isLaid (σ := σ) (gb := gb) (gh := gh) (r := r) (t := t) (sg := sg) (th := th) (qu := qu) (mi := mi) (w := w) (n := n) (m := m) (nq := nq) (np := np) h (show i < 20 by omega) hs K
    have hdr : ∀ k, ag_rd 20 (gp k) (i : Int) = gp k i := fun k => ag_rd_nat (by decide) (by omega)
    by_cases c1 : gp 3 i = 0
    · by_cases c2 : gp 0 i = 5
      · obtain ⟨l', y', hh⟩ := ih (i + 1) f l y (by omega) hf
        refine ⟨l', y', fun K => ?_⟩
        rw [ag_i133_6]
        simp only [ag_i133_7, ag_i133_8, ag_i133_11, ag_i133_14, ag_i133_15, ag_i133_16, ag_i133_19, ag_i133_22, ag_i133_23, ag_i133_26, ag_i133_27, ag_i133_28, ag_i133_29, ag_i133_32, ag_i133_76_n, ag_i133_76_i, ag_i133_76_r, ag_i133_79, ag_mv_0, ag_mv_u0, ag_mv_1, ag_mv_u1, ag_mv_2, ag_mv_u2, ag_mv_3, ag_mv_u3, ag_mv_4, ag_mv_u4, ag_mv_5, ag_mv_u5, ag_mv_6, ag_mv_u6, ag_mv_7, ag_mv_u7, ag_mg_0, ag_mg_u0, ag_mg_1, ag_mg_u1, ag_mg_2, ag_mg_u2, ag_mg_3, ag_mg_u3, ag_mg_4, ag_mg_u4, ag_mg_5, ag_mg_u5, ag_mg_6, ag_mg_u6, ag_mg_7, ag_mg_u7, ag_mg_8, ag_mg_u8, ag_mg_9, ag_mg_u9, ag_mg_10, ag_mg_u10, ag_mg_11, ag_mg_u11, ag_mg_12, ag_mg_u12, ag_mg_13, ag_mg_u13, ag_mg_14, ag_mg_u14, ag_mg_15, ag_mg_u15, ag_mg_16, ag_mg_u16, ag_M_g0, ag_M_g1, ag_M_g2, ag_M_g3, ag_M_g4, ag_M_g5, ag_M_g6, ag_M_g7, ag_M_g8, ag_M_g9, ag_M_g10, ag_M_g11, ag_M_g12, ag_M_g13, ag_M_g14, ag_M_g15, ag_M_g16, ag_M_g17, ag_M_g18, ag_M_g19, ag_M_g20, ag_M_g21, ag_M_g22, ag_M_g23, ag_M_g24, ag_M_ck, ag_SM_2, ag_M_p0 h, ag_M_p1 h, ag_M_p2 h, ag_M_p3 h, ag_M_p16 h, ag_M_p18 h, ag_M_p19 h, ag_M_p24 h, ag_M_ia0 h, ag_M_is0 h, ag_M_al0 h, ag_M_ia1 h, ag_M_is1 h, ag_M_al1 h, ag_M_ia2 h, ag_M_is2 h, ag_M_al2 h, ag_M_ia3 h, ag_M_is3 h, ag_M_al3 h, ag_M_ia4 h, ag_M_is4 h, ag_M_al4 h, ag_M_ia5 h, ag_M_is5 h, ag_M_al5 h, ag_M_ia6 h, ag_M_is6 h, ag_M_al6 h, ag_M_ia7 h, ag_M_is7 h, ag_M_al7 h, ag_M_ia8 h, ag_M_is8 h, ag_M_al8 h, ag_M_ia9 h, ag_M_is9 h, ag_M_al9 h, ag_M_ia10 h, ag_M_is10 h, ag_M_al10 h, ag_M_ia11 h, ag_M_is11 h, ag_M_al11 h, ag_M_ia12 h, ag_M_is12 h, ag_M_al12 h, ag_M_ia13 h, ag_M_is13 h, ag_M_al13 h, ag_M_ia14 h, ag_M_is14 h, ag_M_al14 h, ag_M_ia15 h, ag_M_is15 h, ag_M_al15 h, ag_M_ia16 h, ag_M_is16 h, ag_M_al16 h, ag_kk_v, ag_kk_n, Nat.reduceAdd, ag_b0, ag_b1, true_and, or_true, true_or, Int.reduceEq, ne_eq, not_false_eq_true, not_true_eq_false, ↓reduceIte, ag_nmk_2, ag_nmk_3, ag_nmk_4, ag_nmk_5, ag_nmk_7, ag_nmk_11, ag_nmk_12, ag_nmk_20, ag_nmk_99, ag_nmk_100, ag_nmk_300, ag_nmk_999, ag_nmk_9999, ag_nm_1, ag_nm_z, ag_nm_m, ag_nm_nat (show i ≤ 1000000 by omega), ag_nm_nat (show m ≤ 1000000 by omega), hL, ag_if_t c1, ib, hdr, c2]
        rw [if_neg (show ¬ (m : Int) ≤ i by omega), ag_fol, if_neg (show ¬ (gp 3 i = 0 ∧ gp 0 i ≠ 5 ∧ (f = -1 ∨ ag_ahd gb gp i f = true)) from fun z => z.2.1 c2)]
        exact hh K
      · obtain ⟨t1, p, p1, p2, p3, p4, -, -⟩ := ag_IV_to hV (show i < m by omega) c1 c2
        dsimp only at t1 p1 p2 p3 p4
        have hP := fun K => ag_R_pl_y (σ := σ) (gp := gp) (gh := gh) (t := t) (sg := sg) (th := th) (qu := qu) (mi := mi) (m := m) (nq := nq) (np := np) h hV.1 hr p1 p4 K
        have kb := (hV.2.1.2.2 i (by omega)).1
        dsimp only at kb
        have e1 : gb 5 (gp 1 i).toNat = p := by rw [← ag_rd_i (g := gb 5) (show 40 ≤ 1000000 by decide) t1.1 (by omega), p2]
        have ek : (10 : Int) * p + gp 0 i = ag_key gb gp i := by
          unfold ag_key
          rw [e1]
        have hnk : ag_nm (ag_key gb gp i) = ag_key gb gp i := by rw [← ek]; exact ag_nm_of (by omega) (by omega)
        have g10 : ag_nm 10 = 10 := by decide +kernel
        by_cases c3 : f = -1 ∨ ag_ahd gb gp i f = true
        · obtain ⟨l', y', hh⟩ := ih (i + 1) i (ag_key gb gp i) (some (ag_I (ag_key gb gp i))) (by omega) (Or.inr ⟨i, by omega, rfl, c1, c2, rfl⟩)
          refine ⟨l', y', fun K => ?_⟩
          rw [ag_i133_6]
          simp only [ag_i133_7, ag_i133_8, ag_i133_11, ag_i133_14, ag_i133_15, ag_i133_16, ag_i133_19, ag_i133_22, ag_i133_23, ag_i133_26, ag_i133_27, ag_i133_28, ag_i133_29, ag_i133_35, ag_i133_37, ag_i133_38, ag_i133_39, ag_i133_42, ag_i133_43, ag_i133_44, ag_i133_47, ag_i133_48, ag_i133_49, ag_i133_52, ag_i133_53, ag_i133_54, ag_i133_55_n, ag_i133_55_i, ag_i133_55_r, ag_i133_57, ag_i133_58, ag_i133_59, ag_i133_62, ag_i133_64, ag_i133_65, ag_i133_71, ag_i133_72_n, ag_i133_72_i, ag_i133_72_r, ag_i133_73, ag_i133_75_n, ag_i133_75_i, ag_i133_75_r, ag_i133_76_n, ag_i133_76_i, ag_i133_76_r, ag_i133_79, ag_mv_0, ag_mv_u0, ag_mv_1, ag_mv_u1, ag_mv_2, ag_mv_u2, ag_mv_3, ag_mv_u3, ag_mv_4, ag_mv_u4, ag_mv_5, ag_mv_u5, ag_mv_6, ag_mv_u6, ag_mv_7, ag_mv_u7, ag_mg_0, ag_mg_u0, ag_mg_1, ag_mg_u1, ag_mg_2, ag_mg_u2, ag_mg_3, ag_mg_u3, ag_mg_4, ag_mg_u4, ag_mg_5, ag_mg_u5, ag_mg_6, ag_mg_u6, ag_mg_7, ag_mg_u7, ag_mg_8, ag_mg_u8, ag_mg_9, ag_mg_u9, ag_mg_10, ag_mg_u10, ag_mg_11, ag_mg_u11, ag_mg_12, ag_mg_u12, ag_mg_13, ag_mg_u13, ag_mg_14, ag_mg_u14, ag_mg_15, ag_mg_u15, ag_mg_16, ag_mg_u16, ag_M_g0, ag_M_g1, ag_M_g2, ag_M_g3, ag_M_g4, ag_M_g5, ag_M_g6, ag_M_g7, ag_M_g8, ag_M_g9, ag_M_g10, ag_M_g11, ag_M_g12, ag_M_g13, ag_M_g14, ag_M_g15, ag_M_g16, ag_M_g17, ag_M_g18, ag_M_g19, ag_M_g20, ag_M_g21, ag_M_g22, ag_M_g23, ag_M_g24, ag_M_ck, ag_SM_2, ag_M_p0 h, ag_M_p1 h, ag_M_p2 h, ag_M_p3 h, ag_M_p16 h, ag_M_p18 h, ag_M_p19 h, ag_M_p24 h, ag_M_ia0 h, ag_M_is0 h, ag_M_al0 h, ag_M_ia1 h, ag_M_is1 h, ag_M_al1 h, ag_M_ia2 h, ag_M_is2 h, ag_M_al2 h, ag_M_ia3 h, ag_M_is3 h, ag_M_al3 h, ag_M_ia4 h, ag_M_is4 h, ag_M_al4 h, ag_M_ia5 h, ag_M_is5 h, ag_M_al5 h, ag_M_ia6 h, ag_M_is6 h, ag_M_al6 h, ag_M_ia7 h, ag_M_is7 h, ag_M_al7 h, ag_M_ia8 h, ag_M_is8 h, ag_M_al8 h, ag_M_ia9 h, ag_M_is9 h, ag_M_al9 h, ag_M_ia10 h, ag_M_is10 h, ag_M_al10 h, ag_M_ia11 h, ag_M_is11 h, ag_M_al11 h, ag_M_ia12 h, ag_M_is12 h, ag_M_al12 h, ag_M_ia13 h, ag_M_is13 h, ag_M_al13 h, ag_M_ia14 h, ag_M_is14 h, ag_M_al14 h, ag_M_ia15 h, ag_M_is15 h, ag_M_al15 h, ag_M_ia16 h, ag_M_is16 h, ag_M_al16 h, ag_kk_v, ag_kk_n, Nat.reduceAdd, ag_b0, ag_b1, true_and, or_true, true_or, Int.reduceEq, ne_eq, not_false_eq_true, not_true_eq_false, ↓reduceIte, ag_nmk_2, ag_nmk_3, ag_nmk_4, ag_nmk_5, ag_nmk_7, ag_nmk_11, ag_nmk_12, ag_nmk_20, ag_nmk_99, ag_nmk_100, ag_nmk_300, ag_nmk_999, ag_nmk_9999, ag_nm_1, ag_nm_z, ag_nm_m, ag_nm_nat (show i ≤ 1000000 by omega), ag_nm_nat (show m ≤ 1000000 by omega), hL, ag_if_t c1, ib, hdr, ag_nm_g hs, c2, hP, ek, hnk]
          rw [if_neg (show ¬ (m : Int) ≤ i by omega), ag_fol, if_pos (show gp 3 i = 0 ∧ gp 0 i ≠ 5 ∧ (f = -1 ∨ ag_ahd gb gp i f = true) from ⟨c1, c2, c3⟩)]
          rcases hf with ⟨f1, -⟩ | ⟨b, b1, rfl, b3, b5, rfl⟩
          · subst f1
            simp only [ag_nmk_2, ag_nmk_3, ag_nmk_4, ag_nmk_5, ag_nmk_7, ag_nmk_11, ag_nmk_12, ag_nmk_20, ag_nmk_99, ag_nmk_100, ag_nmk_300, ag_nmk_999, ag_nmk_9999, ag_nm_1, ag_nm_z, ag_nm_m, ag_b0, ag_b1, true_and, or_true, true_or, Int.reduceEq, ne_eq, not_false_eq_true, not_true_eq_false, ↓reduceIte]
            exact hh K
          · have c4 : ag_ahd gb gp i b = true := by
              rcases c3 with c3 | c3
              · omega
              · exact c3
            have lt := (ag_key_lt hV (show i < m by omega) b1 c1 b3 c2 b5).mp c4
            dsimp only at lt
            have kb2 := (hV.2.1.2.2 b b1).1
            dsimp only at kb2
            obtain ⟨u1, q, q1, q2, -, -, -, -⟩ := ag_IV_to hV b1 b3 b5
            dsimp only at u1 q1 q2
            have e2 : gb 5 (gp 1 b).toNat = q := by rw [← ag_rd_i (g := gb 5) (show 40 ≤ 1000000 by decide) u1.1 (by omega), q2]
            have hnb : ag_nm (ag_key gb gp b) = ag_key gb gp b := by
              unfold ag_key
              rw [e2]
              exact ag_nm_of (by omega) (by omega)
            simp only [ag_nm_nat (show b ≤ 1000000 by omega), hnb, show ¬ (b : Int) = -1 by omega, lt, ag_nmk_2, ag_nmk_3, ag_nmk_4, ag_nmk_5, ag_nmk_7, ag_nmk_11, ag_nmk_12, ag_nmk_20, ag_nmk_99, ag_nmk_100, ag_nmk_300, ag_nmk_999, ag_nmk_9999, ag_nm_1, ag_nm_z, ag_nm_m, ag_b0, ag_b1, true_and, or_true, true_or, Int.reduceEq, ne_eq, not_false_eq_true, not_true_eq_false, ↓reduceIte]
            exact hh K
        · have c31 : ¬ f = -1 := fun z => c3 (Or.inl z)
          have c32 : ¬ ag_ahd gb gp i f = true := fun z => c3 (Or.inr z)
          obtain ⟨l', y', hh⟩ := ih (i + 1) f l (some (ag_I (ag_key gb gp i))) (by omega) hf
          refine ⟨l', y', fun K => ?_⟩
          rw [ag_i133_6]
          simp only [ag_i133_7, ag_i133_8, ag_i133_11, ag_i133_14, ag_i133_15, ag_i133_16, ag_i133_19, ag_i133_22, ag_i133_23, ag_i133_26, ag_i133_27, ag_i133_28, ag_i133_29, ag_i133_35, ag_i133_37, ag_i133_38, ag_i133_39, ag_i133_42, ag_i133_43, ag_i133_44, ag_i133_47, ag_i133_48, ag_i133_49, ag_i133_52, ag_i133_53, ag_i133_54, ag_i133_55_n, ag_i133_55_i, ag_i133_55_r, ag_i133_57, ag_i133_58, ag_i133_59, ag_i133_62, ag_i133_64, ag_i133_65, ag_i133_68, ag_i133_76_n, ag_i133_76_i, ag_i133_76_r, ag_i133_79, ag_mv_0, ag_mv_u0, ag_mv_1, ag_mv_u1, ag_mv_2, ag_mv_u2, ag_mv_3, ag_mv_u3, ag_mv_4, ag_mv_u4, ag_mv_5, ag_mv_u5, ag_mv_6, ag_mv_u6, ag_mv_7, ag_mv_u7, ag_mg_0, ag_mg_u0, ag_mg_1, ag_mg_u1, ag_mg_2, ag_mg_u2, ag_mg_3, ag_mg_u3, ag_mg_4, ag_mg_u4, ag_mg_5, ag_mg_u5, ag_mg_6, ag_mg_u6, ag_mg_7, ag_mg_u7, ag_mg_8, ag_mg_u8, ag_mg_9, ag_mg_u9, ag_mg_10, ag_mg_u10, ag_mg_11, ag_mg_u11, ag_mg_12, ag_mg_u12, ag_mg_13, ag_mg_u13, ag_mg_14, ag_mg_u14, ag_mg_15, ag_mg_u15, ag_mg_16, ag_mg_u16, ag_M_g0, ag_M_g1, ag_M_g2, ag_M_g3, ag_M_g4, ag_M_g5, ag_M_g6, ag_M_g7, ag_M_g8, ag_M_g9, ag_M_g10, ag_M_g11, ag_M_g12, ag_M_g13, ag_M_g14, ag_M_g15, ag_M_g16, ag_M_g17, ag_M_g18, ag_M_g19, ag_M_g20, ag_M_g21, ag_M_g22, ag_M_g23, ag_M_g24, ag_M_ck, ag_SM_2, ag_M_p0 h, ag_M_p1 h, ag_M_p2 h, ag_M_p3 h, ag_M_p16 h, ag_M_p18 h, ag_M_p19 h, ag_M_p24 h, ag_M_ia0 h, ag_M_is0 h, ag_M_al0 h, ag_M_ia1 h, ag_M_is1 h, ag_M_al1 h, ag_M_ia2 h, ag_M_is2 h, ag_M_al2 h, ag_M_ia3 h, ag_M_is3 h, ag_M_al3 h, ag_M_ia4 h, ag_M_is4 h, ag_M_al4 h, ag_M_ia5 h, ag_M_is5 h, ag_M_al5 h, ag_M_ia6 h, ag_M_is6 h, ag_M_al6 h, ag_M_ia7 h, ag_M_is7 h, ag_M_al7 h, ag_M_ia8 h, ag_M_is8 h, ag_M_al8 h, ag_M_ia9 h, ag_M_is9 h, ag_M_al9 h, ag_M_ia10 h, ag_M_is10 h, ag_M_al10 h, ag_M_ia11 h, ag_M_is11 h, ag_M_al11 h, ag_M_ia12 h, ag_M_is12 h, ag_M_al12 h, ag_M_ia13 h, ag_M_is13 h, ag_M_al13 h, ag_M_ia14 h, ag_M_is14 h, ag_M_al14 h, ag_M_ia15 h, ag_M_is15 h, ag_M_al15 h, ag_M_ia16 h, ag_M_is16 h, ag_M_al16 h, ag_kk_v, ag_kk_n, Nat.reduceAdd, ag_b0, ag_b1, true_and, or_true, true_or, Int.reduceEq, ne_eq, not_false_eq_true, not_true_eq_false, ↓reduceIte, ag_nmk_2, ag_nmk_3, ag_nmk_4, ag_nmk_5, ag_nmk_7, ag_nmk_11, ag_nmk_12, ag_nmk_20, ag_nmk_99, ag_nmk_100, ag_nmk_300, ag_nmk_999, ag_nmk_9999, ag_nm_1, ag_nm_z, ag_nm_m, ag_nm_nat (show i ≤ 1000000 by omega), ag_nm_nat (show m ≤ 1000000 by omega), hL, ag_if_t c1, ib, hdr, ag_nm_g hs, c2, hP, ek, hnk]
          rw [if_neg (show ¬ (m : Int) ≤ i by omega), ag_fol, if_neg (show ¬ (gp 3 i = 0 ∧ gp 0 i ≠ 5 ∧ (f = -1 ∨ ag_ahd gb gp i f = true)) from fun z => c3 z.2.2)]
          rcases hf with ⟨f1, -⟩ | ⟨b, b1, rfl, b3, b5, rfl⟩
          · exact absurd f1 c31
          · have lt : ¬ ag_key gb gp i < ag_key gb gp b := fun z => c32 ((ag_key_lt hV (show i < m by omega) b1 c1 b3 c2 b5).mpr z)
            have kb2 := (hV.2.1.2.2 b b1).1
            dsimp only at kb2
            obtain ⟨u1, q, q1, q2, -, -, -, -⟩ := ag_IV_to hV b1 b3 b5
            dsimp only at u1 q1 q2
            have e2 : gb 5 (gp 1 b).toNat = q := by rw [← ag_rd_i (g := gb 5) (show 40 ≤ 1000000 by decide) u1.1 (by omega), q2]
            have hnb : ag_nm (ag_key gb gp b) = ag_key gb gp b := by
              unfold ag_key
              rw [e2]
              exact ag_nm_of (by omega) (by omega)
            simp only [ag_nm_nat (show b ≤ 1000000 by omega), hnb, show ¬ (b : Int) = -1 by omega, lt, ag_nmk_2, ag_nmk_3, ag_nmk_4, ag_nmk_5, ag_nmk_7, ag_nmk_11, ag_nmk_12, ag_nmk_20, ag_nmk_99, ag_nmk_100, ag_nmk_300, ag_nmk_999, ag_nmk_9999, ag_nm_1, ag_nm_z, ag_nm_m, ag_b0, ag_b1, true_and, or_true, true_or, Int.reduceEq, ne_eq, not_false_eq_true, not_true_eq_false, ↓reduceIte]
            exact hh K
    · obtain ⟨l', y', hh⟩ := ih (i + 1) f l y (by omega) hf
      refine ⟨l', y', fun K => ?_⟩
      rw [ag_i133_6]
      simp only [ag_i133_7, ag_i133_8, ag_i133_11, ag_i133_14, ag_i133_15, ag_i133_16, ag_i133_19, ag_i133_22, ag_i133_23, ag_i133_26, ag_i133_27, ag_i133_28, ag_i133_29, ag_i133_32, ag_i133_76_n, ag_i133_76_i, ag_i133_76_r, ag_i133_79, ag_mv_0, ag_mv_u0, ag_mv_1, ag_mv_u1, ag_mv_2, ag_mv_u2, ag_mv_3, ag_mv_u3, ag_mv_4, ag_mv_u4, ag_mv_5, ag_mv_u5, ag_mv_6, ag_mv_u6, ag_mv_7, ag_mv_u7, ag_mg_0, ag_mg_u0, ag_mg_1, ag_mg_u1, ag_mg_2, ag_mg_u2, ag_mg_3, ag_mg_u3, ag_mg_4, ag_mg_u4, ag_mg_5, ag_mg_u5, ag_mg_6, ag_mg_u6, ag_mg_7, ag_mg_u7, ag_mg_8, ag_mg_u8, ag_mg_9, ag_mg_u9, ag_mg_10, ag_mg_u10, ag_mg_11, ag_mg_u11, ag_mg_12, ag_mg_u12, ag_mg_13, ag_mg_u13, ag_mg_14, ag_mg_u14, ag_mg_15, ag_mg_u15, ag_mg_16, ag_mg_u16, ag_M_g0, ag_M_g1, ag_M_g2, ag_M_g3, ag_M_g4, ag_M_g5, ag_M_g6, ag_M_g7, ag_M_g8, ag_M_g9, ag_M_g10, ag_M_g11, ag_M_g12, ag_M_g13, ag_M_g14, ag_M_g15, ag_M_g16, ag_M_g17, ag_M_g18, ag_M_g19, ag_M_g20, ag_M_g21, ag_M_g22, ag_M_g23, ag_M_g24, ag_M_ck, ag_SM_2, ag_M_p0 h, ag_M_p1 h, ag_M_p2 h, ag_M_p3 h, ag_M_p16 h, ag_M_p18 h, ag_M_p19 h, ag_M_p24 h, ag_M_ia0 h, ag_M_is0 h, ag_M_al0 h, ag_M_ia1 h, ag_M_is1 h, ag_M_al1 h, ag_M_ia2 h, ag_M_is2 h, ag_M_al2 h, ag_M_ia3 h, ag_M_is3 h, ag_M_al3 h, ag_M_ia4 h, ag_M_is4 h, ag_M_al4 h, ag_M_ia5 h, ag_M_is5 h, ag_M_al5 h, ag_M_ia6 h, ag_M_is6 h, ag_M_al6 h, ag_M_ia7 h, ag_M_is7 h, ag_M_al7 h, ag_M_ia8 h, ag_M_is8 h, ag_M_al8 h, ag_M_ia9 h, ag_M_is9 h, ag_M_al9 h, ag_M_ia10 h, ag_M_is10 h, ag_M_al10 h, ag_M_ia11 h, ag_M_is11 h, ag_M_al11 h, ag_M_ia12 h, ag_M_is12 h, ag_M_al12 h, ag_M_ia13 h, ag_M_is13 h, ag_M_al13 h, ag_M_ia14 h, ag_M_is14 h, ag_M_al14 h, ag_M_ia15 h, ag_M_is15 h, ag_M_al15 h, ag_M_ia16 h, ag_M_is16 h, ag_M_al16 h, ag_kk_v, ag_kk_n, Nat.reduceAdd, ag_b0, ag_b1, true_and, or_true, true_or, Int.reduceEq, ne_eq, not_false_eq_true, not_true_eq_false, ↓reduceIte, ag_nmk_2, ag_nmk_3, ag_nmk_4, ag_nmk_5, ag_nmk_7, ag_nmk_11, ag_nmk_12, ag_nmk_20, ag_nmk_99, ag_nmk_100, ag_nmk_300, ag_nmk_999, ag_nmk_9999, ag_nm_1, ag_nm_z, ag_nm_m, ag_nm_nat (show i ≤ 1000000 by omega), ag_nm_nat (show m ≤ 1000000 by omega), hL, ag_if_f c1]
      rw [if_neg (show ¬ (m : Int) ≤ i by omega), ag_fol, if_neg (show ¬ (gp 3 i = 0 ∧ gp 0 i ≠ 5 ∧ (f = -1 ∨ ag_ahd gb gp i f = true)) from fun z => c1 z.1)]
      exact hh K
theorem ag_R_nx2_loop (h : ag_mi a ρ N) (hm : m ≤ 20) (hs : ag_sm gp) {f : Int} (hf : ag_nm f = f) (hf1 : ¬ f = -1) (l : Int) (y : Option ag_V) (K : ag_Rs → ag_S → Prop) : ∀ (k i : Nat), i + k = m →
    ag_wp 133 84 [some (ag_R a), some (ag_I f), some (ag_I l), some (ag_I i), y] [] (ag_SM σ a ρ (ag_mg gb r gp t sg gh) (ag_mv th w n m nq np qu mi)) K = K (Sum.inl (some (ag_I (if ag_ff (fun i => decide (gp 3 i = 0 ∧ gp 0 i = 5 ∧ gp 1 i = f)) k i < m then ((ag_ff (fun i => decide (gp 3 i = 0 ∧ gp 0 i = 5 ∧ gp 1 i = f)) k i : Nat) : Int) else f)))) (ag_SM σ a ρ (ag_mg gb r gp t sg gh) (ag_mv th w n m nq np qu mi)) := by
  intro k
  induction k with
  | zero =>
    intro i hi
    rw [ag_i133_84]
    simp only [ag_i133_85, ag_i133_86, ag_i133_89, ag_i133_133, ag_i133_134, ag_mv_0, ag_mv_u0, ag_mv_1, ag_mv_u1, ag_mv_2, ag_mv_u2, ag_mv_3, ag_mv_u3, ag_mv_4, ag_mv_u4, ag_mv_5, ag_mv_u5, ag_mv_6, ag_mv_u6, ag_mv_7, ag_mv_u7, ag_mg_0, ag_mg_u0, ag_mg_1, ag_mg_u1, ag_mg_2, ag_mg_u2, ag_mg_3, ag_mg_u3, ag_mg_4, ag_mg_u4, ag_mg_5, ag_mg_u5, ag_mg_6, ag_mg_u6, ag_mg_7, ag_mg_u7, ag_mg_8, ag_mg_u8, ag_mg_9, ag_mg_u9, ag_mg_10, ag_mg_u10, ag_mg_11, ag_mg_u11, ag_mg_12, ag_mg_u12, ag_mg_13, ag_mg_u13, ag_mg_14, ag_mg_u14, ag_mg_15, ag_mg_u15, ag_mg_16, ag_mg_u16, ag_M_g0, ag_M_g1, ag_M_g2, ag_M_g3, ag_M_g4, ag_M_g5, ag_M_g6, ag_M_g7, ag_M_g8, ag_M_g9, ag_M_g10, ag_M_g11, ag_M_g12, ag_M_g13, ag_M_g14, ag_M_g15, ag_M_g16, ag_M_g17, ag_M_g18, ag_M_g19, ag_M_g20, ag_M_g21, ag_M_g22, ag_M_g23, ag_M_g24, ag_M_ck, ag_SM_2, ag_M_p0 h, ag_M_p1 h, ag_M_p2 h, ag_M_p3 h, ag_M_p16 h, ag_M_p18 h, ag_M_p19 h, ag_M_p24 h, ag_M_ia0 h, ag_M_is0 h, ag_M_al0 h, ag_M_ia1 h, ag_M_is1 h, ag_M_al1 h, ag_M_ia2 h, ag_M_is2 h, ag_M_al2 h, ag_M_ia3 h, ag_M_is3 h, ag_M_al3 h, ag_M_ia4 h, ag_M_is4 h, ag_M_al4 h, ag_M_ia5 h, ag_M_is5 h, ag_M_al5 h, ag_M_ia6 h, ag_M_is6 h, ag_M_al6 h, ag_M_ia7 h, ag_M_is7 h, ag_M_al7 h, ag_M_ia8 h, ag_M_is8 h, ag_M_al8 h, ag_M_ia9 h, ag_M_is9 h, ag_M_al9 h, ag_M_ia10 h, ag_M_is10 h, ag_M_al10 h, ag_M_ia11 h, ag_M_is11 h, ag_M_al11 h, ag_M_ia12 h, ag_M_is12 h, ag_M_al12 h, ag_M_ia13 h, ag_M_is13 h, ag_M_al13 h, ag_M_ia14 h, ag_M_is14 h, ag_M_al14 h, ag_M_ia15 h, ag_M_is15 h, ag_M_al15 h, ag_M_ia16 h, ag_M_is16 h, ag_M_al16 h, ag_kk_v, ag_kk_n, Nat.reduceAdd, ag_b0, ag_b1, true_and, or_true, true_or, Int.reduceEq, ne_eq, not_false_eq_true, not_true_eq_false, ↓reduceIte, ag_nm_nat (show i ≤ 1000000 by omega), ag_nm_nat (show m ≤ 1000000 by omega)]
    rw [if_pos (show (m : Int) ≤ i by omega), ag_ff, if_neg (show ¬ i < m by omega)]
  | succ k ih =>
    intro i hi
    have ib : ag_inb 20 (i : Int) := ag_inb_nat (by omega) (by decide)
    have hL := fun K => ag_R_isLaid (σ := σ) (gb := gb) (gh := gh) (r := r) (t := t) (sg := sg) (th := th) (qu := qu) (mi := mi) (w := w) (n := n) (m := m) (nq := nq) (np := np) h (show i < 20 by omega) hs K
    have h2 := ih (i + 1) (by omega)
    rw [ag_i133_84]
    simp only [ag_i133_85, ag_i133_86, ag_i133_89, ag_i133_92, ag_i133_93, ag_i133_94, ag_i133_97, ag_i133_98, ag_i133_99, ag_i133_102, ag_i133_105, ag_i133_106, ag_i133_109, ag_i133_110, ag_i133_111, ag_i133_112, ag_i133_115, ag_i133_116, ag_i133_119, ag_i133_120, ag_i133_121, ag_i133_122, ag_i133_125, ag_i133_126, ag_i133_127_n, ag_i133_127_i, ag_i133_127_r, ag_i133_130, ag_mv_0, ag_mv_u0, ag_mv_1, ag_mv_u1, ag_mv_2, ag_mv_u2, ag_mv_3, ag_mv_u3, ag_mv_4, ag_mv_u4, ag_mv_5, ag_mv_u5, ag_mv_6, ag_mv_u6, ag_mv_7, ag_mv_u7, ag_mg_0, ag_mg_u0, ag_mg_1, ag_mg_u1, ag_mg_2, ag_mg_u2, ag_mg_3, ag_mg_u3, ag_mg_4, ag_mg_u4, ag_mg_5, ag_mg_u5, ag_mg_6, ag_mg_u6, ag_mg_7, ag_mg_u7, ag_mg_8, ag_mg_u8, ag_mg_9, ag_mg_u9, ag_mg_10, ag_mg_u10, ag_mg_11, ag_mg_u11, ag_mg_12, ag_mg_u12, ag_mg_13, ag_mg_u13, ag_mg_14, ag_mg_u14, ag_mg_15, ag_mg_u15, ag_mg_16, ag_mg_u16, ag_M_g0, ag_M_g1, ag_M_g2, ag_M_g3, ag_M_g4, ag_M_g5, ag_M_g6, ag_M_g7, ag_M_g8, ag_M_g9, ag_M_g10, ag_M_g11, ag_M_g12, ag_M_g13, ag_M_g14, ag_M_g15, ag_M_g16, ag_M_g17, ag_M_g18, ag_M_g19, ag_M_g20, ag_M_g21, ag_M_g22, ag_M_g23, ag_M_g24, ag_M_ck, ag_SM_2, ag_M_p0 h, ag_M_p1 h, ag_M_p2 h, ag_M_p3 h, ag_M_p16 h, ag_M_p18 h, ag_M_p19 h, ag_M_p24 h, ag_M_ia0 h, ag_M_is0 h, ag_M_al0 h, ag_M_ia1 h, ag_M_is1 h, ag_M_al1 h, ag_M_ia2 h, ag_M_is2 h, ag_M_al2 h, ag_M_ia3 h, ag_M_is3 h, ag_M_al3 h, ag_M_ia4 h, ag_M_is4 h, ag_M_al4 h, ag_M_ia5 h, ag_M_is5 h, ag_M_al5 h, ag_M_ia6 h, ag_M_is6 h, ag_M_al6 h, ag_M_ia7 h, ag_M_is7 h, ag_M_al7 h, ag_M_ia8 h, ag_M_is8 h, ag_M_al8 h, ag_M_ia9 h, ag_M_is9 h, ag_M_al9 h, ag_M_ia10 h, ag_M_is10 h, ag_M_al10 h, ag_M_ia11 h, ag_M_is11 h, ag_M_al11 h, ag_M_ia12 h, ag_M_is12 h, ag_M_al12 h, ag_M_ia13 h, ag_M_is13 h, ag_M_al13 h, ag_M_ia14 h, ag_M_is14 h, ag_M_al14 h, ag_M_ia15 h, ag_M_is15 h, ag_M_al15 h, ag_M_ia16 h, ag_M_is16 h, ag_M_al16 h, ag_kk_v, ag_kk_n, Nat.reduceAdd, ag_b0, ag_b1, true_and, or_true, true_or, Int.reduceEq, ne_eq, not_false_eq_true, not_true_eq_false, ↓reduceIte, ag_nmk_2, ag_nmk_3, ag_nmk_4, ag_nmk_5, ag_nmk_7, ag_nmk_11, ag_nmk_12, ag_nmk_20, ag_nmk_99, ag_nmk_100, ag_nmk_300, ag_nmk_999, ag_nmk_9999, ag_nm_1, ag_nm_z, ag_nm_m, ag_nm_nat (show i ≤ 1000000 by omega), ag_nm_nat (show m ≤ 1000000 by omega), hL, ib, ag_rd_nat (show 20 ≤ 1000000 by decide) (show i < 20 by omega), ag_nm_g hs, hf, hf1]
    rw [if_neg (show ¬ (m : Int) ≤ i by omega), ag_ff]
    by_cases c1 : gp 3 i = 0
    · by_cases c2 : gp 0 i = 5
      · by_cases c3 : gp 1 i = f
        · rw [if_pos (show decide (gp 3 i = 0 ∧ gp 0 i = 5 ∧ gp 1 i = f) = true from decide_eq_true ⟨c1, c2, c3⟩), if_pos (show i < m by omega)]
          simp only [ag_if_t c1, c2, c3, ag_nmk_2, ag_nmk_3, ag_nmk_4, ag_nmk_5, ag_nmk_7, ag_nmk_11, ag_nmk_12, ag_nmk_20, ag_nmk_99, ag_nmk_100, ag_nmk_300, ag_nmk_999, ag_nmk_9999, ag_nm_1, ag_nm_z, ag_nm_m, ag_b0, ag_b1, true_and, or_true, true_or, Int.reduceEq, ne_eq, not_false_eq_true, not_true_eq_false, ↓reduceIte]
        · rw [if_neg (show ¬ decide (gp 3 i = 0 ∧ gp 0 i = 5 ∧ gp 1 i = f) = true from fun z => c3 (of_decide_eq_true z).2.2)]
          simp only [ag_if_t c1, c2, c3, ag_nmk_2, ag_nmk_3, ag_nmk_4, ag_nmk_5, ag_nmk_7, ag_nmk_11, ag_nmk_12, ag_nmk_20, ag_nmk_99, ag_nmk_100, ag_nmk_300, ag_nmk_999, ag_nmk_9999, ag_nm_1, ag_nm_z, ag_nm_m, ag_b0, ag_b1, true_and, or_true, true_or, Int.reduceEq, ne_eq, not_false_eq_true, not_true_eq_false, ↓reduceIte]
          exact h2
      · rw [if_neg (show ¬ decide (gp 3 i = 0 ∧ gp 0 i = 5 ∧ gp 1 i = f) = true from fun z => c2 (of_decide_eq_true z).2.1)]
        simp only [ag_if_t c1, c2, ag_nmk_2, ag_nmk_3, ag_nmk_4, ag_nmk_5, ag_nmk_7, ag_nmk_11, ag_nmk_12, ag_nmk_20, ag_nmk_99, ag_nmk_100, ag_nmk_300, ag_nmk_999, ag_nmk_9999, ag_nm_1, ag_nm_z, ag_nm_m, ag_b0, ag_b1, true_and, or_true, true_or, Int.reduceEq, ne_eq, not_false_eq_true, not_true_eq_false, ↓reduceIte]
        exact h2
    · rw [if_neg (show ¬ decide (gp 3 i = 0 ∧ gp 0 i = 5 ∧ gp 1 i = f) = true from fun z => c1 (of_decide_eq_true z).1)]
      simp only [ag_if_f c1, ag_nmk_2, ag_nmk_3, ag_nmk_4, ag_nmk_5, ag_nmk_7, ag_nmk_11, ag_nmk_12, ag_nmk_20, ag_nmk_99, ag_nmk_100, ag_nmk_300, ag_nmk_999, ag_nmk_9999, ag_nm_1, ag_nm_z, ag_nm_m, ag_b0, ag_b1, true_and, or_true, true_or, Int.reduceEq, ne_eq, not_false_eq_true, not_true_eq_false, ↓reduceIte]
      exact h2
theorem ag_R_nextNow (h : ag_mi a ρ N) (hV : ag_IV (gb, (w, (n, gp))) m) (hr : ∀ i, i < n → r i = gb 6 i) (K : ag_Rs → ag_S → Prop) : ag_cl9 133 [ag_R a] (ag_SM σ a ρ (ag_mg gb r gp t sg gh) (ag_mv th w n m nq np qu mi)) K = K (Sum.inl (some (ag_I (ag_nxt gb gp m)))) (ag_SM σ a ρ (ag_mg gb r gp t sg gh) (ag_mv th w n m nq np qu mi)) := by
  have hm : m ≤ 20 := hV.2.1.1.2.2
  have hs : ag_sm gp := hV.2.1.1.2.1
  obtain ⟨l', y', h1⟩ := ag_R_nx_loop (σ := σ) (gh := gh) (t := t) (sg := sg) (th := th) (qu := qu) (mi := mi) (nq := nq) (np := np) h hV hr m 0 (-1) 0 none (by omega) (Or.inl ⟨rfl, rfl⟩)
  have hfr := ag_fol_rg gb gp (m := m) m 0 (-1) (by omega) (by omega) (Or.inr rfl)
  simp only [ag_i133_0, ag_i133_1_n, ag_i133_1_i, ag_i133_1_r, ag_i133_2, ag_i133_3_n, ag_i133_3_i, ag_i133_3_r, ag_i133_4, ag_i133_5_n, ag_i133_5_i, ag_i133_5_r, ag_e133]
  refine Eq.trans (h1 K) ?_
  unfold ag_nxt
  dsimp only
  generalize ag_fol gb gp m 0 (-1) = f at hfr
  have hfn : ag_nm f = f := ag_nm_of (by omega) (by omega)
  by_cases q : f = -1
  · rw [if_pos q]
    subst q
    simp only [ag_i133_82, ag_i133_83_n, ag_i133_83_i, ag_i133_83_r]
    rw [ag_i133_84]
    simp only [ag_i133_85, ag_i133_86, ag_i133_89, ag_i133_92, ag_i133_93, ag_i133_94, ag_i133_133, ag_i133_134, ag_mv_0, ag_mv_u0, ag_mv_1, ag_mv_u1, ag_mv_2, ag_mv_u2, ag_mv_3, ag_mv_u3, ag_mv_4, ag_mv_u4, ag_mv_5, ag_mv_u5, ag_mv_6, ag_mv_u6, ag_mv_7, ag_mv_u7, ag_mg_0, ag_mg_u0, ag_mg_1, ag_mg_u1, ag_mg_2, ag_mg_u2, ag_mg_3, ag_mg_u3, ag_mg_4, ag_mg_u4, ag_mg_5, ag_mg_u5, ag_mg_6, ag_mg_u6, ag_mg_7, ag_mg_u7, ag_mg_8, ag_mg_u8, ag_mg_9, ag_mg_u9, ag_mg_10, ag_mg_u10, ag_mg_11, ag_mg_u11, ag_mg_12, ag_mg_u12, ag_mg_13, ag_mg_u13, ag_mg_14, ag_mg_u14, ag_mg_15, ag_mg_u15, ag_mg_16, ag_mg_u16, ag_M_g0, ag_M_g1, ag_M_g2, ag_M_g3, ag_M_g4, ag_M_g5, ag_M_g6, ag_M_g7, ag_M_g8, ag_M_g9, ag_M_g10, ag_M_g11, ag_M_g12, ag_M_g13, ag_M_g14, ag_M_g15, ag_M_g16, ag_M_g17, ag_M_g18, ag_M_g19, ag_M_g20, ag_M_g21, ag_M_g22, ag_M_g23, ag_M_g24, ag_M_ck, ag_SM_2, ag_M_p0 h, ag_M_p1 h, ag_M_p2 h, ag_M_p3 h, ag_M_p16 h, ag_M_p18 h, ag_M_p19 h, ag_M_p24 h, ag_M_ia0 h, ag_M_is0 h, ag_M_al0 h, ag_M_ia1 h, ag_M_is1 h, ag_M_al1 h, ag_M_ia2 h, ag_M_is2 h, ag_M_al2 h, ag_M_ia3 h, ag_M_is3 h, ag_M_al3 h, ag_M_ia4 h, ag_M_is4 h, ag_M_al4 h, ag_M_ia5 h, ag_M_is5 h, ag_M_al5 h, ag_M_ia6 h, ag_M_is6 h, ag_M_al6 h, ag_M_ia7 h, ag_M_is7 h, ag_M_al7 h, ag_M_ia8 h, ag_M_is8 h, ag_M_al8 h, ag_M_ia9 h, ag_M_is9 h, ag_M_al9 h, ag_M_ia10 h, ag_M_is10 h, ag_M_al10 h, ag_M_ia11 h, ag_M_is11 h, ag_M_al11 h, ag_M_ia12 h, ag_M_is12 h, ag_M_al12 h, ag_M_ia13 h, ag_M_is13 h, ag_M_al13 h, ag_M_ia14 h, ag_M_is14 h, ag_M_al14 h, ag_M_ia15 h, ag_M_is15 h, ag_M_al15 h, ag_M_ia16 h, ag_M_is16 h, ag_M_al16 h, ag_kk_v, ag_kk_n, Nat.reduceAdd, ag_b0, ag_b1, true_and, or_true, true_or, Int.reduceEq, ne_eq, not_false_eq_true, not_true_eq_false, ↓reduceIte, ag_nmk_2, ag_nmk_3, ag_nmk_4, ag_nmk_5, ag_nmk_7, ag_nmk_11, ag_nmk_12, ag_nmk_20, ag_nmk_99, ag_nmk_100, ag_nmk_300, ag_nmk_999, ag_nmk_9999, ag_nm_1, ag_nm_z, ag_nm_m, ag_nm_nat (show m ≤ 1000000 by omega), ite_self]
  · rw [if_neg q]
    have h2 := ag_R_nx2_loop (σ := σ) (gb := gb) (gp := gp) (gh := gh) (r := r) (t := t) (sg := sg) (th := th) (qu := qu) (mi := mi) (w := w) (n := n) (m := m) (nq := nq) (np := np) h hm hs hfn q l' y' K m 0 (by omega)
    simp only [ag_i133_82, ag_i133_83_n, ag_i133_83_i, ag_i133_83_r]
    exact h2
theorem ag_R_ip_loop (h : ag_mi a ρ N) (hn : np ≤ 5) (hs : ag_sm gh) {c x : Int} (hc : 0 ≤ c ∧ c < 20) (hx : ag_nm x = x) (K : ag_Rs → ag_S → Prop) : ∀ (k i : Nat) (s0 s1 : Int) (y : Option ag_V), i + k = np →
    ag_wp 141 8 [some (ag_R a), some (ag_I c), some (ag_I x), some (ag_I s0), some (ag_I s1), some (ag_I i), y] [] (ag_SM σ a ρ (ag_mg gb r gp t sg gh) (ag_mv th w n m nq np qu mi)) K = K (Sum.inl (some (ag_I (ag_cy (s0 + ag_su (fun i => if ag_vo gh c x i = 1 then gh 0 i else 0) k i) (s1 + ag_su (fun i => if ag_vo gh c x i = -1 then gh 0 i else 0) k i) (ag_su (gh 0) np 0) qu)))) (ag_SM σ a ρ (ag_mg gb r gp t sg gh) (ag_mv th w n m nq np qu mi)) := by
  intro k
  induction k with
  | zero =>
    intro i s0 s1 y hi
    have hS := fun K => ag_R_seats (σ := σ) (gb := gb) (gp := gp) (gh := gh) (r := r) (t := t) (sg := sg) (th := th) (qu := qu) (mi := mi) (w := w) (n := n) (m := m) (nq := nq) (np := np) h hn K
    rw [ag_i141_8]
    simp only [ag_i141_10, ag_i141_11, ag_i141_14, ag_i141_89, ag_i141_90, ag_i141_92, ag_i141_95, ag_i141_97, ag_i141_98, ag_i141_100, ag_i141_101, ag_i141_102, ag_i141_103, ag_i141_106, ag_i141_107, ag_i141_110, ag_i141_111, ag_i141_114, ag_i141_115, ag_i141_118, ag_i141_119, ag_mv_0, ag_mv_u0, ag_mv_1, ag_mv_u1, ag_mv_2, ag_mv_u2, ag_mv_3, ag_mv_u3, ag_mv_4, ag_mv_u4, ag_mv_5, ag_mv_u5, ag_mv_6, ag_mv_u6, ag_mv_7, ag_mv_u7, ag_mg_0, ag_mg_u0, ag_mg_1, ag_mg_u1, ag_mg_2, ag_mg_u2, ag_mg_3, ag_mg_u3, ag_mg_4, ag_mg_u4, ag_mg_5, ag_mg_u5, ag_mg_6, ag_mg_u6, ag_mg_7, ag_mg_u7, ag_mg_8, ag_mg_u8, ag_mg_9, ag_mg_u9, ag_mg_10, ag_mg_u10, ag_mg_11, ag_mg_u11, ag_mg_12, ag_mg_u12, ag_mg_13, ag_mg_u13, ag_mg_14, ag_mg_u14, ag_mg_15, ag_mg_u15, ag_mg_16, ag_mg_u16, ag_M_g0, ag_M_g1, ag_M_g2, ag_M_g3, ag_M_g4, ag_M_g5, ag_M_g6, ag_M_g7, ag_M_g8, ag_M_g9, ag_M_g10, ag_M_g11, ag_M_g12, ag_M_g13, ag_M_g14, ag_M_g15, ag_M_g16, ag_M_g17, ag_M_g18, ag_M_g19, ag_M_g20, ag_M_g21, ag_M_g22, ag_M_g23, ag_M_g24, ag_M_ck, ag_SM_2, ag_M_p0 h, ag_M_p1 h, ag_M_p2 h, ag_M_p3 h, ag_M_p16 h, ag_M_p18 h, ag_M_p19 h, ag_M_p24 h, ag_M_ia0 h, ag_M_is0 h, ag_M_al0 h, ag_M_ia1 h, ag_M_is1 h, ag_M_al1 h, ag_M_ia2 h, ag_M_is2 h, ag_M_al2 h, ag_M_ia3 h, ag_M_is3 h, ag_M_al3 h, ag_M_ia4 h, ag_M_is4 h, ag_M_al4 h, ag_M_ia5 h, ag_M_is5 h, ag_M_al5 h, ag_M_ia6 h, ag_M_is6 h, ag_M_al6 h, ag_M_ia7 h, ag_M_is7 h, ag_M_al7 h, ag_M_ia8 h, ag_M_is8 h, ag_M_al8 h, ag_M_ia9 h, ag_M_is9 h, ag_M_al9 h, ag_M_ia10 h, ag_M_is10 h, ag_M_al10 h, ag_M_ia11 h, ag_M_is11 h, ag_M_al11 h, ag_M_ia12 h, ag_M_is12 h, ag_M_al12 h, ag_M_ia13 h, ag_M_is13 h, ag_M_al13 h, ag_M_ia14 h, ag_M_is14 h, ag_M_al14 h, ag_M_ia15 h, ag_M_is15 h, ag_M_al15 h, ag_M_ia16 h, ag_M_is16 h, ag_M_al16 h, ag_kk_v, ag_kk_n, Nat.reduceAdd, ag_b0, ag_b1, true_and, or_true, true_or, Int.reduceEq, ne_eq, not_false_eq_true, not_true_eq_false, ↓reduceIte, hS, ag_nm_nat (show i ≤ 1000000 by omega), ag_nm_nat (show np ≤ 1000000 by omega)]
    rw [if_pos (show (np : Int) ≤ i by omega)]
    simp only [ag_su, Int.add_zero]
    unfold ag_cy
    rw [Int.mul_comm 100]
    split
    · rfl
    · split <;> rfl
  | succ k ih =>
    intro i s0 s1 y hi
    have ib : ag_inb 5 (i : Int) := ag_inb_nat (by omega) (by decide)
    have iv : ag_inb 100 ((i : Int) * 20 + c) := ag_inb_i (by omega) (by omega) (by decide)
    rw [ag_i141_8]
    simp only [ag_i141_10, ag_i141_11, ag_i141_14, ag_i141_17, ag_i141_19, ag_i141_20, ag_i141_23, ag_i141_24, ag_i141_27, ag_i141_28, ag_i141_31, ag_i141_33, ag_i141_35, ag_i141_36, ag_i141_37, ag_i141_38, ag_i141_39_n, ag_i141_39_i, ag_i141_39_r, ag_mv_0, ag_mv_u0, ag_mv_1, ag_mv_u1, ag_mv_2, ag_mv_u2, ag_mv_3, ag_mv_u3, ag_mv_4, ag_mv_u4, ag_mv_5, ag_mv_u5, ag_mv_6, ag_mv_u6, ag_mv_7, ag_mv_u7, ag_mg_0, ag_mg_u0, ag_mg_1, ag_mg_u1, ag_mg_2, ag_mg_u2, ag_mg_3, ag_mg_u3, ag_mg_4, ag_mg_u4, ag_mg_5, ag_mg_u5, ag_mg_6, ag_mg_u6, ag_mg_7, ag_mg_u7, ag_mg_8, ag_mg_u8, ag_mg_9, ag_mg_u9, ag_mg_10, ag_mg_u10, ag_mg_11, ag_mg_u11, ag_mg_12, ag_mg_u12, ag_mg_13, ag_mg_u13, ag_mg_14, ag_mg_u14, ag_mg_15, ag_mg_u15, ag_mg_16, ag_mg_u16, ag_M_g0, ag_M_g1, ag_M_g2, ag_M_g3, ag_M_g4, ag_M_g5, ag_M_g6, ag_M_g7, ag_M_g8, ag_M_g9, ag_M_g10, ag_M_g11, ag_M_g12, ag_M_g13, ag_M_g14, ag_M_g15, ag_M_g16, ag_M_g17, ag_M_g18, ag_M_g19, ag_M_g20, ag_M_g21, ag_M_g22, ag_M_g23, ag_M_g24, ag_M_ck, ag_SM_2, ag_M_p0 h, ag_M_p1 h, ag_M_p2 h, ag_M_p3 h, ag_M_p16 h, ag_M_p18 h, ag_M_p19 h, ag_M_p24 h, ag_M_ia0 h, ag_M_is0 h, ag_M_al0 h, ag_M_ia1 h, ag_M_is1 h, ag_M_al1 h, ag_M_ia2 h, ag_M_is2 h, ag_M_al2 h, ag_M_ia3 h, ag_M_is3 h, ag_M_al3 h, ag_M_ia4 h, ag_M_is4 h, ag_M_al4 h, ag_M_ia5 h, ag_M_is5 h, ag_M_al5 h, ag_M_ia6 h, ag_M_is6 h, ag_M_al6 h, ag_M_ia7 h, ag_M_is7 h, ag_M_al7 h, ag_M_ia8 h, ag_M_is8 h, ag_M_al8 h, ag_M_ia9 h, ag_M_is9 h, ag_M_al9 h, ag_M_ia10 h, ag_M_is10 h, ag_M_al10 h, ag_M_ia11 h, ag_M_is11 h, ag_M_al11 h, ag_M_ia12 h, ag_M_is12 h, ag_M_al12 h, ag_M_ia13 h, ag_M_is13 h, ag_M_al13 h, ag_M_ia14 h, ag_M_is14 h, ag_M_al14 h, ag_M_ia15 h, ag_M_is15 h, ag_M_al15 h, ag_M_ia16 h, ag_M_is16 h, ag_M_al16 h, ag_kk_v, ag_kk_n, Nat.reduceAdd, ag_b0, ag_b1, true_and, or_true, true_or, Int.reduceEq, ne_eq, not_false_eq_true, not_true_eq_false, ↓reduceIte, ag_nmk_2, ag_nmk_3, ag_nmk_4, ag_nmk_5, ag_nmk_7, ag_nmk_11, ag_nmk_12, ag_nmk_20, ag_nmk_99, ag_nmk_100, ag_nmk_300, ag_nmk_999, ag_nmk_9999, ag_nm_1, ag_nm_z, ag_nm_m, ag_nm_nat (show i ≤ 1000000 by omega), ag_nm_nat (show np ≤ 1000000 by omega), iv, hx]
    rw [if_neg (show ¬ (np : Int) ≤ i by omega)]
    have mm : ∀ z0 : Int, ag_nm z0 = z0 → ag_vo gh c x i = z0 → ag_wp 141 41 [some (ag_R a), some (ag_I c), some (ag_I x), some (ag_I s0), some (ag_I s1), some (ag_I i), some (ag_I z0)] [] (ag_SM σ a ρ (ag_mg gb r gp t sg gh) (ag_mv th w n m nq np qu mi)) K = K (Sum.inl (some (ag_I (ag_cy (s0 + ag_su (fun i => if ag_vo gh c x i = 1 then gh 0 i else 0) (k + 1) i) (s1 + ag_su (fun i => if ag_vo gh c x i = -1 then gh 0 i else 0) (k + 1) i) (ag_su (gh 0) np 0) qu)))) (ag_SM σ a ρ (ag_mg gb r gp t sg gh) (ag_mv th w n m nq np qu mi)) := by
      intro z0 hz e
      simp only [ag_su, e, ← Int.add_assoc]
      have h1 := ih (i + 1) (s0 + (if z0 = 1 then gh 0 i else 0)) (s1 + (if z0 = -1 then gh 0 i else 0)) (some (ag_I z0)) (by omega)
      rw [← h1]
      simp only [ag_i141_41, ag_i141_42, ag_i141_44, ag_i141_45, ag_i141_48, ag_i141_49, ag_i141_52, ag_i141_54, ag_i141_55, ag_i141_58, ag_i141_59, ag_i141_60_n, ag_i141_60_i, ag_i141_60_r, ag_i141_61, ag_i141_63, ag_i141_65, ag_i141_66, ag_i141_69, ag_i141_70, ag_i141_73, ag_i141_75, ag_i141_76, ag_i141_79, ag_i141_80, ag_i141_81_n, ag_i141_81_i, ag_i141_81_r, ag_i141_83_n, ag_i141_83_i, ag_i141_83_r, ag_i141_86, ag_mv_0, ag_mv_u0, ag_mv_1, ag_mv_u1, ag_mv_2, ag_mv_u2, ag_mv_3, ag_mv_u3, ag_mv_4, ag_mv_u4, ag_mv_5, ag_mv_u5, ag_mv_6, ag_mv_u6, ag_mv_7, ag_mv_u7, ag_mg_0, ag_mg_u0, ag_mg_1, ag_mg_u1, ag_mg_2, ag_mg_u2, ag_mg_3, ag_mg_u3, ag_mg_4, ag_mg_u4, ag_mg_5, ag_mg_u5, ag_mg_6, ag_mg_u6, ag_mg_7, ag_mg_u7, ag_mg_8, ag_mg_u8, ag_mg_9, ag_mg_u9, ag_mg_10, ag_mg_u10, ag_mg_11, ag_mg_u11, ag_mg_12, ag_mg_u12, ag_mg_13, ag_mg_u13, ag_mg_14, ag_mg_u14, ag_mg_15, ag_mg_u15, ag_mg_16, ag_mg_u16, ag_M_g0, ag_M_g1, ag_M_g2, ag_M_g3, ag_M_g4, ag_M_g5, ag_M_g6, ag_M_g7, ag_M_g8, ag_M_g9, ag_M_g10, ag_M_g11, ag_M_g12, ag_M_g13, ag_M_g14, ag_M_g15, ag_M_g16, ag_M_g17, ag_M_g18, ag_M_g19, ag_M_g20, ag_M_g21, ag_M_g22, ag_M_g23, ag_M_g24, ag_M_ck, ag_SM_2, ag_M_p0 h, ag_M_p1 h, ag_M_p2 h, ag_M_p3 h, ag_M_p16 h, ag_M_p18 h, ag_M_p19 h, ag_M_p24 h, ag_M_ia0 h, ag_M_is0 h, ag_M_al0 h, ag_M_ia1 h, ag_M_is1 h, ag_M_al1 h, ag_M_ia2 h, ag_M_is2 h, ag_M_al2 h, ag_M_ia3 h, ag_M_is3 h, ag_M_al3 h, ag_M_ia4 h, ag_M_is4 h, ag_M_al4 h, ag_M_ia5 h, ag_M_is5 h, ag_M_al5 h, ag_M_ia6 h, ag_M_is6 h, ag_M_al6 h, ag_M_ia7 h, ag_M_is7 h, ag_M_al7 h, ag_M_ia8 h, ag_M_is8 h, ag_M_al8 h, ag_M_ia9 h, ag_M_is9 h, ag_M_al9 h, ag_M_ia10 h, ag_M_is10 h, ag_M_al10 h, ag_M_ia11 h, ag_M_is11 h, ag_M_al11 h, ag_M_ia12 h, ag_M_is12 h, ag_M_al12 h, ag_M_ia13 h, ag_M_is13 h, ag_M_al13 h, ag_M_ia14 h, ag_M_is14 h, ag_M_al14 h, ag_M_ia15 h, ag_M_is15 h, ag_M_al15 h, ag_M_ia16 h, ag_M_is16 h, ag_M_al16 h, ag_kk_v, ag_kk_n, Nat.reduceAdd, ag_b0, ag_b1, true_and, or_true, true_or, Int.reduceEq, ne_eq, not_false_eq_true, not_true_eq_false, ↓reduceIte, ib, hz, ag_nm_1, ag_nm_m, ag_rd_nat (show 5 ≤ 1000000 by decide) (show i < 5 by omega)]
      by_cases hA : z0 = 1
      · subst hA
        simp
      · by_cases hB : z0 = -1
        · subst hB
          simp
        · simp [hA, hB]
    by_cases hix : (i : Int) = x
    · rw [if_neg (not_not_intro hix)]
      exact mm 0 ag_nm_z (by unfold ag_vo; rw [if_pos hix])
    · rw [if_pos hix]
      exact mm _ (ag_nm_rd hs _ _ _) (by unfold ag_vo; rw [if_neg hix])
theorem ag_R_isPassing (h : ag_mi a ρ N) (hn : np ≤ 5) (hs : ag_sm gh) {c x : Int} (hc : 0 ≤ c ∧ c < 20) (hx : ag_nm x = x) (K : ag_Rs → ag_S → Prop) : ag_cl9 141 [ag_R a, ag_I c, ag_I x] (ag_SM σ a ρ (ag_mg gb r gp t sg gh) (ag_mv th w n m nq np qu mi)) K = K (Sum.inl (some (ag_I (ag_car gh np qu c x)))) (ag_SM σ a ρ (ag_mg gb r gp t sg gh) (ag_mv th w n m nq np qu mi)) := by
  have := ag_R_ip_loop (σ := σ) (gb := gb) (gp := gp) (gh := gh) (r := r) (t := t) (sg := sg) (th := th) (qu := qu) (mi := mi) (w := w) (n := n) (m := m) (nq := nq) (np := np) h hn hs hc hx K np 0 0 0 none (by omega)
  simp only [Int.zero_add] at this
  simp only [ag_i141_0, ag_i141_1_n, ag_i141_1_i, ag_i141_1_r, ag_i141_2, ag_i141_3_n, ag_i141_3_i, ag_i141_3_r, ag_i141_5, ag_i141_6_n, ag_i141_6_i, ag_i141_6_r, ag_e141]
  exact this
end AGR3
