/-! THE HOUSE: vote and sit. -/
variable {B : Nat}
theorem ag_dv_mul {x y : Int} (hx : 0 ≤ x) (hx2 : x < 2147483648) (hy : 0 < y) (hy2 : y < 2147483648) : ag_dv x y * y ≤ x := by
  have e : ag_dv x y = x / y := by
    unfold ag_dv
    rw [Int32.toInt_div, Int32.toInt_ofInt_of_le (by omega) (by omega), Int32.toInt_ofInt_of_le (by omega) (by omega), Int.tdiv_eq_ediv_of_nonneg hx]
    have h1 : 0 ≤ x / y := Int.ediv_nonneg hx (by omega)
    have h2 : x / y ≤ x := Int.ediv_le_self y hx
    exact Int.bmod_eq_of_le (by omega) (by omega)
  rw [e]
  exact Int.ediv_mul_le x (by omega)
theorem ag_su_cg2 {f f' : Nat → Int} : ∀ (k i : Nat), (∀ j, i ≤ j → j < i + k → f j = f' j) → ag_su f k i = ag_su f' k i := by
  intro k
  induction k with
  | zero => intro i _; rfl
  | succ k ih =>
    intro i h
    show f i + ag_su f k (i + 1) = f' i + ag_su f' k (i + 1)
    rw [h i (Nat.le_refl _) (by omega), ih (i + 1) (fun j a b => h j (by omega) (by omega))]
theorem ag_su_sha {s al : Int} {f : Nat → Int} (hs : 0 ≤ s ∧ s ≤ 300) (ha : 0 < al) (ha2 : al ≤ 1000) : ∀ (k i : Nat), (∀ j, i ≤ j → j < i + k → 0 ≤ f j ∧ f j ≤ 99) → ag_su (fun j => ag_dv (s * f j) al) k i * al ≤ s * ag_su f k i := by
  intro k
  induction k with
  | zero =>
    intro i _
    show (0 : Int) * al ≤ s * 0
    omega
  | succ k ih =>
    intro i h
    have h0 := h i (Nat.le_refl _) (by omega)
    have h1 := ih (i + 1) (fun j a b => h j (by omega) (by omega))
    have p1 : 0 ≤ s * f i := Int.mul_nonneg hs.1 h0.1
    have p3 : s * f i ≤ 300 * 99 := Int.mul_le_mul hs.2 h0.2 h0.1 (by decide)
    have h2 := ag_dv_mul p1 (by omega) ha (by omega)
    show (ag_dv (s * f i) al + ag_su (fun j => ag_dv (s * f j) al) k (i + 1)) * al ≤ s * (f i + ag_su f k (i + 1))
    rw [Int.add_mul, Int.mul_add]
    omega
section AGAD
variable {σ : ag_S} {L ln : Nat → Nat} {g : Nat → Nat → Int} {dr qu mi : Int} {gb gp gh gq : Nat → Nat → Int} {w n m np nq k : Nat} {S : ag_T}
theorem ag_v_w (h : ag_HS B σ L ln g dr qu mi) (tv : ag_TV gh m ln g) (hm : m ≤ 20) {b p : Nat} (hb : b < m) (hp : p < 5) {v : Int} (v1 : -100000 ≤ v) (v2 : v ≤ 100000) :
    ∃ σ' g', ag_HS B σ' L ln g' dr qu mi ∧ ag_TV (ag_ug gh 3 (ag_ui (gh 3) (p * 20 + b) v)) m ln g' ∧ (∀ r, r ≠ 400 + b → g' r = g r) ∧ ag_hf B σ σ' 0 0 ∧ ∀ (x : Int) (K : ag_S → Prop), x = p → ag_is σ (L (400 + b)) x v K = K σ' := by
  have hlv := ag_v_lv tv hb
  have hl := (tv.2 b hb).1
  have hz := h.2.2.2.2.1 _ (Or.inr hlv)
  refine ⟨_, _, ag_HS_is h hlv p v1 v2, ⟨tv.1, fun b' hb' => ⟨(tv.2 b' hb').1, fun p' hp' => ?_⟩⟩, fun r hr => ag_ug_ne _ _ hr, ag_hf_up σ _ (Or.inr hz.1), fun x K hx => ?_⟩
  · have e := (tv.2 b' hb').2 p' hp'
    show ag_ug g (400 + b) (ag_ui (g (400 + b)) p v) (400 + b') p' = ag_ui (gh 3) (p * 20 + b) v (p' * 20 + b')
    unfold ag_ug ag_ui
    by_cases c1 : b' = b
    · subst c1
      rw [if_pos rfl]
      by_cases c2 : p' = p
      · subst c2
        rw [if_pos rfl, if_pos rfl]
      · rw [if_neg c2, if_neg (by omega)]
        exact e
    · rw [if_neg (show ¬ 400 + b' = 400 + b by omega), if_neg (by omega)]
      exact e
  · rw [ag_h_is h hlv (k := p) (by omega) (by omega) hx]
theorem ag_s_w7 (h : ag_HS B σ L ln g dr qu mi) (ts : ag_TS gh np ln g) (hn : np ≤ 5) {p : Nat} (hp : p < np) {v : Int} (v1 : -100000 ≤ v) (v2 : v ≤ 100000) :
    ∃ σ' g', ag_HS B σ' L ln g' dr qu mi ∧ ag_TS (ag_ug gh 1 (ag_ui (gh 1) p v)) np ln g' ∧ (∀ r, r ≠ 7 → g' r = g r) ∧ ag_hf B σ σ' 0 0 ∧ ∀ (x : Int) (K : ag_S → Prop), x = p → ag_is σ (L 7) x v K = K σ' := by
  have hlv : ag_hlv ln 7 := Or.inl (by decide)
  have hl := ts.2.1
  have hz := h.2.2.2.2.1 _ (Or.inr hlv)
  refine ⟨_, _, ag_HS_is h hlv p v1 v2, ⟨ts.1, ts.2.1, ts.2.2.1, fun p' hp' => ?_⟩, fun r hr => ag_ug_ne _ _ hr, ag_hf_up σ _ (Or.inr hz.1), fun x K hx => ?_⟩
  · obtain ⟨e0, e1, e2⟩ := ts.2.2.2 p' hp'
    refine ⟨?_, ?_, ?_⟩
    · rw [ag_ug_ne _ _ (by decide)]
      exact e0
    · rw [ag_ug_same]
      show ag_ui (g 7) p v p' = ag_ui (gh 1) p v p'
      unfold ag_ui
      by_cases c : p' = p
      · rw [if_pos c, if_pos c]
      · rw [if_neg c, if_neg c]
        exact e1
    · rw [ag_ug_ne _ _ (by decide)]
      exact e2
  · rw [ag_h_is h hlv (k := p) (by omega) (by omega) hx]
theorem ag_s_w8 (h : ag_HS B σ L ln g dr qu mi) (ts : ag_TS gh np ln g) (hn : np ≤ 5) {p : Nat} (hp : p < np) {v : Int} (v1 : -100000 ≤ v) (v2 : v ≤ 100000) :
    ∃ σ' g', ag_HS B σ' L ln g' dr qu mi ∧ ag_TS (ag_ug gh 2 (ag_ui (gh 2) p v)) np ln g' ∧ (∀ r, r ≠ 8 → g' r = g r) ∧ ag_hf B σ σ' 0 0 ∧ ∀ (x : Int) (K : ag_S → Prop), x = p → ag_is σ (L 8) x v K = K σ' := by
  have hlv : ag_hlv ln 8 := Or.inl (by decide)
  have hl := ts.2.2.1
  have hz := h.2.2.2.2.1 _ (Or.inr hlv)
  refine ⟨_, _, ag_HS_is h hlv p v1 v2, ⟨ts.1, ts.2.1, ts.2.2.1, fun p' hp' => ?_⟩, fun r hr => ag_ug_ne _ _ hr, ag_hf_up σ _ (Or.inr hz.1), fun x K hx => ?_⟩
  · obtain ⟨e0, e1, e2⟩ := ts.2.2.2 p' hp'
    refine ⟨?_, ?_, ?_⟩
    · rw [ag_ug_ne _ _ (by decide)]
      exact e0
    · rw [ag_ug_ne _ _ (by decide)]
      exact e1
    · rw [ag_ug_same]
      show ag_ui (g 8) p v p' = ag_ui (gh 2) p v p'
      unfold ag_ui
      by_cases c : p' = p
      · rw [if_pos c, if_pos c]
      · rw [if_neg c, if_neg c]
        exact e2
  · rw [ag_h_is h hlv (k := p) (by omega) (by omega) hx]
theorem ag_a_vote (hM : ag_M B σ dr qu mi S m gh np gq nq) (hU : ag_U S m gh np qu mi gq nq k) (hp1 : 1 ≤ np) (hd : dr ≤ 90000) :
    ∃ σ' dr' gh', ag_M B σ' dr' qu mi S m gh' np gq nq ∧ ag_U S m gh' np qu mi gq nq (k + 1) ∧ dr ≤ dr' ∧ dr' ≤ dr + 8 ∧ ag_af B σ σ' 1300 21000 ∧ ∀ K : ag_Rs → ag_S → Prop, ag_cl9 124 [ag_R B] σ K = K (Sum.inl (some (ag_I 1))) σ' := by
  obtain ⟨L, ln, g, T, mt, en, h, hX, hT, tc, ta, tv, tp, ts⟩ := hM
  obtain ⟨hV, hH, hQ, hv, hz, hp0, h9, hs3, hE⟩ := hU
  have hw40 : S.2.1 ≤ 40 := hV.1.1.2.2.2
  have hm : m ≤ 20 := hV.2.1.1.2.2
  have hn : np ≤ 5 := hH.2.1
  have hsp : ag_sm S.2.2.2 := hV.2.1.1.2.1
  have enm := fun k i => ag_nm_s hsp k i
  by_cases z : m = 0
  · refine ⟨σ, dr, gh, ⟨L, ln, g, T, mt, en, h, hX, hT, tc, ta, tv, tp, ts⟩, ag_U_k ⟨hV, hH, hQ, hv, hz, hp0, h9, hs3, hE⟩, by omega, by omega, ag_af_le (ag_af_hf (ag_hf_refl σ)) (by omega) (by omega), fun K => ?_⟩
    simp only [ag_e124, ag_i124_0, ag_i124_1, ag_h_g5 h, ag_i124_4, ag_h_a3 h, ta.1, ag_i124_5, ag_nm_nat (show m ≤ 1000000 by omega), ag_nm_z]
    rw [if_neg (show ¬ (m : Int) ≠ 0 by omega)]
    simp only [ag_i124_8, ag_i124_9, ag_b0, ag_b1, true_and, or_true, true_or, Int.reduceEq, ne_eq, not_false_eq_true, not_true_eq_false, ↓reduceIte]
  · obtain ⟨a, σ1, a1, h1, f1, o1, e1, d1⟩ := ag_w_draw h (by omega) (show 1 ≤ m by omega) (by omega)
    have hX1 := ag_hf_CX f1 hX
    -- one that is laid is sought
    have loop : ∀ (d j : Nat) (a : Nat), a < m → j + d = 20 → ∃ (b j' : Nat), b < m ∧ ∀ K : ag_Rs → ag_S → Prop, ag_wp 124 22 [some (ag_R B), some (ag_I (a : Int)), some (ag_I (j : Int)), none, none] [] σ1 K = ag_wp 124 55 [some (ag_R B), some (ag_I (b : Int)), some (ag_I (j' : Int)), none, none] [] σ1 K := by
      intro d
      induction d with
      | zero =>
        intro j a ha hj
        refine ⟨a, j, ha, fun K => ?_⟩
        rw [ag_i124_22]
        simp only [ag_i124_23, ag_i124_25, ag_nmk_20, ag_nm_nat (show j ≤ 1000000 by omega)]
        rw [if_pos (show (20 : Int) ≤ j by omega)]
      | succ d ih =>
        intro j a ha hj
        by_cases c1 : S.2.2.2 3 a = 0
        · refine ⟨a, j, ha, fun K => ?_⟩
          rw [ag_i124_22]
          simp only [ag_i124_23, ag_i124_25, ag_nmk_20, ag_nm_nat (show j ≤ 1000000 by omega)]
          rw [if_neg (show ¬ (20 : Int) ≤ j by omega)]
          simp only [ag_i124_28, ag_i124_29, ag_h_g5 h1, ag_i124_32, ag_i124_33, ag_a_q h1 ta ha (x := (a : Int)) rfl, ag_i124_34, ag_i124_35, ag_a_i3 h1 ta ha, ag_i124_36, enm, ag_nm_z]
          rw [if_pos c1]
        · have e0 : (Int32.ofInt (m : Int)).toInt = m := ag_nm_nat (by omega)
          have e2 : (Int32.ofInt ((a : Int) + 1)).toInt = (a : Int) + 1 := ag_nm_of (by omega) (by omega)
          have b := ag_i_rem (a := Int32.ofInt ((a : Int) + 1)) (b := Int32.ofInt (m : Int)) (by omega) (by omega)
          rw [e0] at b
          obtain ⟨r, hr⟩ : ∃ r : Nat, (Int32.ofInt ((a : Int) + 1) - Int32.ofInt ((a : Int) + 1) / Int32.ofInt (m : Int) * Int32.ofInt (m : Int)).toInt = r := ⟨(Int32.ofInt ((a : Int) + 1) - Int32.ofInt ((a : Int) + 1) / Int32.ofInt (m : Int) * Int32.ofInt (m : Int)).toInt.toNat, by omega⟩
          obtain ⟨b', j', q1, q2⟩ := ih (j + 1) r (by omega) (by omega)
          refine ⟨b', j', q1, fun K => ?_⟩
          rw [← q2 K, ag_i124_22]
          simp only [ag_i124_23, ag_i124_25, ag_nmk_20, ag_nm_nat (show j ≤ 1000000 by omega)]
          rw [if_neg (show ¬ (20 : Int) ≤ j by omega)]
          simp only [ag_i124_28, ag_i124_29, ag_h_g5 h1, ag_i124_32, ag_i124_33, ag_a_q h1 ta ha (x := (a : Int)) rfl, ag_i124_34, ag_i124_35, ag_a_i3 h1 ta ha, ag_i124_36, enm, ag_nm_z]
          rw [if_neg c1]
          simp only [ag_i124_39, ag_i124_40, ag_i124_41, ag_i124_42, ag_i124_43, ag_h_g5 h1, ag_i124_46, ag_h_a3 h1, ta.1, ag_i124_47, hr, ag_nm_nat (show m ≤ 1000000 by omega)]
          rw [show ((m : Int) ≠ 0) = True from by simp; omega, true_and]
          simp only [ag_i124_48_n, ag_i124_48_i, ag_i124_48_r, ag_i124_49_n, ag_i124_49_i, ag_i124_49_r, ag_i124_52]
          rfl
    obtain ⟨b, j', hb, hlp⟩ := loop 20 0 a a1 (Nat.zero_add _)
    have l0 : ∀ K : ag_Rs → ag_S → Prop, ag_wp 124 22 [some (ag_R B), some (ag_I (a : Int)), some (ag_I 0), none, none] [] σ1 K = ag_wp 124 55 [some (ag_R B), some (ag_I (b : Int)), some (ag_I (j' : Int)), none, none] [] σ1 K := hlp
    have pre : ∀ K : ag_Rs → ag_S → Prop, ag_cl9 124 [ag_R B] σ K = ag_wp 124 55 [some (ag_R B), some (ag_I (b : Int)), some (ag_I (j' : Int)), none, none] [] σ1 K := fun K => by
      simp only [ag_e124, ag_i124_0, ag_i124_1, ag_h_g5 h, ag_i124_4, ag_h_a3 h, ta.1, ag_i124_5, ag_nm_nat (show m ≤ 1000000 by omega), ag_nm_z]
      rw [if_pos (show (m : Int) ≠ 0 by omega)]
      simp only [ag_i124_10, ag_i124_11, ag_i124_12, ag_h_g5 h, ag_i124_15, ag_h_a3 h, ta.1, ag_i124_16, ag_h_ck h, d1, ag_kk_v, ag_kk_n, Nat.reduceAdd, ag_i124_19_n, ag_i124_19_i, ag_i124_19_r, ag_i124_20, ag_i124_21_n, ag_i124_21_i, ag_i124_21_r, l0]
    by_cases c1 : S.2.2.2 3 b = 0
    · obtain ⟨p, σ2, p1, h2, f2, o2, e2, d2⟩ := ag_w_draw h1 (by omega) hp1 (by omega)
      obtain ⟨v, σ3, v1, h3, f3, o3, e3, d3⟩ := ag_w_draw h2 (by omega) (show 1 ≤ 4 by decide) (by decide)
      have d3 : ∀ K : ag_Rs → ag_S → Prop, ag_cl9 96 [ag_R B, ag_I 4] σ2 K = K (Sum.inl (some (ag_I (v : Int)))) σ3 := d3
      -- what is voted
      have its : ∃ (x : Int) (σ4 : ag_S) (dr4 : Int), -1 ≤ x ∧ x ≤ 1 ∧ dr ≤ dr4 ∧ dr4 ≤ dr + 4 ∧ ag_HS B σ4 L ln g dr4 qu mi ∧ ag_hf B σ2 σ4 0 0 ∧ ∀ K : ag_Rs → ag_S → Prop, ag_wp 124 78 [some (ag_R B), some (ag_I (b : Int)), some (ag_I (p : Int)), none, none] [] σ2 K = ag_wp 124 98 [some (ag_R B), some (ag_I (b : Int)), some (ag_I (p : Int)), some (ag_I x), none] [] σ4 K := by
        by_cases c : v = 0
        · obtain ⟨y, σ4, y1, h4, f4, o4, e4, d4⟩ := ag_w_draw h3 (by omega) (show 1 ≤ 3 by decide) (by decide)
          have d4 : ∀ K : ag_Rs → ag_S → Prop, ag_cl9 96 [ag_R B, ag_I 3] σ3 K = K (Sum.inl (some (ag_I (y : Int)))) σ4 := d4
          refine ⟨(y : Int) - 1, σ4, dr + 1 + 1 + 1 + 1, by omega, by omega, by omega, by omega, h4, ag_hf_trans f3 f4, fun K => ?_⟩
          simp only [ag_i124_78, ag_i124_79, ag_i124_80, ag_h_ck h2, d3, ag_kk_v, ag_kk_n, Nat.reduceAdd, ag_i124_83, ag_nm_nat (show v ≤ 1000000 by omega), ag_nm_z]
          rw [if_neg (show ¬ (v : Int) ≠ 0 by omega)]
          simp only [ag_i124_86, ag_i124_87, ag_i124_88, ag_h_ck h3, d4, ag_kk_v, ag_kk_n, Nat.reduceAdd, ag_i124_91, ag_i124_92, ag_i124_93, ag_i124_97_n, ag_i124_97_i, ag_i124_97_r]
        · refine ⟨1, σ3, dr + 1 + 1 + 1, by omega, by omega, by omega, by omega, h3, f3, fun K => ?_⟩
          simp only [ag_i124_78, ag_i124_79, ag_i124_80, ag_h_ck h2, d3, ag_kk_v, ag_kk_n, Nat.reduceAdd, ag_i124_83, ag_nm_nat (show v ≤ 1000000 by omega), ag_nm_z]
          rw [if_pos (show (v : Int) ≠ 0 by omega)]
          simp only [ag_i124_96, ag_i124_97_n, ag_i124_97_i, ag_i124_97_r]
      obtain ⟨x, σ4, dr4, x1, x2, x3, x4, h4, f4, d4⟩ := its
      obtain ⟨σ5, g5, b1, b2, b3, b4, b5⟩ := ag_v_w h4 tv hm hb (p := p) (by omega) (v := x) (by omega) (by omega)
      have w5 := fun K => b5 (p : Int) K rfl
      have hX5 := ag_hf_CX b4 (ag_hf_CX f4 (ag_hf_CX f2 hX1))
      have hwr : ag_wr 100 (gh 3) ((p : Int) * 20 + (b : Int)) x = ag_ui (gh 3) (p * 20 + b) x := by
        rw [show (p : Int) * 20 + (b : Int) = ((p * 20 + b : Nat) : Int) by omega]
        exact ag_wr_nat x (by decide) (by omega)
      have hrd : ag_rd 100 (gh 3) ((p : Int) * 20 + (b : Int)) = gh 3 (p * 20 + b) := by
        rw [show (p : Int) * 20 + (b : Int) = ((p * 20 + b : Nat) : Int) by omega]
        exact ag_rd_nat (by decide) (by omega)
      have hkp : ag_kno np (p : Int) := ⟨by rw [ag_nm_nat (by omega)]; omega, by rw [ag_nm_nat (by omega)]; omega⟩
      have hkb : ag_kno m (b : Int) := ⟨by rw [ag_nm_nat (by omega)]; omega, by rw [ag_nm_nat (by omega)]; omega⟩
      have hlb : ag_lad S m (b : Int) := ⟨by rw [ag_nm_nat (by omega)]; omega, by rw [ag_nm_nat (by omega)]; omega, by rw [ag_rd_nat (by decide) (by omega)]; exact c1⟩
      have hP := fun K => ag_F_vote_3 hX5 hV hH hQ (p := (p : Int)) (a := (b : Int)) (x := x) (ag_nm_of (by omega) (by omega)) hkp hkb ⟨x1, x2⟩ hlb K
      rw [hwr, hrd] at hP
      have hHI := ag_HI_vote (i := (p : Int) * 20 + (b : Int)) hH ⟨x1, x2⟩
      rw [hwr] at hHI
      have hX6 := ag_CX_H (g := ag_ug gh 3 (ag_ui (gh 3) (p * 20 + b) x)) (v := ag_vH np qu mi) hX5
      have hFr := ag_Fr_H (B := B) σ5 (g := ag_ug gh 3 (ag_ui (gh 3) (p * 20 + b) x)) (v := ag_vH np qu mi)
      have h6 := ag_HS_Fr b1 hFr (Nat.le_refl _)
      have keep : ∀ r, r ≠ 400 + b → ln r = ln r ∧ g5 r = g r := fun r hr => ⟨rfl, b3 r hr⟩
      refine ⟨_, dr4, _, ⟨L, ln, g5, T, mt, en, h6, hX6, hT, ag_TC_eq hw40 (fun r hr => keep r (by omega)) tc, ag_TA_eq (by omega) (fun r hr => keep r (by omega)) ta, b2, ag_TP_eq (fun r hr => keep r (by omega)) tp, ag_TS_eq (gh := ag_ug gh 3 (ag_ui (gh 3) (p * 20 + b) x)) (fun r hr => keep r (by omega)) ts⟩, ag_U_k ⟨hV, hHI, hQ, fun j => ?_, fun p' b' hp' hb' hb2 => ?_, hp0, h9, hs3, hE⟩, x3, by omega, ag_af_le (ag_af_trans (ag_af_hf (ag_hf_trans f1 (ag_hf_trans f2 (ag_hf_trans f4 b4)))) (ag_af_Fr hFr rfl)) (by omega) (by omega), fun K => ?_⟩
      · show -1 ≤ ag_ui (gh 3) (p * 20 + b) x j ∧ ag_ui (gh 3) (p * 20 + b) x j ≤ 1
        unfold ag_ui
        split
        · exact ⟨x1, x2⟩
        · exact hv j
      · show ag_ui (gh 3) (p * 20 + b) x (p' * 20 + b') = 0
        rw [show ag_ui (gh 3) (p * 20 + b) x (p' * 20 + b') = gh 3 (p' * 20 + b') from if_neg (by omega)]
        exact hz p' b' hp' hb' hb2
      · have hvv : ∀ K : Int → Prop, ag_ia σ4 (L (400 + b)) (p : Int) K = K (gh 3 (p * 20 + b)) := fun K => ag_v_i h4 tv hb (by omega) rfl K
        have hvn : ag_nm (gh 3 (p * 20 + b)) = gh 3 (p * 20 + b) := by have := hv (p * 20 + b); exact ag_nm_of (by omega) (by omega)
        rw [pre K]
        simp only [ag_i124_55, ag_i124_56, ag_h_g5 h1, ag_i124_59, ag_i124_60, ag_a_q h1 ta hb (x := (b : Int)) rfl, ag_i124_61, ag_i124_62, ag_a_i3 h1 ta hb, ag_i124_63, enm, ag_nm_z]
        rw [if_pos c1]
        simp only [ag_i124_68, ag_i124_69, ag_i124_70, ag_h_g7 h1, ag_i124_73, ag_h_a6 h1, ts.1, ag_i124_74, ag_h_ck h1, d2, ag_kk_v, ag_kk_n, Nat.reduceAdd, ag_i124_77_n, ag_i124_77_i, ag_i124_77_r, d4, ag_i124_98, ag_i124_99, ag_h_g6 h4, ag_i124_102, ag_i124_103, ag_v_q h4 tv hb (x := (b : Int)) rfl, ag_i124_104, ag_i124_105, hvv, ag_i124_106_n, ag_i124_106_i, ag_i124_106_r, ag_i124_108, ag_i124_109, ag_h_g6 h4, ag_i124_112, ag_i124_113, ag_v_q h4 tv hb (x := (b : Int)) rfl, ag_i124_114, ag_i124_115, ag_i124_116, w5, ag_i124_117, ag_i124_118, ag_h_g0 b1, ag_i124_121, ag_i124_122, ag_i124_123, ag_i124_124, ag_X_o0 hX5, ag_X_o1 hX5, ag_X_o2 hX5, ag_X_o3 hX5, ag_X_o4 hX5, ag_X_oc hX5, ag_X_n0 hX5, ag_X_n1 hX5, ag_X_n2 hX5, ag_X_nc hX5, ag_X_t0 hX5, ag_X_t1 hX5, ag_X_t2 hX5, ag_X_tc hX5, ag_X_b0 hX5, ag_X_b1 hX5, ag_X_b2 hX5, ag_X_b3 hX5, ag_X_b4 hX5, ag_X_b5 hX5, ag_X_b6 hX5, ag_X_b7 hX5, ag_X_b8 hX5, ag_X_b9 hX5, ag_X_bc hX5, ag_X_p0 hX5, ag_X_p1 hX5, ag_X_p2 hX5, ag_X_p3 hX5, ag_X_p4 hX5, ag_X_p5 hX5, ag_X_p6 hX5, ag_X_pc hX5, ag_X_h0 hX5, ag_X_h1 hX5, ag_X_h2 hX5, ag_X_h3 hX5, ag_X_h4 hX5, ag_X_h5 hX5, ag_X_h6 hX5, ag_X_hc hX5, ag_X_q0 hX5, ag_X_q1 hX5, ag_X_q2 hX5, ag_X_qc hX5, ag_X_tb0 hX5, ag_X_tb1 hX5, ag_X_tb2 hX5, ag_X_tb3 hX5, ag_X_tb4 hX5, ag_X_tb5 hX5, ag_X_tb6 hX5, ag_X_tb7 hX5, ag_X_tb8 hX5, ag_X_tb9 hX5, ag_X_tbc hX5, ag_X_tp0 hX5, ag_X_tp1 hX5, ag_X_tp2 hX5, ag_X_tp3 hX5, ag_X_tp4 hX5, ag_X_tp5 hX5, ag_X_tp6 hX5, ag_X_tpc hX5, ag_X_ba0 hX5, ag_X_ba1 hX5, ag_X_ba2 hX5, ag_X_ba3 hX5, ag_X_ba4 hX5, ag_X_ba5 hX5, ag_X_ba6 hX5, ag_X_ba7 hX5, ag_X_pa0 hX5, ag_X_pa1 hX5, ag_X_pa2 hX5, ag_X_pa3 hX5, ag_X_pa4 hX5, ag_X_pa5 hX5, ag_X_ha0 hX5, ag_X_ha1 hX5, ag_X_ha2 hX5, ag_X_ha3 hX5, ag_X_qa0 hX5, ag_X_qa1 hX5, ag_X_tba0 hX5, ag_X_tba1 hX5, ag_X_tba2 hX5, ag_X_tba3 hX5, ag_X_tba4 hX5, ag_X_tba5 hX5, ag_X_tba6 hX5, ag_X_tba7 hX5, ag_X_tpa0 hX5, ag_X_tpa1 hX5, ag_X_tpa2 hX5, ag_X_tpa3 hX5, ag_X_tpa4 hX5, ag_X_tpa5 hX5, ag_X_ea hX5, hP, ag_kk_v, ag_kk_n, Nat.reduceAdd, ag_i124_127, ag_i124_129]
        rw [if_neg (by simp)]
        simp only [ag_i124_132, ag_i124_133, ag_i124_137, ag_b0, ag_b1, true_and, or_true, true_or, Int.reduceEq, ne_eq, not_false_eq_true, not_true_eq_false, ↓reduceIte]
    · refine ⟨σ1, dr + 1, gh, ⟨L, ln, g, T, mt, en, h1, hX1, hT, tc, ta, tv, tp, ts⟩, ag_U_k ⟨hV, hH, hQ, hv, hz, hp0, h9, hs3, hE⟩, by omega, by omega, ag_af_le (ag_af_hf f1) (by omega) (by omega), fun K => ?_⟩
      rw [pre K]
      simp only [ag_i124_55, ag_i124_56, ag_h_g5 h1, ag_i124_59, ag_i124_60, ag_a_q h1 ta hb (x := (b : Int)) rfl, ag_i124_61, ag_i124_62, ag_a_i3 h1 ta hb, ag_i124_63, enm, ag_nm_z]
      rw [if_neg c1]
      simp only [ag_i124_66, ag_i124_67, ag_b0, ag_b1, true_and, or_true, true_or, Int.reduceEq, ne_eq, not_false_eq_true, not_true_eq_false, ↓reduceIte]
theorem ag_a_sit (hM : ag_M B σ dr qu mi S m gh np gq nq) (hU : ag_U S m gh np qu mi gq nq k) (hp1 : 1 ≤ np) (hd : dr ≤ 90000) :
    ∃ σ' dr' gh' mi', 0 ≤ mi' ∧ ag_M B σ' dr' qu mi' S m gh' np gq nq ∧ ag_U S m gh' np qu mi' gq nq (k + 1) ∧ dr ≤ dr' ∧ dr' ≤ dr + 8 ∧ ag_af B σ σ' 1300 21000 ∧ ∀ K : ag_Rs → ag_S → Prop, ag_cl9 126 [ag_R B] σ K = K (Sum.inl (some (ag_I 1))) σ' := by
  obtain ⟨L, ln, g, T, mt, en, h, hX, hT, tc, ta, tv, tp, ts⟩ := hM
  obtain ⟨hV, hH, hQ, hv, hz, hp0, h9, hs3, hE⟩ := hU
  have hw40 : S.2.1 ≤ 40 := hV.1.1.2.2.2
  have hm : m ≤ 20 := hV.2.1.1.2.2
  have hn : np ≤ 5 := hH.2.1
  have hli := hH.2.2.2.1
  obtain ⟨v, σ1, v1, h1, f1, o1, e1, d1⟩ := ag_w_draw h (by omega) (show 1 ≤ 3 by decide) (by decide)
  have d1 : ∀ K : ag_Rs → ag_S → Prop, ag_cl9 96 [ag_R B, ag_I 3] σ K = K (Sum.inl (some (ag_I (v : Int)))) σ1 := d1
  have its : ∃ (x : Nat) (σ2 : ag_S), x ≤ 300 ∧ ag_HS B σ2 L ln g (dr + 1 + 1) qu mi ∧ ag_hf B σ1 σ2 0 0 ∧ ∀ K : ag_Rs → ag_S → Prop, ag_cl9 126 [ag_R B] σ K = ag_wp 126 25 [some (ag_R B), some (ag_I (x : Int)), none, none] [] σ2 K := by
    by_cases c : v = 0
    · obtain ⟨y, σ2, y1, h2, f2, o2, e2, d2⟩ := ag_w_draw h1 (by omega) (show 1 ≤ 10 by decide) (by decide)
      have d2 : ∀ K : ag_Rs → ag_S → Prop, ag_cl9 96 [ag_R B, ag_I 10] σ1 K = K (Sum.inl (some (ag_I (y : Int)))) σ2 := d2
      refine ⟨y, σ2, by omega, h2, f2, fun K => ?_⟩
      simp only [ag_e126, ag_i126_0, ag_i126_1, ag_i126_2, ag_h_ck h, d1, ag_kk_v, ag_kk_n, Nat.reduceAdd, ag_i126_5, ag_nm_nat (show v ≤ 1000000 by omega), ag_nm_z]
      rw [if_neg (show ¬ (v : Int) ≠ 0 by omega)]
      simp only [ag_i126_8, ag_i126_9, ag_i126_11, ag_h_ck h1, d2, ag_kk_v, ag_kk_n, Nat.reduceAdd, ag_i126_14, ag_i126_24_n, ag_i126_24_i, ag_i126_24_r]
    · obtain ⟨y, σ2, y1, h2, f2, o2, e2, d2⟩ := ag_w_draw h1 (by omega) (show 1 ≤ 301 by decide) (by decide)
      have d2 : ∀ K : ag_Rs → ag_S → Prop, ag_cl9 96 [ag_R B, ag_I 301] σ1 K = K (Sum.inl (some (ag_I (y : Int)))) σ2 := d2
      refine ⟨y, σ2, by omega, h2, f2, fun K => ?_⟩
      simp only [ag_e126, ag_i126_0, ag_i126_1, ag_i126_2, ag_h_ck h, d1, ag_kk_v, ag_kk_n, Nat.reduceAdd, ag_i126_5, ag_nm_nat (show v ≤ 1000000 by omega), ag_nm_z]
      rw [if_pos (show (v : Int) ≠ 0 by omega)]
      simp only [ag_i126_17, ag_i126_18, ag_i126_21, ag_h_ck h1, d2, ag_kk_v, ag_kk_n, Nat.reduceAdd, ag_i126_24_n, ag_i126_24_i, ag_i126_24_r]
  obtain ⟨x, σ2, x1, h2, f2, d2⟩ := its
  have hX2 := ag_hf_CX f2 (ag_hf_CX f1 hX)
  have h3 := ag_HS_ob h2 (dr' := dr + 1 + 1) (mi' := (x : Int)) h2.2.2.2.2.2.2.2.2.2.1 h2.2.2.2.2.2.2.2.2.2.2
  have p3 := fun K => ag_h_p11 h2 (x : Int) K
  have f3 : ag_hf B σ2 (ag_up σ2.1 B (ag_hob B L (dr + 1 + 1) qu (x : Int)), σ2.2) 0 0 := ag_hf_up σ2 _ (Or.inl rfl)
  generalize ((ag_up σ2.1 B (ag_hob B L (dr + 1 + 1) qu (x : Int)), σ2.2) : ag_S) = σ3 at h3 p3 f3
  have hal := ag_su_seats hH
  have hal1 : 1 ≤ ag_su (gh 0) np 0 := by
    have a := ag_su_one (g := gh 0) np 0 0 (fun i _ hi => by have := hH.2.2.2.2.1 i (by omega); omega) (Nat.zero_le _) (by omega)
    have b := hH.2.2.2.2.1 0 (by omega)
    omega
  -- the shares
  have loop : ∀ (d i : Nat) (σ3 : ag_S) (g3 : Nat → Nat → Int) (o2 : Int), i + d = np → ag_HS B σ3 L ln g3 (dr + 1 + 1) qu (x : Int) → ag_TS (ag_ug gh 1 (ag_sha gh (gh 1) (x : Int) (ag_su (gh 0) np 0) i)) np ln g3 →
      ∃ σ4 g4, ag_HS B σ4 L ln g4 (dr + 1 + 1) qu (x : Int) ∧ ag_TS (ag_ug gh 1 (ag_sha gh (gh 1) (x : Int) (ag_su (gh 0) np 0) np)) np ln g4 ∧ (∀ r, r ≠ 7 → g4 r = g3 r) ∧ ag_hf B σ3 σ4 0 0 ∧ ∀ K : ag_Rs → ag_S → Prop, ag_wp 126 41 [some (ag_R B), some (ag_I (x : Int)), some (ag_I o2), some (ag_I (i : Int))] [] σ3 K = ag_wp 126 75 [some (ag_R B), some (ag_I (x : Int)), some (ag_I o2), some (ag_I (np : Int))] [] σ4 K := by
    intro d
    induction d with
    | zero =>
      intro i σ3 g3 o2 hi h3 t3
      have hin : i = np := by omega
      subst hin
      refine ⟨σ3, g3, h3, t3, fun _ _ => rfl, ag_hf_refl σ3, fun K => ?_⟩
      rw [ag_i126_41]
      simp only [ag_i126_42, ag_i126_43, ag_h_g7 h3, ag_i126_46, ag_h_a6 h3, t3.1, ag_i126_47]
      rw [if_pos (Int.le_refl _)]
    | succ d ih =>
      intro i σ3 g3 o2 hi h3 t3
      have hin : i < np := by omega
      have hj := hH.2.2.2.2.1 i hin
      have ho := ag_su_one (g := gh 0) np 0 i (fun i _ hi => by have := hH.2.2.2.2.1 i (by omega); omega) (Nat.zero_le _) (by omega)
      have q1 : 0 ≤ (x : Int) * gh 0 i := Int.mul_nonneg (by omega) (by omega)
      have q2 : (x : Int) * gh 0 i ≤ (x : Int) * ag_su (gh 0) np 0 := Int.mul_le_mul_of_nonneg_left ho (by omega)
      have q3 : (x : Int) * gh 0 i ≤ 300 * 99 := Int.mul_le_mul (by omega) hj.2 (by omega) (by decide)
      have q4 := ag_dv_rg q1 (by omega) (show 0 < ag_su (gh 0) np 0 by omega) (by omega) q2
      obtain ⟨σ4, g4, a1, a2, a3, a4, a5⟩ := ag_s_w7 h3 t3 hn hin (v := ag_dv ((x : Int) * gh 0 i) (ag_su (gh 0) np 0)) (by omega) (by omega)
      have e9 : ag_ug (ag_ug gh 1 (ag_sha gh (gh 1) (x : Int) (ag_su (gh 0) np 0) i)) 1 (ag_ui (ag_ug gh 1 (ag_sha gh (gh 1) (x : Int) (ag_su (gh 0) np 0) i) 1) i (ag_dv ((x : Int) * gh 0 i) (ag_su (gh 0) np 0))) = ag_ug gh 1 (ag_sha gh (gh 1) (x : Int) (ag_su (gh 0) np 0) (i + 1)) := by
        rw [ag_ug_tw, ag_ug_same]
        congr 1
        funext y
        unfold ag_ui ag_sha
        by_cases c : y = i
        · rw [if_pos c, c, if_pos (by omega), if_pos (by omega)]
        · rw [if_neg c]
          by_cases c2 : y < i
          · rw [if_pos c2, if_pos (show 0 < ag_su (gh 0) np 0 by omega), if_pos (show y < i + 1 by omega)]
          · rw [if_neg c2, if_neg (by omega)]
      rw [e9] at a2
      obtain ⟨σ5, g5, b1, b2, b3, b4, b5⟩ := ih (i + 1) σ4 g4 o2 (by omega) a1 a2
      refine ⟨σ5, g5, b1, b2, fun r hr => (b3 r hr).trans (a3 r hr), ag_hf_trans a4 b4, fun K => ?_⟩
      have w7 := fun K => a5 (i : Int) K rfl
      have hall := fun K => ag_h_all h3 t3 hn K
      have hall : ∀ K : ag_Rs → ag_S → Prop, ag_cl9 125 [ag_R B] σ3 K = K (Sum.inl (some (ag_I (ag_su (gh 0) np 0)))) σ3 := hall
      have hs6 : ∀ K : Int → Prop, ag_ia σ3 (L 6) (i : Int) K = K (gh 0 i) := fun K => ag_s_i6 h3 t3 (by omega) hin rfl K
      have hdv : (Int32.ofInt ((x : Int) * gh 0 i) / Int32.ofInt (ag_su (gh 0) np 0)).toInt = ag_dv ((x : Int) * gh 0 i) (ag_su (gh 0) np 0) := rfl
      rw [← b5 K, ag_i126_41]
      simp only [ag_i126_42, ag_i126_43, ag_h_g7 h3, ag_i126_46, ag_h_a6 h3, t3.1, ag_i126_47, ag_nm_nat (show np ≤ 1000000 by omega), ag_nm_nat (show i ≤ 1000000 by omega)]
      rw [if_neg (show ¬ (np : Int) ≤ i by omega)]
      simp only [ag_i126_50, ag_i126_51, ag_h_g8 h3, ag_i126_54, ag_i126_55, ag_i126_56, ag_i126_57, ag_h_g7 h3, ag_i126_60, ag_i126_61, hs6, ag_i126_62, ag_i126_63, ag_i126_64, ag_h_ck h3, hall, ag_kk_v, ag_kk_n, Nat.reduceAdd, ag_i126_67, hdv]
      rw [show (ag_nm (ag_su (gh 0) np 0) ≠ 0) = True from by rw [ag_nm_of (by omega) (by omega)]; simp; omega, true_and]
      simp only [ag_i126_68, w7, ag_i126_69_n, ag_i126_69_i, ag_i126_69_r, ag_i126_72]
      rfl
  have ts3 : ag_TS (ag_ug gh 1 (ag_sha gh (gh 1) (x : Int) (ag_su (gh 0) np 0) 0)) np ln g := by
    have e : ag_sha gh (gh 1) (x : Int) (ag_su (gh 0) np 0) 0 = gh 1 := by
      funext y
      unfold ag_sha
      rw [if_neg (by omega)]
    rw [e, ag_ug_sf]
    exact ts
  obtain ⟨σ4, g4, a1, a2, a3, a4, a5⟩ := loop np 0 σ3 g (if ag_nm 0 < ag_nm mi then mi else 0) (Nat.zero_add _) h3 ts3
  have hX4 := ag_hf_CX a4 (ag_hf_CX f3 hX2)
  have hP := fun K => ag_F_sit_2 hX4 hV hH hQ (s := (x : Int)) (ag_nm_nat (by omega)) (by omega) (by omega) K
  have hX5 := ag_CX_H (g := ag_ug gh 1 (ag_sha gh (gh 1) (x : Int) (ag_su (gh 0) np 0) np)) (v := ag_vH np qu (x : Int)) hX4
  have hFr := ag_Fr_H (B := B) σ4 (g := ag_ug gh 1 (ag_sha gh (gh 1) (x : Int) (ag_su (gh 0) np 0) np)) (v := ag_vH np qu (x : Int))
  have h5 := ag_HS_Fr a1 hFr (Nat.le_refl _)
  have keep : ∀ r, r ≠ 7 → ln r = ln r ∧ g4 r = g r := fun r hr => ⟨rfl, a3 r hr⟩
  have hsum : ag_su (ag_sha gh (gh 1) (x : Int) (ag_su (gh 0) np 0) np) np 0 ≤ 300 := by
    rw [ag_su_cg2 (f' := fun j => ag_dv ((x : Int) * gh 0 j) (ag_su (gh 0) np 0)) np 0 (fun j _ hj => by
      unfold ag_sha
      rw [if_pos (by omega), if_pos (by omega)])]
    have q := ag_su_sha (s := (x : Int)) (al := ag_su (gh 0) np 0) (f := gh 0) (by omega) (by omega) (by omega) np 0 (fun j _ hj => by have := hH.2.2.2.2.1 j (by omega); omega)
    have q2 := Int.le_of_mul_le_mul_right q (by omega)
    omega
  refine ⟨_, dr + 1 + 1, _, (x : Int), by omega, ⟨L, ln, g4, T, mt, en, h5, hX5, hT, ag_TC_eq hw40 (fun r hr => keep r (by omega)) tc, ag_TA_eq (by omega) (fun r hr => keep r (by omega)) ta, ag_TV_eq (gh := ag_ug gh 1 (ag_sha gh (gh 1) (x : Int) (ag_su (gh 0) np 0) np)) (by omega) (fun r hr => keep r (by omega)) tv, ag_TP_eq (fun r hr => keep r (by omega)) tp, a2⟩, ⟨hV, ag_HI_sit hH (by omega) (by omega), hQ, hv, hz, fun p hp => ⟨?_, (hp0 p hp).2⟩, ag_sp9_gh h9 rfl (Or.inr (by omega)), hsum, hE⟩, by omega, by omega, ag_af_le (ag_af_trans (ag_af_hf (ag_hf_trans f1 (ag_hf_trans f2 (ag_hf_trans f3 a4)))) (ag_af_Fr hFr rfl)) (by omega) (by omega), fun K => ?_⟩
  · show ag_sha gh (gh 1) (x : Int) (ag_su (gh 0) np 0) np p = 0
    unfold ag_sha
    rw [if_neg (by omega)]
    exact (hp0 p hp).1
  · have a5 : ∀ K : ag_Rs → ag_S → Prop, ag_wp 126 41 [some (ag_R B), some (ag_I (x : Int)), some (ag_I (if ag_nm 0 < ag_nm mi then mi else 0)), some (ag_I 0)] [] σ3 K = ag_wp 126 75 [some (ag_R B), some (ag_I (x : Int)), some (ag_I (if ag_nm 0 < ag_nm mi then mi else 0)), some (ag_I (np : Int))] [] σ4 K := a5
    rw [d2 K]
    simp only [ag_i126_25, ag_i126_26, ag_i126_27, ag_h_g11 h2, ag_i126_30, ag_i126_33_n, ag_i126_33_i, ag_i126_33_r, ag_i126_34, ag_i126_35, ag_i126_36, p3, ag_i126_39, ag_i126_40_n, ag_i126_40_i, ag_i126_40_r, a5, ag_i126_75, ag_i126_76, ag_h_g0 a1, ag_i126_79, ag_i126_80, ag_X_o0 hX4, ag_X_o1 hX4, ag_X_o2 hX4, ag_X_o3 hX4, ag_X_o4 hX4, ag_X_oc hX4, ag_X_n0 hX4, ag_X_n1 hX4, ag_X_n2 hX4, ag_X_nc hX4, ag_X_t0 hX4, ag_X_t1 hX4, ag_X_t2 hX4, ag_X_tc hX4, ag_X_b0 hX4, ag_X_b1 hX4, ag_X_b2 hX4, ag_X_b3 hX4, ag_X_b4 hX4, ag_X_b5 hX4, ag_X_b6 hX4, ag_X_b7 hX4, ag_X_b8 hX4, ag_X_b9 hX4, ag_X_bc hX4, ag_X_p0 hX4, ag_X_p1 hX4, ag_X_p2 hX4, ag_X_p3 hX4, ag_X_p4 hX4, ag_X_p5 hX4, ag_X_p6 hX4, ag_X_pc hX4, ag_X_h0 hX4, ag_X_h1 hX4, ag_X_h2 hX4, ag_X_h3 hX4, ag_X_h4 hX4, ag_X_h5 hX4, ag_X_h6 hX4, ag_X_hc hX4, ag_X_q0 hX4, ag_X_q1 hX4, ag_X_q2 hX4, ag_X_qc hX4, ag_X_tb0 hX4, ag_X_tb1 hX4, ag_X_tb2 hX4, ag_X_tb3 hX4, ag_X_tb4 hX4, ag_X_tb5 hX4, ag_X_tb6 hX4, ag_X_tb7 hX4, ag_X_tb8 hX4, ag_X_tb9 hX4, ag_X_tbc hX4, ag_X_tp0 hX4, ag_X_tp1 hX4, ag_X_tp2 hX4, ag_X_tp3 hX4, ag_X_tp4 hX4, ag_X_tp5 hX4, ag_X_tp6 hX4, ag_X_tpc hX4, ag_X_ba0 hX4, ag_X_ba1 hX4, ag_X_ba2 hX4, ag_X_ba3 hX4, ag_X_ba4 hX4, ag_X_ba5 hX4, ag_X_ba6 hX4, ag_X_ba7 hX4, ag_X_pa0 hX4, ag_X_pa1 hX4, ag_X_pa2 hX4, ag_X_pa3 hX4, ag_X_pa4 hX4, ag_X_pa5 hX4, ag_X_ha0 hX4, ag_X_ha1 hX4, ag_X_ha2 hX4, ag_X_ha3 hX4, ag_X_qa0 hX4, ag_X_qa1 hX4, ag_X_tba0 hX4, ag_X_tba1 hX4, ag_X_tba2 hX4, ag_X_tba3 hX4, ag_X_tba4 hX4, ag_X_tba5 hX4, ag_X_tba6 hX4, ag_X_tba7 hX4, ag_X_tpa0 hX4, ag_X_tpa1 hX4, ag_X_tpa2 hX4, ag_X_tpa3 hX4, ag_X_tpa4 hX4, ag_X_tpa5 hX4, ag_X_ea hX4, hP, ag_kk_v, ag_kk_n, Nat.reduceAdd, ag_i126_83, ag_i126_84]
    have em : ag_nm mi = mi := ag_nm_of (by omega) (by omega)
    have eq9 : ag_nm (if mi = -1 then 0 else mi) = ag_nm (if ag_nm 0 < ag_nm mi then mi else 0) := by
      rw [em, ag_nm_z]
      congr 1
      by_cases c : mi = -1
      · rw [if_pos c, if_neg (by omega)]
      · rw [if_neg c]
        by_cases c2 : 0 < mi
        · rw [if_pos c2]
        · rw [if_neg c2]
          omega
    rw [if_neg (fun y => y eq9)]
    simp only [ag_i126_87, ag_i126_88, ag_i126_92, ag_b0, ag_b1, true_and, or_true, true_or, Int.reduceEq, ne_eq, not_false_eq_true, not_true_eq_false, ↓reduceIte]
end AGAD
