/-! THE CLASS's face: what would be (its calls), digest. -/
variable {B : Nat}
def ag_fld (F : Nat → Int → Int) : Nat → Nat → Int → Int
  | 0, _, d => d
  | k + 1, i, d => ag_fld F k (i + 1) (F i d)
/-- one more value -/
def ag_d1 (d v : Int) : Int := d * 31 + ag_nm v
theorem ag_fl_congr {F G : Nat → Int → Int} : ∀ (k i : Nat) (d : Int), (∀ j e, i ≤ j → j < i + k → F j e = G j e) → ag_fld F k i d = ag_fld G k i d := by
  intro k
  induction k with
  | zero => intro i d _; rfl
  | succ k ih =>
    intro i d h
    rw [ag_fld, ag_fld, h i d (Nat.le_refl _) (by omega)]
    exact ih (i + 1) _ (fun j e a b => h j e (by omega) (by omega))
section AGDG
variable {τ : ag_S} {gh gq : Nat → Nat → Int} {np nq : Nat} {qu li : Int} {S : ag_T} {m : Nat} {T : ag_T} {mt : Nat} {en : Nat → Int}
theorem ag_F_dg1 (hX : ag_CX B τ (gh, ag_vH np qu li) (gq, ag_vP nq) S m T mt en) (hV : ag_IV S m) (hH : ag_HI gh np qu li) (hQ : ag_QI gq S.1 S.2.1 nq) (K : ag_Rs → ag_S → Prop) (y : Option ag_V) : ∀ (k i : Nat) (d : Int), i + k = 12 →
    ag_wp 82 6 [some (ag_R (B + 1)), some (ag_L d), none, some (ag_I i), y] [] τ K = ag_wp 82 31 [some (ag_R (B + 1)), some (ag_L (ag_fld (fun i d => ag_d1 d (ag_hmy gh np li gq nq S m i)) k i d)), none, some (ag_I 12), y] [] τ K := by
  intro k
  induction k with
  | zero =>
    intro i d hi
    rw [ag_i82_6]
    simp only [ag_i82_7, ag_i82_9, ag_kk_v, ag_kk_n, Nat.reduceAdd, ag_b0, ag_b1, true_and, or_true, true_or, Int.reduceEq, ne_eq, not_false_eq_true, not_true_eq_false, ↓reduceIte, ag_nmk_2, ag_nmk_3, ag_nmk_4, ag_nmk_5, ag_nmk_7, ag_nmk_11, ag_nmk_12, ag_nmk_20, ag_nmk_99, ag_nmk_100, ag_nmk_300, ag_nmk_999, ag_nmk_9999, ag_nm_1, ag_nm_z, ag_nm_m, ag_nm_nat (show i ≤ 1000000 by omega)]
    rw [if_pos (show (11 : Int) < i by omega), show (i : Int) = 12 by omega]
    rfl
  | succ k ih =>
    intro i d hi
    have hf := fun K => ag_F_howMany hX hV hH hQ (show i ≤ 11 by omega) K
    rw [ag_i82_6]
    simp only [ag_i82_7, ag_i82_9, ag_i82_12, ag_i82_13, ag_i82_16, ag_i82_17, ag_i82_18, ag_i82_19, ag_i82_22, ag_i82_23, ag_i82_24_n, ag_i82_24_i, ag_i82_24_r, ag_i82_25_n, ag_i82_25_i, ag_i82_25_r, ag_i82_28, ag_X_o0 hX, ag_X_o1 hX, ag_X_o2 hX, ag_X_o3 hX, ag_X_o4 hX, ag_X_oc hX, ag_X_n0 hX, ag_X_n1 hX, ag_X_n2 hX, ag_X_nc hX, ag_X_t0 hX, ag_X_t1 hX, ag_X_t2 hX, ag_X_tc hX, ag_X_b0 hX, ag_X_b1 hX, ag_X_b2 hX, ag_X_b3 hX, ag_X_b4 hX, ag_X_b5 hX, ag_X_b6 hX, ag_X_b7 hX, ag_X_b8 hX, ag_X_b9 hX, ag_X_bc hX, ag_X_p0 hX, ag_X_p1 hX, ag_X_p2 hX, ag_X_p3 hX, ag_X_p4 hX, ag_X_p5 hX, ag_X_p6 hX, ag_X_pc hX, ag_X_h0 hX, ag_X_h1 hX, ag_X_h2 hX, ag_X_h3 hX, ag_X_h4 hX, ag_X_h5 hX, ag_X_h6 hX, ag_X_hc hX, ag_X_q0 hX, ag_X_q1 hX, ag_X_q2 hX, ag_X_qc hX, ag_X_tb0 hX, ag_X_tb1 hX, ag_X_tb2 hX, ag_X_tb3 hX, ag_X_tb4 hX, ag_X_tb5 hX, ag_X_tb6 hX, ag_X_tb7 hX, ag_X_tb8 hX, ag_X_tb9 hX, ag_X_tbc hX, ag_X_tp0 hX, ag_X_tp1 hX, ag_X_tp2 hX, ag_X_tp3 hX, ag_X_tp4 hX, ag_X_tp5 hX, ag_X_tp6 hX, ag_X_tpc hX, ag_X_ba0 hX, ag_X_ba1 hX, ag_X_ba2 hX, ag_X_ba3 hX, ag_X_ba4 hX, ag_X_ba5 hX, ag_X_ba6 hX, ag_X_ba7 hX, ag_X_pa0 hX, ag_X_pa1 hX, ag_X_pa2 hX, ag_X_pa3 hX, ag_X_pa4 hX, ag_X_pa5 hX, ag_X_ha0 hX, ag_X_ha1 hX, ag_X_ha2 hX, ag_X_ha3 hX, ag_X_qa0 hX, ag_X_qa1 hX, ag_X_tba0 hX, ag_X_tba1 hX, ag_X_tba2 hX, ag_X_tba3 hX, ag_X_tba4 hX, ag_X_tba5 hX, ag_X_tba6 hX, ag_X_tba7 hX, ag_X_tpa0 hX, ag_X_tpa1 hX, ag_X_tpa2 hX, ag_X_tpa3 hX, ag_X_tpa4 hX, ag_X_tpa5 hX, ag_X_ea hX, hf, ag_kk_v, ag_kk_n, Nat.reduceAdd, ag_b0, ag_b1, true_and, or_true, true_or, Int.reduceEq, ne_eq, not_false_eq_true, not_true_eq_false, ↓reduceIte, ag_nmk_2, ag_nmk_3, ag_nmk_4, ag_nmk_5, ag_nmk_7, ag_nmk_11, ag_nmk_12, ag_nmk_20, ag_nmk_99, ag_nmk_100, ag_nmk_300, ag_nmk_999, ag_nmk_9999, ag_nm_1, ag_nm_z, ag_nm_m, ag_nm_nat (show i ≤ 1000000 by omega)]
    rw [if_neg (show ¬ (11 : Int) < i by omega), ag_fld]
    exact ih (i + 1) _ (by omega)
theorem ag_F_dg2 (hX : ag_CX B τ (gh, ag_vH np qu li) (gq, ag_vP nq) S m T mt en) (hn : S.2.2.1 ≤ 40) (K : ag_Rs → ag_S → Prop) (y : Option ag_V) : ∀ (k i : Nat) (d : Int), i + k = S.2.2.1 →
    ag_wp 82 33 [some (ag_R (B + 1)), some (ag_L d), none, some (ag_I i), y] [] τ K = ag_wp 82 75 [some (ag_R (B + 1)), some (ag_L (ag_fld (fun i d => ag_d1 d (S.1 6 i)) k i d)), none, some (ag_I S.2.2.1), y] [] τ K := by
  intro k
  induction k with
  | zero =>
    intro i d hi
    rw [ag_i82_33]
    simp only [ag_i82_34, ag_i82_35, ag_i82_38, ag_i82_41, ag_i82_44, ag_X_o0 hX, ag_X_o1 hX, ag_X_o2 hX, ag_X_o3 hX, ag_X_o4 hX, ag_X_oc hX, ag_X_n0 hX, ag_X_n1 hX, ag_X_n2 hX, ag_X_nc hX, ag_X_t0 hX, ag_X_t1 hX, ag_X_t2 hX, ag_X_tc hX, ag_X_b0 hX, ag_X_b1 hX, ag_X_b2 hX, ag_X_b3 hX, ag_X_b4 hX, ag_X_b5 hX, ag_X_b6 hX, ag_X_b7 hX, ag_X_b8 hX, ag_X_b9 hX, ag_X_bc hX, ag_X_p0 hX, ag_X_p1 hX, ag_X_p2 hX, ag_X_p3 hX, ag_X_p4 hX, ag_X_p5 hX, ag_X_p6 hX, ag_X_pc hX, ag_X_h0 hX, ag_X_h1 hX, ag_X_h2 hX, ag_X_h3 hX, ag_X_h4 hX, ag_X_h5 hX, ag_X_h6 hX, ag_X_hc hX, ag_X_q0 hX, ag_X_q1 hX, ag_X_q2 hX, ag_X_qc hX, ag_X_tb0 hX, ag_X_tb1 hX, ag_X_tb2 hX, ag_X_tb3 hX, ag_X_tb4 hX, ag_X_tb5 hX, ag_X_tb6 hX, ag_X_tb7 hX, ag_X_tb8 hX, ag_X_tb9 hX, ag_X_tbc hX, ag_X_tp0 hX, ag_X_tp1 hX, ag_X_tp2 hX, ag_X_tp3 hX, ag_X_tp4 hX, ag_X_tp5 hX, ag_X_tp6 hX, ag_X_tpc hX, ag_X_ba0 hX, ag_X_ba1 hX, ag_X_ba2 hX, ag_X_ba3 hX, ag_X_ba4 hX, ag_X_ba5 hX, ag_X_ba6 hX, ag_X_ba7 hX, ag_X_pa0 hX, ag_X_pa1 hX, ag_X_pa2 hX, ag_X_pa3 hX, ag_X_pa4 hX, ag_X_pa5 hX, ag_X_ha0 hX, ag_X_ha1 hX, ag_X_ha2 hX, ag_X_ha3 hX, ag_X_qa0 hX, ag_X_qa1 hX, ag_X_tba0 hX, ag_X_tba1 hX, ag_X_tba2 hX, ag_X_tba3 hX, ag_X_tba4 hX, ag_X_tba5 hX, ag_X_tba6 hX, ag_X_tba7 hX, ag_X_tpa0 hX, ag_X_tpa1 hX, ag_X_tpa2 hX, ag_X_tpa3 hX, ag_X_tpa4 hX, ag_X_tpa5 hX, ag_X_ea hX, ag_kk_v, ag_kk_n, Nat.reduceAdd, ag_b0, ag_b1, true_and, or_true, true_or, Int.reduceEq, ne_eq, not_false_eq_true, not_true_eq_false, ↓reduceIte, ag_nmk_2, ag_nmk_3, ag_nmk_4, ag_nmk_5, ag_nmk_7, ag_nmk_11, ag_nmk_12, ag_nmk_20, ag_nmk_99, ag_nmk_100, ag_nmk_300, ag_nmk_999, ag_nmk_9999, ag_nm_1, ag_nm_z, ag_nm_m, ag_nm_nat (show i ≤ 1000000 by omega), ag_nm_nat (show S.2.2.1 ≤ 1000000 by omega)]
    rw [if_pos (show (S.2.2.1 : Int) ≤ i by omega), show (i : Int) = S.2.2.1 by omega]
    rfl
  | succ k ih =>
    intro i d hi
    rw [ag_i82_33]
    simp only [ag_i82_34, ag_i82_35, ag_i82_38, ag_i82_41, ag_i82_44, ag_i82_47, ag_i82_48, ag_i82_51, ag_i82_52, ag_i82_53, ag_i82_56, ag_i82_59, ag_i82_62, ag_i82_63, ag_i82_66, ag_i82_67, ag_i82_68_n, ag_i82_68_i, ag_i82_68_r, ag_i82_69_n, ag_i82_69_i, ag_i82_69_r, ag_i82_72, ag_X_o0 hX, ag_X_o1 hX, ag_X_o2 hX, ag_X_o3 hX, ag_X_o4 hX, ag_X_oc hX, ag_X_n0 hX, ag_X_n1 hX, ag_X_n2 hX, ag_X_nc hX, ag_X_t0 hX, ag_X_t1 hX, ag_X_t2 hX, ag_X_tc hX, ag_X_b0 hX, ag_X_b1 hX, ag_X_b2 hX, ag_X_b3 hX, ag_X_b4 hX, ag_X_b5 hX, ag_X_b6 hX, ag_X_b7 hX, ag_X_b8 hX, ag_X_b9 hX, ag_X_bc hX, ag_X_p0 hX, ag_X_p1 hX, ag_X_p2 hX, ag_X_p3 hX, ag_X_p4 hX, ag_X_p5 hX, ag_X_p6 hX, ag_X_pc hX, ag_X_h0 hX, ag_X_h1 hX, ag_X_h2 hX, ag_X_h3 hX, ag_X_h4 hX, ag_X_h5 hX, ag_X_h6 hX, ag_X_hc hX, ag_X_q0 hX, ag_X_q1 hX, ag_X_q2 hX, ag_X_qc hX, ag_X_tb0 hX, ag_X_tb1 hX, ag_X_tb2 hX, ag_X_tb3 hX, ag_X_tb4 hX, ag_X_tb5 hX, ag_X_tb6 hX, ag_X_tb7 hX, ag_X_tb8 hX, ag_X_tb9 hX, ag_X_tbc hX, ag_X_tp0 hX, ag_X_tp1 hX, ag_X_tp2 hX, ag_X_tp3 hX, ag_X_tp4 hX, ag_X_tp5 hX, ag_X_tp6 hX, ag_X_tpc hX, ag_X_ba0 hX, ag_X_ba1 hX, ag_X_ba2 hX, ag_X_ba3 hX, ag_X_ba4 hX, ag_X_ba5 hX, ag_X_ba6 hX, ag_X_ba7 hX, ag_X_pa0 hX, ag_X_pa1 hX, ag_X_pa2 hX, ag_X_pa3 hX, ag_X_pa4 hX, ag_X_pa5 hX, ag_X_ha0 hX, ag_X_ha1 hX, ag_X_ha2 hX, ag_X_ha3 hX, ag_X_qa0 hX, ag_X_qa1 hX, ag_X_tba0 hX, ag_X_tba1 hX, ag_X_tba2 hX, ag_X_tba3 hX, ag_X_tba4 hX, ag_X_tba5 hX, ag_X_tba6 hX, ag_X_tba7 hX, ag_X_tpa0 hX, ag_X_tpa1 hX, ag_X_tpa2 hX, ag_X_tpa3 hX, ag_X_tpa4 hX, ag_X_tpa5 hX, ag_X_ea hX, ag_kk_v, ag_kk_n, Nat.reduceAdd, ag_b0, ag_b1, true_and, or_true, true_or, Int.reduceEq, ne_eq, not_false_eq_true, not_true_eq_false, ↓reduceIte, ag_nmk_2, ag_nmk_3, ag_nmk_4, ag_nmk_5, ag_nmk_7, ag_nmk_11, ag_nmk_12, ag_nmk_20, ag_nmk_99, ag_nmk_100, ag_nmk_300, ag_nmk_999, ag_nmk_9999, ag_nm_1, ag_nm_z, ag_nm_m, ag_nm_nat (show i ≤ 1000000 by omega), ag_nm_nat (show S.2.2.1 ≤ 1000000 by omega), ag_rd_nat (show 40 ≤ 1000000 by decide) (show i < 40 by omega)]
    rw [if_neg (show ¬ (S.2.2.1 : Int) ≤ i by omega), ag_fld]
    exact ih (i + 1) _ (by omega)
theorem ag_F_dg3i (hX : ag_CX B τ (gh, ag_vH np qu li) (gq, ag_vP nq) S m T mt en) (hV : ag_IV S m) (hQ : ag_QI gq S.1 S.2.1 nq) {c : Nat} (hc : c < S.2.1) (K : ag_Rs → ag_S → Prop) : ∀ (k i : Nat) (d : Int), i + k = 8 →
    ag_wp 82 94 [some (ag_R (B + 1)), some (ag_L d), none, some (ag_I c), some (ag_I i)] [] τ K = ag_wp 82 122 [some (ag_R (B + 1)), some (ag_L (ag_fld (fun i d => ag_d1 d (ag_foc gq nq S c i)) k i d)), none, some (ag_I c), some (ag_I 8)] [] τ K := by
  have hw := hV.1.1.2.2
  intro k
  induction k with
  | zero =>
    intro i d hi
    rw [ag_i82_94]
    simp only [ag_i82_96, ag_i82_98, ag_kk_v, ag_kk_n, Nat.reduceAdd, ag_b0, ag_b1, true_and, or_true, true_or, Int.reduceEq, ne_eq, not_false_eq_true, not_true_eq_false, ↓reduceIte, ag_nmk_2, ag_nmk_3, ag_nmk_4, ag_nmk_5, ag_nmk_7, ag_nmk_11, ag_nmk_12, ag_nmk_20, ag_nmk_99, ag_nmk_100, ag_nmk_300, ag_nmk_999, ag_nmk_9999, ag_nm_1, ag_nm_z, ag_nm_m, ag_nm_nat (show i ≤ 1000000 by omega)]
    rw [if_pos (show (7 : Int) < i by omega), show (i : Int) = 8 by omega]
    rfl
  | succ k ih =>
    intro i d hi
    have hf := fun K => ag_F_foc hX hV hQ (c := (c : Int)) (by omega) (by omega) (show i ≤ 7 by omega) K
    rw [ag_i82_94]
    simp only [ag_i82_96, ag_i82_98, ag_i82_101, ag_i82_102, ag_i82_105, ag_i82_106, ag_i82_107, ag_i82_108, ag_i82_110, ag_i82_113, ag_i82_114, ag_i82_115_n, ag_i82_115_i, ag_i82_115_r, ag_i82_116_n, ag_i82_116_i, ag_i82_116_r, ag_i82_119, ag_X_o0 hX, ag_X_o1 hX, ag_X_o2 hX, ag_X_o3 hX, ag_X_o4 hX, ag_X_oc hX, ag_X_n0 hX, ag_X_n1 hX, ag_X_n2 hX, ag_X_nc hX, ag_X_t0 hX, ag_X_t1 hX, ag_X_t2 hX, ag_X_tc hX, ag_X_b0 hX, ag_X_b1 hX, ag_X_b2 hX, ag_X_b3 hX, ag_X_b4 hX, ag_X_b5 hX, ag_X_b6 hX, ag_X_b7 hX, ag_X_b8 hX, ag_X_b9 hX, ag_X_bc hX, ag_X_p0 hX, ag_X_p1 hX, ag_X_p2 hX, ag_X_p3 hX, ag_X_p4 hX, ag_X_p5 hX, ag_X_p6 hX, ag_X_pc hX, ag_X_h0 hX, ag_X_h1 hX, ag_X_h2 hX, ag_X_h3 hX, ag_X_h4 hX, ag_X_h5 hX, ag_X_h6 hX, ag_X_hc hX, ag_X_q0 hX, ag_X_q1 hX, ag_X_q2 hX, ag_X_qc hX, ag_X_tb0 hX, ag_X_tb1 hX, ag_X_tb2 hX, ag_X_tb3 hX, ag_X_tb4 hX, ag_X_tb5 hX, ag_X_tb6 hX, ag_X_tb7 hX, ag_X_tb8 hX, ag_X_tb9 hX, ag_X_tbc hX, ag_X_tp0 hX, ag_X_tp1 hX, ag_X_tp2 hX, ag_X_tp3 hX, ag_X_tp4 hX, ag_X_tp5 hX, ag_X_tp6 hX, ag_X_tpc hX, ag_X_ba0 hX, ag_X_ba1 hX, ag_X_ba2 hX, ag_X_ba3 hX, ag_X_ba4 hX, ag_X_ba5 hX, ag_X_ba6 hX, ag_X_ba7 hX, ag_X_pa0 hX, ag_X_pa1 hX, ag_X_pa2 hX, ag_X_pa3 hX, ag_X_pa4 hX, ag_X_pa5 hX, ag_X_ha0 hX, ag_X_ha1 hX, ag_X_ha2 hX, ag_X_ha3 hX, ag_X_qa0 hX, ag_X_qa1 hX, ag_X_tba0 hX, ag_X_tba1 hX, ag_X_tba2 hX, ag_X_tba3 hX, ag_X_tba4 hX, ag_X_tba5 hX, ag_X_tba6 hX, ag_X_tba7 hX, ag_X_tpa0 hX, ag_X_tpa1 hX, ag_X_tpa2 hX, ag_X_tpa3 hX, ag_X_tpa4 hX, ag_X_tpa5 hX, ag_X_ea hX, hf, ag_kk_v, ag_kk_n, Nat.reduceAdd, ag_b0, ag_b1, true_and, or_true, true_or, Int.reduceEq, ne_eq, not_false_eq_true, not_true_eq_false, ↓reduceIte, ag_nmk_2, ag_nmk_3, ag_nmk_4, ag_nmk_5, ag_nmk_7, ag_nmk_11, ag_nmk_12, ag_nmk_20, ag_nmk_99, ag_nmk_100, ag_nmk_300, ag_nmk_999, ag_nmk_9999, ag_nm_1, ag_nm_z, ag_nm_m, ag_nm_nat (show i ≤ 1000000 by omega)]
    rw [if_neg (show ¬ (7 : Int) < i by omega), ag_fld]
    exact ih (i + 1) _ (by omega)
theorem ag_F_dg3 (hX : ag_CX B τ (gh, ag_vH np qu li) (gq, ag_vP nq) S m T mt en) (hV : ag_IV S m) (hQ : ag_QI gq S.1 S.2.1 nq) : ∀ (k i : Nat) (d : Int) (y : Option ag_V), i + k = S.2.1 →
    ∃ y', ∀ K, ag_wp 82 77 [some (ag_R (B + 1)), some (ag_L d), none, some (ag_I i), y] [] τ K = ag_wp 82 128 [some (ag_R (B + 1)), some (ag_L (ag_fld (fun c d => ag_fld (fun i d => ag_d1 d (ag_foc gq nq S c i)) 8 0 d) k i d)), none, some (ag_I S.2.1), y'] [] τ K := by
  have hw := hV.1.1.2.2
  intro k
  induction k with
  | zero =>
    intro i d y hi
    refine ⟨y, fun K => ?_⟩
    rw [ag_i82_77]
    simp only [ag_i82_78, ag_i82_79, ag_i82_82, ag_i82_85, ag_i82_88, ag_X_o0 hX, ag_X_o1 hX, ag_X_o2 hX, ag_X_o3 hX, ag_X_o4 hX, ag_X_oc hX, ag_X_n0 hX, ag_X_n1 hX, ag_X_n2 hX, ag_X_nc hX, ag_X_t0 hX, ag_X_t1 hX, ag_X_t2 hX, ag_X_tc hX, ag_X_b0 hX, ag_X_b1 hX, ag_X_b2 hX, ag_X_b3 hX, ag_X_b4 hX, ag_X_b5 hX, ag_X_b6 hX, ag_X_b7 hX, ag_X_b8 hX, ag_X_b9 hX, ag_X_bc hX, ag_X_p0 hX, ag_X_p1 hX, ag_X_p2 hX, ag_X_p3 hX, ag_X_p4 hX, ag_X_p5 hX, ag_X_p6 hX, ag_X_pc hX, ag_X_h0 hX, ag_X_h1 hX, ag_X_h2 hX, ag_X_h3 hX, ag_X_h4 hX, ag_X_h5 hX, ag_X_h6 hX, ag_X_hc hX, ag_X_q0 hX, ag_X_q1 hX, ag_X_q2 hX, ag_X_qc hX, ag_X_tb0 hX, ag_X_tb1 hX, ag_X_tb2 hX, ag_X_tb3 hX, ag_X_tb4 hX, ag_X_tb5 hX, ag_X_tb6 hX, ag_X_tb7 hX, ag_X_tb8 hX, ag_X_tb9 hX, ag_X_tbc hX, ag_X_tp0 hX, ag_X_tp1 hX, ag_X_tp2 hX, ag_X_tp3 hX, ag_X_tp4 hX, ag_X_tp5 hX, ag_X_tp6 hX, ag_X_tpc hX, ag_X_ba0 hX, ag_X_ba1 hX, ag_X_ba2 hX, ag_X_ba3 hX, ag_X_ba4 hX, ag_X_ba5 hX, ag_X_ba6 hX, ag_X_ba7 hX, ag_X_pa0 hX, ag_X_pa1 hX, ag_X_pa2 hX, ag_X_pa3 hX, ag_X_pa4 hX, ag_X_pa5 hX, ag_X_ha0 hX, ag_X_ha1 hX, ag_X_ha2 hX, ag_X_ha3 hX, ag_X_qa0 hX, ag_X_qa1 hX, ag_X_tba0 hX, ag_X_tba1 hX, ag_X_tba2 hX, ag_X_tba3 hX, ag_X_tba4 hX, ag_X_tba5 hX, ag_X_tba6 hX, ag_X_tba7 hX, ag_X_tpa0 hX, ag_X_tpa1 hX, ag_X_tpa2 hX, ag_X_tpa3 hX, ag_X_tpa4 hX, ag_X_tpa5 hX, ag_X_ea hX, ag_kk_v, ag_kk_n, Nat.reduceAdd, ag_b0, ag_b1, true_and, or_true, true_or, Int.reduceEq, ne_eq, not_false_eq_true, not_true_eq_false, ↓reduceIte, ag_nmk_2, ag_nmk_3, ag_nmk_4, ag_nmk_5, ag_nmk_7, ag_nmk_11, ag_nmk_12, ag_nmk_20, ag_nmk_99, ag_nmk_100, ag_nmk_300, ag_nmk_999, ag_nmk_9999, ag_nm_1, ag_nm_z, ag_nm_m, ag_nm_nat (show i ≤ 1000000 by omega), ag_nm_nat (show S.2.1 ≤ 1000000 by omega)]
    rw [if_pos (show (S.2.1 : Int) ≤ i by omega), show (i : Int) = S.2.1 by omega]
    rfl
  | succ k ih =>
    intro i d y hi
    obtain ⟨y', h⟩ := ih (i + 1) (ag_fld (fun j d => ag_d1 d (ag_foc gq nq S i j)) 8 0 d) (some (ag_I 8)) (by omega)
    refine ⟨y', fun K => ?_⟩
    have hin := ag_F_dg3i hX hV hQ (show i < S.2.1 by omega) K 8 0 d (by omega)
    rw [ag_i82_77]
    simp only [ag_i82_78, ag_i82_79, ag_i82_82, ag_i82_85, ag_i82_88, ag_i82_91, ag_i82_92_n, ag_i82_92_i, ag_i82_92_r, ag_X_o0 hX, ag_X_o1 hX, ag_X_o2 hX, ag_X_o3 hX, ag_X_o4 hX, ag_X_oc hX, ag_X_n0 hX, ag_X_n1 hX, ag_X_n2 hX, ag_X_nc hX, ag_X_t0 hX, ag_X_t1 hX, ag_X_t2 hX, ag_X_tc hX, ag_X_b0 hX, ag_X_b1 hX, ag_X_b2 hX, ag_X_b3 hX, ag_X_b4 hX, ag_X_b5 hX, ag_X_b6 hX, ag_X_b7 hX, ag_X_b8 hX, ag_X_b9 hX, ag_X_bc hX, ag_X_p0 hX, ag_X_p1 hX, ag_X_p2 hX, ag_X_p3 hX, ag_X_p4 hX, ag_X_p5 hX, ag_X_p6 hX, ag_X_pc hX, ag_X_h0 hX, ag_X_h1 hX, ag_X_h2 hX, ag_X_h3 hX, ag_X_h4 hX, ag_X_h5 hX, ag_X_h6 hX, ag_X_hc hX, ag_X_q0 hX, ag_X_q1 hX, ag_X_q2 hX, ag_X_qc hX, ag_X_tb0 hX, ag_X_tb1 hX, ag_X_tb2 hX, ag_X_tb3 hX, ag_X_tb4 hX, ag_X_tb5 hX, ag_X_tb6 hX, ag_X_tb7 hX, ag_X_tb8 hX, ag_X_tb9 hX, ag_X_tbc hX, ag_X_tp0 hX, ag_X_tp1 hX, ag_X_tp2 hX, ag_X_tp3 hX, ag_X_tp4 hX, ag_X_tp5 hX, ag_X_tp6 hX, ag_X_tpc hX, ag_X_ba0 hX, ag_X_ba1 hX, ag_X_ba2 hX, ag_X_ba3 hX, ag_X_ba4 hX, ag_X_ba5 hX, ag_X_ba6 hX, ag_X_ba7 hX, ag_X_pa0 hX, ag_X_pa1 hX, ag_X_pa2 hX, ag_X_pa3 hX, ag_X_pa4 hX, ag_X_pa5 hX, ag_X_ha0 hX, ag_X_ha1 hX, ag_X_ha2 hX, ag_X_ha3 hX, ag_X_qa0 hX, ag_X_qa1 hX, ag_X_tba0 hX, ag_X_tba1 hX, ag_X_tba2 hX, ag_X_tba3 hX, ag_X_tba4 hX, ag_X_tba5 hX, ag_X_tba6 hX, ag_X_tba7 hX, ag_X_tpa0 hX, ag_X_tpa1 hX, ag_X_tpa2 hX, ag_X_tpa3 hX, ag_X_tpa4 hX, ag_X_tpa5 hX, ag_X_ea hX, ag_kk_v, ag_kk_n, Nat.reduceAdd, ag_b0, ag_b1, true_and, or_true, true_or, Int.reduceEq, ne_eq, not_false_eq_true, not_true_eq_false, ↓reduceIte, ag_nmk_2, ag_nmk_3, ag_nmk_4, ag_nmk_5, ag_nmk_7, ag_nmk_11, ag_nmk_12, ag_nmk_20, ag_nmk_99, ag_nmk_100, ag_nmk_300, ag_nmk_999, ag_nmk_9999, ag_nm_1, ag_nm_z, ag_nm_m, ag_nm_nat (show i ≤ 1000000 by omega), ag_nm_nat (show S.2.1 ≤ 1000000 by omega)]
    rw [if_neg (show ¬ (S.2.1 : Int) ≤ i by omega)]
    refine Eq.trans hin ?_
    simp only [ag_i82_122_n, ag_i82_122_i, ag_i82_122_r, ag_i82_125]
    exact h K
/-- a paper's values in the digest -/
noncomputable def ag_dga (S : ag_T) (m : Nat) (vm : Nat → Int) (a : Nat) (d : Int) : Int := ag_d1 (ag_fld (fun k d => ag_d1 d (S.2.2.2 k a)) 6 0 d) (ag_if (ag_dbl S m a = 0) 0 (vm a))
theorem ag_F_dg4i (hX : ag_CX B τ (gh, ag_vH np qu li) (gq, ag_vP nq) S m T mt en) {a : Nat} (ha : a < 20) (K : ag_Rs → ag_S → Prop) : ∀ (k i : Nat) (d : Int), i + k = 6 →
    ag_wp 82 147 [some (ag_R (B + 1)), some (ag_L d), none, some (ag_I a), some (ag_I i)] [] τ K = ag_wp 82 180 [some (ag_R (B + 1)), some (ag_L (ag_fld (fun k d => ag_d1 d (S.2.2.2 k a)) k i d)), none, some (ag_I a), some (ag_I 6)] [] τ K := by
  intro k
  induction k with
  | zero =>
    intro i d hi
    rw [ag_i82_147]
    simp only [ag_i82_149, ag_i82_150, ag_kk_v, ag_kk_n, Nat.reduceAdd, ag_b0, ag_b1, true_and, or_true, true_or, Int.reduceEq, ne_eq, not_false_eq_true, not_true_eq_false, ↓reduceIte, ag_nmk_2, ag_nmk_3, ag_nmk_4, ag_nmk_5, ag_nmk_7, ag_nmk_11, ag_nmk_12, ag_nmk_20, ag_nmk_99, ag_nmk_100, ag_nmk_300, ag_nmk_999, ag_nmk_9999, ag_nm_1, ag_nm_z, ag_nm_m, ag_nm_nat (show i ≤ 1000000 by omega)]
    rw [if_pos (show (5 : Int) < i by omega), show (i : Int) = 6 by omega]
    rfl
  | succ k ih =>
    intro i d hi
    have hf := fun K => ag_Y_fact hX (show i ≤ 5 by omega) (a : Int) K
    rw [ag_i82_147]
    simp only [ag_i82_149, ag_i82_150, ag_i82_153, ag_i82_154, ag_i82_157, ag_i82_158, ag_i82_159, ag_i82_162, ag_i82_165, ag_i82_166, ag_i82_168, ag_i82_171, ag_i82_172, ag_i82_173_n, ag_i82_173_i, ag_i82_173_r, ag_i82_174_n, ag_i82_174_i, ag_i82_174_r, ag_i82_177, ag_X_o0 hX, ag_X_o1 hX, ag_X_o2 hX, ag_X_o3 hX, ag_X_o4 hX, ag_X_oc hX, ag_X_n0 hX, ag_X_n1 hX, ag_X_n2 hX, ag_X_nc hX, ag_X_t0 hX, ag_X_t1 hX, ag_X_t2 hX, ag_X_tc hX, ag_X_b0 hX, ag_X_b1 hX, ag_X_b2 hX, ag_X_b3 hX, ag_X_b4 hX, ag_X_b5 hX, ag_X_b6 hX, ag_X_b7 hX, ag_X_b8 hX, ag_X_b9 hX, ag_X_bc hX, ag_X_p0 hX, ag_X_p1 hX, ag_X_p2 hX, ag_X_p3 hX, ag_X_p4 hX, ag_X_p5 hX, ag_X_p6 hX, ag_X_pc hX, ag_X_h0 hX, ag_X_h1 hX, ag_X_h2 hX, ag_X_h3 hX, ag_X_h4 hX, ag_X_h5 hX, ag_X_h6 hX, ag_X_hc hX, ag_X_q0 hX, ag_X_q1 hX, ag_X_q2 hX, ag_X_qc hX, ag_X_tb0 hX, ag_X_tb1 hX, ag_X_tb2 hX, ag_X_tb3 hX, ag_X_tb4 hX, ag_X_tb5 hX, ag_X_tb6 hX, ag_X_tb7 hX, ag_X_tb8 hX, ag_X_tb9 hX, ag_X_tbc hX, ag_X_tp0 hX, ag_X_tp1 hX, ag_X_tp2 hX, ag_X_tp3 hX, ag_X_tp4 hX, ag_X_tp5 hX, ag_X_tp6 hX, ag_X_tpc hX, ag_X_ba0 hX, ag_X_ba1 hX, ag_X_ba2 hX, ag_X_ba3 hX, ag_X_ba4 hX, ag_X_ba5 hX, ag_X_ba6 hX, ag_X_ba7 hX, ag_X_pa0 hX, ag_X_pa1 hX, ag_X_pa2 hX, ag_X_pa3 hX, ag_X_pa4 hX, ag_X_pa5 hX, ag_X_ha0 hX, ag_X_ha1 hX, ag_X_ha2 hX, ag_X_ha3 hX, ag_X_qa0 hX, ag_X_qa1 hX, ag_X_tba0 hX, ag_X_tba1 hX, ag_X_tba2 hX, ag_X_tba3 hX, ag_X_tba4 hX, ag_X_tba5 hX, ag_X_tba6 hX, ag_X_tba7 hX, ag_X_tpa0 hX, ag_X_tpa1 hX, ag_X_tpa2 hX, ag_X_tpa3 hX, ag_X_tpa4 hX, ag_X_tpa5 hX, ag_X_ea hX, hf, ag_kk_v, ag_kk_n, Nat.reduceAdd, ag_b0, ag_b1, true_and, or_true, true_or, Int.reduceEq, ne_eq, not_false_eq_true, not_true_eq_false, ↓reduceIte, ag_nmk_2, ag_nmk_3, ag_nmk_4, ag_nmk_5, ag_nmk_7, ag_nmk_11, ag_nmk_12, ag_nmk_20, ag_nmk_99, ag_nmk_100, ag_nmk_300, ag_nmk_999, ag_nmk_9999, ag_nm_1, ag_nm_z, ag_nm_m, ag_nm_nat (show i ≤ 1000000 by omega), ag_rd_nat (show 20 ≤ 1000000 by decide) ha]
    rw [if_neg (show ¬ (5 : Int) < i by omega), ag_fld]
    exact ih (i + 1) _ (by omega)
theorem ag_F_dg4 (hV : ag_IV S m) (vm : Nat → Int) (hvm : ∀ b, b < m → ag_dbl S m b ≠ 0 → ∀ z, ag_zk z → ag_vM S m b z = vm b) : ∀ (k i : Nat) (d : Int) (y : Option ag_V) (τ : ag_S) (T : ag_T) (mt : Nat), ag_CX B τ (gh, ag_vH np qu li) (gq, ag_vP nq) S m T mt en → ag_TI T → i + k = m →
    ∃ τ' T' mt' y', ag_CX B τ' (gh, ag_vH np qu li) (gq, ag_vP nq) S m T' mt' en ∧ ag_TI T' ∧ ag_Fr B τ τ' ∧ τ'.2 = τ.2 ∧ ∀ K, ag_wp 82 130 [some (ag_R (B + 1)), some (ag_L d), none, some (ag_I i), y] [] τ K = ag_wp 82 199 [some (ag_R (B + 1)), some (ag_L (ag_fld (ag_dga S m vm) k i d)), none, some (ag_I m), y'] [] τ' K := by
  have hm := hV.2.1.1.2.2
  intro k
  induction k with
  | zero =>
    intro i d y τ T mt hX hT hi
    refine ⟨τ, T, mt, y, hX, hT, ag_Fr_refl τ, rfl, fun K => ?_⟩
    rw [ag_i82_130]
    simp only [ag_i82_131, ag_i82_132, ag_i82_135, ag_i82_138, ag_i82_141, ag_X_o0 hX, ag_X_o1 hX, ag_X_o2 hX, ag_X_o3 hX, ag_X_o4 hX, ag_X_oc hX, ag_X_n0 hX, ag_X_n1 hX, ag_X_n2 hX, ag_X_nc hX, ag_X_t0 hX, ag_X_t1 hX, ag_X_t2 hX, ag_X_tc hX, ag_X_b0 hX, ag_X_b1 hX, ag_X_b2 hX, ag_X_b3 hX, ag_X_b4 hX, ag_X_b5 hX, ag_X_b6 hX, ag_X_b7 hX, ag_X_b8 hX, ag_X_b9 hX, ag_X_bc hX, ag_X_p0 hX, ag_X_p1 hX, ag_X_p2 hX, ag_X_p3 hX, ag_X_p4 hX, ag_X_p5 hX, ag_X_p6 hX, ag_X_pc hX, ag_X_h0 hX, ag_X_h1 hX, ag_X_h2 hX, ag_X_h3 hX, ag_X_h4 hX, ag_X_h5 hX, ag_X_h6 hX, ag_X_hc hX, ag_X_q0 hX, ag_X_q1 hX, ag_X_q2 hX, ag_X_qc hX, ag_X_tb0 hX, ag_X_tb1 hX, ag_X_tb2 hX, ag_X_tb3 hX, ag_X_tb4 hX, ag_X_tb5 hX, ag_X_tb6 hX, ag_X_tb7 hX, ag_X_tb8 hX, ag_X_tb9 hX, ag_X_tbc hX, ag_X_tp0 hX, ag_X_tp1 hX, ag_X_tp2 hX, ag_X_tp3 hX, ag_X_tp4 hX, ag_X_tp5 hX, ag_X_tp6 hX, ag_X_tpc hX, ag_X_ba0 hX, ag_X_ba1 hX, ag_X_ba2 hX, ag_X_ba3 hX, ag_X_ba4 hX, ag_X_ba5 hX, ag_X_ba6 hX, ag_X_ba7 hX, ag_X_pa0 hX, ag_X_pa1 hX, ag_X_pa2 hX, ag_X_pa3 hX, ag_X_pa4 hX, ag_X_pa5 hX, ag_X_ha0 hX, ag_X_ha1 hX, ag_X_ha2 hX, ag_X_ha3 hX, ag_X_qa0 hX, ag_X_qa1 hX, ag_X_tba0 hX, ag_X_tba1 hX, ag_X_tba2 hX, ag_X_tba3 hX, ag_X_tba4 hX, ag_X_tba5 hX, ag_X_tba6 hX, ag_X_tba7 hX, ag_X_tpa0 hX, ag_X_tpa1 hX, ag_X_tpa2 hX, ag_X_tpa3 hX, ag_X_tpa4 hX, ag_X_tpa5 hX, ag_X_ea hX, ag_kk_v, ag_kk_n, Nat.reduceAdd, ag_b0, ag_b1, true_and, or_true, true_or, Int.reduceEq, ne_eq, not_false_eq_true, not_true_eq_false, ↓reduceIte, ag_nmk_2, ag_nmk_3, ag_nmk_4, ag_nmk_5, ag_nmk_7, ag_nmk_11, ag_nmk_12, ag_nmk_20, ag_nmk_99, ag_nmk_100, ag_nmk_300, ag_nmk_999, ag_nmk_9999, ag_nm_1, ag_nm_z, ag_nm_m, ag_nm_nat (show i ≤ 1000000 by omega), ag_nm_nat (show m ≤ 1000000 by omega)]
    rw [if_pos (show (m : Int) ≤ i by omega), show (i : Int) = m by omega]
    rfl
  | succ k ih =>
    intro i d y τ T mt hX hT hi
    obtain ⟨τ1, T1, mt1, b1, b2, b3, b4, z, b5, b6⟩ := ag_F_moot hX hV hT (show i < m by omega)
    obtain ⟨τ', T', mt', y', c1, c2, c3, c4, c5⟩ := ih (i + 1) (ag_dga S m vm i d) (some (ag_I 6)) τ1 T1 mt1 b1 b2 (by omega)
    refine ⟨τ', T', mt', y', c1, c2, ag_Fr_trans b3 c3, c4.trans b4, fun K => ?_⟩
    have hin := ag_F_dg4i hX (show i < 20 by omega) K 6 0 d (by omega)
    have e : ag_if (ag_dbl S m i = 0) 0 (ag_vM S m i z) = ag_if (ag_dbl S m i = 0) 0 (vm i) := by
      by_cases q : ag_dbl S m i = 0
      · rw [ag_if_t q, ag_if_t q]
      · rw [ag_if_f q, ag_if_f q, hvm i (by omega) q z b5]
    rw [e] at b6
    rw [ag_i82_130]
    simp only [ag_i82_131, ag_i82_132, ag_i82_135, ag_i82_138, ag_i82_141, ag_i82_144, ag_i82_145_n, ag_i82_145_i, ag_i82_145_r, ag_X_o0 hX, ag_X_o1 hX, ag_X_o2 hX, ag_X_o3 hX, ag_X_o4 hX, ag_X_oc hX, ag_X_n0 hX, ag_X_n1 hX, ag_X_n2 hX, ag_X_nc hX, ag_X_t0 hX, ag_X_t1 hX, ag_X_t2 hX, ag_X_tc hX, ag_X_b0 hX, ag_X_b1 hX, ag_X_b2 hX, ag_X_b3 hX, ag_X_b4 hX, ag_X_b5 hX, ag_X_b6 hX, ag_X_b7 hX, ag_X_b8 hX, ag_X_b9 hX, ag_X_bc hX, ag_X_p0 hX, ag_X_p1 hX, ag_X_p2 hX, ag_X_p3 hX, ag_X_p4 hX, ag_X_p5 hX, ag_X_p6 hX, ag_X_pc hX, ag_X_h0 hX, ag_X_h1 hX, ag_X_h2 hX, ag_X_h3 hX, ag_X_h4 hX, ag_X_h5 hX, ag_X_h6 hX, ag_X_hc hX, ag_X_q0 hX, ag_X_q1 hX, ag_X_q2 hX, ag_X_qc hX, ag_X_tb0 hX, ag_X_tb1 hX, ag_X_tb2 hX, ag_X_tb3 hX, ag_X_tb4 hX, ag_X_tb5 hX, ag_X_tb6 hX, ag_X_tb7 hX, ag_X_tb8 hX, ag_X_tb9 hX, ag_X_tbc hX, ag_X_tp0 hX, ag_X_tp1 hX, ag_X_tp2 hX, ag_X_tp3 hX, ag_X_tp4 hX, ag_X_tp5 hX, ag_X_tp6 hX, ag_X_tpc hX, ag_X_ba0 hX, ag_X_ba1 hX, ag_X_ba2 hX, ag_X_ba3 hX, ag_X_ba4 hX, ag_X_ba5 hX, ag_X_ba6 hX, ag_X_ba7 hX, ag_X_pa0 hX, ag_X_pa1 hX, ag_X_pa2 hX, ag_X_pa3 hX, ag_X_pa4 hX, ag_X_pa5 hX, ag_X_ha0 hX, ag_X_ha1 hX, ag_X_ha2 hX, ag_X_ha3 hX, ag_X_qa0 hX, ag_X_qa1 hX, ag_X_tba0 hX, ag_X_tba1 hX, ag_X_tba2 hX, ag_X_tba3 hX, ag_X_tba4 hX, ag_X_tba5 hX, ag_X_tba6 hX, ag_X_tba7 hX, ag_X_tpa0 hX, ag_X_tpa1 hX, ag_X_tpa2 hX, ag_X_tpa3 hX, ag_X_tpa4 hX, ag_X_tpa5 hX, ag_X_ea hX, ag_kk_v, ag_kk_n, Nat.reduceAdd, ag_b0, ag_b1, true_and, or_true, true_or, Int.reduceEq, ne_eq, not_false_eq_true, not_true_eq_false, ↓reduceIte, ag_nmk_2, ag_nmk_3, ag_nmk_4, ag_nmk_5, ag_nmk_7, ag_nmk_11, ag_nmk_12, ag_nmk_20, ag_nmk_99, ag_nmk_100, ag_nmk_300, ag_nmk_999, ag_nmk_9999, ag_nm_1, ag_nm_z, ag_nm_m, ag_nm_nat (show i ≤ 1000000 by omega), ag_nm_nat (show m ≤ 1000000 by omega)]
    rw [if_neg (show ¬ (m : Int) ≤ i by omega)]
    refine Eq.trans hin ?_
    simp only [ag_i82_180, ag_i82_181, ag_i82_184, ag_i82_185, ag_i82_186, ag_i82_187, ag_i82_190, ag_i82_191, ag_i82_192_n, ag_i82_192_i, ag_i82_192_r, ag_i82_193_n, ag_i82_193_i, ag_i82_193_r, ag_i82_196, ag_X_o0 hX, ag_X_o1 hX, ag_X_o2 hX, ag_X_o3 hX, ag_X_o4 hX, ag_X_oc hX, ag_X_n0 hX, ag_X_n1 hX, ag_X_n2 hX, ag_X_nc hX, ag_X_t0 hX, ag_X_t1 hX, ag_X_t2 hX, ag_X_tc hX, ag_X_b0 hX, ag_X_b1 hX, ag_X_b2 hX, ag_X_b3 hX, ag_X_b4 hX, ag_X_b5 hX, ag_X_b6 hX, ag_X_b7 hX, ag_X_b8 hX, ag_X_b9 hX, ag_X_bc hX, ag_X_p0 hX, ag_X_p1 hX, ag_X_p2 hX, ag_X_p3 hX, ag_X_p4 hX, ag_X_p5 hX, ag_X_p6 hX, ag_X_pc hX, ag_X_h0 hX, ag_X_h1 hX, ag_X_h2 hX, ag_X_h3 hX, ag_X_h4 hX, ag_X_h5 hX, ag_X_h6 hX, ag_X_hc hX, ag_X_q0 hX, ag_X_q1 hX, ag_X_q2 hX, ag_X_qc hX, ag_X_tb0 hX, ag_X_tb1 hX, ag_X_tb2 hX, ag_X_tb3 hX, ag_X_tb4 hX, ag_X_tb5 hX, ag_X_tb6 hX, ag_X_tb7 hX, ag_X_tb8 hX, ag_X_tb9 hX, ag_X_tbc hX, ag_X_tp0 hX, ag_X_tp1 hX, ag_X_tp2 hX, ag_X_tp3 hX, ag_X_tp4 hX, ag_X_tp5 hX, ag_X_tp6 hX, ag_X_tpc hX, ag_X_ba0 hX, ag_X_ba1 hX, ag_X_ba2 hX, ag_X_ba3 hX, ag_X_ba4 hX, ag_X_ba5 hX, ag_X_ba6 hX, ag_X_ba7 hX, ag_X_pa0 hX, ag_X_pa1 hX, ag_X_pa2 hX, ag_X_pa3 hX, ag_X_pa4 hX, ag_X_pa5 hX, ag_X_ha0 hX, ag_X_ha1 hX, ag_X_ha2 hX, ag_X_ha3 hX, ag_X_qa0 hX, ag_X_qa1 hX, ag_X_tba0 hX, ag_X_tba1 hX, ag_X_tba2 hX, ag_X_tba3 hX, ag_X_tba4 hX, ag_X_tba5 hX, ag_X_tba6 hX, ag_X_tba7 hX, ag_X_tpa0 hX, ag_X_tpa1 hX, ag_X_tpa2 hX, ag_X_tpa3 hX, ag_X_tpa4 hX, ag_X_tpa5 hX, ag_X_ea hX, b6, ag_kk_v, ag_kk_n, Nat.reduceAdd]
    exact c5 K
end AGDG
