/-! THE HOUSE: wouldPass, all, canDo of one amendment. -/
variable {B : Nat}
def ag_wpv (s t a qu : Int) : Int := if ag_nm s ≤ ag_nm 0 then 0 else if ag_nm (t * 100) < ag_nm (qu * a) then 0 else 1
/-- votes are -1, 0 or 1 -/
def ag_VT (gh : Nat → Nat → Int) : Prop := ∀ j, -1 ≤ gh 3 j ∧ gh 3 j ≤ 1
theorem ag_su_sub {f p q : Nat → Int} : ∀ (k i : Nat), (∀ j, i ≤ j → j < i + k → f j = p j - q j) → ag_su f k i = ag_su p k i - ag_su q k i := by
  intro k
  induction k with
  | zero => intro i _; rfl
  | succ k ih =>
    intro i h
    have h1 := h i (Nat.le_refl _) (by omega)
    have h2 := ih (i + 1) (fun j a b => h j (by omega) (by omega))
    show f i + ag_su f k (i + 1) = (p i + ag_su p k (i + 1)) - (q i + ag_su q k (i + 1))
    omega
theorem ag_su_ad {f p q : Nat → Int} : ∀ (k i : Nat), (∀ j, i ≤ j → j < i + k → f j = p j + q j) → ag_su f k i = ag_su p k i + ag_su q k i := by
  intro k
  induction k with
  | zero => intro i _; rfl
  | succ k ih =>
    intro i h
    have h1 := h i (Nat.le_refl _) (by omega)
    have h2 := ih (i + 1) (fun j a b => h j (by omega) (by omega))
    show f i + ag_su f k (i + 1) = (p i + ag_su p k (i + 1)) + (q i + ag_su q k (i + 1))
    omega
theorem ag_su_b {f : Nat → Int} {z : Int} : ∀ (k i : Nat), (∀ j, i ≤ j → j < i + k → 0 ≤ f j ∧ f j ≤ z) → 0 ≤ ag_su f k i ∧ ag_su f k i ≤ k * z := by
  intro k
  induction k with
  | zero => intro i _; exact ⟨Int.le_refl _, by show (0 : Int) ≤ ((0 : Nat) : Int) * z; omega⟩
  | succ k ih =>
    intro i h
    have h1 := h i (Nat.le_refl _) (by omega)
    have h2 := ih (i + 1) (fun j a b => h j (by omega) (by omega))
    have e : ag_su f (k + 1) i = f i + ag_su f k (i + 1) := rfl
    have e2 : ((k + 1 : Nat) : Int) * z = k * z + z := by rw [Int.natCast_add, Int.add_mul]; simp
    omega
theorem ag_wpv_cy {gh : Nat → Nat → Int} {np b : Nat} {qu li : Int} (hH : ag_HI gh np qu li) (hv : ag_VT gh) (hb : b < 20) : ag_wpv (ag_su (fun i => gh 3 (i * 20 + b) * gh 0 i) np 0) (ag_su (fun i => gh 3 (i * 20 + b) * gh 3 (i * 20 + b) * gh 0 i) np 0) (ag_su (gh 0) np 0) qu = ag_car gh np qu b (-1) := by
  have hn := hH.2.1
  have hq := hH.2.2.1
  have hs := hH.2.2.2.2.1
  have hvo : ∀ i : Nat, i < np → ag_vo gh b (-1) i = gh 3 (i * 20 + b) := by
    intro i hi
    unfold ag_vo
    rw [if_neg (show ¬ (i : Int) = -1 by omega), show (i : Int) * 20 + (b : Int) = ((i * 20 + b : Nat) : Int) by omega]
    exact ag_rd_nat (by decide) (by omega)
  have b1 := ag_su_b (f := fun i => if ag_vo gh b (-1) i = 1 then gh 0 i else 0) (z := 99) np 0 (fun j a c => by
    have := hs j (by omega)
    split <;> omega)
  have b2 := ag_su_b (f := fun i => if ag_vo gh b (-1) i = -1 then gh 0 i else 0) (z := 99) np 0 (fun j a c => by
    have := hs j (by omega)
    split <;> omega)
  have b3 := ag_su_b (f := gh 0) (z := 99) np 0 (fun j a c => by
    have := hs j (by omega)
    omega)
  have e1 := ag_su_sub (f := fun i => gh 3 (i * 20 + b) * gh 0 i) (p := fun i => if ag_vo gh b (-1) i = 1 then gh 0 i else 0) (q := fun i => if ag_vo gh b (-1) i = -1 then gh 0 i else 0) np 0 (fun j a c => by
    have hj := hv (j * 20 + b)
    rw [hvo j (by omega)]
    have h3 : gh 3 (j * 20 + b) = -1 ∨ gh 3 (j * 20 + b) = 0 ∨ gh 3 (j * 20 + b) = 1 := by omega
    rcases h3 with h3 | h3 | h3 <;> rw [h3] <;> simp)
  have e2 := ag_su_ad (f := fun i => gh 3 (i * 20 + b) * gh 3 (i * 20 + b) * gh 0 i) (p := fun i => if ag_vo gh b (-1) i = 1 then gh 0 i else 0) (q := fun i => if ag_vo gh b (-1) i = -1 then gh 0 i else 0) np 0 (fun j a c => by
    have hj := hv (j * 20 + b)
    rw [hvo j (by omega)]
    have h3 : gh 3 (j * 20 + b) = -1 ∨ gh 3 (j * 20 + b) = 0 ∨ gh 3 (j * 20 + b) = 1 := by omega
    rcases h3 with h3 | h3 | h3 <;> rw [h3] <;> simp)
  unfold ag_car ag_wpv ag_cy
  rw [e1, e2]
  generalize ag_su (fun i => if ag_vo gh b (-1) i = 1 then gh 0 i else 0) np 0 = y at b1 ⊢
  generalize ag_su (fun i => if ag_vo gh b (-1) i = -1 then gh 0 i else 0) np 0 = z at b2 ⊢
  have e3 : (np : Int) * 99 ≤ 495 := by omega
  rw [ag_nm_of (x := y - z) (by omega) (by omega), ag_nm_of (x := y) (by omega) (by omega), ag_nm_of (x := z) (by omega) (by omega), ag_nm_z]
  by_cases c : y ≤ z
  · rw [if_pos c, if_pos (by omega)]
  · rw [if_neg c, if_neg (by omega)]
section AGH9
variable {σ : ag_S} {L ln : Nat → Nat} {g : Nat → Nat → Int} {dr qu mi : Int} {gb gp gh gq : Nat → Nat → Int} {w n m np nq : Nat}
theorem ag_h_wouldPass (h : ag_HS B σ L ln g dr qu mi) (tv : ag_TV gh m ln g) (ts : ag_TS gh np ln g) {li : Int} (hH : ag_HI gh np qu li) (hv : ag_VT gh) {b : Nat} (hb : b < m) (hm : m ≤ 20) (K : ag_Rs → ag_S → Prop) :
    ag_cl9 120 [ag_R B, ag_I (b : Int), ag_I (-1)] σ K = K (Sum.inl (some (ag_I (ag_car gh np qu b (-1))))) σ := by
  have hn := hH.2.1
  have hq := hH.2.2.1
  have hnp : ag_nm (np : Int) = np := ag_nm_nat (by omega)
  have loop : ∀ (k i : Nat) (s t a : Int) (y : Option ag_V), i + k = np → ag_wp 120 11 [some (ag_R B), some (ag_I (b : Int)), some (ag_I (-1)), some (ag_I s), some (ag_I t), some (ag_I a), some (ag_I (i : Int)), y] [] σ K = K (Sum.inl (some (ag_I (ag_wpv (s + ag_su (fun i => gh 3 (i * 20 + b) * gh 0 i) k i) (t + ag_su (fun i => gh 3 (i * 20 + b) * gh 3 (i * 20 + b) * gh 0 i) k i) (a + ag_su (gh 0) k i) qu)))) σ := by
    intro k
    induction k with
    | zero =>
      intro i s t a y hi
      have e1 : ∀ f : Nat → Int, ag_su f 0 i = 0 := fun f => rfl
      rw [ag_i120_11, e1, e1, e1, Int.add_zero, Int.add_zero, Int.add_zero]
      simp only [ag_i120_13, ag_i120_14, ag_h_g7 h, ag_i120_17, ag_h_a6 h, ts.1, ag_i120_18, hnp, ag_nm_nat (show i ≤ 1000000 by omega)]
      rw [if_pos (show (np : Int) ≤ i by omega)]
      unfold ag_wpv
      simp only [ag_i120_91, ag_i120_92, ag_nm_z]
      by_cases c1 : ag_nm s ≤ 0
      · rw [if_pos c1, if_pos c1]
        simp only [ag_i120_114, ag_i120_115, ag_b0, ag_b1, true_and, or_true, true_or, Int.reduceEq, ne_eq, not_false_eq_true, not_true_eq_false, ↓reduceIte]
      · rw [if_neg c1, if_neg c1]
        simp only [ag_i120_95, ag_i120_97, ag_i120_99, ag_i120_100, ag_i120_101, ag_h_g10 h, ag_i120_104, ag_i120_106, ag_i120_107]
        by_cases c2 : ag_nm (t * 100) < ag_nm (qu * a)
        · rw [if_pos c2, if_pos c2]
          simp only [ag_i120_114, ag_i120_115, ag_b0, ag_b1, true_and, or_true, true_or, Int.reduceEq, ne_eq, not_false_eq_true, not_true_eq_false, ↓reduceIte]
        · rw [if_neg c2, if_neg c2]
          simp only [ag_i120_110, ag_i120_111, ag_i120_115, ag_b0, ag_b1, true_and, or_true, true_or, Int.reduceEq, ne_eq, not_false_eq_true, not_true_eq_false, ↓reduceIte]
    | succ k ih =>
      intro i s t a y hi
      have hin : i < np := by omega
      have hi20 : i < 5 := by omega
      have e1 : ∀ f : Nat → Int, ag_su f (k + 1) i = f i + ag_su f k (i + 1) := fun f => rfl
      have hr := fun K => ag_s_i6 h ts (by omega) hin (x := (i : Int)) rfl K
      have hvv := fun K => ag_v_i h tv hb hi20 (x := (i : Int)) rfl K
      rw [ag_i120_11]
      simp only [ag_i120_13, ag_i120_14, ag_h_g7 h, ag_i120_17, ag_h_a6 h, ts.1, ag_i120_18, hnp, ag_nm_nat (show i ≤ 1000000 by omega)]
      rw [if_neg (show ¬ (np : Int) ≤ i by omega)]
      simp only [ag_i120_21, ag_i120_23, ag_i120_24, ag_nm_nat (show i ≤ 1000000 by omega), ag_nm_m]
      rw [if_pos (show (i : Int) ≠ -1 by omega)]
      simp only [ag_i120_31, ag_i120_32, ag_h_g6 h, ag_i120_35, ag_i120_36, ag_v_q h tv hb (x := (b : Int)) rfl, ag_i120_37, ag_i120_39, hvv, ag_i120_40_n, ag_i120_40_i, ag_i120_40_r, ag_i120_42, ag_i120_43, ag_i120_45, ag_i120_46, ag_h_g7 h, ag_i120_49, ag_i120_51, hr, ag_i120_52, ag_i120_53, ag_i120_54_n, ag_i120_54_i, ag_i120_54_r, ag_i120_55, ag_i120_57, ag_i120_59, ag_i120_61, ag_i120_62, ag_i120_63, ag_h_g7 h, ag_i120_66, ag_i120_68, hr, ag_i120_69, ag_i120_70, ag_i120_71_n, ag_i120_71_i, ag_i120_71_r, ag_i120_73, ag_i120_75, ag_i120_76, ag_h_g7 h, ag_i120_79, ag_i120_81, hr, ag_i120_82, ag_i120_83_n, ag_i120_83_i, ag_i120_83_r, ag_i120_85_n, ag_i120_85_i, ag_i120_85_r, ag_i120_88]
      have := ih (i + 1) (s + gh 3 (i * 20 + b) * gh 0 i) (t + gh 3 (i * 20 + b) * gh 3 (i * 20 + b) * gh 0 i) (a + gh 0 i) (some (ag_I (gh 3 (i * 20 + b)))) (by omega)
      rw [e1, e1, e1, ← Int.add_assoc, ← Int.add_assoc, ← Int.add_assoc]
      exact this
  have l0 := loop np 0 0 0 0 none (Nat.zero_add _)
  rw [Int.zero_add, Int.zero_add, Int.zero_add, ag_wpv_cy hH hv (by omega)] at l0
  rw [← l0]
  simp only [ag_e120, ag_i120_0, ag_i120_1_n, ag_i120_1_i, ag_i120_1_r, ag_i120_2, ag_i120_3_n, ag_i120_3_i, ag_i120_3_r, ag_i120_5, ag_i120_6_n, ag_i120_6_i, ag_i120_6_r, ag_i120_8, ag_i120_9_n, ag_i120_9_i, ag_i120_9_r]
  rfl
theorem ag_h_all (h : ag_HS B σ L ln g dr qu mi) (ts : ag_TS gh np ln g) (hn : np ≤ 5) (K : ag_Rs → ag_S → Prop) :
    ag_cl9 125 [ag_R B] σ K = K (Sum.inl (some (ag_I (ag_su (gh 0) np 0)))) σ := by
  have hnp : ag_nm (np : Int) = np := ag_nm_nat (by omega)
  have loop : ∀ (k i : Nat) (s : Int) (y : Option ag_V), i + k = np → ag_wp 125 13 [some (ag_R B), some (ag_I s), some (ag_R (L 6)), some (ag_I (np : Int)), some (ag_I (i : Int)), y] [] σ K = K (Sum.inl (some (ag_I (s + ag_su (gh 0) k i)))) σ := by
    intro k
    induction k with
    | zero =>
      intro i s y hi
      rw [ag_i125_13, show ag_su (gh 0) 0 i = 0 from rfl, Int.add_zero]
      simp only [ag_i125_15, ag_i125_16, hnp, ag_nm_nat (show i ≤ 1000000 by omega)]
      rw [if_pos (show (np : Int) ≤ i by omega)]
      simp only [ag_i125_36, ag_i125_37]
    | succ k ih =>
      intro i s y hi
      rw [ag_i125_13, show ag_su (gh 0) (k + 1) i = gh 0 i + ag_su (gh 0) k (i + 1) from rfl]
      simp only [ag_i125_15, ag_i125_16, hnp, ag_nm_nat (show i ≤ 1000000 by omega)]
      rw [if_neg (show ¬ (np : Int) ≤ i by omega)]
      simp only [ag_i125_19, ag_i125_20, ag_i125_22, ag_s_i6 h ts (by omega) (show i < np by omega) (x := (i : Int)) rfl, ag_i125_23_n, ag_i125_23_i, ag_i125_23_r, ag_i125_25, ag_i125_26, ag_i125_28, ag_i125_29_n, ag_i125_29_i, ag_i125_29_r, ag_i125_30_n, ag_i125_30_i, ag_i125_30_r, ag_i125_33]
      rw [← Int.add_assoc]
      exact ih (i + 1) (s + gh 0 i) _ (by omega)
  have l0 := loop np 0 0 none (Nat.zero_add _)
  rw [Int.zero_add] at l0
  rw [← l0]
  simp only [ag_e125, ag_i125_0, ag_i125_1_n, ag_i125_1_i, ag_i125_1_r, ag_i125_2, ag_i125_3, ag_h_g7 h, ag_i125_6_n, ag_i125_6_i, ag_i125_6_r, ag_i125_7, ag_i125_8, ag_h_a6 h, ts.1, ag_i125_9_n, ag_i125_9_i, ag_i125_9_r, ag_i125_10, ag_i125_11_n, ag_i125_11_i, ag_i125_11_r]
  rfl
/-- the clauses of a laid amendment are held -/
def ag_lhd (gb gp : Nat → Nat → Int) (w n b : Nat) : Prop := gp 0 b ≠ 5 → (∃ p e, ag_hat gb w n (gp 1 b) p e) ∧ (gp 0 b = 1 → ∃ q f, ag_hat gb w n (gp 2 b) q f)
theorem ag_lhd_of (hV : ag_IV (gb, (w, (n, gp))) m) {b : Nat} (hb : b < m) (hl : gp 3 b = 0) : ag_lhd gb gp w n b := by
  intro h5
  have hB : ag_IB gb w n := hV.1
  have t1 := hV.2.1.2.2 b hb
  have t1a : 0 ≤ gp 1 b ∧ gp 1 b < w := t1.2.2.1 h5
  have i1 := hV.2.2 b hb hl
  have i1a : gb 5 (gp 1 b).toNat ≠ -1 := i1.1 h5
  refine ⟨ag_hat_of hB t1a.1 t1a.2 i1a, fun h1 => ?_⟩
  have t2 : 0 ≤ gp 2 b ∧ gp 2 b < w := t1.2.2.2 h1
  have i2 : gb 5 (gp 2 b).toNat ≠ -1 := i1.2 h1
  exact ag_hat_of hB t2.1 t2.2 i2
theorem ag_h_canDo1 (h : ag_HS B σ L ln g dr qu mi) (t : ag_TC gb w n ln g) (ta : ag_TA gp m ln g) (hV : ag_IV (gb, (w, (n, gp))) m) {b : Nat} (hb : b < m) :
    ∃ σ' : ag_S, (∀ K : ag_Rs → ag_S → Prop, ag_cl9 121 [ag_R B, ag_I (b : Int)] σ K = K (Sum.inl (some (ag_I (if gp 3 b = 0 then ag_ftb gb w n gp b else 0)))) σ') ∧ ag_fr σ σ' 400 6500 := by
  have hsp : ag_sm gp := hV.2.1.1.2.1
  have hk := (hV.2.1.2.2 b hb).1
  have hk0 : 0 ≤ gp 0 b := hk.1
  have hk1 : gp 0 b ≤ 5 := hk.2.1
  have enm := fun k i => ag_nm_s hsp k i
  have hqq := fun K => ag_a_q h ta hb (x := (b : Int)) rfl K
  by_cases c1 : gp 3 b = 0
  · by_cases c2 : gp 0 b = 5
    · refine ⟨σ, fun K => ?_, ag_fr_le (ag_fr_refl σ) (Nat.zero_le _) (Nat.zero_le _)⟩
      simp only [ag_e121, ag_i121_0, ag_i121_1, ag_h_g5 h, ag_i121_4, ag_i121_5, hqq, ag_i121_6, ag_i121_7, ag_a_i3 h ta hb, ag_i121_8, enm, ag_nm_z]
      rw [if_neg (show ¬ gp 3 b ≠ 0 by omega), if_pos c1]
      simp only [ag_i121_11, ag_i121_12, ag_h_g5 h, ag_i121_15, ag_i121_16, hqq, ag_i121_17, ag_i121_18, ag_a_i0 h ta hb, ag_i121_19, ag_i121_20, enm, ag_nmk_5]
      rw [if_pos c2]
      unfold ag_ftb ag_fit
      rw [if_neg (show ¬ gp 0 b = 1 by omega), if_neg (show ¬ gp 0 b = 3 by omega), if_neg (show ¬ gp 0 b = 4 by omega)]
      simp only [ag_i121_54, ag_i121_55, ag_i121_59, ag_b0, ag_b1, true_and, or_true, true_or, Int.reduceEq, ne_eq, not_false_eq_true, not_true_eq_false, ↓reduceIte]
    · obtain ⟨⟨p, e, hp⟩, hx⟩ := ag_lhd_of hV hb c1 c2
      obtain ⟨σ1, d1, d2⟩ := ag_h_canDo h t hV.1 (kind := gp 0 b) ⟨hk0, by omega⟩ hp hx
      refine ⟨σ1, fun K => ?_, d2⟩
      simp only [ag_e121, ag_i121_0, ag_i121_1, ag_h_g5 h, ag_i121_4, ag_i121_5, hqq, ag_i121_6, ag_i121_7, ag_a_i3 h ta hb, ag_i121_8, enm, ag_nm_z]
      rw [if_neg (show ¬ gp 3 b ≠ 0 by omega), if_pos c1]
      simp only [ag_i121_11, ag_i121_12, ag_h_g5 h, ag_i121_15, ag_i121_16, hqq, ag_i121_17, ag_i121_18, ag_a_i0 h ta hb, ag_i121_19, ag_i121_20, enm, ag_nmk_5]
      rw [if_neg c2]
      simp only [ag_i121_23, ag_i121_24, ag_i121_25, ag_h_g5 h, ag_i121_28, ag_i121_29, hqq, ag_i121_30, ag_i121_31, ag_a_i0 h ta hb, ag_i121_32, ag_i121_33, ag_h_g5 h, ag_i121_36, ag_i121_37, hqq, ag_i121_38, ag_i121_39, ag_a_i1 h ta hb, ag_i121_40, ag_i121_41, ag_h_g5 h, ag_i121_44, ag_i121_45, hqq, ag_i121_46, ag_i121_47, ag_a_i2 h ta hb, ag_i121_48, ag_h_ck h, d1, ag_kk_v, ag_kk_n, Nat.reduceAdd, ag_i121_51]
      have hf : ag_ftb gb w n gp b = ag_fit gb w n (gp 0 b) (gp 1 b) (gp 2 b) := rfl
      rw [hf]
      have h01 : ag_fit gb w n (gp 0 b) (gp 1 b) (gp 2 b) = 0 ∨ ag_fit gb w n (gp 0 b) (gp 1 b) (gp 2 b) = 1 := by
        unfold ag_fit
        dsimp only
        repeat' split
        all_goals omega
      rcases h01 with q | q
      · rw [q, if_pos rfl]
        simp only [ag_i121_58, ag_i121_59, ag_b0, ag_b1, true_and, or_true, true_or, Int.reduceEq, ne_eq, not_false_eq_true, not_true_eq_false, ↓reduceIte]
      · rw [q, if_neg (by decide +kernel)]
        simp only [ag_i121_54, ag_i121_55, ag_i121_59, ag_b0, ag_b1, true_and, or_true, true_or, Int.reduceEq, ne_eq, not_false_eq_true, not_true_eq_false, ↓reduceIte]
  · refine ⟨σ, fun K => ?_, ag_fr_le (ag_fr_refl σ) (Nat.zero_le _) (Nat.zero_le _)⟩
    simp only [ag_e121, ag_i121_0, ag_i121_1, ag_h_g5 h, ag_i121_4, ag_i121_5, hqq, ag_i121_6, ag_i121_7, ag_a_i3 h ta hb, ag_i121_8, enm, ag_nm_z]
    rw [if_pos (show gp 3 b ≠ 0 from c1), if_neg c1]
    simp only [ag_i121_58, ag_i121_59, ag_b0, ag_b1, true_and, or_true, true_or, Int.reduceEq, ne_eq, not_false_eq_true, not_true_eq_false, ↓reduceIte]
end AGH9
