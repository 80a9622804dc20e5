/-! THE HOUSE: what an amendment comes to be. -/
variable {B : Nat}
/-- all rows but those of amendments are left -/
def ag_g3 (g g' : Nat → Nat → Int) : Prop := ∀ r, r < 300 ∨ 400 ≤ r → g' r = g r
theorem ag_g3_trans {g g' g'' : Nat → Nat → Int} (h : ag_g3 g g') (h2 : ag_g3 g' g'') : ag_g3 g g'' := fun r hr => (h2 r hr).trans (h r hr)
theorem ag_TA_w {gp : Nat → Nat → Int} {m : Nat} {ln : Nat → Nat} {g : Nat → Nat → Int} (ta : ag_TA gp m ln g) (b j : Nat) (v : Int) : ag_TA (ag_ug gp j (ag_ui (gp j) b v)) m ln (ag_ug g (300 + b) (ag_ui (g (300 + b)) j v)) := by
  refine ⟨ta.1, fun b' hb' => ⟨(ta.2 b' hb').1, fun j' hj' => ?_⟩⟩
  have e := (ta.2 b' hb').2 j' hj'
  unfold ag_ug ag_ui
  by_cases c1 : b' = b
  · subst c1
    rw [if_pos rfl]
    by_cases c2 : j' = j
    · subst c2
      rw [if_pos rfl, if_pos rfl, if_pos rfl]
    · rw [if_neg c2, if_neg c2]
      exact e
  · rw [if_neg (show ¬ 300 + b' = 300 + b by omega)]
    by_cases c2 : j' = j
    · subst c2
      rw [if_pos rfl, if_neg c1]
      exact e
    · rw [if_neg c2]
      exact e
theorem ag_g3_w (g : Nat → Nat → Int) {b : Nat} (hb : b < 100) (x : Nat → Int) : ag_g3 g (ag_ug g (300 + b) x) := fun r hr => by
  unfold ag_ug
  rw [if_neg (by omega)]
section AGHB
variable {σ : ag_S} {L ln : Nat → Nat} {g : Nat → Nat → Int} {dr qu mi : Int} {gb gp gh gq : Nat → Nat → Int} {w n m np nq : Nat}
/-- an amendment's row, written at j -/
theorem ag_a_w (h : ag_HS B σ L ln g dr qu mi) (ta : ag_TA gp m ln g) (hm : m ≤ 20) {b j : Nat} (hb : b < m) (hj : j < 6) {v : Int} (v1 : -100000 ≤ v) (v2 : v ≤ 100000) :
    ∃ σ' g', ag_HS B σ' L ln g' dr qu mi ∧ ag_TA (ag_ug gp j (ag_ui (gp j) b v)) m ln g' ∧ ag_g3 g g' ∧ ag_hf B σ σ' 0 0 ∧ ∀ (x : Int) (K : ag_S → Prop), x = j → ag_is σ (L (300 + b)) x v K = K σ' := by
  have hlv := ag_a_lv ta hb
  have hl := (ta.2 b hb).1
  have hz := h.2.2.2.2.1 _ (Or.inr hlv)
  refine ⟨_, _, ag_HS_is h hlv j v1 v2, ag_TA_w ta b j v, ag_g3_w g (by omega) _, ag_hf_up σ _ (Or.inr hz.1), fun x K hx => ?_⟩
  rw [ag_h_is h hlv (k := j) (by omega) (by omega) hx]
theorem ag_h_become1 (h : ag_HS B σ L ln g dr qu mi) (ta : ag_TA gp m ln g) (hm : m ≤ 20) (hsp : ag_sm gp) {k : Nat} (hk : k < m) (no : ∀ j, j < m → gp 0 j = 5 → gp 1 j ≠ k) {y : Int} (y1 : -100000 ≤ y) (y2 : y ≤ 100000) :
    ∃ σ' g', ag_HS B σ' L ln g' dr qu mi ∧ ag_TA (ag_ug (ag_ug gp 3 (ag_ui (gp 3) k 3)) 4 (ag_ui (gp 4) k y)) m ln g' ∧ ag_g3 g g' ∧ ag_hf B σ σ' 0 0 ∧ ∀ K : ag_Rs → ag_S → Prop, ag_cl9 115 [ag_R B, ag_I (k : Int), ag_I 3, ag_I y] σ K = K (Sum.inl (some (ag_I 1))) σ' := by
  obtain ⟨σ1, g1, a1, a2, a3, a4, a5⟩ := ag_a_w h ta hm hk (j := 3) (by decide) (v := 3) (by decide) (by decide)
  obtain ⟨σ2, g2, b1, b2, b3, b4, b5⟩ := ag_a_w a1 a2 hm hk (j := 4) (by decide) y1 y2
  have enm := fun k i => ag_nm_s hsp k i
  have e4 : ag_ug gp 3 (ag_ui (gp 3) k 3) 4 = gp 4 := rfl
  rw [e4] at b2
  have r0 : ∀ i, i < m → ∀ K : Int → Prop, ag_ia σ2 (L (300 + i)) 0 K = K (gp 0 i) := fun i hi K => ag_a_i0 b1 b2 hi K
  have r1 : ∀ i, i < m → ∀ K : Int → Prop, ag_ia σ2 (L (300 + i)) 1 K = K (gp 1 i) := fun i hi K => ag_a_i1 b1 b2 hi K
  refine ⟨σ2, g2, b1, b2, ag_g3_trans a3 b3, ag_hf_trans a4 b4, fun K => ?_⟩
  have loop : ∀ (j i : Nat), i + j = m → ag_wp 115 33 [some (ag_R B), some (ag_I (k : Int)), some (ag_I 3), some (ag_I y), some (ag_I 1), some (ag_I (i : Int))] [] σ2 K = K (Sum.inl (some (ag_I 1))) σ2 := by
    intro j
    induction j with
    | zero =>
      intro i hi
      rw [ag_i115_33]
      simp only [ag_i115_35, ag_i115_36, ag_h_g5 b1, ag_i115_39, ag_h_a3 b1, b2.1, ag_i115_40, ag_nm_nat (show m ≤ 1000000 by omega), ag_nm_nat (show i ≤ 1000000 by omega)]
      rw [if_pos (show (m : Int) ≤ i by omega)]
      simp only [ag_i115_100, ag_i115_102]
    | succ j ih =>
      intro i hi
      have him : i < m := by omega
      have nx := ih (i + 1) (by omega)
      rw [ag_i115_33]
      simp only [ag_i115_35, ag_i115_36, ag_h_g5 b1, ag_i115_39, ag_h_a3 b1, b2.1, ag_i115_40, ag_nm_nat (show m ≤ 1000000 by omega), ag_nm_nat (show i ≤ 1000000 by omega)]
      rw [if_neg (show ¬ (m : Int) ≤ i by omega)]
      simp only [ag_i115_43, ag_i115_44, ag_h_g5 b1, ag_i115_47, ag_i115_49, ag_a_q b1 b2 him (x := (i : Int)) rfl, ag_i115_50, ag_i115_51, r0 i him, ag_i115_52, ag_i115_53, enm, ag_nmk_5]
      by_cases c1 : gp 0 i = 5
      · rw [if_neg (show ¬ gp 0 i ≠ 5 by omega)]
        simp only [ag_i115_56, ag_i115_57, ag_h_g5 b1, ag_i115_60, ag_i115_62, ag_a_q b1 b2 him (x := (i : Int)) rfl, ag_i115_63, ag_i115_64, r1 i him, ag_i115_65, ag_i115_66, enm, ag_nm_nat (show k ≤ 1000000 by omega)]
        rw [if_pos (show gp 1 i ≠ (k : Int) from no i him c1)]
        simp only [ag_i115_94_n, ag_i115_94_i, ag_i115_94_r, ag_i115_97]
        exact nx
      · rw [if_pos (show gp 0 i ≠ 5 from c1)]
        simp only [ag_i115_94_n, ag_i115_94_i, ag_i115_94_r, ag_i115_97]
        exact nx
  have l0 := loop m 0 (Nat.zero_add _)
  rw [← l0]
  have w3 := fun K => a5 3 K rfl
  have w4 := fun K => b5 4 K rfl
  simp only [ag_e115, ag_i115_0, ag_i115_1, ag_h_g5 h, ag_i115_4, ag_i115_5, ag_a_q h ta hk (x := (k : Int)) rfl, ag_i115_6, ag_i115_7, ag_i115_8, w3, ag_i115_9, ag_i115_10, ag_h_g5 a1, ag_i115_13, ag_i115_14, ag_a_q a1 a2 hk (x := (k : Int)) rfl, ag_i115_15, ag_i115_16, ag_i115_17, w4, ag_i115_18, ag_i115_19, ag_i115_20, ag_nmk_3, ag_b0, ag_b1, true_and, or_true, true_or, Int.reduceEq, ne_eq, not_false_eq_true, not_true_eq_false, ↓reduceIte, ag_i115_23, ag_i115_24, ag_i115_28_n, ag_i115_28_i, ag_i115_28_r, ag_i115_30, ag_i115_31_n, ag_i115_31_i, ag_i115_31_r]
  rfl
theorem ag_h_become (h : ag_HS B σ L ln g dr qu mi) (ta : ag_TA gp m ln g) (hm : m ≤ 20) (hsp : ag_sm gp) (no : ∀ i : Nat, i < m → gp 0 i = 5 → ∀ j : Nat, j < m → gp 0 j = 5 → gp 1 j ≠ i) {b : Nat} (hb : b < m) {s y : Int} (hs : 0 ≤ s ∧ s ≤ 4) (y1 : -100000 ≤ y) (y2 : y ≤ 100000) :
    ∃ σ' g', ag_HS B σ' L ln g' dr qu mi ∧ ag_TA (ag_set gp b s y m) m ln g' ∧ ag_g3 g g' ∧ ag_hf B σ σ' 0 0 ∧ ∀ K : ag_Rs → ag_S → Prop, ag_cl9 114 [ag_R B, ag_I (b : Int), ag_I s, ag_I y] σ K = K (Sum.inl (some (ag_I (((if s = 3 then 1 else 0) + ag_cch gp (ag_ui (gp 3) b s) b m 0 : Nat) : Int)))) σ' := by
  obtain ⟨σ1, g1, a1, a2, a3, a4, a5⟩ := ag_a_w h ta hm hb (j := 3) (by decide) (v := s) (by omega) (by omega)
  obtain ⟨σ2, g2, b1, b2, b3, b4, b5⟩ := ag_a_w a1 a2 hm hb (j := 4) (by decide) y1 y2
  have enm := fun k i => ag_nm_s hsp k i
  have e4 : ag_ug gp 3 (ag_ui (gp 3) b s) 4 = gp 4 := rfl
  rw [e4] at b2
  have hsn : ag_nm s = s := ag_nm_of (by omega) (by omega)
  have hwr : ∀ (f : Nat → Int) (v : Int), ag_wr 20 f (b : Int) v = ag_ui f b v := fun f v => by
    unfold ag_wr
    rw [ag_nm_nat (show b ≤ 1000000 by omega), if_pos (by omega)]
    rfl
  have hq : ∀ i, -100000 ≤ ag_ui (gp 3) b s i ∧ ag_ui (gp 3) b s i ≤ 100000 := fun i => by
    unfold ag_ui
    have := hsp 3 i
    split <;> omega
  -- the loop
  have loop : ∀ (j i : Nat) (σ2 : ag_S) (g2 : Nat → Nat → Int) (c : Nat), i + j = m → ag_HS B σ2 L ln g2 dr qu mi → ag_TA (ag_ug (ag_ug gp 3 (ag_s3 gp (ag_ui (gp 3) b s) b i)) 4 (ag_s4 gp (ag_ui (gp 3) b s) (ag_ui (gp 4) b y) b i)) m ln g2 →
      ∃ σ' g', ag_HS B σ' L ln g' dr qu mi ∧ ag_TA (ag_ug (ag_ug gp 3 (ag_s3 gp (ag_ui (gp 3) b s) b m)) 4 (ag_s4 gp (ag_ui (gp 3) b s) (ag_ui (gp 4) b y) b m)) m ln g' ∧ ag_g3 g2 g' ∧ ag_hf B σ2 σ' 0 0 ∧ ∀ K : ag_Rs → ag_S → Prop, ag_wp 114 33 [some (ag_R B), some (ag_I (b : Int)), some (ag_I s), some (ag_I y), some (ag_I (c : Int)), some (ag_I (i : Int))] [] σ2 K = K (Sum.inl (some (ag_I ((c + ag_cch gp (ag_ui (gp 3) b s) b j i : Nat) : Int)))) σ' := by
    intro j
    induction j with
    | zero =>
      intro i σ2 g2 c hi b1 b2
      have him : i = m := by omega
      subst him
      refine ⟨σ2, g2, b1, b2, fun r hr => rfl, ag_hf_refl _, fun K => ?_⟩
      rw [ag_i114_33]
      simp only [ag_i114_35, ag_i114_36, ag_h_g5 b1, ag_i114_39, ag_h_a3 b1, b2.1, ag_i114_40, ag_nm_nat (show i ≤ 1000000 by omega)]
      rw [if_pos (Int.le_refl _)]
      simp only [ag_i114_100, ag_i114_102]
      rfl
    | succ j ih =>
      intro i σ2 g2 c hi b1 b2
      have him : i < m := by omega
      have r0 : ∀ K : Int → Prop, ag_ia σ2 (L (300 + i)) 0 K = K (gp 0 i) := fun K => ag_a_i0 b1 b2 him K
      have r1 : ∀ K : Int → Prop, ag_ia σ2 (L (300 + i)) 1 K = K (gp 1 i) := fun K => ag_a_i1 b1 b2 him K
      have r3 : ∀ K : Int → Prop, ag_ia σ2 (L (300 + i)) 3 K = K (ag_ui (gp 3) b s i) := fun K => by
        rw [ag_a_i3 b1 b2 him K]
        show K (ag_s3 gp (ag_ui (gp 3) b s) b i i) = _
        unfold ag_s3
        rw [if_neg (by omega)]
      have hqi := hq i
      have hqn : ag_nm (ag_ui (gp 3) b s i) = ag_ui (gp 3) b s i := ag_nm_of (by omega) (by omega)
      have ec : ag_cch gp (ag_ui (gp 3) b s) b (j + 1) i = (if decide (ag_ui (gp 3) b s i = 0 ∧ gp 0 i = 5 ∧ gp 1 i = b) = true then 1 else 0) + ag_cch gp (ag_ui (gp 3) b s) b j (i + 1) := rfl
      rw [ec]
      -- when it is not hit
      have skip : ¬ (ag_ui (gp 3) b s i = 0 ∧ gp 0 i = 5 ∧ gp 1 i = b) → ag_s3 gp (ag_ui (gp 3) b s) b (i + 1) = ag_s3 gp (ag_ui (gp 3) b s) b i ∧ ag_s4 gp (ag_ui (gp 3) b s) (ag_ui (gp 4) b y) b (i + 1) = ag_s4 gp (ag_ui (gp 3) b s) (ag_ui (gp 4) b y) b i := by
        intro hno
        constructor
        · funext z
          unfold ag_s3
          by_cases c1 : z < i ∧ ag_ui (gp 3) b s z = 0 ∧ gp 0 z = 5 ∧ gp 1 z = b
          · rw [if_pos c1, if_pos ⟨by omega, c1.2⟩]
          · rw [if_neg c1, if_neg (fun u => by
              by_cases e : z = i
              · subst e
                exact hno u.2
              · exact c1 ⟨by have := u.1; omega, u.2⟩)]
        · funext z
          unfold ag_s4
          by_cases c1 : z < i ∧ ag_ui (gp 3) b s z = 0 ∧ gp 0 z = 5 ∧ gp 1 z = b
          · rw [if_pos c1, if_pos ⟨by omega, c1.2⟩]
          · rw [if_neg c1, if_neg (fun u => by
              by_cases e : z = i
              · subst e
                exact hno u.2
              · exact c1 ⟨by have := u.1; omega, u.2⟩)]
      by_cases hit : ag_ui (gp 3) b s i = 0 ∧ gp 0 i = 5 ∧ gp 1 i = b
      · have hsm2 : ag_sm (ag_ug (ag_ug gp 3 (ag_s3 gp (ag_ui (gp 3) b s) b i)) 4 (ag_s4 gp (ag_ui (gp 3) b s) (ag_ui (gp 4) b y) b i)) := by
          refine ag_sm_ug9 (ag_sm_ug9 hsp fun z => ?_) fun z => ?_
          · have := hq z
            unfold ag_s3
            split <;> omega
          · have := hsp 4 z
            unfold ag_s4 ag_ui
            split
            · omega
            · split <;> omega
        obtain ⟨σ3, g3, d1, d2, d3, d4, d5⟩ := ag_h_become1 b1 b2 hm hsm2 him (fun z hz z5 => no i him hit.2.1 z hz z5) (y := (b : Int)) (by omega) (by omega)
        have e9 : ag_ug (ag_ug (ag_ug (ag_ug gp 3 (ag_s3 gp (ag_ui (gp 3) b s) b i)) 4 (ag_s4 gp (ag_ui (gp 3) b s) (ag_ui (gp 4) b y) b i)) 3 (ag_ui ((ag_ug (ag_ug gp 3 (ag_s3 gp (ag_ui (gp 3) b s) b i)) 4 (ag_s4 gp (ag_ui (gp 3) b s) (ag_ui (gp 4) b y) b i)) 3) i 3)) 4 (ag_ui ((ag_ug (ag_ug gp 3 (ag_s3 gp (ag_ui (gp 3) b s) b i)) 4 (ag_s4 gp (ag_ui (gp 3) b s) (ag_ui (gp 4) b y) b i)) 4) i b) = ag_ug (ag_ug gp 3 (ag_s3 gp (ag_ui (gp 3) b s) b (i + 1))) 4 (ag_s4 gp (ag_ui (gp 3) b s) (ag_ui (gp 4) b y) b (i + 1)) := by
          rw [ag_ug_34]
          have q3 : ag_ui ((ag_ug (ag_ug gp 3 (ag_s3 gp (ag_ui (gp 3) b s) b i)) 4 (ag_s4 gp (ag_ui (gp 3) b s) (ag_ui (gp 4) b y) b i)) 3) i 3 = ag_s3 gp (ag_ui (gp 3) b s) b (i + 1) := by
            show ag_ui (ag_s3 gp (ag_ui (gp 3) b s) b i) i 3 = _
            funext z
            by_cases e : z = i
            · subst e
              rw [ag_ui_eq9]
              unfold ag_s3
              rw [if_pos ⟨by omega, hit⟩]
            · have e8 : ag_ui (ag_s3 gp (ag_ui (gp 3) b s) b i) i 3 z = ag_s3 gp (ag_ui (gp 3) b s) b i z := if_neg e
              rw [e8]
              unfold ag_s3
              by_cases u : z < i ∧ ag_ui (gp 3) b s z = 0 ∧ gp 0 z = 5 ∧ gp 1 z = b
              · rw [if_pos u, if_pos ⟨by omega, u.2⟩]
              · rw [if_neg u, if_neg (fun v => u ⟨by have := v.1; omega, v.2⟩)]
          have q4 : ag_ui ((ag_ug (ag_ug gp 3 (ag_s3 gp (ag_ui (gp 3) b s) b i)) 4 (ag_s4 gp (ag_ui (gp 3) b s) (ag_ui (gp 4) b y) b i)) 4) i b = ag_s4 gp (ag_ui (gp 3) b s) (ag_ui (gp 4) b y) b (i + 1) := by
            show ag_ui (ag_s4 gp (ag_ui (gp 3) b s) (ag_ui (gp 4) b y) b i) i b = _
            funext z
            by_cases e : z = i
            · subst e
              rw [ag_ui_eq9]
              unfold ag_s4
              rw [if_pos ⟨by omega, hit⟩]
            · have e8 : ag_ui (ag_s4 gp (ag_ui (gp 3) b s) (ag_ui (gp 4) b y) b i) i b z = ag_s4 gp (ag_ui (gp 3) b s) (ag_ui (gp 4) b y) b i z := if_neg e
              rw [e8]
              unfold ag_s4
              by_cases u : z < i ∧ ag_ui (gp 3) b s z = 0 ∧ gp 0 z = 5 ∧ gp 1 z = b
              · rw [if_pos u, if_pos ⟨by omega, u.2⟩]
              · rw [if_neg u, if_neg (fun v => u ⟨by have := v.1; omega, v.2⟩)]
          rw [q3, q4]
        rw [e9] at d2
        obtain ⟨σ4, g4, f1, f2, f3, f4, f5⟩ := ih (i + 1) σ3 g3 (c + 1) (by omega) d1 d2
        refine ⟨σ4, g4, f1, f2, ag_g3_trans d3 f3, ag_hf_trans d4 f4, fun K => ?_⟩
        have f5 := f5 K
        rw [if_pos (decide_eq_true hit), ← Nat.add_assoc, ← f5]
        rw [ag_i114_33]
        simp only [ag_i114_35, ag_i114_36, ag_h_g5 b1, ag_i114_39, ag_h_a3 b1, b2.1, ag_i114_40, ag_nm_nat (show m ≤ 1000000 by omega), ag_nm_nat (show i ≤ 1000000 by omega)]
        rw [if_neg (show ¬ (m : Int) ≤ i by omega)]
        simp only [ag_i114_43, ag_i114_44, ag_h_g5 b1, ag_i114_47, ag_i114_49, ag_a_q b1 b2 him (x := (i : Int)) rfl, ag_i114_50, ag_i114_51, r0, ag_i114_52, ag_i114_53, enm, ag_nmk_5]
        rw [if_neg (show ¬ gp 0 i ≠ 5 by have := hit.2.1; omega)]
        simp only [ag_i114_56, ag_i114_57, ag_h_g5 b1, ag_i114_60, ag_i114_62, ag_a_q b1 b2 him (x := (i : Int)) rfl, ag_i114_63, ag_i114_64, r1, ag_i114_65, ag_i114_66, enm, ag_nm_nat (show b ≤ 1000000 by omega)]
        rw [if_neg (show ¬ gp 1 i ≠ b by have := hit.2.2; omega)]
        simp only [ag_i114_69, ag_i114_70, ag_h_g5 b1, ag_i114_73, ag_i114_75, ag_a_q b1 b2 him (x := (i : Int)) rfl, ag_i114_76, ag_i114_77, r3, ag_i114_78, hqn, ag_nm_z]
        rw [if_neg (show ¬ ag_ui (gp 3) b s i ≠ 0 by have := hit.1; omega)]
        simp only [ag_i114_81, ag_i114_83, ag_i114_84, ag_i114_86, ag_i114_87, ag_i114_88, ag_h_ck b1, d5, ag_kk_v, ag_kk_n, Nat.reduceAdd, ag_i114_91, ag_i114_92_n, ag_i114_92_i, ag_i114_92_r, ag_i114_94_n, ag_i114_94_i, ag_i114_94_r, ag_i114_97]
        rfl
      · obtain ⟨k3, k4⟩ := skip hit
        rw [← k3, ← k4] at b2
        obtain ⟨σ4, g4, f1, f2, f3, f4, f5⟩ := ih (i + 1) σ2 g2 c (by omega) b1 b2
        refine ⟨σ4, g4, f1, f2, f3, f4, fun K => ?_⟩
        have f5 := f5 K
        rw [if_neg (fun u => hit (of_decide_eq_true u)), Nat.zero_add, ← f5]
        rw [k3, k4] at b2
        rw [ag_i114_33]
        simp only [ag_i114_35, ag_i114_36, ag_h_g5 b1, ag_i114_39, ag_h_a3 b1, b2.1, ag_i114_40, ag_nm_nat (show m ≤ 1000000 by omega), ag_nm_nat (show i ≤ 1000000 by omega)]
        rw [if_neg (show ¬ (m : Int) ≤ i by omega)]
        simp only [ag_i114_43, ag_i114_44, ag_h_g5 b1, ag_i114_47, ag_i114_49, ag_a_q b1 b2 him (x := (i : Int)) rfl, ag_i114_50, ag_i114_51, r0, ag_i114_52, ag_i114_53, enm, ag_nmk_5]
        by_cases c1 : gp 0 i = 5
        · rw [if_neg (show ¬ gp 0 i ≠ 5 by omega)]
          simp only [ag_i114_56, ag_i114_57, ag_h_g5 b1, ag_i114_60, ag_i114_62, ag_a_q b1 b2 him (x := (i : Int)) rfl, ag_i114_63, ag_i114_64, r1, ag_i114_65, ag_i114_66, enm, ag_nm_nat (show b ≤ 1000000 by omega)]
          by_cases c2 : gp 1 i = b
          · rw [if_neg (show ¬ gp 1 i ≠ b by omega)]
            simp only [ag_i114_69, ag_i114_70, ag_h_g5 b1, ag_i114_73, ag_i114_75, ag_a_q b1 b2 him (x := (i : Int)) rfl, ag_i114_76, ag_i114_77, r3, ag_i114_78, hqn, ag_nm_z]
            rw [if_pos (show ag_ui (gp 3) b s i ≠ 0 from fun u => hit ⟨u, c1, c2⟩)]
            simp only [ag_i114_94_n, ag_i114_94_i, ag_i114_94_r, ag_i114_97]
            rfl
          · rw [if_pos (show gp 1 i ≠ b from c2)]
            simp only [ag_i114_94_n, ag_i114_94_i, ag_i114_94_r, ag_i114_97]
            rfl
        · rw [if_pos (show gp 0 i ≠ 5 from c1)]
          simp only [ag_i114_94_n, ag_i114_94_i, ag_i114_94_r, ag_i114_97]
          rfl
  have z3 : ag_s3 gp (ag_ui (gp 3) b s) b 0 = ag_ui (gp 3) b s := by
    funext z
    unfold ag_s3
    rw [if_neg (by omega)]
  have z4 : ag_s4 gp (ag_ui (gp 3) b s) (ag_ui (gp 4) b y) b 0 = ag_ui (gp 4) b y := by
    funext z
    unfold ag_s4
    rw [if_neg (by omega)]
  rw [← z3, ← z4] at b2
  obtain ⟨σ4, g4, f1, f2, f3, f4, f5⟩ := loop m 0 σ2 g2 (if s = 3 then 1 else 0) (Nat.zero_add _) b1 b2
  refine ⟨σ4, g4, f1, ?_, ag_g3_trans (ag_g3_trans a3 b3) f3, ag_hf_trans (ag_hf_trans a4 b4) f4, fun K => ?_⟩
  · unfold ag_set
    rw [hwr, hwr]
    exact f2
  · rw [← f5 K]
    have w3 := fun K => a5 3 K rfl
    have w4 := fun K => b5 4 K rfl
    simp only [ag_e114, ag_i114_0, ag_i114_1, ag_h_g5 h, ag_i114_4, ag_i114_5, ag_a_q h ta hb (x := (b : Int)) rfl, ag_i114_6, ag_i114_7, ag_i114_8, w3, ag_i114_9, ag_i114_10, ag_h_g5 a1, ag_i114_13, ag_i114_14, ag_a_q a1 a2 hb (x := (b : Int)) rfl, ag_i114_15, ag_i114_16, ag_i114_17, w4, ag_i114_18, ag_i114_19, ag_i114_20, hsn, ag_nmk_3]
    by_cases c1 : s = 3
    · rw [if_neg (show ¬ s ≠ 3 by omega), if_pos c1]
      simp only [ag_i114_23, ag_i114_24, ag_i114_28_n, ag_i114_28_i, ag_i114_28_r, ag_i114_30, ag_i114_31_n, ag_i114_31_i, ag_i114_31_r]
      rfl
    · rw [if_pos (show s ≠ 3 from c1), if_neg c1]
      simp only [ag_i114_27, ag_i114_28_n, ag_i114_28_i, ag_i114_28_r, ag_i114_30, ag_i114_31_n, ag_i114_31_i, ag_i114_31_r]
      rfl
end AGHB
