/-! THE HOUSE: doIt of a STRIKE; doIt of all kinds. -/
variable {B : Nat}
theorem ag_ug_tw (g : Nat → Nat → Int) (k : Nat) (x y : Nat → Int) : ag_ug (ag_ug g k x) k y = ag_ug g k y := by
  funext j
  unfold ag_ug
  by_cases c : j = k
  · rw [if_pos c, if_pos c]
  · rw [if_neg c, if_neg c, if_neg c]
theorem ag_TP_w {gq : Nat → Nat → Int} {nq : Nat} {ln : Nat → Nat} {g : Nat → Nat → Int} (t : ag_TP gq nq ln g) (p : Nat) (v : Int) : ag_TP (ag_ug gq 0 (ag_ui (gq 0) p v)) nq ln (ag_ug g (500 + p) (ag_ui (g (500 + p)) 0 v)) := by
  refine ⟨t.1, fun p' hp' => ?_⟩
  obtain ⟨e1, e2, e3⟩ := t.2 p' hp'
  refine ⟨e1, ?_, ?_⟩
  · unfold ag_ug ag_ui
    by_cases c1 : p' = p
    · subst c1
      rw [if_pos rfl, if_pos rfl, if_pos rfl, if_pos rfl]
    · rw [if_neg (show ¬ 500 + p' = 500 + p by omega), if_pos rfl, if_neg c1]
      exact e2
  · unfold ag_ug ag_ui
    by_cases c1 : p' = p
    · subst c1
      rw [if_pos rfl, if_neg (by decide), if_neg (by decide)]
      exact e3
    · rw [if_neg (show ¬ 500 + p' = 500 + p by omega), if_neg (by decide)]
      exact e3
/-- struck from p to s -/
def ag_xst (gb : Nat → Nat → Int) (p s : Nat) (H : Nat → Int) : Prop := (∀ i, p ≤ i → i < s → H (gb 6 i).toNat = 1) ∧ ∀ c : Nat, (∀ i, p ≤ i → i < s → gb 6 i ≠ c) → H c = ag_cxf gb 4 c
theorem ag_xst_s {gb : Nat → Nat → Int} {w n p s : Nat} {H : Nat → Int} (hB : ag_IB gb w n) (hps : p ≤ s) (hs : s < n) (h : ag_xst gb p s H) : ag_xst gb p (s + 1) (ag_ui H (gb 6 s).toNat 1) := by
  have hn := fun i (hi : i < n) => (hB.2.1 i hi).1
  refine ⟨fun i i1 i2 => ?_, fun c hc => ?_⟩
  · by_cases e : (gb 6 i).toNat = (gb 6 s).toNat
    · rw [e, ag_ui_eq9]
    · rw [show ag_ui H (gb 6 s).toNat 1 (gb 6 i).toNat = H (gb 6 i).toNat from if_neg e]
      exact h.1 i i1 (by
        rcases Nat.lt_or_ge i s with z | z
        · exact z
        · exact absurd (by rw [show i = s by omega]) e)
  · have hne : c ≠ (gb 6 s).toNat := fun z => by
      have := hn s hs
      exact hc s hps (by omega) (by omega)
    rw [show ag_ui H (gb 6 s).toNat 1 c = H c from if_neg hne]
    exact h.2 c (fun i i1 i2 => hc i i1 (by omega))
section AGHS
variable {σ : ag_S} {L ln : Nat → Nat} {g : Nat → Nat → Int} {dr qu mi : Int} {gb gp gh gq X : Nat → Nat → Int} {w n m np nq : Nat}
theorem ag_p_w (h : ag_HS B σ L ln g dr qu mi) (tp : ag_TP gq nq ln g) {p : Nat} (hp : p < nq) {v : Int} (v1 : -100000 ≤ v) (v2 : v ≤ 100000) :
    ∃ σ' g', ag_HS B σ' L ln g' dr qu mi ∧ ag_TP (ag_ug gq 0 (ag_ui (gq 0) p v)) nq ln g' ∧ (∀ r, r < 500 → g' r = g r) ∧ ag_hf B σ σ' 0 0 ∧ (∀ z, z ≠ L (500 + p) → σ'.1 z = σ.1 z) ∧ ∀ (x : Int) (K : ag_S → Prop), x = 0 → ag_is σ (L (500 + p)) x v K = K σ' := by
  have hlv := ag_p_lv tp hp
  have hl := (tp.2 p hp).1
  have hz := h.2.2.2.2.1 _ (Or.inr hlv)
  refine ⟨_, _, ag_HS_is h hlv 0 v1 v2, ag_TP_w tp p v, fun r hr => ag_ug_ne _ _ (by omega), ag_hf_up σ _ (Or.inr hz.1), fun z hz => ag_up_ne hz, fun x K hx => ?_⟩
  rw [ag_h_is h hlv (k := 0) (by omega) (by omega) hx]
/-- petitions to one that is struck go to the parent -/
theorem ag_d_pet {b c : Nat} {u at9 : Int} {its q6 q7 : Nat} {v8 v9 x : Int} {Q : Nat → Int} (hx : ag_nm x = x) (u1 : -100000 ≤ u) (u2 : u ≤ 100000) : ∀ (d j : Nat) (σ1 : ag_S) (g1 : Nat → Nat → Int) (x14 : Option ag_V), j + d = nq → ag_HS B σ1 L ln g1 dr qu mi → ag_TP (ag_ug gq 0 (ag_td Q x u j)) nq ln g1 →
    ∃ σ2 g2 y14, ag_HS B σ2 L ln g2 dr qu mi ∧ ag_TP (ag_ug gq 0 (ag_td Q x u nq)) nq ln g2 ∧ (∀ r, r < 500 → g2 r = g1 r) ∧ ag_hf B σ1 σ2 0 0 ∧ (∀ z, (∀ r, ag_hlv ln r → L r ≠ z) → σ2.1 z = σ1.1 z) ∧ ∀ K : ag_Rs → ag_S → Prop,
      ag_wp 118 462 [some (ag_R B), some (ag_I (b : Int)), some (ag_R its), some (ag_I (c : Int)), some (ag_I u), some (ag_I at9), some (ag_R q6), some (ag_R q7), some (ag_I v8), some (ag_I v9), some (ag_I x), some (ag_R (L 5)), some (ag_I (nq : Int)), some (ag_I (j : Int)), x14] [] σ1 K =
      ag_wp 118 497 [some (ag_R B), some (ag_I (b : Int)), some (ag_R its), some (ag_I (c : Int)), some (ag_I u), some (ag_I at9), some (ag_R q6), some (ag_R q7), some (ag_I v8), some (ag_I v9), some (ag_I x), some (ag_R (L 5)), some (ag_I (nq : Int)), some (ag_I (nq : Int)), y14] [] σ2 K := by
  intro d
  induction d with
  | zero =>
    intro j σ1 g1 x14 hj h1 t1
    have hjn : j = nq := by omega
    subst hjn
    refine ⟨σ1, g1, x14, h1, t1, fun _ _ => rfl, ag_hf_refl σ1, fun _ _ => rfl, fun K => ?_⟩
    rw [ag_i118_462]
    simp only [ag_i118_464, ag_i118_466]
    rw [if_pos (Int.le_refl _)]
  | succ d ih =>
    intro j σ1 g1 x14 hj h1 t1
    have hjn : j < nq := by omega
    have hn99 : nq ≤ 99 := by
      have := h1.2.2.2.2.2.2.2.1 5 (by decide) (by decide)
      rwa [t1.1] at this
    have e0 : g1 (500 + j) 0 = Q j := by
      rw [(t1.2 j hjn).2.1]
      show ag_td Q x u j j = Q j
      unfold ag_td
      rw [if_neg (by omega)]
    have hQn : ag_nm (Q j) = Q j := by
      rw [← e0]
      exact ag_h_nm h1 _ _
    have r0 : ∀ K : Int → Prop, ag_ia σ1 (L (500 + j)) 0 K = K (Q j) := fun K => by
      rw [ag_h_ia h1 (ag_p_lv t1 hjn) (k := 0) (x := 0) (by rw [(t1.2 j hjn).1]; decide) (by rw [(t1.2 j hjn).1]; decide) rfl, e0]
    by_cases c1 : Q j = x
    · obtain ⟨σ2, g2, a1, a2, a3, a4, a5, a6⟩ := ag_p_w h1 t1 hjn u1 u2
      have e9 : ag_ug (ag_ug gq 0 (ag_td Q x u j)) 0 (ag_ui (ag_ug gq 0 (ag_td Q x u j) 0) j u) = ag_ug gq 0 (ag_td Q x u (j + 1)) := by
        rw [ag_ug_tw, ag_ug_same, ag_td_s1 c1]
      rw [e9] at a2
      obtain ⟨σ3, g3, y14, b1, b2, b3, b4, b5, b6⟩ := ih (j + 1) σ2 g2 (some (ag_R (L (500 + j)))) (by omega) a1 a2
      refine ⟨σ3, g3, y14, b1, b2, fun r hr => (b3 r hr).trans (a3 r hr), ag_hf_trans a4 b4, fun z hz => (b5 z hz).trans (a5 z (fun y => hz _ (ag_p_lv t1 hjn) y.symm)), fun K => ?_⟩
      have w0 := fun K => a6 0 K rfl
      rw [← b6, ag_i118_462]
      simp only [ag_i118_464, ag_i118_466, ag_nm_nat (show nq ≤ 1000000 by omega), ag_nm_nat (show j ≤ 1000000 by omega)]
      rw [if_neg (show ¬ (nq : Int) ≤ j by omega)]
      simp only [ag_i118_469, ag_i118_471, ag_i118_473, ag_p_q h1 t1 hjn (x := (j : Int)) rfl, ag_i118_474_n, ag_i118_474_i, ag_i118_474_r, ag_i118_476, ag_i118_478, ag_i118_479, r0, ag_i118_480, ag_i118_482, hQn, hx]
      rw [if_neg (show ¬ Q j ≠ x by omega)]
      simp only [ag_i118_485, ag_i118_487, ag_i118_488, ag_i118_490, w0, ag_i118_491_n, ag_i118_491_i, ag_i118_491_r, ag_i118_494]
      rfl
    · rw [ag_td_s0 c1] at t1
      obtain ⟨σ3, g3, y14, b1, b2, b3, b4, b5, b6⟩ := ih (j + 1) σ1 g1 (some (ag_R (L (500 + j)))) (by omega) h1 t1
      refine ⟨σ3, g3, y14, b1, b2, b3, b4, b5, fun K => ?_⟩
      rw [← b6, ag_i118_462]
      simp only [ag_i118_464, ag_i118_466, ag_nm_nat (show nq ≤ 1000000 by omega), ag_nm_nat (show j ≤ 1000000 by omega)]
      rw [if_neg (show ¬ (nq : Int) ≤ j by omega)]
      simp only [ag_i118_469, ag_i118_471, ag_i118_473, ag_p_q h1 t1 hjn (x := (j : Int)) rfl, ag_i118_474_n, ag_i118_474_i, ag_i118_474_r, ag_i118_476, ag_i118_478, ag_i118_479, r0, ag_i118_480, ag_i118_482, hQn, hx]
      rw [if_pos (show Q j ≠ x from c1)]
      simp only [ag_i118_491_n, ag_i118_491_i, ag_i118_491_r, ag_i118_494]
      rfl
/-- the flags, and the petitions -/
theorem ag_d_gone {p e b c : Nat} {u at9 : Int} {its q6 q7 l9 : Nat} {f8 : Nat → Int} (hB : ag_IB gb w n) (hpe : p < e) (hen : e ≤ n) (hl : l9 = e - p) (hf : ∀ i, i < l9 → f8 i = gb 6 (p + i)) (hne : ∀ i, i < l9 → gb 6 (p + i) ≠ u) (u1 : -100000 ≤ u) (u2 : u ≤ 100000) (hq6 : ∀ r, ag_hlv ln r → L r ≠ q7) : ∀ (d i : Nat) (σ1 : ag_S) (g1 X : Nat → Nat → Int) (x10 x11 x12 x13 x14 : Option ag_V), i + d = l9 → ag_HS B σ1 L ln g1 dr qu mi → ag_CR X w ln g1 → (∀ j, j ≠ 4 → X j = ag_cxf gb j) → ag_xst gb p (p + i) (X 4) → ag_TP (ag_ug gq 0 (ag_tdl (gq 0) (fun s => gb 6 (p + s)) u nq i)) nq ln g1 → σ1.1 q7 = some (Sum.inl (l9, f8)) →
    ∃ σ2 g2 X2 y10 y11 y12 y13 y14, ag_HS B σ2 L ln g2 dr qu mi ∧ ag_CR X2 w ln g2 ∧ (∀ j, j ≠ 4 → X2 j = ag_cxf gb j) ∧ ag_xst gb p e (X2 4) ∧ ag_TP (ag_ug gq 0 (ag_tdl (gq 0) (fun s => gb 6 (p + s)) u nq (e - p))) nq ln g2 ∧ (∀ r, r < 100 ∨ (140 ≤ r ∧ r < 500) → g2 r = g1 r) ∧ ag_hf B σ1 σ2 0 0 ∧ σ2.1 q7 = some (Sum.inl (l9, f8)) ∧ ∀ K : ag_Rs → ag_S → Prop,
      ag_wp 118 424 [some (ag_R B), some (ag_I (b : Int)), some (ag_R its), some (ag_I (c : Int)), some (ag_I u), some (ag_I at9), some (ag_R q6), some (ag_R q7), some (ag_I (l9 : Int)), some (ag_I (i : Int)), x10, x11, x12, x13, x14] [] σ1 K =
      ag_wp 118 503 [some (ag_R B), some (ag_I (b : Int)), some (ag_R its), some (ag_I (c : Int)), some (ag_I u), some (ag_I at9), some (ag_R q6), some (ag_R q7), some (ag_I (l9 : Int)), some (ag_I (l9 : Int)), y10, y11, y12, y13, y14] [] σ2 K := by
  have hw : w ≤ 40 := hB.1.2.2.2
  have hnw : n ≤ w := hB.1.2.2.1
  intro d
  induction d with
  | zero =>
    intro i σ1 g1 X x10 x11 x12 x13 x14 hi h1 r1 hX hx t1 hq
    have hil : i = l9 := by omega
    subst hil
    rw [show p + i = e by omega] at hx
    rw [hl] at t1
    refine ⟨σ1, g1, X, x10, x11, x12, x13, x14, h1, r1, hX, hx, t1, fun _ _ => rfl, ag_hf_refl σ1, hq, fun K => ?_⟩
    rw [ag_i118_424]
    simp only [ag_i118_426, ag_i118_428]
    rw [if_pos (Int.le_refl _)]
  | succ d ih =>
    intro i σ1 g1 X x10 x11 x12 x13 x14 hi h1 r1 hX hx t1 hq
    have hin : p + i < n := by omega
    have hz := hB.2.1 (p + i) hin
    obtain ⟨z, hz1⟩ : ∃ z : Nat, gb 6 (p + i) = z := ⟨(gb 6 (p + i)).toNat, by omega⟩
    have hzw : z < w := by omega
    have hzn : ag_nm (z : Int) = z := ag_nm_nat (by omega)
    obtain ⟨σ2, g2, a1, a2, a3, a4, a5, a6, a7⟩ := ag_r_w h1 r1 hzw (j := 4) (by decide) (v := 1) (by decide) (by decide)
    have hx2 := ag_xst_s hB (show p ≤ p + i by omega) hin hx
    rw [hz1, Int.toNat_natCast] at hx2
    have t2 : ag_TP (ag_ug gq 0 (ag_td (ag_tdl (gq 0) (fun s => gb 6 (p + s)) u nq i) (z : Int) u 0)) nq ln g2 := by
      rw [ag_td_0]
      refine ⟨t1.1, fun p' hp' => ?_⟩
      rw [a3 (500 + p') (by omega)]
      exact t1.2 p' hp'
    obtain ⟨σ3, g3, y14, b1, b2, b3, b4, b5, b6⟩ := ag_d_pet (b := b) (c := c) (at9 := at9) (its := its) (q6 := q6) (q7 := q7) (v8 := (l9 : Int)) (v9 := (i : Int)) hzn u1 u2 nq 0 σ2 g2 x14 (Nat.zero_add _) a1 t2
    have et : ag_td (ag_tdl (gq 0) (fun s => gb 6 (p + s)) u nq i) (z : Int) u nq = ag_tdl (gq 0) (fun s => gb 6 (p + s)) u nq (i + 1) := by
      have := ag_tdl_s (t := gq 0) (f := fun s => gb 6 (p + s)) (u := u) (nq := nq) (i := i) (hne i (by omega))
      rwa [hz1] at this
    rw [et] at b2
    have r3 : ag_CR (ag_ug X 4 (ag_ui (X 4) z 1)) w ln g3 := by
      refine ⟨a2.1, fun c' hc' => ?_⟩
      rw [b3 (100 + c') (by omega)]
      exact a2.2 c' hc'
    have hq3 : σ3.1 q7 = some (Sum.inl (l9, f8)) := (b5 q7 hq6).trans ((a5 q7 (fun y => hq6 _ (ag_r_lv r1 hzw) y.symm)).trans hq)
    obtain ⟨σ4, g4, X4, z10, z11, z12, z13, z14, f1, f2, f3, f4, f5, f6, f7, f8', f9⟩ := ih (i + 1) σ3 g3 (ag_ug X 4 (ag_ui (X 4) z 1)) (some (ag_I (z : Int))) (some (ag_R (L 5))) (some (ag_I (nq : Int))) (some (ag_I (nq : Int))) y14 (by omega) b1 r3 (fun j hj => (ag_ug_ne _ _ hj).trans (hX j hj)) (by rw [ag_ug_same]; exact hx2) b2 hq3
    refine ⟨σ4, g4, X4, z10, z11, z12, z13, z14, f1, f2, f3, f4, f5, fun r hr => (f6 r hr).trans ((b3 r (by omega)).trans (a3 r (by omega))), ag_hf_trans a4 (ag_hf_trans b4 f7), f8', fun K => ?_⟩
    have w4 := fun K => a7 4 K rfl
    have hfz : f8 i = (z : Int) := (hf i (by omega)).trans hz1
    rw [← f9, ag_i118_424]
    simp only [ag_i118_426, ag_i118_428, ag_nm_nat (show l9 ≤ 1000000 by omega), ag_nm_nat (show i ≤ 1000000 by omega)]
    rw [if_neg (show ¬ (l9 : Int) ≤ i by omega)]
    simp only [ag_i118_431, ag_i118_433, ag_i118_435, ag_ia_at hq (show i < l9 by omega) (show l9 ≤ 1000000 by omega), hfz, ag_i118_436_n, ag_i118_436_i, ag_i118_436_r, ag_i118_438, ag_i118_439, ag_h_g3 h1, ag_i118_442, ag_i118_444, ag_r_q h1 r1 hzw (x := (z : Int)) rfl, ag_i118_445, ag_i118_446, ag_i118_447, w4, ag_i118_448, ag_i118_449, ag_h_g12 a1, ag_i118_452_n, ag_i118_452_i, ag_i118_452_r, ag_i118_454, ag_i118_456, ag_h_a5 a1, t2.1, ag_i118_457_n, ag_i118_457_i, ag_i118_457_r, ag_i118_459, ag_i118_460_n, ag_i118_460_i, ag_i118_460_r]
    rw [show some (ag_I 0) = some (ag_I ((0 : Nat) : Int)) from rfl, b6]
    simp only [ag_i118_497_n, ag_i118_497_i, ag_i118_497_r, ag_i118_500]
    rfl
/-- their rows of children are emptied -/
theorem ag_d_empty {p e b c : Nat} {u at9 : Int} {its q6 q7 l9 : Nat} {f8 : Nat → Int} {y11 y12 y13 y14 : Option ag_V} (hB : ag_IB gb w n) (hpe : p < e) (hen : e ≤ n) (hl : l9 = e - p) (hf : ∀ i, i < l9 → f8 i = gb 6 (p + i)) : ∀ (d i : Nat) (σ1 : ag_S) (L1 ln1 : Nat → Nat) (g1 : Nat → Nat → Int) (x10 : Option ag_V), i + d = l9 → ag_HS B σ1 L1 ln1 g1 dr qu mi → ln1 2 = 41 → q7 ≠ L1 2 → σ1.1 q7 = some (Sum.inl (l9, f8)) → q7 ≤ σ1.2.1 →
    ∃ σ2 L2 ln2 g2, ag_HS B σ2 L2 ln2 g2 dr qu mi ∧ (∀ r, r < 200 ∨ 241 ≤ r → ln2 r = ln1 r ∧ g2 r = g1 r) ∧ (∀ k, p + i ≤ k → k < e → ag_kds ln2 g2 (gb 6 k).toNat = []) ∧ (∀ k : Nat, (∀ j, p + i ≤ j → j < e → gb 6 j ≠ k) → ag_kds ln2 g2 k = ag_kds ln1 g1 k) ∧ ag_hf B σ1 σ2 d 0 ∧ ∀ K : ag_Rs → ag_S → Prop,
      ag_wp 118 515 [some (ag_R B), some (ag_I (b : Int)), some (ag_R its), some (ag_I (c : Int)), some (ag_I u), some (ag_I at9), some (ag_R q6), some (ag_R q7), some (ag_I (l9 : Int)), some (ag_I (i : Int)), x10, y11, y12, y13, y14] [] σ1 K = K (Sum.inl none) σ2 := by
  have hw : w ≤ 40 := hB.1.2.2.2
  have hnw : n ≤ w := hB.1.2.2.1
  intro d
  induction d with
  | zero =>
    intro i σ1 L1 ln1 g1 x10 hi h1 l2 hq2 hq hq9
    refine ⟨σ1, L1, ln1, g1, h1, fun _ _ => ⟨rfl, rfl⟩, fun k k1 k2 => by omega, fun _ _ => rfl, ag_hf_refl σ1, fun K => ?_⟩
    rw [ag_i118_515]
    simp only [ag_i118_517, ag_i118_519, ag_nm_nat (show l9 ≤ 1000000 by omega), ag_nm_nat (show i ≤ 1000000 by omega)]
    rw [if_pos (show (l9 : Int) ≤ i by omega)]
    simp only [ag_i118_545]
  | succ d ih =>
    intro i σ1 L1 ln1 g1 x10 hi h1 l2 hq2 hq hq9
    have hin : p + i < n := by omega
    have hz := hB.2.1 (p + i) hin
    obtain ⟨z, hz1⟩ : ∃ z : Nat, gb 6 (p + i) = z := ⟨(gb 6 (p + i)).toNat, by omega⟩
    have hzw : z < w := by omega
    have f1 := ag_fr_n9 σ1 (Sum.inl (0, fun _ => (0 : Int))) 0
    have h0 := ag_HS_fr h1 f1
    obtain ⟨σ2, d1, d2, d3, d4, d5⟩ := ag_h_kid h0 (k := z) (q := σ1.2.1 + 1) (by omega) (ag_n9_at _ _ _) (ag_HS_new h1 (Nat.lt_succ_self _) (Nat.lt_succ_self _) (Nat.le_refl _)) (fun i => ⟨show (-100000 : Int) ≤ 0 by decide, show (0 : Int) ≤ 100000 by decide⟩)
    have hq2' : q7 ≠ ag_uf L1 (200 + z) (σ1.2.1 + 1) 2 := by rw [ag_uf_ne (by omega)]; exact hq2
    have hs2 : σ2.2.1 = σ1.2.1 + 1 := by rw [d2]; rfl
    obtain ⟨σ3, L3, ln3, g3, b1, b2, b3, b4, b5, b6⟩ := ih (i + 1) σ2 _ _ _ (some (ag_I (z : Int))) (by omega) d5 (by rw [ag_uf_ne (by omega)]; exact l2) hq2' ((d3 q7 hq2).trans ((ag_n9_ne (by omega)).trans hq)) (by omega)
    have kz : ag_kds (ag_uf ln1 (200 + z) 0) (ag_ug g1 (200 + z) (fun _ => 0)) z = [] := by
      unfold ag_kds
      rw [ag_uf_at]
      rfl
    have ko : ∀ k : Nat, k ≠ z → ag_kds (ag_uf ln1 (200 + z) 0) (ag_ug g1 (200 + z) (fun _ => 0)) k = ag_kds ln1 g1 k := fun k hk => ag_kds_cg ⟨ag_uf_ne (by omega), ag_ug_ne _ _ (by omega)⟩
    refine ⟨σ3, L3, ln3, g3, b1, fun r hr => ?_, fun k k1 k2 => ?_, fun k hk => ?_, ag_hf_le (ag_hf_trans (ag_hf_fr f1 h1.2.2.2.2.2.1.2) (ag_hf_trans d4 b5)) (by omega) (by omega), fun K => ?_⟩
    · obtain ⟨c1, c2⟩ := b2 r hr
      rw [c1, c2, ag_uf_ne (by omega), ag_ug_ne _ _ (by omega)]
      exact ⟨rfl, rfl⟩
    · by_cases e9 : k = p + i
      · rw [e9, hz1, Int.toNat_natCast, b4 z (fun j j1 j2 y => by
          have := ag_IB_inj hB (show j < n by omega) hin (by omega)
          omega)]
        exact kz
      · exact b3 k (by omega) k2
    · rw [b4 k (fun j j1 j2 => hk j (by omega) j2)]
      exact ko k (fun y => hk (p + i) (by omega) (by omega) (by omega))
    · have hfz : f8 i = (z : Int) := (hf i (by omega)).trans hz1
      have b6 := b6 K
      rw [← b6, ag_i118_515]
      simp only [ag_i118_517, ag_i118_519, ag_nm_nat (show l9 ≤ 1000000 by omega), ag_nm_nat (show i ≤ 1000000 by omega)]
      rw [if_neg (show ¬ (l9 : Int) ≤ i by omega)]
      simp only [ag_i118_522, ag_i118_524, ag_i118_526, ag_ia_at hq (show i < l9 by omega) (show l9 ≤ 1000000 by omega), hfz, ag_i118_527_n, ag_i118_527_i, ag_i118_527_r, ag_i118_529, ag_i118_530, ag_h_g4 h1, ag_i118_533, ag_i118_535, ag_i118_536, ag_nm_z, show ((0 : Int) ≤ 0 ∧ (0 : Int) ≤ 1000000) = True from by simp, true_and, show (0 : Int).toNat = 0 from rfl, ag_n9_f, ag_i118_538]
      rw [d1 (z : Int) _ rfl]
      simp only [ag_i118_539_n, ag_i118_539_i, ag_i118_539_r, ag_i118_542]
      rfl
theorem ag_d_0 (h : ag_HS B σ L ln g dr qu mi) (t : ag_TC gb w n ln g) (ta : ag_TA gp m ln g) (tp : ag_TP gq nq ln g) (hV : ag_IV (gb, (w, (n, gp))) m) {b : Nat} (hb : b < m) (k0 : gp 0 b = 0) (hl : gp 3 b = 0) (hf : ag_ftb gb w n gp b ≠ 0) : ag_DO B σ L ln g dr qu mi gb w n gp m gq nq b := by
  have hB : ag_IB gb w n := hV.1
  have hsp : ag_sm gp := hV.2.1.1.2.1
  have hs : ag_sm gb := hB.1.2.1
  have hw : w ≤ 40 := hB.1.2.2.2
  have hnw : n ≤ w := hB.1.2.2.1
  have enm := fun k i => ag_nm_s hsp k i
  have hPI := ag_pfm_I hV hb hl hf
  have hB' : ag_IB (ag_pfm gb w n gp b).1 (ag_pfm gb w n gp b).2.1 (ag_pfm gb w n gp b).2.2.1 := hPI.1
  obtain ⟨⟨p, e, hp1, hp6, hp5, hp3, hp2, hpb, hpe, hc0, hc1⟩, -⟩ := ag_lhd_of hV hb hl (by omega)
  obtain ⟨c, e6, hc, -, epg, ehg⟩ := ag_pg_nat hB hp1
  have ec : gp 1 b = c := hp6.symm.trans e6
  have hcp : (gb 6 p).toNat = c := by omega
  obtain ⟨sl, hu⟩ := ag_slt_of hB hp1
  have hpe1 := hpb.1
  have hen := hpb.2.1
  have hpf : ag_pfm gb w n gp b = (ag_gs gb n p e, (w, (n - (e - p), gp))) := by
    unfold ag_pfm
    rw [if_pos k0, ← hpe, hp3]
  have htp : ag_tpf gb n gp (gq 0) nq b = ag_tdl (gq 0) (fun s => gb 6 (p + s)) (gb 1 c) nq (e - p) := by
    unfold ag_tpf
    rw [if_pos k0, ← hpe, hp3, ec, ag_rd_nat (by decide) (by omega)]
  obtain ⟨⟨A0, C0, m1, m2, m3⟩, m4, m5⟩ := ag_kid_strike hB hp1 hpb
  rw [epg] at hu m1 m3 m5
  rw [e6] at m1 m2
  have pre := fun K => ag_d_pre h t ta hV hb (by omega) hp1 e6 ec hc hu m1 m2 K
  obtain ⟨s40, sle, hun⟩ := ag_slt_40 hu hw
  have hu4 := ag_slt_up hu hw
  obtain ⟨q1, q2⟩ := ag_kds_u t.2.2.2 hw hu
  have hne0 : ∀ i, p ≤ i → i < e → gb 1 c ≠ gb 6 i := fun i i1 i2 z => by
    rcases ag_par_ahead hB hp1 with v | ⟨j, j1, j2⟩
    · have := (hB.2.1 i (by omega)).1
      omega
    · have := ag_IB_inj hB (show i < n by omega) (show j < n by omega) (by rw [← j2, epg]; exact z.symm)
      omega
  -- all below is read, and itself put ahead
  obtain ⟨rd1, rd2⟩ := ag_read_below hB t.2.2.2 hp1 hpb
  rw [hcp] at rd1 rd2
  have hlc : ag_hlv ln (200 + c) := ag_k_lv t (by omega)
  have hlen3 : (ag_rdl (ag_kds ln g) 4 (ag_kds ln g c)).length = e - (p + 1) := by
    rw [rd1, List.length_map, List.length_range']
  have hklc : ln (200 + c) ≤ 40 := by
    have z1 := ag_rdl_len (ag_kds ln g) 3 (ag_kds ln g c)
    have z1 : (ag_kds ln g c).length ≤ (ag_rdl (ag_kds ln g) 4 (ag_kds ln g c)).length := z1
    rw [hlen3, ag_kds_len] at z1
    omega
  obtain ⟨q8, l8, f8, σ1, d1, d2, d3, d4, d5, d6, d7⟩ := ag_h_read0 h t.2.1 (h.2.2.1 _ hlc) (h.2.2.2.2.1 _ (Or.inr hlc)).2 hklc rd2 (by show (ag_rdl (ag_kds ln g) 4 (ag_kds ln g c)).length ≤ 40; omega)
  have d1 : ∀ K : ag_Rs → ag_S → Prop, ag_cl9 100 [ag_R B, ag_R (L (200 + c))] σ K = K (Sum.inl (some (ag_R q8))) σ1 := d1
  have d3 : ag_ls l8 f8 = ag_rdl (ag_kds ln g) 4 (ag_kds ln g c) := d3
  rw [rd1] at d3
  have hl8 : l8 = e - (p + 1) := by
    have := congrArg List.length d3
    rwa [ag_ls_len, List.length_map, List.length_range'] at this
  have h1 := ag_HS_fr h d6
  have pl := fun K => ag_h_plus d2 (show 1 ≤ q8 by omega) d5 (by omega) (Nat.zero_le l8) (c : Int) K
  have fpl := ag_fr_n9 σ1 (Sum.inl (l8 + 1, ag_pls f8 0 l8 (c : Int))) (l8 + 1)
  have hat := ag_n9_at σ1 (Sum.inl (l8 + 1, ag_pls f8 0 l8 (c : Int))) (l8 + 1)
  generalize hσ2 : ag_n9 σ1 (Sum.inl (l8 + 1, ag_pls f8 0 l8 (c : Int))) (l8 + 1) = σ2 at pl fpl hat
  have hs2 : σ2.2.1 = σ1.2.1 + 1 := by rw [← hσ2]; rfl
  have h2 := ag_HS_fr h1 fpl
  have hF : ∀ i, i < e - p → ag_pls f8 0 l8 (c : Int) i = gb 6 (p + i) := fun i hi => by
    unfold ag_pls
    rw [if_neg (by omega)]
    by_cases z : i = 0
    · rw [if_pos z, z, Nat.add_zero, e6]
    · rw [if_neg z, if_pos (by omega)]
      have z1 := ag_ls_get (f := f8) (show i - 1 < l8 by omega)
      rw [d3, List.getElem?_map, List.getElem?_range' (by omega)] at z1
      have z2 : gb 6 (p + 1 + (i - 1)) = f8 (i - 1) := by simpa using z1
      rw [← z2]
      congr 1
      omega
  generalize ag_pls f8 0 l8 (c : Int) = F at hF hat hσ2
  have hl9 : l8 + 1 = e - p := by omega
  rw [hl9] at hat
  -- cut
  obtain ⟨σ3, L3, ln3, g3, a1, a2, a3, a4, a5, a6, a7⟩ := ag_h_cut h2 t hw hc hu (A := A0) (C := C0) (q1.trans m1) m2 (by omega)
  have l31 : ln3 1 = w := (a3 1 (by omega)).2.1.trans t.1
  have l32 : ln3 2 = 41 := (a3 2 (by omega)).2.1.trans t.2.1
  have cr3 : ag_CR (ag_cxf gb) w ln3 g3 := by
    refine ⟨l31, fun c' hc' => ?_⟩
    obtain ⟨-, z1, z2⟩ := a3 (100 + c') (by omega)
    rw [z1, z2]
    exact (ag_TC_CR t).2 c' hc'
  have gc3 : ag_gc ln g ln3 g3 := fun r hr => (a3 r (by omega)).2
  have ta3 := ag_TA_gc gc3 ta
  have tp3 : ag_TP (ag_ug gq 0 (ag_tdl (gq 0) (fun s => gb 6 (p + s)) (gb 1 c) nq 0)) nq ln3 g3 := by
    rw [ag_tdl_0, ag_ug_sf]
    exact ag_TP_gc gc3 tp
  -- the new array's cell is none of the rows', and is left by the cut
  have hσ12 : σ.2.1 ≤ σ1.2.1 := d6.2.1
  have hlw3 : ∀ r, ag_hlv ln3 r → ag_hlv ln r := fun r hr => by
    have z1 := (a3 1 (by omega)).2.1
    have z2 := (a3 2 (by omega)).2.1
    have z3 := (a3 3 (by omega)).2.1
    have z4 := (a3 4 (by omega)).2.1
    have z5 := (a3 5 (by omega)).2.1
    unfold ag_hlv at hr ⊢
    rw [z1, z2, z3, z4, z5] at hr
    exact hr
  have hq6 : ∀ r, ag_hlv ln3 r → L3 r ≠ σ1.2.1 + 1 := fun r hr => by
    by_cases z : r = 200 + sl
    · rw [z, a6]
      omega
    · rw [(a3 r z).1]
      have := (h.2.2.2.2.1 r (Or.inr (hlw3 r hr))).2
      omega
  have hL2 := (h.2.2.2.2.1 2 (Or.inl (by decide))).2
  have hL32 : L3 2 = L 2 := (a3 2 (by omega)).1
  have hq3 : σ3.1 (σ1.2.1 + 1) = some (Sum.inl (e - p, F)) := (a7 _ (by omega) (by omega)).trans hat
  have h1c := hs 1 c
  obtain ⟨σ4, g4, X4, y10, y11, y12, y13, y14, b1, b2, b3, b4, b5, b6, b7, b8, b9⟩ := ag_d_gone (b := b) (c := c) (u := gb 1 c) (at9 := (A0.length : Int)) (its := L (300 + b)) (q6 := σ1.2.1 + 1) hB hpe1 hen rfl hF (fun i hi z => hne0 (p + i) (by omega) (by omega) z.symm) h1c.1 h1c.2 hq6 (e - p) 0 σ3 g3 (ag_cxf gb) none none none none none (Nat.zero_add _) a1 cr3 (fun _ _ => rfl) ⟨fun i i1 i2 => by omega, fun _ _ => rfl⟩ tp3 hq3
  obtain ⟨σ5, L5, ln5, g5, c1, c2, c3, c4, c5, c6⟩ := ag_d_empty (b := b) (c := c) (u := gb 1 c) (at9 := (A0.length : Int)) (its := L (300 + b)) (q6 := σ1.2.1 + 1) (y11 := y11) (y12 := y12) (y13 := y13) (y14 := y14) hB hpe1 hen rfl hF (e - p) 0 σ4 L3 ln3 g4 y10 (Nat.zero_add _) b1 l32 (by omega) b8 (by have := a2.2.1; have := b7.2.1; omega)
  rw [Nat.add_zero] at c3 c4
  have cr5 : ag_CR X4 w ln5 g5 := by
    refine ⟨(c2 1 (by omega)).1.trans b2.1, fun c' hc' => ?_⟩
    obtain ⟨z1, z2⟩ := c2 (100 + c') (by omega)
    rw [z1, z2]
    exact b2.2 c' hc'
  have tp5 : ag_TP (ag_ug gq 0 (ag_tdl (gq 0) (fun s => gb 6 (p + s)) (gb 1 c) nq (e - p))) nq ln5 g5 := by
    refine ⟨(c2 5 (by omega)).1.trans b5.1, fun p' hp' => ?_⟩
    obtain ⟨z1, z2⟩ := c2 (500 + p') (by omega)
    rw [z1, z2]
    exact b5.2 p' hp'
  have hm : m ≤ 20 := hV.2.1.1.2.2
  have ta5 : ag_TA gp m ln5 g5 := by
    refine ⟨(c2 3 (by omega)).1.trans ta3.1, fun b' hb' => ?_⟩
    obtain ⟨z1, z2⟩ := c2 (300 + b') (by omega)
    rw [z1, z2, b6 (300 + b') (by omega)]
    exact ta3.2 b' hb'
  have gd5 : ag_gdo ln g ln5 g5 := fun r hr => by
    obtain ⟨z1, z2⟩ := c2 r (by omega)
    rw [z1, z2, b6 r (by omega)]
    exact gc3 r (by omega)
  refine ⟨σ5, L5, ln5, g5, c1, ?_, ?_, ?_, gd5, ag_hf_le (ag_hf_trans (ag_hf_fr d6 h.2.2.2.2.2.1.2) (ag_hf_trans (ag_hf_fr fpl h1.2.2.2.2.2.1.2) (ag_hf_trans a2 (ag_hf_trans b7 c5)))) (by omega) (by omega), fun K => ?_⟩
  · rw [hpf] at hB' ⊢
    refine ag_TC_of cr5 ((c2 2 (by omega)).1.trans l32) (fun c' hc' j hj => ?_) (ag_kdo_iff.mpr fun u' s9 hs' => ?_)
    · have hc' : c' < w := hc'
      by_cases j4 : j = 4
      · subst j4
        show X4 4 c' = if ag_gs gb n p e 5 c' = -1 then 1 else 0
        by_cases z : ∃ i, p ≤ i ∧ i < e ∧ gb 6 i = c'
        · obtain ⟨i, z1, z2, z3⟩ := z
          have z4 : (gb 6 i).toNat = c' := by omega
          rw [← z4, b4.1 i z1 z2, if_pos ((ag_gs_hold hB hpb).1 i z1 z2)]
        · have z9 : ∀ i, p ≤ i → i < e → gb 6 i ≠ c' := fun i z1 z2 z3 => z ⟨i, z1, z2, z3⟩
          rw [b4.2 c' z9]
          show (if gb 5 c' = -1 then (1 : Int) else 0) = _
          by_cases y : gb 5 c' = -1
          · have y2 : ag_gs gb n p e 5 c' = -1 := by
              have hB'' : ag_IB (ag_gs gb n p e) w (n - (e - p)) := hB'
              rw [ag_IB_in hB'' hc']
              rw [ag_IB_in hB hc'] at y
              intro i i1 i2
              obtain ⟨v, hv9⟩ := ag_prl_fst.mp ⟨i, i1, i2⟩
              rw [ag_prl_strike hpe1 hen] at hv9
              have seg : ∀ a9 b9, b9 ≤ n → ((c' : Int), v) ∉ ag_sgm gb a9 b9 := fun a9 b9 hb9 hm9 => by
                obtain ⟨k, k1, k2, k3⟩ := ag_sgm_mem.mp hm9
                exact y k (by omega) (congrArg Prod.fst k3).symm
              rcases List.mem_append.mp hv9 with v1 | v1
              · exact seg 0 p (by omega) v1
              · exact seg e n (Nat.le_refl _) v1
            rw [if_pos y, if_pos y2]
          · have hyy : ∃ i, i < n ∧ gb 6 i = c' := by
              rcases hB.2.2.1 c' hc' with z1 | ⟨i, i1, -, i3⟩
              · exact absurd z1 y
              · exact ⟨i, i1, i3⟩
            obtain ⟨i, i1, i2⟩ := hyy
            have y3 := (ag_gs_hold hB hpb).2 i i1 (by
              rcases Nat.lt_or_ge i p with z1 | z1
              · exact Or.inl z1
              · rcases Nat.lt_or_ge i e with z2 | z2
                · exact absurd i2 (z9 i z1 z2)
                · exact Or.inr z2)
            rw [i2, Int.toNat_natCast] at y3
            rw [if_neg y, if_neg y3]
      · rw [b3 j j4]
        have h5 : j = 0 ∨ j = 1 ∨ j = 2 ∨ j = 3 := by omega
        rcases h5 with h5 | h5 | h5 | h5 <;> subst h5 <;> rfl
    · have s4 := (ag_slt_40 hs' (Nat.le_refl _)).1
      show ag_kds ln5 g5 s9 = ag_kid (ag_prl (ag_gs gb n p e) (n - (e - p))) u'
      have old := ag_kdo_iff.mp t.2.2.2
      have k43 : ag_kds ln3 g4 s9 = ag_kds ln3 g3 s9 := ag_kds_cg ⟨rfl, b6 (200 + s9) (by omega)⟩
      by_cases z : ∃ i, p ≤ i ∧ i < e ∧ gb 6 i = u'
      · obtain ⟨i, z1, z2, z3⟩ := z
        have zi := (hB.2.1 i (by omega)).1
        have zs : s9 = (gb 6 i).toNat := by
          rcases hs' with ⟨y1, y2⟩ | ⟨y, y1, y2, y3⟩ <;> omega
        rw [zs, c3 i z1 z2, ← z3, m4 i z1 z2]
      · have z9 : ∀ i, p ≤ i → i < e → gb 6 i ≠ u' := fun i z1 z2 z3 => z ⟨i, z1, z2, z3⟩
        have zk : ag_kds ln5 g5 s9 = ag_kds ln3 g4 s9 := c4 s9 (fun j j1 j2 y => by
          have := hB.2.1 j (by omega)
          rcases hs' with ⟨y1, y2⟩ | ⟨y', y1, y2, y3⟩
          · omega
          · exact z9 j j1 j2 (by omega))
        rw [zk, k43]
        by_cases z2 : u' = gb 1 c
        · have zs2 := (ag_slt_eq hs' hu4).mpr z2
          rw [z2, m3, zs2]
          exact a4
        · have zs2 : s9 ≠ sl := fun y => z2 ((ag_slt_eq hs' hu4).mp y)
          rw [m5 u' z2 z9, ag_kds_cg (a3 (200 + s9) (by omega)).2]
          exact old u' s9 hs'
  · rw [hpf]
    exact ta5
  · rw [htp]
    exact tp5
  · rw [pre, ag_d_57 h ta hsp hb (by omega), ag_d_75 h ta hsp hb (by omega), ag_d_101 h ta hsp hb (by omega), ag_d_217 h ta hsp hb (by omega), ag_i118_384]
    simp only [ag_i118_385, ag_i118_386, ag_a_i0 h ta hb, ag_i118_387, enm, ag_nm_z]
    rw [if_neg (show ¬ gp 0 b ≠ 0 by omega)]
    have al3 := fun K => ag_al_at hq3 K
    have al4 := fun K => ag_al_at b8 K
    have c6 := c6 K
    simp only [ag_i118_390, ag_i118_391, ag_i118_392, ag_h_g4 h, ag_i118_395, ag_i118_396, ag_k_q h t (show c ≤ 40 by omega) (x := (c : Int)) rfl, ag_i118_397, ag_h_ck h, d1, ag_kk_v, ag_kk_n, Nat.reduceAdd, ag_i118_400, ag_i118_401, ag_i118_402]
    rw [show ag_I 0 = ag_I ((0 : Nat) : Int) from rfl, pl]
    simp only [ag_kk_v, ag_kk_n, Nat.reduceAdd, ag_i118_405_n, ag_i118_405_i, ag_i118_405_r, ag_i118_407, ag_i118_408, ag_i118_409, ag_h_ck h2, a5, ag_kk_v, ag_kk_n, Nat.reduceAdd, ag_i118_412, ag_i118_414_n, ag_i118_414_i, ag_i118_414_r, ag_i118_416, ag_i118_418, al3, ag_i118_419_n, ag_i118_419_i, ag_i118_419_r, ag_i118_421, ag_i118_422_n, ag_i118_422_i, ag_i118_422_r]
    rw [show ag_I 0 = ag_I ((0 : Nat) : Int) from rfl, b9]
    simp only [ag_i118_503, ag_i118_505_n, ag_i118_505_i, ag_i118_505_r, ag_i118_507, ag_i118_509, al4, ag_i118_510_n, ag_i118_510_i, ag_i118_510_r, ag_i118_512, ag_i118_513_n, ag_i118_513_i, ag_i118_513_r]
    exact c6
/-- doIt performs what can be done -/
theorem ag_h_doIt (h : ag_HS B σ L ln g dr qu mi) (t : ag_TC gb w n ln g) (ta : ag_TA gp m ln g) (tp : ag_TP gq nq ln g) (hV : ag_IV (gb, (w, (n, gp))) m) {b : Nat} (hb : b < m) (hl : gp 3 b = 0) (hf : ag_ftb gb w n gp b ≠ 0) : ag_DO B σ L ln g dr qu mi gb w n gp m gq nq b := by
  have k1 : 0 ≤ gp 0 b := (hV.2.1.2.2 b hb).1.1
  have k2 : gp 0 b ≤ 5 := (hV.2.1.2.2 b hb).1.2.1
  have k3 : gp 0 b = 0 ∨ gp 0 b = 1 ∨ gp 0 b = 2 ∨ gp 0 b = 3 ∨ gp 0 b = 4 ∨ gp 0 b = 5 := by omega
  rcases k3 with k3 | k3 | k3 | k3 | k3 | k3
  · exact ag_d_0 h t ta tp hV hb k3 hl hf
  · exact ag_d_1 h t ta tp hV hb k3 hl hf
  · exact ag_d_2 h t ta tp hV hb k3 hl
  · exact ag_d_3 h t ta tp hV hb k3 hl hf
  · exact ag_d_4 h t ta tp hV hb k3 hl hf
  · exact ag_d_5 h t ta tp hV hb k3
end AGHS
