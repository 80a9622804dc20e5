/-! THE INVARIANT of the bill, kept. -/
variable {B : Nat}
theorem ag_rn_hi {j : Nat} (r q : Nat → Int) (h : 40 ≤ j) : ∀ k, ag_rn r q k j = q j := by
  intro k
  induction k with
  | zero => rfl
  | succ k ih => rw [ag_rn, ag_wr_hi _ _ _ h, ih]
theorem ag_rn_sm {r q : Nat → Int} (hq : ∀ j, -100000 ≤ q j ∧ q j ≤ 100000) : ∀ k, k ≤ 1000 → ∀ j, -100000 ≤ ag_rn r q k j ∧ ag_rn r q k j ≤ 100000 := by
  intro k
  induction k with
  | zero => intro _; exact hq
  | succ k ih => intro hk j; exact ag_wr_sm 40 _ _ (ih (by omega)) (by omega) (by omega) j
theorem ag_rn_I {r q : Nat → Int} {w n : Nat} (hw : w ≤ 40) (hn : n ≤ 40) (hr : ∀ i, i < n → 0 ≤ r i ∧ r i < w) (hj : ∀ i j, i < j → j < n → r i ≠ r j) (hq : ∀ c : Nat, c < w → (∃ i, i < n ∧ r i = c) ∨ q c = -1) :
    (∀ i : Nat, i < n → 0 ≤ r i ∧ r i < w ∧ ag_rn r q n (r i).toNat = i) ∧ (∀ c : Nat, c < w → ag_rn r q n c = -1 ∨ ∃ i : Nat, i < n ∧ ag_rn r q n c = i ∧ r i = c) := by
  have hr' : ∀ i, i < n → 0 ≤ r i ∧ r i < 40 := fun i hi => by have := hr i hi; omega
  refine ⟨fun i hi => ⟨(hr i hi).1, (hr i hi).2, ag_rn_yes r q n hn hr' hj i hi⟩, fun c hc => ?_⟩
  by_cases h : ∃ i, i < n ∧ r i = c
  · obtain ⟨i, h1, h2⟩ := h
    have := ag_rn_yes r q n hn hr' hj i h1
    rw [h2, Int.toNat_natCast] at this
    exact Or.inr ⟨i, h1, this, h2⟩
  · left
    rw [ag_rn_no r q c n hn hr' (fun i hi e => h ⟨i, hi, e⟩)]
    rcases hq c hc with q1 | q1
    · exact absurd q1 h
    · exact q1
theorem ag_un_hi {j : Nat} (r : Nat → Int) (h : 40 ≤ j) : ∀ (k i : Nat) (q : Nat → Int), ag_un r q k i j = q j := by
  intro k
  induction k with
  | zero => intro i q; rfl
  | succ k ih => intro i q; rw [ag_un, ih, ag_wr_hi _ _ _ h]
theorem ag_un_sm {r : Nat → Int} : ∀ (k i : Nat) (q : Nat → Int), (∀ j, -100000 ≤ q j ∧ q j ≤ 100000) → ∀ j, -100000 ≤ ag_un r q k i j ∧ ag_un r q k i j ≤ 100000 := by
  intro k
  induction k with
  | zero => intro i q hq; exact hq
  | succ k ih => intro i q hq; exact ih (i + 1) _ (fun j => ag_wr_sm 40 _ _ hq (by omega) (by omega) j)
theorem ag_un_m {r : Nat → Int} {c : Nat} : ∀ (k i : Nat) (q : Nat → Int), (∀ t, i ≤ t → t < i + k → 0 ≤ r t ∧ r t < 40) → i + k ≤ 40 → q c = -1 → ag_un r q k i c = -1 := by
  intro k
  induction k with
  | zero => intro i q _ _ h; exact h
  | succ k ih =>
    intro i q hr hk h
    have h1 := hr i (by omega) (by omega)
    rw [ag_un]
    refine ih (i + 1) _ (fun t t1 t2 => hr t (by omega) (by omega)) (by omega) ?_
    rw [ag_rd_nat (by decide) (by omega), ag_wr_i _ (by decide) h1.1 (by omega)]
    unfold ag_ui
    split
    · rfl
    · exact h
theorem ag_un_yes {r : Nat → Int} {c : Nat} : ∀ (k i : Nat) (q : Nat → Int), (∀ t, i ≤ t → t < i + k → 0 ≤ r t ∧ r t < 40) → i + k ≤ 40 → (∃ t, i ≤ t ∧ t < i + k ∧ r t = c) → ag_un r q k i c = -1 := by
  intro k
  induction k with
  | zero => intro i q _ _ ⟨t, h1, h2, _⟩; omega
  | succ k ih =>
    intro i q hr hk ⟨t, t1, t2, t3⟩
    have h1 := hr i (by omega) (by omega)
    rw [ag_un]
    by_cases hti : t = i
    · subst hti
      refine ag_un_m k _ _ (fun t t1 t2 => hr t (by omega) (by omega)) (by omega) ?_
      rw [ag_rd_nat (by decide) (by omega), ag_wr_i _ (by decide) h1.1 (by omega), t3]
      unfold ag_ui
      rw [if_pos (by omega)]
    · exact ih (i + 1) _ (fun t t1 t2 => hr t (by omega) (by omega)) (by omega) ⟨t, by omega, by omega, t3⟩
theorem ag_un_no {r : Nat → Int} {c : Nat} : ∀ (k i : Nat) (q : Nat → Int), (∀ t, i ≤ t → t < i + k → 0 ≤ r t ∧ r t < 40) → i + k ≤ 40 → (∀ t, i ≤ t → t < i + k → r t ≠ c) → ag_un r q k i c = q c := by
  intro k
  induction k with
  | zero => intro i q _ _ _; rfl
  | succ k ih =>
    intro i q hr hk hno
    have h1 := hr i (by omega) (by omega)
    have h2 := hno i (by omega) (by omega)
    rw [ag_un, ih (i + 1) _ (fun t t1 t2 => hr t (by omega) (by omega)) (by omega) (fun t t1 t2 => hno t (by omega) (by omega)), ag_rd_nat (by decide) (by omega), ag_wr_i _ (by decide) h1.1 (by omega)]
    unfold ag_ui
    rw [if_neg (by omega)]
theorem ag_po_congr {h u r h' u' r' : Nat → Int} {n : Nat} (he : ∀ i, i < n → h' i = h i ∧ u' i = u i ∧ r' i = r i) (hp : ag_po h u r n) : ag_po h' u' r' n := by
  intro i hi
  obtain ⟨e1, e2, e3⟩ := he i hi
  rw [e1, e2]
  obtain ⟨a1, a2, a3⟩ := hp i hi
  refine ⟨a1, a2, ?_⟩
  rcases a3 with a3 | ⟨j, b1, b2, b3, b4⟩
  · exact Or.inl a3
  · obtain ⟨f1, f2, f3⟩ := he j (by omega)
    refine Or.inr ⟨j, b1, by rw [f3]; exact b2, by rw [f1]; exact b3, fun k k1 k2 => ?_⟩
    rw [(he k (by omega)).1]
    exact b4 k k1 k2
theorem ag_IB_ug {gb : Nat → Nat → Int} {w n : Nat} (h : ag_IB gb w n) {k : Nat} {x : Nat → Int} (hk : k = 0 ∨ k = 3 ∨ k = 4 ∨ k = 7) (hx : ∀ j, 40 ≤ j → x j = 0) (hs : ∀ j, -100000 ≤ x j ∧ x j ≤ 100000) : ag_IB (ag_ug gb k x) w n := by
  obtain ⟨⟨a1, a2, a3, a4⟩, b, c, d⟩ := h
  have e1 : ag_ug gb k x 1 = gb 1 := ag_ug_ne _ _ (by omega)
  have e2 : ag_ug gb k x 2 = gb 2 := ag_ug_ne _ _ (by omega)
  have e5 : ag_ug gb k x 5 = gb 5 := ag_ug_ne _ _ (by omega)
  have e6 : ag_ug gb k x 6 = gb 6 := ag_ug_ne _ _ (by omega)
  refine ⟨⟨fun i j hj => ?_, fun i j => ?_, a3, a4⟩, ?_, ?_, ?_⟩
  · rw [ag_ug_at]
    split
    · exact hx j hj
    · exact a1 i j hj
  · rw [ag_ug_at]
    split
    · exact hs j
    · exact a2 i j
  · rw [e5, e6]; exact b
  · rw [e5, e6]; exact c
  · rw [e6]
    refine ag_po_congr (fun i hi => ⟨?_, ?_, rfl⟩) d
    · unfold ag_hg; rw [e2, e6]
    · unfold ag_pg; rw [e1, e6]
theorem ag_dr_pcu {r : Nat → Int} {p e n i : Nat} (hpe : p < e) (hen : e ≤ n) (hi : i < n - (e - p)) : ag_dr r p e n i = ag_pcu r p e i := by
  unfold ag_dr ag_pcu
  by_cases q : i < p
  · rw [if_neg (by omega), if_pos q]
  · rw [if_pos (by omega), if_neg q]
    congr 1
    omega
theorem ag_IB_strike {gb : Nat → Nat → Int} {w n p e : Nat} (h : ag_IB gb w n) (hb : ag_blk (ag_hg gb) n p e) : ag_IB (ag_gs gb n p e) w (n - (e - p)) := by
  have hinj := fun {i j : Nat} => ag_IB_inj h (i := i) (j := j)
  have h9 := h
  obtain ⟨⟨a1, a2, a3, a4⟩, b, c, d⟩ := h9
  obtain ⟨p1, p2, p3, p4⟩ := hb
  have hr : ∀ t, p ≤ t → t < p + (e - p) → 0 ≤ gb 6 t ∧ gb 6 t < 40 := fun t _ _ => by
    have := b t (by omega)
    omega
  have e5 : ag_gs gb n p e 5 = ag_rn (ag_dr (gb 6) p e n) (ag_un (gb 6) (gb 5) (e - p) p) (n - (e - p)) := by simp [ag_gs, ag_ug]
  have e6 : ag_gs gb n p e 6 = ag_dr (gb 6) p e n := by simp [ag_gs, ag_ug]
  have e1 : ag_gs gb n p e 1 = gb 1 := by simp [ag_gs, ag_ug]
  have e2 : ag_gs gb n p e 2 = gb 2 := by simp [ag_gs, ag_ug]
  have hI := ag_rn_I (r := ag_dr (gb 6) p e n) (q := ag_un (gb 6) (gb 5) (e - p) p) (w := w) (n := n - (e - p)) a4 (by omega) (fun i hi => by
      rw [ag_dr_pcu p1 p2 hi]
      unfold ag_pcu
      split
      · have := b i (by omega); omega
      · have := b (i + (e - p)) (by omega); omega) (fun i j hij hj q => by
      rw [ag_dr_pcu p1 p2 hj, ag_dr_pcu p1 p2 (by omega)] at q
      unfold ag_pcu at q
      split at q <;> split at q <;> have := hinj (by omega) (by omega) q <;> omega) (fun c' hc => by
      rcases c c' hc with q | ⟨i, i1, i2, i3⟩
      · right
        exact ag_un_m _ _ _ hr (by omega) q
      · by_cases q1 : i < p
        · refine Or.inl ⟨i, by omega, ?_⟩
          rw [ag_dr_pcu p1 p2 (by omega), ag_pcu_lt q1, i3]
        · by_cases q2 : i < e
          · right
            exact ag_un_yes _ _ _ hr (by omega) ⟨i, by omega, by omega, i3⟩
          · refine Or.inl ⟨i - (e - p), by omega, ?_⟩
            rw [ag_dr_pcu p1 p2 (by omega), ag_pcu_ge (by omega), show i - (e - p) + (e - p) = i by omega, i3])
  refine ⟨⟨fun k j hj => ?_, fun k j => ?_, by omega, a4⟩, ?_, ?_, ?_⟩
  · unfold ag_gs
    rw [ag_ug_at, ag_ug_at]
    split
    · unfold ag_dr
      rw [if_neg (by omega)]
      exact a1 6 j hj
    · split
      · rw [ag_rn_hi _ _ hj, ag_un_hi _ hj]
        exact a1 5 j hj
      · exact a1 k j hj
  · unfold ag_gs
    rw [ag_ug_at, ag_ug_at]
    split
    · unfold ag_dr
      split
      · exact a2 6 _
      · exact a2 6 j
    · split
      · exact ag_rn_sm (ag_un_sm _ _ _ (a2 5)) _ (by omega) j
      · exact a2 k j
  · rw [e5, e6]; exact hI.1
  · rw [e5, e6]; exact hI.2
  · refine ag_po_congr (fun i hi => ?_) (ag_po_cut d ⟨p1, p2, p3, p4⟩)
    unfold ag_hg ag_pg
    rw [e1, e2, e6, ag_dr_pcu p1 p2 hi]
    unfold ag_pcu
    split <;> exact ⟨rfl, rfl, rfl⟩
theorem ag_sh_pin {r : Nat → Int} {place n i : Nat} {x : Int} (hi : i ≤ n) : ag_ui (ag_sh r place n) place x i = ag_pin r place x i := by
  unfold ag_ui ag_sh ag_pin
  by_cases q : i = place
  · rw [if_pos q, if_neg (by omega), if_pos q]
  · rw [if_neg q]
    by_cases q2 : i < place
    · rw [if_neg (by omega), if_pos q2]
    · rw [if_pos (by omega), if_neg q2, if_neg q]
theorem ag_ui_ne {g : Nat → Int} {i j : Nat} {x : Int} (h : j ≠ i) : ag_ui g i x j = g j := by
  unfold ag_ui
  rw [if_neg h]
theorem ag_ui_eq {g : Nat → Int} {i : Nat} {x : Int} : ag_ui g i x i = x := by
  unfold ag_ui
  rw [if_pos rfl]
theorem ag_ui_sm {g : Nat → Int} {i : Nat} {x : Int} (hg : ∀ j, -100000 ≤ g j ∧ g j ≤ 100000) (h1 : -100000 ≤ x) (h2 : x ≤ 100000) (j : Nat) : -100000 ≤ ag_ui g i x j ∧ ag_ui g i x j ≤ 100000 := by
  unfold ag_ui
  split
  · exact ⟨h1, h2⟩
  · exact hg j
theorem ag_IB_insert {gb : Nat → Nat → Int} {w n place : Nat} {above words hu : Int} (h : ag_IB gb w n) (hw : w < 40) (hp : place ≤ n) (h0 : 0 ≤ hu) (h3 : hu ≤ 3) (x1 : -100000 ≤ words) (x2 : words ≤ 100000) (y1 : -100000 ≤ above) (y2 : above ≤ 100000)
    (hlast : place < n → ag_hg gb place ≤ hu) (hnew : (hu = 0 ∧ above = -1) ∨ ∃ j, j < place ∧ above = gb 6 j ∧ ag_hg gb j + 1 = hu ∧ ∀ k, j < k → k < place → hu ≤ ag_hg gb k) : ag_IB (ag_gi gb w n place above words hu) (w + 1) (n + 1) := by
  have hinj := fun {i j : Nat} => ag_IB_inj h (i := i) (j := j)
  have h9 := h
  obtain ⟨⟨a1, a2, a3, a4⟩, b, c, d⟩ := h9
  have e5 : ag_gi gb w n place above words hu 5 = ag_rn (ag_ui (ag_sh (gb 6) place n) place w) (gb 5) (n + 1) := by simp [ag_gi, ag_ug]
  have e6 : ag_gi gb w n place above words hu 6 = ag_ui (ag_sh (gb 6) place n) place w := by simp [ag_gi, ag_ug]
  have e1 : ag_gi gb w n place above words hu 1 = ag_ui (gb 1) w above := by simp [ag_gi, ag_ug]
  have e2 : ag_gi gb w n place above words hu 2 = ag_ui (gb 2) w hu := by simp [ag_gi, ag_ug]
  have hI := ag_rn_I (r := ag_ui (ag_sh (gb 6) place n) place w) (q := gb 5) (w := w + 1) (n := n + 1) (by omega) (by omega) (fun i hi => by
      rw [ag_sh_pin (by omega)]
      unfold ag_pin
      split
      · have := b i (by omega); omega
      · split
        · omega
        · have := b (i - 1) (by omega); omega) (fun i j hij hj q => by
      rw [ag_sh_pin (by omega), ag_sh_pin (by omega)] at q
      unfold ag_pin at q
      by_cases q1 : i < place
      · rw [if_pos q1] at q
        by_cases q2 : j < place
        · rw [if_pos q2] at q
          have := hinj (by omega) (by omega) q
          omega
        · rw [if_neg q2] at q
          by_cases q3 : j = place
          · rw [if_pos q3] at q
            have := b i (by omega)
            omega
          · rw [if_neg q3] at q
            have := hinj (by omega) (by omega) q
            omega
      · rw [if_neg q1, if_neg (show ¬ j < place by omega), if_neg (show ¬ j = place by omega)] at q
        by_cases q3 : i = place
        · rw [if_pos q3] at q
          have := b (j - 1) (by omega)
          omega
        · rw [if_neg q3] at q
          have := hinj (by omega) (by omega) q
          omega) (fun c' hc => by
      by_cases hcw : c' = w
      · refine Or.inl ⟨place, by omega, ?_⟩
        rw [ag_sh_pin hp, ag_pin_eq, hcw]
      · rcases c c' (by omega) with q | ⟨i, i1, i2, i3⟩
        · exact Or.inr q
        · by_cases q1 : i < place
          · refine Or.inl ⟨i, by omega, ?_⟩
            rw [ag_sh_pin (by omega), ag_pin_lt q1, i3]
          · refine Or.inl ⟨i + 1, by omega, ?_⟩
            rw [ag_sh_pin (by omega), ag_pin_gt (by omega), i3])
  refine ⟨⟨fun k j hj => ?_, fun k j => ?_, by omega, by omega⟩, ?_, ?_, ?_⟩
  · unfold ag_gi
    simp only [ag_ug_at]
    (repeat' split) <;> first | (rw [ag_rn_hi _ _ hj]; exact a1 5 j hj) | (rw [ag_ui_ne (by omega)]; exact a1 _ j hj) | (rw [ag_ui_ne (by omega)]; unfold ag_sh; rw [if_neg (by omega)]; exact a1 6 j hj) | exact a1 _ j hj
  · unfold ag_gi
    simp only [ag_ug_at]
    have zr : ∀ j, -100000 ≤ ag_ui (ag_sh (gb 6) place n) place w j ∧ ag_ui (ag_sh (gb 6) place n) place w j ≤ 100000 := by
      refine fun j => ag_ui_sm (fun j => ?_) (by omega) (by omega) j
      unfold ag_sh
      split
      · exact a2 6 _
      · exact a2 6 _
    (repeat' split) <;> first | exact ag_rn_sm (a2 5) _ (by omega) j | exact zr j | exact ag_ui_sm (a2 _) (by omega) (by omega) j | exact a2 k j
  · rw [e5, e6]
    exact hI.1
  · rw [e5, e6]
    exact hI.2
  · refine ag_po_congr (fun i hi => ?_) (ag_po_insert (rn := (w : Int)) d hp h0 h3 hlast hnew)
    unfold ag_hg ag_pg
    rw [e1, e2, e6, ag_sh_pin (by omega)]
    unfold ag_pin
    split
    · have := b i (by omega)
      exact ⟨ag_ui_ne (by omega), ag_ui_ne (by omega), rfl⟩
    · split
      · rw [Int.toNat_natCast]
        exact ⟨ag_ui_eq, ag_ui_eq, rfl⟩
      · have := b (i - 1) (by omega)
        exact ⟨ag_ui_ne (by omega), ag_ui_ne (by omega), rfl⟩
