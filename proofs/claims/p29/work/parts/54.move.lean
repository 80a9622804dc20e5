/-! MOVE keeps the bill's invariant. -/
variable {B : Nat}
theorem ag_sub_add {n p e : Nat} (h1 : p < e) (h2 : e ≤ n) : n = n - (e - p) + (e - p) := by omega
/-- a block of d put at e -/
def ag_bin (h : Nat → Int) (e d : Nat) (hb : Nat → Int) : Nat → Int := fun i => if i < e then h i else if i < e + d then hb (i - e) else h (i - d)
theorem ag_bin_lt {h hb : Nat → Int} {e d i : Nat} (hi : i < e) : ag_bin h e d hb i = h i := by
  unfold ag_bin
  rw [if_pos hi]
theorem ag_bin_in {h hb : Nat → Int} {e d t : Nat} (ht : t < d) : ag_bin h e d hb (e + t) = hb t := by
  unfold ag_bin
  rw [if_neg (by omega), if_pos (by omega), Nat.add_sub_cancel_left]
theorem ag_bin_ge {h hb : Nat → Int} {e d i : Nat} (hi : e ≤ i) : ag_bin h e d hb (i + d) = h i := by
  unfold ag_bin
  rw [if_neg (show ¬ i + d < e by omega), if_neg (show ¬ i + d < e + d by omega), Nat.add_sub_cancel]
theorem ag_po_block {h u r hb ub rb : Nat → Int} {n e d : Nat} {H : Int} (hp : ag_po h u r n) (he : e ≤ n) (hd : 0 < d) (h0 : hb 0 = H) (hH : 0 ≤ H) (hH3 : H ≤ 3)
    (hroot : (H = 0 ∧ ub 0 = -1) ∨ ∃ j, j < e ∧ ub 0 = r j ∧ h j + 1 = H ∧ ∀ k, j < k → k < e → H ≤ h k)
    (hin : ∀ t, 0 < t → t < d → hb t ≤ 3 ∧ H < hb t ∧ ∃ s, s < t ∧ ub t = rb s ∧ hb s + 1 = hb t ∧ ∀ k, s < k → k < t → hb t ≤ hb k)
    (hlast : e < n → h e ≤ H) : ag_po (ag_bin h e d hb) (ag_bin u e d ub) (ag_bin r e d rb) (n + d) := by
  have hge : ∀ t, t < d → H ≤ hb t := by
    intro t ht
    by_cases t0 : t = 0
    · subst t0; omega
    · have := (hin t (by omega) ht).2.1
      omega
  intro i hi
  by_cases q1 : i < e
  · rw [ag_bin_lt q1, ag_bin_lt q1]
    obtain ⟨a1, a2, a3⟩ := hp i (by omega)
    refine ⟨a1, a2, ?_⟩
    rcases a3 with a3 | ⟨j, b1, b2, b3, b4⟩
    · exact Or.inl a3
    · refine Or.inr ⟨j, b1, ?_, ?_, ?_⟩
      · rw [ag_bin_lt (by omega)]; exact b2
      · rw [ag_bin_lt (by omega)]; exact b3
      · intro k k1 k2
        rw [ag_bin_lt (by omega)]
        exact b4 k k1 k2
  · by_cases q2 : i < e + d
    · obtain ⟨t, rfl⟩ : ∃ t, i = e + t := ⟨i - e, by omega⟩
      rw [ag_bin_in (by omega), ag_bin_in (by omega)]
      by_cases t0 : t = 0
      · subst t0
        rw [h0]
        refine ⟨hH, hH3, ?_⟩
        rcases hroot with a3 | ⟨j, b1, b2, b3, b4⟩
        · exact Or.inl a3
        · refine Or.inr ⟨j, by omega, ?_, ?_, ?_⟩
          · rw [ag_bin_lt b1]; exact b2
          · rw [ag_bin_lt b1]; exact b3
          · intro k k1 k2
            rw [ag_bin_lt (by omega)]
            exact b4 k k1 (by omega)
      · obtain ⟨c1, c2, s, c3, c4, c5, c6⟩ := hin t (by omega) (by omega)
        refine ⟨by omega, c1, Or.inr ⟨e + s, by omega, ?_, ?_, ?_⟩⟩
        · rw [ag_bin_in (by omega)]; exact c4
        · rw [ag_bin_in (by omega)]; exact c5
        · intro k k1 k2
          obtain ⟨z, rfl⟩ : ∃ z, k = e + z := ⟨k - e, by omega⟩
          rw [ag_bin_in (by omega)]
          exact c6 z (by omega) (by omega)
    · obtain ⟨i, rfl⟩ : ∃ z, i = z + d := ⟨i - d, by omega⟩
      rw [ag_bin_ge (by omega), ag_bin_ge (by omega)]
      obtain ⟨a1, a2, a3⟩ := hp i (by omega)
      refine ⟨a1, a2, ?_⟩
      rcases a3 with a3 | ⟨j, b1, b2, b3, b4⟩
      · exact Or.inl a3
      · have hie : j < e → h i ≤ H := by
          intro hj
          have l := hlast (by omega)
          by_cases q3 : i = e
          · rw [q3]; exact l
          · have := b4 e (by omega) (by omega)
            omega
        by_cases hj : j < e
        · refine Or.inr ⟨j, by omega, ?_, ?_, ?_⟩
          · rw [ag_bin_lt hj]; exact b2
          · rw [ag_bin_lt hj]; exact b3
          · intro k k1 k2
            by_cases k3 : k < e
            · rw [ag_bin_lt k3]
              exact b4 k k1 (by omega)
            · by_cases k4 : k < e + d
              · obtain ⟨z, rfl⟩ : ∃ z, k = e + z := ⟨k - e, by omega⟩
                rw [ag_bin_in (by omega)]
                have := hge z (by omega)
                have := hie hj
                omega
              · obtain ⟨z, rfl⟩ : ∃ z, k = z + d := ⟨k - d, by omega⟩
                rw [ag_bin_ge (by omega)]
                exact b4 z (by omega) (by omega)
        · refine Or.inr ⟨j + d, by omega, ?_, ?_, ?_⟩
          · rw [ag_bin_ge (by omega)]; exact b2
          · rw [ag_bin_ge (by omega)]; exact b3
          · intro k k1 k2
            obtain ⟨z, rfl⟩ : ∃ z, k = z + d := ⟨k - d, by omega⟩
            rw [ag_bin_ge (by omega)]
            exact b4 z (by omega) (by omega)
/-- a place, behind the cut -/
def ag_pc (p e q : Nat) : Nat := if q < p then q else q - (e - p)
/-- a block apart from that which is cut, behind the cut -/
theorem ag_blk_cut {h : Nat → Int} {n p e q goal : Nat} (hb : ag_blk h n p e) (hq : ag_blk h n q goal) (ho : q < p ∨ e ≤ q) : (goal ≤ p ∨ e ≤ goal) ∧ ag_blk (ag_pcu h p e) (n - (e - p)) (ag_pc p e q) (if goal ≤ p then goal else goal - (e - p)) := by
  obtain ⟨p1, p2, p3, p4⟩ := hb
  obtain ⟨q1, q2, q3, q4⟩ := hq
  have hg : goal ≤ p ∨ e ≤ goal := by
    by_cases c1 : goal ≤ p
    · exact Or.inl c1
    · by_cases c2 : e ≤ goal
      · exact Or.inr c2
      · exfalso
        have := q3 p (by omega) (by omega)
        have := p3 goal (by omega) (by omega)
        have := q4 (by omega)
        omega
  refine ⟨hg, ?_⟩
  unfold ag_pc
  by_cases c1 : goal ≤ p
  · rw [if_pos c1, if_pos (by omega)]
    refine ⟨q1, by omega, fun k k1 k2 => ?_, fun l => ?_⟩
    · rw [ag_pcu_lt (by omega), ag_pcu_lt (by omega)]
      exact q3 k k1 k2
    · rw [ag_pcu_lt (show q < p by omega)]
      by_cases c2 : goal < p
      · rw [ag_pcu_lt c2]
        exact q4 (by omega)
      · rw [ag_pcu_ge (by omega)]
        have := p4 (by omega)
        have e1 : goal + (e - p) = e := by omega
        have e2 : goal = p := by omega
        have := q4 (by omega)
        rw [e2] at this
        rw [e1]
        omega
  · rw [if_neg c1]
    have c2 : e ≤ goal := by omega
    by_cases c3 : q < p
    · rw [if_pos c3]
      refine ⟨by omega, by omega, fun k k1 k2 => ?_, fun l => ?_⟩
      · rw [ag_pcu_lt c3]
        by_cases k3 : k < p
        · rw [ag_pcu_lt k3]
          exact q3 k k1 (by omega)
        · rw [ag_pcu_ge (by omega)]
          exact q3 _ (by omega) (by omega)
      · rw [ag_pcu_lt c3, ag_pcu_ge (by omega), show goal - (e - p) + (e - p) = goal by omega]
        exact q4 (by omega)
    · rw [if_neg c3]
      refine ⟨by omega, by omega, fun k k1 k2 => ?_, fun l => ?_⟩
      · rw [ag_pcu_ge (by omega), ag_pcu_ge (by omega), show q - (e - p) + (e - p) = q by omega]
        exact q3 _ (by omega) (by omega)
      · rw [ag_pcu_ge (by omega), ag_pcu_ge (by omega), show q - (e - p) + (e - p) = q by omega, show goal - (e - p) + (e - p) = goal by omega]
        exact q4 (by omega)
theorem ag_pcu_pc {h : Nat → Int} {p e q : Nat} (hpe : p < e) (ho : q < p ∨ e ≤ q) : ag_pcu h p e (ag_pc p e q) = h q := by
  unfold ag_pc
  by_cases c : q < p
  · rw [if_pos c, ag_pcu_lt c]
  · rw [if_neg c, ag_pcu_ge (by omega), show q - (e - p) + (e - p) = q by omega]
/-- from where the place j is filled -/
def ag_sx (p e goal j : Nat) : Nat :=
  if goal ≤ p then (if j < goal then j else if j < goal + (e - p) then j + p - goal else if j < e then j - (e - p) else j)
  else (if j < p then j else if j < p + goal - e then j + e - p else if j < goal then j + e - goal else j)
theorem ag_mb_sx (r : Nat → Int) (p e goal j : Nat) : ag_mb r p e goal j = r (ag_sx p e goal j) := by
  unfold ag_mb ag_sx
  (repeat' split) <;> rfl
theorem ag_sx_lt {p e goal n j : Nat} (hpe : p < e) (hen : e ≤ n) (hg : goal ≤ n) (ho : goal ≤ p ∨ e ≤ goal) (hj : j < n) : ag_sx p e goal j < n := by
  unfold ag_sx
  (repeat' split) <;> omega
theorem ag_sx_inj {p e goal i j : Nat} (hpe : p < e) (ho : goal ≤ p ∨ e ≤ goal) (h : ag_sx p e goal i = ag_sx p e goal j) : i = j := by
  unfold ag_sx at h
  (repeat' split at h) <;> omega
/-- where it goes -/
def ag_sy (p e goal z : Nat) : Nat :=
  if goal ≤ p then (if p ≤ z ∧ z < e then goal + (z - p) else if z < goal then z else if z < p then z + (e - p) else z)
  else (if p ≤ z ∧ z < e then goal - (e - p) + (z - p) else if z < p then z else if z < goal then z - (e - p) else z)
theorem ag_sy_lt {p e goal n z : Nat} (hpe : p < e) (hen : e ≤ n) (hg : goal ≤ n) (ho : goal ≤ p ∨ e ≤ goal) (hz : z < n) : ag_sy p e goal z < n := by
  unfold ag_sy
  (repeat' split) <;> omega
theorem ag_sx_sy {p e goal z : Nat} (hpe : p < e) (ho : goal ≤ p ∨ e ≤ goal) : ag_sx p e goal (ag_sy p e goal z) = z := by
  unfold ag_sy
  (repeat' split) <;> unfold ag_sx <;> (repeat' split) <;> omega
theorem ag_sx_bin {f : Nat → Int} {p e goal j : Nat} (hpe : p < e) (ho : goal ≤ p ∨ e ≤ goal) (hb : Nat → Int) : (if p ≤ ag_sx p e goal j ∧ ag_sx p e goal j < e then hb (ag_sx p e goal j - p) else f (ag_sx p e goal j)) = ag_bin (ag_pcu f p e) (if goal ≤ p then goal else goal - (e - p)) (e - p) hb j := by
  have hx : ∀ (c : Prop) [Decidable c] (a b : Int), c → (if c then a else b) = a := fun c _ a b h => if_pos h
  unfold ag_bin ag_pcu
  by_cases c : goal ≤ p
  · rw [if_pos c]
    have s : ag_sx p e goal j = (if j < goal then j else if j < goal + (e - p) then j + p - goal else if j < e then j - (e - p) else j) := by
      unfold ag_sx
      rw [if_pos c]
    by_cases j1 : j < goal
    · rw [if_pos j1] at s
      rw [s, if_neg (by omega), if_pos j1, if_pos (by omega)]
    · rw [if_neg j1] at s
      by_cases j2 : j < goal + (e - p)
      · rw [if_pos j2] at s
        rw [s, if_pos (by omega), if_neg j1, if_pos j2]
        congr 1
        omega
      · rw [if_neg j2] at s
        rw [if_neg j1, if_neg j2]
        by_cases j3 : j < e
        · rw [if_pos j3] at s
          rw [s, if_neg (by omega), if_pos (by omega)]
        · rw [if_neg j3] at s
          rw [s, if_neg (by omega), if_neg (by omega)]
          congr 1
          omega
  · rw [if_neg c]
    have s : ag_sx p e goal j = (if j < p then j else if j < p + goal - e then j + e - p else if j < goal then j + e - goal else j) := by
      unfold ag_sx
      rw [if_neg c]
    by_cases j1 : j < p
    · rw [if_pos j1] at s
      rw [s, if_neg (by omega), if_pos (by omega), if_pos j1]
    · rw [if_neg j1] at s
      by_cases j2 : j < p + goal - e
      · rw [if_pos j2] at s
        rw [s, if_neg (by omega), if_pos (by omega), if_neg j1]
        congr 1
        omega
      · rw [if_neg j2] at s
        by_cases j3 : j < goal
        · rw [if_pos j3] at s
          rw [s, if_pos (by omega), if_neg (by omega), if_pos (by omega)]
          congr 1
          omega
        · rw [if_neg j3] at s
          rw [s, if_neg (by omega), if_neg (by omega), if_neg (by omega), if_neg (by omega)]
          congr 1
          omega
theorem ag_ra_no {r : Nat → Int} {d : Int} {c : Nat} : ∀ (k i : Nat) (q : Nat → Int), (∀ t, i ≤ t → t < i + k → 0 ≤ r t ∧ r t < 40) → i + k ≤ 40 → (∀ t, i ≤ t → t < i + k → r t ≠ c) → ag_ra r d q k i c = q c := by
  intro k
  induction k with
  | zero => intro i q _ _ _; rfl
  | succ k ih =>
    intro i q hr hk hno
    have h1 := hr i (by omega) (by omega)
    have h2 := hno i (by omega) (by omega)
    rw [ag_ra, ih (i + 1) _ (fun t t1 t2 => hr t (by omega) (by omega)) (by omega) (fun t t1 t2 => hno t (by omega) (by omega)), ag_rd_nat (by decide) (by omega), ag_wr_i _ (by decide) h1.1 (by omega)]
    exact ag_ui_ne (by omega)
theorem ag_ra_yes {r : Nat → Int} {d : Int} : ∀ (k i : Nat) (q : Nat → Int), (∀ t, i ≤ t → t < i + k → 0 ≤ r t ∧ r t < 40) → i + k ≤ 40 → (∀ s t, i ≤ s → s < t → t < i + k → r s ≠ r t) → ∀ t, i ≤ t → t < i + k → ag_ra r d q k i (r t).toNat = q (r t).toNat + d := by
  intro k
  induction k with
  | zero => intro i q _ _ _ t h1 h2; omega
  | succ k ih =>
    intro i q hr hk hj t t1 t2
    have h1 := hr i (by omega) (by omega)
    have h2 := hr t t1 t2
    rw [ag_ra]
    by_cases hti : t = i
    · subst hti
      rw [ag_ra_no k _ _ (fun t t1 t2 => hr t (by omega) (by omega)) (by omega) (fun s s1 s2 e => hj t s (Nat.le_refl _) (by omega) (by omega) (by omega)), ag_rd_nat (by decide) (by omega), ag_wr_i _ (by decide) h1.1 (by omega), ag_ui_eq, ag_rd_i (by decide) h1.1 (by omega)]
    · rw [ih (i + 1) _ (fun t t1 t2 => hr t (by omega) (by omega)) (by omega) (fun s t a b c => hj s t (by omega) b (by omega)) t (by omega) (by omega), ag_rd_nat (by decide) (by omega), ag_wr_i _ (by decide) h1.1 (by omega)]
      rw [ag_ui_ne]
      have := hj i t (Nat.le_refl _) (by omega) t2
      omega
theorem ag_ra_hi {r : Nat → Int} {d : Int} {j : Nat} (hj : 40 ≤ j) : ∀ (k i : Nat) (q : Nat → Int), ag_ra r d q k i j = q j := by
  intro k
  induction k with
  | zero => intro i q; rfl
  | succ k ih => intro i q; rw [ag_ra, ih, ag_wr_hi _ _ _ hj]
theorem ag_IB_move {gb : Nat → Nat → Int} {w n p e q goal : Nat} (h : ag_IB gb w n) (hp : p < n) (hq : q < n) (hb : ag_blk (ag_hg gb) n p e) (hbq : ag_blk (ag_hg gb) n q goal) (ho : q < p ∨ e ≤ q)
    (h3 : ∀ k, p ≤ k → k < e → ag_hg gb k + (ag_hg gb q - ag_hg gb p) ≤ 3) : ag_IB (ag_gm gb n (gb 6 p) (gb 6 q) p e goal) w n := by
  have hinj := fun {i j : Nat} => ag_IB_inj h (i := i) (j := j)
  have h9 := h
  obtain ⟨⟨a1, a2, a3, a4⟩, b, c, d⟩ := h9
  obtain ⟨hgo, hbc⟩ := ag_blk_cut hb hbq ho
  have hb' := hb
  obtain ⟨p1, p2, p3, p4⟩ := hb'
  obtain ⟨q1, q2, q3, q4⟩ := hbq
  have bp := b p hp
  have bq := b q hq
  have hr : ∀ t, p ≤ t → t < p + (e - p) → 0 ≤ gb 6 t ∧ gb 6 t < 40 := fun t _ _ => by
    have := b t (by omega)
    omega
  have rise : ag_rd 40 (gb 2) (gb 6 q) - ag_rd 40 (gb 2) (gb 6 p) = ag_hg gb q - ag_hg gb p := by
    rw [ag_rd_i (by decide) bq.1 (by omega), ag_rd_i (by decide) bp.1 (by omega)]
    rfl
  have s := fun {j : Nat} (hj : j < n) => ag_sx_lt (j := j) p1 p2 q2 hgo hj
  have hds : ∀ s t, p ≤ s → s < t → t < p + (e - p) → gb 6 s ≠ gb 6 t := fun s t c1 c2 c3 c4 => by
    have := hinj (by omega) (by omega) c4
    omega
  generalize hG : ag_gm gb n (gb 6 p) (gb 6 q) p e goal = G
  have e1 : G 1 = ag_ui (gb 1) (gb 6 p).toNat (gb 1 (gb 6 q).toNat) := by
    rw [← hG]
    simp only [ag_gm, ag_ug_at, Nat.reduceEqDiff, ↓reduceIte]
    rw [ag_wr_i _ (by decide) bp.1 (by omega), ag_rd_i (by decide) bq.1 (by omega)]
  have e2 : G 2 = ag_ra (gb 6) (ag_hg gb q - ag_hg gb p) (gb 2) (e - p) p := by
    rw [← hG]
    simp only [ag_gm, ag_ug_at, Nat.reduceEqDiff, ↓reduceIte, rise]
  have e5 : G 5 = ag_rn (G 6) (gb 5) n := by
    rw [← hG]
    simp only [ag_gm, ag_ug_at, Nat.reduceEqDiff, ↓reduceIte]
  have e7 : G 7 = ag_cf (ag_mb (gb 6) p e goal) (gb 7) n := by
    rw [← hG]
    simp only [ag_gm, ag_ug_at, Nat.reduceEqDiff, ↓reduceIte]
  have e66 : G 6 = ag_cf (G 7) (gb 6) 40 := by
    rw [e7, ← hG]
    simp only [ag_gm, ag_ug_at, Nat.reduceEqDiff, ↓reduceIte]
  have ek : ∀ k, k ≠ 1 → k ≠ 2 → k ≠ 5 → k ≠ 6 → k ≠ 7 → G k = gb k := by
    intro k k1 k2 k5 k6 k7
    rw [← hG]
    simp only [ag_gm, ag_ug_at, k1, k2, k5, k6, k7, ↓reduceIte]
  have e6 : ∀ i, i < n → G 6 i = gb 6 (ag_sx p e goal i) := by
    intro i hi
    rw [e66, e7]
    unfold ag_cf
    rw [if_pos (by omega), if_pos hi, ag_mb_sx]
  have hI := ag_rn_I (r := G 6) (q := gb 5) (w := w) (n := n) a4 (by omega) (fun i hi => by
      rw [e6 i hi]
      have := b _ (s hi)
      omega) (fun i j hij hj k => by
      rw [e6 i (by omega), e6 j hj] at k
      have := ag_sx_inj p1 hgo (hinj (s (by omega)) (s hj) k)
      omega) (fun c' hc => by
      rcases c c' hc with k | ⟨i, i1, i2, i3⟩
      · exact Or.inr k
      · refine Or.inl ⟨ag_sy p e goal i, ag_sy_lt p1 p2 q2 hgo i1, ?_⟩
        rw [e6 _ (ag_sy_lt p1 p2 q2 hgo i1), ag_sx_sy p1 hgo, i3])
  have hh : ∀ i, i < n → ag_hg G i = ag_bin (ag_pcu (ag_hg gb) p e) (if goal ≤ p then goal else goal - (e - p)) (e - p) (fun t => ag_hg gb (p + t) + (ag_hg gb q - ag_hg gb p)) i := by
    intro i hi
    rw [← ag_sx_bin p1 hgo]
    have hs := s hi
    have := b _ hs
    show G 2 (G 6 i).toNat = _
    rw [e6 i hi, e2]
    split
    · rename_i k
      rw [ag_ra_yes _ _ _ hr (by omega) hds _ k.1 (by omega), show p + (ag_sx p e goal i - p) = ag_sx p e goal i by omega]
      rfl
    · rename_i k
      rw [ag_ra_no _ _ _ hr (by omega) (fun t t1 t2 k2 => by
        have := hinj (by omega) hs (show gb 6 t = gb 6 (ag_sx p e goal i) by omega)
        omega)]
      rfl
  have hu : ∀ i, i < n → ag_pg G i = ag_bin (ag_pcu (ag_pg gb) p e) (if goal ≤ p then goal else goal - (e - p)) (e - p) (fun t => if t = 0 then ag_pg gb q else ag_pg gb (p + t)) i := by
    intro i hi
    rw [← ag_sx_bin p1 hgo]
    have hs := s hi
    have := b _ hs
    show G 1 (G 6 i).toNat = _
    rw [e6 i hi, e1]
    by_cases k : ag_sx p e goal i = p
    · rw [k, if_pos (by omega), if_pos (by omega), ag_ui_eq]
      rfl
    · have k2 : (gb 6 (ag_sx p e goal i)).toNat ≠ (gb 6 p).toNat := by
        intro k3
        exact k (hinj hs hp (by omega))
      rw [ag_ui_ne k2]
      split
      · rw [if_neg (by omega), show p + (ag_sx p e goal i - p) = ag_sx p e goal i by omega]
        rfl
      · rfl
  have hrr : ∀ i, i < n → G 6 i = ag_bin (ag_pcu (gb 6) p e) (if goal ≤ p then goal else goal - (e - p)) (e - p) (fun t => gb 6 (p + t)) i := by
    intro i hi
    rw [← ag_sx_bin p1 hgo, e6 i hi]
    split
    · rw [show p + (ag_sx p e goal i - p) = ag_sx p e goal i by omega]
    · rfl
  refine ⟨⟨fun k j hj => ?_, fun k j => ?_, a3, a4⟩, ?_, ?_, ?_⟩
  · by_cases k1 : k = 1
    · rw [k1, e1, ag_ui_ne (by omega)]; exact a1 1 j hj
    · by_cases k2 : k = 2
      · rw [k2, e2, ag_ra_hi hj]; exact a1 2 j hj
      · by_cases k6 : k = 6
        · rw [k6, e66]
          unfold ag_cf
          rw [if_neg (by omega)]
          exact a1 6 j hj
        · by_cases k5 : k = 5
          · rw [k5, e5, ag_rn_hi _ _ hj]; exact a1 5 j hj
          · by_cases k7 : k = 7
            · rw [k7, e7]
              unfold ag_cf
              rw [if_neg (by omega)]
              exact a1 7 j hj
            · rw [ek k k1 k2 k5 k6 k7]; exact a1 k j hj
  · have z7 : ∀ j, -100000 ≤ G 7 j ∧ G 7 j ≤ 100000 := by
      intro j
      rw [e7]
      unfold ag_cf
      split
      · rw [ag_mb_sx]; exact a2 6 _
      · exact a2 7 j
    by_cases k1 : k = 1
    · rw [k1, e1]
      exact ag_ui_sm (a2 1) (a2 1 _).1 (a2 1 _).2 j
    · by_cases k2 : k = 2
      · rw [k2, e2]
        by_cases hj : ∃ t, p ≤ t ∧ t < p + (e - p) ∧ gb 6 t = j
        · obtain ⟨t, t1, t2, t3⟩ := hj
          have := ag_ra_yes (d := ag_hg gb q - ag_hg gb p) _ _ (gb 2) hr (by omega) hds t t1 t2
          rw [t3, Int.toNat_natCast] at this
          rw [this]
          have i1 := d t (by omega)
          have i2 := d q hq
          have i3 := d p hp
          have i4 : ag_hg gb t = gb 2 j := by unfold ag_hg; rw [t3, Int.toNat_natCast]
          rw [i4] at i1
          omega
        · rw [ag_ra_no _ _ _ hr (by omega) (fun t t1 t2 t3 => hj ⟨t, t1, t2, t3⟩)]
          exact a2 2 j
      · by_cases k6 : k = 6
        · rw [k6, e66]
          unfold ag_cf
          split
          · exact z7 j
          · exact a2 6 j
        · by_cases k5 : k = 5
          · rw [k5, e5]
            exact ag_rn_sm (a2 5) _ (by omega) j
          · by_cases k7 : k = 7
            · rw [k7]; exact z7 j
            · rw [ek k k1 k2 k5 k6 k7]; exact a2 k j
  · rw [e5]; exact hI.1
  · rw [e5]; exact hI.2
  · refine ag_po_congr (fun i hi => ⟨hh i hi, hu i hi, hrr i hi⟩) ?_
    have hpc : ag_pcu (ag_hg gb) p e (ag_pc p e q) = ag_hg gb q := ag_pcu_pc p1 ho
    have hpu : ag_pcu (ag_pg gb) p e (ag_pc p e q) = ag_pg gb q := ag_pcu_pc p1 ho
    obtain ⟨c1, c2, c3, c4⟩ := hbc
    rw [hpc] at c3 c4
    have dq := d q hq
    have en : n = n - (e - p) + (e - p) := ag_sub_add p1 p2
    rw [en]
    have hcut := ag_po_cut d hb
    refine ag_po_block (H := ag_hg gb q) hcut c2 (by omega) ?_ dq.1 dq.2.1 ?_ ?_ c4
    · show ag_hg gb (p + 0) + (ag_hg gb q - ag_hg gb p) = ag_hg gb q
      rw [Nat.add_zero]
      omega
    · rcases (hcut (ag_pc p e q) (by omega)).2.2 with k | ⟨j, j1, j2, j3, j4⟩
      · left
        rw [hpc, hpu] at k
        exact k
      · right
        rw [hpc] at j3 j4
        rw [hpu] at j2
        refine ⟨j, by omega, j2, j3, fun k k1 k2 => ?_⟩
        by_cases k3 : k < ag_pc p e q
        · exact j4 k k1 k3
        · by_cases k4 : k = ag_pc p e q
          · rw [k4, hpc]
            exact Int.le_refl _
          · have := c3 k (by omega) k2
            omega
    · intro t t0 t1
      have hlt := p3 (p + t) (by omega) (by omega)
      have h33 := h3 (p + t) (by omega) (by omega)
      obtain ⟨f1, f2, f3⟩ := d (p + t) (by omega)
      have dp := d p hp
      refine ⟨h33, by omega, ?_⟩
      rcases f3 with f3 | ⟨j, j1, j2, j3, j4⟩
      · omega
      · have hj : p ≤ j := by
          by_cases hj : p ≤ j
          · exact hj
          · exfalso
            have := j4 p (by omega) (by omega)
            omega
        refine ⟨j - p, by omega, ?_, ?_, fun k k1 k2 => ?_⟩
        · rw [if_neg (by omega), show p + (j - p) = j by omega]
          exact j2
        · rw [show p + (j - p) = j by omega]
          omega
        · have := j4 (p + k) (by omega) (by omega)
          omega
