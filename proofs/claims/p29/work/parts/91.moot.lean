/-! BY WHOM ONE IS MOOT; WHAT WAS MADE AND WHAT CAME: kept by all that is done. -/
variable {B : Nat}
/-- by whom -/
def ag_E1 (gp : Nat → Nat → Int) (m : Nat) : Prop := ∀ b : Nat, b < m → (gp 3 b = 3 ↔ 0 ≤ gp 4 b) ∧ -1 ≤ gp 4 b ∧ (0 ≤ gp 4 b → gp 4 b < m ∧ (gp 4 b = b ∨ gp 3 (gp 4 b).toNat ≠ 0))
/-- what was made -/
def ag_E2 (gb gp : Nat → Nat → Int) (w m : Nat) : Prop := (∀ b : Nat, b < m → gp 5 b = -1 ∨ (0 ≤ gp 5 b ∧ gp 5 b < w ∧ gp 3 b = 1 ∧ (gp 0 b = 3 ∨ gp 0 b = 4) ∧ gb 3 (gp 5 b).toNat = b)) ∧ (∀ c : Nat, c < w → 0 ≤ gb 3 c → gp 5 (gb 3 c).toNat = c)
theorem ag_E_12 {S : ag_T} {m : Nat} : ag_E S m ↔ ag_E1 S.2.2.2 m ∧ ag_E2 S.1 S.2.2.2 S.2.1 m ∧ ag_E3 S.2.2.2 m := ⟨fun h => ⟨h.1, ⟨h.2.1, h.2.2.1⟩, h.2.2.2⟩, fun h => ⟨h.1, h.2.1.1, h.2.1.2, h.2.2⟩⟩
section AGEE
variable {gb gp : Nat → Nat → Int} {w n m : Nat}
theorem ag_E1_set {b : Nat} {s y : Int} (h : ag_E1 gp m) (hb : b < m) (hm : m ≤ 20) (hl : gp 3 b = 0) (hs : 1 ≤ s ∧ s ≤ 4) (hy : (s = 3 ∧ 0 ≤ y ∧ y < m ∧ (y = b ∨ gp 3 y.toNat ≠ 0)) ∨ (s ≠ 3 ∧ y = -1)) : ag_E1 (ag_set gp b s y m) m := by
  have st : ∀ j : Nat, gp 3 j ≠ 0 → ag_set gp b s y m 3 j ≠ 0 := fun j hj => by
    rw [ag_set_3 (by omega)]
    split
    · omega
    · by_cases q : j = b
      · rw [q, ag_ui_eq]
        omega
      · rwa [ag_ui_ne q]
  have stb : ag_set gp b s y m 3 b ≠ 0 := by
    rw [ag_set_b (by omega) (by omega)]
    omega
  intro j hj
  obtain ⟨o1, o2, o3⟩ := h j hj
  have e3 := ag_set_3 (gp := gp) (s := s) (y := y) (m := m) (show b < 20 by omega) j
  have e4 := ag_set_4 (gp := gp) (s := s) (y := y) (m := m) (show b < 20 by omega) j
  by_cases hit : j < m ∧ ag_ui (gp 3) b s j = 0 ∧ gp 0 j = 5 ∧ gp 1 j = b
  · rw [if_pos hit] at e3 e4
    rw [e3, e4, Int.toNat_natCast]
    exact ⟨⟨fun _ => by omega, fun _ => rfl⟩, by omega, fun _ => ⟨by omega, Or.inr stb⟩⟩
  · rw [if_neg hit] at e3 e4
    by_cases q : j = b
    · subst q
      rw [ag_ui_eq] at e3 e4
      rw [e3, e4]
      rcases hy with ⟨y1, y2, y3, y4⟩ | ⟨y1, y2⟩
      · refine ⟨⟨fun _ => y2, fun _ => y1⟩, by omega, fun _ => ⟨y3, ?_⟩⟩
        rcases y4 with y4 | y4
        · exact Or.inl y4
        · exact Or.inr (st _ y4)
      · exact ⟨⟨fun z => absurd z y1, fun z => by omega⟩, by omega, fun z => by omega⟩
    · rw [ag_ui_ne q] at e3 e4
      rw [e3, e4]
      refine ⟨o1, o2, fun z => ⟨(o3 z).1, ?_⟩⟩
      rcases (o3 z).2 with y4 | y4
      · exact Or.inl y4
      · exact Or.inr (st _ y4)
theorem ag_E1_spl {x : Nat} (hx : x < m) (hm : m ≤ 20) : ∀ (k i : Nat) (gp : Nat → Nat → Int), i + k = m → ag_E1 gp m → gp 3 x ≠ 0 → ag_E1 (ag_spl gb x m k i gp) m ∧ ∀ j : Nat, gp 3 j = 1 → ag_spl gb x m k i gp 3 j = 1 := by
  intro k
  induction k with
  | zero => intro i gp _ h _; exact ⟨h, fun _ h => h⟩
  | succ k ih =>
    intro i gp hi h hx3
    rw [ag_spl]
    have f := ag_fat_013 gb gp x i
    by_cases c : ag_fat gb gp x i = 0
    · rw [if_pos c]
      exact ih (i + 1) gp (by omega) h hx3
    · rw [if_neg c]
      have hl : gp 3 i = 0 := by
        by_cases z : gp 3 i = 0
        · exact z
        · refine absurd ?_ c
          unfold ag_fat
          rw [ag_rd_nat (by decide) (show i < 20 by omega), if_pos z]
      have hix : i ≠ x := fun z => hx3 (by rw [← z]; exact hl)
      have h1 : ag_E1 (ag_set gp i (ag_fat gb gp x i) (if ag_fat gb gp x i = 3 then (x : Int) else -1) m) m := by
        refine ag_E1_set h (by omega) hm hl (by omega) ?_
        by_cases z : ag_fat gb gp x i = 3
        · rw [if_pos z]
          exact Or.inl ⟨z, by omega, by omega, Or.inr (by rw [Int.toNat_natCast]; exact hx3)⟩
        · rw [if_neg z]
          exact Or.inr ⟨z, rfl⟩
      have one : ∀ j : Nat, gp 3 j ≠ 0 → ag_set gp i (ag_fat gb gp x i) (if ag_fat gb gp x i = 3 then (x : Int) else -1) m 3 j = gp 3 j := fun j hj => by
        have hji : j ≠ i := fun z => hj (by rw [z]; exact hl)
        rw [ag_set_3 (by omega), ag_ui_ne hji, if_neg (fun z => hj z.2.1)]
      obtain ⟨a1, a2⟩ := ih (i + 1) _ (by omega) h1 (by rw [one x hx3]; exact hx3)
      exact ⟨a1, fun j hj => a2 j (by rw [one j (by omega)]; exact hj)⟩
theorem ag_E2_gp {gp' : Nat → Nat → Int} (h : ag_E2 gb gp w m) (h0 : gp' 0 = gp 0) (h5 : gp' 5 = gp 5) (h3 : ∀ j : Nat, gp 3 j = 1 → gp' 3 j = 1) : ag_E2 gb gp' w m := by
  refine ⟨fun b hb => ?_, fun c hc h9 => by rw [h5]; exact h.2 c hc h9⟩
  rw [h0, h5]
  rcases h.1 b hb with z | ⟨z1, z2, z3, z4⟩
  · exact Or.inl z
  · exact Or.inr ⟨z1, z2, h3 b z3, z4⟩
theorem ag_set_one {b : Nat} {s y : Int} (hb : b < 20) (hl : gp 3 b = 0) (j : Nat) (hj : gp 3 j = 1) : ag_set gp b s y m 3 j = 1 := by
  have hji : j ≠ b := fun z => by rw [z, hl] at hj; omega
  rw [ag_set_3 hb, ag_ui_ne hji, if_neg (fun z => by rw [hj] at z; omega)]
  exact hj
theorem ag_E2_set {b : Nat} (h : ag_E2 gb gp w m) (hb : b < 20) (hl : gp 3 b = 0) (s y : Int) : ag_E2 gb (ag_set gp b s y m) w m :=
  ag_E2_gp (gp' := ag_set gp b s y m) h (ag_set_k (gp := gp) (c := b) (s := s) (y := y) (m := m) (k := 0) (by decide) (by decide)) (ag_set_k (gp := gp) (c := b) (s := s) (y := y) (m := m) (k := 5) (by decide) (by decide)) (fun j hj => ag_set_one (gp := gp) (m := m) (b := b) (s := s) (y := y) hb hl j hj)
theorem ag_E3_set {b : Nat} {s y : Int} (h : ag_E3 gp m) (hb : b < m) (hm : m ≤ 20) (hs : 1 ≤ s ∧ s ≤ 4) (rg : ∀ a : Nat, a < m → gp 0 a = 5 → 0 ≤ gp 1 a) (no : ∀ i : Nat, i < m → gp 0 i = 5 → ∀ j : Nat, j < m → gp 0 j = 5 → gp 1 j ≠ i) (in9 : ∀ a : Nat, a < m → gp 0 a = 5 → gp 1 a < m) : ag_E3 (ag_set gp b s y m) m := by
  intro a ha h3 h0
  rw [ag_set_k (by decide) (by decide)] at h0
  rw [ag_set_k (k := 1) (by decide) (by decide)]
  have e3 := ag_set_3 (gp := gp) (s := s) (y := y) (m := m) (show b < 20 by omega) a
  have r0 := rg a ha h0
  have r1 := in9 a ha h0
  have hab : a ≠ b := fun z => by
    rw [z, ag_set_b (by omega) (by omega)] at h3
    omega
  rw [ag_ui_ne hab] at e3
  by_cases hit : a < m ∧ gp 3 a = 0 ∧ gp 0 a = 5 ∧ gp 1 a = b
  · rw [if_pos hit] at e3
    omega
  · rw [if_neg hit] at e3
    have g3 : gp 3 a = 0 := by rw [← e3]; exact h3
    have hne : (gp 1 a).toNat ≠ b := fun z => hit ⟨ha, g3, h0, by omega⟩
    have old := h a ha g3 h0
    rw [ag_set_3 (by omega), ag_ui_ne hne, if_neg (fun z => ?_)]
    · exact old
    · exact no (gp 1 a).toNat (by omega) z.2.2.1 a ha h0 (by omega)
/-- the rows of a CHANGE: its aim is one, and no CHANGE -/
def ag_aim (gp : Nat → Nat → Int) (m : Nat) : Prop := (∀ a : Nat, a < m → gp 0 a = 5 → 0 ≤ gp 1 a) ∧ (∀ i : Nat, i < m → gp 0 i = 5 → ∀ j : Nat, j < m → gp 0 j = 5 → gp 1 j ≠ i) ∧ (∀ a : Nat, a < m → gp 0 a = 5 → gp 1 a < m)
theorem ag_aim_of {gb gp : Nat → Nat → Int} {w m : Nat} (h : ag_IP gb gp w m) : ag_aim gp m := ⟨fun a ha h5 => ((h.2.2 a ha).2.1 h5).1, ag_IP_no h, fun a ha h5 => ((h.2.2 a ha).2.1 h5).2.1⟩
theorem ag_E3_spl {x : Nat} (hm : m ≤ 20) : ∀ (k i : Nat) (gp : Nat → Nat → Int), i + k = m → ag_E3 gp m → ag_aim gp m → ag_E3 (ag_spl gb x m k i gp) m := by
  intro k
  induction k with
  | zero => intro i gp _ h _; exact h
  | succ k ih =>
    intro i gp hi h ha
    rw [ag_spl]
    have f := ag_fat_013 gb gp x i
    by_cases c : ag_fat gb gp x i = 0
    · rw [if_pos c]
      exact ih (i + 1) gp (by omega) h ha
    · rw [if_neg c]
      refine ih (i + 1) _ (by omega) (ag_E3_set h (by omega) hm (by omega) ha.1 ha.2.1 ha.2.2) ?_
      unfold ag_aim
      rw [ag_set_k (k := 0) (by decide) (by decide), ag_set_k (k := 1) (by decide) (by decide)]
      exact ha
theorem ag_pfm_35 {b : Nat} (hV : ag_IV (gb, (w, (n, gp))) m) (hb : b < m) (q1 : ag_ftb gb w n gp b ≠ 0) :
    ((gp 0 b = 3 ∨ gp 0 b = 4) ∧ w < 40 ∧ (ag_pfm gb w n gp b).1 3 = ag_ui (gb 3) w b ∧ (ag_pfm gb w n gp b).2.1 = w + 1 ∧ (ag_pfm gb w n gp b).2.2.2 5 = ag_ui (gp 5) b w) ∨ ((ag_pfm gb w n gp b).1 3 = gb 3 ∧ (ag_pfm gb w n gp b).2.1 = w ∧ (ag_pfm gb w n gp b).2.2.2 5 = gp 5) := by
  have hm : m ≤ 20 := hV.2.1.1.2.2
  have w40 : (gp 0 b = 3 ∨ gp 0 b = 4) → w < 40 := fun z => by
    unfold ag_ftb ag_fit at q1
    rw [if_neg (by omega)] at q1
    by_cases z2 : 40 ≤ w
    · rcases z with z | z
      · rw [if_pos z, if_pos z2] at q1
        exact absurd rfl q1
      · rw [if_neg (by omega), if_pos z, if_pos z2] at q1
        exact absurd rfl q1
    · omega
  unfold ag_pfm
  by_cases k0 : gp 0 b = 0
  · rw [if_pos k0]
    exact Or.inr ⟨rfl, rfl, rfl⟩
  · rw [if_neg k0]
    by_cases k1 : gp 0 b = 1
    · rw [if_pos k1]
      refine Or.inr ⟨?_, rfl, rfl⟩
      unfold ag_gm
      dsimp only
      rw [ag_ug_ne _ _ (by decide), ag_ug_ne _ _ (by decide), ag_ug_ne _ _ (by decide), ag_ug_ne _ _ (by decide), ag_ug_ne _ _ (by decide)]
    · rw [if_neg k1]
      by_cases k2 : gp 0 b = 2
      · rw [if_pos k2]
        exact Or.inr ⟨rfl, rfl, rfl⟩
      · rw [if_neg k2]
        by_cases k3 : gp 0 b = 3
        · have w4 := w40 (Or.inl k3)
          rw [if_pos k3]
          refine Or.inl ⟨Or.inl k3, w4, ?_, rfl, ?_⟩
          · dsimp only
            rw [ag_ug_same, ag_wr_nat _ (by decide) w4]
            unfold ag_G3
            rw [ag_gi_rows.2.2.2.1]
            exact ag_ui_ui _ _ _ _
          · dsimp only
            rw [ag_ug_same, ag_wr_nat _ (by decide) (show b < 20 by omega)]
        · rw [if_neg k3]
          by_cases k4 : gp 0 b = 4
          · have w4 := w40 (Or.inr k4)
            rw [if_pos k4]
            refine Or.inl ⟨Or.inr k4, w4, ?_, rfl, ?_⟩
            · dsimp only
              rw [ag_ug_same, ag_wr_nat _ (by decide) w4]
              unfold ag_G4
              rw [ag_gi_rows.2.2.2.1]
              exact ag_ui_ui _ _ _ _
            · dsimp only
              rw [ag_ug_same, ag_wr_nat _ (by decide) (show b < 20 by omega)]
          · rw [if_neg k4]
            refine Or.inr ⟨rfl, rfl, ?_⟩
            dsimp only
            rw [ag_ug_ne _ _ (by decide)]
/-- one put keeps it -/
theorem ag_E_dec {gh : Nat → Nat → Int} {np b : Nat} {qu x : Int} (hV : ag_IV (gb, (w, (n, gp))) m) (hE : ag_E (gb, (w, (n, gp))) m) (hb : b < m) (hl : gp 3 b = 0) : ag_E (ag_dec gh np qu x m (gb, (w, (n, gp))) b) m := by
  have hm : m ≤ 20 := hV.2.1.1.2.2
  have hw : w ≤ 40 := hV.1.1.2.2.2
  obtain ⟨h1, h2, h3⟩ := ag_E_12.mp hE
  have h1 : ag_E1 gp m := h1
  have h2 : ag_E2 gb gp w m := h2
  have h3 : ag_E3 gp m := h3
  have hA := ag_aim_of hV.2.1
  have hA : ag_aim gp m := hA
  have dec : ag_dec gh np qu x m (gb, (w, (n, gp))) b = if ag_ftb gb w n gp b = 0 then (gb, (w, (n, ag_set gp b 3 b m))) else if ag_car gh np qu b x = 0 then (gb, (w, (n, ag_set gp b 2 (-1) m))) else ag_psd gb w n gp m b := rfl
  rw [dec]
  by_cases q1 : ag_ftb gb w n gp b = 0
  · rw [if_pos q1]
    exact ag_E_12.mpr ⟨ag_E1_set h1 hb hm hl (by omega) (Or.inl ⟨rfl, by omega, by omega, Or.inl rfl⟩), ag_E2_set h2 (show b < 20 by omega) hl 3 (b : Int), ag_E3_set h3 hb hm (by omega) hA.1 hA.2.1 hA.2.2⟩
  · rw [if_neg q1]
    by_cases q2 : ag_car gh np qu b x = 0
    · rw [if_pos q2]
      exact ag_E_12.mpr ⟨ag_E1_set h1 hb hm hl (by omega) (Or.inr ⟨by omega, rfl⟩), ag_E2_set h2 (show b < 20 by omega) hl 2 (-1), ag_E3_set h3 hb hm (by omega) hA.1 hA.2.1 hA.2.2⟩
    · rw [if_neg q2]
      obtain ⟨pI1, pI2, ⟨p0, p1, p3, p4, p2⟩, -⟩ := ag_pfm_I hV hb hl q1
      have p0 : (ag_pfm gb w n gp b).2.2.2 0 = gp 0 := p0
      have p3 : (ag_pfm gb w n gp b).2.2.2 3 = gp 3 := p3
      have p4 : (ag_pfm gb w n gp b).2.2.2 4 = gp 4 := p4
      have hl2 : (ag_pfm gb w n gp b).2.2.2 3 b = 0 := by rw [p3]; exact hl
      have f1 : ag_E1 (ag_pfm gb w n gp b).2.2.2 m := by
        intro j hj
        rw [p3, p4]
        exact h1 j hj
      have f2 := ag_E1_set f1 hb hm hl2 (s := 1) (y := -1) (by omega) (Or.inr ⟨by omega, rfl⟩)
      have b3 : ag_set (ag_pfm gb w n gp b).2.2.2 b 1 (-1) m 3 b = 1 := ag_set_b (by omega) (by decide)
      obtain ⟨f3, f4⟩ := ag_E1_spl (gb := (ag_pfm gb w n gp b).1) hb hm m 0 _ (Nat.zero_add _) f2 (by rw [b3]; decide)
      have psd : ag_psd gb w n gp m b = ((ag_pfm gb w n gp b).1, ((ag_pfm gb w n gp b).2.1, ((ag_pfm gb w n gp b).2.2.1, ag_spl (ag_pfm gb w n gp b).1 b m m 0 (ag_set (ag_pfm gb w n gp b).2.2.2 b 1 (-1) m)))) := rfl
      have st := ag_spl_st (gb := (ag_pfm gb w n gp b).1) (show b < 20 by omega) hm m 0 (ag_set (ag_pfm gb w n gp b).2.2.2 b 1 (-1) m) (Nat.zero_add _)
      have r0 : ag_spl (ag_pfm gb w n gp b).1 b m m 0 (ag_set (ag_pfm gb w n gp b).2.2.2 b 1 (-1) m) 0 = gp 0 := (st.1 0 (by decide) (by decide)).trans ((ag_set_k (k := 0) (by decide) (by decide)).trans p0)
      have r5 : ag_spl (ag_pfm gb w n gp b).1 b m m 0 (ag_set (ag_pfm gb w n gp b).2.2.2 b 1 (-1) m) 5 = (ag_pfm gb w n gp b).2.2.2 5 := (st.1 5 (by decide) (by decide)).trans (ag_set_k (k := 5) (by decide) (by decide))
      have one : ∀ j : Nat, gp 3 j = 1 → ag_spl (ag_pfm gb w n gp b).1 b m m 0 (ag_set (ag_pfm gb w n gp b).2.2.2 b 1 (-1) m) 3 j = 1 := fun j hj => f4 j (ag_set_one (by omega) hl2 j (by rw [p3]; exact hj))
      have oneb := f4 b b3
      have p1' : (ag_pfm gb w n gp b).2.2.2 1 = gp 1 := p1
      have hA2 : ag_aim (ag_pfm gb w n gp b).2.2.2 m := by
        unfold ag_aim
        rw [p0, p1']
        exact hA
      have e3 : ag_E3 (ag_pfm gb w n gp b).2.2.2 m := by
        unfold ag_E3
        rw [p0, p1', p3]
        exact h3
      have hA3 : ag_aim (ag_set (ag_pfm gb w n gp b).2.2.2 b 1 (-1) m) m := by
        unfold ag_aim
        rw [ag_set_k (k := 0) (by decide) (by decide), ag_set_k (k := 1) (by decide) (by decide)]
        exact hA2
      have e3' := ag_E3_spl (gb := (ag_pfm gb w n gp b).1) (x := b) hm m 0 _ (Nat.zero_add _) (ag_E3_set (s := 1) (y := -1) e3 hb hm (by omega) hA2.1 hA2.2.1 hA2.2.2) hA3
      rw [psd]
      refine ag_E_12.mpr ⟨f3, ?_, e3'⟩
      show ag_E2 (ag_pfm gb w n gp b).1 (ag_spl (ag_pfm gb w n gp b).1 b m m 0 (ag_set (ag_pfm gb w n gp b).2.2.2 b 1 (-1) m)) (ag_pfm gb w n gp b).2.1 m
      generalize ag_spl (ag_pfm gb w n gp b).1 b m m 0 (ag_set (ag_pfm gb w n gp b).2.2.2 b 1 (-1) m) = R at r0 r5 one oneb
      have b5 : gp 5 b = -1 := by
        rcases h2.1 b hb with z | ⟨-, -, z, -⟩
        · exact z
        · rw [hl] at z
          exact absurd z (by decide)
      rcases ag_pfm_35 (n := n) hV hb q1 with ⟨hk, hw40, hG, hw2, hp5⟩ | ⟨hG, hw2, hp5⟩
      · -- a clause was made
        rw [hp5] at r5
        rw [hw2]
        refine ⟨fun j hj => ?_, fun c hc h9 => ?_⟩
        · rw [r5]
          by_cases z : j = b
          · subst z
            rw [ag_ui_eq, Int.toNat_natCast, hG, ag_ui_eq, r0]
            exact Or.inr ⟨by omega, by omega, oneb, hk, rfl⟩
          · rw [ag_ui_ne z, r0]
            rcases h2.1 j hj with y | ⟨y1, y2, y3, y4, y5⟩
            · exact Or.inl y
            · exact Or.inr ⟨y1, by omega, one j y3, y4, by rw [hG, ag_ui_ne (by omega)]; exact y5⟩
        · rw [hG] at h9 ⊢
          rw [r5]
          by_cases z : c = w
          · subst z
            rw [ag_ui_eq, Int.toNat_natCast, ag_ui_eq]
          · rw [ag_ui_ne z] at h9 ⊢
            have y := h2.2 c (by omega) h9
            have hne : (gb 3 c).toNat ≠ b := fun q => by
              rw [q, b5] at y
              omega
            rw [ag_ui_ne hne]
            exact y
      · rw [hp5] at r5
        rw [hw2]
        have := ag_E2_gp h2 r0 r5 one
        refine ⟨fun j hj => ?_, fun c hc h9 => ?_⟩
        · rw [hG]
          exact this.1 j hj
        · rw [hG] at h9 ⊢
          exact this.2 c hc h9
/-- one more laid -/
theorem ag_E_adp {k t o : Int} (hV : ag_IV (gb, (w, (n, gp))) m) (hE : ag_E (gb, (w, (n, gp))) m) (h5 : k = 5 → 0 ≤ t ∧ t < m ∧ gp 3 t.toNat = 0) : ag_E (gb, (w, (n, ag_adp gp m k t o))) (m + 1) := by
  obtain ⟨h1, h2, h3⟩ := ag_E_12.mp hE
  have h1 : ag_E1 gp m := h1
  have h2 : ag_E2 gb gp w m := h2
  have h3 : ag_E3 gp m := h3
  have hA := ag_aim_of hV.2.1
  have hA : ag_aim gp m := hA
  have hIP : ∀ c : Nat, c < w → gb 3 c < m := fun c hc => (hV.2.1.2.1 c hc).2.1
  refine ⟨fun b hb => ?_, fun b hb => ?_, fun c hc h9 => ?_, fun b hb g3 g0 => ?_⟩
  · show (ag_ui (gp 3) m 0 b = 3 ↔ 0 ≤ ag_ui (gp 4) m (-1) b) ∧ -1 ≤ ag_ui (gp 4) m (-1) b ∧ (0 ≤ ag_ui (gp 4) m (-1) b → ag_ui (gp 4) m (-1) b < ((m + 1 : Nat) : Int) ∧ (ag_ui (gp 4) m (-1) b = b ∨ ag_ui (gp 3) m 0 (ag_ui (gp 4) m (-1) b).toNat ≠ 0))
    by_cases z : b = m
    · subst z
      rw [ag_ui_eq, ag_ui_eq]
      exact ⟨⟨fun y => by omega, fun y => by omega⟩, by omega, fun y => by omega⟩
    · rw [ag_ui_ne z, ag_ui_ne z]
      obtain ⟨o1, o2, o3⟩ := h1 b (by omega)
      refine ⟨o1, o2, fun y => ?_⟩
      obtain ⟨y1, y2⟩ := o3 y
      rw [ag_ui_ne (show (gp 4 b).toNat ≠ m by omega)]
      exact ⟨by omega, y2⟩
  · show ag_ui (gp 5) m (-1) b = -1 ∨ (0 ≤ ag_ui (gp 5) m (-1) b ∧ ag_ui (gp 5) m (-1) b < w ∧ ag_ui (gp 3) m 0 b = 1 ∧ (ag_ui (gp 0) m k b = 3 ∨ ag_ui (gp 0) m k b = 4) ∧ gb 3 (ag_ui (gp 5) m (-1) b).toNat = b)
    by_cases z : b = m
    · rw [z, ag_ui_eq]
      exact Or.inl rfl
    · rw [ag_ui_ne z, ag_ui_ne z, ag_ui_ne z]
      exact h2.1 b (by omega)
  · show ag_ui (gp 5) m (-1) (gb 3 c).toNat = c
    have hc : c < w := hc
    have h9 : 0 ≤ gb 3 c := h9
    have := hIP c hc
    rw [ag_ui_ne (by omega)]
    exact h2.2 c hc h9
  · show ag_ui (gp 3) m 0 (ag_ui (gp 1) m t b).toNat = 0
    have g3 : ag_ui (gp 3) m 0 b = 0 := g3
    have g0 : ag_ui (gp 0) m k b = 5 := g0
    by_cases z : b = m
    · rw [z, ag_ui_eq] at g0
      obtain ⟨t0, t1, t2⟩ := h5 g0
      rw [z, ag_ui_eq, ag_ui_ne (by omega)]
      exact t2
    · rw [ag_ui_ne z] at g3 g0 ⊢
      have y := hA.2.2 b (by omega) g0
      have y0 := hA.1 b (by omega) g0
      rw [ag_ui_ne (by omega)]
      exact h3 b (by omega) g3 g0
theorem ag_E_wdr {b : Nat} (hV : ag_IV (gb, (w, (n, gp))) m) (hE : ag_E (gb, (w, (n, gp))) m) (hb : b < m) (hl : gp 3 b = 0) : ag_E (gb, (w, (n, ag_set gp b 4 (-1) m))) m := by
  have hm : m ≤ 20 := hV.2.1.1.2.2
  obtain ⟨h1, h2, h3⟩ := ag_E_12.mp hE
  have hA := ag_aim_of hV.2.1
  have hA : ag_aim gp m := hA
  exact ag_E_12.mpr ⟨ag_E1_set h1 hb hm hl (by omega) (Or.inr ⟨by omega, rfl⟩), ag_E2_set h2 (show b < 20 by omega) hl 4 (-1), ag_E3_set h3 hb hm (by omega) hA.1 hA.2.1 hA.2.2⟩
theorem ag_E_ins {place : Nat} {u x hh : Int} (hE : ag_E (gb, (w, (n, gp))) 0) : ag_E (ag_gi gb w n place u x hh, (w + 1, (n + 1, gp))) 0 := by
  refine ⟨fun b hb => by omega, fun b hb => by omega, fun c hc h9 => ?_, fun b hb => by omega⟩
  have h9 : 0 ≤ ag_ui (gb 3) w (-1) c := h9
  show gp 5 (ag_ui (gb 3) w (-1) c).toNat = c
  have hc : c < w + 1 := hc
  by_cases z : c = w
  · rw [z, ag_ui_eq] at h9
    omega
  · rw [ag_ui_ne z] at h9 ⊢
    exact hE.2.2.1 c (by show c < w; omega) h9
end AGEE
