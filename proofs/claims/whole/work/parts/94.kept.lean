/-! What the calls keep. -/
theorem ag_sm_ug9 {g : Nat → Nat → Int} {k : Nat} {x : Nat → Int} (hs : ag_sm g) (hx : ∀ j, -100000 ≤ x j ∧ x j ≤ 100000) : ag_sm (ag_ug g k x) := fun i j => by
  by_cases c : i = k
  · rw [c, ag_ug_same]
    exact hx j
  · rw [ag_ug_ne _ _ c]
    exact hs i j
theorem ag_ui_eq9 (g : Nat → Int) (i : Nat) (x : Int) : ag_ui g i x i = x := if_pos rfl
theorem ag_IV_ins {S : ag_T} {place : Nat} {u x : Int} (hV : ag_IV S 0) (hw : S.2.1 < 40) (hp : place ≤ S.2.2.1) (hu0 : 0 ≤ ag_hun S.1 u) (hu3 : ag_hun S.1 u ≤ 3) (x1 : -100000 ≤ x) (x2 : x ≤ 100000) (y1 : -100000 ≤ u) (y2 : u ≤ 100000)
    (hlast : place < S.2.2.1 → ag_hg S.1 place ≤ ag_hun S.1 u) (hnew : (ag_hun S.1 u = 0 ∧ u = -1) ∨ ∃ j, j < place ∧ u = S.1 6 j ∧ ag_hg S.1 j + 1 = ag_hun S.1 u ∧ ∀ k, j < k → k < place → ag_hun S.1 u ≤ ag_hg S.1 k) :
    ag_IV (ag_gi S.1 S.2.1 S.2.2.1 place u x (ag_hun S.1 u), (S.2.1 + 1, (S.2.2.1 + 1, S.2.2.2))) 0 := by
  obtain ⟨hB, hP, hH⟩ := hV
  refine ⟨ag_IB_insert hB hw hp hu0 hu3 x1 x2 y1 y2 hlast hnew, ⟨hP.1, fun c hc => ?_, fun a ha => absurd ha (Nat.not_lt_zero a)⟩, fun a ha => absurd ha (Nat.not_lt_zero a)⟩
  obtain ⟨q3, q4, -⟩ := ag_gi_k (gb := S.1) (w := S.2.1) (n := S.2.2.1) (place := place) (above := u) (words := x) (hu := ag_hun S.1 u)
  dsimp only at hc ⊢
  have e34 : ag_gi S.1 S.2.1 S.2.2.1 place u x (ag_hun S.1 u) 3 c = -1 ∧ ag_gi S.1 S.2.1 S.2.2.1 place u x (ag_hun S.1 u) 4 c = -1 := by
    rw [q3, q4]
    by_cases c1 : c = S.2.1
    · rw [c1, ag_ui_eq9, ag_ui_eq9]
      exact ⟨rfl, rfl⟩
    · rw [ag_ui_ne c1, ag_ui_ne c1]
      obtain ⟨r1, r2, r3⟩ := hP.2.1 c (by omega)
      have r4 : S.1 3 c = -1 := by omega
      refine ⟨r4, r3.trans (if_neg (fun z => ?_))⟩
      have := z.1
      omega
  obtain ⟨e3, e4⟩ := e34
  refine ⟨by rw [e3]; decide, by rw [e3]; decide, e4.trans (Eq.symm (if_neg (fun z => ?_)))⟩
  have := z.1
  omega
theorem ag_IV_cl3 {S : ag_T} {x : Int} (hV : ag_IV S 0) (hw : S.2.1 < 40) (hx : ag_tx x) (hxn : ag_nm x = x) : ag_IV (ag_gi S.1 S.2.1 S.2.2.1 S.2.2.1 (-1) x (ag_hun S.1 (-1)), (S.2.1 + 1, (S.2.2.1 + 1, S.2.2.2))) 0 := by
  have e : ag_hun S.1 (-1) = 0 := by
    unfold ag_hun
    rw [if_pos ag_nm_m]
  unfold ag_tx at hx
  rw [hxn] at hx
  exact ag_IV_ins hV hw (Nat.le_refl _) (by rw [e]; decide) (by rw [e]; decide) (by omega) (by omega) (by decide) (by decide) (fun z => absurd z (Nat.lt_irrefl _)) (Or.inl ⟨e, rfl⟩)
theorem ag_IV_cl4 {S : ag_T} {p x : Int} (hV : ag_IV S 0) (hp : ag_nm p = p) (h1 : ¬ p = -1) (h9 : ag_hld S p) (hw : S.2.1 < 40) (h4 : ag_hun S.1 p ≤ 3) (hx : ag_tx x) (hxn : ag_nm x = x) : ag_IV (ag_gi S.1 S.2.1 S.2.2.1 (ag_edd S.1 S.2.2.1 p) p x (ag_hun S.1 p), (S.2.1 + 1, (S.2.2.1 + 1, S.2.2.2))) 0 := by
  obtain ⟨⟨a1, a2, -⟩, i, i1, i2, i3, i4, i5⟩ := ag_hld_p hV hp h9
  obtain ⟨b1, b2, b3, b4⟩ := ag_IB_blk hV.1 i1 i3 i5
  have hg := ag_IB_hg hV.1 i1
  have eu : ag_hun S.1 p = ag_hg S.1 i + 1 := by
    unfold ag_hun
    rw [if_neg (by rw [hp]; exact h1), i5]
  unfold ag_tx at hx
  rw [hxn] at hx
  refine ag_IV_ins hV hw b2 (by omega) h4 (by omega) (by omega) (by omega) (by omega) (fun z => ?_) (Or.inr ⟨i, b1, i4.symm, eu.symm, fun k k1 k2 => ?_⟩)
  · have := b4 z
    omega
  · have := b3 k k1 k2
    omega
theorem ag_QI_ins {gq : Nat → Nat → Int} {nq : Nat} {S : ag_T} {place : Nat} {u x h : Int} {m : Nat} (hV : ag_IV S m) (hQ : ag_QI gq S.1 S.2.1 nq) (hp : place ≤ S.2.2.1) (hI : ag_IB (ag_gi S.1 S.2.1 S.2.2.1 place u x h) (S.2.1 + 1) (S.2.2.1 + 1)) : ag_QI gq (ag_gi S.1 S.2.1 S.2.2.1 place u x h) (S.2.1 + 1) nq := by
  refine ⟨hQ.1, hQ.2.1, fun p hp2 => ?_⟩
  rcases hQ.2.2 p hp2 with z | ⟨z1, z2, z3⟩
  · exact Or.inl z
  · exact Or.inr ⟨z1, by omega, ag_IB_held hI (ag_gi_has hp (ag_IB_has hV.1 z1 z2 z3))⟩
theorem ag_IV_adp {S : ag_T} {m : Nat} {k t o : Int} (hV : ag_IV S m) (hm : m < 20) (hk : 0 ≤ k ∧ k ≤ 5) (ho : -100000 ≤ o ∧ o ≤ 100000) (h5 : k = 5 → 0 ≤ t ∧ t < m ∧ 2 ≤ S.2.2.2 0 t.toNat ∧ S.2.2.2 0 t.toNat ≤ 4) (h1 : k ≠ 5 → 0 ≤ t ∧ t < S.2.1 ∧ S.1 5 t.toNat ≠ -1) (h2 : k = 1 → 0 ≤ o ∧ o < S.2.1 ∧ S.1 5 o.toNat ≠ -1) :
    ag_IV (S.1, (S.2.1, (S.2.2.1, ag_adp S.2.2.2 m k t o))) (m + 1) := by
  obtain ⟨hB, hP, hH⟩ := hV
  have hw := hB.1.2.2
  have ht : 0 ≤ t ∧ t < 40 := by
    by_cases c : k = 5
    · have := h5 c; omega
    · have := h1 c; omega
  have r0 : ag_adp S.2.2.2 m k t o 0 = ag_ui (S.2.2.2 0) m k := by simp [ag_adp, ag_ug]
  have r1 : ag_adp S.2.2.2 m k t o 1 = ag_ui (S.2.2.2 1) m t := by simp [ag_adp, ag_ug]
  have r2 : ag_adp S.2.2.2 m k t o 2 = ag_ui (S.2.2.2 2) m o := by simp [ag_adp, ag_ug]
  have r3 : ag_adp S.2.2.2 m k t o 3 = ag_ui (S.2.2.2 3) m 0 := by simp [ag_adp, ag_ug]
  have r4 : ag_adp S.2.2.2 m k t o 4 = ag_ui (S.2.2.2 4) m (-1) := by simp [ag_adp, ag_ug]
  have r5 : ag_adp S.2.2.2 m k t o 5 = ag_ui (S.2.2.2 5) m (-1) := by simp [ag_adp, ag_ug]
  have r6 : ∀ j, 6 ≤ j → ag_adp S.2.2.2 m k t o j = S.2.2.2 j := fun j hj => by
    unfold ag_adp
    rw [ag_ug_ne _ _ (by omega), ag_ug_ne _ _ (by omega), ag_ug_ne _ _ (by omega), ag_ug_ne _ _ (by omega), ag_ug_ne _ _ (by omega), ag_ug_ne _ _ (by omega)]
  have lt : ∀ j i, i ≠ m → ag_adp S.2.2.2 m k t o j i = S.2.2.2 j i := fun j i hi => by
    match j with
    | 0 => rw [r0, ag_ui_ne hi]
    | 1 => rw [r1, ag_ui_ne hi]
    | 2 => rw [r2, ag_ui_ne hi]
    | 3 => rw [r3, ag_ui_ne hi]
    | 4 => rw [r4, ag_ui_ne hi]
    | 5 => rw [r5, ag_ui_ne hi]
    | j + 6 => rw [r6 _ (by omega)]
  have at0 : ag_adp S.2.2.2 m k t o 0 m = k := by rw [r0, ag_ui_eq9]
  have at1 : ag_adp S.2.2.2 m k t o 1 m = t := by rw [r1, ag_ui_eq9]
  have at2 : ag_adp S.2.2.2 m k t o 2 m = o := by rw [r2, ag_ui_eq9]
  have at3 : ag_adp S.2.2.2 m k t o 3 m = 0 := by rw [r3, ag_ui_eq9]
  have hsm : ag_sm (ag_adp S.2.2.2 m k t o) := fun j i => by
    by_cases c : i = m
    · rw [c]
      match j with
      | 0 => rw [at0]; omega
      | 1 => rw [at1]; omega
      | 2 => rw [at2]; exact ho
      | 3 => rw [at3]; omega
      | 4 => rw [r4, ag_ui_eq9]; omega
      | 5 => rw [r5, ag_ui_eq9]; omega
      | j + 6 => rw [r6 _ (by omega)]; exact hP.1.2.1 _ _
    · rw [lt j i c]
      exact hP.1.2.1 j i
  refine ⟨hB, ⟨⟨fun j i hi => ?_, hsm, hm⟩, fun c hc => ?_, fun b hb => ?_⟩, fun b hb hl => ?_⟩
  · show ag_adp S.2.2.2 m k t o j i = 0
    rw [lt j i (by omega)]
    exact hP.1.1 j i hi
  · dsimp only at hc ⊢
    obtain ⟨c1, c2, c3⟩ := hP.2.1 c hc
    refine ⟨c1, by omega, ?_⟩
    rw [c3]
    by_cases q : 0 ≤ S.1 3 c
    · have z0 := lt 0 (S.1 3 c).toNat (by omega)
      have z1 := lt 1 (S.1 3 c).toNat (by omega)
      simp only [z0, z1]
    · rw [if_neg (fun z => q z.1), if_neg (fun z => q z.1)]
  · dsimp only
    by_cases c : b = m
    · rw [c, at0, at1, at2, at3]
      refine ⟨⟨hk.1, hk.2, by decide, by decide⟩, fun z => ?_, fun z => ?_, fun z => ?_⟩
      · obtain ⟨q1, q2, q3, q4⟩ := h5 z
        rw [lt 0 _ (by omega)]
        exact ⟨q1, by omega, q3, q4⟩
      · exact ⟨(h1 z).1, (h1 z).2.1⟩
      · exact ⟨(h2 z).1, (h2 z).2.1⟩
    · rw [lt 0 b c, lt 1 b c, lt 2 b c, lt 3 b c]
      obtain ⟨q1, q2, q3, q4⟩ := hP.2.2 b (by omega)
      refine ⟨q1, fun z => ?_, q3, q4⟩
      obtain ⟨y1, y2, y3, y4⟩ := q2 z
      rw [lt 0 _ (by omega)]
      exact ⟨y1, by omega, y3, y4⟩
  · dsimp only at hl ⊢
    by_cases c : b = m
    · rw [c, at0, at1, at2]
      exact ⟨fun z => (h1 z).2.2, fun z => (h2 z).2.2⟩
    · rw [lt 3 b c] at hl
      rw [lt 0 b c, lt 1 b c, lt 2 b c]
      exact hH b (by omega) hl
theorem ag_IV_wdr {S : ag_T} {m b : Nat} (hV : ag_IV S m) (hb : b < m) : ag_IV (S.1, (S.2.1, (S.2.2.1, ag_set S.2.2.2 b 4 (-1) m))) m := by
  have hm := hV.2.1.1.2.2
  have hs := ag_set_st (gp := S.2.2.2) (b := b) (m := m) (s := 4) (y := -1) (by omega) hm (by decide) (by decide) (by decide) (by decide)
  exact ⟨hV.1, ag_IP_st hV.2.1 hs, ag_IH_st hV.2.2 hs⟩
/-! the House -/
theorem ag_HI_party {gh : Nat → Nat → Int} {np : Nat} {qu li s : Int} (hH : ag_HI gh np qu li) (h1 : 1 ≤ s ∧ s ≤ 99) (h2 : np < 5) : ag_HI (ag_ug gh 0 (ag_ui (gh 0) np s)) (np + 1) qu li := by
  obtain ⟨a1, a2, a3, a4, a5, a6⟩ := hH
  refine ⟨ag_sm_ug9 a1 (ag_ui_sm (a1 0) (by omega) (by omega)), h2, a3, a4, fun p hp => ?_, fun p => ?_⟩
  · rw [ag_ug_same]
    by_cases c : p = np
    · rw [c, ag_ui_eq9]
      exact h1
    · rw [ag_ui_ne c]
      exact a5 p (by omega)
  · rw [ag_ug_ne _ _ (by decide)]
    exact a6 p
theorem ag_HI_vote {gh : Nat → Nat → Int} {np : Nat} {qu li i x : Int} (hH : ag_HI gh np qu li) (h1 : -1 ≤ x ∧ x ≤ 1) : ag_HI (ag_ug gh 3 (ag_wr 100 (gh 3) i x)) np qu li := by
  obtain ⟨a1, a2, a3, a4, a5, a6⟩ := hH
  refine ⟨ag_sm_ug9 a1 (ag_wr_sm 100 i x (a1 3) (by omega) (by omega)), a2, a3, a4, fun p hp => ?_, fun p => ?_⟩
  · rw [ag_ug_ne _ _ (by decide)]
    exact a5 p hp
  · rw [ag_ug_ne _ _ (by decide)]
    exact a6 p
theorem ag_dv_rg {x y z : Int} (hx : 0 ≤ x) (hx2 : x < 2147483648) (hy : 0 < y) (hy2 : y < 2147483648) (hz : x ≤ z * y) : 0 ≤ ag_dv x y ∧ ag_dv x y ≤ z := by
  have e : ag_dv x y = x / y := by
    unfold ag_dv
    rw [Int32.toInt_div, Int32.toInt_ofInt_of_le (by omega) (by omega), Int32.toInt_ofInt_of_le (by omega) (by omega), Int.tdiv_eq_ediv_of_nonneg hx]
    have h1 : 0 ≤ x / y := Int.ediv_nonneg hx (by omega)
    have h2 : x / y ≤ x := Int.ediv_le_self y hx
    exact Int.bmod_eq_of_le (by omega) (by omega)
  rw [e]
  exact ⟨Int.ediv_nonneg hx (by omega), Int.le_of_lt_add_one (Int.ediv_lt_of_lt_mul hy (by rw [Int.add_mul]; omega))⟩
theorem ag_su_one {g : Nat → Int} : ∀ (k i p : Nat), (∀ j, i ≤ j → j < i + k → 0 ≤ g j) → i ≤ p → p < i + k → g p ≤ ag_su g k i := by
  intro k
  induction k with
  | zero => intro i p _ h1 h2; omega
  | succ k ih =>
    intro i p h h1 h2
    have h0 := h i (by omega) (by omega)
    rw [ag_su]
    by_cases c : p = i
    · have : 0 ≤ ag_su g k (i + 1) := by
        by_cases ck : k = 0
        · rw [ck, ag_su]; exact Int.le_refl _
        · have a := ih (i + 1) (i + 1) (fun j a b => h j (by omega) (by omega)) (by omega) (by omega)
          have b := h (i + 1) (by omega) (by omega)
          omega
      rw [c]
      omega
    · have := ih (i + 1) p (fun j a b => h j (by omega) (by omega)) (by omega) (by omega)
      omega
theorem ag_HI_sit {gh : Nat → Nat → Int} {np : Nat} {qu li s : Int} (hH : ag_HI gh np qu li) (h1 : 0 ≤ s ∧ s ≤ 300) (h2 : 0 < np) : ag_HI (ag_ug gh 1 (ag_sha gh (gh 1) s (ag_su (gh 0) np 0) np)) np qu s := by
  have hsu := ag_su_seats hH
  obtain ⟨a1, a2, a3, a4, a5, a6⟩ := hH
  have hr : ∀ j, 0 ≤ ag_sha gh (gh 1) s (ag_su (gh 0) np 0) np j ∧ ag_sha gh (gh 1) s (ag_su (gh 0) np 0) np j ≤ 300 := fun j => by
    unfold ag_sha
    by_cases c : j < np
    · rw [if_pos c, if_pos (show 0 < ag_su (gh 0) np 0 by omega)]
      have hj := a5 j c
      have ho := ag_su_one (g := gh 0) np 0 j (fun i _ hi => by have := a5 i (by omega); omega) (Nat.zero_le _) (by omega)
      have p1 : 0 ≤ s * gh 0 j := Int.mul_nonneg h1.1 (by omega)
      have p2 : s * gh 0 j ≤ s * ag_su (gh 0) np 0 := Int.mul_le_mul_of_nonneg_left ho h1.1
      have p3 : s * gh 0 j ≤ 300 * 99 := Int.mul_le_mul h1.2 hj.2 (by omega) (by decide)
      have := ag_dv_rg p1 (by omega) (show 0 < ag_su (gh 0) np 0 by omega) (by omega) p2
      omega
    · rw [if_neg c]
      exact a6 j
  refine ⟨ag_sm_ug9 a1 (fun j => by have := hr j; omega), a2, a3, by omega, fun p hp => ?_, fun p => ?_⟩
  · rw [ag_ug_ne _ _ (by decide)]
    exact a5 p hp
  · rw [ag_ug_same]
    exact hr p
theorem ag_HI_speak {gh : Nat → Nat → Int} {np p k : Nat} {qu li x : Int} (hH : ag_HI gh np qu li) (hs : ag_sp9 gh li k) (hk : k < 512) (h2 : 1 ≤ x) (h5 : x ≤ li ∧ x ≤ gh 1 p) : ag_HI (ag_ug (ag_ug gh 2 (ag_ui (gh 2) p (gh 2 p + x))) 1 (ag_ui (gh 1) p (gh 1 p - x))) np qu (li - x) ∧ ag_sp9 (ag_ug (ag_ug gh 2 (ag_ui (gh 2) p (gh 2 p + x))) 1 (ag_ui (gh 1) p (gh 1 p - x))) (li - x) (k + 1) := by
  obtain ⟨a1, a2, a3, a4, a5, a6⟩ := hH
  have b1 := a6 p
  have b2 := hs p
  refine ⟨⟨ag_sm_ug9 (ag_sm_ug9 a1 (ag_ui_sm (a1 2) (by omega) (by omega))) (ag_ui_sm (a1 1) (by omega) (by omega)), a2, a3, by omega, fun q hq => ?_, fun q => ?_⟩, fun q => ?_⟩
  · rw [ag_ug_ne _ _ (by decide), ag_ug_ne _ _ (by decide)]
    exact a5 q hq
  · rw [ag_ug_same]
    by_cases c : q = p
    · rw [c, ag_ui_eq9]
      omega
    · rw [ag_ui_ne c]
      exact a6 q
  · rw [ag_ug_ne _ _ (by decide), ag_ug_same]
    by_cases c : q = p
    · rw [c, ag_ui_eq9]
      omega
    · rw [ag_ui_ne c]
      have := hs q
      omega
theorem ag_sp9_gh {gh gh1 : Nat → Nat → Int} {li li1 : Int} {k : Nat} (h : ag_sp9 gh li k) (e : gh1 2 = gh 2) (h1 : li1 ≤ li ∨ li1 ≤ 300) : ag_sp9 gh1 li1 (k + 1) := fun p => by
  rw [e]
  have := h p
  omega
theorem ag_QI_pet {gq : Nat → Nat → Int} {gb : Nat → Nat → Int} {w nq : Nat} {c s : Int} (hQ : ag_QI gq gb w nq) (hw : w ≤ 40) (h1 : 0 ≤ c ∧ c < w ∧ gb 5 c.toNat ≠ -1) (h2 : 1 ≤ s ∧ s ≤ 9999) (h3 : nq < 12) : ag_QI (ag_ug (ag_ug gq 0 (ag_ui (gq 0) nq c)) 1 (ag_ui (gq 1) nq s)) gb w (nq + 1) := by
  refine ⟨ag_sm_ug9 (ag_sm_ug9 hQ.1 (ag_ui_sm (hQ.1 0) (by omega) (by omega))) (ag_ui_sm (hQ.1 1) (by omega) (by omega)), h3, fun p hp => ?_⟩
  rw [ag_ug_ne _ _ (by decide), ag_ug_same]
  by_cases q : p = nq
  · rw [q, ag_ui_eq9]
    exact Or.inr h1
  · rw [ag_ui_ne q]
    exact hQ.2.2 p (by omega)
