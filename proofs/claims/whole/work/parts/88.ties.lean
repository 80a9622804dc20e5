/-! The ties behind a call: the class walks up from what is struck, the reference ties to the parent of what was struck. -/
theorem ag_up4_ok {G : Nat → Nat → Int} {w : Nat} {t : Int} (hw : w ≤ 40) (h : t = -1 ∨ (0 ≤ t ∧ t < w ∧ G 5 t.toNat ≠ -1)) (k : Nat) : ag_up4 G w k t = t := by
  cases k with
  | zero => rfl
  | succ k =>
    rw [ag_up4, if_pos]
    rcases h with h | ⟨h1, h2, h3⟩
    · exact Or.inl h
    · exact Or.inr ⟨h1, h2, by rw [ag_rd_i (by decide) h1 (by omega)]; exact h3⟩
theorem ag_lvs_same {G : Nat → Nat → Int} {w nq : Nat} {q : Nat → Int} (hw : w ≤ 40) (h : ∀ j, j < nq → q j = -1 ∨ (0 ≤ q j ∧ q j < w ∧ G 5 (q j).toNat ≠ -1)) (j : Nat) : ag_lvs G w q nq j = q j := by
  unfold ag_lvs
  by_cases c : j < nq
  · rw [if_pos c]
    exact ag_up4_ok hw (h j c) 4
  · rw [if_neg c]
theorem ag_walk {gb G : Nat → Nat → Int} {w n p e : Nat} {u : Int} (hB : ag_IB gb w n) (hb : ag_blk (ag_hg gb) n p e) (h1 : G 1 = gb 1) (h5 : ∀ i, p ≤ i → i < e → G 5 (gb 6 i).toNat = -1) (hu : ag_pg gb p = u) (hu2 : u = -1 ∨ (0 ≤ u ∧ u < w ∧ G 5 u.toNat ≠ -1)) :
    ∀ (d i k : Nat), p ≤ i → i < e → ag_hg gb i = ag_hg gb p + d → d < k → ag_up4 G w k (gb 6 i) = u := by
  have hw := hB.1.2.2
  obtain ⟨b1, b2, b3, b4⟩ := hb
  have one : ∀ i k, p ≤ i → i < e → ag_up4 G w (k + 1) (gb 6 i) = ag_up4 G w k (ag_pg gb i) := by
    intro i k hi hie
    have hr := hB.2.1 i (by omega)
    have q := h5 i hi hie
    rw [ag_up4, if_neg, h1, ag_rd_i (by decide) hr.1 (by omega)]
    · rfl
    · rintro (z | ⟨-, -, z⟩)
      · omega
      · rw [ag_rd_i (by decide) hr.1 (by omega)] at z
        exact z q
  intro d
  induction d with
  | zero =>
    intro i k hi hie hd hk
    have hip : i = p := by
      by_cases q : i = p
      · exact q
      · have := b3 i (by omega) hie
        omega
    obtain ⟨k', rfl⟩ : ∃ k', k = k' + 1 := ⟨k - 1, by omega⟩
    rw [one i k' hi hie, hip, hu]
    exact ag_up4_ok hw.2 hu2 k'
  | succ d ih =>
    intro i k hi hie hd hk
    have hip : p < i := by
      by_cases q : i = p
      · rw [q] at hd
        omega
      · omega
    obtain ⟨k', rfl⟩ : ∃ k', k = k' + 1 := ⟨k - 1, by omega⟩
    rw [one i k' hi hie]
    have h0 := (hB.2.2.2 p (by omega)).1
    have hlt := b3 i hip hie
    obtain ⟨-, -, f3⟩ := hB.2.2.2 i (by omega)
    rcases f3 with ⟨f3, -⟩ | ⟨j, j1, j2, j3, j4⟩
    · omega
    · have hj : p ≤ j := by
        by_cases q : p ≤ j
        · exact q
        · exfalso
          have := j4 p (by omega) hip
          omega
      rw [j2]
      exact ih j k' hj (by omega) (by omega) (by omega)
theorem ag_gs_hold {gb : Nat → Nat → Int} {w n p e : Nat} (hB : ag_IB gb w n) (hb : ag_blk (ag_hg gb) n p e) : (∀ i, p ≤ i → i < e → ag_gs gb n p e 5 (gb 6 i).toNat = -1) ∧ (∀ i, i < n → (i < p ∨ e ≤ i) → ag_gs gb n p e 5 (gb 6 i).toNat ≠ -1) := by
  have hG := ag_IB_strike hB hb
  obtain ⟨b1, b2, b3, b4⟩ := hb
  have e6 : ag_gs gb n p e 6 = ag_dr (gb 6) p e n := by simp [ag_gs, ag_ug]
  have g6 : ∀ i, i < n - (e - p) → ag_gs gb n p e 6 i = if i < p then gb 6 i else gb 6 (i + (e - p)) := fun i hi => by
    rw [e6, ag_dr_pcu b1 b2 hi]
    rfl
  refine ⟨fun i hi hie => ?_, fun i hi ho => ?_⟩
  · have hr := hB.2.1 i (by omega)
    rcases hG.2.2.1 (gb 6 i).toNat (by omega) with q | ⟨k, k1, k2, k3⟩
    · exact q
    · exfalso
      rw [g6 k k1] at k3
      by_cases c : k < p
      · rw [if_pos c] at k3
        have := ag_IB_inj hB (i := k) (j := i) (by omega) (by omega) (by omega)
        omega
      · rw [if_neg c] at k3
        have := ag_IB_inj hB (i := k + (e - p)) (j := i) (by omega) (by omega) (by omega)
        omega
  · by_cases c : i < p
    · have := hG.2.1 i (by omega)
      rw [g6 i (by omega), if_pos c] at this
      omega
    · have := hG.2.1 (i - (e - p)) (by omega)
      rw [g6 (i - (e - p)) (by omega), if_neg (by omega), show i - (e - p) + (e - p) = i by omega] at this
      omega
theorem ag_pfm_w (gb : Nat → Nat → Int) (w n : Nat) (gp : Nat → Nat → Int) (b : Nat) : w ≤ (ag_pfm gb w n gp b).2.1 := by
  unfold ag_pfm
  split
  · exact Nat.le_refl _
  · split
    · exact Nat.le_refl _
    · split
      · exact Nat.le_refl _
      · split
        · exact Nat.le_succ _
        · split
          · exact Nat.le_succ _
          · exact Nat.le_refl _
theorem ag_ties {gh gq : Nat → Nat → Int} {np nq m b : Nat} {qu x : Int} {S : ag_T} (hV : ag_IV S m) (hb : b < m) (hl : S.2.2.2 3 b = 0) (hQ : ag_QI gq S.1 S.2.1 nq) (j : Nat) :
    ag_lvs (ag_dec gh np qu x m S b).1 (ag_dec gh np qu x m S b).2.1 (gq 0) nq j = ag_tpt gh np qu x S (gq 0) nq b j ∧ (j < nq → (ag_tpt gh np qu x S (gq 0) nq b j = -1 ∨ (0 ≤ ag_tpt gh np qu x S (gq 0) nq b j ∧ ag_tpt gh np qu x S (gq 0) nq b j < (ag_dec gh np qu x m S b).2.1 ∧ (ag_dec gh np qu x m S b).1 5 (ag_tpt gh np qu x S (gq 0) nq b j).toNat ≠ -1))) := by
  have hw := hV.1.1.2.2
  have hB := hV.1
  unfold ag_dec ag_tpt
  by_cases q1 : ag_ftb S.1 S.2.1 S.2.2.1 S.2.2.2 b = 0
  · rw [if_pos q1, if_pos q1]
    exact ⟨ag_lvs_same hw.2 hQ.2.2 j, hQ.2.2 j⟩
  · rw [if_neg q1, if_neg q1]
    by_cases q2 : ag_car gh np qu b x = 0
    · rw [if_pos q2, if_pos q2]
      exact ⟨ag_lvs_same hw.2 hQ.2.2 j, hQ.2.2 j⟩
    · rw [if_neg q2, if_neg q2]
      have hI := ag_pfm_I hV hb hl q1
      have hwp := ag_pfm_w S.1 S.2.1 S.2.2.1 S.2.2.2 b
      unfold ag_psd ag_tpf
      dsimp only
      by_cases k0 : S.2.2.2 0 b = 0
      · rw [if_pos k0]
        unfold ag_pfm
        rw [if_pos k0]
        dsimp only
        obtain ⟨t1, p, p1, p2, p3, p4, p5, p6⟩ := ag_IV_to hV hb hl (by rw [k0]; decide)
        have hbk := ag_IB_blk hB p1 p3 p5
        rw [p3, p6]
        generalize ag_edd S.1 S.2.2.1 (S.2.2.2 1 b) = e at hbk ⊢
        obtain ⟨g1, g2⟩ := ag_gs_hold hB hbk
        have hb1 := hbk.1
        have hb2 := hbk.2.1
        have e1 : ag_gs S.1 S.2.2.1 p e 1 = S.1 1 := by simp [ag_gs, ag_ug]
        have hu2 : ag_pg S.1 p = -1 ∨ (0 ≤ ag_pg S.1 p ∧ ag_pg S.1 p < S.2.1 ∧ ag_gs S.1 S.2.2.1 p e 5 (ag_pg S.1 p).toNat ≠ -1) := by
          rcases (hB.2.2.2 p p1).2.2 with ⟨-, z⟩ | ⟨i, i1, i2, -, -⟩
          · exact Or.inl z
          · have := hB.2.1 i (by omega)
            exact Or.inr ⟨by omega, by omega, by rw [i2]; exact g2 i (by omega) (Or.inl i1)⟩
        unfold ag_lvs
        by_cases c : j < nq
        · rw [if_pos c]
          rcases hQ.2.2 j c with z | ⟨z1, z2, z3⟩
          · have e2 : ag_tdl (gq 0) (fun s => S.1 6 (p + s)) (ag_pg S.1 p) nq (e - p) j = gq 0 j := by
              refine ag_if_f ?_
              rintro ⟨-, s, s1, s2⟩
              have := hB.2.1 (p + s) (by omega)
              have s3 : S.1 6 (p + s) = gq 0 j := s2
              omega
            rw [e2, z]
            exact ⟨ag_up4_ok hw.2 (Or.inl rfl) 4, fun _ => Or.inl rfl⟩
          · obtain ⟨i, i1, i2⟩ := ag_IB_has hB z1 z2 z3
            by_cases ci : p ≤ i ∧ i < e
            · have e2 : ag_tdl (gq 0) (fun s => S.1 6 (p + s)) (ag_pg S.1 p) nq (e - p) j = ag_pg S.1 p := ag_if_t ⟨c, i - p, by omega, by dsimp only; rw [show p + (i - p) = i by omega, i2]⟩
              rw [e2, ← i2]
              have d1 := hB.2.2.2 i (by omega)
              have d2 := (hB.2.2.2 p (by omega)).1
              have hle : ag_hg S.1 p ≤ ag_hg S.1 i := by
                by_cases q : i = p
                · rw [q]; exact Int.le_refl _
                · have := hbk.2.2.1 i (by omega) ci.2
                  omega
              exact ⟨ag_walk hB hbk e1 g1 rfl hu2 (ag_hg S.1 i - ag_hg S.1 p).toNat i 4 ci.1 ci.2 (by omega) (by omega), fun _ => hu2⟩
            · have e2 : ag_tdl (gq 0) (fun s => S.1 6 (p + s)) (ag_pg S.1 p) nq (e - p) j = gq 0 j := by
                refine ag_if_f ?_
                rintro ⟨-, s, s1, s2⟩
                have := ag_IB_inj hB (i := p + s) (j := i) (by omega) i1 (by rw [i2]; exact s2)
                omega
              have hh : gq 0 j = -1 ∨ (0 ≤ gq 0 j ∧ gq 0 j < S.2.1 ∧ ag_gs S.1 S.2.2.1 p e 5 (gq 0 j).toNat ≠ -1) := Or.inr ⟨z1, z2, by rw [← i2]; exact g2 i i1 (by omega)⟩
              rw [e2]
              exact ⟨ag_up4_ok hw.2 hh 4, fun _ => hh⟩
        · rw [if_neg c]
          have e2 : ag_tdl (gq 0) (fun s => S.1 6 (p + s)) (ag_pg S.1 p) nq (e - p) j = gq 0 j := ag_if_f (fun z => c z.1)
          exact ⟨e2.symm, fun z => absurd z c⟩
      · rw [if_neg k0]
        have hh : ∀ j, j < nq → gq 0 j = -1 ∨ (0 ≤ gq 0 j ∧ gq 0 j < (ag_pfm S.1 S.2.1 S.2.2.1 S.2.2.2 b).2.1 ∧ (ag_pfm S.1 S.2.1 S.2.2.1 S.2.2.2 b).1 5 (gq 0 j).toNat ≠ -1) := by
          intro j hj
          rcases hQ.2.2 j hj with z | ⟨z1, z2, z3⟩
          · exact Or.inl z
          · exact Or.inr ⟨z1, by omega, hI.2.2.2 k0 _ z1 z2 z3⟩
        exact ⟨ag_lvs_same hI.1.1.2.2.2 hh j, hh j⟩
theorem ag_ties_fn {gh gq : Nat → Nat → Int} {np nq m b : Nat} {qu x : Int} {S : ag_T} (hV : ag_IV S m) (hb : b < m) (hl : S.2.2.2 3 b = 0) (hQ : ag_QI gq S.1 S.2.1 nq) :
    ag_lvs (ag_dec gh np qu x m S b).1 (ag_dec gh np qu x m S b).2.1 (gq 0) nq = ag_tpt gh np qu x S (gq 0) nq b := funext (fun j => (ag_ties hV hb hl hQ j).1)
theorem ag_ties_QI {gh gq : Nat → Nat → Int} {np nq m b : Nat} {qu x : Int} {S : ag_T} (hV : ag_IV S m) (hb : b < m) (hl : S.2.2.2 3 b = 0) (hQ : ag_QI gq S.1 S.2.1 nq) :
    ag_QI (ag_ug gq 0 (ag_tpt gh np qu x S (gq 0) nq b)) (ag_dec gh np qu x m S b).1 (ag_dec gh np qu x m S b).2.1 nq := by
  have hw := (ag_dec_IV (gh := gh) (np := np) (qu := qu) (x := x) hV hb hl).1.1.1.2.2
  refine ⟨fun k j => ?_, hQ.2.1, fun p hp => ?_⟩
  · by_cases c : k = 0
    · rw [c, ag_ug_same]
      by_cases cj : j < nq
      · rcases (ag_ties (gh := gh) (np := np) (qu := qu) (x := x) hV hb hl hQ j).2 cj with z | ⟨z1, z2, -⟩ <;> omega
      · rw [← (ag_ties (gh := gh) (np := np) (qu := qu) (x := x) hV hb hl hQ j).1]
        unfold ag_lvs
        rw [if_neg cj]
        exact hQ.1 0 j
    · rw [ag_ug_ne _ _ c]
      exact hQ.1 k j
  · rw [ag_ug_same]
    exact (ag_ties hV hb hl hQ p).2 hp
