/-! THE TRIAL'S VALUES without the spare row. -/
def ag_jS (S S' : ag_T) : Prop := S'.2 = S.2 ∧ ag_jr S.2.2.1 S.1 S'.1
section AGJV
variable {gb gb' gp : Nat → Nat → Int} {w n m : Nat}
theorem ag_jr_ug (h : ag_jr n gb gb') {k : Nat} (x : Nat → Int) : ag_jr n (ag_ug gb k x) (ag_ug gb' k x) := by
  refine ⟨fun j j6 j7 => ?_, fun i hi => ?_⟩
  · unfold ag_ug
    by_cases c : j = k
    · rw [if_pos c, if_pos c]
    · rw [if_neg c, if_neg c, h.1 j j6 j7]
  · unfold ag_ug
    by_cases c : 6 = k
    · rw [if_pos c, if_pos c]
    · rw [if_neg c, if_neg c, h.2 i hi]
theorem ag_jr_ftb (h : ag_jr n gb gb') (hV : ag_IV (gb, (w, (n, gp))) m) {b : Nat} (hb : b < m) (hl : gp 3 b = 0) : ag_ftb gb' w n gp b = ag_ftb gb w n gp b := by
  have hB : ag_IB gb w n := hV.1
  have hw40 : w ≤ 40 := hB.1.2.2.2
  have hnw : n ≤ w := hB.1.2.2.1
  unfold ag_ftb
  refine ag_jr_fit h (by omega) fun k1 => ?_
  obtain ⟨⟨p, e, hp1, hp6, hp5, hp3, -⟩, -⟩ := ag_lhd_of hV hb hl (by omega)
  rw [hp3]
  exact hp1
theorem ag_jr_pfm (h : ag_jr n gb gb') (hV : ag_IV (gb, (w, (n, gp))) m) {b : Nat} (hb : b < m) (hl : gp 3 b = 0) (hf : ag_ftb gb w n gp b ≠ 0) : ag_jS (ag_pfm gb w n gp b) (ag_pfm gb' w n gp b) := by
  have hB : ag_IB gb w n := hV.1
  have hw40 : w ≤ 40 := hB.1.2.2.2
  have hnw : n ≤ w := hB.1.2.2.1
  have w40 : (gp 0 b = 3 ∨ gp 0 b = 4) → w < 40 := fun z => by
    unfold ag_ftb ag_fit at hf
    rw [if_neg (by omega)] at hf
    by_cases z2 : 40 ≤ w
    · rcases z with z | z
      · rw [if_pos z, if_pos z2] at hf
        exact absurd rfl hf
      · rw [if_neg (by omega), if_pos z, if_pos z2] at hf
        exact absurd rfl hf
    · omega
  have ed := fun c => ag_jr_edd h (show n ≤ 40 by omega) c
  have pl := fun c => ag_jr_plc h c
  unfold ag_pfm
  by_cases k5 : gp 0 b = 5
  · rw [if_neg (by omega), if_neg (by omega), if_neg (by omega), if_neg (by omega), if_neg (by omega), if_neg (by omega), if_neg (by omega), if_neg (by omega), if_neg (by omega), if_neg (by omega)]
    exact ⟨rfl, h⟩
  · obtain ⟨⟨p, e, hp1, hp6, hp5, hp3, hp2, hpb, hpe, hc0, hc1⟩, hx9⟩ := ag_lhd_of hV hb hl k5
    have hpe1 := hpb.1
    have hen := hpb.2.1
    by_cases k0 : gp 0 b = 0
    · rw [if_pos k0, if_pos k0, ed, pl, ← hpe, hp3]
      exact ⟨rfl, ag_jr_gs h (by omega) hpe1 hen⟩
    · rw [if_neg k0, if_neg k0]
      by_cases k1 : gp 0 b = 1
      · obtain ⟨q, f, hq1, hq6, hq5, hq3, hq2, hqb, hqe, hx0, hx1⟩ := hx9 k1
        rw [if_pos k1, if_pos k1, ed, ed, pl, ← hpe, ← hqe, hp3]
        exact ⟨rfl, ag_jr_gm h (by omega) hpe1 hen hqb.2.1 _ _⟩
      · rw [if_neg k1, if_neg k1]
        by_cases k2 : gp 0 b = 2
        · rw [if_pos k2, if_pos k2, h.1 0 (by decide) (by decide)]
          exact ⟨rfl, ag_jr_ug h _⟩
        · rw [if_neg k2, if_neg k2]
          by_cases k3 : gp 0 b = 3
          · have w4 := w40 (Or.inl k3)
            obtain ⟨c, e6, hc, -, -, -⟩ := ag_pg_nat hB hp1
            have ec : gp 1 b = c := hp6.symm.trans e6
            have ht := (ag_train hB hp1 hpb e6 (by rw [← ec, ← hpe])).2.1
            rw [← ec] at ht
            have g3 : ag_jr (n + 1) (ag_G3 gb w n (gp 1 b) (gp 2 b)) (ag_G3 gb' w n (gp 1 b) (gp 2 b)) := by
              unfold ag_G3
              rw [ag_jr_tra h (by omega), h.1 1 (by decide) (by decide), ag_jr_hun h]
              exact ag_jr_gi h (by omega) ht _ _ _
            rw [if_pos k3, if_pos k3, g3.1 4 (by decide) (by decide), g3.1 3 (by decide) (by decide)]
            exact ⟨rfl, ag_jr_ug (ag_jr_ug g3 _) _⟩
          · rw [if_neg k3, if_neg k3]
            by_cases k4 : gp 0 b = 4
            · have w4 := w40 (Or.inr k4)
              have g4 : ag_jr (n + 1) (ag_G4 gb w n (gp 1 b) (gp 2 b)) (ag_G4 gb' w n (gp 1 b) (gp 2 b)) := by
                unfold ag_G4
                rw [ed, ag_jr_hun h, ← hpe]
                exact ag_jr_gi h (by omega) hen _ _ _
              rw [if_pos k4, if_pos k4, g4.1 3 (by decide) (by decide)]
              exact ⟨rfl, ag_jr_ug g4 _⟩
            · rw [if_neg k4, if_neg k4]
              exact ⟨rfl, h⟩
theorem ag_jr_psd (h : ag_jr n gb gb') (hV : ag_IV (gb, (w, (n, gp))) m) {b : Nat} (hb : b < m) (hl : gp 3 b = 0) (hf : ag_ftb gb w n gp b ≠ 0) : ag_jS (ag_psd gb w n gp m b) (ag_psd gb' w n gp m b) := by
  obtain ⟨e, j⟩ := ag_jr_pfm h hV hb hl hf
  unfold ag_psd
  rw [e]
  refine ⟨?_, j⟩
  show ((ag_pfm gb w n gp b).2.1, ((ag_pfm gb w n gp b).2.2.1, ag_spl (ag_pfm gb' w n gp b).1 b m m 0 (ag_set (ag_pfm gb w n gp b).2.2.2 b 1 (-1) m))) = ((ag_pfm gb w n gp b).2.1, ((ag_pfm gb w n gp b).2.2.1, ag_spl (ag_pfm gb w n gp b).1 b m m 0 (ag_set (ag_pfm gb w n gp b).2.2.2 b 1 (-1) m)))
  rw [ag_jr_spl j]
theorem ag_jS_dec {S S' : ag_T} {gh : Nat → Nat → Int} {np b : Nat} {qu x : Int} (h : ag_jS S S') (hV : ag_IV S m) (hb : b < m) (hl : S.2.2.2 3 b = 0) : ag_jS (ag_dec gh np qu x m S b) (ag_dec gh np qu x m S' b) := by
  obtain ⟨gb, w, n, gp⟩ := S
  obtain ⟨gb', r'⟩ := S'
  obtain ⟨e, j⟩ := h
  have e : r' = (w, (n, gp)) := e
  subst e
  have j : ag_jr n gb gb' := j
  have hl : gp 3 b = 0 := hl
  have dec : ∀ G : Nat → Nat → Int, ag_dec gh np qu x m (G, (w, (n, gp))) b = if ag_ftb G w n gp b = 0 then (G, (w, (n, ag_set gp b 3 b m))) else if ag_car gh np qu b x = 0 then (G, (w, (n, ag_set gp b 2 (-1) m))) else ag_psd G w n gp m b := fun _ => rfl
  rw [dec, dec, ag_jr_ftb j hV hb hl]
  by_cases q1 : ag_ftb gb w n gp b = 0
  · rw [if_pos q1, if_pos q1]
    exact ⟨rfl, j⟩
  · rw [if_neg q1, if_neg q1]
    by_cases q2 : ag_car gh np qu b x = 0
    · rw [if_pos q2, if_pos q2]
      exact ⟨rfl, j⟩
    · rw [if_neg q2, if_neg q2]
      exact ag_jr_psd j hV hb hl q1
theorem ag_jS_dal {gh : Nat → Nat → Int} {np : Nat} {qu x : Int} : ∀ (k : Nat) (S S' : ag_T), ag_jS S S' → ag_IV S m → ag_jS (ag_dal gh np qu x m k S) (ag_dal gh np qu x m k S') := by
  intro k
  induction k with
  | zero => intro S S' h _; exact h
  | succ k ih =>
    intro S S' h hV
    have en : ag_nxt S'.1 S'.2.2.2 m = ag_nxt S.1 S.2.2.2 m := by
      rw [h.1]
      exact ag_jr_nxt h.2
    show ag_jS (if ag_nxt S.1 S.2.2.2 m = -1 then S else ag_dal gh np qu x m k (ag_dec gh np qu x m S (ag_nxt S.1 S.2.2.2 m).toNat)) (if ag_nxt S'.1 S'.2.2.2 m = -1 then S' else ag_dal gh np qu x m k (ag_dec gh np qu x m S' (ag_nxt S'.1 S'.2.2.2 m).toNat))
    rw [en]
    by_cases c : ag_nxt S.1 S.2.2.2 m = -1
    · rw [if_pos c, if_pos c]
      exact h
    · rw [if_neg c, if_neg c]
      obtain ⟨b, hb, hn, hl⟩ := ag_nxt_is c
      have e9 : (ag_nxt S.1 S.2.2.2 m).toNat = b := by omega
      rw [e9]
      exact ih _ _ (ag_jS_dec h hV hb hl) (ag_dec_IV hV hb hl).1
theorem ag_jS_JT (S : ag_T) (z : Nat → Int) : ag_jS S (ag_JT S z) := ⟨rfl, fun k _ k7 => ag_ug_ne _ _ k7, fun i _ => by
  show ag_ug S.1 7 z 6 i = S.1 6 i
  rw [ag_ug_ne _ _ (by decide)]⟩
/-- the values of the digest -/
def ag_vm9 (S : ag_T) (m b : Nat) : Int := (ag_cnt (ag_psd S.1 S.2.1 S.2.2.1 S.2.2.2 m b).2.2.2 m 3 : Int) - (ag_cnt S.2.2.2 m 3 : Int)
def ag_vi9 (gh : Nat → Nat → Int) (np : Nat) (qu : Int) (S : ag_T) (m : Nat) : Int := ((ag_dal gh np qu (-1) m 20 S).2.2.1 : Int)
def ag_vo9 (gh : Nat → Nat → Int) (np : Nat) (qu : Int) (S : ag_T) (m : Nat) (p : Int) : Int := (ag_ct (fun i => decide ((ag_dal gh np qu p m 20 S).2.2.2 3 i ≠ (ag_dal gh np qu (-1) m 20 S).2.2.2 3 i)) m 0 : Int)
theorem ag_vM9 {S : ag_T} (hV : ag_IV S m) {b : Nat} (hb : b < m) (hl : S.2.2.2 3 b = 0) (hf : ag_ftb S.1 S.2.1 S.2.2.1 S.2.2.2 b ≠ 0) (z : Nat → Int) : ag_vM S m b z = ag_vm9 S m b := by
  obtain ⟨e, -⟩ := ag_jr_psd (gb := S.1) (gb' := (ag_JT S z).1) (w := S.2.1) (n := S.2.2.1) (gp := S.2.2.2) (ag_jS_JT S z).2 hV hb hl hf
  unfold ag_vM ag_vm9
  rw [e]
theorem ag_vI9 {gh : Nat → Nat → Int} {np : Nat} {qu : Int} {S : ag_T} (hV : ag_IV S m) (z : Nat → Int) : ag_vI gh np qu S m z = ag_vi9 gh np qu S m := by
  unfold ag_vI ag_vi9
  rw [(ag_jS_dal (gh := gh) (np := np) (qu := qu) (x := -1) 20 S (ag_JT S z) (ag_jS_JT S z) hV).1]
theorem ag_vO9 {gh : Nat → Nat → Int} {np : Nat} {qu : Int} {S : ag_T} (hV : ag_IV S m) (p : Int) (z1 z2 : Nat → Int) : ag_vO gh np qu S m p z1 z2 = ag_vo9 gh np qu S m p := by
  unfold ag_vO ag_vo9
  rw [(ag_jS_dal (gh := gh) (np := np) (qu := qu) (x := -1) 20 S (ag_JT S z1) (ag_jS_JT S z1) hV).1, (ag_jS_dal (gh := gh) (np := np) (qu := qu) (x := p) 20 S (ag_JT S z2) (ag_jS_JT S z2) hV).1]
theorem ag_vC9 {gh : Nat → Nat → Int} {np : Nat} {qu : Int} {S : ag_T} (hV : ag_IV S m) (k : Nat) (z : Nat → Int) : ag_vC gh np qu S m k z = ag_nxt (ag_dal gh np qu (-1) m k S).1 (ag_dal gh np qu (-1) m k S).2.2.2 m := by
  have h := ag_jS_dal (gh := gh) (np := np) (qu := qu) (x := -1) k S (ag_JT S z) (ag_jS_JT S z) hV
  unfold ag_vC
  rw [h.1]
  exact ag_jr_nxt h.2
end AGJV
