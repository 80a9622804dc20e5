/-! THE COURSE's STATE (the bill's rows, clauses ever, clauses in it, the papers' rows), and what its methods make of it. -/
variable {B : Nat}
abbrev ag_T : Type := (Nat → Nat → Int) × (Nat × (Nat × (Nat → Nat → Int)))
def ag_vB (w n : Nat) : Nat → Int := fun k => if k = 0 then (w : Int) else if k = 1 then (n : Int) else 0
def ag_vP (m : Nat) : Nat → Int := fun k => if k = 0 then (m : Int) else 0
theorem ag_vB_0 (w n : Nat) : ag_vB w n 0 = w := rfl
theorem ag_vB_1 (w n : Nat) : ag_vB w n 1 = n := rfl
theorem ag_vP_0 (m : Nat) : ag_vP m 0 = m := rfl
theorem ag_vB_u1 (w n x : Nat) : ag_ui (ag_vB w n) 1 (x : Int) = ag_vB w x := by
  funext k
  by_cases h : k = 1
  · subst h; rfl
  · simp [ag_ui, ag_vB, h]
theorem ag_vB_u01 (w n : Nat) : ag_ui (ag_ui (ag_vB w n) 0 ((w : Int) + 1)) 1 ((n : Int) + 1) = ag_vB (w + 1) (n + 1) := by
  funext k
  by_cases h : k = 1
  · subst h; rfl
  · by_cases h0 : k = 0
    · subst h0; rfl
    · simp [ag_ui, ag_vB, h, h0]
theorem ag_vP_u (m : Nat) : ag_ui (ag_vP m) 0 ((m : Int) + 1) = ag_vP (m + 1) := by
  funext k
  by_cases h : k = 0
  · subst h; rfl
  · simp [ag_ui, ag_vP, h]
theorem ag_rd_i {n : Nat} {g : Nat → Int} {x : Int} (hn : n ≤ 1000000) (h0 : 0 ≤ x) (h1 : x < n) : ag_rd n g x = g x.toNat := by
  unfold ag_rd
  rw [ag_nm_of (by omega) (by omega), if_pos ⟨h0, h1⟩]
theorem ag_wr_i {n : Nat} {g : Nat → Int} {x : Int} (y : Int) (hn : n ≤ 1000000) (h0 : 0 ≤ x) (h1 : x < n) : ag_wr n g x y = ag_ui g x.toNat y := by
  unfold ag_wr
  rw [ag_nm_of (by omega) (by omega), if_pos ⟨h0, h1⟩]
theorem ag_wr_hi {n j : Nat} (g : Nat → Int) (i x : Int) (h : n ≤ j) : ag_wr n g i x j = g j := by
  unfold ag_wr
  split
  · unfold ag_ui
    rw [if_neg (by omega)]
  · rfl
/-- where a clause of the bill is read -/
def ag_plc (gb : Nat → Nat → Int) (c : Int) : Nat := (ag_rd 40 (gb 5) c).toNat
/-- the end of its block -/
def ag_edd (gb : Nat → Nat → Int) (n : Nat) (c : Int) : Nat := ag_ff (fun i => decide (ag_rd 40 (gb 2) (ag_rd 40 (gb 6) i) ≤ ag_rd 40 (gb 2) c)) (n - (ag_plc gb c + 1)) (ag_plc gb c + 1)
/-- the end of its train -/
def ag_tra (gb : Nat → Nat → Int) (n : Nat) (c : Int) : Nat := ag_ff (fun i => decide (ag_rd 40 (gb 2) (ag_rd 40 (gb 6) i) ≤ ag_rd 40 (gb 2) c ∧ ¬ (ag_rd 40 (gb 4) (ag_rd 40 (gb 6) i) = c ∧ ag_rd 40 (gb 1) (ag_rd 40 (gb 6) i) = ag_rd 40 (gb 1) c))) (n - ag_edd gb n c) (ag_edd gb n c)
def ag_hun (gb : Nat → Nat → Int) (u : Int) : Int := if ag_nm u = -1 then 0 else ag_rd 40 (gb 2) u + 1
def ag_G3 (gb : Nat → Nat → Int) (w n : Nat) (c x : Int) : Nat → Nat → Int := ag_gi gb w n (ag_tra gb n c) (ag_rd 40 (gb 1) c) x (ag_hun gb (ag_rd 40 (gb 1) c))
def ag_G4 (gb : Nat → Nat → Int) (w n : Nat) (c x : Int) : Nat → Nat → Int := ag_gi gb w n (ag_edd gb n c) c x (ag_hun gb c)
/-- b performed -/
def ag_pfm (gb : Nat → Nat → Int) (w n : Nat) (gp : Nat → Nat → Int) (b : Nat) : ag_T :=
  if gp 0 b = 0 then (ag_gs gb n (ag_plc gb (gp 1 b)) (ag_edd gb n (gp 1 b)), (w, (n - (ag_edd gb n (gp 1 b) - ag_plc gb (gp 1 b)), gp)))
  else if gp 0 b = 1 then (ag_gm gb n (gp 1 b) (gp 2 b) (ag_plc gb (gp 1 b)) (ag_edd gb n (gp 1 b)) (ag_edd gb n (gp 2 b)), (w, (n, gp)))
  else if gp 0 b = 2 then (ag_ug gb 0 (ag_wr 40 (gb 0) (gp 1 b) (gp 2 b)), (w, (n, gp)))
  else if gp 0 b = 3 then (ag_ug (ag_ug (ag_G3 gb w n (gp 1 b) (gp 2 b)) 4 (ag_wr 40 (ag_G3 gb w n (gp 1 b) (gp 2 b) 4) w (gp 1 b))) 3 (ag_wr 40 (ag_G3 gb w n (gp 1 b) (gp 2 b) 3) w b), (w + 1, (n + 1, ag_ug gp 5 (ag_wr 20 (gp 5) b w))))
  else if gp 0 b = 4 then (ag_ug (ag_G4 gb w n (gp 1 b) (gp 2 b)) 3 (ag_wr 40 (ag_G4 gb w n (gp 1 b) (gp 2 b) 3) w b), (w + 1, (n + 1, ag_ug gp 5 (ag_wr 20 (gp 5) b w))))
  else (gb, (w, (n, ag_ug gp 2 (ag_wr 20 (gp 2) (gp 1 b) (gp 2 b)))))
/-- b has passed -/
def ag_psd (gb : Nat → Nat → Int) (w n : Nat) (gp : Nat → Nat → Int) (m b : Nat) : ag_T :=
  ((ag_pfm gb w n gp b).1, ((ag_pfm gb w n gp b).2.1, ((ag_pfm gb w n gp b).2.2.1, ag_spl (ag_pfm gb w n gp b).1 b m m 0 (ag_set (ag_pfm gb w n gp b).2.2.2 b 1 (-1) m))))
def ag_ftb (gb : Nat → Nat → Int) (w n : Nat) (gp : Nat → Nat → Int) (b : Nat) : Int := ag_fit gb w n (gp 0 b) (gp 1 b) (gp 2 b)
def ag_car (gh : Nat → Nat → Int) (np : Nat) (qu b x : Int) : Int := ag_cy (ag_su (fun i => if ag_vo gh b x i = 1 then gh 0 i else 0) np 0) (ag_su (fun i => if ag_vo gh b x i = -1 then gh 0 i else 0) np 0) (ag_su (gh 0) np 0) qu
/-- b, that is laid, put -/
def ag_dec (gh : Nat → Nat → Int) (np : Nat) (qu x : Int) (m : Nat) (S : ag_T) (b : Nat) : ag_T :=
  if ag_ftb S.1 S.2.1 S.2.2.1 S.2.2.2 b = 0 then (S.1, (S.2.1, (S.2.2.1, ag_set S.2.2.2 b 3 b m)))
  else if ag_car gh np qu b x = 0 then (S.1, (S.2.1, (S.2.2.1, ag_set S.2.2.2 b 2 (-1) m)))
  else ag_psd S.1 S.2.1 S.2.2.1 S.2.2.2 m b
/-- at most k put, one behind the other -/
def ag_dal (gh : Nat → Nat → Int) (np : Nat) (qu x : Int) (m : Nat) : Nat → ag_T → ag_T
  | 0, S => S
  | k + 1, S => if ag_nxt S.1 S.2.2.2 m = -1 then S else ag_dal gh np qu x m k (ag_dec gh np qu x m S (ag_nxt S.1 S.2.2.2 m).toNat)
/-! THE INVARIANT. -/
def ag_hg (gb : Nat → Nat → Int) (i : Nat) : Int := gb 2 (gb 6 i).toNat
def ag_pg (gb : Nat → Nat → Int) (i : Nat) : Int := gb 1 (gb 6 i).toNat
def ag_IB (gb : Nat → Nat → Int) (w n : Nat) : Prop :=
  ((∀ k j, 40 ≤ j → gb k j = 0) ∧ ag_sm gb ∧ n ≤ w ∧ w ≤ 40) ∧ (∀ i : Nat, i < n → 0 ≤ gb 6 i ∧ gb 6 i < w ∧ gb 5 (gb 6 i).toNat = i) ∧ (∀ c : Nat, c < w → gb 5 c = -1 ∨ ∃ i : Nat, i < n ∧ gb 5 c = i ∧ gb 6 i = c) ∧ ag_po (ag_hg gb) (ag_pg gb) (gb 6) n
def ag_IP (gb gp : Nat → Nat → Int) (w m : Nat) : Prop :=
  ((∀ k j, 20 ≤ j → gp k j = 0) ∧ ag_sm gp ∧ m ≤ 20) ∧ (∀ c : Nat, c < w → -1 ≤ gb 3 c ∧ gb 3 c < m ∧ gb 4 c = (if 0 ≤ gb 3 c ∧ gp 0 (gb 3 c).toNat = 3 then gp 1 (gb 3 c).toNat else -1)) ∧
  (∀ a : Nat, a < m → (0 ≤ gp 0 a ∧ gp 0 a ≤ 5 ∧ 0 ≤ gp 3 a ∧ gp 3 a ≤ 4) ∧ (gp 0 a = 5 → 0 ≤ gp 1 a ∧ gp 1 a < m ∧ 2 ≤ gp 0 (gp 1 a).toNat ∧ gp 0 (gp 1 a).toNat ≤ 4) ∧ (gp 0 a ≠ 5 → 0 ≤ gp 1 a ∧ gp 1 a < w) ∧ (gp 0 a = 1 → 0 ≤ gp 2 a ∧ gp 2 a < w))
def ag_IH (gb gp : Nat → Nat → Int) (m : Nat) : Prop := ∀ a : Nat, a < m → gp 3 a = 0 → (gp 0 a ≠ 5 → gb 5 (gp 1 a).toNat ≠ -1) ∧ (gp 0 a = 1 → gb 5 (gp 2 a).toNat ≠ -1)
def ag_IV (S : ag_T) (m : Nat) : Prop := ag_IB S.1 S.2.1 S.2.2.1 ∧ ag_IP S.1 S.2.2.2 S.2.1 m ∧ ag_IH S.1 S.2.2.2 m
/-- a clause of the bill has a place -/
theorem ag_IB_at {gb : Nat → Nat → Int} {w n : Nat} (h : ag_IB gb w n) {c : Int} (h0 : 0 ≤ c) (h1 : c < w) (h2 : gb 5 c.toNat ≠ -1) : ∃ p : Nat, p < n ∧ ag_rd 40 (gb 5) c = p ∧ ag_plc gb c = p ∧ gb 6 p = c ∧ ag_rd 40 (gb 2) c = ag_hg gb p := by
  obtain ⟨⟨-, -, -, hw⟩, -, hI, -⟩ := h
  obtain ⟨z, rfl⟩ : ∃ z : Nat, c = z := ⟨c.toNat, by omega⟩
  rcases hI z (by omega) with q | ⟨p, q1, q2, q3⟩
  · exact absurd q h2
  · have e1 : ag_rd 40 (gb 5) z = p := by rw [ag_rd_nat (by decide) (by omega), q2]
    refine ⟨p, q1, e1, ?_, q3, ?_⟩
    · unfold ag_plc
      rw [e1, Int.toNat_natCast]
    · unfold ag_hg
      rw [ag_rd_nat (by decide) (by omega), q3, Int.toNat_natCast]
theorem ag_IB_rd {gb : Nat → Nat → Int} {w n : Nat} (h : ag_IB gb w n) (k : Nat) {i : Nat} (hi : i < n) : ag_rd 40 (gb k) (ag_rd 40 (gb 6) i) = gb k (gb 6 i).toNat := by
  obtain ⟨⟨-, -, hn, hw⟩, hI, -, -⟩ := h
  have := hI i hi
  rw [ag_rd_nat (by decide) (by omega), ag_rd_i (by decide) this.1 (by omega)]
/-- its block -/
theorem ag_IB_blk {gb : Nat → Nat → Int} {w n : Nat} (h : ag_IB gb w n) {c : Int} {p : Nat} (hp : p < n) (h1 : ag_plc gb c = p) (h2 : ag_rd 40 (gb 2) c = ag_hg gb p) : ag_blk (ag_hg gb) n p (ag_edd gb n c) := by
  have a := ag_ff_le (fun i => decide (ag_rd 40 (gb 2) (ag_rd 40 (gb 6) i) ≤ ag_rd 40 (gb 2) c)) (n - (p + 1)) (p + 1)
  have b := ag_ff_no (fun i => decide (ag_rd 40 (gb 2) (ag_rd 40 (gb 6) i) ≤ ag_rd 40 (gb 2) c)) (n - (p + 1)) (p + 1)
  have d := ag_ff_yes (fun i => decide (ag_rd 40 (gb 2) (ag_rd 40 (gb 6) i) ≤ ag_rd 40 (gb 2) c)) (n - (p + 1)) (p + 1)
  unfold ag_edd
  rw [h1]
  generalize ag_ff (fun i => decide (ag_rd 40 (gb 2) (ag_rd 40 (gb 6) i) ≤ ag_rd 40 (gb 2) c)) (n - (p + 1)) (p + 1) = e at a b d
  refine ⟨by omega, by omega, fun k k1 k2 => ?_, fun he => ?_⟩
  · have := b k (by omega) k2
    rw [ag_IB_rd h 2 (by omega), h2] at this
    have := of_decide_eq_false this
    unfold ag_hg at this ⊢
    omega
  · have := d (by omega)
    rw [ag_IB_rd h 2 (by omega), h2] at this
    exact of_decide_eq_true this
theorem ag_IB_inj {gb : Nat → Nat → Int} {w n : Nat} (h : ag_IB gb w n) {i j : Nat} (hi : i < n) (hj : j < n) (e : gb 6 i = gb 6 j) : i = j := by
  have a := (h.2.1 i hi).2.2
  have b := (h.2.1 j hj).2.2
  rw [e, b] at a
  omega
