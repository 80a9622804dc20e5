/-! ROOM: what a row of puts takes, by a potential. -/
def ag_sg (f : Nat → Nat) : Nat → Nat
  | 0 => 0
  | k + 1 => ag_sg f k + f k
theorem ag_sg_le {f g : Nat → Nat} : ∀ k, (∀ i, i < k → f i ≤ g i) → ag_sg f k ≤ ag_sg g k := by
  intro k
  induction k with
  | zero => intro _; exact Nat.le_refl _
  | succ k ih =>
    intro h
    have := ih (fun i hi => h i (by omega))
    have := h k (Nat.lt_succ_self k)
    rw [ag_sg, ag_sg]
    omega
theorem ag_sg_add (f g : Nat → Nat) : ∀ k, ag_sg (fun i => f i + g i) k = ag_sg f k + ag_sg g k := by
  intro k
  induction k with
  | zero => rfl
  | succ k ih => rw [ag_sg, ag_sg, ag_sg, ih]; omega
theorem ag_sg_mul (c : Nat) (f : Nat → Nat) : ∀ k, ag_sg (fun i => c * f i) k = c * ag_sg f k := by
  intro k
  induction k with
  | zero => rfl
  | succ k ih => rw [ag_sg, ag_sg, ih, Nat.mul_add]
theorem ag_sg_const (c : Nat) : ∀ k, ag_sg (fun _ => c) k = c * k := by
  intro k
  induction k with
  | zero => rfl
  | succ k ih => rw [ag_sg, ih, Nat.mul_succ]
theorem ag_sg_cg {f g : Nat → Nat} : ∀ k, (∀ i, i < k → f i = g i) → ag_sg f k = ag_sg g k := by
  intro k h
  exact Nat.le_antisymm (ag_sg_le k fun i hi => Nat.le_of_eq (h i hi)) (ag_sg_le k fun i hi => Nat.le_of_eq (h i hi).symm)
theorem ag_sg_one {f : Nat → Nat} {j : Nat} : ∀ k, j < k → f j ≤ ag_sg f k := by
  intro k
  induction k with
  | zero => intro h; omega
  | succ k ih =>
    intro h
    rw [ag_sg]
    by_cases q : j = k
    · rw [q]; omega
    · have := ih (by omega)
      omega
/-- whether a MOVE to c is laid -/
def ag_mu (gp : Nat → Nat → Int) (m : Nat) (c : Int) : Nat := if ag_ct (fun a => decide (gp 3 a = 0 ∧ gp 0 a = 1 ∧ gp 1 a = c)) m 0 = 0 then 0 else 1
theorem ag_mu_le (gp : Nat → Nat → Int) (m : Nat) (c : Int) : ag_mu gp m c ≤ 1 := by
  unfold ag_mu
  split <;> omega
theorem ag_ct_pos {p : Nat → Bool} : ∀ (k i : Nat), ag_ct p k i ≠ 0 → ∃ j, i ≤ j ∧ j < i + k ∧ p j = true := by
  intro k
  induction k with
  | zero => intro i h; exact absurd rfl h
  | succ k ih =>
    intro i h
    rw [ag_ct] at h
    by_cases q : p i = true
    · exact ⟨i, Nat.le_refl _, by omega, q⟩
    · rw [if_neg q, Nat.zero_add] at h
      obtain ⟨j, a, b, c⟩ := ih (i + 1) h
      exact ⟨j, by omega, by omega, c⟩
theorem ag_mu_0 {gp : Nat → Nat → Int} {m : Nat} {c : Int} (h : ∀ a : Nat, a < m → gp 3 a = 0 → gp 0 a = 1 → gp 1 a ≠ c) : ag_mu gp m c = 0 := by
  unfold ag_mu
  by_cases q : ag_ct (fun a => decide (gp 3 a = 0 ∧ gp 0 a = 1 ∧ gp 1 a = c)) m 0 = 0
  · rw [if_pos q]
  · obtain ⟨j, -, j2, j3⟩ := ag_ct_pos m 0 q
    have := of_decide_eq_true j3
    exact absurd this.2.2 (h j (by omega) this.1 this.2.1)
theorem ag_mu_1 {gp : Nat → Nat → Int} {m b : Nat} (hb : b < m) (h3 : gp 3 b = 0) (h0 : gp 0 b = 1) : ag_mu gp m (gp 1 b) = 1 := by
  unfold ag_mu
  rw [if_neg]
  intro q
  have := ag_ct_0 m 0 q b (Nat.zero_le _) (by omega)
  exact of_decide_eq_false this ⟨h3, h0, rfl⟩
theorem ag_mu_mono {gp gp' : Nat → Nat → Int} {m : Nat} (h3 : ∀ j, gp' 3 j = 0 → gp 3 j = 0) (h0 : gp' 0 = gp 0) (h1 : gp' 1 = gp 1) (c : Int) : ag_mu gp' m c ≤ ag_mu gp m c := by
  unfold ag_mu
  have : ag_ct (fun a => decide (gp' 3 a = 0 ∧ gp' 0 a = 1 ∧ gp' 1 a = c)) m 0 ≤ ag_ct (fun a => decide (gp 3 a = 0 ∧ gp 0 a = 1 ∧ gp 1 a = c)) m 0 := by
    refine ag_ct_mono m 0 (fun j _ _ h => ?_)
    rw [h0, h1] at h
    have := of_decide_eq_true h
    exact decide_eq_true ⟨h3 j this.1, this.2⟩
  split
  · split <;> omega
  · split <;> omega
/-- the weight of x: its own, its parents' -/
def ag_V4 (u : Int → Int) (μ : Int → Nat) (x : Int) : Nat := 8 * μ x + 4 * μ (u x) + 2 * μ (u (u x)) + μ (u (u (u x)))
theorem ag_V4_mono {u : Int → Int} {μ μ' : Int → Nat} (h : ∀ c, μ' c ≤ μ c) (x : Int) : ag_V4 u μ' x ≤ ag_V4 u μ x := by
  have a := h x
  have b := h (u x)
  have c := h (u (u x))
  have d := h (u (u (u x)))
  unfold ag_V4
  omega
theorem ag_V4_out {u u' : Int → Int} {μ μ' : Int → Nat} {c : Int} (h : ∀ c, μ' c ≤ μ c) (hu : ∀ x, x ≠ c → u' x = u x) {x : Int} (h0 : x ≠ c) (h1 : u x ≠ c) (h2 : u (u x) ≠ c) : ag_V4 u' μ' x ≤ ag_V4 u μ x := by
  have e1 : u' x = u x := hu x h0
  have e2 : u' (u x) = u (u x) := hu _ h1
  have e3 : u' (u (u x)) = u (u (u x)) := hu _ h2
  have := ag_V4_mono (u := u) h x
  unfold ag_V4 at this ⊢
  rw [e1, e2, e3]
  exact this
theorem ag_V4_in {u u' : Int → Int} {μ μ' : Int → Nat} {c : Int} (h : ∀ c, μ' c ≤ μ c) (h1 : ∀ c, μ c ≤ 1) (hu : ∀ x, x ≠ c → u' x = u x) (hc : μ c = 1) (hc' : μ' c = 0) {x : Int} (hx : x = c ∨ u x = c ∨ u (u x) = c ∨ u (u (u x)) = c) : ag_V4 u' μ' x + 1 ≤ ag_V4 u μ x := by
  have b : ∀ y, μ' y ≤ 1 := fun y => Nat.le_trans (h y) (h1 y)
  by_cases q0 : x = c
  · have b1 := b (u' x)
    have b2 := b (u' (u' x))
    have b3 := b (u' (u' (u' x)))
    unfold ag_V4
    rw [q0] at b1 b2 b3 ⊢
    rw [hc, hc']
    omega
  · have e1 : u' x = u x := hu x q0
    have a0 := h x
    by_cases q1 : u x = c
    · have b2 := b (u' c)
      have b3 := b (u' (u' c))
      unfold ag_V4
      rw [e1, q1, hc, hc']
      omega
    · have e2 : u' (u x) = u (u x) := hu _ q1
      have a1 := h (u x)
      by_cases q2 : u (u x) = c
      · have b3 := b (u' c)
        unfold ag_V4
        rw [e1, e2, q2, hc, hc']
        omega
      · have e3 : u' (u (u x)) = u (u (u x)) := hu _ q2
        have a2 := h (u (u x))
        have q3 : u (u (u x)) = c := by
          rcases hx with z | z | z | z
          · exact absurd z q0
          · exact absurd z q1
          · exact absurd z q2
          · exact z
        unfold ag_V4
        rw [e1, e2, e3, q3, hc, hc']
        omega
def ag_uu (gb : Nat → Nat → Int) (x : Int) : Int := if 0 ≤ x ∧ x < 40 then gb 1 x.toNat else -1
/-- laid inserts -/
def ag_in9 (gp : Nat → Nat → Int) (m : Nat) : Nat := ag_ct (fun a => decide (gp 3 a = 0 ∧ (gp 0 a = 3 ∨ gp 0 a = 4))) m 0
def ag_mv9 (gp : Nat → Nat → Int) (m : Nat) : Nat := ag_ct (fun a => decide (gp 3 a = 0 ∧ gp 0 a = 1)) m 0
/-- the potential -/
def ag_phi (gb gp : Nat → Nat → Int) (w m : Nat) : Nat := ag_sg (fun x => if gb 5 x = -1 then 0 else ag_V4 (ag_uu gb) (ag_mu gp m) x) w
def ag_psi (S : ag_T) (m : Nat) : Nat := ag_phi S.1 S.2.2.2 S.2.1 m + S.2.2.1 + 9 * ag_in9 S.2.2.2 m
theorem ag_in9_mono {gp gp' : Nat → Nat → Int} {m : Nat} (h3 : ∀ j, gp' 3 j = 0 → gp 3 j = 0) (h0 : gp' 0 = gp 0) : ag_in9 gp' m ≤ ag_in9 gp m := by
  refine ag_ct_mono m 0 (fun j _ _ h => ?_)
  rw [h0] at h
  have := of_decide_eq_true h
  exact decide_eq_true ⟨h3 j this.1, this.2⟩
/-- how many of the clauses are read from p to e -/
theorem ag_sg_blk {gb : Nat → Nat → Int} {w n : Nat} (hB : ag_IB gb w n) (p : Nat) : ∀ e, p ≤ e → e ≤ n → e - p ≤ ag_sg (fun x => if (p : Int) ≤ gb 5 x ∧ gb 5 x < e then 1 else 0) w := by
  intro e
  induction e with
  | zero => intro _ _; omega
  | succ e ih =>
    intro hp he
    by_cases q : p ≤ e
    · have h1 := ih q (by omega)
      have b := hB.2.1 e (by omega)
      have h2 : 1 ≤ ag_sg (fun x => if gb 5 x = e then 1 else 0) w := by
        have := ag_sg_one (f := fun x => if gb 5 x = e then 1 else 0) (j := (gb 6 e).toNat) w (by omega)
        rw [if_pos b.2.2] at this
        exact this
      have h3 : ag_sg (fun x => (if (p : Int) ≤ gb 5 x ∧ gb 5 x < e then 1 else 0) + (if gb 5 x = e then 1 else 0)) w ≤ ag_sg (fun x => if (p : Int) ≤ gb 5 x ∧ gb 5 x < ((e + 1 : Nat) : Int) then 1 else 0) w := by
        refine ag_sg_le w (fun x _ => ?_)
        by_cases q1 : (p : Int) ≤ gb 5 x ∧ gb 5 x < e
        · rw [if_pos q1, if_neg (by omega), if_pos (by omega)]
          omega
        · rw [if_neg q1]
          by_cases q2 : gb 5 x = e
          · rw [if_pos q2, if_pos (by omega)]
            omega
          · rw [if_neg q2]
            omega
      rw [ag_sg_add] at h3
      omega
    · omega
/-- from within a block one comes to its clause -/
theorem ag_up_blk {gb : Nat → Nat → Int} {w n p e : Nat} (hB : ag_IB gb w n) (hb : ag_blk (ag_hg gb) n p e) : ∀ (d i : Nat), p ≤ i → i < e → ag_hg gb i = ag_hg gb p + d → d ≤ 3 → (d = 0 → gb 6 i = gb 6 p) ∧ (d = 1 → ag_uu gb (gb 6 i) = gb 6 p) ∧ (d = 2 → ag_uu gb (ag_uu gb (gb 6 i)) = gb 6 p) ∧ (d = 3 → ag_uu gb (ag_uu gb (ag_uu gb (gb 6 i))) = gb 6 p) := by
  obtain ⟨b1, b2, b3, b4⟩ := hb
  have step : ∀ i, p < i → i < e → ∃ j, p ≤ j ∧ j < i ∧ ag_uu gb (gb 6 i) = gb 6 j ∧ ag_hg gb j + 1 = ag_hg gb i := by
    intro i hi hie
    have hlt := b3 i hi hie
    have hw := hB.1.2.2
    have hr := hB.2.1 i (by omega)
    have e1 : ag_uu gb (gb 6 i) = ag_pg gb i := if_pos ⟨hr.1, by omega⟩
    obtain ⟨-, -, f3⟩ := hB.2.2.2 i (by omega)
    have h0 := (hB.2.2.2 p (by omega)).1
    rcases f3 with ⟨f3, -⟩ | ⟨j, j1, j2, j3, j4⟩
    · omega
    · refine ⟨j, ?_, j1, e1.trans j2, j3⟩
      by_cases hj : p ≤ j
      · exact hj
      · exfalso
        have := j4 p (by omega) hi
        omega
  intro d
  induction d with
  | zero =>
    intro i h1 h2 h3 _
    have : i = p := by
      by_cases q : i = p
      · exact q
      · have := b3 i (by omega) h2
        omega
    exact ⟨fun _ => by rw [this], fun z => by omega, fun z => by omega, fun z => by omega⟩
  | succ d ih =>
    intro i h1 h2 h3 h4
    have hip : p < i := by
      by_cases q : i = p
      · rw [q] at h3
        omega
      · omega
    obtain ⟨j, j1, j2, j3, j4⟩ := step i hip h2
    obtain ⟨k0, k1, k2, k3⟩ := ih j j1 (by omega) (by omega) (by omega)
    refine ⟨fun z => by omega, fun z => ?_, fun z => ?_, fun z => ?_⟩
    · rw [j3]; exact k0 (by omega)
    · rw [j3]; exact k1 (by omega)
    · rw [j3]; exact k2 (by omega)
theorem ag_up_in {gb : Nat → Nat → Int} {w n p e i : Nat} (hB : ag_IB gb w n) (hb : ag_blk (ag_hg gb) n p e) (hi : p ≤ i) (hie : i < e) : gb 6 i = gb 6 p ∨ ag_uu gb (gb 6 i) = gb 6 p ∨ ag_uu gb (ag_uu gb (gb 6 i)) = gb 6 p ∨ ag_uu gb (ag_uu gb (ag_uu gb (gb 6 i))) = gb 6 p := by
  have b2 := hb.2.1
  have d1 := (hB.2.2.2 i (by omega)).1
  have d2 := (hB.2.2.2 i (by omega)).2.1
  have d3 := (hB.2.2.2 p (by omega)).1
  have hle : ag_hg gb p ≤ ag_hg gb i := by
    by_cases q : i = p
    · rw [q]; exact Int.le_refl _
    · have := hb.2.2.1 i (by omega) hie
      omega
  obtain ⟨k0, k1, k2, k3⟩ := ag_up_blk hB hb (ag_hg gb i - ag_hg gb p).toNat i hi hie (by omega) (by omega)
  have hd : (ag_hg gb i - ag_hg gb p).toNat = 0 ∨ (ag_hg gb i - ag_hg gb p).toNat = 1 ∨ (ag_hg gb i - ag_hg gb p).toNat = 2 ∨ (ag_hg gb i - ag_hg gb p).toNat = 3 := by omega
  rcases hd with z | z | z | z
  · exact Or.inl (k0 z)
  · exact Or.inr (Or.inl (k1 z))
  · exact Or.inr (Or.inr (Or.inl (k2 z)))
  · exact Or.inr (Or.inr (Or.inr (k3 z)))
/-- held then is held now -/
theorem ag_IB_back {gb G : Nat → Nat → Int} {w w' n n' : Nat} (hB : ag_IB gb w n) (hG : ag_IB G w' n') (h : ∀ i, i < n' → (∃ j, j < n ∧ G 6 i = gb 6 j) ∨ G 6 i = (w : Nat)) {x : Nat} (hx : x < w) (hxw : x < w') (h5 : G 5 x ≠ -1) : gb 5 x ≠ -1 := by
  rcases hG.2.2.1 x hxw with q | ⟨i, i1, i2, i3⟩
  · exact absurd q h5
  · rcases h i i1 with ⟨j, j1, j2⟩ | j
    · have := (hB.2.1 j j1).2.2
      rw [← j2, i3, Int.toNat_natCast] at this
      omega
    · omega
/-- the parent of what is held -/
theorem ag_uu_held {gb : Nat → Nat → Int} {w n : Nat} (hB : ag_IB gb w n) {x : Int} (h : ∃ i, i < n ∧ gb 6 i = x) : ag_uu gb x = -1 ∨ ∃ i, i < n ∧ gb 6 i = ag_uu gb x := by
  obtain ⟨i, i1, rfl⟩ := h
  have hr := hB.2.1 i i1
  have hw := hB.1.2.2
  have e1 : ag_uu gb (gb 6 i) = ag_pg gb i := if_pos ⟨hr.1, by omega⟩
  rcases (hB.2.2.2 i i1).2.2 with ⟨-, f⟩ | ⟨j, j1, j2, -, -⟩
  · exact Or.inl (e1.trans f)
  · exact Or.inr ⟨j, by omega, by rw [e1]; exact j2.symm⟩
theorem ag_uu_ne {gb : Nat → Nat → Int} {w n : Nat} (hB : ag_IB gb w n) {x : Int} (h : x = -1 ∨ ∃ i, i < n ∧ gb 6 i = x) : x ≠ w ∧ (ag_uu gb x = -1 ∨ ∃ i, i < n ∧ gb 6 i = ag_uu gb x) := by
  rcases h with rfl | h
  · exact ⟨by omega, Or.inl (if_neg (by omega))⟩
  · refine ⟨?_, ag_uu_held hB h⟩
    obtain ⟨i, i1, rfl⟩ := h
    have := hB.2.1 i i1
    omega
theorem ag_phi_ins {gb gp gp' G : Nat → Nat → Int} {w n place : Nat} {above : Int} {m : Nat} (hB : ag_IB gb w n) (hw : w < 40) (hp : place ≤ n) (hG : ag_IB G (w + 1) (n + 1)) (h1 : G 1 = ag_ui (gb 1) w above) (h6 : G 6 = ag_ui (ag_sh (gb 6) place n) place w) (hmu : ∀ c, ag_mu gp' m c ≤ ag_mu gp m c) (hmw : ag_mu gp' m (w : Nat) = 0) : ag_phi G gp' (w + 1) m ≤ ag_phi gb gp w m + 7 := by
  have hu : ∀ x, x ≠ (w : Int) → ag_uu G x = ag_uu gb x := by
    intro x hx
    unfold ag_uu
    rw [h1]
    by_cases z : 0 ≤ x ∧ x < 40
    · rw [if_pos z, if_pos z, ag_ui_ne (by omega)]
    · rw [if_neg z, if_neg z]
  have hrow : ∀ i, i < n + 1 → (∃ j, j < n ∧ G 6 i = gb 6 j) ∨ G 6 i = (w : Nat) := by
    intro i hi
    rw [h6, ag_sh_pin (by omega)]
    unfold ag_pin
    by_cases z1 : i < place
    · rw [if_pos z1]
      exact Or.inl ⟨i, by omega, rfl⟩
    · rw [if_neg z1]
      by_cases z2 : i = place
      · rw [if_pos z2]
        exact Or.inr rfl
      · rw [if_neg z2]
        exact Or.inl ⟨i - 1, by omega, rfl⟩
  have hs : ag_sg (fun x => if G 5 x = -1 then 0 else ag_V4 (ag_uu G) (ag_mu gp' m) x) w ≤ ag_sg (fun x => if gb 5 x = -1 then 0 else ag_V4 (ag_uu gb) (ag_mu gp m) x) w := by
    refine ag_sg_le w (fun x hx => ?_)
    by_cases z : G 5 x = -1
    · rw [if_pos z]
      exact Nat.zero_le _
    · have z2 := ag_IB_back hB hG hrow hx (by omega) z
      rw [if_neg z, if_neg z2]
      have hh := ag_IB_has hB (c := (x : Int)) (by omega) (by omega) (by rw [Int.toNat_natCast]; exact z2)
      obtain ⟨a0, b0⟩ := ag_uu_ne hB (Or.inr hh)
      obtain ⟨a1, b1⟩ := ag_uu_ne hB b0
      obtain ⟨a2, b2⟩ := ag_uu_ne hB b1
      exact ag_V4_out hmu hu a0 a1 a2
  have hv : ag_V4 (ag_uu G) (ag_mu gp' m) (w : Nat) ≤ 7 := by
    have c1 := ag_mu_le gp' m (ag_uu G (w : Nat))
    have c2 := ag_mu_le gp' m (ag_uu G (ag_uu G (w : Nat)))
    have c3 := ag_mu_le gp' m (ag_uu G (ag_uu G (ag_uu G (w : Nat))))
    unfold ag_V4
    rw [hmw]
    omega
  unfold ag_phi
  rw [ag_sg]
  have : (if G 5 w = -1 then 0 else ag_V4 (ag_uu G) (ag_mu gp' m) (w : Nat)) ≤ 7 := by
    split
    · omega
    · exact hv
  omega
theorem ag_in9_less {gp gp' : Nat → Nat → Int} {m b : Nat} (h3 : ∀ j, gp' 3 j = 0 → gp 3 j = 0) (h0 : gp' 0 = gp 0) (hb : b < m) (hl : gp 3 b = 0) (hk : gp 0 b = 3 ∨ gp 0 b = 4) (hn : gp' 3 b ≠ 0) : ag_in9 gp' m < ag_in9 gp m := by
  refine ag_ct_less (b := b) m 0 (fun j _ _ h => ?_) (Nat.zero_le _) (by omega) (decide_eq_true ⟨hl, hk⟩) (decide_eq_false (fun z => hn z.1))
  rw [h0] at h
  have := of_decide_eq_true h
  exact decide_eq_true ⟨h3 j this.1, this.2⟩
theorem ag_psd_room {S : ag_T} {m b : Nat} (hV : ag_IV S m) (hb : b < m) (hl : S.2.2.2 3 b = 0) (hf : ag_ftb S.1 S.2.1 S.2.2.1 S.2.2.2 b ≠ 0) : ag_cst S.1 S.2.2.1 S.2.2.2 b + ag_psi (ag_psd S.1 S.2.1 S.2.2.1 S.2.2.2 m b) m ≤ ag_psi S m := by
  have hm : m ≤ 20 := hV.2.1.1.2.2
  obtain ⟨f1, f2, ⟨f30, f31, f33, f34, f32⟩, -⟩ := ag_pfm_I hV hb hl hf
  obtain ⟨g1, g2⟩ := ag_psd_gp (S := S) hm hb
  have hV2 := (ag_psd_IV hV hb hl hf).1
  have r0 := (ag_psd_IV hV hb hl hf).2.2.1
  have r1 := (ag_psd_IV hV hb hl hf).2.2.2
  have hlaid : ∀ j, (ag_psd S.1 S.2.1 S.2.2.1 S.2.2.2 m b).2.2.2 3 j = 0 → S.2.2.2 3 j = 0 := fun j hj => by
    have := g1.2.1 j hj
    rwa [f33] at this
  have hmu := ag_mu_mono (m := m) hlaid r0 r1
  have hin := ag_in9_mono (m := m) hlaid r0
  have hw := hV.1.1.2.2
  have kb := (hV.2.1.2.2 b hb).1
  have e1 : (ag_psd S.1 S.2.1 S.2.2.1 S.2.2.2 m b).1 = (ag_pfm S.1 S.2.1 S.2.2.1 S.2.2.2 b).1 := rfl
  have e2 : (ag_psd S.1 S.2.1 S.2.2.1 S.2.2.2 m b).2.1 = (ag_pfm S.1 S.2.1 S.2.2.1 S.2.2.2 b).2.1 := rfl
  have e3 : (ag_psd S.1 S.2.1 S.2.2.1 S.2.2.2 m b).2.2.1 = (ag_pfm S.1 S.2.1 S.2.2.1 S.2.2.2 b).2.2.1 := rfl
  have same : ∀ G : Nat → Nat → Int, G 1 = S.1 1 → G 5 = S.1 5 → ag_phi G (ag_psd S.1 S.2.1 S.2.2.1 S.2.2.2 m b).2.2.2 S.2.1 m ≤ ag_phi S.1 S.2.2.2 S.2.1 m := fun G h1 h5 => by
    unfold ag_phi
    refine ag_sg_le _ (fun x _ => ?_)
    have u9 : ag_uu G = ag_uu S.1 := by
      funext x
      unfold ag_uu
      rw [h1]
    rw [h5, u9]
    split
    · exact Nat.le_refl _
    · exact ag_V4_mono hmu _
  have f9 := hf
  unfold ag_ftb at f9
  by_cases k0 : S.2.2.2 0 b = 0
  · obtain ⟨t1, p, p1, p2, p3, p4, p5, p6⟩ := ag_IV_to hV hb hl (by omega)
    obtain ⟨b1, b2, -, -⟩ := ag_IB_blk hV.1 p1 p3 p5
    have c1 : ag_cst S.1 S.2.2.1 S.2.2.2 b = ag_edd S.1 S.2.2.1 (S.2.2.2 1 b) - p := by
      unfold ag_cst
      rw [if_pos (Or.inl k0), p3]
    have q1 : ag_pfm S.1 S.2.1 S.2.2.1 S.2.2.2 b = (ag_gs S.1 S.2.2.1 p (ag_edd S.1 S.2.2.1 (S.2.2.2 1 b)), (S.2.1, (S.2.2.1 - (ag_edd S.1 S.2.2.1 (S.2.2.2 1 b) - p), S.2.2.2))) := by
      unfold ag_pfm
      rw [if_pos k0, p3]
    rw [q1] at f1
    dsimp only at f1
    have u9 : ag_uu (ag_gs S.1 S.2.2.1 p (ag_edd S.1 S.2.2.1 (S.2.2.2 1 b))) = ag_uu S.1 := by
      funext x
      unfold ag_uu
      rw [show ag_gs S.1 S.2.2.1 p (ag_edd S.1 S.2.2.1 (S.2.2.2 1 b)) 1 = S.1 1 by simp [ag_gs, ag_ug]]
    have hs : ag_phi (ag_gs S.1 S.2.2.1 p (ag_edd S.1 S.2.2.1 (S.2.2.2 1 b))) (ag_psd S.1 S.2.1 S.2.2.1 S.2.2.2 m b).2.2.2 S.2.1 m ≤ ag_phi S.1 S.2.2.2 S.2.1 m := by
      unfold ag_phi
      refine ag_sg_le _ (fun x hx => ?_)
      rw [u9]
      by_cases z : ag_gs S.1 S.2.2.1 p (ag_edd S.1 S.2.2.1 (S.2.2.2 1 b)) 5 x = -1
      · rw [if_pos z]
        exact Nat.zero_le _
      · have z2 := ag_IB_back hV.1 f1 (fun i hi => Or.inl ?_) hx hx z
        · rw [if_neg z, if_neg z2]
          exact ag_V4_mono hmu _
        · have e6 : ag_gs S.1 S.2.2.1 p (ag_edd S.1 S.2.2.1 (S.2.2.2 1 b)) 6 = ag_dr (S.1 6) p (ag_edd S.1 S.2.2.1 (S.2.2.2 1 b)) S.2.2.1 := by simp [ag_gs, ag_ug]
          rw [e6, ag_dr_pcu b1 b2 hi]
          unfold ag_pcu
          by_cases y : i < p
          · rw [if_pos y]
            exact ⟨i, by omega, rfl⟩
          · rw [if_neg y]
            exact ⟨_, by omega, rfl⟩
    unfold ag_psi
    rw [e1, e2, e3, q1, c1]
    dsimp only
    omega
  · by_cases k1 : S.2.2.2 0 b = 1
    · obtain ⟨t1, p, p1, p2, p3, p4, p5, p6⟩ := ag_IV_to hV hb hl (by omega)
      obtain ⟨t2, q, q1, q2, q3, q4, q5, q6⟩ := ag_IV_aim hV hb hl k1
      have hblk := ag_IB_blk hV.1 p1 p3 p5
      have hkq := ag_IB_blk hV.1 q1 q3 q5
      rw [k1] at f9
      obtain ⟨fo, -⟩ := ag_fit_1 hV.1 p1 p3 p2 p5 q2 q5 f9
      have hgo := (ag_blk_cut hblk hkq fo).1
      have hblk2 := hblk
      obtain ⟨b1, b2, -, -⟩ := hblk2
      have kq := hkq.2.1
      generalize hC : S.2.2.2 1 b = c at *
      generalize hE : ag_edd S.1 S.2.2.1 c = e at *
      have c1 : ag_cst S.1 S.2.2.1 S.2.2.2 b = e - p := by
        unfold ag_cst
        rw [if_pos (Or.inr k1), hC, p3, hE]
      have z1 : ag_pfm S.1 S.2.1 S.2.2.1 S.2.2.2 b = (ag_gm S.1 S.2.2.1 c (S.2.2.2 2 b) p e (ag_edd S.1 S.2.2.1 (S.2.2.2 2 b)), (S.2.1, (S.2.2.1, S.2.2.2))) := by
        unfold ag_pfm
        rw [if_neg k0, if_pos k1, hC, p3, hE]
      rw [z1] at f1
      dsimp only at f1
      have m1 : ag_gm S.1 S.2.2.1 c (S.2.2.2 2 b) p e (ag_edd S.1 S.2.2.1 (S.2.2.2 2 b)) 1 = ag_wr 40 (S.1 1) c (ag_rd 40 (S.1 1) (S.2.2.2 2 b)) := by simp [ag_gm, ag_ug]
      have u9 : ∀ x, x ≠ c → ag_uu (ag_gm S.1 S.2.2.1 c (S.2.2.2 2 b) p e (ag_edd S.1 S.2.2.1 (S.2.2.2 2 b))) x = ag_uu S.1 x := by
        intro x hx
        unfold ag_uu
        rw [m1, ag_wr_i _ (by decide) t1.1 (by omega)]
        by_cases z : 0 ≤ x ∧ x < 40
        · rw [if_pos z, if_pos z, ag_ui_ne (by omega)]
        · rw [if_neg z, if_neg z]
      have mu1 : ag_mu S.2.2.2 m c = 1 := by rw [← hC]; exact ag_mu_1 hb hl k1
      have mu0 : ag_mu (ag_psd S.1 S.2.1 S.2.2.1 S.2.2.2 m b).2.2.2 m c = 0 := by
        refine ag_mu_0 (fun a ha h3 h0 h1 => ?_)
        have d := ag_spl_done (gb := (ag_pfm S.1 S.2.1 S.2.2.1 S.2.2.2 b).1) (x := b) (m := m) (by omega) hm m 0 (ag_set (ag_pfm S.1 S.2.1 S.2.2.1 S.2.2.2 b).2.2.2 b 1 (-1) m) (by omega) a (Nat.zero_le _) ha h3
        have l2 := (ag_spl_st (gb := (ag_pfm S.1 S.2.1 S.2.2.1 S.2.2.2 b).1) (x := b) (m := m) (by omega) hm m 0 (ag_set (ag_pfm S.1 S.2.1 S.2.2.1 S.2.2.2 b).2.2.2 b 1 (-1) m) (by omega)).2.1 a h3
        rw [r0] at h0
        rw [r1] at h1
        have r : ∀ g : Nat → Int, ag_rd 20 g (a : Int) = g a := fun g => ag_rd_nat (by decide) (by omega)
        have r2 : ∀ g : Nat → Int, ag_rd 20 g (b : Int) = g b := fun g => ag_rd_nat (by decide) (by omega)
        unfold ag_fat at d
        rw [ag_set_k (k := 0) (by decide) (by decide), ag_set_k (k := 1) (by decide) (by decide), ag_set_k (k := 2) (by decide) (by decide)] at d
        simp only [r, r2, l2, f30, f31, h0, h1, k1, hC] at d
        simp at d
      have hs : ag_phi (ag_gm S.1 S.2.2.1 c (S.2.2.2 2 b) p e (ag_edd S.1 S.2.2.1 (S.2.2.2 2 b))) (ag_psd S.1 S.2.1 S.2.2.1 S.2.2.2 m b).2.2.2 S.2.1 m + (e - p) ≤ ag_phi S.1 S.2.2.2 S.2.1 m := by
        have h1 := ag_sg_blk hV.1 p e (by omega) b2
        have h2 : ag_sg (fun x => (if ag_gm S.1 S.2.2.1 c (S.2.2.2 2 b) p e (ag_edd S.1 S.2.2.1 (S.2.2.2 2 b)) 5 x = -1 then 0 else ag_V4 (ag_uu (ag_gm S.1 S.2.2.1 c (S.2.2.2 2 b) p e (ag_edd S.1 S.2.2.1 (S.2.2.2 2 b)))) (ag_mu (ag_psd S.1 S.2.1 S.2.2.1 S.2.2.2 m b).2.2.2 m) x) + (if (p : Int) ≤ S.1 5 x ∧ S.1 5 x < e then 1 else 0)) S.2.1 ≤ ag_phi S.1 S.2.2.2 S.2.1 m := by
          unfold ag_phi
          refine ag_sg_le _ (fun x hx => ?_)
          have vall : ∀ y, ag_V4 (ag_uu (ag_gm S.1 S.2.2.1 c (S.2.2.2 2 b) p e (ag_edd S.1 S.2.2.1 (S.2.2.2 2 b)))) (ag_mu (ag_psd S.1 S.2.1 S.2.2.1 S.2.2.2 m b).2.2.2 m) y ≤ ag_V4 (ag_uu S.1) (ag_mu S.2.2.2 m) y := fun y => by
            by_cases hy : y = c ∨ ag_uu S.1 y = c ∨ ag_uu S.1 (ag_uu S.1 y) = c ∨ ag_uu S.1 (ag_uu S.1 (ag_uu S.1 y)) = c
            · have := ag_V4_in hmu (ag_mu_le S.2.2.2 m) u9 mu1 mu0 hy
              omega
            · exact ag_V4_out hmu u9 (fun z => hy (Or.inl z)) (fun z => hy (Or.inr (Or.inl z))) (fun z => hy (Or.inr (Or.inr (Or.inl z))))
          by_cases zb : (p : Int) ≤ S.1 5 x ∧ S.1 5 x < e
          · rw [if_pos zb, if_neg (show ¬ S.1 5 x = -1 by omega)]
            rcases hV.1.2.2.1 x hx with z | ⟨i, i1, i2, i3⟩
            · omega
            · have hin2 := ag_up_in hV.1 hblk (i := i) (by omega) (by omega)
              rw [i3, p4] at hin2
              have := ag_V4_in hmu (ag_mu_le S.2.2.2 m) u9 mu1 mu0 hin2
              split <;> omega
          · rw [if_neg zb, Nat.add_zero]
            by_cases z : ag_gm S.1 S.2.2.1 c (S.2.2.2 2 b) p e (ag_edd S.1 S.2.2.1 (S.2.2.2 2 b)) 5 x = -1
            · rw [if_pos z]
              exact Nat.zero_le _
            · have z2 := ag_IB_back hV.1 f1 (fun i hi => Or.inl ?_) hx hx z
              · rw [if_neg z, if_neg z2]
                exact vall _
              · rw [ag_gm_6 (by omega) b1 hgo hi, ← ag_sx_bin b1 hgo]
                refine ⟨ag_sx p e (ag_edd S.1 S.2.2.1 (S.2.2.2 2 b)) i, ag_sx_lt b1 b2 kq hgo hi, ?_⟩
                split
                · rename_i y
                  rw [show p + (ag_sx p e (ag_edd S.1 S.2.2.1 (S.2.2.2 2 b)) i - p) = ag_sx p e (ag_edd S.1 S.2.2.1 (S.2.2.2 2 b)) i by omega]
                · rfl
        rw [ag_sg_add] at h2
        unfold ag_phi at h2 ⊢
        omega
      unfold ag_psi
      rw [e1, e2, e3, z1, c1]
      dsimp only
      omega
    · by_cases k34 : S.2.2.2 0 b = 3 ∨ S.2.2.2 0 b = 4
      · obtain ⟨t1, p, p1, p2, p3, p4, p5, p6⟩ := ag_IV_to hV hb hl (by omega)
        obtain ⟨b1, b2, -, -⟩ := ag_IB_blk hV.1 p1 p3 p5
        have c1 : ag_cst S.1 S.2.2.1 S.2.2.2 b = 1 := by
          unfold ag_cst
          rw [if_neg (by omega), if_pos k34]
        have hlt := ag_in9_less (m := m) hlaid r0 hb hl k34 g2
        have mw : ag_mu (ag_psd S.1 S.2.1 S.2.2.1 S.2.2.2 m b).2.2.2 m (S.2.1 : Nat) = 0 := ag_mu_0 (fun a ha _ h0 h1 => by
          rw [r0] at h0
          rw [r1] at h1
          have := (hV.2.1.2.2 a ha).2.2.1 (by omega)
          omega)
        have hw40 : S.2.1 < 40 := by
          unfold ag_fit at f9
          rw [if_neg k1] at f9
          rcases k34 with k3 | k4
          · rw [if_pos k3] at f9
            split at f9
            · exact absurd rfl f9
            · omega
          · rw [if_neg (by omega), if_pos k4] at f9
            split at f9
            · exact absurd rfl f9
            · omega
        have hph : ag_phi (ag_pfm S.1 S.2.1 S.2.2.1 S.2.2.2 b).1 (ag_psd S.1 S.2.1 S.2.2.1 S.2.2.2 m b).2.2.2 (S.2.1 + 1) m ≤ ag_phi S.1 S.2.2.2 S.2.1 m + 7 ∧ (ag_pfm S.1 S.2.1 S.2.2.1 S.2.2.2 b).2.1 = S.2.1 + 1 ∧ (ag_pfm S.1 S.2.1 S.2.2.1 S.2.2.2 b).2.2.1 = S.2.2.1 + 1 := by
          rcases k34 with k3 | k4
          · obtain ⟨x1, x2, x3, x4⟩ := ag_IB_tra hV.1 p1 p3 p4 p5 p6
            have z1 : ag_pfm S.1 S.2.1 S.2.2.1 S.2.2.2 b = (ag_ug (ag_ug (ag_G3 S.1 S.2.1 S.2.2.1 (S.2.2.2 1 b) (S.2.2.2 2 b)) 4 (ag_wr 40 (ag_G3 S.1 S.2.1 S.2.2.1 (S.2.2.2 1 b) (S.2.2.2 2 b) 4) S.2.1 (S.2.2.2 1 b))) 3 (ag_wr 40 (ag_G3 S.1 S.2.1 S.2.2.1 (S.2.2.2 1 b) (S.2.2.2 2 b) 3) S.2.1 b), (S.2.1 + 1, (S.2.2.1 + 1, ag_ug S.2.2.2 5 (ag_wr 20 (S.2.2.2 5) b S.2.1)))) := by
              unfold ag_pfm
              rw [if_neg k0, if_neg k1, if_neg (by omega), if_pos k3]
            rw [z1] at f1 ⊢
            dsimp only at f1 ⊢
            refine ⟨ag_phi_ins (above := ag_rd 40 (S.1 1) (S.2.2.2 1 b)) hV.1 hw40 x2 f1 ?_ ?_ hmu mw, rfl, rfl⟩
            · rw [ag_ug_ne _ _ (by decide), ag_ug_ne _ _ (by decide)]
              exact ag_gi_k.2.2.2.2.1
            · rw [ag_ug_ne _ _ (by decide), ag_ug_ne _ _ (by decide)]
              exact ag_gi_k.2.2.1
          · have z1 : ag_pfm S.1 S.2.1 S.2.2.1 S.2.2.2 b = (ag_ug (ag_G4 S.1 S.2.1 S.2.2.1 (S.2.2.2 1 b) (S.2.2.2 2 b)) 3 (ag_wr 40 (ag_G4 S.1 S.2.1 S.2.2.1 (S.2.2.2 1 b) (S.2.2.2 2 b) 3) S.2.1 b), (S.2.1 + 1, (S.2.2.1 + 1, ag_ug S.2.2.2 5 (ag_wr 20 (S.2.2.2 5) b S.2.1)))) := by
              unfold ag_pfm
              rw [if_neg k0, if_neg k1, if_neg (by omega), if_neg (by omega), if_pos k4]
            rw [z1] at f1 ⊢
            dsimp only at f1 ⊢
            refine ⟨ag_phi_ins (above := S.2.2.2 1 b) hV.1 hw40 b2 f1 ?_ ?_ hmu mw, rfl, rfl⟩
            · rw [ag_ug_ne _ _ (by decide)]
              exact ag_gi_k.2.2.2.2.1
            · rw [ag_ug_ne _ _ (by decide)]
              exact ag_gi_k.2.2.1
        obtain ⟨h1, h2, h3⟩ := hph
        unfold ag_psi
        rw [e1, e2, e3, h2, h3, c1]
        omega
      · have c1 : ag_cst S.1 S.2.2.1 S.2.2.2 b = 0 := by
          unfold ag_cst
          rw [if_neg (by omega), if_neg k34]
        by_cases k2 : S.2.2.2 0 b = 2
        · have z1 : ag_pfm S.1 S.2.1 S.2.2.1 S.2.2.2 b = (ag_ug S.1 0 (ag_wr 40 (S.1 0) (S.2.2.2 1 b) (S.2.2.2 2 b)), (S.2.1, (S.2.2.1, S.2.2.2))) := by
            unfold ag_pfm
            rw [if_neg k0, if_neg k1, if_pos k2]
          have := same (ag_ug S.1 0 (ag_wr 40 (S.1 0) (S.2.2.2 1 b) (S.2.2.2 2 b))) (ag_ug_ne _ _ (by decide)) (ag_ug_ne _ _ (by decide))
          unfold ag_psi
          rw [e1, e2, e3, z1, c1]
          dsimp only
          omega
        · have z1 : ag_pfm S.1 S.2.1 S.2.2.1 S.2.2.2 b = (S.1, (S.2.1, (S.2.2.1, ag_ug S.2.2.2 2 (ag_wr 20 (S.2.2.2 2) (S.2.2.2 1 b) (S.2.2.2 2 b))))) := by
            unfold ag_pfm
            rw [if_neg k0, if_neg k1, if_neg k2, if_neg (by omega), if_neg (by omega)]
          have := same S.1 rfl rfl
          unfold ag_psi
          rw [e1, e2, e3, z1, c1]
          dsimp only
          omega
theorem ag_dec_room {gh : Nat → Nat → Int} {np m b : Nat} {qu x : Int} {S : ag_T} (hV : ag_IV S m) (hb : b < m) (hl : S.2.2.2 3 b = 0) : ag_cpt gh np qu x S b + ag_psi (ag_dec gh np qu x m S b) m ≤ ag_psi S m := by
  have hm : m ≤ 20 := hV.2.1.1.2.2
  have st : ∀ gp', ag_st S.2.2.2 gp' m → ag_psi (S.1, (S.2.1, (S.2.2.1, gp'))) m ≤ ag_psi S m := fun gp' hs => by
    have hmu := ag_mu_mono (m := m) hs.2.1 (hs.1 0 (by decide) (by decide)) (hs.1 1 (by decide) (by decide))
    have hin := ag_in9_mono (m := m) hs.2.1 (hs.1 0 (by decide) (by decide))
    have h2 : ag_phi S.1 gp' S.2.1 m ≤ ag_phi S.1 S.2.2.2 S.2.1 m := by
      unfold ag_phi
      refine ag_sg_le _ (fun x _ => ?_)
      split
      · exact Nat.le_refl _
      · exact ag_V4_mono hmu _
    unfold ag_psi
    dsimp only
    omega
  unfold ag_cpt ag_dec
  by_cases q1 : ag_ftb S.1 S.2.1 S.2.2.1 S.2.2.2 b = 0
  · rw [if_pos q1, if_pos q1, Nat.zero_add]
    exact st _ (ag_set_st (by omega) hm (by omega) (by omega) (by omega) (by omega))
  · rw [if_neg q1, if_neg q1]
    by_cases q2 : ag_car gh np qu b x = 0
    · rw [if_pos q2, if_pos q2, Nat.zero_add]
      exact st _ (ag_set_st (by omega) hm (by omega) (by omega) (by omega) (by omega))
    · rw [if_neg q2, if_neg q2]
      exact ag_psd_room hV hb hl q1
theorem ag_cal_room {gh : Nat → Nat → Int} {np m : Nat} {qu x : Int} : ∀ (k : Nat) (S : ag_T), ag_IV S m → ag_cal gh np qu x m k S ≤ ag_psi S m := by
  intro k
  induction k with
  | zero => intro S _; exact Nat.zero_le _
  | succ k ih =>
    intro S hV
    rw [ag_cal]
    by_cases q : ag_nxt S.1 S.2.2.2 m = -1
    · rw [if_pos q]
      exact Nat.zero_le _
    · rw [if_neg q]
      obtain ⟨b, b1, b2, b3⟩ := ag_nxt_is q
      rw [b2, Int.toNat_natCast]
      have h1 := ag_dec_room (gh := gh) (np := np) (qu := qu) (x := x) hV b1 b3
      have h2 := ih _ (ag_dec_IV (gh := gh) (np := np) (qu := qu) (x := x) hV b1 b3).1
      omega
/-- each laid MOVE is to one clause -/
theorem ag_sg_ct {gp : Nat → Nat → Int} {w : Nat} : ∀ (k i : Nat), ag_sg (fun x => ag_ct (fun a => decide (gp 3 a = 0 ∧ gp 0 a = 1 ∧ gp 1 a = (x : Nat))) k i) w ≤ ag_ct (fun a => decide (gp 3 a = 0 ∧ gp 0 a = 1)) k i := by
  intro k
  induction k with
  | zero =>
    intro i
    have : ag_sg (fun _ => 0) w = 0 * w := ag_sg_const 0 w
    rw [Nat.zero_mul] at this
    exact Nat.le_of_eq this
  | succ k ih =>
    intro i
    have h1 := ih (i + 1)
    have h2 : ag_sg (fun x => ag_ct (fun a => decide (gp 3 a = 0 ∧ gp 0 a = 1 ∧ gp 1 a = (x : Nat))) (k + 1) i) w = ag_sg (fun x => (if decide (gp 3 i = 0 ∧ gp 0 i = 1 ∧ gp 1 i = (x : Nat)) = true then 1 else 0) + ag_ct (fun a => decide (gp 3 a = 0 ∧ gp 0 a = 1 ∧ gp 1 a = (x : Nat))) k (i + 1)) w := rfl
    rw [h2, ag_sg_add, ag_ct]
    have h3 : ∀ W, ag_sg (fun x => if decide (gp 3 i = 0 ∧ gp 0 i = 1 ∧ gp 1 i = (x : Nat)) = true then 1 else 0) W ≤ if decide (gp 3 i = 0 ∧ gp 0 i = 1) = true then 1 else 0 := by
      intro W
      by_cases q : gp 3 i = 0 ∧ gp 0 i = 1
      · rw [if_pos (decide_eq_true q)]
        induction W with
        | zero => exact Nat.zero_le _
        | succ W ihW =>
          rw [ag_sg]
          by_cases q2 : gp 1 i = (W : Nat)
          · have hz : ag_sg (fun x => if decide (gp 3 i = 0 ∧ gp 0 i = 1 ∧ gp 1 i = (x : Nat)) = true then 1 else 0) W = 0 := by
              have := ag_sg_cg (f := fun x => if decide (gp 3 i = 0 ∧ gp 0 i = 1 ∧ gp 1 i = (x : Nat)) = true then 1 else 0) (g := fun _ => 0) W (fun x hx => if_neg (by rw [decide_eq_true_iff]; omega))
              rw [this, ag_sg_const, Nat.zero_mul]
            rw [hz, Nat.zero_add]
            split <;> omega
          · rw [if_neg (by rw [decide_eq_true_iff]; exact fun z => q2 z.2.2), Nat.add_zero]
            exact ihW
      · rw [if_neg (by rw [decide_eq_true_iff]; exact q)]
        have := ag_sg_cg (f := fun x => if decide (gp 3 i = 0 ∧ gp 0 i = 1 ∧ gp 1 i = (x : Nat)) = true then 1 else 0) (g := fun _ => 0) W (fun x hx => if_neg (by rw [decide_eq_true_iff]; exact fun z => q ⟨z.1, z.2.1⟩))
        rw [this, ag_sg_const, Nat.zero_mul]
        exact Nat.le_refl _
    have := h3 w
    omega
theorem ag_psi_le {S : ag_T} {m : Nat} (hV : ag_IV S m) : ag_psi S m ≤ 9 * m + 8 * S.2.1 := by
  have hw := hV.1.1.2.2
  have h1 : ag_phi S.1 S.2.2.2 S.2.1 m ≤ ag_sg (fun x => 8 * ag_mu S.2.2.2 m (x : Nat) + 7) S.2.1 := by
    unfold ag_phi
    refine ag_sg_le _ (fun x _ => ?_)
    have c1 := ag_mu_le S.2.2.2 m (ag_uu S.1 (x : Nat))
    have c2 := ag_mu_le S.2.2.2 m (ag_uu S.1 (ag_uu S.1 (x : Nat)))
    have c3 := ag_mu_le S.2.2.2 m (ag_uu S.1 (ag_uu S.1 (ag_uu S.1 (x : Nat))))
    split
    · exact Nat.zero_le _
    · unfold ag_V4
      omega
  rw [ag_sg_add, ag_sg_mul, ag_sg_const] at h1
  have h2 : ag_sg (fun x => ag_mu S.2.2.2 m (x : Nat)) S.2.1 ≤ ag_mv9 S.2.2.2 m := by
    refine Nat.le_trans (ag_sg_le _ (fun x _ => ?_)) (ag_sg_ct m 0)
    unfold ag_mu
    split
    · exact Nat.zero_le _
    · omega
  have h3 : ag_mv9 S.2.2.2 m + ag_in9 S.2.2.2 m ≤ m := by
    have e := ag_ct_add (p := fun a => decide (S.2.2.2 3 a = 0 ∧ (S.2.2.2 0 a = 1 ∨ S.2.2.2 0 a = 3 ∨ S.2.2.2 0 a = 4))) (q := fun a => decide (S.2.2.2 3 a = 0 ∧ S.2.2.2 0 a = 1)) (r := fun a => decide (S.2.2.2 3 a = 0 ∧ (S.2.2.2 0 a = 3 ∨ S.2.2.2 0 a = 4))) m 0 (fun j _ _ => by
      by_cases a1 : S.2.2.2 3 j = 0 <;> by_cases a2 : S.2.2.2 0 j = 1 <;> by_cases a3 : S.2.2.2 0 j = 3 <;> by_cases a4 : S.2.2.2 0 j = 4 <;> first | (exfalso; omega) | simp [a1, a2, a3, a4])
    have l := ag_ct_le (fun a => decide (S.2.2.2 3 a = 0 ∧ (S.2.2.2 0 a = 1 ∨ S.2.2.2 0 a = 3 ∨ S.2.2.2 0 a = 4))) m 0
    unfold ag_mv9 ag_in9
    omega
  unfold ag_psi
  omega
