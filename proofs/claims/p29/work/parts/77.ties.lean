/-! THE HOUSE TIED to the office's own numbers; what it says of these: isBelow, canDo. -/
variable {B : Nat}
/-- the clauses, and the children of each -/
def ag_TC (gb : Nat → Nat → Int) (w n : Nat) (ln : Nat → Nat) (g : Nat → Nat → Int) : Prop :=
  ln 1 = w ∧ ln 2 = 41 ∧ (∀ c, c < w → ln (100 + c) = 5 ∧ g (100 + c) 0 = gb 0 c ∧ g (100 + c) 1 = gb 1 c ∧ g (100 + c) 2 = gb 2 c ∧ g (100 + c) 3 = gb 3 c ∧ g (100 + c) 4 = (if gb 5 c = -1 then 1 else 0)) ∧ ag_kdo gb n (ag_kds ln g)
def ag_TA (gp : Nat → Nat → Int) (m : Nat) (ln : Nat → Nat) (g : Nat → Nat → Int) : Prop := ln 3 = m ∧ ∀ b, b < m → ln (300 + b) = 6 ∧ ∀ j, j < 6 → g (300 + b) j = gp j b
def ag_TV (gh : Nat → Nat → Int) (m : Nat) (ln : Nat → Nat) (g : Nat → Nat → Int) : Prop := ln 4 = m ∧ ∀ b, b < m → ln (400 + b) = 5 ∧ ∀ p, p < 5 → g (400 + b) p = gh 3 (p * 20 + b)
def ag_TP (gq : Nat → Nat → Int) (nq : Nat) (ln : Nat → Nat) (g : Nat → Nat → Int) : Prop := ln 5 = nq ∧ ∀ p, p < nq → ln (500 + p) = 2 ∧ g (500 + p) 0 = gq 0 p ∧ g (500 + p) 1 = gq 1 p
def ag_TS (gh : Nat → Nat → Int) (np : Nat) (ln : Nat → Nat) (g : Nat → Nat → Int) : Prop := ln 6 = np ∧ ln 7 = np ∧ ln 8 = np ∧ ∀ p, p < np → g 6 p = gh 0 p ∧ g 7 p = gh 1 p ∧ g 8 p = gh 2 p
theorem ag_kds_len (ln : Nat → Nat) (g : Nat → Nat → Int) (k : Nat) : (ag_kds ln g k).length = ln (200 + k) := ag_ls_len _ _
section AGH7
variable {σ : ag_S} {L ln : Nat → Nat} {g : Nat → Nat → Int} {dr qu mi : Int} {gb gp gh gq : Nat → Nat → Int} {w n m np nq : Nat}
theorem ag_c_q (h : ag_HS B σ L ln g dr qu mi) (t : ag_TC gb w n ln g) {c : Nat} (hc : c < w) {x : Int} (hx : x = c) (K : Nat → Prop) : ag_qa σ (L 1) x K = K (L (100 + c)) := ag_h_qa h (r := 1) (by decide) (by decide) (by rw [t.1]; exact hc) hx K
theorem ag_c_lv (t : ag_TC gb w n ln g) {c : Nat} (hc : c < w) : ag_hlv ln (100 + c) := by
  have := t.1
  unfold ag_hlv
  omega
theorem ag_k_lv (t : ag_TC gb w n ln g) {k : Nat} (hk : k ≤ 40) : ag_hlv ln (200 + k) := by
  have := t.2.1
  unfold ag_hlv
  omega
theorem ag_k_q (h : ag_HS B σ L ln g dr qu mi) (t : ag_TC gb w n ln g) {k : Nat} (hk : k ≤ 40) {x : Int} (hx : x = k) (K : Nat → Prop) : ag_qa σ (L 2) x K = K (L (200 + k)) := ag_h_qa h (r := 2) (by decide) (by decide) (by rw [t.2.1]; omega) hx K
theorem ag_k_40 (h : ag_HS B σ L ln g dr qu mi) (t : ag_TC gb w n ln g) (K : Nat → Prop) : ag_qa σ (L 2) 40 K = K (L 240) := ag_k_q h t (Nat.le_refl 40) rfl K
theorem ag_a_lv (t : ag_TA gp m ln g) {b : Nat} (hb : b < m) : ag_hlv ln (300 + b) := by
  have := t.1
  unfold ag_hlv
  omega
theorem ag_a_q (h : ag_HS B σ L ln g dr qu mi) (t : ag_TA gp m ln g) {b : Nat} (hb : b < m) {x : Int} (hx : x = b) (K : Nat → Prop) : ag_qa σ (L 3) x K = K (L (300 + b)) := ag_h_qa h (r := 3) (by decide) (by decide) (by rw [t.1]; exact hb) hx K
theorem ag_v_lv (t : ag_TV gh m ln g) {b : Nat} (hb : b < m) : ag_hlv ln (400 + b) := by
  have := t.1
  unfold ag_hlv
  omega
theorem ag_v_q (h : ag_HS B σ L ln g dr qu mi) (t : ag_TV gh m ln g) {b : Nat} (hb : b < m) {x : Int} (hx : x = b) (K : Nat → Prop) : ag_qa σ (L 4) x K = K (L (400 + b)) := ag_h_qa h (r := 4) (by decide) (by decide) (by rw [t.1]; exact hb) hx K
theorem ag_v_i (h : ag_HS B σ L ln g dr qu mi) (t : ag_TV gh m ln g) {b p : Nat} (hb : b < m) (hp : p < 5) {x : Int} (hx : x = p) (K : Int → Prop) : ag_ia σ (L (400 + b)) x K = K (gh 3 (p * 20 + b)) := by
  have e := t.2 b hb
  rw [ag_h_ia h (ag_v_lv t hb) (k := p) (by omega) (by omega) hx, e.2 p hp]
theorem ag_p_lv (t : ag_TP gq nq ln g) {p : Nat} (hp : p < nq) : ag_hlv ln (500 + p) := by
  have := t.1
  unfold ag_hlv
  omega
theorem ag_p_q (h : ag_HS B σ L ln g dr qu mi) (t : ag_TP gq nq ln g) {p : Nat} (hp : p < nq) {x : Int} (hx : x = p) (K : Nat → Prop) : ag_qa σ (L 5) x K = K (L (500 + p)) := ag_h_qa h (r := 5) (by decide) (by decide) (by rw [t.1]; exact hp) hx K
theorem ag_p_i0 (h : ag_HS B σ L ln g dr qu mi) (t : ag_TP gq nq ln g) {p : Nat} (hp : p < nq) (K : Int → Prop) : ag_ia σ (L (500 + p)) 0 K = K (gq 0 p) := by
  have e := t.2 p hp
  rw [ag_h_ia h (ag_p_lv t hp) (k := 0) (x := 0) (by omega) (by omega) rfl, e.2.1]
theorem ag_s_i6 (h : ag_HS B σ L ln g dr qu mi) (t : ag_TS gh np ln g) (hn : np ≤ 99) {p : Nat} (hp : p < np) {x : Int} (hx : x = p) (K : Int → Prop) : ag_ia σ (L 6) x K = K (gh 0 p) := by
  rw [ag_h_ia h (Or.inl (by decide)) (k := p) (by rw [t.1]; exact hp) (by rw [t.1]; omega) hx, (t.2.2.2 p hp).1]
theorem ag_s_i7 (h : ag_HS B σ L ln g dr qu mi) (t : ag_TS gh np ln g) (hn : np ≤ 99) {p : Nat} (hp : p < np) {x : Int} (hx : x = p) (K : Int → Prop) : ag_ia σ (L 7) x K = K (gh 1 p) := by
  rw [ag_h_ia h (Or.inl (by decide)) (k := p) (by rw [t.2.1]; exact hp) (by rw [t.2.1]; omega) hx, (t.2.2.2 p hp).2.1]
theorem ag_s_i8 (h : ag_HS B σ L ln g dr qu mi) (t : ag_TS gh np ln g) (hn : np ≤ 99) {p : Nat} (hp : p < np) {x : Int} (hx : x = p) (K : Int → Prop) : ag_ia σ (L 8) x K = K (gh 2 p) := by
  rw [ag_h_ia h (Or.inl (by decide)) (k := p) (by rw [t.2.2.1]; exact hp) (by rw [t.2.2.1]; omega) hx, (t.2.2.2 p hp).2.2]
theorem ag_c_i0 (h : ag_HS B σ L ln g dr qu mi) (t : ag_TC gb w n ln g) {c : Nat} (hc : c < w) (K : Int → Prop) : ag_ia σ (L (100 + c)) 0 K = K (gb 0 c) := by
  have e := t.2.2.1 c hc
  rw [ag_h_ia h (ag_c_lv t hc) (k := 0) (x := 0) (by omega) (by omega) rfl, e.2.1]
theorem ag_c_i1 (h : ag_HS B σ L ln g dr qu mi) (t : ag_TC gb w n ln g) {c : Nat} (hc : c < w) (K : Int → Prop) : ag_ia σ (L (100 + c)) 1 K = K (gb 1 c) := by
  have e := t.2.2.1 c hc
  rw [ag_h_ia h (ag_c_lv t hc) (k := 1) (x := 1) (by omega) (by omega) rfl, e.2.2.1]
theorem ag_c_i2 (h : ag_HS B σ L ln g dr qu mi) (t : ag_TC gb w n ln g) {c : Nat} (hc : c < w) (K : Int → Prop) : ag_ia σ (L (100 + c)) 2 K = K (gb 2 c) := by
  have e := t.2.2.1 c hc
  rw [ag_h_ia h (ag_c_lv t hc) (k := 2) (x := 2) (by omega) (by omega) rfl, e.2.2.2.1]
theorem ag_c_i3 (h : ag_HS B σ L ln g dr qu mi) (t : ag_TC gb w n ln g) {c : Nat} (hc : c < w) (K : Int → Prop) : ag_ia σ (L (100 + c)) 3 K = K (gb 3 c) := by
  have e := t.2.2.1 c hc
  rw [ag_h_ia h (ag_c_lv t hc) (k := 3) (x := 3) (by omega) (by omega) rfl, e.2.2.2.2.1]
theorem ag_c_i4 (h : ag_HS B σ L ln g dr qu mi) (t : ag_TC gb w n ln g) {c : Nat} (hc : c < w) (K : Int → Prop) : ag_ia σ (L (100 + c)) 4 K = K ((if gb 5 c = -1 then 1 else 0)) := by
  have e := t.2.2.1 c hc
  rw [ag_h_ia h (ag_c_lv t hc) (k := 4) (x := 4) (by omega) (by omega) rfl, e.2.2.2.2.2]
theorem ag_a_i0 (h : ag_HS B σ L ln g dr qu mi) (t : ag_TA gp m ln g) {b : Nat} (hb : b < m) (K : Int → Prop) : ag_ia σ (L (300 + b)) 0 K = K (gp 0 b) := by
  have e := t.2 b hb
  rw [ag_h_ia h (ag_a_lv t hb) (k := 0) (x := 0) (by omega) (by omega) rfl, e.2 0 (by decide)]
theorem ag_a_i1 (h : ag_HS B σ L ln g dr qu mi) (t : ag_TA gp m ln g) {b : Nat} (hb : b < m) (K : Int → Prop) : ag_ia σ (L (300 + b)) 1 K = K (gp 1 b) := by
  have e := t.2 b hb
  rw [ag_h_ia h (ag_a_lv t hb) (k := 1) (x := 1) (by omega) (by omega) rfl, e.2 1 (by decide)]
theorem ag_a_i2 (h : ag_HS B σ L ln g dr qu mi) (t : ag_TA gp m ln g) {b : Nat} (hb : b < m) (K : Int → Prop) : ag_ia σ (L (300 + b)) 2 K = K (gp 2 b) := by
  have e := t.2 b hb
  rw [ag_h_ia h (ag_a_lv t hb) (k := 2) (x := 2) (by omega) (by omega) rfl, e.2 2 (by decide)]
theorem ag_a_i3 (h : ag_HS B σ L ln g dr qu mi) (t : ag_TA gp m ln g) {b : Nat} (hb : b < m) (K : Int → Prop) : ag_ia σ (L (300 + b)) 3 K = K (gp 3 b) := by
  have e := t.2 b hb
  rw [ag_h_ia h (ag_a_lv t hb) (k := 3) (x := 3) (by omega) (by omega) rfl, e.2 3 (by decide)]
theorem ag_a_i4 (h : ag_HS B σ L ln g dr qu mi) (t : ag_TA gp m ln g) {b : Nat} (hb : b < m) (K : Int → Prop) : ag_ia σ (L (300 + b)) 4 K = K (gp 4 b) := by
  have e := t.2 b hb
  rw [ag_h_ia h (ag_a_lv t hb) (k := 4) (x := 4) (by omega) (by omega) rfl, e.2 4 (by decide)]
theorem ag_a_i5 (h : ag_HS B σ L ln g dr qu mi) (t : ag_TA gp m ln g) {b : Nat} (hb : b < m) (K : Int → Prop) : ag_ia σ (L (300 + b)) 5 K = K (gp 5 b) := by
  have e := t.2 b hb
  rw [ag_h_ia h (ag_a_lv t hb) (k := 5) (x := 5) (by omega) (by omega) rfl, e.2 5 (by decide)]
theorem ag_nm_s {g : Nat → Nat → Int} (h : ag_sm g) (k i : Nat) : ag_nm (g k i) = g k i := ag_nm_of (by have := (h k i).1; omega) (by have := (h k i).2; omega)
/-- whether x is c or below it -/
theorem ag_h_isBelow (h : ag_HS B σ L ln g dr qu mi) (t : ag_TC gb w n ln g) (hB : ag_IB gb w n) {p e q : Nat} (hp : p < n) (hq : q < n) (hb : ag_blk (ag_hg gb) n p e) (K : ag_Rs → ag_S → Prop) :
    ag_cl9 110 [ag_R B, ag_I (gb 6 q), ag_I (gb 6 p)] σ K = K (Sum.inl (some (ag_I (if p ≤ q ∧ q < e then 1 else 0)))) σ := by
  have hs := hB.1.2.1
  have hnm := fun i => ag_nm_s hs 6 i
  have rg := hB.2.1
  have loop : ∀ (k q9 : Nat), q9 ≤ k → q9 < n → ∀ x : Int, ag_wp 110 2 [some (ag_R B), some (ag_I x), some (ag_I (gb 6 p)), some (ag_I (gb 6 q9))] [] σ K = K (Sum.inl (some (ag_I (if p ≤ q9 ∧ q9 < e then 1 else 0)))) σ := by
    intro k
    induction k with
    | zero =>
      intro q9 hk hq9 x
      have hr := rg q9 hq9
      rw [ag_i110_2]
      simp only [ag_i110_3, hnm, ag_nm_z]
      rw [if_neg (show ¬ gb 6 q9 < 0 by omega)]
      simp only [ag_i110_6, ag_i110_7, ag_i110_8, hnm]
      by_cases e9 : gb 6 q9 = gb 6 p
      · have hqp := ag_IB_inj hB hq9 hp e9
        rw [if_neg (show ¬ gb 6 q9 ≠ gb 6 p by simpa using e9), if_pos (show p ≤ q9 ∧ q9 < e by have := hb.1; omega)]
        simp only [ag_i110_11, ag_i110_12, ag_b0, ag_b1, true_and, or_true, true_or, Int.reduceEq, ne_eq, not_false_eq_true, not_true_eq_false, ↓reduceIte]
      · have hqp : q9 ≠ p := fun z => e9 (by rw [z])
        have hpar : gb 1 (gb 6 q9).toNat = -1 := by
          rcases ag_par_ahead hB hq9 with z | ⟨j, j1, -⟩
          · exact z
          · omega
        rw [if_pos (show gb 6 q9 ≠ gb 6 p from e9), if_neg (show ¬ (p ≤ q9 ∧ q9 < e) by omega)]
        simp only [ag_i110_13, ag_i110_14, ag_h_g3 h, ag_i110_17, ag_i110_18, ag_c_q h t (c := (gb 6 q9).toNat) (by omega) (show gb 6 q9 = ((gb 6 q9).toNat : Nat) by omega), ag_i110_19, ag_i110_20, ag_c_i1 h t (c := (gb 6 q9).toNat) (by omega), hpar, ag_i110_21_n, ag_i110_21_i, ag_i110_21_r, ag_i110_22, ag_i110_2, ag_i110_3]
        rw [if_pos (show ag_nm (-1) < ag_nm 0 by decide +kernel)]
        simp only [ag_i110_25, ag_i110_26, ag_b0, ag_b1, true_and, or_true, true_or, Int.reduceEq, ne_eq, not_false_eq_true, not_true_eq_false, ↓reduceIte]
    | succ k ih =>
      intro q9 hk hq9 x
      have hr := rg q9 hq9
      rw [ag_i110_2]
      simp only [ag_i110_3, hnm, ag_nm_z]
      rw [if_neg (show ¬ gb 6 q9 < 0 by omega)]
      simp only [ag_i110_6, ag_i110_7, ag_i110_8, hnm]
      by_cases e9 : gb 6 q9 = gb 6 p
      · have hqp := ag_IB_inj hB hq9 hp e9
        rw [if_neg (show ¬ gb 6 q9 ≠ gb 6 p by simpa using e9), if_pos (show p ≤ q9 ∧ q9 < e by have := hb.1; omega)]
        simp only [ag_i110_11, ag_i110_12, ag_b0, ag_b1, true_and, or_true, true_or, Int.reduceEq, ne_eq, not_false_eq_true, not_true_eq_false, ↓reduceIte]
      · have hqp : q9 ≠ p := fun z => e9 (by rw [z])
        rw [if_pos (show gb 6 q9 ≠ gb 6 p from e9)]
        simp only [ag_i110_13, ag_i110_14, ag_h_g3 h, ag_i110_17, ag_i110_18, ag_c_q h t (c := (gb 6 q9).toNat) (by omega) (show gb 6 q9 = ((gb 6 q9).toNat : Nat) by omega), ag_i110_19, ag_i110_20, ag_c_i1 h t (c := (gb 6 q9).toNat) (by omega), ag_i110_21_n, ag_i110_21_i, ag_i110_21_r, ag_i110_22]
        rcases ag_par_ahead hB hq9 with z | ⟨j, j1, j2⟩
        · have z : gb 1 (gb 6 q9).toNat = -1 := z
          rw [z, ag_i110_2]
          simp only [ag_i110_3]
          rw [if_pos (show ag_nm (-1) < ag_nm 0 by decide +kernel), if_neg (fun y => by
            obtain ⟨i, i1, i2, i3⟩ := ag_blk_par hB hb (show p < q9 by omega) y.2
            have i3 : gb 1 (gb 6 q9).toNat = gb 6 i := i3
            have := (rg i (by omega)).1
            omega)]
          simp only [ag_i110_25, ag_i110_26, ag_b0, ag_b1, true_and, or_true, true_or, Int.reduceEq, ne_eq, not_false_eq_true, not_true_eq_false, ↓reduceIte]
        · have j2 : gb 1 (gb 6 q9).toNat = gb 6 j := j2
          rw [j2, ih j (by omega) (by omega)]
          have e8 : (p ≤ j ∧ j < e) ↔ (p ≤ q9 ∧ q9 < e) := by
            constructor
            · intro y
              rcases Nat.lt_or_ge q9 p with u | u
              · omega
              · refine ⟨u, ?_⟩
                rcases Nat.lt_or_ge q9 e with v | v
                · exact v
                · exact absurd j2 (ag_pg_out hB hb hq9 (Or.inr v) y.1 y.2)
            · intro y
              obtain ⟨i, i1, i2, i3⟩ := ag_blk_par hB hb (show p < q9 by omega) y.2
              have i3 : gb 1 (gb 6 q9).toNat = gb 6 i := i3
              have := ag_IB_inj hB (show i < n by omega) (show j < n by omega) (i3.symm.trans j2)
              omega
          by_cases y : p ≤ j ∧ j < e
          · rw [if_pos y, if_pos (e8.mp y)]
          · rw [if_neg y, if_neg (fun u => y (e8.mpr u))]
  rw [← loop q q (Nat.le_refl _) hq (gb 6 q)]
  simp only [ag_e110, ag_i110_0, ag_i110_1_n, ag_i110_1_i, ag_i110_1_r]
/-- a clause that is held, and its block -/
def ag_hat (gb : Nat → Nat → Int) (w n : Nat) (c : Int) (p e : Nat) : Prop := p < n ∧ gb 6 p = c ∧ ag_rd 40 (gb 5) c = p ∧ ag_plc gb c = p ∧ ag_rd 40 (gb 2) c = ag_hg gb p ∧ ag_blk (ag_hg gb) n p e ∧ e = ag_edd gb n c ∧ 0 ≤ c ∧ c < w
theorem ag_hat_of (hB : ag_IB gb w n) {c : Int} (h0 : 0 ≤ c) (h1 : c < w) (h2 : gb 5 c.toNat ≠ -1) : ∃ p e, ag_hat gb w n c p e := by
  obtain ⟨p, p1, p2, p3, p4, p5⟩ := ag_IB_at hB h0 h1 h2
  exact ⟨p, ag_edd gb n c, p1, p4, p2, p3, p5, ag_IB_blk hB p1 p3 p5, rfl, h0, h1⟩
theorem ag_hi_s (g : Nat → Nat → Int) (k i : Nat) (s : Int) : ag_hi g (k + 1) i s = ag_hi g k (i + 1) (max s (ag_rd 40 (g 2) (ag_rd 40 (g 6) i))) := rfl
/-- whether an amendment of that kind can be done -/
theorem ag_h_canDo (h : ag_HS B σ L ln g dr qu mi) (t : ag_TC gb w n ln g) (hB : ag_IB gb w n) {kind c x : Int} (hk : 0 ≤ kind ∧ kind ≤ 4) {p e : Nat} (hc : ag_hat gb w n c p e) (hx : kind = 1 → ∃ q f, ag_hat gb w n x q f) :
    ∃ σ' : ag_S, (∀ K : ag_Rs → ag_S → Prop, ag_cl9 111 [ag_R B, ag_I kind, ag_I c, ag_I x] σ K = K (Sum.inl (some (ag_I (ag_fit gb w n kind c x)))) σ') ∧ ag_fr σ σ' 400 6500 := by
  have hs := hB.1.2.1
  have hw := hB.1.2.2.2
  have hnw := hB.1.2.2.1
  have hkn : ag_nm kind = kind := ag_nm_of (by omega) (by omega)
  have hwn : ag_nm (w : Int) = w := ag_nm_nat (by omega)
  have h40 : ag_nm 40 = 40 := by decide +kernel
  obtain ⟨p1, p6, p5, p3, p2, pb, pe, c0, c1⟩ := hc
  obtain ⟨z, hz⟩ : ∃ z : Nat, c = z := ⟨c.toNat, by omega⟩
  have hcn : ag_nm c = c := ag_nm_of (by omega) (by omega)
  by_cases k3 : kind = 3
  · refine ⟨σ, fun K => ?_, ag_fr_le (ag_fr_refl σ) (Nat.zero_le _) (Nat.zero_le _)⟩
    simp only [ag_i111_0, ag_i111_1, ag_i111_2, ag_e111, hkn, ag_nmk_3]
    rw [if_neg (show ¬ kind ≠ 3 by omega)]
    simp only [ag_i111_5, ag_i111_6, ag_h_g3 h, ag_i111_9, ag_h_a1 h, t.1, ag_i111_10, ag_i111_12, hwn, h40]
    unfold ag_fit
    rw [if_neg (show ¬ kind = 1 by omega), if_pos k3]
    by_cases q : 40 ≤ (w : Int)
    · rw [if_pos q, if_pos (show 40 ≤ w by omega)]
      simp only [ag_i111_19, ag_i111_20, ag_b0, ag_b1, true_and, or_true, true_or, Int.reduceEq, ne_eq, not_false_eq_true, not_true_eq_false, ↓reduceIte]
    · rw [if_neg q, if_neg (show ¬ 40 ≤ w by omega)]
      simp only [ag_i111_15, ag_i111_16, ag_i111_20, ag_b0, ag_b1, true_and, or_true, true_or, Int.reduceEq, ne_eq, not_false_eq_true, not_true_eq_false, ↓reduceIte]
  · by_cases k4 : kind = 4
    · refine ⟨σ, fun K => ?_, ag_fr_le (ag_fr_refl σ) (Nat.zero_le _) (Nat.zero_le _)⟩
      have e2 : ag_rd 40 (gb 2) c = gb 2 z := by rw [hz]; exact ag_rd_nat (by decide) (by omega)
      simp only [ag_i111_0, ag_i111_1, ag_i111_2, ag_e111, hkn, ag_nmk_3]
      rw [if_pos (show kind ≠ 3 from k3)]
      simp only [ag_i111_21, ag_i111_22, ag_i111_23, hkn, ag_nmk_4]
      rw [if_neg (show ¬ kind ≠ 4 by omega)]
      simp only [ag_i111_26, ag_i111_27, ag_h_g3 h, ag_i111_30, ag_h_a1 h, t.1, ag_i111_31, ag_i111_33, hwn, h40]
      unfold ag_fit
      rw [if_neg (show ¬ kind = 1 by omega), if_neg k3, if_pos k4, hcn, if_neg (show ¬ c = -1 by omega), e2]
      by_cases q : 40 ≤ (w : Int)
      · rw [if_pos q, if_pos (show 40 ≤ w by omega)]
        simp only [ag_i111_52, ag_i111_53, ag_b0, ag_b1, true_and, or_true, true_or, Int.reduceEq, ne_eq, not_false_eq_true, not_true_eq_false, ↓reduceIte]
      · rw [if_neg q, if_neg (show ¬ 40 ≤ w by omega)]
        simp only [ag_i111_36, ag_i111_37, ag_h_g3 h, ag_i111_40, ag_i111_41, ag_c_q h t (c := z) (by omega) hz, ag_i111_42, ag_i111_43, ag_c_i2 h t (c := z) (by omega), ag_i111_44, ag_i111_45, ag_nm_s hs, ag_nmk_3]
        by_cases q2 : 3 ≤ gb 2 z
        · rw [if_pos q2, if_neg (show ¬ gb 2 z + 1 ≤ 3 by omega)]
          simp only [ag_i111_52, ag_i111_53, ag_b0, ag_b1, true_and, or_true, true_or, Int.reduceEq, ne_eq, not_false_eq_true, not_true_eq_false, ↓reduceIte]
        · rw [if_neg q2, if_pos (show gb 2 z + 1 ≤ 3 by omega)]
          simp only [ag_i111_48, ag_i111_49, ag_i111_53, ag_b0, ag_b1, true_and, or_true, true_or, Int.reduceEq, ne_eq, not_false_eq_true, not_true_eq_false, ↓reduceIte]
    · by_cases k1 : kind = 1
      · obtain ⟨q, f, q1, q6, q5, q3, q2, qb, qe, x0, x1⟩ := hx k1
        obtain ⟨y, hy⟩ : ∃ y : Nat, x = y := ⟨x.toNat, by omega⟩
        have eb := fun K => ag_h_isBelow h t hB p1 q1 pb K
        rw [p6, q6] at eb
        have hfit : ag_fit gb w n kind c x = if (q < p ∨ e ≤ q) ∧ ag_hi gb (e - p) p 0 + (ag_hg gb q - ag_hg gb p) ≤ 3 then 1 else 0 := by
          unfold ag_fit
          rw [if_pos k1]
          dsimp only
          have e3 : (ag_rd 40 (gb 5) c).toNat = ag_plc gb c := rfl
          rw [e3]
          have e4 : ag_ff (fun i => decide (ag_rd 40 (gb 2) (ag_rd 40 (gb 6) i) ≤ ag_rd 40 (gb 2) c)) (n - (ag_plc gb c + 1)) (ag_plc gb c + 1) = ag_edd gb n c := rfl
          rw [e4, ← pe, p3, q5, q2, p2]
          by_cases u : (q < p ∨ e ≤ q) ∧ ag_hi gb (e - p) p 0 + (ag_hg gb q - ag_hg gb p) ≤ 3
          · rw [if_pos u, if_pos ⟨by omega, u.2⟩]
          · rw [if_neg u, if_neg (fun v => u ⟨by omega, v.2⟩)]
        have hc2 : gb 2 z = ag_hg gb p := by rw [← p2, hz]; exact (ag_rd_nat (by decide) (by omega)).symm
        have hy2 : gb 2 y = ag_hg gb q := by rw [← q2, hy]; exact (ag_rd_nat (by decide) (by omega)).symm
        by_cases hin : p ≤ q ∧ q < e
        · refine ⟨σ, fun K => ?_, ag_fr_le (ag_fr_refl σ) (Nat.zero_le _) (Nat.zero_le _)⟩
          simp only [ag_i111_0, ag_i111_1, ag_i111_2, ag_e111, hkn, ag_nmk_3]
          rw [if_pos (show kind ≠ 3 from k3)]
          simp only [ag_i111_21, ag_i111_22, ag_i111_23, hkn, ag_nmk_4]
          rw [if_pos (show kind ≠ 4 from k4)]
          simp only [ag_i111_54, ag_i111_55, ag_i111_56, hkn, ag_nm_1]
          rw [if_pos k1]
          simp only [ag_i111_61, ag_i111_62, ag_i111_63, ag_i111_64, ag_h_ck h, eb, ag_kk_v, ag_kk_n, Nat.reduceAdd, ag_i111_67]
          rw [if_pos hin, if_neg (show ¬ ag_nm 1 = ag_nm 0 by decide +kernel), hfit, if_neg (by omega)]
          simp only [ag_i111_70, ag_i111_71, ag_b0, ag_b1, true_and, or_true, true_or, Int.reduceEq, ne_eq, not_false_eq_true, not_true_eq_false, ↓reduceIte]
        · -- all below is looked at
          obtain ⟨r1, r2⟩ := ag_read_below hB t.2.2.2 p1 pb
          have hzz : (gb 6 p).toNat = z := by omega
          rw [hzz] at r1 r2
          have hkl : ln (200 + z) ≤ 40 := by
            have a1 : (ag_kds ln g z).length = ln (200 + z) := ag_kds_len ln g z
            have a2 : (ag_kds ln g z).length ≤ (ag_rdl (ag_kds ln g) 4 (ag_kds ln g z)).length := by
              unfold ag_rdl
              generalize ag_kds ln g z = l9
              induction l9 with
              | nil => exact Nat.zero_le _
              | cons a l9 ihw =>
                rw [List.flatMap_cons, List.length_append, List.length_cons, List.length_cons]
                omega
            have a3 := congrArg List.length r1
            rw [List.length_map, List.length_range'] at a3
            have := pb.2.1
            have := hB.1.2.2.1
            omega
          have hlv := ag_k_lv t (k := z) (by omega)
          have hkz := h.2.2.1 _ hlv
          have hkL := h.2.2.2.2.1 _ (Or.inr hlv)
          obtain ⟨s, l9, f9, σ1, d1, d2, d3, d4, d5, d6, d7⟩ := ag_h_read0 h t.2.1 hkz hkL.2 hkl r2 (by
            have a3 := congrArg List.length r1
            rw [List.length_map, List.length_range'] at a3
            have := pb.2.1
            have := hB.1.2.2.1
            show (ag_rdl (ag_kds ln g) 4 (ag_kds ln g z)).length ≤ 40
            omega)
          have d3 : ag_ls l9 f9 = ag_rdl (ag_kds ln g) 4 (ag_kds ln g z) := d3
          rw [r1] at d3
          have hl9 : l9 = e - (p + 1) := by
            have := congrArg List.length d3
            rw [ag_ls_len, List.length_map, List.length_range'] at this
            exact this
          have hf9 : ∀ i, i < l9 → f9 i = gb 6 (p + 1 + i) := fun i hi => by
            have a1 := ag_ls_get (f := f9) hi
            rw [d3, List.getElem?_map, List.getElem?_range' (by omega)] at a1
            have := Option.some.inj a1
            rw [← this, Nat.one_mul]
          have h1 := ag_HS_fr h d6
          have hen := pb.2.1
          -- the highest
          have loop : ∀ (d i : Nat) (s9 : Int) (x8 : Option ag_V) (K : ag_Rs → ag_S → Prop), i + d = l9 → ag_nm s9 = s9 → ∃ y8 : Option ag_V, ag_wp 111 102 [some (ag_R B), some (ag_I kind), some (ag_I c), some (ag_I x), some (ag_I s9), some (ag_R s), some (ag_I (l9 : Int)), some (ag_I (i : Int)), x8] [] σ1 K = ag_wp 111 138 [some (ag_R B), some (ag_I kind), some (ag_I c), some (ag_I x), some (ag_I (ag_hi gb d (p + 1 + i) s9)), some (ag_R s), some (ag_I (l9 : Int)), some (ag_I (l9 : Int)), y8] [] σ1 K := by
            intro d
            induction d with
            | zero =>
              intro i s9 x8 K hi hs9
              have hil : i = l9 := by omega
              subst hil
              refine ⟨x8, ?_⟩
              rw [ag_i111_102]
              simp only [ag_i111_104, ag_i111_106, ag_nm_nat (show i ≤ 1000000 by omega)]
              rw [if_pos (Int.le_refl _)]
              rfl
            | succ d ih =>
              intro i s9 x8 K hi hs9
              have hr := hB.2.1 (p + 1 + i) (by omega)
              have hgi : ag_rd 40 (gb 2) (ag_rd 40 (gb 6) ((p + 1 + i : Nat) : Int)) = gb 2 (gb 6 (p + 1 + i)).toNat := ag_IB_rd hB 2 (by omega)
              have hmx : (if ag_nm s9 < ag_nm (gb 2 (gb 6 (p + 1 + i)).toNat) then gb 2 (gb 6 (p + 1 + i)).toNat else s9) = max s9 (gb 2 (gb 6 (p + 1 + i)).toNat) := by
                rw [hs9, ag_nm_s hs]
                by_cases u : s9 < gb 2 (gb 6 (p + 1 + i)).toNat
                · rw [if_pos u]; omega
                · rw [if_neg u]; omega
              have hmn : ag_nm (max s9 (gb 2 (gb 6 (p + 1 + i)).toNat)) = max s9 (gb 2 (gb 6 (p + 1 + i)).toNat) := by
                rcases Int.le_total s9 (gb 2 (gb 6 (p + 1 + i)).toNat) with u | u
                · rw [show max s9 (gb 2 (gb 6 (p + 1 + i)).toNat) = gb 2 (gb 6 (p + 1 + i)).toNat by omega]
                  exact ag_nm_s hs _ _
                · rw [show max s9 (gb 2 (gb 6 (p + 1 + i)).toNat) = s9 by omega]
                  exact hs9
              obtain ⟨y8, e8⟩ := ih (i + 1) (max s9 (gb 2 (gb 6 (p + 1 + i)).toNat)) (some (ag_I (gb 6 (p + 1 + i)))) K (by omega) hmn
              refine ⟨y8, ?_⟩
              rw [ag_i111_102]
              simp only [ag_i111_104, ag_i111_106, ag_nm_nat (show i ≤ 1000000 by omega), ag_nm_nat (show l9 ≤ 1000000 by omega)]
              rw [if_neg (show ¬ (l9 : Int) ≤ i by omega)]
              simp only [ag_i111_109, ag_i111_111, ag_i111_113, ag_ia_at d2 (show i < l9 by omega) (show l9 ≤ 1000000 by omega), hf9 i (by omega), ag_i111_114_n, ag_i111_114_i, ag_i111_114_r, ag_i111_116, ag_i111_118, ag_i111_119, ag_h_g3 h1, ag_i111_122, ag_i111_124, ag_c_q h1 t (c := (gb 6 (p + 1 + i)).toNat) (by omega) (show gb 6 (p + 1 + i) = ((gb 6 (p + 1 + i)).toNat : Nat) by omega), ag_i111_125, ag_i111_126, ag_c_i2 h1 t (c := (gb 6 (p + 1 + i)).toNat) (by omega), ag_i111_127, hmx, ag_i111_130_n, ag_i111_130_i, ag_i111_130_r, ag_i111_132_n, ag_i111_132_i, ag_i111_132_r, ag_i111_135]
              rw [ag_hi_s, hgi]
              exact e8
          refine ⟨σ1, fun K => ?_, ag_fr_le d6 (by omega) (by omega)⟩
          obtain ⟨y8, e8⟩ := loop l9 0 (gb 2 z) none K (Nat.zero_add _) (ag_nm_s hs _ _)
          rw [Nat.add_zero] at e8
          have hhi : ag_hi gb l9 (p + 1) (gb 2 z) = ag_hi gb (e - p) p 0 := by
            rw [show e - p = l9 + 1 by have := pb.1; omega, ag_hi_s, ag_IB_rd hB 2 p1, p6]
            have h0 := (hB.2.2.2 p p1).1
            rw [show c.toNat = z by omega, hc2]
            congr 1
            omega
          have hge := (ag_hi_ge (g := gb) (e - p) p 0).1
          have hle : ag_hi gb (e - p) p 0 ≤ 100000 := by
            have : ∀ (k i : Nat) (s9 : Int), s9 ≤ 100000 → i + k ≤ n → ag_hi gb k i s9 ≤ 100000 := by
              intro k
              induction k with
              | zero => intro i s9 h1 _; exact h1
              | succ k ih =>
                intro i s9 h1 h2
                rw [ag_hi_s]
                refine ih _ _ ?_ (by omega)
                rw [ag_IB_rd hB 2 (by omega)]
                have := (hs 2 (gb 6 i).toNat).2
                omega
            exact this _ _ _ (by decide) (by omega)
          have hh1 := (hB.2.2.2 p p1).1
          have hh2 := (hB.2.2.2 q q1).1
          have hh3 := (hB.2.2.2 p p1).2.1
          have hh4 := (hB.2.2.2 q q1).2.1
          simp only [ag_i111_0, ag_i111_1, ag_i111_2, ag_e111, hkn, ag_nmk_3]
          rw [if_pos (show kind ≠ 3 from k3)]
          simp only [ag_i111_21, ag_i111_22, ag_i111_23, hkn, ag_nmk_4]
          rw [if_pos (show kind ≠ 4 from k4)]
          simp only [ag_i111_54, ag_i111_55, ag_i111_56, hkn, ag_nm_1]
          rw [if_pos k1]
          simp only [ag_i111_61, ag_i111_62, ag_i111_63, ag_i111_64, ag_h_ck h, eb, ag_kk_v, ag_kk_n, Nat.reduceAdd, ag_i111_67]
          rw [if_neg hin, if_pos rfl]
          simp only [ag_i111_72, ag_i111_73, ag_h_g3 h, ag_i111_76, ag_i111_77, ag_c_q h t (c := z) (by omega) hz, ag_i111_78, ag_i111_79, ag_c_i2 h t (c := z) (by omega), ag_i111_80_n, ag_i111_80_i, ag_i111_80_r, ag_i111_82, ag_i111_83, ag_i111_84, ag_h_g4 h, ag_i111_87, ag_i111_88, ag_k_q h t (k := z) (by omega) hz, ag_i111_89, ag_h_ck h, d1, ag_kk_v, ag_kk_n, Nat.reduceAdd, ag_i111_92_n, ag_i111_92_i, ag_i111_92_r, ag_i111_94, ag_i111_96, ag_al_at d2, ag_i111_97_n, ag_i111_97_i, ag_i111_97_r, ag_i111_99, ag_i111_100_n, ag_i111_100_i, ag_i111_100_r]
          rw [show (0 : Int) = ((0 : Nat) : Int) from rfl, e8, hhi]
          simp only [ag_i111_138, ag_i111_140, ag_i111_141, ag_h_g3 h1, ag_i111_144, ag_i111_145, ag_c_q h1 t (c := z) (by omega) hz, ag_i111_146, ag_i111_147, ag_c_i2 h1 t (c := z) (by omega), ag_i111_148, ag_i111_149, ag_i111_150, ag_h_g3 h1, ag_i111_153, ag_i111_154, ag_c_q h1 t (c := y) (by omega) hy, ag_i111_155, ag_i111_156, ag_c_i2 h1 t (c := y) (by omega), ag_i111_157, ag_i111_158, ag_i111_159, hc2, hy2, ag_nmk_4]
          rw [ag_nm_of (show -2147483648 ≤ ag_hi gb (e - p) p 0 - ag_hg gb p + ag_hg gb q by omega) (by omega), hfit]
          by_cases u : 4 ≤ ag_hi gb (e - p) p 0 - ag_hg gb p + ag_hg gb q
          · rw [if_pos u, if_neg (by omega)]
            simp only [ag_i111_166, ag_i111_167, ag_b0, ag_b1, true_and, or_true, true_or, Int.reduceEq, ne_eq, not_false_eq_true, not_true_eq_false, ↓reduceIte]
          · rw [if_neg u, if_pos (by omega)]
            simp only [ag_i111_162, ag_i111_163, ag_i111_167, ag_b0, ag_b1, true_and, or_true, true_or, Int.reduceEq, ne_eq, not_false_eq_true, not_true_eq_false, ↓reduceIte]
      · refine ⟨σ, fun K => ?_, ag_fr_le (ag_fr_refl σ) (Nat.zero_le _) (Nat.zero_le _)⟩
        simp only [ag_i111_0, ag_i111_1, ag_i111_2, ag_e111, hkn, ag_nmk_3]
        rw [if_pos (show kind ≠ 3 from k3)]
        simp only [ag_i111_21, ag_i111_22, ag_i111_23, hkn, ag_nmk_4]
        rw [if_pos (show kind ≠ 4 from k4)]
        simp only [ag_i111_54, ag_i111_55, ag_i111_56, hkn, ag_nm_1]
        rw [if_neg k1]
        unfold ag_fit
        rw [if_neg k1, if_neg k3, if_neg k4]
        simp only [ag_i111_59, ag_i111_60, ag_b0, ag_b1, true_and, or_true, true_or, Int.reduceEq, ne_eq, not_false_eq_true, not_true_eq_false, ↓reduceIte]
end AGH7
