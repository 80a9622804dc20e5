/-! OF NUMBERS ALONE, by program out of whole's sources (wip/p29/gen76.py). -/
noncomputable def ag_tdl (t f : Nat → Int) (u : Int) (nq i : Nat) : Nat → Int := fun j => ag_if (j < nq ∧ ∃ s, s < i ∧ f s = t j) u (t j)
noncomputable def ag_tpf (gb : Nat → Nat → Int) (n : Nat) (gp : Nat → Nat → Int) (t : Nat → Int) (nq b : Nat) : Nat → Int :=
  if gp 0 b = 0 then ag_tdl t (fun s => gb 6 (ag_plc gb (gp 1 b) + s)) (ag_rd 40 (gb 1) (gp 1 b)) nq (ag_edd gb n (gp 1 b) - ag_plc gb (gp 1 b)) else t
noncomputable def ag_tpt (gh : Nat → Nat → Int) (np : Nat) (qu x : Int) (S : ag_T) (t : Nat → Int) (nq b : Nat) : Nat → Int :=
  if ag_ftb S.1 S.2.1 S.2.2.1 S.2.2.2 b = 0 then t else if ag_car gh np qu b x = 0 then t else ag_tpf S.1 S.2.2.1 S.2.2.2 t nq b
theorem ag_ff_congr {p q : Nat → Bool} : ∀ (k i : Nat), (∀ j, i ≤ j → j < i + k → p j = q j) → ag_ff p k i = ag_ff q k i := by
  intro k
  induction k with
  | zero => intro i _; rfl
  | succ k ih =>
    intro i h
    rw [ag_ff, ag_ff, h i (Nat.le_refl _) (by omega), ih (i + 1) (fun j a b => h j (by omega) (by omega))]
def ag_fcp (r : Nat → Int) (n : Nat) (c : Int) : Nat := ag_ff (fun k => decide (r k = c)) n 0
def ag_fce (h : Nat → Int) (n p : Nat) : Nat := ag_ff (fun i => decide (h i ≤ h p)) (n - (p + 1)) (p + 1)
theorem ag_ct_add {p q r : Nat → Bool} : ∀ (k i : Nat), (∀ j, i ≤ j → j < i + k → p j = (q j || r j) ∧ (q j && r j) = false) → ag_ct p k i = ag_ct q k i + ag_ct r k i := by
  intro k
  induction k with
  | zero => intro i _; rfl
  | succ k ih =>
    intro i h
    obtain ⟨h1, h2⟩ := h i (Nat.le_refl _) (by omega)
    rw [ag_ct, ag_ct, ag_ct, ih (i + 1) (fun j a b => h j (by omega) (by omega)), h1]
    cases hq : q i <;> cases hr : r i <;> simp [hq, hr] at h2 ⊢ <;> omega
theorem ag_ct_one (b : Nat) : ∀ (k i : Nat), ag_ct (fun j => decide (j = b)) k i = if i ≤ b ∧ b < i + k then 1 else 0 := by
  intro k
  induction k with
  | zero => intro i; rw [if_neg (by omega)]; rfl
  | succ k ih =>
    intro i
    rw [ag_ct, ih (i + 1)]
    by_cases q : i = b
    · rw [if_pos (by simpa using q), if_neg (by omega), if_pos (by omega)]
    · rw [if_neg (by simpa using q)]
      by_cases q2 : i + 1 ≤ b ∧ b < i + 1 + k
      · rw [if_pos q2, if_pos (by omega)]
      · rw [if_neg q2, if_neg (by omega)]
def ag_cch (gp : Nat → Nat → Int) (q : Nat → Int) (b : Int) (k i : Nat) : Nat := ag_ct (fun j => decide (q j = 0 ∧ gp 0 j = 5 ∧ gp 1 j = b)) k i
theorem ag_cnt_set {gp : Nat → Nat → Int} {b m : Nat} {s y : Int} (hm : m ≤ 20) (hb : b < m) (h3 : gp 3 b ≠ 3) : ag_cnt (ag_set gp b s y m) m 3 = ag_cnt gp m 3 + ((if s = 3 then 1 else 0) + ag_cch gp (ag_ui (gp 3) b s) b m 0) := by
  unfold ag_cnt ag_cch
  have e1 : ag_ct (fun i => decide (ag_set gp b s y m 3 i = 3)) m 0 = ag_ct (fun j => decide (ag_ui (gp 3) b s j = 3)) m 0 + ag_ct (fun j => decide (ag_ui (gp 3) b s j = 0 ∧ gp 0 j = 5 ∧ gp 1 j = b)) m 0 := by
    refine ag_ct_add m 0 (fun j _ hj => ?_)
    rw [ag_set_3 (by omega)]
    by_cases c1 : ag_ui (gp 3) b s j = 0 ∧ gp 0 j = 5 ∧ gp 1 j = b
    · rw [if_pos ⟨by omega, c1⟩]
      have c2 : ¬ ag_ui (gp 3) b s j = 3 := by omega
      simp [c1, c2]
    · rw [if_neg (fun z => c1 z.2)]
      simp [c1]
  have e2 : ag_ct (fun j => decide (ag_ui (gp 3) b s j = 3)) m 0 = ag_ct (fun i => decide (gp 3 i = 3)) m 0 + (if s = 3 then 1 else 0) := by
    by_cases q : s = 3
    · rw [if_pos q]
      have := ag_ct_one b m 0
      rw [if_pos (by omega)] at this
      rw [← this]
      refine ag_ct_add m 0 (fun j _ hj => ?_)
      by_cases c : j = b
      · subst c
        rw [ag_ui_eq]
        simp [q, h3]
      · rw [ag_ui_ne c]
        simp [c]
    · rw [if_neg q, Nat.add_zero]
      refine ag_ct_congr m 0 (fun j _ hj => ?_)
      by_cases c : j = b
      · subst c
        rw [ag_ui_eq]
        simp [q, h3]
      · rw [ag_ui_ne c]
  rw [e1, e2]
  omega
theorem ag_IP_no {gb gp : Nat → Nat → Int} {w m : Nat} (hP : ag_IP gb gp w m) : ∀ i : Nat, i < m → gp 0 i = 5 → ∀ j : Nat, j < m → gp 0 j = 5 → gp 1 j ≠ i := by
  intro i hi h5 j hj h5' q
  have := (hP.2.2 j hj).2.1 h5'
  rw [q, Int.toNat_natCast] at this
  omega
def ag_key (gb gp : Nat → Nat → Int) (b : Nat) : Int := 10 * gb 5 (gp 1 b).toNat + gp 0 b
theorem ag_key_lt {S : ag_T} {m b c : Nat} (hV : ag_IV S m) (hb : b < m) (hc : c < m) (b3 : S.2.2.2 3 b = 0) (c3 : S.2.2.2 3 c = 0) (b5 : S.2.2.2 0 b ≠ 5) (c5 : S.2.2.2 0 c ≠ 5) : ag_ahd S.1 S.2.2.2 b c = true ↔ ag_key S.1 S.2.2.2 b < ag_key S.1 S.2.2.2 c := by
  have hm := hV.2.1.1.2.2
  have hw := hV.1.1.2.2
  obtain ⟨t1, p, p1, p2, p3, p4, -, -⟩ := ag_IV_to hV hb b3 b5
  obtain ⟨t2, q, q1, q2, q3, q4, -, -⟩ := ag_IV_to hV hc c3 c5
  have k1 := (hV.2.1.2.2 b hb).1
  have k2 := (hV.2.1.2.2 c hc).1
  have r : ∀ k j, j < m → ag_rd 20 (S.2.2.2 k) (j : Int) = S.2.2.2 k j := fun k j hj => ag_rd_nat (by decide) (by omega)
  have e1 : S.1 5 (S.2.2.2 1 b).toNat = p := by rw [← ag_rd_i (g := S.1 5) (show 40 ≤ 1000000 by decide) t1.1 (by omega), p2]
  have e2 : S.1 5 (S.2.2.2 1 c).toNat = q := by rw [← ag_rd_i (g := S.1 5) (show 40 ≤ 1000000 by decide) t2.1 (by omega), q2]
  unfold ag_ahd ag_key
  rw [decide_eq_true_iff, r 1 b hb, r 1 c hc, r 0 b hb, r 0 c hc, p2, q2, e1, e2]
  omega
theorem ag_ff_skip {p : Nat → Bool} : ∀ (d k i : Nat), (∀ j, i ≤ j → j < i + d → p j = false) → d ≤ k → ag_ff p k i = ag_ff p (k - d) (i + d) := by
  intro d
  induction d with
  | zero => intro k i _ _; rfl
  | succ d ih =>
    intro k i h hk
    obtain ⟨k, rfl⟩ : ∃ z, k = z + 1 := ⟨k - 1, by omega⟩
    rw [ag_ff, if_neg (by rw [h i (Nat.le_refl _) (by omega)]; decide), ih k (i + 1) (fun j a b => h j (by omega) (by omega)) (by omega), show k + 1 - (d + 1) = k - d by omega, show i + 1 + d = i + (d + 1) by omega]
def ag_stp (gb : Nat → Nat → Int) (c : Int) : Nat → Bool := fun i => decide (ag_rd 40 (gb 2) (ag_rd 40 (gb 6) i) ≤ ag_rd 40 (gb 2) c ∧ ¬ (ag_rd 40 (gb 4) (ag_rd 40 (gb 6) i) = c ∧ ag_rd 40 (gb 1) (ag_rd 40 (gb 6) i) = ag_rd 40 (gb 1) c))
theorem ag_ct_pos {p : Nat → Bool} : ∀ (k i : Nat), ag_ct p k i ≠ 0 → ∃ j, i ≤ j ∧ j < i + k ∧ p j = true := by
  intro k
  induction k with
  | zero => intro i h; exact absurd rfl h
  | succ k ih =>
    intro i h
    rw [ag_ct] at h
    by_cases q : p i = true
    · exact ⟨i, Nat.le_refl _, by omega, q⟩
    · rw [if_neg q, Nat.zero_add] at h
      obtain ⟨j, a, b, c⟩ := ih (i + 1) h
      exact ⟨j, by omega, by omega, c⟩
theorem ag_hld_5 {S : ag_T} {m : Nat} (hV : ag_IV S m) {c : Int} (c0 : 0 ≤ c) (c1 : c < S.2.1) : ag_hld S c ↔ S.1 5 c.toNat ≠ -1 := by
  have hw := hV.1.1.2.2
  unfold ag_hld
  rw [ag_nm_of (by omega) (by omega), ag_rd_i (by decide) c0 (by omega)]
  exact ⟨fun z => z.2.2, fun z => ⟨c0, c1, z⟩⟩
def ag_td (q : Nat → Int) (x u : Int) (i : Nat) : Nat → Int := fun j => if j < i ∧ q j = x then u else q j
theorem ag_td_0 (q : Nat → Int) (x u : Int) : ag_td q x u 0 = q := by
  funext j
  unfold ag_td
  rw [if_neg (by omega)]
theorem ag_tdl_0 (t f : Nat → Int) (u : Int) (nq : Nat) : ag_tdl t f u nq 0 = t := by
  funext j
  unfold ag_tdl
  rw [ag_if_f]
  rintro ⟨-, s, hs, -⟩
  omega
theorem ag_tdl_s {t f : Nat → Int} {u : Int} {nq i : Nat} (hu : f i ≠ u) : ag_td (ag_tdl t f u nq i) (f i) u nq = ag_tdl t f u nq (i + 1) := by
  funext j
  unfold ag_td
  by_cases c1 : j < nq
  · by_cases c2 : ∃ s, s < i ∧ f s = t j
    · have e1 : ag_tdl t f u nq i j = u := ag_if_t ⟨c1, c2⟩
      have e2 : ag_tdl t f u nq (i + 1) j = u := by
        obtain ⟨s, s1, s2⟩ := c2
        exact ag_if_t ⟨c1, s, by omega, s2⟩
      rw [e1, e2, if_neg (fun z => hu z.2.symm)]
    · have e1 : ag_tdl t f u nq i j = t j := ag_if_f (fun z => c2 z.2)
      by_cases c3 : t j = f i
      · have e2 : ag_tdl t f u nq (i + 1) j = u := ag_if_t ⟨c1, i, by omega, c3.symm⟩
        rw [e1, e2, if_pos ⟨c1, c3⟩]
      · have e2 : ag_tdl t f u nq (i + 1) j = t j := by
          refine ag_if_f ?_
          rintro ⟨-, s, s1, s2⟩
          by_cases q : s = i
          · exact c3 (by rw [← s2, q])
          · exact c2 ⟨s, by omega, s2⟩
        rw [e1, e2, if_neg (fun z => c3 z.2)]
  · have e1 : ag_tdl t f u nq i j = t j := ag_if_f (fun z => c1 z.1)
    have e2 : ag_tdl t f u nq (i + 1) j = t j := ag_if_f (fun z => c1 z.1)
    rw [e1, e2, if_neg (fun z => c1 z.1)]
theorem ag_tdl_nm {t f : Nat → Int} {u : Int} {nq : Nat} (ht : ∀ j, ag_nm (t j) = t j) (hu : ag_nm u = u) (i : Nat) : ∀ j, ag_nm (ag_tdl t f u nq i j) = ag_tdl t f u nq i j := by
  intro j
  by_cases c : j < nq ∧ ∃ s, s < i ∧ f s = t j
  · have e1 : ag_tdl t f u nq i j = u := ag_if_t c
    rw [e1, hu]
  · have e1 : ag_tdl t f u nq i j = t j := ag_if_f c
    rw [e1, ht]
theorem ag_td_nm {q : Nat → Int} {x u : Int} (hq : ∀ j, ag_nm (q j) = q j) (hu : ag_nm u = u) (i : Nat) : ∀ j, ag_nm (ag_td q x u i j) = ag_td q x u i j := by
  intro j
  unfold ag_td
  split
  · exact hu
  · exact hq j
theorem ag_td_s1 {q : Nat → Int} {x u : Int} {i : Nat} (h : q i = x) : ag_ui (ag_td q x u i) i u = ag_td q x u (i + 1) := by
  funext j
  unfold ag_ui ag_td
  by_cases c : j = i
  · rw [if_pos c, c, if_pos ⟨by omega, h⟩]
  · rw [if_neg c]
    by_cases c2 : j < i ∧ q j = x
    · rw [if_pos c2, if_pos ⟨by omega, c2.2⟩]
    · rw [if_neg c2, if_neg (fun z => c2 ⟨by omega, z.2⟩)]
theorem ag_td_s0 {q : Nat → Int} {x u : Int} {i : Nat} (h : q i ≠ x) : ag_td q x u i = ag_td q x u (i + 1) := by
  funext j
  unfold ag_td
  by_cases c2 : j < i ∧ q j = x
  · rw [if_pos c2, if_pos ⟨by omega, c2.2⟩]
  · rw [if_neg c2]
    by_cases c : j = i
    · rw [c, if_neg (fun z => h z.2)]
    · rw [if_neg (fun z => c2 ⟨by omega, z.2⟩)]
theorem ag_bin_cg {r r' f f' : Nat → Int} {e d n : Nat} (he : e ≤ n) (h1 : ∀ i, i < n → r i = r' i) (h2 : ∀ i, i < d → f i = f' i) {i : Nat} (hi : i < n + d) : ag_bin r e d f i = ag_bin r' e d f' i := by
  unfold ag_bin
  by_cases c1 : i < e
  · rw [if_pos c1, if_pos c1, h1 i (by omega)]
  · rw [if_neg c1, if_neg c1]
    by_cases c2 : i < e + d
    · rw [if_pos c2, if_pos c2, h2 _ (by omega)]
    · rw [if_neg c2, if_neg c2, h1 _ (by omega)]
theorem ag_gm_6 {gb : Nat → Nat → Int} {n p e goal : Nat} {c x : Int} (hn : n ≤ 40) (hpe : p < e) (ho : goal ≤ p ∨ e ≤ goal) {i : Nat} (hi : i < n) : ag_gm gb n c x p e goal 6 i = ag_bin (ag_pcu (gb 6) p e) (if goal ≤ p then goal else goal - (e - p)) (e - p) (fun t => gb 6 (p + t)) i := by
  have e6 : ag_gm gb n c x p e goal 6 = ag_cf (ag_cf (ag_mb (gb 6) p e goal) (gb 7) n) (gb 6) 40 := by simp [ag_gm, ag_ug]
  rw [e6, ← ag_sx_bin hpe ho]
  unfold ag_cf
  rw [if_pos (by omega), if_pos hi, ag_mb_sx]
  split
  · rename_i k
    rw [show p + (ag_sx p e goal i - p) = ag_sx p e goal i by omega]
  · rfl
theorem ag_up4_ok {G : Nat → Nat → Int} {w : Nat} {t : Int} (hw : w ≤ 40) (h : t = -1 ∨ (0 ≤ t ∧ t < w ∧ G 5 t.toNat ≠ -1)) (k : Nat) : ag_up4 G w k t = t := by
  cases k with
  | zero => rfl
  | succ k =>
    rw [ag_up4, if_pos]
    rcases h with h | ⟨h1, h2, h3⟩
    · exact Or.inl h
    · exact Or.inr ⟨h1, h2, by rw [ag_rd_i (by decide) h1 (by omega)]; exact h3⟩
theorem ag_lvs_same {G : Nat → Nat → Int} {w nq : Nat} {q : Nat → Int} (hw : w ≤ 40) (h : ∀ j, j < nq → q j = -1 ∨ (0 ≤ q j ∧ q j < w ∧ G 5 (q j).toNat ≠ -1)) (j : Nat) : ag_lvs G w q nq j = q j := by
  unfold ag_lvs
  by_cases c : j < nq
  · rw [if_pos c]
    exact ag_up4_ok hw (h j c) 4
  · rw [if_neg c]
theorem ag_walk {gb G : Nat → Nat → Int} {w n p e : Nat} {u : Int} (hB : ag_IB gb w n) (hb : ag_blk (ag_hg gb) n p e) (h1 : G 1 = gb 1) (h5 : ∀ i, p ≤ i → i < e → G 5 (gb 6 i).toNat = -1) (hu : ag_pg gb p = u) (hu2 : u = -1 ∨ (0 ≤ u ∧ u < w ∧ G 5 u.toNat ≠ -1)) :
    ∀ (d i k : Nat), p ≤ i → i < e → ag_hg gb i = ag_hg gb p + d → d < k → ag_up4 G w k (gb 6 i) = u := by
  have hw := hB.1.2.2
  obtain ⟨b1, b2, b3, b4⟩ := hb
  have one : ∀ i k, p ≤ i → i < e → ag_up4 G w (k + 1) (gb 6 i) = ag_up4 G w k (ag_pg gb i) := by
    intro i k hi hie
    have hr := hB.2.1 i (by omega)
    have q := h5 i hi hie
    rw [ag_up4, if_neg, h1, ag_rd_i (by decide) hr.1 (by omega)]
    · rfl
    · rintro (z | ⟨-, -, z⟩)
      · omega
      · rw [ag_rd_i (by decide) hr.1 (by omega)] at z
        exact z q
  intro d
  induction d with
  | zero =>
    intro i k hi hie hd hk
    have hip : i = p := by
      by_cases q : i = p
      · exact q
      · have := b3 i (by omega) hie
        omega
    obtain ⟨k', rfl⟩ : ∃ k', k = k' + 1 := ⟨k - 1, by omega⟩
    rw [one i k' hi hie, hip, hu]
    exact ag_up4_ok hw.2 hu2 k'
  | succ d ih =>
    intro i k hi hie hd hk
    have hip : p < i := by
      by_cases q : i = p
      · rw [q] at hd
        omega
      · omega
    obtain ⟨k', rfl⟩ : ∃ k', k = k' + 1 := ⟨k - 1, by omega⟩
    rw [one i k' hi hie]
    have h0 := (hB.2.2.2 p (by omega)).1
    have hlt := b3 i hip hie
    obtain ⟨-, -, f3⟩ := hB.2.2.2 i (by omega)
    rcases f3 with ⟨f3, -⟩ | ⟨j, j1, j2, j3, j4⟩
    · omega
    · have hj : p ≤ j := by
        by_cases q : p ≤ j
        · exact q
        · exfalso
          have := j4 p (by omega) hip
          omega
      rw [j2]
      exact ih j k' hj (by omega) (by omega) (by omega)
theorem ag_gs_hold {gb : Nat → Nat → Int} {w n p e : Nat} (hB : ag_IB gb w n) (hb : ag_blk (ag_hg gb) n p e) : (∀ i, p ≤ i → i < e → ag_gs gb n p e 5 (gb 6 i).toNat = -1) ∧ (∀ i, i < n → (i < p ∨ e ≤ i) → ag_gs gb n p e 5 (gb 6 i).toNat ≠ -1) := by
  have hG := ag_IB_strike hB hb
  obtain ⟨b1, b2, b3, b4⟩ := hb
  have e6 : ag_gs gb n p e 6 = ag_dr (gb 6) p e n := by simp [ag_gs, ag_ug]
  have g6 : ∀ i, i < n - (e - p) → ag_gs gb n p e 6 i = if i < p then gb 6 i else gb 6 (i + (e - p)) := fun i hi => by
    rw [e6, ag_dr_pcu b1 b2 hi]
    rfl
  refine ⟨fun i hi hie => ?_, fun i hi ho => ?_⟩
  · have hr := hB.2.1 i (by omega)
    rcases hG.2.2.1 (gb 6 i).toNat (by omega) with q | ⟨k, k1, k2, k3⟩
    · exact q
    · exfalso
      rw [g6 k k1] at k3
      by_cases c : k < p
      · rw [if_pos c] at k3
        have := ag_IB_inj hB (i := k) (j := i) (by omega) (by omega) (by omega)
        omega
      · rw [if_neg c] at k3
        have := ag_IB_inj hB (i := k + (e - p)) (j := i) (by omega) (by omega) (by omega)
        omega
  · by_cases c : i < p
    · have := hG.2.1 i (by omega)
      rw [g6 i (by omega), if_pos c] at this
      omega
    · have := hG.2.1 (i - (e - p)) (by omega)
      rw [g6 (i - (e - p)) (by omega), if_neg (by omega), show i - (e - p) + (e - p) = i by omega] at this
      omega
theorem ag_pfm_w (gb : Nat → Nat → Int) (w n : Nat) (gp : Nat → Nat → Int) (b : Nat) : w ≤ (ag_pfm gb w n gp b).2.1 := by
  unfold ag_pfm
  split
  · exact Nat.le_refl _
  · split
    · exact Nat.le_refl _
    · split
      · exact Nat.le_refl _
      · split
        · exact Nat.le_succ _
        · split
          · exact Nat.le_succ _
          · exact Nat.le_refl _
theorem ag_ties {gh gq : Nat → Nat → Int} {np nq m b : Nat} {qu x : Int} {S : ag_T} (hV : ag_IV S m) (hb : b < m) (hl : S.2.2.2 3 b = 0) (hQ : ag_QI gq S.1 S.2.1 nq) (j : Nat) :
    ag_lvs (ag_dec gh np qu x m S b).1 (ag_dec gh np qu x m S b).2.1 (gq 0) nq j = ag_tpt gh np qu x S (gq 0) nq b j ∧ (j < nq → (ag_tpt gh np qu x S (gq 0) nq b j = -1 ∨ (0 ≤ ag_tpt gh np qu x S (gq 0) nq b j ∧ ag_tpt gh np qu x S (gq 0) nq b j < (ag_dec gh np qu x m S b).2.1 ∧ (ag_dec gh np qu x m S b).1 5 (ag_tpt gh np qu x S (gq 0) nq b j).toNat ≠ -1))) := by
  have hw := hV.1.1.2.2
  have hB := hV.1
  unfold ag_dec ag_tpt
  by_cases q1 : ag_ftb S.1 S.2.1 S.2.2.1 S.2.2.2 b = 0
  · rw [if_pos q1, if_pos q1]
    exact ⟨ag_lvs_same hw.2 hQ.2.2 j, hQ.2.2 j⟩
  · rw [if_neg q1, if_neg q1]
    by_cases q2 : ag_car gh np qu b x = 0
    · rw [if_pos q2, if_pos q2]
      exact ⟨ag_lvs_same hw.2 hQ.2.2 j, hQ.2.2 j⟩
    · rw [if_neg q2, if_neg q2]
      have hI := ag_pfm_I hV hb hl q1
      have hwp := ag_pfm_w S.1 S.2.1 S.2.2.1 S.2.2.2 b
      unfold ag_psd ag_tpf
      dsimp only
      by_cases k0 : S.2.2.2 0 b = 0
      · rw [if_pos k0]
        unfold ag_pfm
        rw [if_pos k0]
        dsimp only
        obtain ⟨t1, p, p1, p2, p3, p4, p5, p6⟩ := ag_IV_to hV hb hl (by rw [k0]; decide)
        have hbk := ag_IB_blk hB p1 p3 p5
        rw [p3, p6]
        generalize ag_edd S.1 S.2.2.1 (S.2.2.2 1 b) = e at hbk ⊢
        obtain ⟨g1, g2⟩ := ag_gs_hold hB hbk
        have hb1 := hbk.1
        have hb2 := hbk.2.1
        have e1 : ag_gs S.1 S.2.2.1 p e 1 = S.1 1 := by simp [ag_gs, ag_ug]
        have hu2 : ag_pg S.1 p = -1 ∨ (0 ≤ ag_pg S.1 p ∧ ag_pg S.1 p < S.2.1 ∧ ag_gs S.1 S.2.2.1 p e 5 (ag_pg S.1 p).toNat ≠ -1) := by
          rcases (hB.2.2.2 p p1).2.2 with ⟨-, z⟩ | ⟨i, i1, i2, -, -⟩
          · exact Or.inl z
          · have := hB.2.1 i (by omega)
            exact Or.inr ⟨by omega, by omega, by rw [i2]; exact g2 i (by omega) (Or.inl i1)⟩
        unfold ag_lvs
        by_cases c : j < nq
        · rw [if_pos c]
          rcases hQ.2.2 j c with z | ⟨z1, z2, z3⟩
          · have e2 : ag_tdl (gq 0) (fun s => S.1 6 (p + s)) (ag_pg S.1 p) nq (e - p) j = gq 0 j := by
              refine ag_if_f ?_
              rintro ⟨-, s, s1, s2⟩
              have := hB.2.1 (p + s) (by omega)
              have s3 : S.1 6 (p + s) = gq 0 j := s2
              omega
            rw [e2, z]
            exact ⟨ag_up4_ok hw.2 (Or.inl rfl) 4, fun _ => Or.inl rfl⟩
          · obtain ⟨i, i1, i2⟩ := ag_IB_has hB z1 z2 z3
            by_cases ci : p ≤ i ∧ i < e
            · have e2 : ag_tdl (gq 0) (fun s => S.1 6 (p + s)) (ag_pg S.1 p) nq (e - p) j = ag_pg S.1 p := ag_if_t ⟨c, i - p, by omega, by dsimp only; rw [show p + (i - p) = i by omega, i2]⟩
              rw [e2, ← i2]
              have d1 := hB.2.2.2 i (by omega)
              have d2 := (hB.2.2.2 p (by omega)).1
              have hle : ag_hg S.1 p ≤ ag_hg S.1 i := by
                by_cases q : i = p
                · rw [q]; exact Int.le_refl _
                · have := hbk.2.2.1 i (by omega) ci.2
                  omega
              exact ⟨ag_walk hB hbk e1 g1 rfl hu2 (ag_hg S.1 i - ag_hg S.1 p).toNat i 4 ci.1 ci.2 (by omega) (by omega), fun _ => hu2⟩
            · have e2 : ag_tdl (gq 0) (fun s => S.1 6 (p + s)) (ag_pg S.1 p) nq (e - p) j = gq 0 j := by
                refine ag_if_f ?_
                rintro ⟨-, s, s1, s2⟩
                have := ag_IB_inj hB (i := p + s) (j := i) (by omega) i1 (by rw [i2]; exact s2)
                omega
              have hh : gq 0 j = -1 ∨ (0 ≤ gq 0 j ∧ gq 0 j < S.2.1 ∧ ag_gs S.1 S.2.2.1 p e 5 (gq 0 j).toNat ≠ -1) := Or.inr ⟨z1, z2, by rw [← i2]; exact g2 i i1 (by omega)⟩
              rw [e2]
              exact ⟨ag_up4_ok hw.2 hh 4, fun _ => hh⟩
        · rw [if_neg c]
          have e2 : ag_tdl (gq 0) (fun s => S.1 6 (p + s)) (ag_pg S.1 p) nq (e - p) j = gq 0 j := ag_if_f (fun z => c z.1)
          exact ⟨e2.symm, fun z => absurd z c⟩
      · rw [if_neg k0]
        have hh : ∀ j, j < nq → gq 0 j = -1 ∨ (0 ≤ gq 0 j ∧ gq 0 j < (ag_pfm S.1 S.2.1 S.2.2.1 S.2.2.2 b).2.1 ∧ (ag_pfm S.1 S.2.1 S.2.2.1 S.2.2.2 b).1 5 (gq 0 j).toNat ≠ -1) := by
          intro j hj
          rcases hQ.2.2 j hj with z | ⟨z1, z2, z3⟩
          · exact Or.inl z
          · exact Or.inr ⟨z1, by omega, hI.2.2.2 k0 _ z1 z2 z3⟩
        exact ⟨ag_lvs_same hI.1.1.2.2.2 hh j, hh j⟩
theorem ag_ties_fn {gh gq : Nat → Nat → Int} {np nq m b : Nat} {qu x : Int} {S : ag_T} (hV : ag_IV S m) (hb : b < m) (hl : S.2.2.2 3 b = 0) (hQ : ag_QI gq S.1 S.2.1 nq) :
    ag_lvs (ag_dec gh np qu x m S b).1 (ag_dec gh np qu x m S b).2.1 (gq 0) nq = ag_tpt gh np qu x S (gq 0) nq b := funext (fun j => (ag_ties hV hb hl hQ j).1)
theorem ag_ties_QI {gh gq : Nat → Nat → Int} {np nq m b : Nat} {qu x : Int} {S : ag_T} (hV : ag_IV S m) (hb : b < m) (hl : S.2.2.2 3 b = 0) (hQ : ag_QI gq S.1 S.2.1 nq) :
    ag_QI (ag_ug gq 0 (ag_tpt gh np qu x S (gq 0) nq b)) (ag_dec gh np qu x m S b).1 (ag_dec gh np qu x m S b).2.1 nq := by
  have hw := (ag_dec_IV (gh := gh) (np := np) (qu := qu) (x := x) hV hb hl).1.1.1.2.2
  refine ⟨fun k j => ?_, hQ.2.1, fun p hp => ?_⟩
  · by_cases c : k = 0
    · rw [c, ag_ug_same]
      by_cases cj : j < nq
      · rcases (ag_ties (gh := gh) (np := np) (qu := qu) (x := x) hV hb hl hQ j).2 cj with z | ⟨z1, z2, -⟩ <;> omega
      · rw [← (ag_ties (gh := gh) (np := np) (qu := qu) (x := x) hV hb hl hQ j).1]
        unfold ag_lvs
        rw [if_neg cj]
        exact hQ.1 0 j
    · rw [ag_ug_ne _ _ c]
      exact hQ.1 k j
  · rw [ag_ug_same]
    exact (ag_ties hV hb hl hQ p).2 hp
theorem ag_sm_ug9 {g : Nat → Nat → Int} {k : Nat} {x : Nat → Int} (hs : ag_sm g) (hx : ∀ j, -100000 ≤ x j ∧ x j ≤ 100000) : ag_sm (ag_ug g k x) := fun i j => by
  by_cases c : i = k
  · rw [c, ag_ug_same]
    exact hx j
  · rw [ag_ug_ne _ _ c]
    exact hs i j
theorem ag_ui_eq9 (g : Nat → Int) (i : Nat) (x : Int) : ag_ui g i x i = x := if_pos rfl
theorem ag_IV_ins {S : ag_T} {place : Nat} {u x : Int} (hV : ag_IV S 0) (hw : S.2.1 < 40) (hp : place ≤ S.2.2.1) (hu0 : 0 ≤ ag_hun S.1 u) (hu3 : ag_hun S.1 u ≤ 3) (x1 : -100000 ≤ x) (x2 : x ≤ 100000) (y1 : -100000 ≤ u) (y2 : u ≤ 100000)
    (hlast : place < S.2.2.1 → ag_hg S.1 place ≤ ag_hun S.1 u) (hnew : (ag_hun S.1 u = 0 ∧ u = -1) ∨ ∃ j, j < place ∧ u = S.1 6 j ∧ ag_hg S.1 j + 1 = ag_hun S.1 u ∧ ∀ k, j < k → k < place → ag_hun S.1 u ≤ ag_hg S.1 k) :
    ag_IV (ag_gi S.1 S.2.1 S.2.2.1 place u x (ag_hun S.1 u), (S.2.1 + 1, (S.2.2.1 + 1, S.2.2.2))) 0 := by
  obtain ⟨hB, hP, hH⟩ := hV
  refine ⟨ag_IB_insert hB hw hp hu0 hu3 x1 x2 y1 y2 hlast hnew, ⟨hP.1, fun c hc => ?_, fun a ha => absurd ha (Nat.not_lt_zero a)⟩, fun a ha => absurd ha (Nat.not_lt_zero a)⟩
  obtain ⟨q3, q4, -⟩ := ag_gi_k (gb := S.1) (w := S.2.1) (n := S.2.2.1) (place := place) (above := u) (words := x) (hu := ag_hun S.1 u)
  dsimp only at hc ⊢
  have e34 : ag_gi S.1 S.2.1 S.2.2.1 place u x (ag_hun S.1 u) 3 c = -1 ∧ ag_gi S.1 S.2.1 S.2.2.1 place u x (ag_hun S.1 u) 4 c = -1 := by
    rw [q3, q4]
    by_cases c1 : c = S.2.1
    · rw [c1, ag_ui_eq9, ag_ui_eq9]
      exact ⟨rfl, rfl⟩
    · rw [ag_ui_ne c1, ag_ui_ne c1]
      obtain ⟨r1, r2, r3⟩ := hP.2.1 c (by omega)
      have r4 : S.1 3 c = -1 := by omega
      refine ⟨r4, r3.trans (if_neg (fun z => ?_))⟩
      have := z.1
      omega
  obtain ⟨e3, e4⟩ := e34
  refine ⟨by rw [e3]; decide, by rw [e3]; decide, e4.trans (Eq.symm (if_neg (fun z => ?_)))⟩
  have := z.1
  omega
theorem ag_IV_cl3 {S : ag_T} {x : Int} (hV : ag_IV S 0) (hw : S.2.1 < 40) (hx : ag_tx x) (hxn : ag_nm x = x) : ag_IV (ag_gi S.1 S.2.1 S.2.2.1 S.2.2.1 (-1) x (ag_hun S.1 (-1)), (S.2.1 + 1, (S.2.2.1 + 1, S.2.2.2))) 0 := by
  have e : ag_hun S.1 (-1) = 0 := by
    unfold ag_hun
    rw [if_pos ag_nm_m]
  unfold ag_tx at hx
  rw [hxn] at hx
  exact ag_IV_ins hV hw (Nat.le_refl _) (by rw [e]; decide) (by rw [e]; decide) (by omega) (by omega) (by decide) (by decide) (fun z => absurd z (Nat.lt_irrefl _)) (Or.inl ⟨e, rfl⟩)
theorem ag_IB_hg {gb : Nat → Nat → Int} {w n i : Nat} (h : ag_IB gb w n) (hi : i < n) : 0 ≤ ag_hg gb i ∧ ag_hg gb i ≤ 3 := ⟨(h.2.2.2 i hi).1, (h.2.2.2 i hi).2.1⟩
theorem ag_IV_cl4 {S : ag_T} {p x : Int} (hV : ag_IV S 0) (hp : ag_nm p = p) (h1 : ¬ p = -1) (h9 : ag_hld S p) (hw : S.2.1 < 40) (h4 : ag_hun S.1 p ≤ 3) (hx : ag_tx x) (hxn : ag_nm x = x) : ag_IV (ag_gi S.1 S.2.1 S.2.2.1 (ag_edd S.1 S.2.2.1 p) p x (ag_hun S.1 p), (S.2.1 + 1, (S.2.2.1 + 1, S.2.2.2))) 0 := by
  obtain ⟨⟨a1, a2, -⟩, i, i1, i2, i3, i4, i5⟩ := ag_hld_p hV hp h9
  obtain ⟨b1, b2, b3, b4⟩ := ag_IB_blk hV.1 i1 i3 i5
  have hg := ag_IB_hg hV.1 i1
  have eu : ag_hun S.1 p = ag_hg S.1 i + 1 := by
    unfold ag_hun
    rw [if_neg (by rw [hp]; exact h1), i5]
  unfold ag_tx at hx
  rw [hxn] at hx
  refine ag_IV_ins hV hw b2 (by omega) h4 (by omega) (by omega) (by omega) (by omega) (fun z => ?_) (Or.inr ⟨i, b1, i4.symm, eu.symm, fun k k1 k2 => ?_⟩)
  · have := b4 z
    omega
  · have := b3 k k1 k2
    omega
theorem ag_QI_ins {gq : Nat → Nat → Int} {nq : Nat} {S : ag_T} {place : Nat} {u x h : Int} {m : Nat} (hV : ag_IV S m) (hQ : ag_QI gq S.1 S.2.1 nq) (hp : place ≤ S.2.2.1) (hI : ag_IB (ag_gi S.1 S.2.1 S.2.2.1 place u x h) (S.2.1 + 1) (S.2.2.1 + 1)) : ag_QI gq (ag_gi S.1 S.2.1 S.2.2.1 place u x h) (S.2.1 + 1) nq := by
  refine ⟨hQ.1, hQ.2.1, fun p hp2 => ?_⟩
  rcases hQ.2.2 p hp2 with z | ⟨z1, z2, z3⟩
  · exact Or.inl z
  · exact Or.inr ⟨z1, by omega, ag_IB_held hI (ag_gi_has hp (ag_IB_has hV.1 z1 z2 z3))⟩
theorem ag_IV_adp {S : ag_T} {m : Nat} {k t o : Int} (hV : ag_IV S m) (hm : m < 20) (hk : 0 ≤ k ∧ k ≤ 5) (ho : -100000 ≤ o ∧ o ≤ 100000) (h5 : k = 5 → 0 ≤ t ∧ t < m ∧ 2 ≤ S.2.2.2 0 t.toNat ∧ S.2.2.2 0 t.toNat ≤ 4) (h1 : k ≠ 5 → 0 ≤ t ∧ t < S.2.1 ∧ S.1 5 t.toNat ≠ -1) (h2 : k = 1 → 0 ≤ o ∧ o < S.2.1 ∧ S.1 5 o.toNat ≠ -1) :
    ag_IV (S.1, (S.2.1, (S.2.2.1, ag_adp S.2.2.2 m k t o))) (m + 1) := by
  obtain ⟨hB, hP, hH⟩ := hV
  have hw := hB.1.2.2
  have ht : 0 ≤ t ∧ t < 40 := by
    by_cases c : k = 5
    · have := h5 c; omega
    · have := h1 c; omega
  have r0 : ag_adp S.2.2.2 m k t o 0 = ag_ui (S.2.2.2 0) m k := by simp [ag_adp, ag_ug]
  have r1 : ag_adp S.2.2.2 m k t o 1 = ag_ui (S.2.2.2 1) m t := by simp [ag_adp, ag_ug]
  have r2 : ag_adp S.2.2.2 m k t o 2 = ag_ui (S.2.2.2 2) m o := by simp [ag_adp, ag_ug]
  have r3 : ag_adp S.2.2.2 m k t o 3 = ag_ui (S.2.2.2 3) m 0 := by simp [ag_adp, ag_ug]
  have r4 : ag_adp S.2.2.2 m k t o 4 = ag_ui (S.2.2.2 4) m (-1) := by simp [ag_adp, ag_ug]
  have r5 : ag_adp S.2.2.2 m k t o 5 = ag_ui (S.2.2.2 5) m (-1) := by simp [ag_adp, ag_ug]
  have r6 : ∀ j, 6 ≤ j → ag_adp S.2.2.2 m k t o j = S.2.2.2 j := fun j hj => by
    unfold ag_adp
    rw [ag_ug_ne _ _ (by omega), ag_ug_ne _ _ (by omega), ag_ug_ne _ _ (by omega), ag_ug_ne _ _ (by omega), ag_ug_ne _ _ (by omega), ag_ug_ne _ _ (by omega)]
  have lt : ∀ j i, i ≠ m → ag_adp S.2.2.2 m k t o j i = S.2.2.2 j i := fun j i hi => by
    match j with
    | 0 => rw [r0, ag_ui_ne hi]
    | 1 => rw [r1, ag_ui_ne hi]
    | 2 => rw [r2, ag_ui_ne hi]
    | 3 => rw [r3, ag_ui_ne hi]
    | 4 => rw [r4, ag_ui_ne hi]
    | 5 => rw [r5, ag_ui_ne hi]
    | j + 6 => rw [r6 _ (by omega)]
  have at0 : ag_adp S.2.2.2 m k t o 0 m = k := by rw [r0, ag_ui_eq9]
  have at1 : ag_adp S.2.2.2 m k t o 1 m = t := by rw [r1, ag_ui_eq9]
  have at2 : ag_adp S.2.2.2 m k t o 2 m = o := by rw [r2, ag_ui_eq9]
  have at3 : ag_adp S.2.2.2 m k t o 3 m = 0 := by rw [r3, ag_ui_eq9]
  have hsm : ag_sm (ag_adp S.2.2.2 m k t o) := fun j i => by
    by_cases c : i = m
    · rw [c]
      match j with
      | 0 => rw [at0]; omega
      | 1 => rw [at1]; omega
      | 2 => rw [at2]; exact ho
      | 3 => rw [at3]; omega
      | 4 => rw [r4, ag_ui_eq9]; omega
      | 5 => rw [r5, ag_ui_eq9]; omega
      | j + 6 => rw [r6 _ (by omega)]; exact hP.1.2.1 _ _
    · rw [lt j i c]
      exact hP.1.2.1 j i
  refine ⟨hB, ⟨⟨fun j i hi => ?_, hsm, hm⟩, fun c hc => ?_, fun b hb => ?_⟩, fun b hb hl => ?_⟩
  · show ag_adp S.2.2.2 m k t o j i = 0
    rw [lt j i (by omega)]
    exact hP.1.1 j i hi
  · dsimp only at hc ⊢
    obtain ⟨c1, c2, c3⟩ := hP.2.1 c hc
    refine ⟨c1, by omega, ?_⟩
    rw [c3]
    by_cases q : 0 ≤ S.1 3 c
    · have z0 := lt 0 (S.1 3 c).toNat (by omega)
      have z1 := lt 1 (S.1 3 c).toNat (by omega)
      simp only [z0, z1]
    · rw [if_neg (fun z => q z.1), if_neg (fun z => q z.1)]
  · dsimp only
    by_cases c : b = m
    · rw [c, at0, at1, at2, at3]
      refine ⟨⟨hk.1, hk.2, by decide, by decide⟩, fun z => ?_, fun z => ?_, fun z => ?_⟩
      · obtain ⟨q1, q2, q3, q4⟩ := h5 z
        rw [lt 0 _ (by omega)]
        exact ⟨q1, by omega, q3, q4⟩
      · exact ⟨(h1 z).1, (h1 z).2.1⟩
      · exact ⟨(h2 z).1, (h2 z).2.1⟩
    · rw [lt 0 b c, lt 1 b c, lt 2 b c, lt 3 b c]
      obtain ⟨q1, q2, q3, q4⟩ := hP.2.2 b (by omega)
      refine ⟨q1, fun z => ?_, q3, q4⟩
      obtain ⟨y1, y2, y3, y4⟩ := q2 z
      rw [lt 0 _ (by omega)]
      exact ⟨y1, by omega, y3, y4⟩
  · dsimp only at hl ⊢
    by_cases c : b = m
    · rw [c, at0, at1, at2]
      exact ⟨fun z => (h1 z).2.2, fun z => (h2 z).2.2⟩
    · rw [lt 3 b c] at hl
      rw [lt 0 b c, lt 1 b c, lt 2 b c]
      exact hH b (by omega) hl
theorem ag_IV_wdr {S : ag_T} {m b : Nat} (hV : ag_IV S m) (hb : b < m) : ag_IV (S.1, (S.2.1, (S.2.2.1, ag_set S.2.2.2 b 4 (-1) m))) m := by
  have hm := hV.2.1.1.2.2
  have hs := ag_set_st (gp := S.2.2.2) (b := b) (m := m) (s := 4) (y := -1) (by omega) hm (by decide) (by decide) (by decide) (by decide)
  exact ⟨hV.1, ag_IP_st hV.2.1 hs, ag_IH_st hV.2.2 hs⟩
theorem ag_HI_party {gh : Nat → Nat → Int} {np : Nat} {qu li s : Int} (hH : ag_HI gh np qu li) (h1 : 1 ≤ s ∧ s ≤ 99) (h2 : np < 5) : ag_HI (ag_ug gh 0 (ag_ui (gh 0) np s)) (np + 1) qu li := by
  obtain ⟨a1, a2, a3, a4, a5, a6⟩ := hH
  refine ⟨ag_sm_ug9 a1 (ag_ui_sm (a1 0) (by omega) (by omega)), h2, a3, a4, fun p hp => ?_, fun p => ?_⟩
  · rw [ag_ug_same]
    by_cases c : p = np
    · rw [c, ag_ui_eq9]
      exact h1
    · rw [ag_ui_ne c]
      exact a5 p (by omega)
  · rw [ag_ug_ne _ _ (by decide)]
    exact a6 p
theorem ag_HI_vote {gh : Nat → Nat → Int} {np : Nat} {qu li i x : Int} (hH : ag_HI gh np qu li) (h1 : -1 ≤ x ∧ x ≤ 1) : ag_HI (ag_ug gh 3 (ag_wr 100 (gh 3) i x)) np qu li := by
  obtain ⟨a1, a2, a3, a4, a5, a6⟩ := hH
  refine ⟨ag_sm_ug9 a1 (ag_wr_sm 100 i x (a1 3) (by omega) (by omega)), a2, a3, a4, fun p hp => ?_, fun p => ?_⟩
  · rw [ag_ug_ne _ _ (by decide)]
    exact a5 p hp
  · rw [ag_ug_ne _ _ (by decide)]
    exact a6 p
theorem ag_dv_rg {x y z : Int} (hx : 0 ≤ x) (hx2 : x < 2147483648) (hy : 0 < y) (hy2 : y < 2147483648) (hz : x ≤ z * y) : 0 ≤ ag_dv x y ∧ ag_dv x y ≤ z := by
  have e : ag_dv x y = x / y := by
    unfold ag_dv
    rw [Int32.toInt_div, Int32.toInt_ofInt_of_le (by omega) (by omega), Int32.toInt_ofInt_of_le (by omega) (by omega), Int.tdiv_eq_ediv_of_nonneg hx]
    have h1 : 0 ≤ x / y := Int.ediv_nonneg hx (by omega)
    have h2 : x / y ≤ x := Int.ediv_le_self y hx
    exact Int.bmod_eq_of_le (by omega) (by omega)
  rw [e]
  exact ⟨Int.ediv_nonneg hx (by omega), Int.le_of_lt_add_one (Int.ediv_lt_of_lt_mul hy (by rw [Int.add_mul]; omega))⟩
theorem ag_su_one {g : Nat → Int} : ∀ (k i p : Nat), (∀ j, i ≤ j → j < i + k → 0 ≤ g j) → i ≤ p → p < i + k → g p ≤ ag_su g k i := by
  intro k
  induction k with
  | zero => intro i p _ h1 h2; omega
  | succ k ih =>
    intro i p h h1 h2
    have h0 := h i (by omega) (by omega)
    rw [ag_su]
    by_cases c : p = i
    · have : 0 ≤ ag_su g k (i + 1) := by
        by_cases ck : k = 0
        · rw [ck, ag_su]; exact Int.le_refl _
        · have a := ih (i + 1) (i + 1) (fun j a b => h j (by omega) (by omega)) (by omega) (by omega)
          have b := h (i + 1) (by omega) (by omega)
          omega
      rw [c]
      omega
    · have := ih (i + 1) p (fun j a b => h j (by omega) (by omega)) (by omega) (by omega)
      omega
theorem ag_HI_sit {gh : Nat → Nat → Int} {np : Nat} {qu li s : Int} (hH : ag_HI gh np qu li) (h1 : 0 ≤ s ∧ s ≤ 300) (h2 : 0 < np) : ag_HI (ag_ug gh 1 (ag_sha gh (gh 1) s (ag_su (gh 0) np 0) np)) np qu s := by
  have hsu := ag_su_seats hH
  obtain ⟨a1, a2, a3, a4, a5, a6⟩ := hH
  have hr : ∀ j, 0 ≤ ag_sha gh (gh 1) s (ag_su (gh 0) np 0) np j ∧ ag_sha gh (gh 1) s (ag_su (gh 0) np 0) np j ≤ 300 := fun j => by
    unfold ag_sha
    by_cases c : j < np
    · rw [if_pos c, if_pos (show 0 < ag_su (gh 0) np 0 by omega)]
      have hj := a5 j c
      have ho := ag_su_one (g := gh 0) np 0 j (fun i _ hi => by have := a5 i (by omega); omega) (Nat.zero_le _) (by omega)
      have p1 : 0 ≤ s * gh 0 j := Int.mul_nonneg h1.1 (by omega)
      have p2 : s * gh 0 j ≤ s * ag_su (gh 0) np 0 := Int.mul_le_mul_of_nonneg_left ho h1.1
      have p3 : s * gh 0 j ≤ 300 * 99 := Int.mul_le_mul h1.2 hj.2 (by omega) (by decide)
      have := ag_dv_rg p1 (by omega) (show 0 < ag_su (gh 0) np 0 by omega) (by omega) p2
      omega
    · rw [if_neg c]
      exact a6 j
  refine ⟨ag_sm_ug9 a1 (fun j => by have := hr j; omega), a2, a3, by omega, fun p hp => ?_, fun p => ?_⟩
  · rw [ag_ug_ne _ _ (by decide)]
    exact a5 p hp
  · rw [ag_ug_same]
    exact hr p
def ag_sp9 (gh : Nat → Nat → Int) (li : Int) (k : Nat) : Prop := ∀ p, 0 ≤ gh 2 p ∧ 2 * gh 2 p ≤ 300 * k ∧ 2 * gh 2 p + li ≤ 300 * k
theorem ag_HI_speak {gh : Nat → Nat → Int} {np p k : Nat} {qu li x : Int} (hH : ag_HI gh np qu li) (hs : ag_sp9 gh li k) (hk : k < 512) (h2 : 1 ≤ x) (h5 : x ≤ li ∧ x ≤ gh 1 p) : ag_HI (ag_ug (ag_ug gh 2 (ag_ui (gh 2) p (gh 2 p + x))) 1 (ag_ui (gh 1) p (gh 1 p - x))) np qu (li - x) ∧ ag_sp9 (ag_ug (ag_ug gh 2 (ag_ui (gh 2) p (gh 2 p + x))) 1 (ag_ui (gh 1) p (gh 1 p - x))) (li - x) (k + 1) := by
  obtain ⟨a1, a2, a3, a4, a5, a6⟩ := hH
  have b1 := a6 p
  have b2 := hs p
  refine ⟨⟨ag_sm_ug9 (ag_sm_ug9 a1 (ag_ui_sm (a1 2) (by omega) (by omega))) (ag_ui_sm (a1 1) (by omega) (by omega)), a2, a3, by omega, fun q hq => ?_, fun q => ?_⟩, fun q => ?_⟩
  · rw [ag_ug_ne _ _ (by decide), ag_ug_ne _ _ (by decide)]
    exact a5 q hq
  · rw [ag_ug_same]
    by_cases c : q = p
    · rw [c, ag_ui_eq9]
      omega
    · rw [ag_ui_ne c]
      exact a6 q
  · rw [ag_ug_ne _ _ (by decide), ag_ug_same]
    by_cases c : q = p
    · rw [c, ag_ui_eq9]
      omega
    · rw [ag_ui_ne c]
      have := hs q
      omega
theorem ag_sp9_gh {gh gh1 : Nat → Nat → Int} {li li1 : Int} {k : Nat} (h : ag_sp9 gh li k) (e : gh1 2 = gh 2) (h1 : li1 ≤ li ∨ li1 ≤ 300) : ag_sp9 gh1 li1 (k + 1) := fun p => by
  rw [e]
  have := h p
  omega
theorem ag_QI_pet {gq : Nat → Nat → Int} {gb : Nat → Nat → Int} {w nq : Nat} {c s : Int} (hQ : ag_QI gq gb w nq) (hw : w ≤ 40) (h1 : 0 ≤ c ∧ c < w ∧ gb 5 c.toNat ≠ -1) (h2 : 1 ≤ s ∧ s ≤ 9999) (h3 : nq < 12) : ag_QI (ag_ug (ag_ug gq 0 (ag_ui (gq 0) nq c)) 1 (ag_ui (gq 1) nq s)) gb w (nq + 1) := by
  refine ⟨ag_sm_ug9 (ag_sm_ug9 hQ.1 (ag_ui_sm (hQ.1 0) (by omega) (by omega))) (ag_ui_sm (hQ.1 1) (by omega) (by omega)), h3, fun p hp => ?_⟩
  rw [ag_ug_ne _ _ (by decide), ag_ug_same]
  by_cases q : p = nq
  · rw [q, ag_ui_eq9]
    exact Or.inr h1
  · rw [ag_ui_ne q]
    exact hQ.2.2 p (by omega)
