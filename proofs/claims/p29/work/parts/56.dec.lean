/-! THE INVARIANT, kept by what is put. -/
variable {B : Nat}
theorem ag_IB_held {gb : Nat → Nat → Int} {w n : Nat} (h : ag_IB gb w n) {c : Int} (hc : ∃ i, i < n ∧ gb 6 i = c) : gb 5 c.toNat ≠ -1 := by
  obtain ⟨i, h1, h2⟩ := hc
  have := (h.2.1 i h1).2.2
  rw [h2] at this
  omega
theorem ag_IB_has {gb : Nat → Nat → Int} {w n : Nat} (h : ag_IB gb w n) {c : Int} (h0 : 0 ≤ c) (h1 : c < w) (h2 : gb 5 c.toNat ≠ -1) : ∃ i, i < n ∧ gb 6 i = c := by
  obtain ⟨p, a, -, -, b, -⟩ := ag_IB_at h h0 h1 h2
  exact ⟨p, a, b⟩
theorem ag_hi_ge {g : Nat → Nat → Int} : ∀ (k i : Nat) (s : Int), s ≤ ag_hi g k i s ∧ ∀ t, i ≤ t → t < i + k → ag_rd 40 (g 2) (ag_rd 40 (g 6) t) ≤ ag_hi g k i s := by
  intro k
  induction k with
  | zero => intro i s; exact ⟨Int.le_refl _, fun t a b => by omega⟩
  | succ k ih =>
    intro i s
    obtain ⟨a, b⟩ := ih (i + 1) (max s (ag_rd 40 (g 2) (ag_rd 40 (g 6) i)))
    rw [ag_hi]
    refine ⟨by omega, fun t t1 t2 => ?_⟩
    by_cases q : t = i
    · subst q; omega
    · exact b t (by omega) (by omega)
/-- same parent, same height -/
theorem ag_IB_par {gb : Nat → Nat → Int} {w n i k : Nat} (h : ag_IB gb w n) (hi : i < n) (hk : k < n) (e : ag_pg gb i = ag_pg gb k) : ag_hg gb i = ag_hg gb k := by
  have hI := h.2.1
  have d := h.2.2.2
  rcases (d i hi).2.2 with ⟨a1, a2⟩ | ⟨j, a1, a2, a3, -⟩
  · rcases (d k hk).2.2 with ⟨b1, b2⟩ | ⟨l, b1, b2, b3, -⟩
    · omega
    · have := hI l (by omega)
      omega
  · rcases (d k hk).2.2 with ⟨b1, b2⟩ | ⟨l, b1, b2, b3, -⟩
    · have := hI j (by omega)
      omega
    · have := ag_IB_inj h (i := j) (j := l) (by omega) (by omega) (by omega)
      subst this
      omega
/-- the end of the train -/
theorem ag_IB_tra {gb : Nat → Nat → Int} {w n p : Nat} {c : Int} (h : ag_IB gb w n) (hp : p < n) (h1 : ag_plc gb c = p) (h6 : gb 6 p = c) (h2 : ag_rd 40 (gb 2) c = ag_hg gb p) (h9 : ag_rd 40 (gb 1) c = ag_pg gb p) :
    ag_edd gb n c ≤ ag_tra gb n c ∧ ag_tra gb n c ≤ n ∧ (∀ k, ag_edd gb n c ≤ k → k < ag_tra gb n c → ag_hg gb p ≤ ag_hg gb k) ∧ (ag_tra gb n c < n → ag_hg gb (ag_tra gb n c) ≤ ag_hg gb p) := by
  obtain ⟨e1, e2, -, -⟩ := ag_IB_blk h hp h1 h2
  unfold ag_tra
  have a := ag_ff_le (fun i => decide (ag_rd 40 (gb 2) (ag_rd 40 (gb 6) i) ≤ ag_rd 40 (gb 2) c ∧ ¬ (ag_rd 40 (gb 4) (ag_rd 40 (gb 6) i) = c ∧ ag_rd 40 (gb 1) (ag_rd 40 (gb 6) i) = ag_rd 40 (gb 1) c))) (n - ag_edd gb n c) (ag_edd gb n c)
  have b := ag_ff_no (fun i => decide (ag_rd 40 (gb 2) (ag_rd 40 (gb 6) i) ≤ ag_rd 40 (gb 2) c ∧ ¬ (ag_rd 40 (gb 4) (ag_rd 40 (gb 6) i) = c ∧ ag_rd 40 (gb 1) (ag_rd 40 (gb 6) i) = ag_rd 40 (gb 1) c))) (n - ag_edd gb n c) (ag_edd gb n c)
  have d := ag_ff_yes (fun i => decide (ag_rd 40 (gb 2) (ag_rd 40 (gb 6) i) ≤ ag_rd 40 (gb 2) c ∧ ¬ (ag_rd 40 (gb 4) (ag_rd 40 (gb 6) i) = c ∧ ag_rd 40 (gb 1) (ag_rd 40 (gb 6) i) = ag_rd 40 (gb 1) c))) (n - ag_edd gb n c) (ag_edd gb n c)
  generalize ag_ff (fun i => decide (ag_rd 40 (gb 2) (ag_rd 40 (gb 6) i) ≤ ag_rd 40 (gb 2) c ∧ ¬ (ag_rd 40 (gb 4) (ag_rd 40 (gb 6) i) = c ∧ ag_rd 40 (gb 1) (ag_rd 40 (gb 6) i) = ag_rd 40 (gb 1) c))) (n - ag_edd gb n c) (ag_edd gb n c) = e at a b d
  refine ⟨a.1, by omega, fun k k1 k2 => ?_, fun he => ?_⟩
  · have := of_decide_eq_false (b k k1 k2)
    rw [ag_IB_rd h 2 (by omega), ag_IB_rd h 1 (by omega), h2, h9] at this
    by_cases q : ag_hg gb p ≤ ag_hg gb k
    · exact q
    · exfalso
      have q2 : ag_pg gb k = ag_pg gb p := by
        by_cases q3 : gb 1 (gb 6 k).toNat = ag_pg gb p
        · exact q3
        · exact absurd ⟨by unfold ag_hg at q ⊢; omega, fun z => q3 z.2⟩ this
      have := ag_IB_par h (by omega) hp q2
      omega
  · have := (of_decide_eq_true (d (by omega))).1
    rw [ag_IB_rd h 2 (by omega), h2] at this
    exact this
/-- the clause to which b is, when b is laid -/
theorem ag_IV_to {S : ag_T} {m b : Nat} (h : ag_IV S m) (hb : b < m) (hl : S.2.2.2 3 b = 0) (hk : S.2.2.2 0 b ≠ 5) : (0 ≤ S.2.2.2 1 b ∧ S.2.2.2 1 b < S.2.1) ∧ ∃ p : Nat, p < S.2.2.1 ∧ ag_rd 40 (S.1 5) (S.2.2.2 1 b) = p ∧ ag_plc S.1 (S.2.2.2 1 b) = p ∧ S.1 6 p = S.2.2.2 1 b ∧ ag_rd 40 (S.1 2) (S.2.2.2 1 b) = ag_hg S.1 p ∧ ag_rd 40 (S.1 1) (S.2.2.2 1 b) = ag_pg S.1 p := by
  obtain ⟨h1, h2, h3⟩ := h
  have a := (h2.2.2 b hb).2.2.1 hk
  obtain ⟨p, p1, p2, p3, p4, p5⟩ := ag_IB_at h1 a.1 a.2 ((h3 b hb hl).1 hk)
  have := h1.1.2.2.2
  refine ⟨a, p, p1, p2, p3, p4, p5, ?_⟩
  unfold ag_pg
  rw [p4, ag_rd_i (by decide) a.1 (by omega)]
theorem ag_IV_aim {S : ag_T} {m b : Nat} (h : ag_IV S m) (hb : b < m) (hl : S.2.2.2 3 b = 0) (hk : S.2.2.2 0 b = 1) : (0 ≤ S.2.2.2 2 b ∧ S.2.2.2 2 b < S.2.1) ∧ ∃ p : Nat, p < S.2.2.1 ∧ ag_rd 40 (S.1 5) (S.2.2.2 2 b) = p ∧ ag_plc S.1 (S.2.2.2 2 b) = p ∧ S.1 6 p = S.2.2.2 2 b ∧ ag_rd 40 (S.1 2) (S.2.2.2 2 b) = ag_hg S.1 p ∧ ag_rd 40 (S.1 1) (S.2.2.2 2 b) = ag_pg S.1 p := by
  obtain ⟨h1, h2, h3⟩ := h
  have a := (h2.2.2 b hb).2.2.2 hk
  obtain ⟨p, p1, p2, p3, p4, p5⟩ := ag_IB_at h1 a.1 a.2 ((h3 b hb hl).2 hk)
  have := h1.1.2.2.2
  refine ⟨a, p, p1, p2, p3, p4, p5, ?_⟩
  unfold ag_pg
  rw [p4, ag_rd_i (by decide) a.1 (by omega)]
theorem ag_nm_m1 {x : Int} (h1 : -1 ≤ x) (h2 : x ≤ 1000) : ag_nm x = x := ag_nm_of (by omega) (by omega)
/-- how high one with the parent of the clause at p is -/
theorem ag_IB_hun {gb : Nat → Nat → Int} {w n p : Nat} (h : ag_IB gb w n) (hp : p < n) : ag_hun gb (ag_pg gb p) = ag_hg gb p ∧ -1 ≤ ag_pg gb p ∧ ag_pg gb p < w ∧ ((ag_hg gb p = 0 ∧ ag_pg gb p = -1) ∨ ∃ j, j < p ∧ ag_pg gb p = gb 6 j ∧ ag_hg gb j + 1 = ag_hg gb p ∧ ∀ k, j < k → k < p → ag_hg gb p ≤ ag_hg gb k) := by
  have hI := h.2.1
  have hw := h.1.2.2
  obtain ⟨d1, d2, d3⟩ := h.2.2.2 p hp
  refine ⟨?_, ?_, ?_, d3⟩
  · unfold ag_hun
    rcases d3 with ⟨a1, a2⟩ | ⟨j, a1, a2, a3, -⟩
    · rw [a2, if_pos ag_nm_m, a1]
    · have := hI j (by omega)
      rw [a2, ag_nm_m1 (by omega) (by omega), if_neg (by omega), ag_rd_i (by decide) this.1 (by omega)]
      exact a3
  · rcases d3 with ⟨a1, a2⟩ | ⟨j, a1, a2, a3, -⟩
    · omega
    · have := hI j (by omega)
      omega
  · rcases d3 with ⟨a1, a2⟩ | ⟨j, a1, a2, a3, -⟩
    · omega
    · have := hI j (by omega)
      omega
theorem ag_hun_at {gb : Nat → Nat → Int} {w n p : Nat} (h : ag_IB gb w n) (hp : p < n) {c : Int} (h6 : gb 6 p = c) : ag_hun gb c = ag_hg gb p + 1 := by
  have := h.2.1 p hp
  have hw := h.1.2.2
  unfold ag_hun
  rw [← h6, ag_nm_m1 (by omega) (by omega), if_neg (by omega), ag_rd_i (by decide) this.1 (by omega)]
  rfl
theorem ag_gi_k {gb : Nat → Nat → Int} {w n place : Nat} {above words hu : Int} : ag_gi gb w n place above words hu 3 = ag_ui (gb 3) w (-1) ∧ ag_gi gb w n place above words hu 4 = ag_ui (gb 4) w (-1) ∧ ag_gi gb w n place above words hu 6 = ag_ui (ag_sh (gb 6) place n) place w ∧ ag_gi gb w n place above words hu 0 = ag_ui (gb 0) w words ∧ ag_gi gb w n place above words hu 1 = ag_ui (gb 1) w above ∧ ag_gi gb w n place above words hu 2 = ag_ui (gb 2) w hu := by
  refine ⟨?_, ?_, ?_, ?_, ?_, ?_⟩ <;> simp [ag_gi, ag_ug]
theorem ag_gi_has {gb : Nat → Nat → Int} {w n place : Nat} {above words hu : Int} (hp : place ≤ n) {c : Int} (h : ∃ i, i < n ∧ gb 6 i = c) : ∃ i, i < n + 1 ∧ ag_gi gb w n place above words hu 6 i = c := by
  obtain ⟨i, h1, h2⟩ := h
  rw [ag_gi_k.2.2.1]
  by_cases q : i < place
  · exact ⟨i, by omega, by rw [ag_sh_pin (by omega), ag_pin_lt q, h2]⟩
  · exact ⟨i + 1, by omega, by rw [ag_sh_pin (by omega), ag_pin_gt (by omega), h2]⟩
/-- the papers, once b has made clause w -/
theorem ag_IP_made {gb gb' gp : Nat → Nat → Int} {w m b : Nat} (h : ag_IP gb gp w m) (hw : w < 40) (hb : b < m) (h3 : gb' 3 = ag_ui (gb 3) w b) (h4 : gb' 4 = ag_ui (gb 4) w (if gp 0 b = 3 then gp 1 b else -1)) : ag_IP gb' (ag_ug gp 5 (ag_wr 20 (gp 5) b w)) (w + 1) m := by
  obtain ⟨⟨a1, a2, a3⟩, c1, c2⟩ := h
  have e : ∀ k, k ≠ 5 → ag_ug gp 5 (ag_wr 20 (gp 5) b w) k = gp k := fun k hk => ag_ug_ne _ _ hk
  refine ⟨⟨fun k j hj => ?_, fun k j => ?_, a3⟩, fun c hc => ?_, fun a ha => ?_⟩
  · rw [ag_ug_at]
    split
    · rw [ag_wr_hi _ _ _ hj]; exact a1 5 j hj
    · exact a1 k j hj
  · rw [ag_ug_at]
    split
    · exact ag_wr_sm 20 _ _ (a2 5) (by omega) (by omega) j
    · exact a2 k j
  · rw [h3, h4, e 0 (by decide), e 1 (by decide)]
    by_cases q : c = w
    · rw [q, ag_ui_eq, ag_ui_eq, Int.toNat_natCast]
      refine ⟨by omega, by omega, ?_⟩
      by_cases q2 : gp 0 b = 3
      · rw [if_pos q2, if_pos ⟨by omega, q2⟩]
      · rw [if_neg q2, if_neg (fun z => q2 z.2)]
    · rw [ag_ui_ne q, ag_ui_ne q]
      exact c1 c (by omega)
  · rw [e 0 (by decide), e 1 (by decide), e 2 (by decide), e 3 (by decide)]
    obtain ⟨d1, d2, d3, d4⟩ := c2 a ha
    exact ⟨d1, d2, fun z => by have := d3 z; omega, fun z => by have := d4 z; omega⟩
/-- what fits -/
theorem ag_fit_1 {gb : Nat → Nat → Int} {w n p q : Nat} {c x : Int} (h : ag_IB gb w n) (hp : p < n) (p1 : ag_plc gb c = p) (p2 : ag_rd 40 (gb 5) c = p) (p3 : ag_rd 40 (gb 2) c = ag_hg gb p) (q2 : ag_rd 40 (gb 5) x = q) (q3 : ag_rd 40 (gb 2) x = ag_hg gb q) (hf : ag_fit gb w n 1 c x ≠ 0) :
    (q < p ∨ ag_edd gb n c ≤ q) ∧ ∀ k, p ≤ k → k < ag_edd gb n c → ag_hg gb k + (ag_hg gb q - ag_hg gb p) ≤ 3 := by
  obtain ⟨e1, e2, -, -⟩ := ag_IB_blk h hp p1 p3
  unfold ag_fit at hf
  rw [if_pos rfl] at hf
  dsimp only at hf
  have e3 : (ag_rd 40 (gb 5) c).toNat = ag_plc gb c := rfl
  rw [e3] at hf
  have e4 : ag_ff (fun i => decide (ag_rd 40 (gb 2) (ag_rd 40 (gb 6) i) ≤ ag_rd 40 (gb 2) c)) (n - (ag_plc gb c + 1)) (ag_plc gb c + 1) = ag_edd gb n c := rfl
  rw [e4, p1, q2, q3, p3] at hf
  split at hf
  · rename_i z
    refine ⟨by omega, fun k k1 k2 => ?_⟩
    have := (ag_hi_ge (g := gb) (ag_edd gb n c - p) p 0).2 k k1 (by omega)
    rw [ag_IB_rd h 2 (by omega)] at this
    have e5 : ag_hg gb k = gb 2 (gb 6 k).toNat := rfl
    omega
  · exact absurd rfl hf
/-- performing keeps bill and papers; held stays held, but for a strike -/
theorem ag_pfm_I {S : ag_T} {m b : Nat} (h : ag_IV S m) (hb : b < m) (hl : S.2.2.2 3 b = 0) (hf : ag_ftb S.1 S.2.1 S.2.2.1 S.2.2.2 b ≠ 0) :
    ag_IB (ag_pfm S.1 S.2.1 S.2.2.1 S.2.2.2 b).1 (ag_pfm S.1 S.2.1 S.2.2.1 S.2.2.2 b).2.1 (ag_pfm S.1 S.2.1 S.2.2.1 S.2.2.2 b).2.2.1 ∧
    ag_IP (ag_pfm S.1 S.2.1 S.2.2.1 S.2.2.2 b).1 (ag_pfm S.1 S.2.1 S.2.2.1 S.2.2.2 b).2.2.2 (ag_pfm S.1 S.2.1 S.2.2.1 S.2.2.2 b).2.1 m ∧
    ((ag_pfm S.1 S.2.1 S.2.2.1 S.2.2.2 b).2.2.2 0 = S.2.2.2 0 ∧ (ag_pfm S.1 S.2.1 S.2.2.1 S.2.2.2 b).2.2.2 1 = S.2.2.2 1 ∧ (ag_pfm S.1 S.2.1 S.2.2.1 S.2.2.2 b).2.2.2 3 = S.2.2.2 3 ∧ (ag_pfm S.1 S.2.1 S.2.2.1 S.2.2.2 b).2.2.2 4 = S.2.2.2 4 ∧ ∀ a : Nat, a < m → S.2.2.2 0 a = 1 → (ag_pfm S.1 S.2.1 S.2.2.1 S.2.2.2 b).2.2.2 2 a = S.2.2.2 2 a) ∧
    (S.2.2.2 0 b ≠ 0 → ∀ c : Int, 0 ≤ c → c < S.2.1 → S.1 5 c.toNat ≠ -1 → (ag_pfm S.1 S.2.1 S.2.2.1 S.2.2.2 b).1 5 c.toNat ≠ -1) := by
  obtain ⟨gb, w, n, gp⟩ := S
  have hV := h
  obtain ⟨hB, hP, hH⟩ := h
  dsimp only at hB hP hH hl hf ⊢
  have hp9 := hP
  obtain ⟨⟨z1, z2, z3⟩, z4, z5⟩ := hp9
  have hw := hB.1.2.2
  have kb := (z5 b hb).1
  unfold ag_ftb at hf
  unfold ag_pfm
  by_cases k0 : gp 0 b = 0
  · rw [if_pos k0]
    obtain ⟨-, p, p1, p2, p3, p4, p5, p6⟩ := ag_IV_to hV hb hl (by dsimp only; omega)
    dsimp only at p1 p2 p3 p4 p5 p6
    have hk := ag_IB_blk hB p1 p3 p5
    dsimp only
    rw [p3]
    refine ⟨ag_IB_strike hB hk, ⟨⟨z1, z2, z3⟩, ?_, z5⟩, ⟨rfl, rfl, rfl, rfl, fun _ _ _ => rfl⟩, fun q => absurd k0 q⟩
    have e3 : ag_gs gb n p (ag_edd gb n (gp 1 b)) 3 = gb 3 := by simp [ag_gs, ag_ug]
    have e4 : ag_gs gb n p (ag_edd gb n (gp 1 b)) 4 = gb 4 := by simp [ag_gs, ag_ug]
    rw [e3, e4]
    exact z4
  · rw [if_neg k0]
    by_cases k1 : gp 0 b = 1
    · rw [if_pos k1]
      obtain ⟨t1, p, p1, p2, p3, p4, p5, p6⟩ := ag_IV_to hV hb hl (by dsimp only; omega)
      obtain ⟨t2, q, q1, q2, q3, q4, q5, q6⟩ := ag_IV_aim hV hb hl k1
      dsimp only at p1 p2 p3 p4 p5 p6 q1 q2 q3 q4 q5 q6 t1 t2
      have hk := ag_IB_blk hB p1 p3 p5
      have hkq := ag_IB_blk hB q1 q3 q5
      rw [k1] at hf
      obtain ⟨f1, f2⟩ := ag_fit_1 hB p1 p3 p2 p5 q2 q5 hf
      dsimp only
      rw [p3, ← p4, ← q4]
      rw [← p4] at f1 f2 hk
      rw [← q4] at hkq
      have hB' := ag_IB_move hB p1 q1 hk hkq f1 f2
      have hgo := (ag_blk_cut hk hkq f1).1
      refine ⟨hB', ⟨⟨z1, z2, z3⟩, ?_, z5⟩, ⟨rfl, rfl, rfl, rfl, fun _ _ _ => rfl⟩, fun _ c c0 c1 c2 => ?_⟩
      · have e3 : ag_gm gb n (gb 6 p) (gb 6 q) p (ag_edd gb n (gb 6 p)) (ag_edd gb n (gb 6 q)) 3 = gb 3 := by simp [ag_gm, ag_ug]
        have e4 : ag_gm gb n (gb 6 p) (gb 6 q) p (ag_edd gb n (gb 6 p)) (ag_edd gb n (gb 6 q)) 4 = gb 4 := by simp [ag_gm, ag_ug]
        rw [e3, e4]
        exact z4
      · obtain ⟨i, i1, i2⟩ := ag_IB_has hB c0 c1 c2
        refine ag_IB_held hB' ⟨ag_sy p (ag_edd gb n (gb 6 p)) (ag_edd gb n (gb 6 q)) i, ag_sy_lt hk.1 hk.2.1 hkq.2.1 hgo i1, ?_⟩
        have e6 : ag_gm gb n (gb 6 p) (gb 6 q) p (ag_edd gb n (gb 6 p)) (ag_edd gb n (gb 6 q)) 6 = ag_cf (ag_cf (ag_mb (gb 6) p (ag_edd gb n (gb 6 p)) (ag_edd gb n (gb 6 q))) (gb 7) n) (gb 6) 40 := by simp [ag_gm, ag_ug]
        have := ag_sy_lt hk.1 hk.2.1 hkq.2.1 hgo i1
        rw [e6]
        unfold ag_cf
        rw [if_pos (by omega), if_pos this, ag_mb_sx, ag_sx_sy hk.1 hgo, i2]
    · rw [if_neg k1]
      by_cases k2 : gp 0 b = 2
      · rw [if_pos k2]
        dsimp only
        refine ⟨ag_IB_ug hB (Or.inl rfl) (fun j hj => ?_) (fun j => ?_), hP, ⟨rfl, rfl, rfl, rfl, fun _ _ _ => rfl⟩, fun _ c _ _ c2 => c2⟩
        · rw [ag_wr_hi _ _ _ hj]
          exact hB.1.1 0 j hj
        · exact ag_wr_sm 40 _ _ (hB.1.2.1 0) (z2 2 b).1 (z2 2 b).2 j
      · rw [if_neg k2]
        have g0 : ∀ (g : Nat → Nat → Int) (x y : Nat → Int), ag_ug (ag_ug g 4 x) 3 y 5 = g 5 := fun g x y => by simp [ag_ug]
        have g1 : ∀ (g : Nat → Nat → Int) (y : Nat → Int), ag_ug g 3 y 5 = g 5 := fun g y => by simp [ag_ug]
        by_cases k3 : gp 0 b = 3
        · rw [if_pos k3]
          obtain ⟨t1, p, p1, p2, p3, p4, p5, p6⟩ := ag_IV_to hV hb hl (by dsimp only; omega)
          dsimp only at p1 p2 p3 p4 p5 p6 t1
          have hw40 : w < 40 := by
            rw [k3] at hf
            unfold ag_fit at hf
            rw [if_neg (by decide), if_pos rfl] at hf
            split at hf
            · exact absurd rfl hf
            · omega
          obtain ⟨b1, b2, b3, b4⟩ := ag_IB_blk hB p1 p3 p5
          obtain ⟨r1, r2, r3, r4⟩ := ag_IB_tra hB p1 p3 p4 p5 p6
          obtain ⟨u1, u2, u3, u4⟩ := ag_IB_hun hB p1
          have d := hB.2.2.2 p p1
          have hB' : ag_IB (ag_G3 gb w n (gp 1 b) (gp 2 b)) (w + 1) (n + 1) := by
            unfold ag_G3
            rw [p6, u1]
            refine ag_IB_insert hB hw40 r2 d.1 d.2.1 (z2 2 b).1 (z2 2 b).2 (by omega) (by omega) r4 ?_
            rcases u4 with u4 | ⟨j, j1, j2, j3, j4⟩
            · exact Or.inl u4
            · refine Or.inr ⟨j, by omega, j2, j3, fun k k1 k2 => ?_⟩
              by_cases c1 : k < p
              · exact j4 k k1 c1
              · by_cases c2 : k = p
                · rw [c2]; exact Int.le_refl _
                · by_cases c3 : k < ag_edd gb n (gp 1 b)
                  · have := b3 k (by omega) c3
                    omega
                  · exact r3 k (by omega) k2
          have hsm := hB'.1.2.1
          have hze := hB'.1.1
          have q3 : ag_G3 gb w n (gp 1 b) (gp 2 b) 3 = ag_ui (gb 3) w (-1) := ag_gi_k.1
          have q4 : ag_G3 gb w n (gp 1 b) (gp 2 b) 4 = ag_ui (gb 4) w (-1) := ag_gi_k.2.1
          have q6 : ag_G3 gb w n (gp 1 b) (gp 2 b) 6 = ag_ui (ag_sh (gb 6) (ag_tra gb n (gp 1 b)) n) (ag_tra gb n (gp 1 b)) w := ag_gi_k.2.2.1
          dsimp only
          refine ⟨ag_IB_ug (ag_IB_ug hB' (Or.inr (Or.inr (Or.inl rfl))) (fun j hj => ?_) (fun j => ?_)) (Or.inr (Or.inl rfl)) (fun j hj => ?_) (fun j => ?_), ag_IP_made hP hw40 hb ?_ ?_, ⟨rfl, rfl, rfl, rfl, fun _ _ _ => rfl⟩, fun _ c c0 c1 c2 => ?_⟩
          · rw [ag_wr_hi _ _ _ hj]; exact hze 4 j hj
          · exact ag_wr_sm 40 _ _ (hsm 4) (by omega) (by omega) j
          · rw [ag_wr_hi _ _ _ hj]; exact hze 3 j hj
          · exact ag_wr_sm 40 _ _ (hsm 3) (by omega) (by omega) j
          · rw [ag_ug_same, q3, ag_wr_nat _ (by decide) hw40]
            funext j
            unfold ag_ui
            split <;> rfl
          · rw [ag_ug_ne _ _ (by decide), ag_ug_same, q4, ag_wr_nat _ (by decide) hw40, if_pos k3]
            funext j
            unfold ag_ui
            split <;> rfl
          · rw [g0]
            have := ag_gi_has (gb := gb) (w := w) (above := ag_rd 40 (gb 1) (gp 1 b)) (words := gp 2 b) (hu := ag_hun gb (ag_rd 40 (gb 1) (gp 1 b))) r2 (ag_IB_has hB c0 c1 c2)
            exact ag_IB_held hB' this
        · rw [if_neg k3]
          by_cases k4 : gp 0 b = 4
          · rw [if_pos k4]
            obtain ⟨t1, p, p1, p2, p3, p4, p5, p6⟩ := ag_IV_to hV hb hl (by dsimp only; omega)
            dsimp only at p1 p2 p3 p4 p5 p6 t1
            have hu1 := ag_hun_at hB p1 p4
            have hw40 : w < 40 ∧ ag_hun gb (gp 1 b) ≤ 3 := by
              rw [k4] at hf
              unfold ag_fit at hf
              rw [if_neg (by decide), if_neg (by decide), if_pos rfl] at hf
              have hf : (if 40 ≤ w then (0 : Int) else if ag_hun gb (gp 1 b) ≤ 3 then 1 else 0) ≠ 0 := hf
              split at hf
              · exact absurd rfl hf
              · split at hf
                · rename_i s1 s2
                  exact ⟨by omega, s2⟩
                · exact absurd rfl hf
            obtain ⟨hw40, hu3⟩ := hw40
            obtain ⟨b1, b2, b3, b4⟩ := ag_IB_blk hB p1 p3 p5
            have d := hB.2.2.2 p p1
            have hB' : ag_IB (ag_G4 gb w n (gp 1 b) (gp 2 b)) (w + 1) (n + 1) := by
              unfold ag_G4
              rw [hu1] at hu3 ⊢
              refine ag_IB_insert hB hw40 b2 (by omega) hu3 (z2 2 b).1 (z2 2 b).2 (by omega) (by omega) (fun q => by have := b4 q; omega) (Or.inr ⟨p, b1, p4.symm, rfl, fun k k1 k2 => ?_⟩)
              have := b3 k k1 k2
              omega
            have hsm := hB'.1.2.1
            have hze := hB'.1.1
            have q3 : ag_G4 gb w n (gp 1 b) (gp 2 b) 3 = ag_ui (gb 3) w (-1) := ag_gi_k.1
            have q4 : ag_G4 gb w n (gp 1 b) (gp 2 b) 4 = ag_ui (gb 4) w (-1) := ag_gi_k.2.1
            dsimp only
            refine ⟨ag_IB_ug hB' (Or.inr (Or.inl rfl)) (fun j hj => ?_) (fun j => ?_), ag_IP_made hP hw40 hb ?_ ?_, ⟨rfl, rfl, rfl, rfl, fun _ _ _ => rfl⟩, fun _ c c0 c1 c2 => ?_⟩
            · rw [ag_wr_hi _ _ _ hj]; exact hze 3 j hj
            · exact ag_wr_sm 40 _ _ (hsm 3) (by omega) (by omega) j
            · rw [ag_ug_same, q3, ag_wr_nat _ (by decide) hw40]
              funext j
              unfold ag_ui
              split <;> rfl
            · rw [ag_ug_ne _ _ (by decide), q4, if_neg k3]
            · rw [g1]
              have := ag_gi_has (gb := gb) (w := w) (above := gp 1 b) (words := gp 2 b) (hu := ag_hun gb (gp 1 b)) b2 (ag_IB_has hB c0 c1 c2)
              exact ag_IB_held hB' this
          · rw [if_neg k4]
            have k5 : gp 0 b = 5 := by omega
            have t := (z5 b hb).2.1 k5
            dsimp only
            have e : ∀ k, k ≠ 2 → ag_ug gp 2 (ag_wr 20 (gp 2) (gp 1 b) (gp 2 b)) k = gp k := fun k hk => ag_ug_ne _ _ hk
            have e2 : ∀ a : Nat, gp 0 a = 1 → ag_ug gp 2 (ag_wr 20 (gp 2) (gp 1 b) (gp 2 b)) 2 a = gp 2 a := by
              intro a ha
              rw [ag_ug_same, ag_wr_i _ (by decide) t.1 (by omega), ag_ui_ne]
              intro q
              rw [← q] at t
              omega
            refine ⟨hB, ⟨⟨fun k j hj => ?_, fun k j => ?_, z3⟩, ?_, fun a ha => ?_⟩, ⟨e 0 (by decide), e 1 (by decide), e 3 (by decide), e 4 (by decide), fun a _ q => e2 a q⟩, fun _ c _ _ c2 => c2⟩
            · rw [ag_ug_at]
              split
              · rw [ag_wr_hi _ _ _ hj]; exact z1 2 j hj
              · exact z1 k j hj
            · rw [ag_ug_at]
              split
              · exact ag_wr_sm 20 _ _ (z2 2) (z2 2 b).1 (z2 2 b).2 j
              · exact z2 k j
            · rw [e 0 (by decide), e 1 (by decide)]
              exact z4
            · rw [e 0 (by decide), e 1 (by decide), e 3 (by decide)]
              obtain ⟨d1, d2, d3, d4⟩ := z5 a ha
              exact ⟨d1, d2, d3, fun q => by rw [e2 a q]; exact d4 q⟩
