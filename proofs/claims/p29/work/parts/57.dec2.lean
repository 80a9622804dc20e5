/-! THE INVARIANT, kept by what is put; puts come to an end. -/
variable {B : Nat}
theorem ag_IP_rows {gb gp gp' : Nat → Nat → Int} {w m : Nat} (h : ag_IP gb gp w m) (hs : ag_st gp gp' m) : ag_IP gb gp' w m := ag_IP_st h hs
theorem ag_lc_3 {gp gp' : Nat → Nat → Int} {m : Nat} (h : gp' 3 = gp 3) : ag_lc gp' m = ag_lc gp m := by
  unfold ag_lc
  rw [h]
theorem ag_psd_gp {S : ag_T} {m b : Nat} (hm : m ≤ 20) (hb : b < m) : ag_st (ag_pfm S.1 S.2.1 S.2.2.1 S.2.2.2 b).2.2.2 (ag_psd S.1 S.2.1 S.2.2.1 S.2.2.2 m b).2.2.2 m ∧ (ag_psd S.1 S.2.1 S.2.2.1 S.2.2.2 m b).2.2.2 3 b ≠ 0 := by
  have s1 := ag_set_st (gp := (ag_pfm S.1 S.2.1 S.2.2.1 S.2.2.2 b).2.2.2) (b := b) (m := m) (s := 1) (y := -1) (by omega) hm (by omega) (by omega) (by omega) (by omega)
  have s2 := ag_spl_st (gb := (ag_pfm S.1 S.2.1 S.2.2.1 S.2.2.2 b).1) (x := b) (m := m) (by omega) hm m 0 (ag_set (ag_pfm S.1 S.2.1 S.2.2.1 S.2.2.2 b).2.2.2 b 1 (-1) m) (by omega)
  refine ⟨ag_st_trans s1 s2, fun q => ?_⟩
  have := s2.2.1 b q
  rw [ag_set_b (by omega) (by decide)] at this
  omega
theorem ag_psd_IV {S : ag_T} {m b : Nat} (h : ag_IV S m) (hb : b < m) (hl : S.2.2.2 3 b = 0) (hf : ag_ftb S.1 S.2.1 S.2.2.1 S.2.2.2 b ≠ 0) :
    ag_IV (ag_psd S.1 S.2.1 S.2.2.1 S.2.2.2 m b) m ∧ ag_lc (ag_psd S.1 S.2.1 S.2.2.1 S.2.2.2 m b).2.2.2 m < ag_lc S.2.2.2 m ∧ (ag_psd S.1 S.2.1 S.2.2.1 S.2.2.2 m b).2.2.2 0 = S.2.2.2 0 ∧ (ag_psd S.1 S.2.1 S.2.2.1 S.2.2.2 m b).2.2.2 1 = S.2.2.2 1 := by
  have hm : m ≤ 20 := h.2.1.1.2.2
  obtain ⟨f1, f2, ⟨f30, f31, f33, f34, f32⟩, f4⟩ := ag_pfm_I h hb hl hf
  obtain ⟨g1, g2⟩ := ag_psd_gp (S := S) hm hb
  have g1' := g1
  obtain ⟨s1, s2, s3, s4, s5⟩ := g1'
  have hw := h.1.1.2.2
  refine ⟨⟨f1, ag_IP_st f2 g1, fun a ha h3 => ?_⟩, ?_, ?_, ?_⟩
  · have e0 := s1 0 (by decide) (by decide)
    have e1 := s1 1 (by decide) (by decide)
    have e2 := s1 2 (by decide) (by decide)
    have l1 := s2 a h3
    rw [f33] at l1
    rw [e0, e1, e2, f30, f31]
    have ia := h.2.1.2.2 a ha
    show (S.2.2.2 0 a ≠ 5 → (ag_pfm S.1 S.2.1 S.2.2.1 S.2.2.2 b).1 5 (S.2.2.2 1 a).toNat ≠ -1) ∧ (S.2.2.2 0 a = 1 → (ag_pfm S.1 S.2.1 S.2.2.1 S.2.2.2 b).1 5 ((ag_pfm S.1 S.2.1 S.2.2.1 S.2.2.2 b).2.2.2 2 a).toNat ≠ -1)
    by_cases kb : S.2.2.2 0 b = 0
    · have d := ag_spl_done (gb := (ag_pfm S.1 S.2.1 S.2.2.1 S.2.2.2 b).1) (x := b) (m := m) (by omega) hm m 0 (ag_set (ag_pfm S.1 S.2.1 S.2.2.1 S.2.2.2 b).2.2.2 b 1 (-1) m) (by omega) a (Nat.zero_le _) ha h3
      have l2 := (ag_spl_st (gb := (ag_pfm S.1 S.2.1 S.2.2.1 S.2.2.2 b).1) (x := b) (m := m) (by omega) hm m 0 (ag_set (ag_pfm S.1 S.2.1 S.2.2.1 S.2.2.2 b).2.2.2 b 1 (-1) m) (by omega)).2.1 a h3
      unfold ag_fat ag_ios at d
      have r : ∀ g : Nat → Int, ag_rd 20 g (a : Int) = g a := fun g => ag_rd_nat (by decide) (by omega)
      have r2 : ∀ g : Nat → Int, ag_rd 20 g (b : Int) = g b := fun g => ag_rd_nat (by decide) (by omega)
      rw [ag_set_k (k := 0) (by decide) (by decide), ag_set_k (k := 1) (by decide) (by decide), ag_set_k (k := 2) (by decide) (by decide)] at d
      simp only [r, r2, l2, f30, f31, kb] at d
      simp only [ne_eq, not_true_eq_false, ↓reduceIte] at d
      split at d
      · omega
      · rename_i q
        have q : ¬ _ := fun z => q (decide_eq_true z)
        refine ⟨fun k5 z => ?_, fun k1 z => ?_⟩
        · refine q (Or.inl ⟨k5, ?_⟩)
          have := ia.2.2.1 k5
          rw [ag_rd_i (by decide) this.1 (by omega)]
          exact z
        · refine q (Or.inr ⟨k1, ?_⟩)
          have := ia.2.2.2 k1
          rw [f32 a ha k1] at z ⊢
          rw [ag_rd_i (by decide) this.1 (by omega)]
          exact z
    · have hh := h.2.2 a ha l1
      refine ⟨fun k5 => ?_, fun k1 => ?_⟩
      · have := ia.2.2.1 k5
        exact f4 kb _ this.1 this.2 (hh.1 k5)
      · have := ia.2.2.2 k1
        rw [f32 a ha k1]
        exact f4 kb _ this.1 this.2 (hh.2 k1)
  · rw [← ag_lc_3 f33]
    exact ag_lc_st g1 hb (by rw [f33]; exact hl) g2
  · rw [s1 0 (by decide) (by decide), f30]
  · rw [s1 1 (by decide) (by decide), f31]
theorem ag_dec_IV {gh : Nat → Nat → Int} {np m b : Nat} {qu x : Int} {S : ag_T} (h : ag_IV S m) (hb : b < m) (hl : S.2.2.2 3 b = 0) :
    ag_IV (ag_dec gh np qu x m S b) m ∧ ag_lc (ag_dec gh np qu x m S b).2.2.2 m < ag_lc S.2.2.2 m ∧ (ag_dec gh np qu x m S b).2.2.2 0 = S.2.2.2 0 ∧ (ag_dec gh np qu x m S b).2.2.2 1 = S.2.2.2 1 := by
  have hm : m ≤ 20 := h.2.1.1.2.2
  unfold ag_dec
  by_cases q1 : ag_ftb S.1 S.2.1 S.2.2.1 S.2.2.2 b = 0
  · rw [if_pos q1]
    have s1 := ag_set_st (gp := S.2.2.2) (b := b) (m := m) (s := 3) (y := b) (by omega) hm (by omega) (by omega) (by omega) (by omega)
    refine ⟨⟨h.1, ag_IP_st h.2.1 s1, ag_IH_st h.2.2 s1⟩, ?_, s1.1 0 (by decide) (by decide), s1.1 1 (by decide) (by decide)⟩
    refine ag_lc_st s1 hb hl ?_
    show ag_set S.2.2.2 (b : Int) 3 b m 3 b ≠ 0
    rw [ag_set_b (by omega) (by decide)]; decide
  · rw [if_neg q1]
    by_cases q2 : ag_car gh np qu b x = 0
    · rw [if_pos q2]
      have s1 := ag_set_st (gp := S.2.2.2) (b := b) (m := m) (s := 2) (y := -1) (by omega) hm (by omega) (by omega) (by omega) (by omega)
      refine ⟨⟨h.1, ag_IP_st h.2.1 s1, ag_IH_st h.2.2 s1⟩, ?_, s1.1 0 (by decide) (by decide), s1.1 1 (by decide) (by decide)⟩
      refine ag_lc_st s1 hb hl ?_
      show ag_set S.2.2.2 (b : Int) 2 (-1) m 3 b ≠ 0
      rw [ag_set_b (by omega) (by decide)]; decide
    · rw [if_neg q2]
      exact ag_psd_IV h hb hl q1
theorem ag_dal_IV {gh : Nat → Nat → Int} {np m : Nat} {qu x : Int} : ∀ (k : Nat) (S : ag_T), ag_IV S m → ag_IV (ag_dal gh np qu x m k S) m ∧ (ag_lc S.2.2.2 m ≤ k → ag_nxt (ag_dal gh np qu x m k S).1 (ag_dal gh np qu x m k S).2.2.2 m = -1) := by
  intro k
  induction k with
  | zero =>
    intro S h
    refine ⟨h, fun q => ag_nxt_no fun a ha => ?_⟩
    have := ag_ct_0 (p := fun i => decide (S.2.2.2 3 i = 0)) m 0 (by unfold ag_lc at q; omega) a (Nat.zero_le _) (by omega)
    exact of_decide_eq_false this
  | succ k ih =>
    intro S h
    rw [ag_dal]
    by_cases q : ag_nxt S.1 S.2.2.2 m = -1
    · rw [if_pos q]
      exact ⟨h, fun _ => q⟩
    · rw [if_neg q]
      obtain ⟨b, b1, b2, b3⟩ := ag_nxt_is q
      rw [b2, Int.toNat_natCast]
      obtain ⟨d1, d2, -⟩ := ag_dec_IV (gh := gh) (np := np) (qu := qu) (x := x) h b1 b3
      obtain ⟨i1, i2⟩ := ih _ d1
      exact ⟨i1, fun l => i2 (by omega)⟩
/-! THE CLASS's perform, decide, decideAll of a course's state. -/
def ag_KT (B : Nat) (σ : ag_S) (c : Nat) (gh : Nat → Nat → Int) (vh : Nat → Int) (S : ag_T) (m : Nat) : ag_S := ag_SK B σ c gh vh S.1 (ag_vB S.2.1 S.2.2.1) S.2.2.2 (ag_vP m)
theorem ag_K_pfm (σ : ag_S) {c : Nat} (gh : Nat → Nat → Int) (vh : Nat → Int) {S : ag_T} {m b : Nat} (hc : B + 7 ≤ c) (h : ag_IV S m) (hb : b < m) (hl : S.2.2.2 3 b = 0) (hf : ag_ftb S.1 S.2.1 S.2.2.1 S.2.2.2 b ≠ 0) (K : ag_Rs → ag_S → Prop) :
    ag_cl9 27 [ag_R c, ag_I b] (ag_KT B σ c gh vh S m) K = K (Sum.inl none) (ag_KT B σ c gh vh (ag_pfm S.1 S.2.1 S.2.2.1 S.2.2.2 b) m) := by
  obtain ⟨gb, w, n, gp⟩ := S
  have hV := h
  obtain ⟨hB, hP, hH⟩ := h
  dsimp only at hB hP hH hl hf ⊢
  have hp9 := hP
  obtain ⟨⟨z1, z2, z3⟩, z4, z5⟩ := hp9
  have hw := hB.1.2.2
  have hs := hB.1.2.1
  have kb := (z5 b hb).1
  have r : ∀ k, ag_rd 20 (gp k) (b : Int) = gp k b := fun k => ag_rd_nat (by decide) (by omega)
  unfold ag_ftb at hf
  unfold ag_KT ag_pfm
  dsimp only
  by_cases k0 : gp 0 b = 0
  · rw [if_pos k0]
    obtain ⟨-, p, p1, p2, p3, p4, p5, p6⟩ := ag_IV_to hV hb hl (by dsimp only; omega)
    dsimp only at p1 p2 p3 p4 p5 p6
    dsimp only
    rw [ag_K_perform0 (b := (b : Int)) (p := p) (e := ag_edd gb n (gp 1 b)) σ gh vh K hs (ag_vB_1 w n) (by omega) (by rw [r]; exact p2) p1 (by rw [r]; unfold ag_edd; rw [p3]) hc (by rw [r]; exact k0), p3, ag_vB_u1]
  · rw [if_neg k0]
    by_cases k1 : gp 0 b = 1
    · rw [if_pos k1]
      obtain ⟨t1, p, p1, p2, p3, p4, p5, p6⟩ := ag_IV_to hV hb hl (by dsimp only; omega)
      obtain ⟨t2, q, q1, q2, q3, q4, q5, q6⟩ := ag_IV_aim hV hb hl k1
      dsimp only at p1 p2 p3 p4 p5 p6 q1 q2 q3 q4 q5 q6 t1 t2
      have hk := ag_IB_blk hB p1 p3 p5
      have hkq := ag_IB_blk hB q1 q3 q5
      rw [k1] at hf
      obtain ⟨f1, f2⟩ := ag_fit_1 hB p1 p3 p2 p5 q2 q5 hf
      have hgo := (ag_blk_cut hk hkq f1).1
      dsimp only
      rw [ag_K_perform1 (b := (b : Int)) (p := p) (e := ag_edd gb n (gp 1 b)) (q := q) (goal := ag_edd gb n (gp 2 b)) σ gh vh K hs (ag_vB_1 w n) (by omega) (by rw [r]; exact p2) p1 (by rw [r]; unfold ag_edd; rw [p3]) (by rw [r]; exact q2) q1 (by rw [r]; unfold ag_edd; rw [q3]) hgo hc (by rw [r]; exact k1), p3, r, r]
    · rw [if_neg k1]
      by_cases k2 : gp 0 b = 2
      · rw [if_pos k2]
        dsimp only
        rw [ag_K_perform2 (b := (b : Int)) σ gh vh K hc (by rw [r]; exact k2), r, r]
      · rw [if_neg k2]
        by_cases k3 : gp 0 b = 3
        · rw [if_pos k3]
          obtain ⟨t1, p, p1, p2, p3, p4, p5, p6⟩ := ag_IV_to hV hb hl (by dsimp only; omega)
          dsimp only at p1 p2 p3 p4 p5 p6 t1
          have hw40 : w < 40 := by
            rw [k3] at hf
            unfold ag_fit at hf
            rw [if_neg (by decide), if_pos rfl] at hf
            split at hf
            · exact absurd rfl hf
            · omega
          obtain ⟨r1, r2, r3, r4⟩ := ag_IB_tra hB p1 p3 p4 p5 p6
          dsimp only
          rw [ag_K_perform3 (b := (b : Int)) (p := p) (e := ag_edd gb n (gp 1 b)) (e2 := ag_tra gb n (gp 1 b)) (G := ag_G3 gb w n (gp 1 b) (gp 2 b)) σ gh vh K hs z2 (ag_vB_0 w n) (ag_vB_1 w n) hw40 (by omega) (by rw [r]; exact p2) p1 (by rw [r]; unfold ag_edd; rw [p3]) (by rw [r]; rfl) r2 (by rw [r, r]; rfl) hc (by rw [r]; exact k3), r, ag_vB_u01]
        · rw [if_neg k3]
          by_cases k4 : gp 0 b = 4
          · rw [if_pos k4]
            obtain ⟨t1, p, p1, p2, p3, p4, p5, p6⟩ := ag_IV_to hV hb hl (by dsimp only; omega)
            dsimp only at p1 p2 p3 p4 p5 p6 t1
            have hw40 : w < 40 := by
              rw [k4] at hf
              unfold ag_fit at hf
              rw [if_neg (by decide), if_neg (by decide), if_pos rfl] at hf
              split at hf
              · exact absurd rfl hf
              · omega
            have hk := ag_IB_blk hB p1 p3 p5
            dsimp only
            rw [ag_K_perform4 (b := (b : Int)) (p := p) (e := ag_edd gb n (gp 1 b)) (G := ag_G4 gb w n (gp 1 b) (gp 2 b)) σ gh vh K hs (ag_vB_0 w n) (ag_vB_1 w n) hw40 (by omega) (by rw [r]; exact p2) p1 (by rw [r]; unfold ag_edd; rw [p3]) hk.2.1 (by rw [r, r]; rfl) hc (by rw [r]; exact k4), ag_vB_u01]
          · rw [if_neg k4]
            dsimp only
            rw [ag_K_perform5 (b := (b : Int)) σ gh vh K hc (by rw [r]; omega), r, r]
theorem ag_cy_01 (ay no al q : Int) : ag_cy ay no al q = 0 ∨ ag_cy ay no al q = 1 := by
  unfold ag_cy
  (repeat' split) <;> first | exact Or.inl rfl | exact Or.inr rfl
theorem ag_fit_01 (gb : Nat → Nat → Int) (w n : Nat) (k c x : Int) : ag_fit gb w n k c x = 0 ∨ ag_fit gb w n k c x = 1 := by
  unfold ag_fit
  dsimp only
  (repeat' split) <;> first | exact Or.inl rfl | exact Or.inr rfl
/-- what isDoable wants to know -/
theorem ag_IV_hM {S : ag_T} {m : Nat} (h : ag_IV S m) {b : Nat} (hb : b < m) (hl : S.2.2.2 3 b = 0) : ag_rd 20 (S.2.2.2 0) b = 1 → 0 ≤ ag_rd 40 (S.1 5) (ag_rd 20 (S.2.2.2 1) b) ∧ ag_rd 40 (S.1 5) (ag_rd 20 (S.2.2.2 1) b) < S.2.2.1 := by
  have hm : m ≤ 20 := h.2.1.1.2.2
  rw [ag_rd_nat (by decide) (by omega), ag_rd_nat (by decide) (by omega)]
  intro k1
  obtain ⟨-, p, p1, p2, -⟩ := ag_IV_to h hb hl (by omega)
  rw [p2]
  omega
theorem ag_K_decide (σ : ag_S) {c : Nat} {gh : Nat → Nat → Int} {vh : Nat → Int} {S : ag_T} {m b np : Nat} {x : Int} (hc : B + 7 ≤ c) (h : ag_IV S m) (hb : b < m) (hl : S.2.2.2 3 b = 0) (hsh : ag_sm gh) (hvh : vh 0 = np) (hnp : np ≤ 5) (hx : ag_nm x = x) (K : ag_Rs → ag_S → Prop) :
    ag_cl9 25 [ag_R c, ag_I b, ag_I x] (ag_KT B σ c gh vh S m) K = K (Sum.inl none) (ag_KT B σ c gh vh (ag_dec gh np (vh 1) x m S b) m) := by
  have hm : m ≤ 20 := h.2.1.1.2.2
  have hs2 := h.2.1.1.2.1
  have hs := h.1.1.2.1
  have hw := h.1.1.2.2
  have r : ∀ k, ag_rd 20 (S.2.2.2 k) (b : Int) = S.2.2.2 k b := fun k => ag_rd_nat (by decide) (by omega)
  have hM := ag_IV_hM h hb hl
  have hbn : ag_nm (b : Int) = b := ag_nm_nat (by omega)
  have hL : 0 ≤ ag_nm (b : Int) ∧ ag_nm (b : Int) < m ∧ ag_rd 20 (S.2.2.2 3) b = 0 := by
    rw [hbn, r]
    omega
  unfold ag_dec
  rcases ag_fit_01 S.1 S.2.1 S.2.2.1 (S.2.2.2 0 b) (S.2.2.2 1 b) (S.2.2.2 2 b) with q1 | q1
  · rw [if_pos (show ag_ftb S.1 S.2.1 S.2.2.1 S.2.2.2 b = 0 from q1)]
    unfold ag_KT
    exact ag_K_decide_1 σ K hc hs hs2 (ag_vB_0 _ _) (ag_vB_1 _ _) (ag_vP_0 m) hw.2 (by omega) hm hbn hM hL (by rw [r, r, r]; exact q1)
  · have q1' : ag_ftb S.1 S.2.1 S.2.2.1 S.2.2.2 b ≠ 0 := by
      unfold ag_ftb
      omega
    rw [if_neg q1']
    rcases ag_cy_01 (ag_su (fun i => if ag_vo gh b x i = 1 then gh 0 i else 0) np 0) (ag_su (fun i => if ag_vo gh b x i = -1 then gh 0 i else 0) np 0) (ag_su (gh 0) np 0) (vh 1) with q2 | q2
    · rw [if_pos (show ag_car gh np (vh 1) b x = 0 from q2)]
      unfold ag_KT
      exact ag_K_decide_2 σ K hc hs hs2 hsh hvh hnp (ag_vB_0 _ _) (ag_vB_1 _ _) (ag_vP_0 m) hw.2 (by omega) hm hbn hx hM hL (by rw [r, r, r]; exact q1) q2
    · rw [if_neg (show ¬ ag_car gh np (vh 1) b x = 0 from fun z => by unfold ag_car at z; omega)]
      obtain ⟨f1, f2, -, -⟩ := ag_pfm_I h hb hl q1'
      have hP := fun K => ag_K_pfm σ gh vh hc h hb hl q1' K
      unfold ag_KT at hP ⊢
      have e : (ag_vB (ag_pfm S.1 S.2.1 S.2.2.1 S.2.2.2 b).2.1 (ag_pfm S.1 S.2.1 S.2.2.1 S.2.2.2 b).2.2.1) = ag_vB (ag_psd S.1 S.2.1 S.2.2.1 S.2.2.2 m b).2.1 (ag_psd S.1 S.2.1 S.2.2.1 S.2.2.2 m b).2.2.1 := rfl
      exact ag_K_decide_3 σ K hc hs hs2 hsh hvh hnp (ag_vB_0 _ _) (ag_vB_1 _ _) (ag_vP_0 m) hw.2 (by omega) hm hbn hx hM hL (by rw [r, r, r]; exact q1) q2 hP f1.1.2.1 f2.1.2.1
theorem ag_nxt_rg {gb gp : Nat → Nat → Int} {m : Nat} (hm : m ≤ 20) : ag_nm (ag_nxt gb gp m) = ag_nxt gb gp m ∧ -1 ≤ ag_nxt gb gp m ∧ ag_nxt gb gp m < 20 := by
  by_cases q : ag_nxt gb gp m = -1
  · rw [q]
    exact ⟨ag_nm_m, by omega, by omega⟩
  · obtain ⟨b, b1, b2, -⟩ := ag_nxt_is q
    rw [b2]
    exact ⟨ag_nm_nat (by omega), by omega, by omega⟩
theorem ag_K_next (σ : ag_S) {c : Nat} {gh : Nat → Nat → Int} {vh : Nat → Int} {S : ag_T} {m : Nat} (hc : B + 7 ≤ c) (h : ag_IV S m) (K : ag_Rs → ag_S → Prop) :
    ag_cl9 23 [ag_R c] (ag_KT B σ c gh vh S m) K = K (Sum.inl (some (ag_I (ag_nxt S.1 S.2.2.2 m)))) (ag_KT B σ c gh vh S m) := by
  unfold ag_KT
  exact ag_K_following σ gh vh K hc h.1.1.2.1 h.2.1.1.2.1 (ag_vP_0 m) h.2.1.1.2.2
/-- put the next one, if there is one -/
theorem ag_K_step (σ : ag_S) {c : Nat} {gh : Nat → Nat → Int} {vh : Nat → Int} {S : ag_T} {m np : Nat} {x : Int} (hc : B + 7 ≤ c) (h : ag_IV S m) (hsh : ag_sm gh) (hvh : vh 0 = np) (hnp : np ≤ 5) (hx : ag_nm x = x) (K : ag_Rs → ag_S → Prop) :
    ag_cl9 25 [ag_R c, ag_I (ag_nxt S.1 S.2.2.2 m), ag_I x] (ag_KT B σ c gh vh S m) K = K (Sum.inl none) (ag_KT B σ c gh vh (ag_dal gh np (vh 1) x m 1 S) m) := by
  have hm : m ≤ 20 := h.2.1.1.2.2
  rw [ag_dal]
  by_cases q : ag_nxt S.1 S.2.2.2 m = -1
  · rw [if_pos q, q]
    unfold ag_KT
    exact ag_K_decide_0 σ K hc h.2.1.1.2.1 (ag_vP_0 m) hm (by rw [ag_nm_m]; omega)
  · obtain ⟨b, b1, b2, b3⟩ := ag_nxt_is q
    rw [if_neg q, b2, Int.toNat_natCast, ag_dal]
    exact ag_K_decide σ hc h b1 b3 hsh hvh hnp hx K
theorem ag_dal_s {gh : Nat → Nat → Int} {np m : Nat} {qu x : Int} (S : ag_T) (k : Nat) : ag_dal gh np qu x m (k + 1) S = if ag_nxt S.1 S.2.2.2 m = -1 then S else ag_dal gh np qu x m k (ag_dec gh np qu x m S (ag_nxt S.1 S.2.2.2 m).toNat) := rfl
theorem ag_dal_z {gh : Nat → Nat → Int} {np m : Nat} {qu x : Int} (S : ag_T) : ag_dal gh np qu x m 0 S = S := rfl
theorem ag_dal_no {gh : Nat → Nat → Int} {np m : Nat} {qu x : Int} (S : ag_T) (k : Nat) (q : ag_nxt S.1 S.2.2.2 m = -1) : ag_dal gh np qu x m k S = S := by
  cases k with
  | zero => rfl
  | succ k => rw [ag_dal_s, if_pos q]
theorem ag_dal_1 {gh : Nat → Nat → Int} {np m : Nat} {qu x : Int} (S : ag_T) (k : Nat) : ag_dal gh np qu x m k (ag_dal gh np qu x m 1 S) = ag_dal gh np qu x m (k + 1) S := by
  by_cases q : ag_nxt S.1 S.2.2.2 m = -1
  · rw [ag_dal_no S 1 q, ag_dal_no S k q, ag_dal_no S (k + 1) q]
  · rw [ag_dal_s S k, if_neg q, ag_dal_s S 0, if_neg q, ag_dal_z]
theorem ag_K_dA_loop (σ : ag_S) {c : Nat} {gh : Nat → Nat → Int} {vh : Nat → Int} {m np : Nat} {x : Int} (hc : B + 7 ≤ c) (hsh : ag_sm gh) (hvh : vh 0 = np) (hnp : np ≤ 5) (hx : ag_nm x = x) (K : ag_Rs → ag_S → Prop) : ∀ (k i : Nat) (S : ag_T), ag_IV S m → i + k = 20 →
    ag_wp 26 2 [some (ag_R c), some (ag_I x), some (ag_I i)] [] (ag_KT B σ c gh vh S m) K = K (Sum.inl none) (ag_KT B σ c gh vh (ag_dal gh np (vh 1) x m k S) m) := by
  intro k
  induction k with
  | zero =>
    intro i S h hi
    rw [ag_i26_2]
    simp only [ag_i26_3, ag_i26_5, ag_i26_23, ag_nm_nat (show i ≤ 1000000 by omega)]
    rw [if_pos (show ag_nm 20 ≤ (i : Int) by rw [show ag_nm 20 = 20 from by decide +kernel]; omega)]
    rfl
  | succ k ih =>
    intro i S h hi
    have hN := fun K => ag_K_next σ (gh := gh) (vh := vh) hc h K
    have hD := fun K => ag_K_step σ (gh := gh) (vh := vh) (x := x) hc h hsh hvh hnp hx K
    have hck : ∀ P, ag_ck (ag_KT B σ c gh vh S m) c 1 P = P := fun P => ag_SK_ck _ _ _ _ _ _ _ hc P
    rw [ag_i26_2]
    simp only [ag_i26_3, ag_i26_5, ag_i26_8, ag_i26_9, ag_i26_10, ag_i26_13, ag_i26_14, ag_i26_17_n, ag_i26_17_i, ag_i26_17_r, ag_i26_20, ag_kk_v, ag_kk_n, Nat.reduceAdd, ag_nm_nat (show i ≤ 1000000 by omega), hN, hD, hck]
    rw [if_neg (show ¬ ag_nm 20 ≤ (i : Int) by rw [show ag_nm 20 = 20 from by decide +kernel]; omega)]
    have h1 := (ag_dal_IV (gh := gh) (np := np) (qu := vh 1) (x := x) 1 S h).1
    rw [← ag_dal_1 S k]
    exact ih (i + 1) _ h1 (by omega)
theorem ag_K_decideAll (σ : ag_S) {c : Nat} {gh : Nat → Nat → Int} {vh : Nat → Int} {S : ag_T} {m np : Nat} {x : Int} (hc : B + 7 ≤ c) (h : ag_IV S m) (hsh : ag_sm gh) (hvh : vh 0 = np) (hnp : np ≤ 5) (hx : ag_nm x = x) (K : ag_Rs → ag_S → Prop) :
    ag_cl9 26 [ag_R c, ag_I x] (ag_KT B σ c gh vh S m) K = K (Sum.inl none) (ag_KT B σ c gh vh (ag_dal gh np (vh 1) x m 20 S) m) := by
  rw [← ag_K_dA_loop σ hc hsh hvh hnp hx K 20 0 S h (by omega)]
  simp only [ag_i26_0, ag_i26_1_n, ag_i26_1_i, ag_i26_1_r, ag_e26]
  rfl
