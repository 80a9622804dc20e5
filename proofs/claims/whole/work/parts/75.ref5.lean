/-! THE REFERENCE: strike, move. -/
/-- ties to x become ties to u, to place i -/
def ag_td (q : Nat → Int) (x u : Int) (i : Nat) : Nat → Int := fun j => if j < i ∧ q j = x then u else q j
/-- ties to one of the first i of f become ties to u -/
noncomputable def ag_tdl (t f : Nat → Int) (u : Int) (nq i : Nat) : Nat → Int := fun j => ag_if (j < nq ∧ ∃ s, s < i ∧ f s = t j) u (t j)
theorem ag_td_0 (q : Nat → Int) (x u : Int) : ag_td q x u 0 = q := by
  funext j
  unfold ag_td
  rw [if_neg (by omega)]
theorem ag_tdl_0 (t f : Nat → Int) (u : Int) (nq : Nat) : ag_tdl t f u nq 0 = t := by
  funext j
  unfold ag_tdl
  rw [ag_if_f]
  rintro ⟨-, s, hs, -⟩
  omega
theorem ag_tdl_s {t f : Nat → Int} {u : Int} {nq i : Nat} (hu : f i ≠ u) : ag_td (ag_tdl t f u nq i) (f i) u nq = ag_tdl t f u nq (i + 1) := by
  funext j
  unfold ag_td
  by_cases c1 : j < nq
  · by_cases c2 : ∃ s, s < i ∧ f s = t j
    · have e1 : ag_tdl t f u nq i j = u := ag_if_t ⟨c1, c2⟩
      have e2 : ag_tdl t f u nq (i + 1) j = u := by
        obtain ⟨s, s1, s2⟩ := c2
        exact ag_if_t ⟨c1, s, by omega, s2⟩
      rw [e1, e2, if_neg (fun z => hu z.2.symm)]
    · have e1 : ag_tdl t f u nq i j = t j := ag_if_f (fun z => c2 z.2)
      by_cases c3 : t j = f i
      · have e2 : ag_tdl t f u nq (i + 1) j = u := ag_if_t ⟨c1, i, by omega, c3.symm⟩
        rw [e1, e2, if_pos ⟨c1, c3⟩]
      · have e2 : ag_tdl t f u nq (i + 1) j = t j := by
          refine ag_if_f ?_
          rintro ⟨-, s, s1, s2⟩
          by_cases q : s = i
          · exact c3 (by rw [← s2, q])
          · exact c2 ⟨s, by omega, s2⟩
        rw [e1, e2, if_neg (fun z => c3 z.2)]
  · have e1 : ag_tdl t f u nq i j = t j := ag_if_f (fun z => c1 z.1)
    have e2 : ag_tdl t f u nq (i + 1) j = t j := ag_if_f (fun z => c1 z.1)
    rw [e1, e2, if_neg (fun z => c1 z.1)]
theorem ag_tdl_nm {t f : Nat → Int} {u : Int} {nq : Nat} (ht : ∀ j, ag_nm (t j) = t j) (hu : ag_nm u = u) (i : Nat) : ∀ j, ag_nm (ag_tdl t f u nq i j) = ag_tdl t f u nq i j := by
  intro j
  by_cases c : j < nq ∧ ∃ s, s < i ∧ f s = t j
  · have e1 : ag_tdl t f u nq i j = u := ag_if_t c
    rw [e1, hu]
  · have e1 : ag_tdl t f u nq i j = t j := ag_if_f c
    rw [e1, ht]
theorem ag_td_nm {q : Nat → Int} {x u : Int} (hq : ∀ j, ag_nm (q j) = q j) (hu : ag_nm u = u) (i : Nat) : ∀ j, ag_nm (ag_td q x u i j) = ag_td q x u i j := by
  intro j
  unfold ag_td
  split
  · exact hu
  · exact hq j
theorem ag_td_s1 {q : Nat → Int} {x u : Int} {i : Nat} (h : q i = x) : ag_ui (ag_td q x u i) i u = ag_td q x u (i + 1) := by
  funext j
  unfold ag_ui ag_td
  by_cases c : j = i
  · rw [if_pos c, c, if_pos ⟨by omega, h⟩]
  · rw [if_neg c]
    by_cases c2 : j < i ∧ q j = x
    · rw [if_pos c2, if_pos ⟨by omega, c2.2⟩]
    · rw [if_neg c2, if_neg (fun z => c2 ⟨by omega, z.2⟩)]
theorem ag_td_s0 {q : Nat → Int} {x u : Int} {i : Nat} (h : q i ≠ x) : ag_td q x u i = ag_td q x u (i + 1) := by
  funext j
  unfold ag_td
  by_cases c2 : j < i ∧ q j = x
  · rw [if_pos c2, if_pos ⟨by omega, c2.2⟩]
  · rw [if_neg c2]
    by_cases c : j = i
    · rw [c, if_neg (fun z => h z.2)]
    · rw [if_neg (fun z => c2 ⟨by omega, z.2⟩)]
section AGR5
variable {σ : ag_S} {a N : Nat} {ρ : Nat → Nat} {gb gp gh : Nat → Nat → Int} {r t sg : Nat → Int} {th qu mi : Int} {w n m nq np : Nat}
theorem ag_R_sti_loop (h : ag_mi a ρ N) (hn : nq ≤ 12) {q : Nat → Int} {x u : Int} (hq : ∀ j, ag_nm (q j) = q j) (hx : ag_nm x = x) (c l i : Int) (z : Nat) (K : ag_Rs → ag_S → Prop) : ∀ (k p : Nat), p + k = nq →
    ag_wp 136 40 [some (ag_R a), some (ag_I c), some (ag_I u), some (ag_R z), some (ag_I l), some (ag_I i), some (ag_I x), some (ag_I p)] [] (ag_SM σ a ρ (ag_mg gb r gp (ag_td q x u p) sg gh) (ag_mv th w n m nq np qu mi)) K = ag_wp 136 75 [some (ag_R a), some (ag_I c), some (ag_I u), some (ag_R z), some (ag_I l), some (ag_I i), some (ag_I x), some (ag_I nq)] [] (ag_SM σ a ρ (ag_mg gb r gp (ag_td q x u nq) sg gh) (ag_mv th w n m nq np qu mi)) K := by
  intro k
  induction k with
  | zero =>
    intro p hp
    rw [ag_i136_40]
    simp only [ag_i136_42, ag_i136_43, ag_i136_46, ag_mv_0, ag_mv_u0, ag_mv_1, ag_mv_u1, ag_mv_2, ag_mv_u2, ag_mv_3, ag_mv_u3, ag_mv_4, ag_mv_u4, ag_mv_5, ag_mv_u5, ag_mv_6, ag_mv_u6, ag_mv_7, ag_mv_u7, ag_mg_0, ag_mg_u0, ag_mg_1, ag_mg_u1, ag_mg_2, ag_mg_u2, ag_mg_3, ag_mg_u3, ag_mg_4, ag_mg_u4, ag_mg_5, ag_mg_u5, ag_mg_6, ag_mg_u6, ag_mg_7, ag_mg_u7, ag_mg_8, ag_mg_u8, ag_mg_9, ag_mg_u9, ag_mg_10, ag_mg_u10, ag_mg_11, ag_mg_u11, ag_mg_12, ag_mg_u12, ag_mg_13, ag_mg_u13, ag_mg_14, ag_mg_u14, ag_mg_15, ag_mg_u15, ag_mg_16, ag_mg_u16, ag_M_g0, ag_M_g1, ag_M_g2, ag_M_g3, ag_M_g4, ag_M_g5, ag_M_g6, ag_M_g7, ag_M_g8, ag_M_g9, ag_M_g10, ag_M_g11, ag_M_g12, ag_M_g13, ag_M_g14, ag_M_g15, ag_M_g16, ag_M_g17, ag_M_g18, ag_M_g19, ag_M_g20, ag_M_g21, ag_M_g22, ag_M_g23, ag_M_g24, ag_M_ck, ag_SM_2, ag_M_p0 h, ag_M_p1 h, ag_M_p2 h, ag_M_p3 h, ag_M_p16 h, ag_M_p18 h, ag_M_p19 h, ag_M_p24 h, ag_M_ia0 h, ag_M_is0 h, ag_M_al0 h, ag_M_ia1 h, ag_M_is1 h, ag_M_al1 h, ag_M_ia2 h, ag_M_is2 h, ag_M_al2 h, ag_M_ia3 h, ag_M_is3 h, ag_M_al3 h, ag_M_ia4 h, ag_M_is4 h, ag_M_al4 h, ag_M_ia5 h, ag_M_is5 h, ag_M_al5 h, ag_M_ia6 h, ag_M_is6 h, ag_M_al6 h, ag_M_ia7 h, ag_M_is7 h, ag_M_al7 h, ag_M_ia8 h, ag_M_is8 h, ag_M_al8 h, ag_M_ia9 h, ag_M_is9 h, ag_M_al9 h, ag_M_ia10 h, ag_M_is10 h, ag_M_al10 h, ag_M_ia11 h, ag_M_is11 h, ag_M_al11 h, ag_M_ia12 h, ag_M_is12 h, ag_M_al12 h, ag_M_ia13 h, ag_M_is13 h, ag_M_al13 h, ag_M_ia14 h, ag_M_is14 h, ag_M_al14 h, ag_M_ia15 h, ag_M_is15 h, ag_M_al15 h, ag_M_ia16 h, ag_M_is16 h, ag_M_al16 h, ag_kk_v, ag_kk_n, Nat.reduceAdd, ag_b0, ag_b1, true_and, or_true, true_or, Int.reduceEq, ne_eq, not_false_eq_true, not_true_eq_false, ↓reduceIte, ag_nm_nat (show p ≤ 1000000 by omega), ag_nm_nat (show nq ≤ 1000000 by omega)]
    rw [if_pos (show (nq : Int) ≤ p by omega), show p = nq by omega]
  | succ k ih =>
    intro p hp
    have ip : ag_inb 12 (p : Int) := ag_inb_nat (by omega) (by decide)
    have e0 : ag_td q x u p p = q p := by
      unfold ag_td
      rw [if_neg (by omega)]
    rw [ag_i136_40]
    simp only [ag_i136_42, ag_i136_43, ag_i136_46, ag_i136_49, ag_i136_50, ag_i136_53, ag_i136_55, ag_i136_56, ag_i136_58, ag_i136_61, ag_i136_62, ag_i136_65, ag_i136_67, ag_i136_68, ag_i136_69_n, ag_i136_69_i, ag_i136_69_r, ag_i136_72, ag_mv_0, ag_mv_u0, ag_mv_1, ag_mv_u1, ag_mv_2, ag_mv_u2, ag_mv_3, ag_mv_u3, ag_mv_4, ag_mv_u4, ag_mv_5, ag_mv_u5, ag_mv_6, ag_mv_u6, ag_mv_7, ag_mv_u7, ag_mg_0, ag_mg_u0, ag_mg_1, ag_mg_u1, ag_mg_2, ag_mg_u2, ag_mg_3, ag_mg_u3, ag_mg_4, ag_mg_u4, ag_mg_5, ag_mg_u5, ag_mg_6, ag_mg_u6, ag_mg_7, ag_mg_u7, ag_mg_8, ag_mg_u8, ag_mg_9, ag_mg_u9, ag_mg_10, ag_mg_u10, ag_mg_11, ag_mg_u11, ag_mg_12, ag_mg_u12, ag_mg_13, ag_mg_u13, ag_mg_14, ag_mg_u14, ag_mg_15, ag_mg_u15, ag_mg_16, ag_mg_u16, ag_M_g0, ag_M_g1, ag_M_g2, ag_M_g3, ag_M_g4, ag_M_g5, ag_M_g6, ag_M_g7, ag_M_g8, ag_M_g9, ag_M_g10, ag_M_g11, ag_M_g12, ag_M_g13, ag_M_g14, ag_M_g15, ag_M_g16, ag_M_g17, ag_M_g18, ag_M_g19, ag_M_g20, ag_M_g21, ag_M_g22, ag_M_g23, ag_M_g24, ag_M_ck, ag_SM_2, ag_M_p0 h, ag_M_p1 h, ag_M_p2 h, ag_M_p3 h, ag_M_p16 h, ag_M_p18 h, ag_M_p19 h, ag_M_p24 h, ag_M_ia0 h, ag_M_is0 h, ag_M_al0 h, ag_M_ia1 h, ag_M_is1 h, ag_M_al1 h, ag_M_ia2 h, ag_M_is2 h, ag_M_al2 h, ag_M_ia3 h, ag_M_is3 h, ag_M_al3 h, ag_M_ia4 h, ag_M_is4 h, ag_M_al4 h, ag_M_ia5 h, ag_M_is5 h, ag_M_al5 h, ag_M_ia6 h, ag_M_is6 h, ag_M_al6 h, ag_M_ia7 h, ag_M_is7 h, ag_M_al7 h, ag_M_ia8 h, ag_M_is8 h, ag_M_al8 h, ag_M_ia9 h, ag_M_is9 h, ag_M_al9 h, ag_M_ia10 h, ag_M_is10 h, ag_M_al10 h, ag_M_ia11 h, ag_M_is11 h, ag_M_al11 h, ag_M_ia12 h, ag_M_is12 h, ag_M_al12 h, ag_M_ia13 h, ag_M_is13 h, ag_M_al13 h, ag_M_ia14 h, ag_M_is14 h, ag_M_al14 h, ag_M_ia15 h, ag_M_is15 h, ag_M_al15 h, ag_M_ia16 h, ag_M_is16 h, ag_M_al16 h, ag_kk_v, ag_kk_n, Nat.reduceAdd, ag_b0, ag_b1, true_and, or_true, true_or, Int.reduceEq, ne_eq, not_false_eq_true, not_true_eq_false, ↓reduceIte, ag_nm_nat (show p ≤ 1000000 by omega), ag_nm_nat (show nq ≤ 1000000 by omega), ip, ag_rd_nat (show 12 ≤ 1000000 by decide) (show p < 12 by omega), e0, hq, hx, ag_wr_nat _ (show 12 ≤ 1000000 by decide) (show p < 12 by omega)]
    rw [if_neg (show ¬ (nq : Int) ≤ p by omega)]
    by_cases c1 : q p = x
    · rw [if_neg (not_not_intro c1), ag_td_s1 c1]
      exact ih (p + 1) (by omega)
    · rw [if_pos c1, ag_td_s0 c1]
      exact ih (p + 1) (by omega)
theorem ag_R_sto_loop (h : ag_mi a ρ N) (hn : nq ≤ 12) {f : Nat → Int} {u : Int} {l z : Nat} (ht : ∀ j, ag_nm (t j) = t j) (hu : ag_nm u = u) (hf : ∀ s, s < l → ag_nm (f s) = f s ∧ f s ≠ u) (hz : N < z) (hl : l ≤ 1000000) (hc : σ.1 z = some (Sum.inl (l, f))) (c : Int) (K : ag_Rs → ag_S → Prop) : ∀ (k i : Nat) (y1 y2 : Option ag_V), i + k = l → (y1 = none ∨ ∃ v, y1 = some (ag_I v)) →
    ag_wp 136 24 [some (ag_R a), some (ag_I c), some (ag_I u), some (ag_R z), some (ag_I l), some (ag_I i), y1, y2] [] (ag_SM σ a ρ (ag_mg gb r gp (ag_tdl t f u nq i) sg gh) (ag_mv th w n m nq np qu mi)) K = K (Sum.inl none) (ag_SM σ a ρ (ag_mg gb r gp (ag_tdl t f u nq l) sg gh) (ag_mv th w n m nq np qu mi)) := by
  intro k
  induction k with
  | zero =>
    intro i y1 y2 hi _
    rw [ag_i136_24]
    simp only [ag_i136_26, ag_i136_28, ag_i136_81, ag_mv_0, ag_mv_u0, ag_mv_1, ag_mv_u1, ag_mv_2, ag_mv_u2, ag_mv_3, ag_mv_u3, ag_mv_4, ag_mv_u4, ag_mv_5, ag_mv_u5, ag_mv_6, ag_mv_u6, ag_mv_7, ag_mv_u7, ag_mg_0, ag_mg_u0, ag_mg_1, ag_mg_u1, ag_mg_2, ag_mg_u2, ag_mg_3, ag_mg_u3, ag_mg_4, ag_mg_u4, ag_mg_5, ag_mg_u5, ag_mg_6, ag_mg_u6, ag_mg_7, ag_mg_u7, ag_mg_8, ag_mg_u8, ag_mg_9, ag_mg_u9, ag_mg_10, ag_mg_u10, ag_mg_11, ag_mg_u11, ag_mg_12, ag_mg_u12, ag_mg_13, ag_mg_u13, ag_mg_14, ag_mg_u14, ag_mg_15, ag_mg_u15, ag_mg_16, ag_mg_u16, ag_M_g0, ag_M_g1, ag_M_g2, ag_M_g3, ag_M_g4, ag_M_g5, ag_M_g6, ag_M_g7, ag_M_g8, ag_M_g9, ag_M_g10, ag_M_g11, ag_M_g12, ag_M_g13, ag_M_g14, ag_M_g15, ag_M_g16, ag_M_g17, ag_M_g18, ag_M_g19, ag_M_g20, ag_M_g21, ag_M_g22, ag_M_g23, ag_M_g24, ag_M_ck, ag_SM_2, ag_M_p0 h, ag_M_p1 h, ag_M_p2 h, ag_M_p3 h, ag_M_p16 h, ag_M_p18 h, ag_M_p19 h, ag_M_p24 h, ag_M_ia0 h, ag_M_is0 h, ag_M_al0 h, ag_M_ia1 h, ag_M_is1 h, ag_M_al1 h, ag_M_ia2 h, ag_M_is2 h, ag_M_al2 h, ag_M_ia3 h, ag_M_is3 h, ag_M_al3 h, ag_M_ia4 h, ag_M_is4 h, ag_M_al4 h, ag_M_ia5 h, ag_M_is5 h, ag_M_al5 h, ag_M_ia6 h, ag_M_is6 h, ag_M_al6 h, ag_M_ia7 h, ag_M_is7 h, ag_M_al7 h, ag_M_ia8 h, ag_M_is8 h, ag_M_al8 h, ag_M_ia9 h, ag_M_is9 h, ag_M_al9 h, ag_M_ia10 h, ag_M_is10 h, ag_M_al10 h, ag_M_ia11 h, ag_M_is11 h, ag_M_al11 h, ag_M_ia12 h, ag_M_is12 h, ag_M_al12 h, ag_M_ia13 h, ag_M_is13 h, ag_M_al13 h, ag_M_ia14 h, ag_M_is14 h, ag_M_al14 h, ag_M_ia15 h, ag_M_is15 h, ag_M_al15 h, ag_M_ia16 h, ag_M_is16 h, ag_M_al16 h, ag_kk_v, ag_kk_n, Nat.reduceAdd, ag_b0, ag_b1, true_and, or_true, true_or, Int.reduceEq, ne_eq, not_false_eq_true, not_true_eq_false, ↓reduceIte, ag_nm_nat (show i ≤ 1000000 by omega), ag_nm_nat hl]
    rw [if_pos (show (l : Int) ≤ i by omega), show i = l by omega]
  | succ k ih =>
    intro i y1 y2 hi hy
    have ii : ag_inb l (i : Int) := ag_inb_nat (by omega) hl
    obtain ⟨f1, f2⟩ := hf i (by omega)
    have hia := fun g v => ag_B_ia (g := g) (v := v) h hz hc (i : Int)
    have hL := ag_R_sti_loop (σ := σ) (gb := gb) (gp := gp) (gh := gh) (r := r) (sg := sg) (th := th) (qu := qu) (mi := mi) (w := w) (n := n) (m := m) (np := np) h hn (q := ag_tdl t f u nq i) (x := f i) (u := u) (ag_tdl_nm ht hu i) f1 c l i z K nq 0 (by omega)
    rw [ag_td_0, ag_tdl_s f2] at hL
    have h2 := ih (i + 1) (some (ag_I (f i))) (some (ag_I nq)) (by omega) (Or.inr ⟨_, rfl⟩)
    rw [ag_i136_24]
    rcases hy with rfl | ⟨v, rfl⟩ <;>
    · simp only [ag_i136_26, ag_i136_28, ag_i136_31, ag_i136_32, ag_i136_34, ag_i136_35_n, ag_i136_35_i, ag_i136_35_r, ag_i136_37, ag_i136_38_n, ag_i136_38_i, ag_i136_38_r, ag_mv_0, ag_mv_u0, ag_mv_1, ag_mv_u1, ag_mv_2, ag_mv_u2, ag_mv_3, ag_mv_u3, ag_mv_4, ag_mv_u4, ag_mv_5, ag_mv_u5, ag_mv_6, ag_mv_u6, ag_mv_7, ag_mv_u7, ag_mg_0, ag_mg_u0, ag_mg_1, ag_mg_u1, ag_mg_2, ag_mg_u2, ag_mg_3, ag_mg_u3, ag_mg_4, ag_mg_u4, ag_mg_5, ag_mg_u5, ag_mg_6, ag_mg_u6, ag_mg_7, ag_mg_u7, ag_mg_8, ag_mg_u8, ag_mg_9, ag_mg_u9, ag_mg_10, ag_mg_u10, ag_mg_11, ag_mg_u11, ag_mg_12, ag_mg_u12, ag_mg_13, ag_mg_u13, ag_mg_14, ag_mg_u14, ag_mg_15, ag_mg_u15, ag_mg_16, ag_mg_u16, ag_M_g0, ag_M_g1, ag_M_g2, ag_M_g3, ag_M_g4, ag_M_g5, ag_M_g6, ag_M_g7, ag_M_g8, ag_M_g9, ag_M_g10, ag_M_g11, ag_M_g12, ag_M_g13, ag_M_g14, ag_M_g15, ag_M_g16, ag_M_g17, ag_M_g18, ag_M_g19, ag_M_g20, ag_M_g21, ag_M_g22, ag_M_g23, ag_M_g24, ag_M_ck, ag_SM_2, ag_M_p0 h, ag_M_p1 h, ag_M_p2 h, ag_M_p3 h, ag_M_p16 h, ag_M_p18 h, ag_M_p19 h, ag_M_p24 h, ag_M_ia0 h, ag_M_is0 h, ag_M_al0 h, ag_M_ia1 h, ag_M_is1 h, ag_M_al1 h, ag_M_ia2 h, ag_M_is2 h, ag_M_al2 h, ag_M_ia3 h, ag_M_is3 h, ag_M_al3 h, ag_M_ia4 h, ag_M_is4 h, ag_M_al4 h, ag_M_ia5 h, ag_M_is5 h, ag_M_al5 h, ag_M_ia6 h, ag_M_is6 h, ag_M_al6 h, ag_M_ia7 h, ag_M_is7 h, ag_M_al7 h, ag_M_ia8 h, ag_M_is8 h, ag_M_al8 h, ag_M_ia9 h, ag_M_is9 h, ag_M_al9 h, ag_M_ia10 h, ag_M_is10 h, ag_M_al10 h, ag_M_ia11 h, ag_M_is11 h, ag_M_al11 h, ag_M_ia12 h, ag_M_is12 h, ag_M_al12 h, ag_M_ia13 h, ag_M_is13 h, ag_M_al13 h, ag_M_ia14 h, ag_M_is14 h, ag_M_al14 h, ag_M_ia15 h, ag_M_is15 h, ag_M_al15 h, ag_M_ia16 h, ag_M_is16 h, ag_M_al16 h, ag_kk_v, ag_kk_n, Nat.reduceAdd, ag_b0, ag_b1, true_and, or_true, true_or, Int.reduceEq, ne_eq, not_false_eq_true, not_true_eq_false, ↓reduceIte, ag_nm_nat (show i ≤ 1000000 by omega), ag_nm_nat hl, hia, ii, ag_rd_nat hl (show i < l by omega)]
      rw [if_neg (show ¬ (l : Int) ≤ i by omega)]
      refine Eq.trans hL ?_
      simp only [ag_i136_75_n, ag_i136_75_i, ag_i136_75_r, ag_i136_78]
      exact h2
/-- a clause of the bill at its place, as the reference reads it -/
theorem ag_R_strike (h : ag_mi a ρ σ.2.1) (hB : ag_IB gb w n) (hr : ∀ i, i < n → r i = gb 6 i) (hn : nq ≤ 12) (ht : ∀ j, ag_nm (t j) = t j) {c : Int} {p : Nat} (hp : p < n) (p3 : ag_plc gb c = p) (p6 : gb 6 p = c) (p2 : ag_rd 40 (gb 2) c = ag_hg gb p) (p1 : ag_rd 40 (gb 1) c = ag_pg gb p) :
    ∃ σ' r', ag_fr σ σ' 1 (ag_edd gb n c - p) ∧ (∀ i, i < n - (ag_edd gb n c - p) → r' i = ag_gs gb n p (ag_edd gb n c) 6 i) ∧
    ∀ K, ag_cl9 136 [ag_R a, ag_I c] (ag_SM σ a ρ (ag_mg gb r gp t sg gh) (ag_mv th w n m nq np qu mi)) K = K (Sum.inl none) (ag_SM σ' a ρ (ag_mg (ag_gs gb n p (ag_edd gb n c)) r' gp (ag_tdl t (fun s => gb 6 (p + s)) (ag_pg gb p) nq (ag_edd gb n c - p)) sg gh) (ag_mv th w (n - (ag_edd gb n c - p) : Nat) m nq np qu mi)) := by
  have hw := hB.1.2.2
  have b1 := hB.2.1 p hp
  obtain ⟨k1, k2, k3, k4⟩ := ag_IB_blk hB hp p3 p2
  have hrr := ag_row_rg hB hr
  have hP := fun K => ag_R_pl_y (σ := σ) (gp := gp) (gh := gh) (t := t) (sg := sg) (th := th) (qu := qu) (mi := mi) (m := m) (nq := nq) (np := np) h hB hr hp p6 K
  obtain ⟨σ', z, f, r', q1, q2, q3, q4, q5, q6, q7⟩ := ag_R_cut (σ := σ) (gb := gb) (gp := gp) (gh := gh) (r := r) (t := t) (sg := sg) (th := th) (qu := qu) (mi := mi) (w := w) (n := n) (m := m) (nq := nq) (np := np) h (by omega) hrr hB.1.2.1 hp (ag_fce_edd hB hr hp p3 p2)
  obtain ⟨-, v1, v2, v3⟩ := ag_IB_hun hB hp
  have ic : ag_inb 40 c := by rw [← p6]; exact ag_inb_i b1.1 (by omega) (by decide)
  have hun : ag_nm (ag_pg gb p) = ag_pg gb p := ag_nm_of (by omega) (by omega)
  generalize hE : ag_edd gb n c = e at *
  have hfs : ∀ s, s < e - p → f s = gb 6 (p + s) := fun s hs => by rw [q5 s hs, hr _ (by omega)]
  have hf : ∀ s, s < e - p → ag_nm (f s) = f s ∧ f s ≠ ag_pg gb p := fun s hs => by
    have b2 := hB.2.1 (p + s) (by omega)
    rw [hfs s hs]
    refine ⟨ag_nm_of (by omega) (by omega), fun z => ?_⟩
    rcases v3 with ⟨-, v4⟩ | ⟨j, j1, j2, -, -⟩
    · omega
    · have := ag_IB_inj hB (i := p + s) (j := j) (by omega) (by omega) (by omega)
      omega
  have hL := fun y1 y2 hy K => ag_R_sto_loop (σ := σ') (gb := gb) (gp := gp) (gh := gh) (r := r') (sg := sg) (th := th) (qu := qu) (mi := mi) (w := w) (n := n - (e - p)) (m := m) (np := np) h hn ht hun hf q2 (by omega) q4 c K (e - p) 0 y1 y2 (by omega) hy
  refine ⟨σ', r', q1, fun i hi => ?_, fun K => ?_⟩
  · have e6 : ag_gs gb n p e 6 = ag_dr (gb 6) p e n := by simp [ag_gs, ag_ug]
    rw [e6, ag_dr_pcu k1 k2 hi, q6 i hi]
    unfold ag_pcu
    split <;> exact hr _ (by omega)
  · have e9 : ag_tdl t (fun s => gb 6 (p + s)) (ag_pg gb p) nq (e - p) = ag_tdl t f (ag_pg gb p) nq (e - p) := by
      funext j
      by_cases c1 : j < nq ∧ ∃ s, s < e - p ∧ f s = t j
      · have e1 : ag_tdl t f (ag_pg gb p) nq (e - p) j = ag_pg gb p := ag_if_t c1
        have e2 : ag_tdl t (fun s => gb 6 (p + s)) (ag_pg gb p) nq (e - p) j = ag_pg gb p := by
          obtain ⟨c2, s, s1, s2⟩ := c1
          exact ag_if_t ⟨c2, s, s1, by rw [← s2, hfs s s1]⟩
        rw [e1, e2]
      · have e1 : ag_tdl t f (ag_pg gb p) nq (e - p) j = t j := ag_if_f c1
        have e2 : ag_tdl t (fun s => gb 6 (p + s)) (ag_pg gb p) nq (e - p) j = t j := by
          refine ag_if_f (fun z => c1 ?_)
          obtain ⟨c2, s, s1, s2⟩ := z
          exact ⟨c2, s, s1, (hfs s s1).trans s2⟩
        rw [e1, e2]
    rw [e9, ag_mg_cg (gb := gb) (gb' := ag_gs gb n p e) (by simp [ag_gs, ag_ug]) (by simp [ag_gs, ag_ug]) (by simp [ag_gs, ag_ug]) (by simp [ag_gs, ag_ug])]
    have hL1 := hL none none (Or.inl rfl) K
    rw [ag_tdl_0] at hL1
    rw [← hL1]
    have hal := ag_B_al (g := ag_mg gb r' gp t sg gh) (v := ag_mv th w (n - (e - p) : Nat) m nq np qu mi) h q2 q4
    simp only [ag_i136_0, ag_i136_1, ag_i136_4, ag_i136_5, ag_i136_6_n, ag_i136_6_i, ag_i136_6_r, ag_i136_7, ag_i136_8, ag_i136_9, ag_i136_10, ag_i136_13, ag_i136_16_n, ag_i136_16_i, ag_i136_16_r, ag_i136_17, ag_i136_18, ag_i136_19_n, ag_i136_19_i, ag_i136_19_r, ag_i136_21, ag_i136_22_n, ag_i136_22_i, ag_i136_22_r, ag_e136, ag_mv_0, ag_mv_u0, ag_mv_1, ag_mv_u1, ag_mv_2, ag_mv_u2, ag_mv_3, ag_mv_u3, ag_mv_4, ag_mv_u4, ag_mv_5, ag_mv_u5, ag_mv_6, ag_mv_u6, ag_mv_7, ag_mv_u7, ag_mg_0, ag_mg_u0, ag_mg_1, ag_mg_u1, ag_mg_2, ag_mg_u2, ag_mg_3, ag_mg_u3, ag_mg_4, ag_mg_u4, ag_mg_5, ag_mg_u5, ag_mg_6, ag_mg_u6, ag_mg_7, ag_mg_u7, ag_mg_8, ag_mg_u8, ag_mg_9, ag_mg_u9, ag_mg_10, ag_mg_u10, ag_mg_11, ag_mg_u11, ag_mg_12, ag_mg_u12, ag_mg_13, ag_mg_u13, ag_mg_14, ag_mg_u14, ag_mg_15, ag_mg_u15, ag_mg_16, ag_mg_u16, ag_M_g0, ag_M_g1, ag_M_g2, ag_M_g3, ag_M_g4, ag_M_g5, ag_M_g6, ag_M_g7, ag_M_g8, ag_M_g9, ag_M_g10, ag_M_g11, ag_M_g12, ag_M_g13, ag_M_g14, ag_M_g15, ag_M_g16, ag_M_g17, ag_M_g18, ag_M_g19, ag_M_g20, ag_M_g21, ag_M_g22, ag_M_g23, ag_M_g24, ag_M_ck, ag_SM_2, ag_M_p0 h, ag_M_p1 h, ag_M_p2 h, ag_M_p3 h, ag_M_p16 h, ag_M_p18 h, ag_M_p19 h, ag_M_p24 h, ag_M_ia0 h, ag_M_is0 h, ag_M_al0 h, ag_M_ia1 h, ag_M_is1 h, ag_M_al1 h, ag_M_ia2 h, ag_M_is2 h, ag_M_al2 h, ag_M_ia3 h, ag_M_is3 h, ag_M_al3 h, ag_M_ia4 h, ag_M_is4 h, ag_M_al4 h, ag_M_ia5 h, ag_M_is5 h, ag_M_al5 h, ag_M_ia6 h, ag_M_is6 h, ag_M_al6 h, ag_M_ia7 h, ag_M_is7 h, ag_M_al7 h, ag_M_ia8 h, ag_M_is8 h, ag_M_al8 h, ag_M_ia9 h, ag_M_is9 h, ag_M_al9 h, ag_M_ia10 h, ag_M_is10 h, ag_M_al10 h, ag_M_ia11 h, ag_M_is11 h, ag_M_al11 h, ag_M_ia12 h, ag_M_is12 h, ag_M_al12 h, ag_M_ia13 h, ag_M_is13 h, ag_M_al13 h, ag_M_ia14 h, ag_M_is14 h, ag_M_al14 h, ag_M_ia15 h, ag_M_is15 h, ag_M_al15 h, ag_M_ia16 h, ag_M_is16 h, ag_M_al16 h, ag_kk_v, ag_kk_n, Nat.reduceAdd, ag_b0, ag_b1, true_and, or_true, true_or, Int.reduceEq, ne_eq, not_false_eq_true, not_true_eq_false, ↓reduceIte, ic, p1, hP, q7, hal]
    rfl
theorem ag_fce_is {h h' : Nat → Int} {n p g : Nat} (he : ∀ i, i < n → h' i = h i) (hb : ag_blk h n p g) : ag_fce h' n p = g := by
  obtain ⟨b1, b2, b3, b4⟩ := hb
  refine ag_ff_is (by omega) (by omega) (fun j j1 j2 => ?_) (fun q => ?_)
  · refine decide_eq_false ?_
    have := b3 j (by omega) j2
    rw [he j (by omega), he p (by omega)]
    omega
  · refine decide_eq_true ?_
    rw [he g (by omega), he p (by omega)]
    exact b4 (by omega)
theorem ag_bin_cg {r r' f f' : Nat → Int} {e d n : Nat} (he : e ≤ n) (h1 : ∀ i, i < n → r i = r' i) (h2 : ∀ i, i < d → f i = f' i) {i : Nat} (hi : i < n + d) : ag_bin r e d f i = ag_bin r' e d f' i := by
  unfold ag_bin
  by_cases c1 : i < e
  · rw [if_pos c1, if_pos c1, h1 i (by omega)]
  · rw [if_neg c1, if_neg c1]
    by_cases c2 : i < e + d
    · rw [if_pos c2, if_pos c2, h2 _ (by omega)]
    · rw [if_neg c2, if_neg c2, h1 _ (by omega)]
theorem ag_gm_6 {gb : Nat → Nat → Int} {n p e goal : Nat} {c x : Int} (hn : n ≤ 40) (hpe : p < e) (ho : goal ≤ p ∨ e ≤ goal) {i : Nat} (hi : i < n) : ag_gm gb n c x p e goal 6 i = ag_bin (ag_pcu (gb 6) p e) (if goal ≤ p then goal else goal - (e - p)) (e - p) (fun t => gb 6 (p + t)) i := by
  have e6 : ag_gm gb n c x p e goal 6 = ag_cf (ag_cf (ag_mb (gb 6) p e goal) (gb 7) n) (gb 6) 40 := by simp [ag_gm, ag_ug]
  rw [e6, ← ag_sx_bin hpe ho]
  unfold ag_cf
  rw [if_pos (by omega), if_pos hi, ag_mb_sx]
  split
  · rename_i k
    rw [show p + (ag_sx p e goal i - p) = ag_sx p e goal i by omega]
  · rfl
theorem ag_R_mvh_loop (h : ag_mi a ρ N) {f : Nat → Int} {d : Int} {l z p : Nat} (hz : N < z) (hl : p + l ≤ 40) (hc : σ.1 z = some (Sum.inl (l, f))) (hf : ∀ s, s < l → f s = gb 6 (p + s) ∧ 0 ≤ f s ∧ f s < 40) (c x : ag_V) (K : ag_Rs → ag_S → Prop) : ∀ (k i : Nat) (q : Nat → Int) (y : Option ag_V), i + k = l →
    ∃ y', ag_wp 137 36 [some (ag_R a), some c, some x, some (ag_R z), some (ag_I d), some (ag_R z), some (ag_I l), some (ag_I i), y] [] (ag_SM σ a ρ (ag_mg (ag_ug gb 2 q) r gp t sg gh) (ag_mv th w n m nq np qu mi)) K = ag_wp 137 68 [some (ag_R a), some c, some x, some (ag_R z), some (ag_I d), some (ag_R z), some (ag_I l), some (ag_I l), y'] [] (ag_SM σ a ρ (ag_mg (ag_ug gb 2 (ag_ra (gb 6) d q k (p + i))) r gp t sg gh) (ag_mv th w n m nq np qu mi)) K := by
  intro k
  induction k with
  | zero =>
    intro i q y hi
    refine ⟨y, ?_⟩
    rw [ag_i137_36]
    simp only [ag_i137_38, ag_i137_40, ag_nm_nat (show i ≤ 1000000 by omega), ag_nm_nat (show l ≤ 1000000 by omega)]
    rw [if_pos (show (l : Int) ≤ i by omega), show i = l by omega]
    rfl
  | succ k ih =>
    intro i q y hi
    have ii : ag_inb l (i : Int) := ag_inb_nat (by omega) (by omega)
    obtain ⟨f1, f2, f3⟩ := hf i (by omega)
    have i2 : ag_inb 40 (f i) := ag_inb_i f2 f3 (by decide)
    have hia := fun g v => ag_B_ia (g := g) (v := v) h hz hc (i : Int)
    obtain ⟨y', h2⟩ := ih (i + 1) (ag_wr 40 q (f i) (ag_rd 40 q (f i) + d)) (some (ag_I (f i))) (by omega)
    refine ⟨y', ?_⟩
    have e1 : ag_ra (gb 6) d q (k + 1) (p + i) = ag_ra (gb 6) d (ag_wr 40 q (f i) (ag_rd 40 q (f i) + d)) k (p + (i + 1)) := by
      rw [ag_ra, ag_rd_nat (by decide) (by omega), ← f1]
      rfl
    rw [e1, ← h2, ag_i137_36]
    simp only [ag_i137_38, ag_i137_40, ag_i137_43, ag_i137_45, ag_i137_47, ag_i137_48_n, ag_i137_48_i, ag_i137_48_r, ag_i137_50, ag_i137_51, ag_i137_54, ag_i137_56, ag_i137_57, ag_i137_58, ag_i137_60, ag_i137_61, ag_i137_62_n, ag_i137_62_i, ag_i137_62_r, ag_i137_65, ag_mv_0, ag_mv_u0, ag_mv_1, ag_mv_u1, ag_mv_2, ag_mv_u2, ag_mv_3, ag_mv_u3, ag_mv_4, ag_mv_u4, ag_mv_5, ag_mv_u5, ag_mv_6, ag_mv_u6, ag_mv_7, ag_mv_u7, ag_mg_0, ag_mg_u0, ag_mg_1, ag_mg_u1, ag_mg_2, ag_mg_u2, ag_mg_3, ag_mg_u3, ag_mg_4, ag_mg_u4, ag_mg_5, ag_mg_u5, ag_mg_6, ag_mg_u6, ag_mg_7, ag_mg_u7, ag_mg_8, ag_mg_u8, ag_mg_9, ag_mg_u9, ag_mg_10, ag_mg_u10, ag_mg_11, ag_mg_u11, ag_mg_12, ag_mg_u12, ag_mg_13, ag_mg_u13, ag_mg_14, ag_mg_u14, ag_mg_15, ag_mg_u15, ag_mg_16, ag_mg_u16, ag_M_g0, ag_M_g1, ag_M_g2, ag_M_g3, ag_M_g4, ag_M_g5, ag_M_g6, ag_M_g7, ag_M_g8, ag_M_g9, ag_M_g10, ag_M_g11, ag_M_g12, ag_M_g13, ag_M_g14, ag_M_g15, ag_M_g16, ag_M_g17, ag_M_g18, ag_M_g19, ag_M_g20, ag_M_g21, ag_M_g22, ag_M_g23, ag_M_g24, ag_M_ck, ag_SM_2, ag_M_p0 h, ag_M_p1 h, ag_M_p2 h, ag_M_p3 h, ag_M_p16 h, ag_M_p18 h, ag_M_p19 h, ag_M_p24 h, ag_M_ia0 h, ag_M_is0 h, ag_M_al0 h, ag_M_ia1 h, ag_M_is1 h, ag_M_al1 h, ag_M_ia2 h, ag_M_is2 h, ag_M_al2 h, ag_M_ia3 h, ag_M_is3 h, ag_M_al3 h, ag_M_ia4 h, ag_M_is4 h, ag_M_al4 h, ag_M_ia5 h, ag_M_is5 h, ag_M_al5 h, ag_M_ia6 h, ag_M_is6 h, ag_M_al6 h, ag_M_ia7 h, ag_M_is7 h, ag_M_al7 h, ag_M_ia8 h, ag_M_is8 h, ag_M_al8 h, ag_M_ia9 h, ag_M_is9 h, ag_M_al9 h, ag_M_ia10 h, ag_M_is10 h, ag_M_al10 h, ag_M_ia11 h, ag_M_is11 h, ag_M_al11 h, ag_M_ia12 h, ag_M_is12 h, ag_M_al12 h, ag_M_ia13 h, ag_M_is13 h, ag_M_al13 h, ag_M_ia14 h, ag_M_is14 h, ag_M_al14 h, ag_M_ia15 h, ag_M_is15 h, ag_M_al15 h, ag_M_ia16 h, ag_M_is16 h, ag_M_al16 h, ag_kk_v, ag_kk_n, Nat.reduceAdd, ag_b0, ag_b1, true_and, or_true, true_or, Int.reduceEq, ne_eq, not_false_eq_true, not_true_eq_false, ↓reduceIte, ag_ug_at, ag_ui_at, Nat.reduceEqDiff, ↓reduceIte, ag_ug_2, ag_nm_nat (show i ≤ 1000000 by omega), ag_nm_nat (show l ≤ 1000000 by omega), hia, ii, ag_rd_nat (show l ≤ 1000000 by omega) (show i < l by omega), i2]
    rw [if_neg (show ¬ (l : Int) ≤ i by omega)]
    rfl
theorem ag_R_move (h : ag_mi a ρ σ.2.1) (hB : ag_IB gb w n) (hr : ∀ i, i < n → r i = gb 6 i) {c x : Int} {p q : Nat} (hp : p < n) (p3 : ag_plc gb c = p) (p6 : gb 6 p = c) (p2 : ag_rd 40 (gb 2) c = ag_hg gb p) (hq : q < n) (q3 : ag_plc gb x = q) (q6 : gb 6 q = x) (q2 : ag_rd 40 (gb 2) x = ag_hg gb q)
    (ho : q < p ∨ ag_edd gb n c ≤ q) (hS : ag_sm (ag_gm gb n c x p (ag_edd gb n c) (ag_edd gb n x))) :
    ∃ σ' r', ag_fr σ σ' 1 (ag_edd gb n c - p) ∧ (∀ i, i < n → r' i = ag_gm gb n c x p (ag_edd gb n c) (ag_edd gb n x) 6 i) ∧
    ∀ K, ag_cl9 137 [ag_R a, ag_I c, ag_I x] (ag_SM σ a ρ (ag_mg gb r gp t sg gh) (ag_mv th w n m nq np qu mi)) K = K (Sum.inl none) (ag_SM σ' a ρ (ag_mg (ag_gm gb n c x p (ag_edd gb n c) (ag_edd gb n x)) r' gp t sg gh) (ag_mv th w n m nq np qu mi)) := by
  have hw := hB.1.2.2
  have b1 := hB.2.1 p hp
  have b2 := hB.2.1 q hq
  have hk := ag_IB_blk hB hp p3 p2
  have hkq := ag_IB_blk hB hq q3 q2
  obtain ⟨hgo, hbc⟩ := ag_blk_cut hk hkq ho
  obtain ⟨k1, k2, -, -⟩ := hk
  have k5 := hkq.2.1
  have hrr := ag_row_rg hB hr
  have hP := fun K => ag_R_pl_y (σ := σ) (gp := gp) (gh := gh) (t := t) (sg := sg) (th := th) (qu := qu) (mi := mi) (m := m) (nq := nq) (np := np) h hB hr hp p6 K
  obtain ⟨σ1, z, f, r1, u1, u2, u3, u4, u5, u6, u7⟩ := ag_R_cut (σ := σ) (gb := gb) (gp := gp) (gh := gh) (r := r) (t := t) (sg := sg) (th := th) (qu := qu) (mi := mi) (w := w) (n := n) (m := m) (nq := nq) (np := np) h (by omega) hrr hB.1.2.1 hp (ag_fce_edd hB hr hp p3 p2)
  have ic : ag_inb 40 c := by rw [← p6]; exact ag_inb_i b1.1 (by omega) (by decide)
  have ix : ag_inb 40 x := by rw [← q6]; exact ag_inb_i b2.1 (by omega) (by decide)
  generalize hE : ag_edd gb n c = e at *
  generalize hG : ag_edd gb n x = goal at *
  have hf : ∀ s, s < e - p → f s = gb 6 (p + s) ∧ 0 ≤ f s ∧ f s < 40 := fun s hs => by
    have b3 := hB.2.1 (p + s) (by omega)
    have e1 : f s = gb 6 (p + s) := by rw [u5 s hs, hr _ (by omega)]
    rw [e1]
    exact ⟨rfl, b3.1, by omega⟩
  have hr1 : ∀ i, i < n - (e - p) → r1 i = ag_pcu (gb 6) p e i := fun i hi => by
    rw [u6 i hi]
    unfold ag_pcu
    split <;> exact hr _ (by omega)
  have hr1g : ∀ i, i < n - (e - p) → 0 ≤ r1 i ∧ r1 i < 40 := fun i hi => by
    rw [hr1 i hi]
    unfold ag_pcu
    split
    · have := hB.2.1 i (by omega); omega
    · have := hB.2.1 (i + (e - p)) (by omega); omega
  generalize hd : ag_rd 40 (gb 2) x - ag_rd 40 (gb 2) c = d
  -- the rows once raised
  generalize hg1 : ag_ug (ag_ug gb 2 (ag_ra (gb 6) d (gb 2) (e - p) p)) 1 (ag_wr 40 (gb 1) c (ag_rd 40 (gb 1) x)) = g1
  have g10 : ∀ k, k ≠ 1 → k ≠ 2 → g1 k = gb k := fun k k1 k2 => by rw [← hg1, ag_ug_ne _ _ k1, ag_ug_ne _ _ k2]
  have g11 : g1 1 = ag_wr 40 (gb 1) c (ag_rd 40 (gb 1) x) := by rw [← hg1, ag_ug_same]
  have g12 : g1 2 = ag_ra (gb 6) d (gb 2) (e - p) p := by rw [← hg1, ag_ug_ne _ _ (by decide), ag_ug_same]
  have m0 : ag_gm gb n c x p e goal 0 = g1 0 := by rw [g10 0 (by decide) (by decide)]; simp [ag_gm, ag_ug]
  have m1 : ag_gm gb n c x p e goal 1 = g1 1 := by rw [g11]; simp [ag_gm, ag_ug]
  have m2 : ag_gm gb n c x p e goal 2 = g1 2 := by rw [g12, ← hd]; simp [ag_gm, ag_ug]
  have m3 : ag_gm gb n c x p e goal 3 = g1 3 := by rw [g10 3 (by decide) (by decide)]; simp [ag_gm, ag_ug]
  have hs1 : ag_sm g1 := by
    intro k j
    by_cases k1 : k = 1
    · rw [k1, ← m1]; exact hS 1 j
    · by_cases k2 : k = 2
      · rw [k2, ← m2]; exact hS 2 j
      · rw [g10 k k1 k2]; exact hB.1.2.1 k j
  have hh : ∀ i, i < n - (e - p) → g1 2 (r1 i).toNat = ag_pcu (ag_hg gb) p e i := fun i hi => by
    have hx : ∀ j, j < n → (j < p ∨ e ≤ j) → ag_ra (gb 6) d (gb 2) (e - p) p (gb 6 j).toNat = ag_hg gb j := fun j hj ho2 => by
      have b3 := hB.2.1 j hj
      rw [ag_ra_no _ _ _ (fun t _ _ => by have := hB.2.1 t (by omega); omega) (by omega) (fun t t1 t2 k2 => by
        have := ag_IB_inj hB (i := t) (j := j) (by omega) hj (by omega)
        omega)]
      rfl
    rw [g12, hr1 i hi]
    unfold ag_pcu
    split
    · exact hx i (by omega) (Or.inl (by omega))
    · exact hx _ (by omega) (Or.inr (by omega))
  obtain ⟨w1, w2, w3, w4⟩ := hbc
  have hpq : ag_pc p e q < n - (e - p) := by omega
  have hPx := fun K => ag_R_placeOf (σ := σ1) (gb := g1) (gp := gp) (gh := gh) (r := r1) (t := t) (sg := sg) (th := th) (qu := qu) (mi := mi) (w := w) (n := n - (e - p)) (m := m) (nq := nq) (np := np) h (by omega) hr1g (c := x) (ag_nm_of (by omega) (by omega)) K
  have hfx : ag_fcp r1 (n - (e - p)) x = ag_pc p e q := by
    refine ag_ff_is (Nat.zero_le _) (by omega) (fun j _ hj => ?_) (fun _ => ?_)
    · refine decide_eq_false (fun k => ?_)
      rw [hr1 j (by omega), ← q6] at k
      unfold ag_pcu at k
      unfold ag_pc at hj
      split at k <;> split at hj <;> have := ag_IB_inj hB (by omega) hq k <;> omega
    · refine decide_eq_true ?_
      rw [hr1 _ hpq, ag_pcu_pc k1 ho, q6]
  rw [hfx] at hPx
  have hEx := fun K => ag_R_endOf (σ := σ1) (gb := g1) (gp := gp) (gh := gh) (r := r1) (t := t) (sg := sg) (th := th) (qu := qu) (mi := mi) (w := w) (n := n - (e - p)) (m := m) (nq := nq) (np := np) h (by omega) hr1g hs1 hpq K
  rw [ag_fce_is hh ⟨w1, w2, w3, w4⟩] at hEx
  obtain ⟨r2, x1, x2⟩ := ag_R_insert (σ := σ1) (gb := g1) (gp := gp) (gh := gh) (r := r1) (t := t) (sg := sg) (th := th) (qu := qu) (mi := mi) (w := w) (n := n - (e - p)) (m := m) (nq := nq) (np := np) h u2 u4 w2 (by omega)
  refine ⟨σ1, r2, u1, fun i hi => ?_, fun K => ?_⟩
  · rw [ag_gm_6 (by omega) k1 hgo hi, x1 i (by omega)]
    exact ag_bin_cg w2 hr1 (fun s hs => (hf s hs).1) (by omega)
  · obtain ⟨y', hL⟩ := ag_R_mvh_loop (σ := σ1) (gb := gb) (gp := gp) (gh := gh) (r := r1) (t := t) (sg := sg) (th := th) (qu := qu) (mi := mi) (w := w) (n := n - (e - p)) (m := m) (nq := nq) (np := np) h (d := d) u2 (by omega) u4 hf (ag_I c) (ag_I x) K (e - p) 0 (gb 2) none (by omega)
    rw [ag_ug_self, Nat.add_zero] at hL
    rw [show n - (e - p) + (e - p) = n by omega] at x2
    rw [ag_mg_cg (gb := g1) m0 m1 m2 m3, ← x2 K]
    have hal := ag_B_al (g := ag_mg gb r1 gp t sg gh) (v := ag_mv th w (n - (e - p) : Nat) m nq np qu mi) h u2 u4
    simp only [ag_i137_0, ag_i137_1, ag_i137_2, ag_i137_3, ag_i137_6, ag_i137_9_n, ag_i137_9_i, ag_i137_9_r, ag_i137_10, ag_i137_11, ag_i137_14, ag_i137_15, ag_i137_16, ag_i137_17, ag_i137_20, ag_i137_21, ag_i137_22, ag_i137_23_n, ag_i137_23_i, ag_i137_23_r, ag_i137_25, ag_i137_26_n, ag_i137_26_i, ag_i137_26_r, ag_i137_28, ag_i137_30, ag_i137_31_n, ag_i137_31_i, ag_i137_31_r, ag_i137_33, ag_i137_34_n, ag_i137_34_i, ag_i137_34_r, ag_e137, ag_mv_0, ag_mv_u0, ag_mv_1, ag_mv_u1, ag_mv_2, ag_mv_u2, ag_mv_3, ag_mv_u3, ag_mv_4, ag_mv_u4, ag_mv_5, ag_mv_u5, ag_mv_6, ag_mv_u6, ag_mv_7, ag_mv_u7, ag_mg_0, ag_mg_u0, ag_mg_1, ag_mg_u1, ag_mg_2, ag_mg_u2, ag_mg_3, ag_mg_u3, ag_mg_4, ag_mg_u4, ag_mg_5, ag_mg_u5, ag_mg_6, ag_mg_u6, ag_mg_7, ag_mg_u7, ag_mg_8, ag_mg_u8, ag_mg_9, ag_mg_u9, ag_mg_10, ag_mg_u10, ag_mg_11, ag_mg_u11, ag_mg_12, ag_mg_u12, ag_mg_13, ag_mg_u13, ag_mg_14, ag_mg_u14, ag_mg_15, ag_mg_u15, ag_mg_16, ag_mg_u16, ag_M_g0, ag_M_g1, ag_M_g2, ag_M_g3, ag_M_g4, ag_M_g5, ag_M_g6, ag_M_g7, ag_M_g8, ag_M_g9, ag_M_g10, ag_M_g11, ag_M_g12, ag_M_g13, ag_M_g14, ag_M_g15, ag_M_g16, ag_M_g17, ag_M_g18, ag_M_g19, ag_M_g20, ag_M_g21, ag_M_g22, ag_M_g23, ag_M_g24, ag_M_ck, ag_SM_2, ag_M_p0 h, ag_M_p1 h, ag_M_p2 h, ag_M_p3 h, ag_M_p16 h, ag_M_p18 h, ag_M_p19 h, ag_M_p24 h, ag_M_ia0 h, ag_M_is0 h, ag_M_al0 h, ag_M_ia1 h, ag_M_is1 h, ag_M_al1 h, ag_M_ia2 h, ag_M_is2 h, ag_M_al2 h, ag_M_ia3 h, ag_M_is3 h, ag_M_al3 h, ag_M_ia4 h, ag_M_is4 h, ag_M_al4 h, ag_M_ia5 h, ag_M_is5 h, ag_M_al5 h, ag_M_ia6 h, ag_M_is6 h, ag_M_al6 h, ag_M_ia7 h, ag_M_is7 h, ag_M_al7 h, ag_M_ia8 h, ag_M_is8 h, ag_M_al8 h, ag_M_ia9 h, ag_M_is9 h, ag_M_al9 h, ag_M_ia10 h, ag_M_is10 h, ag_M_al10 h, ag_M_ia11 h, ag_M_is11 h, ag_M_al11 h, ag_M_ia12 h, ag_M_is12 h, ag_M_al12 h, ag_M_ia13 h, ag_M_is13 h, ag_M_al13 h, ag_M_ia14 h, ag_M_is14 h, ag_M_al14 h, ag_M_ia15 h, ag_M_is15 h, ag_M_al15 h, ag_M_ia16 h, ag_M_is16 h, ag_M_al16 h, ag_kk_v, ag_kk_n, Nat.reduceAdd, ag_b0, ag_b1, true_and, or_true, true_or, Int.reduceEq, ne_eq, not_false_eq_true, not_true_eq_false, ↓reduceIte, ic, ix, hP, u7, hal, hd]
    refine Eq.trans hL ?_
    have e5 : ag_mg (ag_ug (ag_ug gb 2 (ag_ra (gb 6) d (gb 2) (e - p) p)) 1 (ag_wr 40 (gb 1) c (ag_rd 40 (gb 1) x))) r1 gp t sg gh = ag_mg g1 r1 gp t sg gh := by rw [hg1]
    simp only [ag_i137_68, ag_i137_69, ag_i137_72, ag_i137_73, ag_i137_74, ag_i137_77, ag_i137_78, ag_i137_79, ag_i137_80, ag_i137_81, ag_i137_82, ag_i137_83, ag_i137_84, ag_i137_87, ag_i137_90, ag_i137_91, ag_i137_94, ag_mv_0, ag_mv_u0, ag_mv_1, ag_mv_u1, ag_mv_2, ag_mv_u2, ag_mv_3, ag_mv_u3, ag_mv_4, ag_mv_u4, ag_mv_5, ag_mv_u5, ag_mv_6, ag_mv_u6, ag_mv_7, ag_mv_u7, ag_mg_0, ag_mg_u0, ag_mg_1, ag_mg_u1, ag_mg_2, ag_mg_u2, ag_mg_3, ag_mg_u3, ag_mg_4, ag_mg_u4, ag_mg_5, ag_mg_u5, ag_mg_6, ag_mg_u6, ag_mg_7, ag_mg_u7, ag_mg_8, ag_mg_u8, ag_mg_9, ag_mg_u9, ag_mg_10, ag_mg_u10, ag_mg_11, ag_mg_u11, ag_mg_12, ag_mg_u12, ag_mg_13, ag_mg_u13, ag_mg_14, ag_mg_u14, ag_mg_15, ag_mg_u15, ag_mg_16, ag_mg_u16, ag_M_g0, ag_M_g1, ag_M_g2, ag_M_g3, ag_M_g4, ag_M_g5, ag_M_g6, ag_M_g7, ag_M_g8, ag_M_g9, ag_M_g10, ag_M_g11, ag_M_g12, ag_M_g13, ag_M_g14, ag_M_g15, ag_M_g16, ag_M_g17, ag_M_g18, ag_M_g19, ag_M_g20, ag_M_g21, ag_M_g22, ag_M_g23, ag_M_g24, ag_M_ck, ag_SM_2, ag_M_p0 h, ag_M_p1 h, ag_M_p2 h, ag_M_p3 h, ag_M_p16 h, ag_M_p18 h, ag_M_p19 h, ag_M_p24 h, ag_M_ia0 h, ag_M_is0 h, ag_M_al0 h, ag_M_ia1 h, ag_M_is1 h, ag_M_al1 h, ag_M_ia2 h, ag_M_is2 h, ag_M_al2 h, ag_M_ia3 h, ag_M_is3 h, ag_M_al3 h, ag_M_ia4 h, ag_M_is4 h, ag_M_al4 h, ag_M_ia5 h, ag_M_is5 h, ag_M_al5 h, ag_M_ia6 h, ag_M_is6 h, ag_M_al6 h, ag_M_ia7 h, ag_M_is7 h, ag_M_al7 h, ag_M_ia8 h, ag_M_is8 h, ag_M_al8 h, ag_M_ia9 h, ag_M_is9 h, ag_M_al9 h, ag_M_ia10 h, ag_M_is10 h, ag_M_al10 h, ag_M_ia11 h, ag_M_is11 h, ag_M_al11 h, ag_M_ia12 h, ag_M_is12 h, ag_M_al12 h, ag_M_ia13 h, ag_M_is13 h, ag_M_al13 h, ag_M_ia14 h, ag_M_is14 h, ag_M_al14 h, ag_M_ia15 h, ag_M_is15 h, ag_M_al15 h, ag_M_ia16 h, ag_M_is16 h, ag_M_al16 h, ag_kk_v, ag_kk_n, Nat.reduceAdd, ag_b0, ag_b1, true_and, or_true, true_or, Int.reduceEq, ne_eq, not_false_eq_true, not_true_eq_false, ↓reduceIte, ag_ug_at, ag_ui_at, Nat.reduceEqDiff, ↓reduceIte, ic, ix, hg1, hPx, hEx, x2]
end AGR5
