/-! THE OFFICE: what its objects' methods answer, at a store that holds it. -/
variable {B : Nat}
def ag_vH (np : Nat) (qu li : Int) : Nat → Int := fun k => if k = 0 then (np : Int) else if k = 1 then qu else if k = 2 then li else 0
theorem ag_vH_0 (np : Nat) (qu li : Int) : ag_vH np qu li 0 = np := rfl
theorem ag_vH_1 (np : Nat) (qu li : Int) : ag_vH np qu li 1 = qu := rfl
theorem ag_vH_2 (np : Nat) (qu li : Int) : ag_vH np qu li 2 = li := rfl
theorem ag_vH_u0 (np : Nat) (qu li : Int) : ag_ui (ag_vH np qu li) 0 ((np : Int) + 1) = ag_vH (np + 1) qu li := by
  funext k
  by_cases h : k = 0
  · subst h; rfl
  · simp [ag_ui, ag_vH, h]
theorem ag_vH_u1 (np : Nat) (qu li x : Int) : ag_ui (ag_vH np qu li) 1 x = ag_vH np x li := by
  funext k
  by_cases h : k = 1
  · subst h; rfl
  · simp [ag_ui, ag_vH, h]
theorem ag_vH_u2 (np : Nat) (qu li x : Int) : ag_ui (ag_vH np qu li) 2 x = ag_vH np qu x := by
  funext k
  by_cases h : k = 2
  · subst h; rfl
  · simp [ag_ui, ag_vH, h]
/-- the House in order -/
def ag_HI (gh : Nat → Nat → Int) (np : Nat) (qu li : Int) : Prop := ag_sm gh ∧ np ≤ 5 ∧ (0 ≤ qu ∧ qu ≤ 100) ∧ (-1 ≤ li ∧ li ≤ 300) ∧ (∀ p, p < np → 1 ≤ gh 0 p ∧ gh 0 p ≤ 99) ∧ (∀ p, 0 ≤ gh 1 p ∧ gh 1 p ≤ 300)
/-- the Petitions in order -/
def ag_QI (gq gb : Nat → Nat → Int) (w nq : Nat) : Prop := ag_sm gq ∧ nq ≤ 12 ∧ ∀ p, p < nq → gq 0 p = -1 ∨ (0 ≤ gq 0 p ∧ gq 0 p < w ∧ gb 5 (gq 0 p).toNat ≠ -1)
/-- whether the bill holds a clause -/
def ag_hld (S : ag_T) (c : Int) : Prop := 0 ≤ ag_nm c ∧ ag_nm c < S.2.1 ∧ ag_rd 40 (S.1 5) c ≠ -1
def ag_kno (w : Nat) (c : Int) : Prop := 0 ≤ ag_nm c ∧ ag_nm c < w
def ag_tx (x : Int) : Prop := 0 ≤ ag_nm x ∧ ag_nm x ≤ 999
noncomputable def ag_if (c : Prop) (a b : Int) : Int := @ite Int c (Classical.propDecidable c) a b
theorem ag_if_t {c : Prop} {a b : Int} (h : c) : ag_if c a b = a := by
  unfold ag_if
  exact if_pos h
theorem ag_if_f {c : Prop} {a b : Int} (h : ¬ c) : ag_if c a b = b := by
  unfold ag_if
  exact if_neg h
theorem ag_if_eq (c : Prop) [Decidable c] (a b : Int) : (if c then a else b) = ag_if c a b := by
  by_cases h : c
  · rw [if_pos h, ag_if_t h]
  · rw [if_neg h, ag_if_f h]
section AGY
variable {τ : ag_S} {H Q : ag_O} {S : ag_T} {m : Nat} {T : ag_T} {mt : Nat} {en : Nat → Int}
theorem ag_Y_holds (h : ag_CX B τ H Q S m T mt en) (hV : ag_IV S m) (c : Int) (K : ag_Rs → ag_S → Prop) : ag_cl9 7 [ag_R (B + 11), ag_I c] τ K = K (Sum.inl (some (ag_I (ag_if (ag_hld S c) 1 0)))) τ := by
  have := ag_CB_ro h.2.2.2.2.1 (fun σ K => ag_B_holds σ (c := c) K (ag_vB_0 _ _) hV.1.1.2.1 (by have := hV.1.1.2.2; omega)) K
  rw [ag_if_eq] at this
  exact this
theorem ag_Y_knows (h : ag_CX B τ H Q S m T mt en) (hV : ag_IV S m) (c : Int) (K : ag_Rs → ag_S → Prop) : ag_cl9 6 [ag_R (B + 11), ag_I c] τ K = K (Sum.inl (some (ag_I (ag_if (ag_kno S.2.1 c) 1 0)))) τ := by
  have := ag_CB_ro h.2.2.2.2.1 (fun σ K => ag_B_knows σ (c := c) K (ag_vB_0 _ _) (by have := hV.1.1.2.2; omega)) K
  rw [ag_if_eq] at this
  exact this
theorem ag_Y_isFull (h : ag_CX B τ H Q S m T mt en) (hV : ag_IV S m) (K : ag_Rs → ag_S → Prop) : ag_cl9 5 [ag_R (B + 11)] τ K = K (Sum.inl (some (ag_I (ag_if (40 ≤ S.2.1) 1 0)))) τ := by
  have := ag_CB_ro h.2.2.2.2.1 (fun σ K => ag_B_isFull σ K (ag_vB_0 _ _) (by have := hV.1.1.2.2; omega)) K
  rw [ag_if_eq] at this
  exact this
theorem ag_Y_highUnder (h : ag_CX B τ H Q S m T mt en) (c : Int) (K : ag_Rs → ag_S → Prop) : ag_cl9 8 [ag_R (B + 11), ag_I c] τ K = K (Sum.inl (some (ag_I (ag_hun S.1 c)))) τ :=
  ag_CB_ro h.2.2.2.2.1 (fun σ K => ag_B_highUnder σ (c := c) K) K
theorem ag_Y_endOf (h : ag_CX B τ H Q S m T mt en) (hV : ag_IV S m) {c : Int} {p : Nat} (hp : ag_rd 40 (S.1 5) c = p) (hpn : p < S.2.2.1) (K : ag_Rs → ag_S → Prop) : ag_cl9 9 [ag_R (B + 11), ag_I c] τ K = K (Sum.inl (some (ag_I (ag_edd S.1 S.2.2.1 c : Nat)))) τ := by
  have := ag_CB_ro h.2.2.2.2.1 (fun σ K => ag_B_endOf σ (c := c) K (ag_vB_1 _ _) hV.1.1.2.1 (by have := hV.1.1.2.2; omega) hp hpn) K
  unfold ag_edd ag_plc
  rw [hp, Int.toNat_natCast]
  exact this
theorem ag_Y_sumBelow (h : ag_CX B τ H Q S m T mt en) (hV : ag_IV S m) (K : ag_Rs → ag_S → Prop) : ag_cl9 12 [ag_R (B + 11)] τ K = K (Sum.inl (some (ag_I (ag_sb S.1 S.2.2.1 0)))) τ :=
  ag_CB_ro h.2.2.2.2.1 (fun σ K => ag_B_sumBelow σ K (ag_vB_1 _ _) (by have := hV.1.1.2.2; omega)) K
/-- below -/
noncomputable def ag_bel (S : ag_T) (c : Int) : Int := ag_if (ag_hld S c) ((ag_edd S.1 S.2.2.1 c : Nat) - (ag_plc S.1 c : Nat) - 1) 0
theorem ag_Y_below (h : ag_CX B τ H Q S m T mt en) (hV : ag_IV S m) {c : Int} (h0 : 0 ≤ c) (h1 : c < S.2.1) (K : ag_Rs → ag_S → Prop) : ag_cl9 11 [ag_R (B + 11), ag_I c] τ K = K (Sum.inl (some (ag_I (ag_bel S c)))) τ := by
  have hw := hV.1.1.2.2
  have e1 : ag_nm c = c := ag_nm_of (by omega) (by omega)
  have e2 : ag_rd 40 (S.1 5) c = S.1 5 c.toNat := ag_rd_i (by first | decide | omega) h0 (by omega)
  unfold ag_bel
  by_cases q : S.1 5 c.toNat = -1
  · have := ag_CB_ro h.2.2.2.2.1 (fun σ K => ag_B_below_0 σ (c := c) K (ag_vB_0 _ _) hV.1.1.2.1 (by omega) h0 h1 (e2.trans q)) K
    rw [ag_if_f (fun z => z.2.2 (e2.trans q))]
    exact this
  · obtain ⟨p, p1, p2, p3, p4, p5⟩ := ag_IB_at hV.1 h0 h1 q
    have := ag_CB_ro h.2.2.2.2.1 (fun σ K => ag_B_below σ (c := c) K (ag_vB_0 _ _) (ag_vB_1 _ _) hV.1.1.2.1 (by omega) (by omega) h0 h1 p2 p1) K
    rw [ag_if_t ⟨by omega, by omega, by rw [p2]; omega⟩, p3]
    unfold ag_edd
    rw [p3]
    exact this
theorem ag_Y_pFull (h : ag_CX B τ H Q S m T mt en) (hV : ag_IV S m) (K : ag_Rs → ag_S → Prop) : ag_cl9 44 [ag_R (B + 20)] τ K = K (Sum.inl (some (ag_I (ag_if (20 ≤ m) 1 0)))) τ := by
  have := ag_CP_ro h.2.2.2.2.2.1 (fun σ K => ag_P_isFull σ K (ag_vP_0 _) hV.2.1.1.2.2) K
  rw [ag_if_eq] at this
  exact this
theorem ag_Y_pknows (h : ag_CX B τ H Q S m T mt en) (hV : ag_IV S m) (c : Int) (K : ag_Rs → ag_S → Prop) : ag_cl9 45 [ag_R (B + 20), ag_I c] τ K = K (Sum.inl (some (ag_I (ag_if (ag_kno m c) 1 0)))) τ := by
  have := ag_CP_ro h.2.2.2.2.2.1 (fun σ K => ag_P_knows σ (c := c) K (ag_vP_0 _) hV.2.1.1.2.2) K
  rw [ag_if_eq] at this
  exact this
def ag_lad (S : ag_T) (m : Nat) (c : Int) : Prop := 0 ≤ ag_nm c ∧ ag_nm c < m ∧ ag_rd 20 (S.2.2.2 3) c = 0
def ag_txa (S : ag_T) (c : Int) : Prop := 2 ≤ ag_rd 20 (S.2.2.2 0) c ∧ ag_rd 20 (S.2.2.2 0) c ≤ 4
theorem ag_Y_isLaid (h : ag_CX B τ H Q S m T mt en) (hV : ag_IV S m) (c : Int) (K : ag_Rs → ag_S → Prop) : ag_cl9 46 [ag_R (B + 20), ag_I c] τ K = K (Sum.inl (some (ag_I (ag_if (ag_lad S m c) 1 0)))) τ := by
  have := ag_CP_ro h.2.2.2.2.2.1 (fun σ K => ag_P_isLaid σ (c := c) K (ag_vP_0 _) hV.2.1.1.2.2 hV.2.1.1.2.1) K
  rw [ag_if_eq] at this
  exact this
theorem ag_Y_hasText (h : ag_CX B τ H Q S m T mt en) (hV : ag_IV S m) (c : Int) (K : ag_Rs → ag_S → Prop) : ag_cl9 47 [ag_R (B + 20), ag_I c] τ K = K (Sum.inl (some (ag_I (ag_if (ag_txa S c) 1 0)))) τ := by
  have := ag_CP_ro h.2.2.2.2.2.1 (fun σ K => ag_P_hasText σ (c := c) K hV.2.1.1.2.1) K
  rw [ag_if_eq] at this
  exact this
theorem ag_Y_fact (h : ag_CX B τ H Q S m T mt en) {k : Nat} (hk : k ≤ 5) (c : Int) (K : ag_Rs → ag_S → Prop) : ag_cl9 49 [ag_R (B + 20), ag_I c, ag_I k] τ K = K (Sum.inl (some (ag_I (ag_rd 20 (S.2.2.2 k) c)))) τ :=
  ag_CP_ro h.2.2.2.2.2.1 (fun σ K => ag_P_fact σ (c := c) K hk) K
/-- how many stand so -/
def ag_cnt (gp : Nat → Nat → Int) (m : Nat) (s : Int) : Nat := ag_ct (fun i => decide (gp 3 i = s)) m 0
theorem ag_Y_countOf (h : ag_CX B τ H Q S m T mt en) (hV : ag_IV S m) {s : Int} (hs : ag_nm s = s) (K : ag_Rs → ag_S → Prop) : ag_cl9 50 [ag_R (B + 20), ag_I s] τ K = K (Sum.inl (some (ag_I (ag_cnt S.2.2.2 m s)))) τ :=
  ag_CP_ro h.2.2.2.2.2.1 (fun σ K => ag_P_countOf σ K (ag_vP_0 _) hV.2.1.1.2.2 hV.2.1.1.2.1 hs) K
theorem ag_Y_tcountOf (h : ag_CX B τ H Q S m T mt en) (hV : ag_IV T mt) {s : Int} (hs : ag_nm s = s) (K : ag_Rs → ag_S → Prop) : ag_cl9 50 [ag_R (B + 37), ag_I s] τ K = K (Sum.inl (some (ag_I (ag_cnt T.2.2.2 mt s)))) τ :=
  ag_CP_ro h.2.2.2.2.2.2.2.2.1 (fun σ K => ag_P_countOf σ K (ag_vP_0 _) hV.2.1.1.2.2 hV.2.1.1.2.1 hs) K
theorem ag_Y_settle (h : ag_CX B τ H Q S m T mt en) (hV : ag_IV S m) {c s y : Int} (hc : ag_nm c = c) (hn : ag_nm s = s) (K : ag_Rs → ag_S → Prop) : ag_cl9 52 [ag_R (B + 20), ag_I c, ag_I s, ag_I y] τ K = K (Sum.inl none) (ag_SP τ (B + 20) (ag_set S.2.2.2 c s y m) (ag_vP m)) :=
  ag_CP_rw h.2.2.2.2.2.1 (fun σ K => ag_P_settle σ (c := c) (s := s) (y := y) K (ag_vP_0 _) hV.2.1.1.2.2 (by first | decide | omega) hV.2.1.1.2.1 hc hn) K
def ag_adp (gp : Nat → Nat → Int) (m : Nat) (k t o : Int) : Nat → Nat → Int := ag_ug (ag_ug (ag_ug (ag_ug (ag_ug (ag_ug gp 0 (ag_ui (gp 0) m k)) 1 (ag_ui (gp 1) m t)) 2 (ag_ui (gp 2) m o)) 3 (ag_ui (gp 3) m 0)) 4 (ag_ui (gp 4) m (-1))) 5 (ag_ui (gp 5) m (-1))
theorem ag_Y_padd (h : ag_CX B τ H Q S m T mt en) (hm : m < 20) (k t o : Int) (K : ag_Rs → ag_S → Prop) : ag_cl9 48 [ag_R (B + 20), ag_I k, ag_I t, ag_I o] τ K = K (Sum.inl (some (ag_I m))) (ag_SP τ (B + 20) (ag_adp S.2.2.2 m k t o) (ag_vP (m + 1))) := by
  rw [← ag_vP_u]
  exact ag_CP_rw h.2.2.2.2.2.1 (fun σ K => ag_P_add σ K (ag_vP_0 _) hm (by first | decide | omega)) K
theorem ag_Y_insert (h : ag_CX B τ H Q S m T mt en) (hV : ag_IV S m) (hw : S.2.1 < 40) {place : Nat} (hp : place ≤ S.2.2.1) (above words : Int) (K : ag_Rs → ag_S → Prop) : ag_cl9 14 [ag_R (B + 11), ag_I place, ag_I above, ag_I words] τ K = K (Sum.inl (some (ag_I S.2.1))) (ag_SB τ (B + 11) (ag_gi S.1 S.2.1 S.2.2.1 place above words (ag_hun S.1 above)) (ag_vB (S.2.1 + 1) (S.2.2.1 + 1))) := by
  rw [← ag_vB_u01]
  exact ag_CB_rw h.2.2.2.2.1 (fun σ K => ag_B_insert σ K (ag_vB_0 _ _) (ag_vB_1 _ _) hw (by have := hV.1.1.2.2; omega) hp (by first | decide | omega)) K
theorem ag_Y_next (h : ag_CX B τ H Q S m T mt en) (hV : ag_IV S m) (K : ag_Rs → ag_S → Prop) : ag_cl9 23 [ag_R (B + 10)] τ K = K (Sum.inl (some (ag_I (ag_nxt S.1 S.2.2.2 m)))) τ := by
  have := ag_K_next (B := B) τ (c := B + 10) (gh := H.1) (vh := H.2) (by first | decide | omega) hV K
  rwa [ag_CX_now h] at this
theorem ag_Y_tnext (h : ag_CX B τ H Q S m T mt en) (hV : ag_IV T mt) (K : ag_Rs → ag_S → Prop) : ag_cl9 23 [ag_R (B + 27)] τ K = K (Sum.inl (some (ag_I (ag_nxt T.1 T.2.2.2 mt)))) τ := by
  have := ag_K_next (B := B) τ (c := B + 27) (gh := H.1) (vh := H.2) (by first | decide | omega) hV K
  rwa [ag_CX_tri h] at this
/-- whether it can be done -/
noncomputable def ag_dbl (S : ag_T) (m : Nat) (b : Int) : Int := ag_if (ag_lad S m b) (ag_fit S.1 S.2.1 S.2.2.1 (ag_rd 20 (S.2.2.2 0) b) (ag_rd 20 (S.2.2.2 1) b) (ag_rd 20 (S.2.2.2 2) b)) 0
theorem ag_lad_nat {S : ag_T} {m : Nat} {c : Int} (hm : m ≤ 20) (h : ag_lad S m c) (hc : ag_nm c = c) : ∃ b : Nat, b < m ∧ c = b ∧ S.2.2.2 3 b = 0 := by
  obtain ⟨h0, h1, h2⟩ := h
  rw [hc] at h0 h1
  obtain ⟨b, rfl⟩ : ∃ b : Nat, c = b := ⟨c.toNat, by omega⟩
  refine ⟨b, by omega, rfl, ?_⟩
  rwa [ag_rd_nat (by first | decide | omega) (by omega)] at h2
theorem ag_Y_isDoable (h : ag_CX B τ H Q S m T mt en) (hV : ag_IV S m) {b : Int} (hb : ag_nm b = b) (hk : ag_kno m b) (K : ag_Rs → ag_S → Prop) : ag_cl9 22 [ag_R (B + 10), ag_I b] τ K = K (Sum.inl (some (ag_I (ag_dbl S m b)))) τ := by
  have hm := hV.2.1.1.2.2
  by_cases q : ag_lad S m b
  · obtain ⟨z, z1, rfl, z3⟩ := ag_lad_nat hm q hb
    have := ag_K_isDoable (B := B) τ (c := B + 10) H.1 H.2 (b := (z : Int)) K (by first | decide | omega) hV.1.1.2.1 hV.2.1.1.2.1 (ag_vB_0 S.2.1 S.2.2.1) (ag_vB_1 S.2.1 S.2.2.1) (ag_vP_0 m) (by have := hV.1.1.2.2; omega) (by have := hV.1.1.2.2; omega) hm (ag_IV_hM hV z1 z3)
    rw [show ag_SK B τ (B + 10) H.1 H.2 S.1 (ag_vB S.2.1 S.2.2.1) S.2.2.2 (ag_vP m) = τ from ag_CX_now h, ag_if_eq] at this
    exact this
  · have hL := fun K => ag_Y_isLaid h hV b K
    rw [ag_if_f q] at hL
    unfold ag_dbl
    rw [ag_if_f q]
    simp only [ag_e22, ag_i22_0, ag_i22_1, ag_i22_4, ag_i22_5, ag_i22_8, ag_i22_11, ag_i22_12, ag_i22_13, ag_i22_16, ag_i22_19, ag_i22_20, ag_i22_23, ag_i22_24, ag_i22_27, ag_i22_30, ag_i22_31, ag_i22_34, ag_i22_35, ag_i22_38, ag_i22_41, ag_i22_42, ag_i22_45, ag_i22_48, ag_i22_51, ag_i22_52, ag_i22_55, ag_i22_56, ag_X_o0 h, ag_X_o1 h, ag_X_o2 h, ag_X_o3 h, ag_X_o4 h, ag_X_oc h, ag_X_n0 h, ag_X_n1 h, ag_X_n2 h, ag_X_nc h, ag_X_t0 h, ag_X_t1 h, ag_X_t2 h, ag_X_tc h, ag_X_b0 h, ag_X_b1 h, ag_X_b2 h, ag_X_b3 h, ag_X_b4 h, ag_X_b5 h, ag_X_b6 h, ag_X_b7 h, ag_X_b8 h, ag_X_b9 h, ag_X_bc h, ag_X_p0 h, ag_X_p1 h, ag_X_p2 h, ag_X_p3 h, ag_X_p4 h, ag_X_p5 h, ag_X_p6 h, ag_X_pc h, ag_X_h0 h, ag_X_h1 h, ag_X_h2 h, ag_X_h3 h, ag_X_h4 h, ag_X_h5 h, ag_X_h6 h, ag_X_hc h, ag_X_q0 h, ag_X_q1 h, ag_X_q2 h, ag_X_qc h, ag_X_tb0 h, ag_X_tb1 h, ag_X_tb2 h, ag_X_tb3 h, ag_X_tb4 h, ag_X_tb5 h, ag_X_tb6 h, ag_X_tb7 h, ag_X_tb8 h, ag_X_tb9 h, ag_X_tbc h, ag_X_tp0 h, ag_X_tp1 h, ag_X_tp2 h, ag_X_tp3 h, ag_X_tp4 h, ag_X_tp5 h, ag_X_tp6 h, ag_X_tpc h, ag_X_ba0 h, ag_X_ba1 h, ag_X_ba2 h, ag_X_ba3 h, ag_X_ba4 h, ag_X_ba5 h, ag_X_ba6 h, ag_X_ba7 h, ag_X_pa0 h, ag_X_pa1 h, ag_X_pa2 h, ag_X_pa3 h, ag_X_pa4 h, ag_X_pa5 h, ag_X_ha0 h, ag_X_ha1 h, ag_X_ha2 h, ag_X_ha3 h, ag_X_qa0 h, ag_X_qa1 h, ag_X_tba0 h, ag_X_tba1 h, ag_X_tba2 h, ag_X_tba3 h, ag_X_tba4 h, ag_X_tba5 h, ag_X_tba6 h, ag_X_tba7 h, ag_X_tpa0 h, ag_X_tpa1 h, ag_X_tpa2 h, ag_X_tpa3 h, ag_X_tpa4 h, ag_X_tpa5 h, ag_X_ea h, ag_kk_v, ag_kk_n, Nat.reduceAdd, ag_b0, ag_b1, true_and, or_true, true_or, Int.reduceEq, ne_eq, not_false_eq_true, not_true_eq_false, ↓reduceIte, hL, ag_nm_z]
end AGY
