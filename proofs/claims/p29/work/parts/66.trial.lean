/-! THE CLASS's face: call, and what would be (on the trial course). -/
variable {B : Nat}
theorem ag_SB_cg {τ : ag_S} {a : Nat} {g g' : Nat → Nat → Int} {v : Nat → Int} (h : ∀ k, k < 8 → g k = g' k) : ag_SB τ a g v = ag_SB τ a g' v := by
  unfold ag_SB
  rw [h 0 (by first | decide | omega), h 1 (by first | decide | omega), h 2 (by first | decide | omega), h 3 (by first | decide | omega), h 4 (by first | decide | omega), h 5 (by first | decide | omega), h 6 (by first | decide | omega), h 7 (by first | decide | omega)]
theorem ag_SP_cg {τ : ag_S} {a : Nat} {g g' : Nat → Nat → Int} {v : Nat → Int} (h : ∀ k, k < 6 → g k = g' k) : ag_SP τ a g v = ag_SP τ a g' v := by
  unfold ag_SP
  rw [h 0 (by first | decide | omega), h 1 (by first | decide | omega), h 2 (by first | decide | omega), h 3 (by first | decide | omega), h 4 (by first | decide | omega), h 5 (by first | decide | omega)]
theorem ag_cf_z {r s : Nat → Int} {n : Nat} (h1 : ∀ j, n ≤ j → r j = 0) (h2 : ∀ j, n ≤ j → s j = 0) : ag_cf r s n = r := by
  funext j
  unfold ag_cf
  split
  · rfl
  · rw [h1 j (by omega), h2 j (by omega)]
/-- the trial course in order -/
def ag_TI (T : ag_T) : Prop := (∀ k j, 40 ≤ j → T.1 k j = 0) ∧ (∀ j, -100000 ≤ T.1 7 j ∧ T.1 7 j ≤ 100000) ∧ (∀ k j, 20 ≤ j → T.2.2.2 k j = 0)
theorem ag_TI_of {T : ag_T} {m : Nat} (h : ag_IV T m) : ag_TI T := ⟨h.1.1.1, h.1.1.2.1 7, h.2.1.1.1⟩
def ag_zk (z : Nat → Int) : Prop := (∀ j, 40 ≤ j → z j = 0) ∧ ∀ j, -100000 ≤ z j ∧ z j ≤ 100000
/-- the state with another spare row -/
def ag_JT (S : ag_T) (z : Nat → Int) : ag_T := (ag_ug S.1 7 z, (S.2.1, (S.2.2.1, S.2.2.2)))
theorem ag_JT_IV {S : ag_T} {m : Nat} {z : Nat → Int} (h : ag_IV S m) (hz : ag_zk z) : ag_IV (ag_JT S z) m := by
  refine ⟨ag_IB_ug h.1 (Or.inr (Or.inr (Or.inr rfl))) hz.1 hz.2, ?_, ?_⟩
  · refine ⟨h.2.1.1, ?_, h.2.1.2.2⟩
    show ∀ c : Nat, c < S.2.1 → _
    have e3 : (ag_JT S z).1 3 = S.1 3 := show ag_ug S.1 7 z 3 = S.1 3 from ag_ug_ne _ _ (by first | decide | omega)
    have e4 : (ag_JT S z).1 4 = S.1 4 := show ag_ug S.1 7 z 4 = S.1 4 from ag_ug_ne _ _ (by first | decide | omega)
    rw [e3, e4]
    exact h.2.1.2.1
  · have e5 : (ag_JT S z).1 5 = S.1 5 := show ag_ug S.1 7 z 5 = S.1 5 from ag_ug_ne _ _ (by first | decide | omega)
    intro a ha h3
    rw [e5]
    exact h.2.2 a ha h3
/-- how many become moot, b passed; in the end; otherwise; the k-th -/
def ag_vM (S : ag_T) (m b : Nat) (z : Nat → Int) : Int := (ag_cnt (ag_psd (ag_JT S z).1 S.2.1 S.2.2.1 S.2.2.2 m b).2.2.2 m 3 : Int) - (ag_cnt S.2.2.2 m 3 : Int)
def ag_vI (gh : Nat → Nat → Int) (np : Nat) (qu : Int) (S : ag_T) (m : Nat) (z : Nat → Int) : Int := ((ag_dal gh np qu (-1) m 20 (ag_JT S z)).2.2.1 : Int)
def ag_vO (gh : Nat → Nat → Int) (np : Nat) (qu : Int) (S : ag_T) (m : Nat) (p : Int) (z1 z2 : Nat → Int) : Int := (ag_ct (fun i => decide ((ag_dal gh np qu p m 20 (ag_JT S z2)).2.2.2 3 i ≠ (ag_dal gh np qu (-1) m 20 (ag_JT S z1)).2.2.2 3 i)) m 0 : Int)
def ag_vC (gh : Nat → Nat → Int) (np : Nat) (qu : Int) (S : ag_T) (m k : Nat) (z : Nat → Int) : Int := ag_nxt (ag_dal gh np qu (-1) m k (ag_JT S z)).1 (ag_dal gh np qu (-1) m k (ag_JT S z)).2.2.2 m
section AGW
variable {τ : ag_S} {gh gq : Nat → Nat → Int} {np nq : Nat} {qu li : Int} {S : ag_T} {m : Nat} {T : ag_T} {mt : Nat} {en : Nat → Int}
theorem ag_Y_leave (hX : ag_CX B τ (gh, ag_vH np qu li) (gq, ag_vP nq) S m T mt en) (hV : ag_IV S m) (hs : ag_sm gq) (hn : nq ≤ 12) (K : ag_Rs → ag_S → Prop) : ag_cl9 57 [ag_R (B + 7), ag_R (B + 11)] τ K = K (Sum.inl none) (ag_SQ τ (B + 7) (ag_ug gq 0 (ag_lvs S.1 S.2.1 (gq 0) nq)) (ag_vP nq)) := by
  have hw := hV.1.1.2.2
  have e1 := ag_SB_of hX.2.2.2.2.1
  have e2 := ag_SQ_of hX.2.2.1
  dsimp only at e2
  have := ag_V_leaveStruck τ (a := B + 11) (q := B + 7) (gb := S.1) (vb := ag_vB S.2.1 S.2.2.1) (gq := gq) (vq := ag_vP nq) K (by first | decide | omega) (ag_vB_0 _ _) hV.1.1.2.1 (by omega) (ag_vP_0 nq) hn hs (by first | decide | omega)
  rw [e1, e2] at this
  exact this
theorem ag_Y_decide (hX : ag_CX B τ (gh, ag_vH np qu li) (gq, ag_vP nq) S m T mt en) (hV : ag_IV S m) (hs : ag_sm gh) (hn : np ≤ 5) {b : Nat} {x : Int} (hb : b < m) (hl : S.2.2.2 3 b = 0) (hx : ag_nm x = x) (K : ag_Rs → ag_S → Prop) : ag_cl9 25 [ag_R (B + 10), ag_I b, ag_I x] τ K = K (Sum.inl none) (ag_KT B τ (B + 10) gh (ag_vH np qu li) (ag_dec gh np qu x m S b) m) := by
  have := ag_K_decide (B := B) τ (c := B + 10) (gh := gh) (vh := ag_vH np qu li) (by first | decide | omega) hV hb hl hs (ag_vH_0 np qu li) hn hx K
  have e := ag_CX_now hX
  dsimp only at e
  rw [ag_vH_1, e] at this
  exact this
theorem ag_Y_tstep (hX : ag_CX B τ (gh, ag_vH np qu li) (gq, ag_vP nq) S m T mt en) (hV : ag_IV T mt) (hs : ag_sm gh) (hn : np ≤ 5) {x : Int} (hx : ag_nm x = x) (K : ag_Rs → ag_S → Prop) : ag_cl9 25 [ag_R (B + 27), ag_I (ag_nxt T.1 T.2.2.2 mt), ag_I x] τ K = K (Sum.inl none) (ag_KT B τ (B + 27) gh (ag_vH np qu li) (ag_dal gh np qu x mt 1 T) mt) := by
  have := ag_K_step (B := B) τ (c := B + 27) (gh := gh) (vh := ag_vH np qu li) (by first | decide | omega) hV hs (ag_vH_0 np qu li) hn hx K
  have e := ag_CX_tri hX
  dsimp only at e
  rw [ag_vH_1, e] at this
  exact this
theorem ag_Y_tall (hX : ag_CX B τ (gh, ag_vH np qu li) (gq, ag_vP nq) S m T mt en) (hV : ag_IV T mt) (hs : ag_sm gh) (hn : np ≤ 5) {x : Int} (hx : ag_nm x = x) (K : ag_Rs → ag_S → Prop) : ag_cl9 26 [ag_R (B + 27), ag_I x] τ K = K (Sum.inl none) (ag_KT B τ (B + 27) gh (ag_vH np qu li) (ag_dal gh np qu x mt 20 T) mt) := by
  have := ag_K_decideAll (B := B) τ (c := B + 27) (gh := gh) (vh := ag_vH np qu li) (by first | decide | omega) hV hs (ag_vH_0 np qu li) hn hx K
  have e := ag_CX_tri hX
  dsimp only at e
  rw [ag_vH_1, e] at this
  exact this
theorem ag_Y_tperf (hX : ag_CX B τ (gh, ag_vH np qu li) (gq, ag_vP nq) S m T mt en) (hV : ag_IV T mt) {b : Nat} (hb : b < mt) (hl : T.2.2.2 3 b = 0) (hf : ag_ftb T.1 T.2.1 T.2.2.1 T.2.2.2 b ≠ 0) (K : ag_Rs → ag_S → Prop) : ag_cl9 27 [ag_R (B + 27), ag_I b] τ K = K (Sum.inl none) (ag_KT B τ (B + 27) gh (ag_vH np qu li) (ag_pfm T.1 T.2.1 T.2.2.1 T.2.2.2 b) mt) := by
  have := ag_K_pfm (B := B) τ (c := B + 27) gh (ag_vH np qu li) (by first | decide | omega) hV hb hl hf K
  have e := ag_CX_tri hX
  dsimp only at e
  rwa [e] at this
theorem ag_Y_tpass (hX : ag_CX B τ (gh, ag_vH np qu li) (gq, ag_vP nq) S m T mt en) (h1 : ag_sm T.1) (h2 : ag_sm T.2.2.2) (hm : mt ≤ 20) {b : Nat} (hb : b < mt) (K : ag_Rs → ag_S → Prop) : ag_cl9 28 [ag_R (B + 27), ag_I b] τ K = K (Sum.inl none) (ag_KT B τ (B + 27) gh (ag_vH np qu li) (T.1, (T.2.1, (T.2.2.1, ag_spl T.1 b mt mt 0 (ag_set T.2.2.2 b 1 (-1) mt)))) mt) := by
  have := ag_K_settlePassed (B := B) τ (c := B + 27) gh (ag_vH np qu li) (gb := T.1) (vb := ag_vB T.2.1 T.2.2.1) (vp := ag_vP mt) K (gp := T.2.2.2) (x := (b : Int)) (by first | decide | omega) h1 h2 (ag_vP_0 mt) hm (by omega) (by omega)
  have e := ag_CX_tri hX
  unfold ag_KT at e
  dsimp only at e
  rw [e] at this
  exact this
theorem ag_vB_u2 (w n w' n' : Nat) : ag_ui (ag_ui (ag_vB w n) 0 (w' : Int)) 1 (n' : Int) = ag_vB w' n' := by
  funext k
  by_cases h : k = 1
  · subst h; rfl
  · by_cases h0 : k = 0
    · subst h0; rfl
    · simp [ag_ui, ag_vB, h, h0]
theorem ag_vP_u2 (m m' : Nat) : ag_ui (ag_vP m) 0 (m' : Int) = ag_vP m' := by
  funext k
  by_cases h : k = 0
  · subst h; rfl
  · simp [ag_ui, ag_vP, h]
/-- the trial becomes what is now -/
theorem ag_Y_become (hX : ag_CX B τ (gh, ag_vH np qu li) (gq, ag_vP nq) S m T mt en) (hV : ag_IV S m) (hT : ag_TI T) (K : ag_Rs → ag_S → Prop) : ag_cl9 20 [ag_R (B + 27), ag_R (B + 10)] τ K = K (Sum.inl none) (ag_KT B τ (B + 27) gh (ag_vH np qu li) (ag_JT S (T.1 7)) m) := by
  have hB : ∀ K, ag_cl9 4 [ag_R (B + 28), ag_R (B + 11)] τ K = K (Sum.inl none) (ag_SB τ (B + 28) (ag_ug S.1 7 (T.1 7)) (ag_vB S.2.1 S.2.2.1)) := by
    intro K
    have := ag_B_become τ (a := B + 28) (b := B + 11) T.1 (g2 := S.1) (ag_vB T.2.1 T.2.2.1) (v2 := ag_vB S.2.1 S.2.2.1) K (by first | decide | omega) hX.2.2.2.2.1 (by first | decide | omega)
    rw [ag_SB_of hX.2.2.2.2.2.2.2.1, ag_vB_0, ag_vB_1, ag_vB_u2] at this
    rw [this]
    refine congrArg (K _) (ag_SB_cg fun k hk => ?_)
    have z := fun k => ag_cf_z (r := S.1 k) (s := T.1 k) (n := 40) (hV.1.1.1 k) (hT.1 k)
    simp only [z]
    have hk2 : k = 0 ∨ k = 1 ∨ k = 2 ∨ k = 3 ∨ k = 4 ∨ k = 5 ∨ k = 6 ∨ k = 7 := by omega
    rcases hk2 with rfl | rfl | rfl | rfl | rfl | rfl | rfl | rfl <;> simp only [ag_ug_at, Nat.reduceEqDiff, ↓reduceIte]
  have h2 := ag_CX_V (g := ag_ug S.1 7 (T.1 7)) (w := S.2.1) (n := S.2.2.1) hX
  have hP : ∀ K, ag_cl9 43 [ag_R (B + 37), ag_R (B + 20)] (ag_SB τ (B + 28) (ag_ug S.1 7 (T.1 7)) (ag_vB S.2.1 S.2.2.1)) K = K (Sum.inl none) (ag_SP (ag_SB τ (B + 28) (ag_ug S.1 7 (T.1 7)) (ag_vB S.2.1 S.2.2.1)) (B + 37) S.2.2.2 (ag_vP m)) := by
    intro K
    have := ag_P_become (ag_SB τ (B + 28) (ag_ug S.1 7 (T.1 7)) (ag_vB S.2.1 S.2.2.1)) (a := B + 37) (b := B + 20) T.2.2.2 (g2 := S.2.2.2) (ag_vP mt) (v2 := ag_vP m) K (by first | decide | omega) h2.2.2.2.2.2.1 (by first | decide | omega)
    have e := ag_SP_of h2.2.2.2.2.2.2.2.2.1
    dsimp only at e
    rw [e, ag_vP_0, ag_vP_u2] at this
    rw [this]
    refine congrArg (K _) (ag_SP_cg fun k hk => ?_)
    have z := fun k => ag_cf_z (r := S.2.2.2 k) (s := T.2.2.2 k) (n := 20) (hV.2.1.1.1 k) (hT.2.2 k)
    simp only [z]
    have hk2 : k = 0 ∨ k = 1 ∨ k = 2 ∨ k = 3 ∨ k = 4 ∨ k = 5 := by omega
    rcases hk2 with rfl | rfl | rfl | rfl | rfl | rfl <;> simp only [ag_ug_at, Nat.reduceEqDiff, ↓reduceIte]
  simp only [ag_e20, ag_i20_0, ag_i20_1, ag_i20_4, ag_i20_5, ag_i20_8, ag_i20_11, ag_i20_12, ag_i20_15, ag_i20_16, ag_i20_19, ag_i20_22, ag_X_o0 hX, ag_X_o1 hX, ag_X_o2 hX, ag_X_o3 hX, ag_X_o4 hX, ag_X_oc hX, ag_X_n0 hX, ag_X_n1 hX, ag_X_n2 hX, ag_X_nc hX, ag_X_t0 hX, ag_X_t1 hX, ag_X_t2 hX, ag_X_tc hX, ag_X_b0 hX, ag_X_b1 hX, ag_X_b2 hX, ag_X_b3 hX, ag_X_b4 hX, ag_X_b5 hX, ag_X_b6 hX, ag_X_b7 hX, ag_X_b8 hX, ag_X_b9 hX, ag_X_bc hX, ag_X_p0 hX, ag_X_p1 hX, ag_X_p2 hX, ag_X_p3 hX, ag_X_p4 hX, ag_X_p5 hX, ag_X_p6 hX, ag_X_pc hX, ag_X_h0 hX, ag_X_h1 hX, ag_X_h2 hX, ag_X_h3 hX, ag_X_h4 hX, ag_X_h5 hX, ag_X_h6 hX, ag_X_hc hX, ag_X_q0 hX, ag_X_q1 hX, ag_X_q2 hX, ag_X_qc hX, ag_X_tb0 hX, ag_X_tb1 hX, ag_X_tb2 hX, ag_X_tb3 hX, ag_X_tb4 hX, ag_X_tb5 hX, ag_X_tb6 hX, ag_X_tb7 hX, ag_X_tb8 hX, ag_X_tb9 hX, ag_X_tbc hX, ag_X_tp0 hX, ag_X_tp1 hX, ag_X_tp2 hX, ag_X_tp3 hX, ag_X_tp4 hX, ag_X_tp5 hX, ag_X_tp6 hX, ag_X_tpc hX, ag_X_ba0 hX, ag_X_ba1 hX, ag_X_ba2 hX, ag_X_ba3 hX, ag_X_ba4 hX, ag_X_ba5 hX, ag_X_ba6 hX, ag_X_ba7 hX, ag_X_pa0 hX, ag_X_pa1 hX, ag_X_pa2 hX, ag_X_pa3 hX, ag_X_pa4 hX, ag_X_pa5 hX, ag_X_ha0 hX, ag_X_ha1 hX, ag_X_ha2 hX, ag_X_ha3 hX, ag_X_qa0 hX, ag_X_qa1 hX, ag_X_tba0 hX, ag_X_tba1 hX, ag_X_tba2 hX, ag_X_tba3 hX, ag_X_tba4 hX, ag_X_tba5 hX, ag_X_tba6 hX, ag_X_tba7 hX, ag_X_tpa0 hX, ag_X_tpa1 hX, ag_X_tpa2 hX, ag_X_tpa3 hX, ag_X_tpa4 hX, ag_X_tpa5 hX, ag_X_ea hX, ag_X_o0 h2, ag_X_o1 h2, ag_X_o2 h2, ag_X_o3 h2, ag_X_o4 h2, ag_X_oc h2, ag_X_n0 h2, ag_X_n1 h2, ag_X_n2 h2, ag_X_nc h2, ag_X_t0 h2, ag_X_t1 h2, ag_X_t2 h2, ag_X_tc h2, ag_X_b0 h2, ag_X_b1 h2, ag_X_b2 h2, ag_X_b3 h2, ag_X_b4 h2, ag_X_b5 h2, ag_X_b6 h2, ag_X_b7 h2, ag_X_b8 h2, ag_X_b9 h2, ag_X_bc h2, ag_X_p0 h2, ag_X_p1 h2, ag_X_p2 h2, ag_X_p3 h2, ag_X_p4 h2, ag_X_p5 h2, ag_X_p6 h2, ag_X_pc h2, ag_X_h0 h2, ag_X_h1 h2, ag_X_h2 h2, ag_X_h3 h2, ag_X_h4 h2, ag_X_h5 h2, ag_X_h6 h2, ag_X_hc h2, ag_X_q0 h2, ag_X_q1 h2, ag_X_q2 h2, ag_X_qc h2, ag_X_tb0 h2, ag_X_tb1 h2, ag_X_tb2 h2, ag_X_tb3 h2, ag_X_tb4 h2, ag_X_tb5 h2, ag_X_tb6 h2, ag_X_tb7 h2, ag_X_tb8 h2, ag_X_tb9 h2, ag_X_tbc h2, ag_X_tp0 h2, ag_X_tp1 h2, ag_X_tp2 h2, ag_X_tp3 h2, ag_X_tp4 h2, ag_X_tp5 h2, ag_X_tp6 h2, ag_X_tpc h2, ag_X_ba0 h2, ag_X_ba1 h2, ag_X_ba2 h2, ag_X_ba3 h2, ag_X_ba4 h2, ag_X_ba5 h2, ag_X_ba6 h2, ag_X_ba7 h2, ag_X_pa0 h2, ag_X_pa1 h2, ag_X_pa2 h2, ag_X_pa3 h2, ag_X_pa4 h2, ag_X_pa5 h2, ag_X_ha0 h2, ag_X_ha1 h2, ag_X_ha2 h2, ag_X_ha3 h2, ag_X_qa0 h2, ag_X_qa1 h2, ag_X_tba0 h2, ag_X_tba1 h2, ag_X_tba2 h2, ag_X_tba3 h2, ag_X_tba4 h2, ag_X_tba5 h2, ag_X_tba6 h2, ag_X_tba7 h2, ag_X_tpa0 h2, ag_X_tpa1 h2, ag_X_tpa2 h2, ag_X_tpa3 h2, ag_X_tpa4 h2, ag_X_tpa5 h2, ag_X_ea h2, ag_kk_v, ag_kk_n, Nat.reduceAdd, hB, hP]
  refine congrArg (K _) ?_
  rw [ag_KT_set (by first | decide | omega) hX.2.2.2.2.2.2.1 hX.2.1]
  rfl
/-- call -/
theorem ag_F_call_0 (hX : ag_CX B τ (gh, ag_vH np qu li) (gq, ag_vP nq) S m T mt en) (hV : ag_IV S m) (hH : ag_HI gh np qu li) (h : ag_nxt S.1 S.2.2.2 m = -1 ∨ li < 3) (K : ag_Rs → ag_S → Prop) : ag_cl9 73 [ag_R (B + 1)] τ K = K (Sum.inr 2) (ag_bp τ) := by
  have hN := fun K => ag_Y_next hX hV K
  have hnx := (ag_nxt_rg (gb := S.1) (gp := S.2.2.2) hV.2.1.1.2.2).1
  have hi := fun K => ag_F_isSit hX hH K
  have hl := hH.2.2.2.1
  by_cases c1 : ag_nxt S.1 S.2.2.2 m = -1
  · simp only [ag_e73, ag_i73_0, ag_i73_1, ag_i73_4, ag_i73_7_n, ag_i73_7_i, ag_i73_7_r, ag_i73_8, ag_i73_9, ag_i73_10, ag_i73_13, ag_i73_14, ag_i73_17, ag_i73_20, ag_i73_23, ag_i73_24, ag_i73_27, ag_i73_30, ag_i73_31, ag_i73_34, ag_i73_44, ag_i73_45, ag_i73_48, ag_i73_49, ag_i73_52, ag_i73_53, ag_i73_54, ag_i73_57, ag_i73_58, ag_i73_61, ag_i73_62, ag_i73_63, ag_i73_66, ag_i73_67, ag_i73_70, ag_i73_71, ag_i73_74, ag_i73_77, ag_i73_80, ag_i73_81, ag_i73_84, ag_i73_87, ag_i73_90, ag_i73_91, ag_i73_94, ag_X_o0 hX, ag_X_o1 hX, ag_X_o2 hX, ag_X_o3 hX, ag_X_o4 hX, ag_X_oc hX, ag_X_n0 hX, ag_X_n1 hX, ag_X_n2 hX, ag_X_nc hX, ag_X_t0 hX, ag_X_t1 hX, ag_X_t2 hX, ag_X_tc hX, ag_X_b0 hX, ag_X_b1 hX, ag_X_b2 hX, ag_X_b3 hX, ag_X_b4 hX, ag_X_b5 hX, ag_X_b6 hX, ag_X_b7 hX, ag_X_b8 hX, ag_X_b9 hX, ag_X_bc hX, ag_X_p0 hX, ag_X_p1 hX, ag_X_p2 hX, ag_X_p3 hX, ag_X_p4 hX, ag_X_p5 hX, ag_X_p6 hX, ag_X_pc hX, ag_X_h0 hX, ag_X_h1 hX, ag_X_h2 hX, ag_X_h3 hX, ag_X_h4 hX, ag_X_h5 hX, ag_X_h6 hX, ag_X_hc hX, ag_X_q0 hX, ag_X_q1 hX, ag_X_q2 hX, ag_X_qc hX, ag_X_tb0 hX, ag_X_tb1 hX, ag_X_tb2 hX, ag_X_tb3 hX, ag_X_tb4 hX, ag_X_tb5 hX, ag_X_tb6 hX, ag_X_tb7 hX, ag_X_tb8 hX, ag_X_tb9 hX, ag_X_tbc hX, ag_X_tp0 hX, ag_X_tp1 hX, ag_X_tp2 hX, ag_X_tp3 hX, ag_X_tp4 hX, ag_X_tp5 hX, ag_X_tp6 hX, ag_X_tpc hX, ag_X_ba0 hX, ag_X_ba1 hX, ag_X_ba2 hX, ag_X_ba3 hX, ag_X_ba4 hX, ag_X_ba5 hX, ag_X_ba6 hX, ag_X_ba7 hX, ag_X_pa0 hX, ag_X_pa1 hX, ag_X_pa2 hX, ag_X_pa3 hX, ag_X_pa4 hX, ag_X_pa5 hX, ag_X_ha0 hX, ag_X_ha1 hX, ag_X_ha2 hX, ag_X_ha3 hX, ag_X_qa0 hX, ag_X_qa1 hX, ag_X_tba0 hX, ag_X_tba1 hX, ag_X_tba2 hX, ag_X_tba3 hX, ag_X_tba4 hX, ag_X_tba5 hX, ag_X_tba6 hX, ag_X_tba7 hX, ag_X_tpa0 hX, ag_X_tpa1 hX, ag_X_tpa2 hX, ag_X_tpa3 hX, ag_X_tpa4 hX, ag_X_tpa5 hX, ag_X_ea hX, ag_kk_v, ag_kk_n, Nat.reduceAdd, ag_b0, ag_b1, true_and, or_true, true_or, Int.reduceEq, ne_eq, not_false_eq_true, not_true_eq_false, ↓reduceIte, ag_nmk_2, ag_nmk_3, ag_nmk_4, ag_nmk_5, ag_nmk_7, ag_nmk_11, ag_nmk_12, ag_nmk_20, ag_nmk_99, ag_nmk_100, ag_nmk_300, ag_nmk_999, ag_nmk_9999, ag_nm_1, ag_nm_z, ag_nm_m, ag_bp_eq, hN, hnx, c1]
  · by_cases c2 : li = -1
    · simp only [ag_e73, ag_i73_0, ag_i73_1, ag_i73_4, ag_i73_7_n, ag_i73_7_i, ag_i73_7_r, ag_i73_8, ag_i73_9, ag_i73_10, ag_i73_13, ag_i73_14, ag_i73_17, ag_i73_20, ag_i73_23, ag_i73_24, ag_i73_27, ag_i73_30, ag_i73_31, ag_i73_34, ag_i73_44, ag_i73_45, ag_i73_48, ag_i73_49, ag_i73_52, ag_i73_53, ag_i73_54, ag_i73_57, ag_i73_58, ag_i73_61, ag_i73_62, ag_i73_63, ag_i73_66, ag_i73_67, ag_i73_70, ag_i73_71, ag_i73_74, ag_i73_77, ag_i73_80, ag_i73_81, ag_i73_84, ag_i73_87, ag_i73_90, ag_i73_91, ag_i73_94, ag_X_o0 hX, ag_X_o1 hX, ag_X_o2 hX, ag_X_o3 hX, ag_X_o4 hX, ag_X_oc hX, ag_X_n0 hX, ag_X_n1 hX, ag_X_n2 hX, ag_X_nc hX, ag_X_t0 hX, ag_X_t1 hX, ag_X_t2 hX, ag_X_tc hX, ag_X_b0 hX, ag_X_b1 hX, ag_X_b2 hX, ag_X_b3 hX, ag_X_b4 hX, ag_X_b5 hX, ag_X_b6 hX, ag_X_b7 hX, ag_X_b8 hX, ag_X_b9 hX, ag_X_bc hX, ag_X_p0 hX, ag_X_p1 hX, ag_X_p2 hX, ag_X_p3 hX, ag_X_p4 hX, ag_X_p5 hX, ag_X_p6 hX, ag_X_pc hX, ag_X_h0 hX, ag_X_h1 hX, ag_X_h2 hX, ag_X_h3 hX, ag_X_h4 hX, ag_X_h5 hX, ag_X_h6 hX, ag_X_hc hX, ag_X_q0 hX, ag_X_q1 hX, ag_X_q2 hX, ag_X_qc hX, ag_X_tb0 hX, ag_X_tb1 hX, ag_X_tb2 hX, ag_X_tb3 hX, ag_X_tb4 hX, ag_X_tb5 hX, ag_X_tb6 hX, ag_X_tb7 hX, ag_X_tb8 hX, ag_X_tb9 hX, ag_X_tbc hX, ag_X_tp0 hX, ag_X_tp1 hX, ag_X_tp2 hX, ag_X_tp3 hX, ag_X_tp4 hX, ag_X_tp5 hX, ag_X_tp6 hX, ag_X_tpc hX, ag_X_ba0 hX, ag_X_ba1 hX, ag_X_ba2 hX, ag_X_ba3 hX, ag_X_ba4 hX, ag_X_ba5 hX, ag_X_ba6 hX, ag_X_ba7 hX, ag_X_pa0 hX, ag_X_pa1 hX, ag_X_pa2 hX, ag_X_pa3 hX, ag_X_pa4 hX, ag_X_pa5 hX, ag_X_ha0 hX, ag_X_ha1 hX, ag_X_ha2 hX, ag_X_ha3 hX, ag_X_qa0 hX, ag_X_qa1 hX, ag_X_tba0 hX, ag_X_tba1 hX, ag_X_tba2 hX, ag_X_tba3 hX, ag_X_tba4 hX, ag_X_tba5 hX, ag_X_tba6 hX, ag_X_tba7 hX, ag_X_tpa0 hX, ag_X_tpa1 hX, ag_X_tpa2 hX, ag_X_tpa3 hX, ag_X_tpa4 hX, ag_X_tpa5 hX, ag_X_ea hX, ag_kk_v, ag_kk_n, Nat.reduceAdd, ag_b0, ag_b1, true_and, or_true, true_or, Int.reduceEq, ne_eq, not_false_eq_true, not_true_eq_false, ↓reduceIte, ag_nmk_2, ag_nmk_3, ag_nmk_4, ag_nmk_5, ag_nmk_7, ag_nmk_11, ag_nmk_12, ag_nmk_20, ag_nmk_99, ag_nmk_100, ag_nmk_300, ag_nmk_999, ag_nmk_9999, ag_nm_1, ag_nm_z, ag_nm_m, ag_bp_eq, hN, hnx, c1, hi, ag_if_t c2]
    · have c3 : ¬ 3 ≤ li := by omega
      simp only [ag_e73, ag_i73_0, ag_i73_1, ag_i73_4, ag_i73_7_n, ag_i73_7_i, ag_i73_7_r, ag_i73_8, ag_i73_9, ag_i73_10, ag_i73_13, ag_i73_14, ag_i73_17, ag_i73_20, ag_i73_23, ag_i73_24, ag_i73_27, ag_i73_30, ag_i73_31, ag_i73_34, ag_i73_44, ag_i73_45, ag_i73_48, ag_i73_49, ag_i73_52, ag_i73_53, ag_i73_54, ag_i73_57, ag_i73_58, ag_i73_61, ag_i73_62, ag_i73_63, ag_i73_66, ag_i73_67, ag_i73_70, ag_i73_71, ag_i73_74, ag_i73_77, ag_i73_80, ag_i73_81, ag_i73_84, ag_i73_87, ag_i73_90, ag_i73_91, ag_i73_94, ag_X_o0 hX, ag_X_o1 hX, ag_X_o2 hX, ag_X_o3 hX, ag_X_o4 hX, ag_X_oc hX, ag_X_n0 hX, ag_X_n1 hX, ag_X_n2 hX, ag_X_nc hX, ag_X_t0 hX, ag_X_t1 hX, ag_X_t2 hX, ag_X_tc hX, ag_X_b0 hX, ag_X_b1 hX, ag_X_b2 hX, ag_X_b3 hX, ag_X_b4 hX, ag_X_b5 hX, ag_X_b6 hX, ag_X_b7 hX, ag_X_b8 hX, ag_X_b9 hX, ag_X_bc hX, ag_X_p0 hX, ag_X_p1 hX, ag_X_p2 hX, ag_X_p3 hX, ag_X_p4 hX, ag_X_p5 hX, ag_X_p6 hX, ag_X_pc hX, ag_X_h0 hX, ag_X_h1 hX, ag_X_h2 hX, ag_X_h3 hX, ag_X_h4 hX, ag_X_h5 hX, ag_X_h6 hX, ag_X_hc hX, ag_X_q0 hX, ag_X_q1 hX, ag_X_q2 hX, ag_X_qc hX, ag_X_tb0 hX, ag_X_tb1 hX, ag_X_tb2 hX, ag_X_tb3 hX, ag_X_tb4 hX, ag_X_tb5 hX, ag_X_tb6 hX, ag_X_tb7 hX, ag_X_tb8 hX, ag_X_tb9 hX, ag_X_tbc hX, ag_X_tp0 hX, ag_X_tp1 hX, ag_X_tp2 hX, ag_X_tp3 hX, ag_X_tp4 hX, ag_X_tp5 hX, ag_X_tp6 hX, ag_X_tpc hX, ag_X_ba0 hX, ag_X_ba1 hX, ag_X_ba2 hX, ag_X_ba3 hX, ag_X_ba4 hX, ag_X_ba5 hX, ag_X_ba6 hX, ag_X_ba7 hX, ag_X_pa0 hX, ag_X_pa1 hX, ag_X_pa2 hX, ag_X_pa3 hX, ag_X_pa4 hX, ag_X_pa5 hX, ag_X_ha0 hX, ag_X_ha1 hX, ag_X_ha2 hX, ag_X_ha3 hX, ag_X_qa0 hX, ag_X_qa1 hX, ag_X_tba0 hX, ag_X_tba1 hX, ag_X_tba2 hX, ag_X_tba3 hX, ag_X_tba4 hX, ag_X_tba5 hX, ag_X_tba6 hX, ag_X_tba7 hX, ag_X_tpa0 hX, ag_X_tpa1 hX, ag_X_tpa2 hX, ag_X_tpa3 hX, ag_X_tpa4 hX, ag_X_tpa5 hX, ag_X_ea hX, ag_kk_v, ag_kk_n, Nat.reduceAdd, ag_b0, ag_b1, true_and, or_true, true_or, Int.reduceEq, ne_eq, not_false_eq_true, not_true_eq_false, ↓reduceIte, ag_nmk_2, ag_nmk_3, ag_nmk_4, ag_nmk_5, ag_nmk_7, ag_nmk_11, ag_nmk_12, ag_nmk_20, ag_nmk_99, ag_nmk_100, ag_nmk_300, ag_nmk_999, ag_nmk_9999, ag_nm_1, ag_nm_z, ag_nm_m, ag_bp_eq, hN, hnx, c1, hi, ag_if_f c2, ag_vH_2, ag_nm_of (show -2147483648 ≤ li by omega) (show li < 2147483648 by omega), c3]
theorem ag_F_call_1 (hX : ag_CX B τ (gh, ag_vH np qu li) (gq, ag_vP nq) S m T mt en) (hV : ag_IV S m) (hH : ag_HI gh np qu li) (hQ : ag_QI gq S.1 S.2.1 nq) {b : Nat} (hb : b < m) (hn : ag_nxt S.1 S.2.2.2 m = b) (hl : S.2.2.2 3 b = 0) (h3 : 3 ≤ li) :
    ∃ τ', ag_CX B τ' (gh, ag_vH np qu (li - 3)) (ag_ug gq 0 (ag_lvs (ag_dec gh np qu (-1) m S b).1 (ag_dec gh np qu (-1) m S b).2.1 (gq 0) nq), ag_vP nq) (ag_dec gh np qu (-1) m S b) m T mt en ∧ ag_Fr B τ τ' ∧ τ'.2 = τ.2 ∧
    ∀ K, ag_cl9 73 [ag_R (B + 1)] τ K = K (Sum.inl (some (ag_I ((ag_dec gh np qu (-1) m S b).2.2.2 3 b)))) τ' := by
  have hm := hV.2.1.1.2.2
  have hN := fun K => ag_Y_next hX hV K
  rw [hn] at hN
  have hi := fun K => ag_F_isSit hX hH K
  have hli := hH.2.2.2.1
  have hpf := fun x K => (show ag_pf τ (B + 2) 2 6 (ag_I x) K = K (ag_SH τ (B + 2) gh (ag_vH np qu x)) from by
    have := ag_SH_p6 τ (a := B + 2) (by first | decide | omega) gh (ag_vH np qu li) x K
    rwa [ag_SH_of hX.2.1, ag_vH_u2] at this)
  have hX2 : ag_CX B (ag_SH τ (B + 2) gh (ag_vH np qu (li - 3))) (gh, ag_vH np qu (li - 3)) (gq, ag_vP nq) S m T mt en := ag_CX_H hX
  have hD := fun K => ag_Y_decide hX2 hV hH.1 hH.2.1 hb hl ag_nm_m K
  have hV3 := (ag_dec_IV (gh := gh) (np := np) (qu := qu) (x := -1) hV hb hl).1
  obtain ⟨hX3, hF3⟩ := ag_CX_K (S' := ag_dec gh np qu (-1) m S b) (m' := m) hX2
  have hL := fun K => ag_Y_leave hX3 hV3 hQ.1 hQ.2.1 K
  have hX4 := ag_CX_Q (g := ag_ug gq 0 (ag_lvs (ag_dec gh np qu (-1) m S b).1 (ag_dec gh np qu (-1) m S b).2.1 (gq 0) nq)) (v := ag_vP nq) hX3
  refine ⟨_, hX4, ag_Fr_trans (ag_Fr_trans (ag_Fr_H τ) hF3) (ag_Fr_Q _), rfl, fun K => ?_⟩
  dsimp only at hX3 hX4 hL
  have c1 : ¬ li = -1 := by omega
  simp only [ag_e73, ag_i73_0, ag_i73_1, ag_i73_4, ag_i73_7_n, ag_i73_7_i, ag_i73_7_r, ag_i73_8, ag_i73_9, ag_i73_10, ag_i73_13, ag_i73_14, ag_i73_17, ag_i73_20, ag_i73_23, ag_i73_24, ag_i73_27, ag_i73_30, ag_i73_31, ag_i73_34, ag_i73_44, ag_i73_45, ag_i73_48, ag_i73_49, ag_i73_52, ag_i73_53, ag_i73_54, ag_i73_57, ag_i73_58, ag_i73_61, ag_i73_62, ag_i73_63, ag_i73_66, ag_i73_67, ag_i73_70, ag_i73_71, ag_i73_74, ag_i73_77, ag_i73_80, ag_i73_81, ag_i73_84, ag_i73_87, ag_i73_90, ag_i73_91, ag_i73_94, ag_X_o0 hX, ag_X_o1 hX, ag_X_o2 hX, ag_X_o3 hX, ag_X_o4 hX, ag_X_oc hX, ag_X_n0 hX, ag_X_n1 hX, ag_X_n2 hX, ag_X_nc hX, ag_X_t0 hX, ag_X_t1 hX, ag_X_t2 hX, ag_X_tc hX, ag_X_b0 hX, ag_X_b1 hX, ag_X_b2 hX, ag_X_b3 hX, ag_X_b4 hX, ag_X_b5 hX, ag_X_b6 hX, ag_X_b7 hX, ag_X_b8 hX, ag_X_b9 hX, ag_X_bc hX, ag_X_p0 hX, ag_X_p1 hX, ag_X_p2 hX, ag_X_p3 hX, ag_X_p4 hX, ag_X_p5 hX, ag_X_p6 hX, ag_X_pc hX, ag_X_h0 hX, ag_X_h1 hX, ag_X_h2 hX, ag_X_h3 hX, ag_X_h4 hX, ag_X_h5 hX, ag_X_h6 hX, ag_X_hc hX, ag_X_q0 hX, ag_X_q1 hX, ag_X_q2 hX, ag_X_qc hX, ag_X_tb0 hX, ag_X_tb1 hX, ag_X_tb2 hX, ag_X_tb3 hX, ag_X_tb4 hX, ag_X_tb5 hX, ag_X_tb6 hX, ag_X_tb7 hX, ag_X_tb8 hX, ag_X_tb9 hX, ag_X_tbc hX, ag_X_tp0 hX, ag_X_tp1 hX, ag_X_tp2 hX, ag_X_tp3 hX, ag_X_tp4 hX, ag_X_tp5 hX, ag_X_tp6 hX, ag_X_tpc hX, ag_X_ba0 hX, ag_X_ba1 hX, ag_X_ba2 hX, ag_X_ba3 hX, ag_X_ba4 hX, ag_X_ba5 hX, ag_X_ba6 hX, ag_X_ba7 hX, ag_X_pa0 hX, ag_X_pa1 hX, ag_X_pa2 hX, ag_X_pa3 hX, ag_X_pa4 hX, ag_X_pa5 hX, ag_X_ha0 hX, ag_X_ha1 hX, ag_X_ha2 hX, ag_X_ha3 hX, ag_X_qa0 hX, ag_X_qa1 hX, ag_X_tba0 hX, ag_X_tba1 hX, ag_X_tba2 hX, ag_X_tba3 hX, ag_X_tba4 hX, ag_X_tba5 hX, ag_X_tba6 hX, ag_X_tba7 hX, ag_X_tpa0 hX, ag_X_tpa1 hX, ag_X_tpa2 hX, ag_X_tpa3 hX, ag_X_tpa4 hX, ag_X_tpa5 hX, ag_X_ea hX, ag_kk_v, ag_kk_n, Nat.reduceAdd, ag_b0, ag_b1, true_and, or_true, true_or, Int.reduceEq, ne_eq, not_false_eq_true, not_true_eq_false, ↓reduceIte, ag_nmk_2, ag_nmk_3, ag_nmk_4, ag_nmk_5, ag_nmk_7, ag_nmk_11, ag_nmk_12, ag_nmk_20, ag_nmk_99, ag_nmk_100, ag_nmk_300, ag_nmk_999, ag_nmk_9999, ag_nm_1, ag_nm_z, ag_nm_m, ag_bp_eq, hN, ag_nm_nat (show b ≤ 1000000 by omega), show ¬ (b : Int) = -1 by omega, hi, ag_if_f c1, ag_vH_2, ag_nm_of (show -2147483648 ≤ li by omega) (show li < 2147483648 by omega), h3, hpf, ag_X_o0 hX2, ag_X_o1 hX2, ag_X_o2 hX2, ag_X_o3 hX2, ag_X_o4 hX2, ag_X_oc hX2, ag_X_n0 hX2, ag_X_n1 hX2, ag_X_n2 hX2, ag_X_nc hX2, ag_X_t0 hX2, ag_X_t1 hX2, ag_X_t2 hX2, ag_X_tc hX2, ag_X_b0 hX2, ag_X_b1 hX2, ag_X_b2 hX2, ag_X_b3 hX2, ag_X_b4 hX2, ag_X_b5 hX2, ag_X_b6 hX2, ag_X_b7 hX2, ag_X_b8 hX2, ag_X_b9 hX2, ag_X_bc hX2, ag_X_p0 hX2, ag_X_p1 hX2, ag_X_p2 hX2, ag_X_p3 hX2, ag_X_p4 hX2, ag_X_p5 hX2, ag_X_p6 hX2, ag_X_pc hX2, ag_X_h0 hX2, ag_X_h1 hX2, ag_X_h2 hX2, ag_X_h3 hX2, ag_X_h4 hX2, ag_X_h5 hX2, ag_X_h6 hX2, ag_X_hc hX2, ag_X_q0 hX2, ag_X_q1 hX2, ag_X_q2 hX2, ag_X_qc hX2, ag_X_tb0 hX2, ag_X_tb1 hX2, ag_X_tb2 hX2, ag_X_tb3 hX2, ag_X_tb4 hX2, ag_X_tb5 hX2, ag_X_tb6 hX2, ag_X_tb7 hX2, ag_X_tb8 hX2, ag_X_tb9 hX2, ag_X_tbc hX2, ag_X_tp0 hX2, ag_X_tp1 hX2, ag_X_tp2 hX2, ag_X_tp3 hX2, ag_X_tp4 hX2, ag_X_tp5 hX2, ag_X_tp6 hX2, ag_X_tpc hX2, ag_X_ba0 hX2, ag_X_ba1 hX2, ag_X_ba2 hX2, ag_X_ba3 hX2, ag_X_ba4 hX2, ag_X_ba5 hX2, ag_X_ba6 hX2, ag_X_ba7 hX2, ag_X_pa0 hX2, ag_X_pa1 hX2, ag_X_pa2 hX2, ag_X_pa3 hX2, ag_X_pa4 hX2, ag_X_pa5 hX2, ag_X_ha0 hX2, ag_X_ha1 hX2, ag_X_ha2 hX2, ag_X_ha3 hX2, ag_X_qa0 hX2, ag_X_qa1 hX2, ag_X_tba0 hX2, ag_X_tba1 hX2, ag_X_tba2 hX2, ag_X_tba3 hX2, ag_X_tba4 hX2, ag_X_tba5 hX2, ag_X_tba6 hX2, ag_X_tba7 hX2, ag_X_tpa0 hX2, ag_X_tpa1 hX2, ag_X_tpa2 hX2, ag_X_tpa3 hX2, ag_X_tpa4 hX2, ag_X_tpa5 hX2, ag_X_ea hX2, hD, ag_X_o0 hX3, ag_X_o1 hX3, ag_X_o2 hX3, ag_X_o3 hX3, ag_X_o4 hX3, ag_X_oc hX3, ag_X_n0 hX3, ag_X_n1 hX3, ag_X_n2 hX3, ag_X_nc hX3, ag_X_t0 hX3, ag_X_t1 hX3, ag_X_t2 hX3, ag_X_tc hX3, ag_X_b0 hX3, ag_X_b1 hX3, ag_X_b2 hX3, ag_X_b3 hX3, ag_X_b4 hX3, ag_X_b5 hX3, ag_X_b6 hX3, ag_X_b7 hX3, ag_X_b8 hX3, ag_X_b9 hX3, ag_X_bc hX3, ag_X_p0 hX3, ag_X_p1 hX3, ag_X_p2 hX3, ag_X_p3 hX3, ag_X_p4 hX3, ag_X_p5 hX3, ag_X_p6 hX3, ag_X_pc hX3, ag_X_h0 hX3, ag_X_h1 hX3, ag_X_h2 hX3, ag_X_h3 hX3, ag_X_h4 hX3, ag_X_h5 hX3, ag_X_h6 hX3, ag_X_hc hX3, ag_X_q0 hX3, ag_X_q1 hX3, ag_X_q2 hX3, ag_X_qc hX3, ag_X_tb0 hX3, ag_X_tb1 hX3, ag_X_tb2 hX3, ag_X_tb3 hX3, ag_X_tb4 hX3, ag_X_tb5 hX3, ag_X_tb6 hX3, ag_X_tb7 hX3, ag_X_tb8 hX3, ag_X_tb9 hX3, ag_X_tbc hX3, ag_X_tp0 hX3, ag_X_tp1 hX3, ag_X_tp2 hX3, ag_X_tp3 hX3, ag_X_tp4 hX3, ag_X_tp5 hX3, ag_X_tp6 hX3, ag_X_tpc hX3, ag_X_ba0 hX3, ag_X_ba1 hX3, ag_X_ba2 hX3, ag_X_ba3 hX3, ag_X_ba4 hX3, ag_X_ba5 hX3, ag_X_ba6 hX3, ag_X_ba7 hX3, ag_X_pa0 hX3, ag_X_pa1 hX3, ag_X_pa2 hX3, ag_X_pa3 hX3, ag_X_pa4 hX3, ag_X_pa5 hX3, ag_X_ha0 hX3, ag_X_ha1 hX3, ag_X_ha2 hX3, ag_X_ha3 hX3, ag_X_qa0 hX3, ag_X_qa1 hX3, ag_X_tba0 hX3, ag_X_tba1 hX3, ag_X_tba2 hX3, ag_X_tba3 hX3, ag_X_tba4 hX3, ag_X_tba5 hX3, ag_X_tba6 hX3, ag_X_tba7 hX3, ag_X_tpa0 hX3, ag_X_tpa1 hX3, ag_X_tpa2 hX3, ag_X_tpa3 hX3, ag_X_tpa4 hX3, ag_X_tpa5 hX3, ag_X_ea hX3, hL, ag_X_o0 hX4, ag_X_o1 hX4, ag_X_o2 hX4, ag_X_o3 hX4, ag_X_o4 hX4, ag_X_oc hX4, ag_X_n0 hX4, ag_X_n1 hX4, ag_X_n2 hX4, ag_X_nc hX4, ag_X_t0 hX4, ag_X_t1 hX4, ag_X_t2 hX4, ag_X_tc hX4, ag_X_b0 hX4, ag_X_b1 hX4, ag_X_b2 hX4, ag_X_b3 hX4, ag_X_b4 hX4, ag_X_b5 hX4, ag_X_b6 hX4, ag_X_b7 hX4, ag_X_b8 hX4, ag_X_b9 hX4, ag_X_bc hX4, ag_X_p0 hX4, ag_X_p1 hX4, ag_X_p2 hX4, ag_X_p3 hX4, ag_X_p4 hX4, ag_X_p5 hX4, ag_X_p6 hX4, ag_X_pc hX4, ag_X_h0 hX4, ag_X_h1 hX4, ag_X_h2 hX4, ag_X_h3 hX4, ag_X_h4 hX4, ag_X_h5 hX4, ag_X_h6 hX4, ag_X_hc hX4, ag_X_q0 hX4, ag_X_q1 hX4, ag_X_q2 hX4, ag_X_qc hX4, ag_X_tb0 hX4, ag_X_tb1 hX4, ag_X_tb2 hX4, ag_X_tb3 hX4, ag_X_tb4 hX4, ag_X_tb5 hX4, ag_X_tb6 hX4, ag_X_tb7 hX4, ag_X_tb8 hX4, ag_X_tb9 hX4, ag_X_tbc hX4, ag_X_tp0 hX4, ag_X_tp1 hX4, ag_X_tp2 hX4, ag_X_tp3 hX4, ag_X_tp4 hX4, ag_X_tp5 hX4, ag_X_tp6 hX4, ag_X_tpc hX4, ag_X_ba0 hX4, ag_X_ba1 hX4, ag_X_ba2 hX4, ag_X_ba3 hX4, ag_X_ba4 hX4, ag_X_ba5 hX4, ag_X_ba6 hX4, ag_X_ba7 hX4, ag_X_pa0 hX4, ag_X_pa1 hX4, ag_X_pa2 hX4, ag_X_pa3 hX4, ag_X_pa4 hX4, ag_X_pa5 hX4, ag_X_ha0 hX4, ag_X_ha1 hX4, ag_X_ha2 hX4, ag_X_ha3 hX4, ag_X_qa0 hX4, ag_X_qa1 hX4, ag_X_tba0 hX4, ag_X_tba1 hX4, ag_X_tba2 hX4, ag_X_tba3 hX4, ag_X_tba4 hX4, ag_X_tba5 hX4, ag_X_tba6 hX4, ag_X_tba7 hX4, ag_X_tpa0 hX4, ag_X_tpa1 hX4, ag_X_tpa2 hX4, ag_X_tpa3 hX4, ag_X_tpa4 hX4, ag_X_tpa5 hX4, ag_X_ea hX4, ag_rd_nat (show 20 ≤ 1000000 by decide) (show b < 20 by omega)]
end AGW
