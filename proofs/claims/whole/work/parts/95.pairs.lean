/-! THE CALLS in pairs: the class's, wrapped, and the reference's. -/
theorem ag_knn {w : Nat} {c : Int} (hc : ag_nm c = c) (h : ag_kno w c) : ∃ b : Nat, b < w ∧ c = b := by
  unfold ag_kno at h
  rw [hc] at h
  exact ⟨c.toNat, by omega, by omega⟩
theorem ag_knN {w b : Nat} (hw : w ≤ 1000) (h : b < w) : ag_kno w (b : Int) := by
  unfold ag_kno
  rw [ag_nm_of (by omega) (by omega)]
  omega
theorem ag_ladN {S : ag_T} {m b : Nat} (hm : m ≤ 20) (hb : b < m) : ag_lad S m (b : Int) ↔ S.2.2.2 3 b = 0 := by
  unfold ag_lad
  rw [ag_nm_of (by omega) (by omega), ag_rd_nat (by decide) (by omega)]
  exact ⟨fun z => z.2.2, fun z => ⟨by omega, by omega, z⟩⟩
theorem ag_txaN {S : ag_T} {b : Nat} (hb : b < 20) : ag_txa S (b : Int) ↔ (2 ≤ S.2.2.2 0 b ∧ S.2.2.2 0 b ≤ 4) := by
  unfold ag_txa
  rw [ag_rd_nat (by decide) hb]
theorem ag_car_01 (gh : Nat → Nat → Int) (np : Nat) (qu b x : Int) : ag_car gh np qu b x = 0 ∨ ag_car gh np qu b x = 1 := ag_cy_01 _ _ _ _
theorem ag_ff_le9 (p : Nat → Bool) : ∀ (k i : Nat), ag_ff p k i ≤ i + k := by
  intro k
  induction k with
  | zero => intro i; rw [ag_ff]; exact Nat.le_refl _
  | succ k ih =>
    intro i
    rw [ag_ff]
    have := ih (i + 1)
    split
    · omega
    · omega
theorem ag_cpt_le {gh : Nat → Nat → Int} {np b m : Nat} {qu x : Int} {S : ag_T} (hV : ag_IV S m) : ag_cpt gh np qu x S b ≤ 44 := by
  have hn := hV.1.1.2.2
  unfold ag_cpt ag_cst
  have he := ag_ff_le9 (fun i => decide (ag_rd 40 (S.1 2) (ag_rd 40 (S.1 6) i) ≤ ag_rd 40 (S.1 2) (S.2.2.2 1 b))) (S.2.2.1 - (ag_plc S.1 (S.2.2.2 1 b) + 1)) (ag_plc S.1 (S.2.2.2 1 b) + 1)
  have e : ag_edd S.1 S.2.2.1 (S.2.2.2 1 b) = ag_ff (fun i => decide (ag_rd 40 (S.1 2) (ag_rd 40 (S.1 6) i) ≤ ag_rd 40 (S.1 2) (S.2.2.2 1 b))) (S.2.2.1 - (ag_plc S.1 (S.2.2.2 1 b) + 1)) (ag_plc S.1 (S.2.2.2 1 b) + 1) := rfl
  rw [← e] at he
  split
  · omega
  · split
    · omega
    · split
      · omega
      · split
        · omega
        · omega
theorem ag_pfm_w1 (gb : Nat → Nat → Int) (w n : Nat) (gp : Nat → Nat → Int) (b : Nat) : (ag_pfm gb w n gp b).2.1 ≤ w + 1 := by
  unfold ag_pfm
  split
  · exact Nat.le_succ _
  · split
    · exact Nat.le_succ _
    · split
      · exact Nat.le_succ _
      · split
        · exact Nat.le_refl _
        · split
          · exact Nat.le_refl _
          · exact Nat.le_succ _
theorem ag_dec_w {gh : Nat → Nat → Int} {np m b : Nat} {qu x : Int} (S : ag_T) : S.2.1 ≤ (ag_dec gh np qu x m S b).2.1 ∧ (ag_dec gh np qu x m S b).2.1 ≤ S.2.1 + 1 := by
  unfold ag_dec
  split
  · exact ⟨Nat.le_refl _, Nat.le_succ _⟩
  · split
    · exact ⟨Nat.le_refl _, Nat.le_succ _⟩
    · exact ⟨ag_pfm_w _ _ _ _ _, ag_pfm_w1 _ _ _ _ _⟩
theorem ag_Gr_g {w m p w1 m1 p1 dc ds : Nat} (h1 : dc ≤ 640) (h2 : ds ≤ 44) (h3 : w ≤ w1) (h4 : m ≤ m1) (h5 : p ≤ p1) (h6 : w1 + m1 + p1 ≤ w + m + p + 1) : ag_Gr w m p w1 m1 p1 dc ds := ⟨h1, h3, h4, h5, h6, Or.inl h2⟩
section AGCALL
variable {L : Nat} {xs : Nat → Int} {k : Nat} {τ : ag_S} {S : ag_T} {m : Nat} {T : ag_T} {mt : Nat} {en : Nat → Int} {gh gq : Nat → Nat → Int} {np nq : Nat} {qu li : Int} {r : Nat → Int} {th : Int}
theorem ag_go_clause (hW : ag_WX L xs k τ S m T mt en gh gq np nq qu li r th) {p q : Int} (h_p : ag_nm p = p) (h_q : ag_nm q = q) : ag_PR (fun _ => True) L xs k τ 167 109 [ag_I p, ag_I q] := by
  have hW9 := hW
  obtain ⟨hX, hM, hA, hV, hr, hH, hQ, hT, hsp, hR⟩ := hW9
  have hO := hX.1
  have hm20 : m ≤ 20 := hV.2.1.1.2.2
  have hw40 : S.2.1 ≤ 40 := hV.1.1.2.2.2
  have hp5 : np ≤ 5 := hH.2.1
  by_cases c0 : p = -1 ∨ ag_hld S p
  · by_cases c1 : ag_tx q
    · by_cases c2 : 40 ≤ S.2.1 ∨ 3 < ag_hun S.1 p ∨ 0 < m
      · exact ag_go_x (fun _ => True) hW (c := 3) (by decide) (fun K => ag_L_clause_x2 hO (fun K => ag_F_clause_2 hX hV hH hQ h_p c0 c1 c2 K) K) (fun σ hσ K => ag_P_clause_2 (ag_m0 hσ) hV hr hH hQ h_p c0 c1 c2 K)
      · have c3 : S.2.1 < 40 := by omega
        have c4 : ag_hun S.1 p ≤ 3 := by omega
        have c5 : m = 0 := by omega
        subst c5
        by_cases c6 : p = -1
        · subst c6
          have hV1 := ag_IV_cl3 hV c3 c1 h_q
          exact ag_go_c (fun _ => True) hW (ag_CX_B hX) (ag_Fr_B τ) rfl (fun f hf K => ag_L_clause_v hO (fun K => ag_F_clause_3 hX hV c1 c3 rfl K) hf K) (fun σ hσ => ag_P_clause_3 (ag_m0 hσ) hV hr hH hQ c1 c3 rfl) hV1 hH (ag_QI_ins hV hQ (Nat.le_refl _) hV1.1) hT (ag_sp9_s hsp) (ag_Gr_g (by decide) (by decide) (Nat.le_succ _) (Nat.le_refl _) (Nat.le_refl _) (by show S.2.1 + 1 + 0 + np ≤ _; omega)) trivial
        · have c7 : ag_hld S p := c0.resolve_left c6
          have hV1 := ag_IV_cl4 hV h_p c6 c7 c3 c4 c1 h_q
          have hpl : ag_edd S.1 S.2.2.1 p ≤ S.2.2.1 := by
            obtain ⟨-, i, i1, i2, i3, i4, i5⟩ := ag_hld_p hV h_p c7
            exact (ag_IB_blk hV.1 i1 i3 i5).2.1
          exact ag_go_c (fun _ => True) hW (ag_CX_B hX) (ag_Fr_B τ) rfl (fun f hf K => ag_L_clause_v hO (fun K => ag_F_clause_4 hX hV h_p c6 c7 c1 c3 c4 rfl K) hf K) (fun σ hσ => ag_P_clause_4 (ag_m0 hσ) hV hr hH hQ h_p c6 c7 c1 c3 c4 rfl) hV1 hH (ag_QI_ins hV hQ hpl hV1.1) hT (ag_sp9_s hsp) (ag_Gr_g (by decide) (by decide) (Nat.le_succ _) (Nat.le_refl _) (Nat.le_refl _) (by show S.2.1 + 1 + 0 + np ≤ _; omega)) trivial
    · exact ag_go_x (fun _ => True) hW (c := 2) (by decide) (fun K => ag_L_clause_x1 hO (fun K => ag_F_clause_1 hX hV hH hQ h_p c0 c1 K) K) (fun σ hσ K => ag_P_clause_1 (ag_m0 hσ) hV hr hH hQ h_p c0 c1 K)
  · have c1 : ¬ p = -1 := fun z => c0 (Or.inl z)
    have c2 : ¬ ag_hld S p := fun z => c0 (Or.inr z)
    exact ag_go_x (fun _ => True) hW (c := 1) (by decide) (fun K => ag_L_clause_x0 hO (fun K => ag_F_clause_0 hX hV hH hQ h_p c1 c2 K) K) (fun σ hσ K => ag_P_clause_0 (ag_m0 hσ) hV hr hH hQ h_p c1 c2 K)
theorem ag_go_ofClause (hW : ag_WX L xs k τ S m T mt en gh gq np nq qu li r th) {p q : Int} (h_p : ag_nm p = p) (h_q : ag_nm q = q) : ag_PR (fun _ => True) L xs k τ 168 112 [ag_I p, ag_I q] := by
  have hW9 := hW
  obtain ⟨hX, hM, hA, hV, hr, hH, hQ, hT, hsp, hR⟩ := hW9
  have hO := hX.1
  have hm20 : m ≤ 20 := hV.2.1.1.2.2
  have hw40 : S.2.1 ≤ 40 := hV.1.1.2.2.2
  have hp5 : np ≤ 5 := hH.2.1
  by_cases c0 : ag_kno S.2.1 p
  · by_cases c1 : 0 ≤ q ∧ q ≤ 7
    · obtain ⟨n9, rfl⟩ : ∃ n9 : Nat, q = n9 := ⟨q.toNat, by omega⟩
      have c2 : n9 ≤ 7 := by omega
      exact ag_go_v (fun _ => True) hW (fun f hf K => ag_L_ofClause_v hO  (fun K => ag_F_ofClause_2 hX hV hH hQ h_p c0 c2 K) hf K) (fun σ hσ K => ag_P_ofC_2 (ag_m0 hσ) hV hr hH hQ h_p c0 c2 K) trivial
    · exact ag_go_x (fun _ => True) hW (c := 2) (by decide) (fun K => ag_L_ofClause_x1 hO (fun K => ag_F_ofClause_1 hX hV hH hQ h_q c0 c1 K) K) (fun σ hσ K => ag_P_ofC_1 (ag_m0 hσ) hV hr hH hQ h_q c0 c1 K)
  · exact ag_go_x (fun _ => True) hW (c := 1) (by decide) (fun K => ag_L_ofClause_x0 hO (fun K => ag_F_ofClause_0 hX hV hH hQ c0 K) K) (fun σ hσ K => ag_P_ofC_0 (ag_m0 hσ) hV hr hH hQ c0 K)
theorem ag_go_read (hW : ag_WX L xs k τ S m T mt en gh gq np nq qu li r th) {p : Int} (h_p : ag_nm p = p) : ag_PR (fun _ => True) L xs k τ 169 113 [ag_I p] := by
  have hW9 := hW
  obtain ⟨hX, hM, hA, hV, hr, hH, hQ, hT, hsp, hR⟩ := hW9
  have hO := hX.1
  have hm20 : m ≤ 20 := hV.2.1.1.2.2
  have hw40 : S.2.1 ≤ 40 := hV.1.1.2.2.2
  have hp5 : np ≤ 5 := hH.2.1
  by_cases c0 : 0 ≤ p ∧ p < S.2.2.1
  · exact ag_go_v (fun _ => True) hW (fun f hf K => ag_L_read_v hO  (fun K => ag_F_read_1 hX hV hH hQ h_p c0 K) hf K) (fun σ hσ K => ag_P_read_1 (ag_m0 hσ) hV hr hH hQ h_p c0 K) trivial
  · exact ag_go_x (fun _ => True) hW (c := 1) (by decide) (fun K => ag_L_read_x0 hO (fun K => ag_F_read_0 hX hV hH hQ h_p c0 K) K) (fun σ hσ K => ag_P_read_0 (ag_m0 hσ) hV hr hH hQ h_p c0 K)
theorem ag_go_many (hW : ag_WX L xs k τ S m T mt en gh gq np nq qu li r th) {p : Int} (h_p : ag_nm p = p) : ag_PR (fun _ => True) L xs k τ 170 118 [ag_I p] := by
  have hW9 := hW
  obtain ⟨hX, hM, hA, hV, hr, hH, hQ, hT, hsp, hR⟩ := hW9
  have hO := hX.1
  have hm20 : m ≤ 20 := hV.2.1.1.2.2
  have hw40 : S.2.1 ≤ 40 := hV.1.1.2.2.2
  have hp5 : np ≤ 5 := hH.2.1
  by_cases c0 : 0 ≤ p ∧ p ≤ 11
  · obtain ⟨n9, rfl⟩ : ∃ n9 : Nat, p = n9 := ⟨p.toNat, by omega⟩
    have c2 : n9 ≤ 11 := by omega
    exact ag_go_v (fun _ => True) hW (fun f hf K => ag_L_many_v hO  (fun K => ag_F_many_1 hX hV hH hQ c2 K) hf K) (fun σ hσ K => ag_P_many_1 (ag_m0 hσ) hV hr hH hQ c2 K) trivial
  · exact ag_go_x (fun _ => True) hW (c := 1) (by decide) (fun K => ag_L_many_x1 hO (fun K => ag_F_many_0 hX hV hH hQ h_p c0 K) K) (fun σ hσ K => ag_P_many_0 (ag_m0 hσ) hV hr hH hQ h_p c0 K)
theorem ag_go_lay (hW : ag_WX L xs k τ S m T mt en gh gq np nq qu li r th) {p q x : Int} (h_p : ag_nm p = p) (h_q : ag_nm q = q) (h_x : ag_nm x = x) : ag_PR (fun _ => True) L xs k τ 171 125 [ag_I p, ag_I q, ag_I x] := by
  have hW9 := hW
  obtain ⟨hX, hM, hA, hV, hr, hH, hQ, hT, hsp, hR⟩ := hW9
  have hO := hX.1
  have hm20 : m ≤ 20 := hV.2.1.1.2.2
  have hw40 : S.2.1 ≤ 40 := hV.1.1.2.2.2
  have hp5 : np ≤ 5 := hH.2.1
  by_cases c0 : 0 ≤ p ∧ p ≤ 4
  · by_cases c1 : 2 ≤ p → ag_tx x
    · by_cases c2 : ag_hld S q
      · by_cases c3 : p = 1 → ag_hld S x
        · by_cases c4 : 20 ≤ m ∨ ag_fit S.1 S.2.1 S.2.2.1 p q x = 0
          · exact ag_go_x (fun _ => True) hW (c := 3) (by decide) (fun K => ag_L_lay_x2 hO (fun K => ag_F_lay_2 hX hV hH hQ h_p c0 c1 h_q c2 c3 c4 K) K) (fun σ hσ K => ag_P_lay_3 (ag_m0 hσ) hV hr hH hQ h_p h_q h_x c0 c1 c2 c3 c4 K)
          · have c5 : m < 20 := by omega
            have c6 : ag_fit S.1 S.2.1 S.2.2.1 p q x = 1 := (ag_fit_01 _ _ _ _ _ _).resolve_left (fun z => c4 (Or.inr z))
            have hq9 := (ag_hld_p hV h_q c2).1
            have hx9 : p = 1 → 0 ≤ x ∧ x < S.2.1 ∧ S.1 5 x.toNat ≠ -1 := fun z => (ag_hld_p hV h_x (c3 z)).1
            have ho : -100000 ≤ (if p = 0 then -1 else x) ∧ (if p = 0 then -1 else x) ≤ 100000 := by
              by_cases z : p = 0
              · rw [if_pos z]; decide
              · rw [if_neg z]
                by_cases z1 : p = 1
                · have := hx9 z1
                  omega
                · have h7 := c1 (by omega)
                  unfold ag_tx at h7
                  rw [h_x] at h7
                  omega
            exact ag_go_c (fun _ => True) hW (ag_CX_P hX) (ag_Fr_P τ) rfl (fun f hf K => ag_L_lay_v hO (fun K => ag_F_lay_3 hX hV hH hQ h_p c0 c1 h_q c2 c3 c5 c6 K) hf K) (fun σ hσ => ⟨σ, r, ag_fr_refl σ, hr, fun K => ag_P_lay_4 (ag_m0 hσ) hV hr hH hQ h_p h_q h_x c0 c1 c2 c3 c5 c6 K⟩) (ag_IV_adp hV c5 (by omega) ho (fun z => by omega) (fun _ => hq9) (fun z => by rw [if_neg (by omega)]; exact hx9 z)) hH hQ hT (ag_sp9_s hsp) (ag_Gr_g (by decide) (by decide) (Nat.le_refl _) (Nat.le_succ _) (Nat.le_refl _) (by show S.2.1 + (m + 1) + np ≤ _; omega)) trivial
        · have c4 : ¬ ag_hld S q ∨ (p = 1 ∧ ¬ ag_hld S x) := Or.inr (Classical.not_imp.mp c3)
          exact ag_go_x (fun _ => True) hW (c := 2) (by decide) (fun K => ag_L_lay_x0 hO (fun K => ag_F_lay_0 hX hV hH hQ h_p c0 c1 c4 K) K) (fun σ hσ K => ag_P_lay_2 (ag_m0 hσ) hV hr hH hQ h_p h_q h_x c0 c1 c4 K)
      · have c4 : ¬ ag_hld S q ∨ (p = 1 ∧ ¬ ag_hld S x) := Or.inl c2
        exact ag_go_x (fun _ => True) hW (c := 2) (by decide) (fun K => ag_L_lay_x0 hO (fun K => ag_F_lay_0 hX hV hH hQ h_p c0 c1 c4 K) K) (fun σ hσ K => ag_P_lay_2 (ag_m0 hσ) hV hr hH hQ h_p h_q h_x c0 c1 c4 K)
    · have c2 : p < 0 ∨ 4 < p ∨ (2 ≤ p ∧ ¬ ag_tx x) := Or.inr (Or.inr (Classical.not_imp.mp c1))
      exact ag_go_x (fun _ => True) hW (c := 1) (by decide) (fun K => ag_L_lay_x1 hO (fun K => ag_F_lay_1 hX hV hH hQ h_p c2 K) K) (fun σ hσ K => ag_P_lay_1 (ag_m0 hσ) hV hr hH hQ h_p c2 K)
  · have c2 : p < 0 ∨ 4 < p ∨ (2 ≤ p ∧ ¬ ag_tx x) := by omega
    exact ag_go_x (fun _ => True) hW (c := 1) (by decide) (fun K => ag_L_lay_x1 hO (fun K => ag_F_lay_1 hX hV hH hQ h_p c2 K) K) (fun σ hσ K => ag_P_lay_1 (ag_m0 hσ) hV hr hH hQ h_p c2 K)
theorem ag_go_change (hW : ag_WX L xs k τ S m T mt en gh gq np nq qu li r th) {p q : Int} (h_p : ag_nm p = p) (h_q : ag_nm q = q) : ag_PR (fun _ => True) L xs k τ 172 126 [ag_I p, ag_I q] := by
  have hW9 := hW
  obtain ⟨hX, hM, hA, hV, hr, hH, hQ, hT, hsp, hR⟩ := hW9
  have hO := hX.1
  have hm20 : m ≤ 20 := hV.2.1.1.2.2
  have hw40 : S.2.1 ≤ 40 := hV.1.1.2.2.2
  have hp5 : np ≤ 5 := hH.2.1
  by_cases c0 : ag_kno m p
  · obtain ⟨b, hb, rfl⟩ := ag_knn h_p c0
    by_cases c1 : ag_tx q
    · by_cases c2 : m < 20 ∧ S.2.2.2 3 b = 0 ∧ (2 ≤ S.2.2.2 0 b ∧ S.2.2.2 0 b ≤ 4)
      · obtain ⟨c3, c4, c5⟩ := c2
        have ho : -100000 ≤ q ∧ q ≤ 100000 := by
          unfold ag_tx at c1
          rw [h_q] at c1
          omega
        exact ag_go_c (fun _ => True) hW (ag_CX_P hX) (ag_Fr_P τ) rfl (fun f hf K => ag_L_change_v hO (fun K => ag_F_change_3 hX hV hH hQ h_p c0 c1 c3 ((ag_ladN hm20 hb).mpr c4) ((ag_txaN (by omega)).mpr c5) K) hf K) (fun σ hσ => ⟨σ, r, ag_fr_refl σ, hr, fun K => ag_P_change_3 (ag_m0 hσ) hV hr hH hQ hb c1 c3 c4 c5 K⟩) (ag_IV_adp hV c3 (by decide) ho (fun _ => ⟨by omega, by omega, c5.1, c5.2⟩) (fun z => absurd rfl z) (fun z => absurd z (by decide))) hH hQ hT (ag_sp9_s hsp) (ag_Gr_g (by decide) (by decide) (Nat.le_refl _) (Nat.le_succ _) (Nat.le_refl _) (by show S.2.1 + (m + 1) + np ≤ _; omega)) trivial
      · have c3 : 20 ≤ m ∨ ¬ ag_lad S m b ∨ ¬ ag_txa S b := by
          rw [ag_ladN hm20 hb, ag_txaN (show b < 20 by omega)]
          omega
        have c4 : m = 20 ∨ ¬ S.2.2.2 3 b = 0 ∨ ¬ (2 ≤ S.2.2.2 0 b ∧ S.2.2.2 0 b ≤ 4) := by omega
        exact ag_go_x (fun _ => True) hW (c := 3) (by decide) (fun K => ag_L_change_x2 hO (fun K => ag_F_change_2 hX hV hH hQ h_p c0 c1 c3 K) K) (fun σ hσ K => ag_P_change_2 (ag_m0 hσ) hV hr hH hQ hb c1 c4 K)
    · exact ag_go_x (fun _ => True) hW (c := 2) (by decide) (fun K => ag_L_change_x1 hO (fun K => ag_F_change_1 hX hV hH hQ h_p c0 c1 K) K) (fun σ hσ K => ag_P_change_1 (ag_m0 hσ) hV hr hH hQ c0 c1 K)
  · exact ag_go_x (fun _ => True) hW (c := 1) (by decide) (fun K => ag_L_change_x0 hO (fun K => ag_F_change_0 hX hV hH hQ h_p c0 K) K) (fun σ hσ K => ag_P_change_0 (ag_m0 hσ) hV hr hH hQ c0 K)
theorem ag_go_withdraw (hW : ag_WX L xs k τ S m T mt en gh gq np nq qu li r th) {p : Int} (h_p : ag_nm p = p) : ag_PR (fun _ => True) L xs k τ 173 130 [ag_I p] := by
  have hW9 := hW
  obtain ⟨hX, hM, hA, hV, hr, hH, hQ, hT, hsp, hR⟩ := hW9
  have hO := hX.1
  have hm20 : m ≤ 20 := hV.2.1.1.2.2
  have hw40 : S.2.1 ≤ 40 := hV.1.1.2.2.2
  have hp5 : np ≤ 5 := hH.2.1
  by_cases c0 : ag_kno m p
  · obtain ⟨b, hb, rfl⟩ := ag_knn h_p c0
    by_cases c1 : S.2.2.2 3 b = 0
    · exact ag_go_c (fun _ => True) hW (ag_CX_P hX) (ag_Fr_P τ) rfl (fun f hf K => ag_L_withdraw_v hO (fun K => ag_F_withdraw_3 hX hV hH hQ hb c1 K) hf K) (fun σ hσ => ⟨σ, r, ag_fr_refl σ, hr, fun K => ag_P_withdraw_3 (ag_m0 hσ) hV hr hH hQ hb c1 K⟩) (ag_IV_wdr hV hb) hH hQ hT (ag_sp9_s hsp) (ag_Gr_0 _ _ _) trivial
    · have c2 : ¬ ag_lad S m b := fun z => c1 ((ag_ladN hm20 hb).mp z)
      exact ag_go_x (fun _ => True) hW (c := 2) (by decide) (fun K => ag_L_withdraw_x2 hO (fun K => ag_F_withdraw_2 hX hV hH hQ h_p c0 c2 K) K) (fun σ hσ K => ag_P_withdraw_2 (ag_m0 hσ) hV hr hH hQ hb c1 K)
  · exact ag_go_x (fun _ => True) hW (c := 1) (by decide) (fun K => ag_L_withdraw_x0 hO (fun K => ag_F_withdraw_0 hX hV hH hQ h_p c0 K) K) (fun σ hσ K => ag_P_withdraw_0 (ag_m0 hσ) hV hr hH hQ c0 K)
theorem ag_go_ofAmendment (hW : ag_WX L xs k τ S m T mt en gh gq np nq qu li r th) {p q : Int} (h_p : ag_nm p = p) (h_q : ag_nm q = q) : ag_PR (fun _ => True) L xs k τ 174 132 [ag_I p, ag_I q] := by
  have hW9 := hW
  obtain ⟨hX, hM, hA, hV, hr, hH, hQ, hT, hsp, hR⟩ := hW9
  have hO := hX.1
  have hm20 : m ≤ 20 := hV.2.1.1.2.2
  have hw40 : S.2.1 ≤ 40 := hV.1.1.2.2.2
  have hp5 : np ≤ 5 := hH.2.1
  by_cases c0 : ag_kno m p
  · by_cases c1 : 0 ≤ q ∧ q ≤ 5
    · obtain ⟨b, hb, rfl⟩ := ag_knn h_p c0
      obtain ⟨n9, rfl⟩ : ∃ n9 : Nat, q = n9 := ⟨q.toNat, by omega⟩
      have c2 : n9 ≤ 5 := by omega
      exact ag_go_v (fun _ => True) hW (fun f hf K => ag_L_ofAmendment_v hO  (fun K => ag_F_ofAm_2 hX hV hH hQ c0 c2 K) hf K) (fun σ hσ K => ag_P_ofAm_2 (ag_m0 hσ) hV hr hH hQ hb c2 K) trivial
    · exact ag_go_x (fun _ => True) hW (c := 2) (by decide) (fun K => ag_L_ofAmendment_x1 hO (fun K => ag_F_ofAm_1 hX hV hH hQ h_q c0 c1 K) K) (fun σ hσ K => ag_P_ofAm_1 (ag_m0 hσ) hV hr hH hQ h_q c0 c1 K)
  · exact ag_go_x (fun _ => True) hW (c := 1) (by decide) (fun K => ag_L_ofAmendment_x0 hO (fun K => ag_F_ofAm_0 hX hV hH hQ h_p c0 K) K) (fun σ hσ K => ag_P_ofAm_0 (ag_m0 hσ) hV hr hH hQ c0 K)
theorem ag_go_canBeDone (hW : ag_WX L xs k τ S m T mt en gh gq np nq qu li r th) {p : Int} (h_p : ag_nm p = p) : ag_PR (fun b => b = 0 ∨ b = 1) L xs k τ 175 135 [ag_I p] := by
  have hW9 := hW
  obtain ⟨hX, hM, hA, hV, hr, hH, hQ, hT, hsp, hR⟩ := hW9
  have hO := hX.1
  have hm20 : m ≤ 20 := hV.2.1.1.2.2
  have hw40 : S.2.1 ≤ 40 := hV.1.1.2.2.2
  have hp5 : np ≤ 5 := hH.2.1
  by_cases c0 : ag_kno m p
  · obtain ⟨b, hb, rfl⟩ := ag_knn h_p c0
    exact ag_go_v (fun b => b = 0 ∨ b = 1) hW (fun f hf K => ag_L_canBeDone_v hO (ag_dbl_01 _ _ _) (fun K => ag_F_canBe_1 hX hV hH hQ h_p c0 K) hf K) (fun σ hσ K => ag_P_canBe_1 (ag_m0 hσ) hV hr hH hQ hb K) (ag_dbl_01 _ _ _)
  · exact ag_go_x (fun b => b = 0 ∨ b = 1) hW (c := 1) (by decide) (fun K => ag_L_canBeDone_x0 hO (fun K => ag_F_canBe_0 hX hV hH hQ h_p c0 K) K) (fun σ hσ K => ag_P_canBe_0 (ag_m0 hσ) hV hr hH hQ c0 K)
theorem ag_go_party (hW : ag_WX L xs k τ S m T mt en gh gq np nq qu li r th) {p : Int} (h_p : ag_nm p = p) : ag_PR (fun _ => True) L xs k τ 176 143 [ag_I p] := by
  have hW9 := hW
  obtain ⟨hX, hM, hA, hV, hr, hH, hQ, hT, hsp, hR⟩ := hW9
  have hO := hX.1
  have hm20 : m ≤ 20 := hV.2.1.1.2.2
  have hw40 : S.2.1 ≤ 40 := hV.1.1.2.2.2
  have hp5 : np ≤ 5 := hH.2.1
  by_cases c0 : 1 ≤ p ∧ p ≤ 99
  · by_cases c1 : np < 5
    · exact ag_go_c (fun _ => True) hW (ag_CX_H hX) (ag_Fr_H τ) rfl (fun f hf K => ag_L_party_v hO (fun K => ag_F_party_2 hX hV hH hQ h_p c0 c1 K) hf K) (fun σ hσ => ⟨σ, r, ag_fr_refl σ, hr, fun K => ag_P_party_2 (ag_m0 hσ) hV hr hH hQ h_p c0 c1 K⟩) hV (ag_HI_party hH c0 c1) hQ hT (ag_sp9_gh hsp (ag_ug_ne _ _ (by decide)) (Or.inl (Int.le_refl _))) (ag_Gr_g (by decide) (by decide) (Nat.le_refl _) (Nat.le_refl _) (Nat.le_succ _) (by show S.2.1 + m + (np + 1) ≤ _; omega)) trivial
    · exact ag_go_x (fun _ => True) hW (c := 2) (by decide) (fun K => ag_L_party_x2 hO (fun K => ag_F_party_1 hX hV hH hQ h_p c0 c1 K) K) (fun σ hσ K => ag_P_party_1 (ag_m0 hσ) hV hr hH hQ h_p c0 c1 K)
  · exact ag_go_x (fun _ => True) hW (c := 1) (by decide) (fun K => ag_L_party_x1 hO (fun K => ag_F_party_0 hX hV hH hQ h_p c0 K) K) (fun σ hσ K => ag_P_party_0 (ag_m0 hσ) hV hr hH hQ h_p c0 K)
theorem ag_go_vote (hW : ag_WX L xs k τ S m T mt en gh gq np nq qu li r th) {p q x : Int} (h_p : ag_nm p = p) (h_q : ag_nm q = q) (h_x : ag_nm x = x) : ag_PR (fun _ => True) L xs k τ 177 145 [ag_I p, ag_I q, ag_I x] := by
  have hW9 := hW
  obtain ⟨hX, hM, hA, hV, hr, hH, hQ, hT, hsp, hR⟩ := hW9
  have hO := hX.1
  have hm20 : m ≤ 20 := hV.2.1.1.2.2
  have hw40 : S.2.1 ≤ 40 := hV.1.1.2.2.2
  have hp5 : np ≤ 5 := hH.2.1
  by_cases c0 : ag_kno np p
  · by_cases c1 : ag_kno m q
    · by_cases c2 : -1 ≤ x ∧ x ≤ 1
      · obtain ⟨b, hb, rfl⟩ := ag_knn h_q c1
        by_cases c3 : S.2.2.2 3 b = 0
        · obtain ⟨a, ha, rfl⟩ := ag_knn h_p c0
          exact ag_go_c (fun _ => True) hW (ag_CX_H hX) (ag_Fr_H τ) rfl (fun f hf K => ag_L_vote_v hO (fun K => ag_F_vote_3 hX hV hH hQ h_x c0 c1 c2 ((ag_ladN hm20 hb).mpr c3) K) hf K) (fun σ hσ => ⟨σ, r, ag_fr_refl σ, hr, fun K => ag_P_vote_3 (ag_m0 hσ) hV hr hH hQ h_x ha hb c2 c3 K⟩) hV (ag_HI_vote hH c2) hQ hT (ag_sp9_gh hsp (ag_ug_ne _ _ (by decide)) (Or.inl (Int.le_refl _))) (ag_Gr_0 _ _ _) trivial
        · have c4 : ¬ ag_lad S m b := fun z => c3 ((ag_ladN hm20 hb).mp z)
          exact ag_go_x (fun _ => True) hW (c := 3) (by decide) (fun K => ag_L_vote_x2 hO (fun K => ag_F_vote_2 hX hV hH hQ h_x c0 c1 c2 c4 K) K) (fun σ hσ K => ag_P_vote_2 (ag_m0 hσ) hV hr hH hQ h_x c0 hb c2 c3 K)
      · exact ag_go_x (fun _ => True) hW (c := 2) (by decide) (fun K => ag_L_vote_x1 hO (fun K => ag_F_vote_1 hX hV hH hQ h_x c0 c1 c2 K) K) (fun σ hσ K => ag_P_vote_1 (ag_m0 hσ) hV hr hH hQ h_x c0 c1 c2 K)
    · exact ag_go_x (fun _ => True) hW (c := 1) (by decide) (fun K => ag_L_vote_x0 hO (fun K => ag_F_vote_0 hX hV hH hQ h_x (Or.inr c1) K) K) (fun σ hσ K => ag_P_vote_0 (ag_m0 hσ) hV hr hH hQ (Or.inr c1) K)
  · exact ag_go_x (fun _ => True) hW (c := 1) (by decide) (fun K => ag_L_vote_x0 hO (fun K => ag_F_vote_0 hX hV hH hQ h_x (Or.inl c0) K) K) (fun σ hσ K => ag_P_vote_0 (ag_m0 hσ) hV hr hH hQ (Or.inl c0) K)
theorem ag_go_quorum (hW : ag_WX L xs k τ S m T mt en gh gq np nq qu li r th) {p : Int} (h_p : ag_nm p = p) : ag_PR (fun _ => True) L xs k τ 178 146 [ag_I p] := by
  have hW9 := hW
  obtain ⟨hX, hM, hA, hV, hr, hH, hQ, hT, hsp, hR⟩ := hW9
  have hO := hX.1
  have hm20 : m ≤ 20 := hV.2.1.1.2.2
  have hw40 : S.2.1 ≤ 40 := hV.1.1.2.2.2
  have hp5 : np ≤ 5 := hH.2.1
  by_cases c0 : 0 ≤ p ∧ p ≤ 100
  · exact ag_go_c (fun _ => True) hW (ag_CX_H hX) (ag_Fr_H τ) rfl (fun f hf K => ag_L_quorum_v hO (fun K => ag_F_quorum_1 hX hV hH hQ h_p c0 K) hf K) (fun σ hσ => ⟨σ, r, ag_fr_refl σ, hr, fun K => ag_P_quorum_1 (ag_m0 hσ) hV hr hH hQ h_p c0 K⟩) hV ⟨hH.1, hH.2.1, c0, hH.2.2.2⟩ hQ hT (ag_sp9_s hsp) (ag_Gr_0 _ _ _) trivial
  · exact ag_go_x (fun _ => True) hW (c := 1) (by decide) (fun K => ag_L_quorum_x1 hO (fun K => ag_F_quorum_0 hX hV hH hQ h_p c0 K) K) (fun σ hσ K => ag_P_quorum_0 (ag_m0 hσ) hV hr hH hQ h_p c0 K)
theorem ag_go_sit (hW : ag_WX L xs k τ S m T mt en gh gq np nq qu li r th) {p : Int} (h_p : ag_nm p = p) : ag_PR (fun _ => True) L xs k τ 179 147 [ag_I p] := by
  have hW9 := hW
  obtain ⟨hX, hM, hA, hV, hr, hH, hQ, hT, hsp, hR⟩ := hW9
  have hO := hX.1
  have hm20 : m ≤ 20 := hV.2.1.1.2.2
  have hw40 : S.2.1 ≤ 40 := hV.1.1.2.2.2
  have hp5 : np ≤ 5 := hH.2.1
  by_cases c0 : 0 ≤ p ∧ p ≤ 300
  · by_cases c1 : np = 0
    · exact ag_go_x (fun _ => True) hW (c := 2) (by decide) (fun K => ag_L_sit_x2 hO (fun K => ag_F_sit_1 hX hV hH hQ h_p c0 c1 K) K) (fun σ hσ K => ag_P_sit_1 (ag_m0 hσ) hV hr hH hQ h_p c0 c1 K)
    · have c2 : 0 < np := by omega
      exact ag_go_c (fun _ => True) hW (ag_CX_H hX) (ag_Fr_H τ) rfl (fun f hf K => ag_L_sit_v hO (fun K => ag_F_sit_2 hX hV hH hQ h_p c0 c2 K) hf K) (fun σ hσ => ⟨σ, r, ag_fr_refl σ, hr, fun K => ag_P_sit_2 (ag_m0 hσ) hV hr hH hQ h_p c0 c2 K⟩) hV (ag_HI_sit hH c0 c2) hQ hT (ag_sp9_gh hsp (ag_ug_ne _ _ (by decide)) (Or.inr c0.2)) (ag_Gr_0 _ _ _) trivial
  · exact ag_go_x (fun _ => True) hW (c := 1) (by decide) (fun K => ag_L_sit_x1 hO (fun K => ag_F_sit_0 hX hV hH hQ h_p c0 K) K) (fun σ hσ K => ag_P_sit_0 (ag_m0 hσ) hV hr hH hQ h_p c0 K)
theorem ag_go_speak (hW : ag_WX L xs k τ S m T mt en gh gq np nq qu li r th) (hk : k < 512) {p q : Int} (h_p : ag_nm p = p) (h_q : ag_nm q = q) : ag_PR (fun _ => True) L xs k τ 180 148 [ag_I p, ag_I q] := by
  have hW9 := hW
  obtain ⟨hX, hM, hA, hV, hr, hH, hQ, hT, hsp, hR⟩ := hW9
  have hO := hX.1
  have hm20 : m ≤ 20 := hV.2.1.1.2.2
  have hw40 : S.2.1 ≤ 40 := hV.1.1.2.2.2
  have hp5 : np ≤ 5 := hH.2.1
  by_cases c0 : ag_kno np p
  · by_cases c1 : q < 1
    · exact ag_go_x (fun _ => True) hW (c := 2) (by decide) (fun K => ag_L_speak_x1 hO (fun K => ag_F_speak_1 hX hV hH hQ h_q c0 c1 K) K) (fun σ hσ K => ag_P_speak_1 (ag_m0 hσ) hV hr hH hQ h_q c0 c1 K)
    · obtain ⟨a, ha, rfl⟩ := ag_knn h_p c0
      have c1 : 1 ≤ q := by omega
      by_cases c2 : li = -1 ∨ ag_nxt S.1 S.2.2.2 m = -1 ∨ ¬ (q ≤ li ∧ q ≤ ag_rd 5 (gh 1) a)
      · exact ag_go_x (fun _ => True) hW (c := 3) (by decide) (fun K => ag_L_speak_x2 hO (fun K => ag_F_speak_2 hX hV hH hQ h_q c0 c1 c2 K) K) (fun σ hσ K => ag_P_speak_2 (ag_m0 hσ) hV hr hH hQ h_q ha c1 c2 K)
      · have c3 : ¬ li = -1 := fun z => c2 (Or.inl z)
        have c4 : ¬ ag_nxt S.1 S.2.2.2 m = -1 := fun z => c2 (Or.inr (Or.inl z))
        have c5 : q ≤ li ∧ q ≤ ag_rd 5 (gh 1) a := Classical.not_not.mp (fun z => c2 (Or.inr (Or.inr z)))
        have hF : ∀ K, ag_cl9 73 [ag_R 1, ag_I a, ag_I q] τ K = K (Sum.inl (some (ag_I (gh 1 a - q)))) (ag_SH τ 2 (ag_ug (ag_ug gh 2 (ag_ui (gh 2) a (gh 2 a + q))) 1 (ag_ui (gh 1) a (gh 1 a - q))) (ag_vH np qu (li - q))) := fun K => by
          have e := ag_F_speak_3 hX hV hH hQ h_q c0 c1 c3 c4 c5 K
          rw [ag_rd_nat (g := gh 1) (by decide) (show a < 5 by omega), ag_rd_nat (g := gh 2) (by decide) (show a < 5 by omega), ag_wr_nat _ (by decide) (show a < 5 by omega), ag_wr_nat _ (by decide) (show a < 5 by omega), ag_rd_nat (by decide) (show a < 5 by omega), ag_ui_eq9] at e
          exact e
        have c6 : q ≤ li ∧ q ≤ gh 1 a := by
          rw [ag_rd_nat (by decide) (show a < 5 by omega)] at c5
          exact c5
        have hS := ag_HI_speak hH hsp hk c1 c6
        exact ag_go_c (fun _ => True) hW (ag_CX_H hX) (ag_Fr_H τ) rfl (fun f hf K => ag_L_speak_v hO hF hf K) (fun σ hσ => ⟨σ, r, ag_fr_refl σ, hr, fun K => ag_P_speak_3 (ag_m0 hσ) hV hr hH hQ h_q ha c1 c3 c4 c5 K⟩) hV hS.1 hQ hT hS.2 (ag_Gr_0 _ _ _) trivial
  · exact ag_go_x (fun _ => True) hW (c := 1) (by decide) (fun K => ag_L_speak_x0 hO (fun K => ag_F_speak_0 hX hV hH hQ h_q c0 K) K) (fun σ hσ K => ag_P_speak_0 (ag_m0 hσ) hV hr hH hQ c0 K)
theorem ag_go_call (hW : ag_WX L xs k τ S m T mt en gh gq np nq qu li r th)  : ag_PR (fun _ => True) L xs k τ 181 149 [] := by
  have hW9 := hW
  obtain ⟨hX, hM, hA, hV, hr, hH, hQ, hT, hsp, hR⟩ := hW9
  have hO := hX.1
  have hm20 : m ≤ 20 := hV.2.1.1.2.2
  have hw40 : S.2.1 ≤ 40 := hV.1.1.2.2.2
  have hp5 : np ≤ 5 := hH.2.1
  by_cases c0 : ag_nxt S.1 S.2.2.2 m = -1 ∨ li < 3
  · exact ag_go_x (fun _ => True) hW (c := 1) (by decide) (fun K => ag_L_call_x2 hO (fun K => ag_F_call_0 hX hV hH c0 K) K) (fun σ hσ K => ag_P_call_0 (ag_m0 hσ) hV hr hH hQ c0 K)
  · obtain ⟨b, hb, hn, hl⟩ := ag_nxt_is (fun z => c0 (Or.inl z))
    have h3 : 3 ≤ li := by omega
    obtain ⟨τ', d1, d2, d3, d4⟩ := ag_F_call_1 hX hV hH hQ hb hn hl h3
    rw [ag_ties_fn hV hb hl hQ] at d1
    have hQ1 := ag_ties_QI (gh := gh) (np := np) (qu := qu) (x := -1) hV hb hl hQ
    have hw1 := ag_dec_w (gh := gh) (np := np) (m := m) (b := b) (qu := qu) (x := -1) S
    refine ag_go_c (fun _ => True) hW d1 d2 d3 (fun f hf K => ag_L_call_v hO d4 hf K) (fun σ hσ => ?_) (ag_dec_IV hV hb hl).1 ⟨hH.1, hH.2.1, hH.2.2.1, (by have := hH.2.2.2.1; omega), hH.2.2.2.2⟩ hQ1 hT (ag_sp9_gh hsp rfl (Or.inl (by omega))) (ag_Gr_g (dc := 1) (ds := ag_cpt gh np qu (-1) S b) (by decide) (ag_cpt_le hV) hw1.1 (Nat.le_refl _) (Nat.le_refl _) (by omega)) trivial
    rw [ag_ug_same, ag_ug_ne _ _ (by decide)]
    exact ag_P_call_1 (ag_m0 hσ) hV hr hH hQ hb hn hl h3
theorem ag_go_ofParty (hW : ag_WX L xs k τ S m T mt en gh gq np nq qu li r th) {p q : Int} (h_p : ag_nm p = p) (h_q : ag_nm q = q) : ag_PR (fun _ => True) L xs k τ 182 151 [ag_I p, ag_I q] := by
  have hW9 := hW
  obtain ⟨hX, hM, hA, hV, hr, hH, hQ, hT, hsp, hR⟩ := hW9
  have hO := hX.1
  have hm20 : m ≤ 20 := hV.2.1.1.2.2
  have hw40 : S.2.1 ≤ 40 := hV.1.1.2.2.2
  have hp5 : np ≤ 5 := hH.2.1
  by_cases c0 : ag_kno np p
  · by_cases c1 : 0 ≤ q ∧ q ≤ 3
    · obtain ⟨b, hb, rfl⟩ := ag_knn h_p c0
      obtain ⟨n9, rfl⟩ : ∃ n9 : Nat, q = n9 := ⟨q.toNat, by omega⟩
      have c2 : n9 ≤ 3 := by omega
      exact ag_go_v (fun _ => True) hW (fun f hf K => ag_L_ofParty_v hO  (fun K => ag_F_ofParty_2 hX hV hH hQ c0 c2 K) hf K) (fun σ hσ K => ag_P_ofP_2 (ag_m0 hσ) hV hr hH hQ hb c2 K) trivial
    · exact ag_go_x (fun _ => True) hW (c := 2) (by decide) (fun K => ag_L_ofParty_x1 hO (fun K => ag_F_ofParty_1 hX hV hH hQ h_q c0 c1 K) K) (fun σ hσ K => ag_P_ofP_1 (ag_m0 hσ) hV hr hH hQ h_q c0 c1 K)
  · exact ag_go_x (fun _ => True) hW (c := 1) (by decide) (fun K => ag_L_ofParty_x0 hO (fun K => ag_F_ofParty_0 hX hV hH hQ c0 K) K) (fun σ hσ K => ag_P_ofP_0 (ag_m0 hσ) hV hr hH hQ c0 K)
theorem ag_go_petition (hW : ag_WX L xs k τ S m T mt en gh gq np nq qu li r th) {p q : Int} (h_p : ag_nm p = p) (h_q : ag_nm q = q) : ag_PR (fun _ => True) L xs k τ 183 152 [ag_I p, ag_I q] := by
  have hW9 := hW
  obtain ⟨hX, hM, hA, hV, hr, hH, hQ, hT, hsp, hR⟩ := hW9
  have hO := hX.1
  have hm20 : m ≤ 20 := hV.2.1.1.2.2
  have hw40 : S.2.1 ≤ 40 := hV.1.1.2.2.2
  have hp5 : np ≤ 5 := hH.2.1
  by_cases c0 : ag_hld S p
  · by_cases c1 : 1 ≤ q ∧ q ≤ 9999
    · by_cases c2 : nq < 12
      · refine ag_go_c (fun _ => True) hW (ag_CX_Q hX) (ag_Fr_Q τ) rfl (fun f hf K => ag_L_petition_v hO (fun K => ag_F_petition_3 hX hV hH hQ h_q c0 c1 c2 K) hf K) (fun σ hσ => ?_) hV hH (ag_QI_pet hQ hw40 (ag_hld_p hV h_p c0).1 c1 c2) hT (ag_sp9_s hsp) (ag_Gr_0 _ _ _) trivial
        rw [ag_ug_same, ag_ug_ne _ _ (by decide), ag_ug_same]
        exact ⟨σ, r, ag_fr_refl σ, hr, fun K => ag_P_petition_3 (ag_m0 hσ) hV hr hH hQ h_p h_q c0 c1 c2 K⟩
      · exact ag_go_x (fun _ => True) hW (c := 3) (by decide) (fun K => ag_L_petition_x2 hO (fun K => ag_F_petition_2 hX hV hH hQ h_q c0 c1 c2 K) K) (fun σ hσ K => ag_P_petition_2 (ag_m0 hσ) hV hr hH hQ h_p h_q c0 c1 c2 K)
    · exact ag_go_x (fun _ => True) hW (c := 2) (by decide) (fun K => ag_L_petition_x1 hO (fun K => ag_F_petition_1 hX hV hH hQ h_q c0 c1 K) K) (fun σ hσ K => ag_P_petition_1 (ag_m0 hσ) hV hr hH hQ h_p h_q c0 c1 K)
  · exact ag_go_x (fun _ => True) hW (c := 1) (by decide) (fun K => ag_L_petition_x0 hO (fun K => ag_F_petition_0 hX hV hH hQ h_q c0 K) K) (fun σ hσ K => ag_P_petition_0 (ag_m0 hσ) hV hr hH hQ h_p c0 K)
theorem ag_go_tied (hW : ag_WX L xs k τ S m T mt en gh gq np nq qu li r th) {p : Int} (h_p : ag_nm p = p) : ag_PR (fun _ => True) L xs k τ 184 153 [ag_I p] := by
  have hW9 := hW
  obtain ⟨hX, hM, hA, hV, hr, hH, hQ, hT, hsp, hR⟩ := hW9
  have hO := hX.1
  have hm20 : m ≤ 20 := hV.2.1.1.2.2
  have hw40 : S.2.1 ≤ 40 := hV.1.1.2.2.2
  have hp5 : np ≤ 5 := hH.2.1
  by_cases c0 : 0 ≤ p ∧ p < nq
  · exact ag_go_v (fun _ => True) hW (fun f hf K => ag_L_tied_v hO  (fun K => ag_F_tied_1 hX hV hH hQ h_p c0 K) hf K) (fun σ hσ K => ag_P_tied_1 (ag_m0 hσ) hV hr hH hQ h_p c0 K) trivial
  · exact ag_go_x (fun _ => True) hW (c := 1) (by decide) (fun K => ag_L_tied_x0 hO (fun K => ag_F_tied_0 hX hV hH hQ h_p c0 K) K) (fun σ hσ K => ag_P_tied_0 (ag_m0 hσ) hV hr hH hQ h_p c0 K)
theorem ag_go_wouldPass (hW : ag_WX L xs k τ S m T mt en gh gq np nq qu li r th) {p : Int} (h_p : ag_nm p = p) : ag_PR (fun b => b = 0 ∨ b = 1) L xs k τ 185 157 [ag_I p] := by
  have hW9 := hW
  obtain ⟨hX, hM, hA, hV, hr, hH, hQ, hT, hsp, hR⟩ := hW9
  have hO := hX.1
  have hm20 : m ≤ 20 := hV.2.1.1.2.2
  have hw40 : S.2.1 ≤ 40 := hV.1.1.2.2.2
  have hp5 : np ≤ 5 := hH.2.1
  by_cases c0 : ag_kno m p
  · obtain ⟨b, hb, rfl⟩ := ag_knn h_p c0
    exact ag_go_v (fun b => b = 0 ∨ b = 1) hW (fun f hf K => ag_L_wouldPass_v hO (ag_car_01 _ _ _ _ _) (fun K => ag_F_wouldPass_1 hX hV hH hQ c0 K) hf K) (fun σ hσ K => ag_P_wP_1 (ag_m0 hσ) hV hr hH hQ hb K) (ag_car_01 _ _ _ _ _)
  · exact ag_go_x (fun b => b = 0 ∨ b = 1) hW (c := 1) (by decide) (fun K => ag_L_wouldPass_x0 hO (fun K => ag_F_wouldPass_0 hX hV hH hQ c0 K) K) (fun σ hσ K => ag_P_wP_0 (ag_m0 hσ) hV hr hH hQ c0 K)
theorem ag_go_wouldMoot (hW : ag_WX L xs k τ S m T mt en gh gq np nq qu li r th) {p : Int} (h_p : ag_nm p = p) : ag_PR (fun _ => True) L xs k τ 186 159 [ag_I p] := by
  have hW9 := hW
  obtain ⟨hX, hM, hA, hV, hr, hH, hQ, hT, hsp, hR⟩ := hW9
  have hO := hX.1
  have hm20 : m ≤ 20 := hV.2.1.1.2.2
  have hw40 : S.2.1 ≤ 40 := hV.1.1.2.2.2
  have hp5 : np ≤ 5 := hH.2.1
  by_cases c0 : ag_kno m p
  · obtain ⟨b, hb, rfl⟩ := ag_knn h_p c0
    obtain ⟨τ', T', mt', d1, d2, d3, d4, z, d5, d6⟩ := ag_F_moot hX hV hT hb
    have e : ag_if (ag_dbl S m b = 0) 0 (ag_vM S m b z) = ag_if (ag_dbl S m b = 0) 0 (ag_vM S m b (S.1 7)) := by
      by_cases q : ag_dbl S m b = 0
      · rw [ag_if_t q, ag_if_t q]
      · rw [ag_if_f q, ag_if_f q, ag_vM_z hV d5 (ag_zk_7 hV) hb q]
    rw [e] at d6
    refine ag_go_c (fun _ => True) hW d1 d3 d4 (fun f hf K => ag_L_wouldMoot_v hO (fun K => ag_F_wM_1 hX hV c0 d6 K) hf K) (fun σ hσ => ?_) hV hH hQ d2 (ag_sp9_s hsp) (dc := 13) (ds := 345) ⟨by decide, Nat.le_refl _, Nat.le_refl _, Nat.le_refl _, Nat.le_succ _, Or.inr ⟨rfl, rfl, rfl, ?_⟩⟩ trivial
    · obtain ⟨σ3, e1, e2⟩ := ag_P_wM_1 (ag_m0 hσ) hV hr hH hQ hb
      exact ⟨σ3, r, e1, hr, e2⟩
    · unfold ag_Cw
      omega
  · exact ag_go_x (fun _ => True) hW (c := 1) (by decide) (fun K => ag_L_wouldMoot_x0 hO (fun K => ag_F_wM_0 hX hV c0 K) K) (fun σ hσ K => ag_P_wM_0 (ag_m0 hσ) hV hr hH hQ c0 K)
theorem ag_go_otherwise (hW : ag_WX L xs k τ S m T mt en gh gq np nq qu li r th) {p : Int} (h_p : ag_nm p = p) : ag_PR (fun _ => True) L xs k τ 187 164 [ag_I p] := by
  have hW9 := hW
  obtain ⟨hX, hM, hA, hV, hr, hH, hQ, hT, hsp, hR⟩ := hW9
  have hO := hX.1
  have hm20 : m ≤ 20 := hV.2.1.1.2.2
  have hw40 : S.2.1 ≤ 40 := hV.1.1.2.2.2
  have hp5 : np ≤ 5 := hH.2.1
  by_cases c0 : ag_kno np p
  · obtain ⟨τ', T', mt', en', d1, d2, d3, d4, z1, z2, d5, d7, d6⟩ := ag_F_oth hX hV hH hT h_p
    rw [ag_vO_z hV d5 d7 (ag_zk_7 hV) (ag_zk_7 hV) hH.1 hp5 h_p] at d6
    refine ag_go_c (fun _ => True) hW d1 d3 d4 (fun f hf K => ag_L_otherwise_v hO (fun K => ag_F_ot_1 hX hH c0 d6 K) hf K) (fun σ hσ => ?_) hV hH hQ d2 (ag_sp9_s hsp) (dc := 68) (ds := 2 * (325 + 10 * m + 8 * S.2.1)) ⟨by decide, Nat.le_refl _, Nat.le_refl _, Nat.le_refl _, Nat.le_succ _, Or.inr ⟨rfl, rfl, rfl, ?_⟩⟩ trivial
    · obtain ⟨σ3, e1, e2⟩ := ag_P_ot_1 (ag_m0 hσ) hV hr hH hQ h_p c0
      exact ⟨σ3, r, e1, hr, e2⟩
    · have h9 : 1 ≤ np := by
        obtain ⟨a, ha, -⟩ := ag_knn h_p c0
        omega
      have := Nat.mul_le_mul (show 2 ≤ 2 * np + 1 by omega) (Nat.le_refl (325 + 10 * m + 8 * S.2.1))
      unfold ag_Cw
      omega
  · exact ag_go_x (fun _ => True) hW (c := 1) (by decide) (fun K => ag_L_otherwise_x0 hO (fun K => ag_F_ot_0 hX hH c0 K) K) (fun σ hσ K => ag_P_ot_0 (ag_m0 hσ) hV hr hH hQ c0 K)
theorem ag_go_calledAt (hW : ag_WX L xs k τ S m T mt en gh gq np nq qu li r th) {p : Int} (h_p : ag_nm p = p) : ag_PR (fun _ => True) L xs k τ 188 165 [ag_I p] := by
  have hW9 := hW
  obtain ⟨hX, hM, hA, hV, hr, hH, hQ, hT, hsp, hR⟩ := hW9
  have hO := hX.1
  have hm20 : m ≤ 20 := hV.2.1.1.2.2
  have hw40 : S.2.1 ≤ 40 := hV.1.1.2.2.2
  have hp5 : np ≤ 5 := hH.2.1
  have hcw : 325 + 10 * m + 8 * S.2.1 ≤ ag_Cw S.2.1 m np := by
    have := Nat.mul_le_mul (show 1 ≤ 2 * np + 1 by omega) (Nat.le_refl (325 + 10 * m + 8 * S.2.1))
    unfold ag_Cw
    omega
  by_cases c0 : 0 ≤ p ∧ p < 20
  · obtain ⟨n9, rfl⟩ : ∃ n9 : Nat, p = n9 := ⟨p.toNat, by omega⟩
    have c1 : n9 < 20 := by omega
    obtain ⟨τ', T', mt', d1, d2, d3, d4, z, d5, d6⟩ := ag_F_putB_1 hX hV hH hT c1
    rw [ag_vC_z hV d5 (ag_zk_7 hV) hH.1 hp5 c1] at d6
    by_cases c2 : ag_vC gh np qu S m n9 (S.1 7) = -1
    · rw [c2] at d6
      refine ag_go_e (fun _ => True) hW (c := 1) (dc := 34) (ds := 325 + 10 * m + 8 * S.2.1) (by decide) d1 d3 d4 (fun K => ag_L_calledAt_x0 hO (fun K => ag_F_cA_0 d6 hX K) K) (fun σ hσ => ?_) d2 ⟨by decide, hcw⟩
      obtain ⟨σ3, e1, e2, e3⟩ := ag_P_cA (ag_m0 hσ) hV hr hH hQ (th := th) h_p
      exact ⟨σ3, e1, e3 (fun q => q.2.2 c2)⟩
    · have hv : ag_nm (ag_vC gh np qu S m n9 (S.1 7)) = ag_vC gh np qu S m n9 (S.1 7) := (ag_nxt_rg hm20).1
      refine ag_go_c (fun _ => True) hW (dc := 34) (ds := 325 + 10 * m + 8 * S.2.1) d1 d3 d4 (fun f hf K => ag_L_calledAt_v hO (fun K => ag_F_cA_1 d6 hX hv c2 K) hf K) (fun σ hσ => ?_) hV hH hQ d2 (ag_sp9_s hsp) ⟨by decide, Nat.le_refl _, Nat.le_refl _, Nat.le_refl _, Nat.le_succ _, Or.inr ⟨rfl, rfl, rfl, hcw⟩⟩ trivial
      obtain ⟨σ3, e1, e2, e3⟩ := ag_P_cA (ag_m0 hσ) hV hr hH hQ (th := th) h_p
      exact ⟨σ3, r, e1, hr, e2 ⟨by omega, by omega, c2⟩⟩
  · refine ag_go_e (fun _ => True) hW (c := 1) (dc := 34) (ds := 325 + 10 * m + 8 * S.2.1) (by decide) hX (ag_Fr_refl τ) rfl (fun K => ag_L_calledAt_x0 hO (fun K => ag_F_cA_0 (fun K => ag_F_putB_0 h_p c0 K) hX K) K) (fun σ hσ => ?_) hT ⟨by decide, hcw⟩
    obtain ⟨σ3, e1, e2, e3⟩ := ag_P_cA (ag_m0 hσ) hV hr hH hQ (th := th) h_p
    exact ⟨σ3, e1, e3 (fun q => c0 ⟨q.1, q.2.1⟩)⟩
theorem ag_go_next (hW : ag_WX L xs k τ S m T mt en gh gq np nq qu li r th) : ag_PD L xs k τ 67 134 (fun v => ∃ x, v = ag_I x) := by
  have hW9 := hW
  obtain ⟨hX, hM, hA, hV, hr, hH, hQ, hT, hsp, hR⟩ := hW9
  have hm20 : m ≤ 20 := hV.2.1.1.2.2
  have hp5 : np ≤ 5 := hH.2.1
  have hcw : 325 + 10 * m + 8 * S.2.1 ≤ ag_Cw S.2.1 m np := by
    have := Nat.mul_le_mul (show 1 ≤ 2 * np + 1 by omega) (Nat.le_refl (325 + 10 * m + 8 * S.2.1))
    unfold ag_Cw
    omega
  exact ag_go_d hW (dc := 0) (ds := 0) ⟨_, rfl⟩ hX (ag_Fr_refl τ) rfl hT (fun K => ag_F_next hX hV hH hQ K) (fun σ hσ => ⟨σ, ag_fr_refl σ, fun K => ag_P_nextc (ag_m0 hσ) hV hr hH hQ K⟩) ⟨Nat.zero_le _, Nat.zero_le _⟩
theorem ag_go_meanBelow (hW : ag_WX L xs k τ S m T mt en gh gq np nq qu li r th) : ag_PD L xs k τ 78 154 (fun v => ∃ x, v = ag_F x) := by
  have hW9 := hW
  obtain ⟨hX, hM, hA, hV, hr, hH, hQ, hT, hsp, hR⟩ := hW9
  have hm20 : m ≤ 20 := hV.2.1.1.2.2
  have hp5 : np ≤ 5 := hH.2.1
  have hcw : 325 + 10 * m + 8 * S.2.1 ≤ ag_Cw S.2.1 m np := by
    have := Nat.mul_le_mul (show 1 ≤ 2 * np + 1 by omega) (Nat.le_refl (325 + 10 * m + 8 * S.2.1))
    unfold ag_Cw
    omega
  exact ag_go_d hW (dc := 0) (ds := 0) ⟨_, rfl⟩ hX (ag_Fr_refl τ) rfl hT (fun K => ag_F_mean hX hV K) (fun σ hσ => ⟨σ, ag_fr_refl σ, fun K => ag_P_mean (ag_m0 hσ) hV hr K⟩) ⟨Nat.zero_le _, Nat.zero_le _⟩
theorem ag_go_inTheEnd (hW : ag_WX L xs k τ S m T mt en gh gq np nq qu li r th) : ag_PD L xs k τ 81 162 (fun v => ∃ x, v = ag_I x) := by
  have hW9 := hW
  obtain ⟨hX, hM, hA, hV, hr, hH, hQ, hT, hsp, hR⟩ := hW9
  have hm20 : m ≤ 20 := hV.2.1.1.2.2
  have hp5 : np ≤ 5 := hH.2.1
  have hcw : 325 + 10 * m + 8 * S.2.1 ≤ ag_Cw S.2.1 m np := by
    have := Nat.mul_le_mul (show 1 ≤ 2 * np + 1 by omega) (Nat.le_refl (325 + 10 * m + 8 * S.2.1))
    unfold ag_Cw
    omega
  obtain ⟨τ', T', mt', d1, d2, d3, d4, z, d5, d6⟩ := ag_F_end hX hV hH hT
  rw [ag_vI_z hV d5 (ag_zk_7 hV) hH.1 hp5] at d6
  exact ag_go_d hW (dc := 34) (ds := 325 + 10 * m + 8 * S.2.1) ⟨_, rfl⟩ d1 d3 d4 d2 (fun K => ag_F_iE hX d6 K) (fun σ hσ => ag_P_iE (ag_m0 hσ) hV hr hH hQ) ⟨by decide, hcw⟩
theorem ag_go_digest (hW : ag_WX L xs k τ S m T mt en gh gq np nq qu li r th) : ag_PD L xs k τ 84 166 (fun v => ∃ x, v = ag_L x) := by
  have hW9 := hW
  obtain ⟨hX, hM, hA, hV, hr, hH, hQ, hT, hsp, hR⟩ := hW9
  have hm20 : m ≤ 20 := hV.2.1.1.2.2
  have hp5 : np ≤ 5 := hH.2.1
  have hcw : 325 + 10 * m + 8 * S.2.1 ≤ ag_Cw S.2.1 m np := by
    have := Nat.mul_le_mul (show 1 ≤ 2 * np + 1 by omega) (Nat.le_refl (325 + 10 * m + 8 * S.2.1))
    unfold ag_Cw
    omega
  obtain ⟨τ', T', mt', en', d1, d2, d3, d4, d5⟩ := ag_F_digest hX hV hH hQ hT (fun b => ag_vM S m b (S.1 7)) (fun p => ag_vO gh np qu S m p (S.1 7) (S.1 7)) (ag_vI gh np qu S m (S.1 7)) (fun b hb hd z hz => ag_vM_z hV hz (ag_zk_7 hV) hb hd) (fun p hp z1 z2 hz1 hz2 => ag_vO_z hV hz1 hz2 (ag_zk_7 hV) (ag_zk_7 hV) hH.1 hp5 (ag_nm_of (by omega) (by omega))) (fun z hz => ag_vI_z hV hz (ag_zk_7 hV) hH.1 hp5)
  exact ag_go_d hW (dc := 13 * m + 34 * (2 * np + 1)) (ds := ag_Cw S.2.1 m np) ⟨_, rfl⟩ d1 d3 d4 d2 d5 (fun σ hσ => ag_P_digest (ag_m0 hσ) hV hr hH hQ) ⟨by omega, Nat.le_refl _⟩
end AGCALL
