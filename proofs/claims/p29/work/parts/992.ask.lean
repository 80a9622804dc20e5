/-! WHAT THE LAW ASKS of the office. -/
variable {B : Nat}
section AGQQ
variable {σ : ag_S} {dr qu mi : Int} {gh gq : Nat → Nat → Int} {m np nq k : Nat} {S : ag_T}
noncomputable def ag_moo (S : ag_T) (m b : Nat) : Int := ag_if (ag_dbl S m b = 0) 0 (ag_vm9 S m b)
theorem ag_dbl_yes {b : Nat} (hV : ag_IV S m) (hb : b < m) (h : ag_dbl S m b ≠ 0) : S.2.2.2 3 b = 0 ∧ ag_ftb S.1 S.2.1 S.2.2.1 S.2.2.2 b ≠ 0 := by
  have hm : m ≤ 20 := hV.2.1.1.2.2
  unfold ag_dbl at h
  have hl : ag_lad S m b := by
    by_cases c : ag_lad S m b
    · exact c
    · exact absurd (ag_if_f c) h
  rw [ag_if_t hl, ag_rd_nat (by decide) (by omega), ag_rd_nat (by decide) (by omega), ag_rd_nat (by decide) (by omega)] at h
  have := hl.2.2
  rw [ag_rd_nat (by decide) (by omega)] at this
  exact ⟨this, h⟩
/-- the office asked, its trial and its ends aside as it was -/
theorem ag_M_re (hM : ag_M B σ dr qu mi S m gh np gq nq) : ∃ T mt en, ag_CX B σ (gh, ag_vH np qu mi) (gq, ag_vP nq) S m T mt en ∧ ag_TI T ∧ ∀ (σ' : ag_S) (T' : ag_T) (mt' : Nat) (en' : Nat → Int), ag_CX B σ' (gh, ag_vH np qu mi) (gq, ag_vP nq) S m T' mt' en' → ag_TI T' → ag_Fr B σ σ' → σ.2.1 ≤ σ'.2.1 → ag_M B σ' dr qu mi S m gh np gq nq := by
  obtain ⟨L, ln, g, T, mt, en, h, hX, hT, tc, ta, tv, tp, ts⟩ := hM
  exact ⟨T, mt, en, hX, hT, fun σ' T' mt' en' hX' hT' hF hc => ⟨L, ln, g, T', mt', en', ag_HS_Fr h hF hc, hX', hT', tc, ta, tv, tp, ts⟩⟩
theorem ag_m_ck (hM : ag_M B σ dr qu mi S m gh np gq nq) (P : Prop) : ag_ck σ (B + 1) 5 P = P := by
  obtain ⟨T, mt, en, hX, -⟩ := ag_M_re hM
  exact ag_X_oc hX P
theorem ag_m_next (hM : ag_M B σ dr qu mi S m gh np gq nq) (hU : ag_U S m gh np qu mi gq nq k) (K : ag_Rs → ag_S → Prop) : ag_cl9 66 [ag_R (B + 1)] σ K = K (Sum.inl (some (ag_I (ag_nxt S.1 S.2.2.2 m)))) σ := by
  obtain ⟨T, mt, en, hX, -⟩ := ag_M_re hM
  exact ag_F_next hX hU.1 hU.2.1 hU.2.2.1 K
theorem ag_m_many (hM : ag_M B σ dr qu mi S m gh np gq nq) (hU : ag_U S m gh np qu mi gq nq k) {j : Nat} (hj : j ≤ 11) {x : Int} (hx : x = j) (K : ag_Rs → ag_S → Prop) : ag_cl9 61 [ag_R (B + 1), ag_I x] σ K = K (Sum.inl (some (ag_I (ag_hmy gh np mi gq nq S m j)))) σ := by
  subst hx
  obtain ⟨T, mt, en, hX, -⟩ := ag_M_re hM
  exact ag_F_many_1 hX hU.1 hU.2.1 hU.2.2.1 hj K
theorem ag_m_ofA (hM : ag_M B σ dr qu mi S m gh np gq nq) (hU : ag_U S m gh np qu mi gq nq k) {b j : Nat} (hb : b < m) (hj : j ≤ 5) {x y : Int} (hx : x = b) (hy : y = j) (K : ag_Rs → ag_S → Prop) : ag_cl9 65 [ag_R (B + 1), ag_I x, ag_I y] σ K = K (Sum.inl (some (ag_I (S.2.2.2 j b)))) σ := by
  subst hx
  subst hy
  have hm : m ≤ 20 := hU.1.2.1.1.2.2
  obtain ⟨T, mt, en, hX, -⟩ := ag_M_re hM
  have := ag_F_ofAm_2 hX hU.1 hU.2.1 hU.2.2.1 (a := (b : Int)) (k := j) ⟨by rw [ag_nm_nat (by omega)]; omega, by rw [ag_nm_nat (by omega)]; omega⟩ hj K
  rwa [ag_rd_nat (by decide) (by omega)] at this
theorem ag_m_ofC (hM : ag_M B σ dr qu mi S m gh np gq nq) (hU : ag_U S m gh np qu mi gq nq k) {c j : Nat} (hc : c < S.2.1) (hj : j ≤ 7) {x y : Int} (hx : x = c) (hy : y = j) (K : ag_Rs → ag_S → Prop) : ag_cl9 60 [ag_R (B + 1), ag_I x, ag_I y] σ K = K (Sum.inl (some (ag_I (ag_foc gq nq S (c : Int) j)))) σ := by
  subst hx
  subst hy
  have hw : S.2.1 ≤ 40 := hU.1.1.1.2.2.2
  obtain ⟨T, mt, en, hX, -⟩ := ag_M_re hM
  exact ag_F_ofClause_2 hX hU.1 hU.2.1 hU.2.2.1 (ag_nm_nat (by omega)) ⟨by rw [ag_nm_nat (by omega)]; omega, by rw [ag_nm_nat (by omega)]; omega⟩ hj K
theorem ag_m_ofP (hM : ag_M B σ dr qu mi S m gh np gq nq) (hU : ag_U S m gh np qu mi gq nq k) {p j : Nat} (hp : p < np) (hj : j ≤ 3) {x y : Int} (hx : x = p) (hy : y = j) (K : ag_Rs → ag_S → Prop) : ag_cl9 74 [ag_R (B + 1), ag_I x, ag_I y] σ K = K (Sum.inl (some (ag_I (ag_fop gh mi S.2.2.2 m (p : Int) j)))) σ := by
  subst hx
  subst hy
  have hn : np ≤ 5 := hU.2.1.2.1
  obtain ⟨T, mt, en, hX, -⟩ := ag_M_re hM
  exact ag_F_ofParty_2 hX hU.1 hU.2.1 hU.2.2.1 ⟨by rw [ag_nm_nat (by omega)]; omega, by rw [ag_nm_nat (by omega)]; omega⟩ hj K
theorem ag_m_can (hM : ag_M B σ dr qu mi S m gh np gq nq) (hU : ag_U S m gh np qu mi gq nq k) {b : Nat} (hb : b < m) {x : Int} (hx : x = b) (K : ag_Rs → ag_S → Prop) : ag_cl9 67 [ag_R (B + 1), ag_I x] σ K = K (Sum.inl (some (ag_I (ag_dbl S m b)))) σ := by
  subst hx
  have hm : m ≤ 20 := hU.1.2.1.1.2.2
  obtain ⟨T, mt, en, hX, -⟩ := ag_M_re hM
  exact ag_F_canBe_1 hX hU.1 hU.2.1 hU.2.2.1 (ag_nm_nat (by omega)) ⟨by rw [ag_nm_nat (by omega)]; omega, by rw [ag_nm_nat (by omega)]; omega⟩ K
theorem ag_m_would (hM : ag_M B σ dr qu mi S m gh np gq nq) (hU : ag_U S m gh np qu mi gq nq k) {b : Nat} (hb : b < m) {x : Int} (hx : x = b) (K : ag_Rs → ag_S → Prop) : ag_cl9 77 [ag_R (B + 1), ag_I x] σ K = K (Sum.inl (some (ag_I (ag_car gh np qu b (-1))))) σ := by
  subst hx
  have hm : m ≤ 20 := hU.1.2.1.1.2.2
  obtain ⟨T, mt, en, hX, -⟩ := ag_M_re hM
  exact ag_F_wouldPass_1 hX hU.1 hU.2.1 hU.2.2.1 ⟨by rw [ag_nm_nat (by omega)]; omega, by rw [ag_nm_nat (by omega)]; omega⟩ K
theorem ag_m_mean (hM : ag_M B σ dr qu mi S m gh np gq nq) (hU : ag_U S m gh np qu mi gq nq k) (K : ag_Rs → ag_S → Prop) : ag_cl9 76 [ag_R (B + 1)] σ K = K (Sum.inl (some (ag_F (ag_mea (ag_sb S.1 S.2.2.1 0) S.2.2.1)))) σ := by
  obtain ⟨T, mt, en, hX, -⟩ := ag_M_re hM
  exact ag_F_mean hX hU.1 K
theorem ag_m_moot (hM : ag_M B σ dr qu mi S m gh np gq nq) (hU : ag_U S m gh np qu mi gq nq k) {b : Nat} (hb : b < m) : ∃ σ', ag_M B σ' dr qu mi S m gh np gq nq ∧ ag_af B σ σ' 0 0 ∧ ∀ (x : Int), x = b → ∀ K : ag_Rs → ag_S → Prop, ag_cl9 78 [ag_R (B + 1), ag_I x] σ K = K (Sum.inl (some (ag_I (ag_moo S m b)))) σ' := by
  have hm : m ≤ 20 := hU.1.2.1.1.2.2
  obtain ⟨T, mt, en, hX, hT, re⟩ := ag_M_re hM
  obtain ⟨σ', T', mt', hX', hT', hF, es, z, -, hK⟩ := ag_F_moot hX hU.1 hT hb
  refine ⟨σ', re σ' T' mt' en hX' hT' hF (by rw [es]; exact Nat.le_refl _), ag_af_Fr hF es, fun x hx K => ?_⟩
  subst hx
  have hv : ag_if (ag_dbl S m b = 0) 0 (ag_vM S m b z) = ag_moo S m b := by
    unfold ag_moo
    by_cases c : ag_dbl S m b = 0
    · rw [ag_if_t c, ag_if_t c]
    · rw [ag_if_f c, ag_if_f c]
      obtain ⟨q1, q2⟩ := ag_dbl_yes hU.1 hb c
      exact ag_vM9 hU.1 hb q1 q2 z
  rw [hv] at hK
  exact ag_F_wM_1 hX hU.1 ⟨by rw [ag_nm_nat (by omega)]; omega, by rw [ag_nm_nat (by omega)]; omega⟩ hK K
theorem ag_m_end (hM : ag_M B σ dr qu mi S m gh np gq nq) (hU : ag_U S m gh np qu mi gq nq k) : ∃ σ', ag_M B σ' dr qu mi S m gh np gq nq ∧ ag_af B σ σ' 0 0 ∧ ∀ K : ag_Rs → ag_S → Prop, ag_cl9 79 [ag_R (B + 1)] σ K = K (Sum.inl (some (ag_I (ag_vi9 gh np qu S m)))) σ' := by
  obtain ⟨T, mt, en, hX, hT, re⟩ := ag_M_re hM
  obtain ⟨σ', T', mt', hX', hT', hF, es, z, -, hK⟩ := ag_F_end hX hU.1 hU.2.1 hT
  rw [ag_vI9 hU.1 z] at hK
  exact ⟨σ', re σ' T' mt' en hX' hT' hF (by rw [es]; exact Nat.le_refl _), ag_af_Fr hF es, fun K => ag_F_iE hX hK K⟩
theorem ag_m_oth (hM : ag_M B σ dr qu mi S m gh np gq nq) (hU : ag_U S m gh np qu mi gq nq k) {p : Nat} (hp : p < np) : ∃ σ', ag_M B σ' dr qu mi S m gh np gq nq ∧ ag_af B σ σ' 0 0 ∧ ∀ (x : Int), x = p → ∀ K : ag_Rs → ag_S → Prop, ag_cl9 80 [ag_R (B + 1), ag_I x] σ K = K (Sum.inl (some (ag_I (ag_vo9 gh np qu S m p)))) σ' := by
  have hn : np ≤ 5 := hU.2.1.2.1
  obtain ⟨T, mt, en, hX, hT, re⟩ := ag_M_re hM
  obtain ⟨σ', T', mt', en', hX', hT', hF, es, z1, z2, -, -, hK⟩ := ag_F_oth hX hU.1 hU.2.1 hT (p := (p : Int)) (ag_nm_nat (by omega))
  rw [ag_vO9 hU.1 (p : Int) z1 z2] at hK
  refine ⟨σ', re σ' T' mt' en' hX' hT' hF (by rw [es]; exact Nat.le_refl _), ag_af_Fr hF es, fun x hx K => ?_⟩
  subst hx
  exact ag_F_ot_1 hX hU.2.1 ⟨by rw [ag_nm_nat (by omega)]; omega, by rw [ag_nm_nat (by omega)]; omega⟩ hK K
noncomputable def ag_dg9 (S : ag_T) (m : Nat) (gh : Nat → Nat → Int) (np : Nat) (qu mi : Int) (gq : Nat → Nat → Int) (nq : Nat) : Int := ag_dig gh np mi gq nq S m (ag_vm9 S m) (fun p => ag_vo9 gh np qu S m (p : Int)) (ag_vi9 gh np qu S m)
theorem ag_m_digest (hM : ag_M B σ dr qu mi S m gh np gq nq) (hU : ag_U S m gh np qu mi gq nq k) : ∃ σ', ag_M B σ' dr qu mi S m gh np gq nq ∧ ag_af B σ σ' 0 0 ∧ ∀ K : ag_Rs → ag_S → Prop, ag_cl9 82 [ag_R (B + 1)] σ K = K (Sum.inl (some (ag_L (ag_dg9 S m gh np qu mi gq nq)))) σ' := by
  obtain ⟨T, mt, en, hX, hT, re⟩ := ag_M_re hM
  obtain ⟨σ', T', mt', en', hX', hT', hF, es, hK⟩ := ag_F_digest hX hU.1 hU.2.1 hU.2.2.1 hT (ag_vm9 S m) (fun p => ag_vo9 gh np qu S m (p : Int)) (ag_vi9 gh np qu S m) (fun b hb hd z _ => by
    obtain ⟨q1, q2⟩ := ag_dbl_yes hU.1 hb hd
    exact ag_vM9 hU.1 hb q1 q2 z) (fun p _ z1 z2 _ _ => ag_vO9 hU.1 (p : Int) z1 z2) (fun z _ => ag_vI9 hU.1 z)
  exact ⟨σ', re σ' T' mt' en' hX' hT' hF (by rw [es]; exact Nat.le_refl _), ag_af_Fr hF es, hK⟩
end AGQQ
