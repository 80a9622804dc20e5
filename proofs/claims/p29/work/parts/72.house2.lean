/-! THE HOUSE: rows that are replaced, rows that are added. -/
variable {B : Nat}
def ag_uf (L : Nat → Nat) (i v : Nat) : Nat → Nat := fun r => if r = i then v else L r
theorem ag_uf_at (L : Nat → Nat) (i v : Nat) : ag_uf L i v i = v := if_pos rfl
theorem ag_uf_ne {L : Nat → Nat} {i v r : Nat} (h : r ≠ i) : ag_uf L i v r = L r := if_neg h
/-- a run of the House's own: the office and what was there before are left alone, at most so many cells and slots are made -/
def ag_hf (B : Nat) (σ σ' : ag_S) (dc ds : Nat) : Prop := (∀ z, z < B ∨ (B < z ∧ z ≤ B + 44) → σ'.1 z = σ.1 z) ∧ σ.2.1 ≤ σ'.2.1 ∧ σ'.2.1 ≤ σ.2.1 + dc ∧ σ'.2.2 ≤ σ.2.2 + ds
theorem ag_hf_refl (σ : ag_S) : ag_hf B σ σ 0 0 := ⟨fun _ _ => rfl, Nat.le_refl _, Nat.le_refl _, Nat.le_refl _⟩
theorem ag_hf_trans {σ σ' σ'' : ag_S} {a b c d : Nat} (h1 : ag_hf B σ σ' a b) (h2 : ag_hf B σ' σ'' c d) : ag_hf B σ σ'' (a + c) (b + d) := by
  obtain ⟨a1, a2, a3, a4⟩ := h1
  obtain ⟨b1, b2, b3, b4⟩ := h2
  exact ⟨fun z hz => (b1 z hz).trans (a1 z hz), by omega, by omega, by omega⟩
theorem ag_hf_le {σ σ' : ag_S} {a b c d : Nat} (h : ag_hf B σ σ' a b) (h1 : a ≤ c) (h2 : b ≤ d) : ag_hf B σ σ' c d := ⟨h.1, h.2.1, by have := h.2.2.1; omega, by have := h.2.2.2; omega⟩
theorem ag_hf_fr {σ σ' : ag_S} {a b : Nat} (h : ag_fr σ σ' a b) (hB : B + 44 ≤ σ.2.1) : ag_hf B σ σ' a b := ⟨fun z hz => h.1 z (by omega), h.2⟩
/-- a write at a place of the House's own -/
theorem ag_hf_up (σ : ag_S) {z : Nat} (c : ag_C) (hz : z = B ∨ B + 44 < z) : ag_hf B σ (ag_up σ.1 z c, σ.2) 0 0 := ⟨fun y hy => ag_up_ne (by omega), Nat.le_refl _, Nat.le_refl _, Nat.le_refl _⟩
theorem ag_hf_CX {σ σ' : ag_S} {a b : Nat} {H Q : ag_O} {S : ag_T} {m : Nat} {T : ag_T} {mt : Nat} {en : Nat → Int} (h : ag_hf B σ σ' a b) (hX : ag_CX B σ H Q S m T mt en) : ag_CX B σ' H Q S m T mt en := ag_CX_fr hX (fun z z1 z2 => h.1 z (by omega))
/-- a row that isn't one of the House's -/
def ag_hnew (B : Nat) (σ : ag_S) (L ln : Nat → Nat) (q : Nat) : Prop := B + 44 < q ∧ q ≤ σ.2.1 ∧ ∀ r, ag_hlw ln r → L r ≠ q
theorem ag_hlv_6 {ln : Nat → Nat} {r : Nat} (h : ag_hlv ln r) : 6 ≤ r := by unfold ag_hlv at h; omega
theorem ag_hlw_1 {ln : Nat → Nat} {r : Nat} (h : ag_hlw ln r) : 1 ≤ r := by
  rcases h with h | h
  · exact h.1
  · have := ag_hlv_6 h; omega
theorem ag_hlv_uf {ln : Nat → Nat} {i v r : Nat} (hi : 6 ≤ i) : ag_hlv (ag_uf ln i v) r ↔ ag_hlv ln r := by
  unfold ag_hlv
  rw [ag_uf_ne (show 1 ≠ i by omega), ag_uf_ne (show 2 ≠ i by omega), ag_uf_ne (show 3 ≠ i by omega), ag_uf_ne (show 4 ≠ i by omega), ag_uf_ne (show 5 ≠ i by omega)]
theorem ag_hlw_uf {ln : Nat → Nat} {i v r : Nat} (hi : 6 ≤ i) : ag_hlw (ag_uf ln i v) r ↔ ag_hlw ln r := by
  unfold ag_hlw
  rw [ag_hlv_uf hi]
section AGH2
variable {σ : ag_S} {L ln : Nat → Nat} {g : Nat → Nat → Int} {dr qu mi : Int}
theorem ag_HS_new (h : ag_HS B σ L ln g dr qu mi) {σ' : ag_S} (hs : σ.2.1 < σ'.2.1) {q : Nat} (hq : σ.2.1 < q) (hq2 : q ≤ σ'.2.1) : ag_hnew B σ' L ln q := ⟨by have := h.2.2.2.2.2.1.2; omega, hq2, fun r hr => by have := (h.2.2.2.2.1 r hr).2; omega⟩
/-- a row of kids is replaced -/
theorem ag_h_kid (h : ag_HS B σ L ln g dr qu mi) {k q l : Nat} {f : Nat → Int} (hk : k < ln 2) (hq : σ.1 q = some (Sum.inl (l, f))) (hn : ag_hnew B σ L ln q) (hf : ∀ i, -100000 ≤ f i ∧ f i ≤ 100000) :
    ∃ σ' : ag_S, (∀ (x : Int) (K : ag_S → Prop), x = k → ag_qs σ (L 2) x q K = K σ') ∧ σ'.2 = σ.2 ∧ (∀ z, z ≠ L 2 → σ'.1 z = σ.1 z) ∧ ag_hf B σ σ' 0 0 ∧ ag_HS B σ' (ag_uf L (200 + k) q) (ag_uf ln (200 + k) l) (ag_ug g (200 + k) f) dr qu mi := by
  obtain ⟨h1, h2, h3, h4, h5, h6, h7, h8, ⟨n, F, h9, h10⟩, h11⟩ := h
  obtain ⟨F2, a, b⟩ := h2 2 (by decide) (by decide)
  have l2 := h8 2 (by decide) (by decide)
  have L2 := h5 2 (Or.inl (by decide))
  obtain ⟨q1, q2, q3⟩ := hn
  have hlw : ag_hlw ln (200 + k) := Or.inr (Or.inr (Or.inr (Or.inl (by omega))))
  have hinj : ∀ r r', ag_hlw ln r → ag_hlw ln r' → ag_uf L (200 + k) q r = ag_uf L (200 + k) q r' → r = r' := by
    intro r r' hr hr' e
    by_cases e1 : r = 200 + k
    · by_cases e2 : r' = 200 + k
      · omega
      · rw [e1, ag_uf_at, ag_uf_ne e2] at e
        exact absurd e.symm (q3 r' hr')
    · by_cases e2 : r' = 200 + k
      · rw [e2, ag_uf_at, ag_uf_ne e1] at e
        exact absurd e (q3 r hr)
      · rw [ag_uf_ne e1, ag_uf_ne e2] at e
        exact h4 r r' hr hr' e
  refine ⟨(ag_up σ.1 (L 2) (Sum.inr (Sum.inr (Sum.inl (ln 2, ag_uq F2 k (some q))))), σ.2), fun x K hx => ?_, rfl, fun z hz => ag_up_ne hz, ag_hf_up σ _ (Or.inr L2.1), ?_⟩
  · subst hx
    unfold ag_qs
    rw [a]
    dsimp only
    rw [hq]
    dsimp only
    rw [ag_nm_nat (by omega), Int.toNat_natCast]
    exact propext ⟨fun z => z.2, fun z => ⟨⟨by omega, by omega, by omega, by omega⟩, z⟩⟩
  · refine ⟨?_, fun r r1 r2 => ?_, fun r hr => ?_, fun r r' hr hr' e => hinj r r' ((ag_hlw_uf (by omega)).mp hr) ((ag_hlw_uf (by omega)).mp hr') e, fun r hr => ?_, h6, fun r i => ?_, fun r r1 r2 => ?_, ⟨n, F, h9, (ag_up_ne (by omega)).trans h10⟩, h11⟩
    · have e : ag_hob B (ag_uf L (200 + k) q) dr qu mi = ag_hob B L dr qu mi := by
        unfold ag_hob
        rw [ag_uf_ne (show 1 ≠ 200 + k by omega), ag_uf_ne (show 2 ≠ 200 + k by omega), ag_uf_ne (show 3 ≠ 200 + k by omega), ag_uf_ne (show 4 ≠ 200 + k by omega), ag_uf_ne (show 5 ≠ 200 + k by omega), ag_uf_ne (show 6 ≠ 200 + k by omega), ag_uf_ne (show 7 ≠ 200 + k by omega), ag_uf_ne (show 8 ≠ 200 + k by omega), ag_uf_ne (show 9 ≠ 200 + k by omega)]
      rw [e]
      exact (ag_up_ne (by omega)).trans h1
    · rw [ag_uf_ne (show r ≠ 200 + k by omega), ag_uf_ne (show r ≠ 200 + k by omega)]
      by_cases e : r = 2
      · subst e
        refine ⟨ag_uq F2 k (some q), ag_up_a9 _ _ _, fun i hi => ?_⟩
        unfold ag_uq
        by_cases ei : i = k
        · subst ei
          rw [if_pos rfl, ag_uf_at]
        · rw [if_neg ei, ag_uf_ne (by omega)]
          exact b i hi
      · obtain ⟨F3, c, d⟩ := h2 r r1 r2
        have hne : L r ≠ L 2 := fun e9 => e (h4 r 2 (Or.inl ⟨r1, r2⟩) (Or.inl (by decide)) e9)
        refine ⟨F3, (ag_up_ne hne).trans c, fun i hi => ?_⟩
        rw [ag_uf_ne (by have := h8 r r1 r2; omega)]
        exact d i hi
    · have hr0 := (ag_hlv_uf (by omega)).mp hr
      have hne : ag_uf L (200 + k) q r ≠ L 2 := by
        by_cases e : r = 200 + k
        · rw [e, ag_uf_at]
          exact fun e9 => q3 2 (Or.inl (by decide)) e9.symm
        · rw [ag_uf_ne e]
          intro e9
          have := h4 r 2 (Or.inr hr0) (Or.inl (by decide)) e9
          have := ag_hlv_6 hr0
          omega
      refine (ag_up_ne hne).trans ?_
      by_cases e : r = 200 + k
      · rw [e, ag_uf_at, ag_uf_at, ag_ug_same]
        exact hq
      · rw [ag_uf_ne e, ag_uf_ne e, ag_ug_ne _ _ e]
        exact h3 r hr0
    · by_cases e : r = 200 + k
      · rw [e, ag_uf_at]
        exact ⟨q1, q2⟩
      · rw [ag_uf_ne e]
        exact h5 r ((ag_hlw_uf (by omega)).mp hr)
    · by_cases e : r = 200 + k
      · rw [e, ag_ug_same]
        exact hf i
      · rw [ag_ug_ne _ _ e]
        exact h7 r i
    · rw [ag_uf_ne (by omega)]
      exact h8 r r1 r2
theorem ag_pls_sm {f : Nat → Int} {x : Int} (hf : ∀ i, -100000 ≤ f i ∧ f i ≤ 100000) (x1 : -100000 ≤ x) (x2 : x ≤ 100000) (k l i : Nat) : -100000 ≤ ag_pls f k l x i ∧ ag_pls f k l x i ≤ 100000 := by
  unfold ag_pls
  repeat' split
  · exact hf i
  · exact ⟨x1, x2⟩
  · exact hf _
  · exact ⟨by decide, by decide⟩
/-- kids[k] = plus(kids[k], p, c) -/
theorem ag_h_gkid (h : ag_HS B σ L ln g dr qu mi) {k p : Nat} {c : Int} (hk : k < ln 2) (hp : p ≤ ln (200 + k)) (hl : ln (200 + k) ≤ 99) (c1 : -100000 ≤ c) (c2 : c ≤ 100000) :
    ∃ σ1 σ' : ag_S, (∀ K : ag_Rs → ag_S → Prop, ag_cl9 97 [ag_R (L (200 + k)), ag_I (p : Int), ag_I c] σ K = K (Sum.inl (some (ag_R (σ.2.1 + 1)))) σ1) ∧ ag_HS B σ1 L ln g dr qu mi ∧ (∀ (x : Int) (K : ag_S → Prop), x = k → ag_qs σ1 (L 2) x (σ.2.1 + 1) K = K σ') ∧ ag_hf B σ σ' 1 100 ∧ ag_HS B σ' (ag_uf L (200 + k) (σ.2.1 + 1)) (ag_uf ln (200 + k) (ln (200 + k) + 1)) (ag_ug g (200 + k) (ag_pls (g (200 + k)) p (ln (200 + k)) c)) dr qu mi := by
  have hlv : ag_hlv ln (200 + k) := Or.inr (Or.inr (Or.inl (by omega)))
  have hL := h.2.2.2.2.1 _ (Or.inr hlv)
  have e1 := fun K => ag_h_plus (h.2.2.1 _ hlv) (show 1 ≤ L (200 + k) by omega) hL.2 (by omega) hp c K
  have f1 := ag_fr_n9 σ (Sum.inl (ln (200 + k) + 1, ag_pls (g (200 + k)) p (ln (200 + k)) c)) (ln (200 + k) + 1)
  have h1 := ag_HS_fr h f1
  obtain ⟨σ', e2, -, -, e3, e4⟩ := ag_h_kid h1 (q := σ.2.1 + 1) hk (ag_n9_at _ _ _) (ag_HS_new h (Nat.lt_succ_self _) (Nat.lt_succ_self _) (Nat.le_refl _)) (ag_pls_sm (h.2.2.2.2.2.2.1 _) c1 c2 _ _)
  exact ⟨_, σ', e1, h1, e2, ag_hf_le (ag_hf_trans (ag_hf_fr f1 h.2.2.2.2.2.1.2) e3) (by omega) (by omega), e4⟩
/-- the rows of role 1, one more: .. = with(.., e) -/
theorem ag_h_add1 (h : ag_HS B σ L ln g dr qu mi) {e l : Nat} {f : Nat → Int} (he : σ.1 e = some (Sum.inl (l, f))) (hn : ag_hnew B σ L ln e) (hf : ∀ i, -100000 ≤ f i ∧ f i ≤ 100000) (hl : ln 1 ≤ 98) :
    ∃ σ1 σ' : ag_S, (∀ K : ag_Rs → ag_S → Prop, ag_cl9 98 [ag_R (L 1), ag_R e] σ K = K (Sum.inl (some (ag_R (σ.2.1 + 1)))) σ1) ∧ (∀ K : ag_S → Prop, ag_pf σ1 B 6 3 (ag_R (σ.2.1 + 1)) K = K σ') ∧ ag_hf B σ σ' 1 100 ∧ ag_HS B σ' (ag_uf (ag_uf L 1 (σ.2.1 + 1)) (100 + ln 1) e) (ag_uf (ag_uf ln 1 (ln 1 + 1)) (100 + ln 1) l) (ag_ug g (100 + ln 1) f) dr qu mi := by
  have hh := h
  obtain ⟨h1, h2, h3, h4, h5, h6, h7, h8, ⟨n, F, h9, h10⟩, h11⟩ := h
  obtain ⟨F2, a, b⟩ := h2 1 (by decide) (by decide)
  have Lr := h5 1 (Or.inl (by decide))
  obtain ⟨q1, q2, q3⟩ := hn
  have hlive : ∀ i, i < ln 1 → ag_hlv ln (100 + i) := fun i hi => by unfold ag_hlv; omega
  have e1 := fun K => ag_h_with a (by omega) Lr.2 (by omega) (show 1 ≤ e by omega) q2 ⟨_, he⟩ (fun i hi => ⟨L (100 + i), _, b i hi, by have := (h5 _ (Or.inr (hlive i hi))).1; omega, (h5 _ (Or.inr (hlive i hi))).2, h3 _ (hlive i hi)⟩) K
  have f1 := ag_fr_n9 σ (Sum.inr (Sum.inr (Sum.inl (ln 1 + 1, ag_wth F2 (ln 1) e)))) (ln 1 + 1)
  have hh1 := ag_HS_fr hh f1
  have hat := ag_n9_at σ (Sum.inr (Sum.inr (Sum.inl (ln 1 + 1, ag_wth F2 (ln 1) e)))) (ln 1 + 1)
  generalize hσ1 : ag_n9 σ (Sum.inr (Sum.inr (Sum.inl (ln 1 + 1, ag_wth F2 (ln 1) e)))) (ln 1 + 1) = σ1 at e1 f1 hh1 hat
  have hs1 : σ1.2.1 = σ.2.1 + 1 := by rw [← hσ1]; rfl
  have he1 : σ1.1 e = some (Sum.inl (l, f)) := (f1.1 e q2).trans he
  obtain ⟨g1, g2, g3, g4, g5, g6, g7, g8, ⟨n2, F3, g9, g10⟩, g11⟩ := hh1
  have qn : ∀ r, ag_hlw ln r → L r ≠ σ.2.1 + 1 := fun r hr => by have := (h5 r hr).2; omega
  have hlw : ∀ r, ag_hlw (ag_uf (ag_uf ln 1 (ln 1 + 1)) (100 + ln 1) l) r → r = 100 + ln 1 ∨ ag_hlw ln r := by
    intro r9 hr9
    unfold ag_hlw ag_hlv at hr9 ⊢
    rw [ag_uf_ne (show 1 ≠ 100 + ln 1 by omega), ag_uf_at, ag_uf_ne (show 2 ≠ 100 + ln 1 by omega), ag_uf_ne (show 2 ≠ 1 by decide), ag_uf_ne (show 3 ≠ 100 + ln 1 by omega), ag_uf_ne (show 3 ≠ 1 by decide), ag_uf_ne (show 4 ≠ 100 + ln 1 by omega), ag_uf_ne (show 4 ≠ 1 by decide), ag_uf_ne (show 5 ≠ 100 + ln 1 by omega), ag_uf_ne (show 5 ≠ 1 by decide)] at hr9
    omega
  have hLr : ∀ r9, ag_hlw ln r9 → r9 ≠ 1 → ag_uf (ag_uf L 1 (σ.2.1 + 1)) (100 + ln 1) e r9 = L r9 ∧ ag_uf (ag_uf ln 1 (ln 1 + 1)) (100 + ln 1) l r9 = ln r9 ∧ r9 ≠ 100 + ln 1 := by
    intro r9 hr9 hne
    have hne2 : r9 ≠ 100 + ln 1 := by
      have b1 := h8 1 (by decide) (by decide)
      have b2 := h8 2 (by decide) (by decide)
      have b3 := h8 3 (by decide) (by decide)
      have b4 := h8 4 (by decide) (by decide)
      have b5 := h8 5 (by decide) (by decide)
      unfold ag_hlw ag_hlv at hr9
      omega
    exact ⟨by rw [ag_uf_ne hne2, ag_uf_ne hne], by rw [ag_uf_ne hne2, ag_uf_ne hne], hne2⟩
  have hLe : ag_uf (ag_uf L 1 (σ.2.1 + 1)) (100 + ln 1) e 1 = σ.2.1 + 1 := by rw [ag_uf_ne (by omega), ag_uf_at]
  refine ⟨σ1, (ag_up σ1.1 B (ag_hob B (ag_uf (ag_uf L 1 (σ.2.1 + 1)) (100 + ln 1) e) dr qu mi), σ1.2), e1, fun K => ?_, ag_hf_le (ag_hf_trans (ag_hf_fr f1 h6.2) (ag_hf_up σ1 _ (Or.inl rfl))) (by omega) (by omega), ?_⟩
  · unfold ag_pf
    rw [g1]
    show ((6 = 6 ∧ 3 < 14 ∧ 1 ≤ B) ∧ K (ag_up σ1.1 B (Sum.inr (Sum.inr (Sum.inr (6, _)))), σ1.2)) = _
    have eo : ag_hob B (ag_uf (ag_uf L 1 (σ.2.1 + 1)) (100 + ln 1) e) dr qu mi = Sum.inr (Sum.inr (Sum.inr (6, ([ag_R (B + 1), ag_R 0, ag_I dr, ag_R (L 1), ag_R (L 2), ag_R (L 3), ag_R (L 4), ag_R (L 6), ag_R (L 7), ag_R (L 8), ag_I qu, ag_I mi, ag_R (L 5), ag_R (L 9)] : List ag_V).set 3 (ag_R (σ.2.1 + 1))))) := by
      unfold ag_hob
      rw [ag_uf_ne (show 1 ≠ 100 + ln 1 by omega), ag_uf_at, ag_uf_ne (show 2 ≠ 100 + ln 1 by omega), ag_uf_ne (show 2 ≠ 1 by decide), ag_uf_ne (show 3 ≠ 100 + ln 1 by omega), ag_uf_ne (show 3 ≠ 1 by decide), ag_uf_ne (show 4 ≠ 100 + ln 1 by omega), ag_uf_ne (show 4 ≠ 1 by decide), ag_uf_ne (show 5 ≠ 100 + ln 1 by omega), ag_uf_ne (show 5 ≠ 1 by decide), ag_uf_ne (show 6 ≠ 100 + ln 1 by omega), ag_uf_ne (show 6 ≠ 1 by decide), ag_uf_ne (show 7 ≠ 100 + ln 1 by omega), ag_uf_ne (show 7 ≠ 1 by decide), ag_uf_ne (show 8 ≠ 100 + ln 1 by omega), ag_uf_ne (show 8 ≠ 1 by decide), ag_uf_ne (show 9 ≠ 100 + ln 1 by omega), ag_uf_ne (show 9 ≠ 1 by decide)]
      rfl
    rw [eo]
    exact propext ⟨fun z => z.2, fun z => ⟨⟨rfl, by decide, h6.1⟩, z⟩⟩
  · refine ⟨ag_up_a9 _ _ _, fun r9 r1 r2 => ?_, fun r9 hr => ?_, fun r9 r8 hr hr' e9 => ?_, fun r9 hr => ?_, ⟨h6.1, g6.2⟩, fun r9 i => ?_, fun r9 r1 r2 => ?_, ⟨n2, F3, g9, (ag_up_ne (by omega)).trans g10⟩, h11⟩
    · by_cases e9 : r9 = 1
      · subst e9
        rw [hLe, ag_uf_ne (show 1 ≠ 100 + ln 1 by omega), ag_uf_at]
        refine ⟨_, (ag_up_ne (by omega)).trans hat, fun i hi => ?_⟩
        unfold ag_wth
        by_cases hi2 : i < ln 1
        · rw [if_pos hi2, b i hi2, (hLr (100 + i) (Or.inr (hlive i hi2)) (by omega)).1]
        · rw [if_neg hi2, if_pos (by omega), show 100 * 1 + i = 100 + ln 1 by omega, ag_uf_at]
      · obtain ⟨F4, c, d⟩ := g2 r9 r1 r2
        have hq := hLr r9 (Or.inl ⟨r1, r2⟩) e9
        rw [hq.1, hq.2.1]
        refine ⟨F4, (ag_up_ne (by have := (h5 r9 (Or.inl ⟨r1, r2⟩)).1; omega)).trans c, fun i hi => ?_⟩
        have b9 := h8 r9 r1 r2
        rw [d i hi, (hLr (100 * r9 + i) (Or.inr (by
          unfold ag_hlv
          have h9 : r9 = 1 ∨ r9 = 2 ∨ r9 = 3 ∨ r9 = 4 ∨ r9 = 5 := by omega
          rcases h9 with rfl | rfl | rfl | rfl | rfl <;> omega)) (by omega)).1]
    · rcases hlw r9 (Or.inr hr) with e9 | hr0
      · subst e9
        rw [ag_uf_at, ag_uf_at, ag_ug_same]
        exact (ag_up_ne (by omega)).trans he1
      · have h69 := ag_hlv_6 hr
        have hq := hLr r9 hr0 (by omega)
        rw [hq.1, hq.2.1, ag_ug_ne _ _ hq.2.2]
        refine (ag_up_ne (by have := (h5 r9 hr0).1; omega)).trans (g3 r9 ?_)
        rcases hr0 with q | q
        · omega
        · exact q
    · have key : ∀ r9, ag_hlw (ag_uf (ag_uf ln 1 (ln 1 + 1)) (100 + ln 1) l) r9 → (r9 = 100 + ln 1 ∧ ag_uf (ag_uf L 1 (σ.2.1 + 1)) (100 + ln 1) e r9 = e) ∨ (r9 = 1 ∧ ag_uf (ag_uf L 1 (σ.2.1 + 1)) (100 + ln 1) e r9 = σ.2.1 + 1) ∨ (ag_hlw ln r9 ∧ ag_uf (ag_uf L 1 (σ.2.1 + 1)) (100 + ln 1) e r9 = L r9) := by
        intro r9 hr9
        rcases hlw r9 hr9 with q | q
        · exact Or.inl ⟨q, by rw [q, ag_uf_at]⟩
        · by_cases e8 : r9 = 1
          · exact Or.inr (Or.inl ⟨e8, by rw [e8]; exact hLe⟩)
          · exact Or.inr (Or.inr ⟨q, (hLr r9 q e8).1⟩)
      rcases key r9 hr with ⟨a1, a2⟩ | ⟨a1, a2⟩ | ⟨a1, a2⟩ <;> rcases key r8 hr' with ⟨b1, b2⟩ | ⟨b1, b2⟩ | ⟨b1, b2⟩ <;> rw [a2, b2] at e9
      · omega
      · omega
      · exact absurd e9.symm (q3 r8 b1)
      · omega
      · omega
      · exact absurd e9.symm (qn r8 b1)
      · exact absurd e9 (q3 r9 a1)
      · exact absurd e9 (qn r9 a1)
      · exact h4 r9 r8 a1 b1 e9
    · rcases hlw r9 hr with q | q
      · rw [q, ag_uf_at]
        exact ⟨q1, by show e ≤ σ1.2.1; omega⟩
      · by_cases e8 : r9 = 1
        · rw [e8, hLe]
          exact ⟨by omega, by show σ.2.1 + 1 ≤ σ1.2.1; omega⟩
        · rw [(hLr r9 q e8).1]
          exact g5 r9 q
    · by_cases e9 : r9 = 100 + ln 1
      · rw [e9, ag_ug_same]
        exact hf i
      · rw [ag_ug_ne _ _ e9]
        exact h7 r9 i
    · rw [ag_uf_ne (show r9 ≠ 100 + ln 1 by omega)]
      by_cases e9 : r9 = 1
      · rw [e9, ag_uf_at]
        omega
      · rw [ag_uf_ne e9]
        exact h8 r9 r1 r2
/-- the rows of role 3, one more: .. = with(.., e) -/
theorem ag_h_add3 (h : ag_HS B σ L ln g dr qu mi) {e l : Nat} {f : Nat → Int} (he : σ.1 e = some (Sum.inl (l, f))) (hn : ag_hnew B σ L ln e) (hf : ∀ i, -100000 ≤ f i ∧ f i ≤ 100000) (hl : ln 3 ≤ 98) :
    ∃ σ1 σ' : ag_S, (∀ K : ag_Rs → ag_S → Prop, ag_cl9 98 [ag_R (L 3), ag_R e] σ K = K (Sum.inl (some (ag_R (σ.2.1 + 1)))) σ1) ∧ (∀ K : ag_S → Prop, ag_pf σ1 B 6 5 (ag_R (σ.2.1 + 1)) K = K σ') ∧ ag_hf B σ σ' 1 100 ∧ ag_HS B σ' (ag_uf (ag_uf L 3 (σ.2.1 + 1)) (300 + ln 3) e) (ag_uf (ag_uf ln 3 (ln 3 + 1)) (300 + ln 3) l) (ag_ug g (300 + ln 3) f) dr qu mi := by
  have hh := h
  obtain ⟨h1, h2, h3, h4, h5, h6, h7, h8, ⟨n, F, h9, h10⟩, h11⟩ := h
  obtain ⟨F2, a, b⟩ := h2 3 (by decide) (by decide)
  have Lr := h5 3 (Or.inl (by decide))
  obtain ⟨q1, q2, q3⟩ := hn
  have hlive : ∀ i, i < ln 3 → ag_hlv ln (300 + i) := fun i hi => by unfold ag_hlv; omega
  have e1 := fun K => ag_h_with a (by omega) Lr.2 (by omega) (show 1 ≤ e by omega) q2 ⟨_, he⟩ (fun i hi => ⟨L (300 + i), _, b i hi, by have := (h5 _ (Or.inr (hlive i hi))).1; omega, (h5 _ (Or.inr (hlive i hi))).2, h3 _ (hlive i hi)⟩) K
  have f1 := ag_fr_n9 σ (Sum.inr (Sum.inr (Sum.inl (ln 3 + 1, ag_wth F2 (ln 3) e)))) (ln 3 + 1)
  have hh1 := ag_HS_fr hh f1
  have hat := ag_n9_at σ (Sum.inr (Sum.inr (Sum.inl (ln 3 + 1, ag_wth F2 (ln 3) e)))) (ln 3 + 1)
  generalize hσ1 : ag_n9 σ (Sum.inr (Sum.inr (Sum.inl (ln 3 + 1, ag_wth F2 (ln 3) e)))) (ln 3 + 1) = σ1 at e1 f1 hh1 hat
  have hs1 : σ1.2.1 = σ.2.1 + 1 := by rw [← hσ1]; rfl
  have he1 : σ1.1 e = some (Sum.inl (l, f)) := (f1.1 e q2).trans he
  obtain ⟨g1, g2, g3, g4, g5, g6, g7, g8, ⟨n2, F3, g9, g10⟩, g11⟩ := hh1
  have qn : ∀ r, ag_hlw ln r → L r ≠ σ.2.1 + 1 := fun r hr => by have := (h5 r hr).2; omega
  have hlw : ∀ r, ag_hlw (ag_uf (ag_uf ln 3 (ln 3 + 1)) (300 + ln 3) l) r → r = 300 + ln 3 ∨ ag_hlw ln r := by
    intro r9 hr9
    unfold ag_hlw ag_hlv at hr9 ⊢
    rw [ag_uf_ne (show 1 ≠ 300 + ln 3 by omega), ag_uf_ne (show 1 ≠ 3 by decide), ag_uf_ne (show 2 ≠ 300 + ln 3 by omega), ag_uf_ne (show 2 ≠ 3 by decide), ag_uf_ne (show 3 ≠ 300 + ln 3 by omega), ag_uf_at, ag_uf_ne (show 4 ≠ 300 + ln 3 by omega), ag_uf_ne (show 4 ≠ 3 by decide), ag_uf_ne (show 5 ≠ 300 + ln 3 by omega), ag_uf_ne (show 5 ≠ 3 by decide)] at hr9
    omega
  have hLr : ∀ r9, ag_hlw ln r9 → r9 ≠ 3 → ag_uf (ag_uf L 3 (σ.2.1 + 1)) (300 + ln 3) e r9 = L r9 ∧ ag_uf (ag_uf ln 3 (ln 3 + 1)) (300 + ln 3) l r9 = ln r9 ∧ r9 ≠ 300 + ln 3 := by
    intro r9 hr9 hne
    have hne2 : r9 ≠ 300 + ln 3 := by
      have b1 := h8 1 (by decide) (by decide)
      have b2 := h8 2 (by decide) (by decide)
      have b3 := h8 3 (by decide) (by decide)
      have b4 := h8 4 (by decide) (by decide)
      have b5 := h8 5 (by decide) (by decide)
      unfold ag_hlw ag_hlv at hr9
      omega
    exact ⟨by rw [ag_uf_ne hne2, ag_uf_ne hne], by rw [ag_uf_ne hne2, ag_uf_ne hne], hne2⟩
  have hLe : ag_uf (ag_uf L 3 (σ.2.1 + 1)) (300 + ln 3) e 3 = σ.2.1 + 1 := by rw [ag_uf_ne (by omega), ag_uf_at]
  refine ⟨σ1, (ag_up σ1.1 B (ag_hob B (ag_uf (ag_uf L 3 (σ.2.1 + 1)) (300 + ln 3) e) dr qu mi), σ1.2), e1, fun K => ?_, ag_hf_le (ag_hf_trans (ag_hf_fr f1 h6.2) (ag_hf_up σ1 _ (Or.inl rfl))) (by omega) (by omega), ?_⟩
  · unfold ag_pf
    rw [g1]
    show ((6 = 6 ∧ 5 < 14 ∧ 1 ≤ B) ∧ K (ag_up σ1.1 B (Sum.inr (Sum.inr (Sum.inr (6, _)))), σ1.2)) = _
    have eo : ag_hob B (ag_uf (ag_uf L 3 (σ.2.1 + 1)) (300 + ln 3) e) dr qu mi = Sum.inr (Sum.inr (Sum.inr (6, ([ag_R (B + 1), ag_R 0, ag_I dr, ag_R (L 1), ag_R (L 2), ag_R (L 3), ag_R (L 4), ag_R (L 6), ag_R (L 7), ag_R (L 8), ag_I qu, ag_I mi, ag_R (L 5), ag_R (L 9)] : List ag_V).set 5 (ag_R (σ.2.1 + 1))))) := by
      unfold ag_hob
      rw [ag_uf_ne (show 1 ≠ 300 + ln 3 by omega), ag_uf_ne (show 1 ≠ 3 by decide), ag_uf_ne (show 2 ≠ 300 + ln 3 by omega), ag_uf_ne (show 2 ≠ 3 by decide), ag_uf_ne (show 3 ≠ 300 + ln 3 by omega), ag_uf_at, ag_uf_ne (show 4 ≠ 300 + ln 3 by omega), ag_uf_ne (show 4 ≠ 3 by decide), ag_uf_ne (show 5 ≠ 300 + ln 3 by omega), ag_uf_ne (show 5 ≠ 3 by decide), ag_uf_ne (show 6 ≠ 300 + ln 3 by omega), ag_uf_ne (show 6 ≠ 3 by decide), ag_uf_ne (show 7 ≠ 300 + ln 3 by omega), ag_uf_ne (show 7 ≠ 3 by decide), ag_uf_ne (show 8 ≠ 300 + ln 3 by omega), ag_uf_ne (show 8 ≠ 3 by decide), ag_uf_ne (show 9 ≠ 300 + ln 3 by omega), ag_uf_ne (show 9 ≠ 3 by decide)]
      rfl
    rw [eo]
    exact propext ⟨fun z => z.2, fun z => ⟨⟨rfl, by decide, h6.1⟩, z⟩⟩
  · refine ⟨ag_up_a9 _ _ _, fun r9 r1 r2 => ?_, fun r9 hr => ?_, fun r9 r8 hr hr' e9 => ?_, fun r9 hr => ?_, ⟨h6.1, g6.2⟩, fun r9 i => ?_, fun r9 r1 r2 => ?_, ⟨n2, F3, g9, (ag_up_ne (by omega)).trans g10⟩, h11⟩
    · by_cases e9 : r9 = 3
      · subst e9
        rw [hLe, ag_uf_ne (show 3 ≠ 300 + ln 3 by omega), ag_uf_at]
        refine ⟨_, (ag_up_ne (by omega)).trans hat, fun i hi => ?_⟩
        unfold ag_wth
        by_cases hi2 : i < ln 3
        · rw [if_pos hi2, b i hi2, (hLr (300 + i) (Or.inr (hlive i hi2)) (by omega)).1]
        · rw [if_neg hi2, if_pos (by omega), show 100 * 3 + i = 300 + ln 3 by omega, ag_uf_at]
      · obtain ⟨F4, c, d⟩ := g2 r9 r1 r2
        have hq := hLr r9 (Or.inl ⟨r1, r2⟩) e9
        rw [hq.1, hq.2.1]
        refine ⟨F4, (ag_up_ne (by have := (h5 r9 (Or.inl ⟨r1, r2⟩)).1; omega)).trans c, fun i hi => ?_⟩
        have b9 := h8 r9 r1 r2
        rw [d i hi, (hLr (100 * r9 + i) (Or.inr (by
          unfold ag_hlv
          have h9 : r9 = 1 ∨ r9 = 2 ∨ r9 = 3 ∨ r9 = 4 ∨ r9 = 5 := by omega
          rcases h9 with rfl | rfl | rfl | rfl | rfl <;> omega)) (by omega)).1]
    · rcases hlw r9 (Or.inr hr) with e9 | hr0
      · subst e9
        rw [ag_uf_at, ag_uf_at, ag_ug_same]
        exact (ag_up_ne (by omega)).trans he1
      · have h69 := ag_hlv_6 hr
        have hq := hLr r9 hr0 (by omega)
        rw [hq.1, hq.2.1, ag_ug_ne _ _ hq.2.2]
        refine (ag_up_ne (by have := (h5 r9 hr0).1; omega)).trans (g3 r9 ?_)
        rcases hr0 with q | q
        · omega
        · exact q
    · have key : ∀ r9, ag_hlw (ag_uf (ag_uf ln 3 (ln 3 + 1)) (300 + ln 3) l) r9 → (r9 = 300 + ln 3 ∧ ag_uf (ag_uf L 3 (σ.2.1 + 1)) (300 + ln 3) e r9 = e) ∨ (r9 = 3 ∧ ag_uf (ag_uf L 3 (σ.2.1 + 1)) (300 + ln 3) e r9 = σ.2.1 + 1) ∨ (ag_hlw ln r9 ∧ ag_uf (ag_uf L 3 (σ.2.1 + 1)) (300 + ln 3) e r9 = L r9) := by
        intro r9 hr9
        rcases hlw r9 hr9 with q | q
        · exact Or.inl ⟨q, by rw [q, ag_uf_at]⟩
        · by_cases e8 : r9 = 3
          · exact Or.inr (Or.inl ⟨e8, by rw [e8]; exact hLe⟩)
          · exact Or.inr (Or.inr ⟨q, (hLr r9 q e8).1⟩)
      rcases key r9 hr with ⟨a1, a2⟩ | ⟨a1, a2⟩ | ⟨a1, a2⟩ <;> rcases key r8 hr' with ⟨b1, b2⟩ | ⟨b1, b2⟩ | ⟨b1, b2⟩ <;> rw [a2, b2] at e9
      · omega
      · omega
      · exact absurd e9.symm (q3 r8 b1)
      · omega
      · omega
      · exact absurd e9.symm (qn r8 b1)
      · exact absurd e9 (q3 r9 a1)
      · exact absurd e9 (qn r9 a1)
      · exact h4 r9 r8 a1 b1 e9
    · rcases hlw r9 hr with q | q
      · rw [q, ag_uf_at]
        exact ⟨q1, by show e ≤ σ1.2.1; omega⟩
      · by_cases e8 : r9 = 3
        · rw [e8, hLe]
          exact ⟨by omega, by show σ.2.1 + 1 ≤ σ1.2.1; omega⟩
        · rw [(hLr r9 q e8).1]
          exact g5 r9 q
    · by_cases e9 : r9 = 300 + ln 3
      · rw [e9, ag_ug_same]
        exact hf i
      · rw [ag_ug_ne _ _ e9]
        exact h7 r9 i
    · rw [ag_uf_ne (show r9 ≠ 300 + ln 3 by omega)]
      by_cases e9 : r9 = 3
      · rw [e9, ag_uf_at]
        omega
      · rw [ag_uf_ne e9]
        exact h8 r9 r1 r2
/-- the rows of role 4, one more: .. = with(.., e) -/
theorem ag_h_add4 (h : ag_HS B σ L ln g dr qu mi) {e l : Nat} {f : Nat → Int} (he : σ.1 e = some (Sum.inl (l, f))) (hn : ag_hnew B σ L ln e) (hf : ∀ i, -100000 ≤ f i ∧ f i ≤ 100000) (hl : ln 4 ≤ 98) :
    ∃ σ1 σ' : ag_S, (∀ K : ag_Rs → ag_S → Prop, ag_cl9 98 [ag_R (L 4), ag_R e] σ K = K (Sum.inl (some (ag_R (σ.2.1 + 1)))) σ1) ∧ (∀ K : ag_S → Prop, ag_pf σ1 B 6 6 (ag_R (σ.2.1 + 1)) K = K σ') ∧ ag_hf B σ σ' 1 100 ∧ ag_HS B σ' (ag_uf (ag_uf L 4 (σ.2.1 + 1)) (400 + ln 4) e) (ag_uf (ag_uf ln 4 (ln 4 + 1)) (400 + ln 4) l) (ag_ug g (400 + ln 4) f) dr qu mi := by
  have hh := h
  obtain ⟨h1, h2, h3, h4, h5, h6, h7, h8, ⟨n, F, h9, h10⟩, h11⟩ := h
  obtain ⟨F2, a, b⟩ := h2 4 (by decide) (by decide)
  have Lr := h5 4 (Or.inl (by decide))
  obtain ⟨q1, q2, q3⟩ := hn
  have hlive : ∀ i, i < ln 4 → ag_hlv ln (400 + i) := fun i hi => by unfold ag_hlv; omega
  have e1 := fun K => ag_h_with a (by omega) Lr.2 (by omega) (show 1 ≤ e by omega) q2 ⟨_, he⟩ (fun i hi => ⟨L (400 + i), _, b i hi, by have := (h5 _ (Or.inr (hlive i hi))).1; omega, (h5 _ (Or.inr (hlive i hi))).2, h3 _ (hlive i hi)⟩) K
  have f1 := ag_fr_n9 σ (Sum.inr (Sum.inr (Sum.inl (ln 4 + 1, ag_wth F2 (ln 4) e)))) (ln 4 + 1)
  have hh1 := ag_HS_fr hh f1
  have hat := ag_n9_at σ (Sum.inr (Sum.inr (Sum.inl (ln 4 + 1, ag_wth F2 (ln 4) e)))) (ln 4 + 1)
  generalize hσ1 : ag_n9 σ (Sum.inr (Sum.inr (Sum.inl (ln 4 + 1, ag_wth F2 (ln 4) e)))) (ln 4 + 1) = σ1 at e1 f1 hh1 hat
  have hs1 : σ1.2.1 = σ.2.1 + 1 := by rw [← hσ1]; rfl
  have he1 : σ1.1 e = some (Sum.inl (l, f)) := (f1.1 e q2).trans he
  obtain ⟨g1, g2, g3, g4, g5, g6, g7, g8, ⟨n2, F3, g9, g10⟩, g11⟩ := hh1
  have qn : ∀ r, ag_hlw ln r → L r ≠ σ.2.1 + 1 := fun r hr => by have := (h5 r hr).2; omega
  have hlw : ∀ r, ag_hlw (ag_uf (ag_uf ln 4 (ln 4 + 1)) (400 + ln 4) l) r → r = 400 + ln 4 ∨ ag_hlw ln r := by
    intro r9 hr9
    unfold ag_hlw ag_hlv at hr9 ⊢
    rw [ag_uf_ne (show 1 ≠ 400 + ln 4 by omega), ag_uf_ne (show 1 ≠ 4 by decide), ag_uf_ne (show 2 ≠ 400 + ln 4 by omega), ag_uf_ne (show 2 ≠ 4 by decide), ag_uf_ne (show 3 ≠ 400 + ln 4 by omega), ag_uf_ne (show 3 ≠ 4 by decide), ag_uf_ne (show 4 ≠ 400 + ln 4 by omega), ag_uf_at, ag_uf_ne (show 5 ≠ 400 + ln 4 by omega), ag_uf_ne (show 5 ≠ 4 by decide)] at hr9
    omega
  have hLr : ∀ r9, ag_hlw ln r9 → r9 ≠ 4 → ag_uf (ag_uf L 4 (σ.2.1 + 1)) (400 + ln 4) e r9 = L r9 ∧ ag_uf (ag_uf ln 4 (ln 4 + 1)) (400 + ln 4) l r9 = ln r9 ∧ r9 ≠ 400 + ln 4 := by
    intro r9 hr9 hne
    have hne2 : r9 ≠ 400 + ln 4 := by
      have b1 := h8 1 (by decide) (by decide)
      have b2 := h8 2 (by decide) (by decide)
      have b3 := h8 3 (by decide) (by decide)
      have b4 := h8 4 (by decide) (by decide)
      have b5 := h8 5 (by decide) (by decide)
      unfold ag_hlw ag_hlv at hr9
      omega
    exact ⟨by rw [ag_uf_ne hne2, ag_uf_ne hne], by rw [ag_uf_ne hne2, ag_uf_ne hne], hne2⟩
  have hLe : ag_uf (ag_uf L 4 (σ.2.1 + 1)) (400 + ln 4) e 4 = σ.2.1 + 1 := by rw [ag_uf_ne (by omega), ag_uf_at]
  refine ⟨σ1, (ag_up σ1.1 B (ag_hob B (ag_uf (ag_uf L 4 (σ.2.1 + 1)) (400 + ln 4) e) dr qu mi), σ1.2), e1, fun K => ?_, ag_hf_le (ag_hf_trans (ag_hf_fr f1 h6.2) (ag_hf_up σ1 _ (Or.inl rfl))) (by omega) (by omega), ?_⟩
  · unfold ag_pf
    rw [g1]
    show ((6 = 6 ∧ 6 < 14 ∧ 1 ≤ B) ∧ K (ag_up σ1.1 B (Sum.inr (Sum.inr (Sum.inr (6, _)))), σ1.2)) = _
    have eo : ag_hob B (ag_uf (ag_uf L 4 (σ.2.1 + 1)) (400 + ln 4) e) dr qu mi = Sum.inr (Sum.inr (Sum.inr (6, ([ag_R (B + 1), ag_R 0, ag_I dr, ag_R (L 1), ag_R (L 2), ag_R (L 3), ag_R (L 4), ag_R (L 6), ag_R (L 7), ag_R (L 8), ag_I qu, ag_I mi, ag_R (L 5), ag_R (L 9)] : List ag_V).set 6 (ag_R (σ.2.1 + 1))))) := by
      unfold ag_hob
      rw [ag_uf_ne (show 1 ≠ 400 + ln 4 by omega), ag_uf_ne (show 1 ≠ 4 by decide), ag_uf_ne (show 2 ≠ 400 + ln 4 by omega), ag_uf_ne (show 2 ≠ 4 by decide), ag_uf_ne (show 3 ≠ 400 + ln 4 by omega), ag_uf_ne (show 3 ≠ 4 by decide), ag_uf_ne (show 4 ≠ 400 + ln 4 by omega), ag_uf_at, ag_uf_ne (show 5 ≠ 400 + ln 4 by omega), ag_uf_ne (show 5 ≠ 4 by decide), ag_uf_ne (show 6 ≠ 400 + ln 4 by omega), ag_uf_ne (show 6 ≠ 4 by decide), ag_uf_ne (show 7 ≠ 400 + ln 4 by omega), ag_uf_ne (show 7 ≠ 4 by decide), ag_uf_ne (show 8 ≠ 400 + ln 4 by omega), ag_uf_ne (show 8 ≠ 4 by decide), ag_uf_ne (show 9 ≠ 400 + ln 4 by omega), ag_uf_ne (show 9 ≠ 4 by decide)]
      rfl
    rw [eo]
    exact propext ⟨fun z => z.2, fun z => ⟨⟨rfl, by decide, h6.1⟩, z⟩⟩
  · refine ⟨ag_up_a9 _ _ _, fun r9 r1 r2 => ?_, fun r9 hr => ?_, fun r9 r8 hr hr' e9 => ?_, fun r9 hr => ?_, ⟨h6.1, g6.2⟩, fun r9 i => ?_, fun r9 r1 r2 => ?_, ⟨n2, F3, g9, (ag_up_ne (by omega)).trans g10⟩, h11⟩
    · by_cases e9 : r9 = 4
      · subst e9
        rw [hLe, ag_uf_ne (show 4 ≠ 400 + ln 4 by omega), ag_uf_at]
        refine ⟨_, (ag_up_ne (by omega)).trans hat, fun i hi => ?_⟩
        unfold ag_wth
        by_cases hi2 : i < ln 4
        · rw [if_pos hi2, b i hi2, (hLr (400 + i) (Or.inr (hlive i hi2)) (by omega)).1]
        · rw [if_neg hi2, if_pos (by omega), show 100 * 4 + i = 400 + ln 4 by omega, ag_uf_at]
      · obtain ⟨F4, c, d⟩ := g2 r9 r1 r2
        have hq := hLr r9 (Or.inl ⟨r1, r2⟩) e9
        rw [hq.1, hq.2.1]
        refine ⟨F4, (ag_up_ne (by have := (h5 r9 (Or.inl ⟨r1, r2⟩)).1; omega)).trans c, fun i hi => ?_⟩
        have b9 := h8 r9 r1 r2
        rw [d i hi, (hLr (100 * r9 + i) (Or.inr (by
          unfold ag_hlv
          have h9 : r9 = 1 ∨ r9 = 2 ∨ r9 = 3 ∨ r9 = 4 ∨ r9 = 5 := by omega
          rcases h9 with rfl | rfl | rfl | rfl | rfl <;> omega)) (by omega)).1]
    · rcases hlw r9 (Or.inr hr) with e9 | hr0
      · subst e9
        rw [ag_uf_at, ag_uf_at, ag_ug_same]
        exact (ag_up_ne (by omega)).trans he1
      · have h69 := ag_hlv_6 hr
        have hq := hLr r9 hr0 (by omega)
        rw [hq.1, hq.2.1, ag_ug_ne _ _ hq.2.2]
        refine (ag_up_ne (by have := (h5 r9 hr0).1; omega)).trans (g3 r9 ?_)
        rcases hr0 with q | q
        · omega
        · exact q
    · have key : ∀ r9, ag_hlw (ag_uf (ag_uf ln 4 (ln 4 + 1)) (400 + ln 4) l) r9 → (r9 = 400 + ln 4 ∧ ag_uf (ag_uf L 4 (σ.2.1 + 1)) (400 + ln 4) e r9 = e) ∨ (r9 = 4 ∧ ag_uf (ag_uf L 4 (σ.2.1 + 1)) (400 + ln 4) e r9 = σ.2.1 + 1) ∨ (ag_hlw ln r9 ∧ ag_uf (ag_uf L 4 (σ.2.1 + 1)) (400 + ln 4) e r9 = L r9) := by
        intro r9 hr9
        rcases hlw r9 hr9 with q | q
        · exact Or.inl ⟨q, by rw [q, ag_uf_at]⟩
        · by_cases e8 : r9 = 4
          · exact Or.inr (Or.inl ⟨e8, by rw [e8]; exact hLe⟩)
          · exact Or.inr (Or.inr ⟨q, (hLr r9 q e8).1⟩)
      rcases key r9 hr with ⟨a1, a2⟩ | ⟨a1, a2⟩ | ⟨a1, a2⟩ <;> rcases key r8 hr' with ⟨b1, b2⟩ | ⟨b1, b2⟩ | ⟨b1, b2⟩ <;> rw [a2, b2] at e9
      · omega
      · omega
      · exact absurd e9.symm (q3 r8 b1)
      · omega
      · omega
      · exact absurd e9.symm (qn r8 b1)
      · exact absurd e9 (q3 r9 a1)
      · exact absurd e9 (qn r9 a1)
      · exact h4 r9 r8 a1 b1 e9
    · rcases hlw r9 hr with q | q
      · rw [q, ag_uf_at]
        exact ⟨q1, by show e ≤ σ1.2.1; omega⟩
      · by_cases e8 : r9 = 4
        · rw [e8, hLe]
          exact ⟨by omega, by show σ.2.1 + 1 ≤ σ1.2.1; omega⟩
        · rw [(hLr r9 q e8).1]
          exact g5 r9 q
    · by_cases e9 : r9 = 400 + ln 4
      · rw [e9, ag_ug_same]
        exact hf i
      · rw [ag_ug_ne _ _ e9]
        exact h7 r9 i
    · rw [ag_uf_ne (show r9 ≠ 400 + ln 4 by omega)]
      by_cases e9 : r9 = 4
      · rw [e9, ag_uf_at]
        omega
      · rw [ag_uf_ne e9]
        exact h8 r9 r1 r2
/-- the rows of role 5, one more: .. = with(.., e) -/
theorem ag_h_add5 (h : ag_HS B σ L ln g dr qu mi) {e l : Nat} {f : Nat → Int} (he : σ.1 e = some (Sum.inl (l, f))) (hn : ag_hnew B σ L ln e) (hf : ∀ i, -100000 ≤ f i ∧ f i ≤ 100000) (hl : ln 5 ≤ 98) :
    ∃ σ1 σ' : ag_S, (∀ K : ag_Rs → ag_S → Prop, ag_cl9 98 [ag_R (L 5), ag_R e] σ K = K (Sum.inl (some (ag_R (σ.2.1 + 1)))) σ1) ∧ (∀ K : ag_S → Prop, ag_pf σ1 B 6 12 (ag_R (σ.2.1 + 1)) K = K σ') ∧ ag_hf B σ σ' 1 100 ∧ ag_HS B σ' (ag_uf (ag_uf L 5 (σ.2.1 + 1)) (500 + ln 5) e) (ag_uf (ag_uf ln 5 (ln 5 + 1)) (500 + ln 5) l) (ag_ug g (500 + ln 5) f) dr qu mi := by
  have hh := h
  obtain ⟨h1, h2, h3, h4, h5, h6, h7, h8, ⟨n, F, h9, h10⟩, h11⟩ := h
  obtain ⟨F2, a, b⟩ := h2 5 (by decide) (by decide)
  have Lr := h5 5 (Or.inl (by decide))
  obtain ⟨q1, q2, q3⟩ := hn
  have hlive : ∀ i, i < ln 5 → ag_hlv ln (500 + i) := fun i hi => by unfold ag_hlv; omega
  have e1 := fun K => ag_h_with a (by omega) Lr.2 (by omega) (show 1 ≤ e by omega) q2 ⟨_, he⟩ (fun i hi => ⟨L (500 + i), _, b i hi, by have := (h5 _ (Or.inr (hlive i hi))).1; omega, (h5 _ (Or.inr (hlive i hi))).2, h3 _ (hlive i hi)⟩) K
  have f1 := ag_fr_n9 σ (Sum.inr (Sum.inr (Sum.inl (ln 5 + 1, ag_wth F2 (ln 5) e)))) (ln 5 + 1)
  have hh1 := ag_HS_fr hh f1
  have hat := ag_n9_at σ (Sum.inr (Sum.inr (Sum.inl (ln 5 + 1, ag_wth F2 (ln 5) e)))) (ln 5 + 1)
  generalize hσ1 : ag_n9 σ (Sum.inr (Sum.inr (Sum.inl (ln 5 + 1, ag_wth F2 (ln 5) e)))) (ln 5 + 1) = σ1 at e1 f1 hh1 hat
  have hs1 : σ1.2.1 = σ.2.1 + 1 := by rw [← hσ1]; rfl
  have he1 : σ1.1 e = some (Sum.inl (l, f)) := (f1.1 e q2).trans he
  obtain ⟨g1, g2, g3, g4, g5, g6, g7, g8, ⟨n2, F3, g9, g10⟩, g11⟩ := hh1
  have qn : ∀ r, ag_hlw ln r → L r ≠ σ.2.1 + 1 := fun r hr => by have := (h5 r hr).2; omega
  have hlw : ∀ r, ag_hlw (ag_uf (ag_uf ln 5 (ln 5 + 1)) (500 + ln 5) l) r → r = 500 + ln 5 ∨ ag_hlw ln r := by
    intro r9 hr9
    unfold ag_hlw ag_hlv at hr9 ⊢
    rw [ag_uf_ne (show 1 ≠ 500 + ln 5 by omega), ag_uf_ne (show 1 ≠ 5 by decide), ag_uf_ne (show 2 ≠ 500 + ln 5 by omega), ag_uf_ne (show 2 ≠ 5 by decide), ag_uf_ne (show 3 ≠ 500 + ln 5 by omega), ag_uf_ne (show 3 ≠ 5 by decide), ag_uf_ne (show 4 ≠ 500 + ln 5 by omega), ag_uf_ne (show 4 ≠ 5 by decide), ag_uf_ne (show 5 ≠ 500 + ln 5 by omega), ag_uf_at] at hr9
    omega
  have hLr : ∀ r9, ag_hlw ln r9 → r9 ≠ 5 → ag_uf (ag_uf L 5 (σ.2.1 + 1)) (500 + ln 5) e r9 = L r9 ∧ ag_uf (ag_uf ln 5 (ln 5 + 1)) (500 + ln 5) l r9 = ln r9 ∧ r9 ≠ 500 + ln 5 := by
    intro r9 hr9 hne
    have hne2 : r9 ≠ 500 + ln 5 := by
      have b1 := h8 1 (by decide) (by decide)
      have b2 := h8 2 (by decide) (by decide)
      have b3 := h8 3 (by decide) (by decide)
      have b4 := h8 4 (by decide) (by decide)
      have b5 := h8 5 (by decide) (by decide)
      unfold ag_hlw ag_hlv at hr9
      omega
    exact ⟨by rw [ag_uf_ne hne2, ag_uf_ne hne], by rw [ag_uf_ne hne2, ag_uf_ne hne], hne2⟩
  have hLe : ag_uf (ag_uf L 5 (σ.2.1 + 1)) (500 + ln 5) e 5 = σ.2.1 + 1 := by rw [ag_uf_ne (by omega), ag_uf_at]
  refine ⟨σ1, (ag_up σ1.1 B (ag_hob B (ag_uf (ag_uf L 5 (σ.2.1 + 1)) (500 + ln 5) e) dr qu mi), σ1.2), e1, fun K => ?_, ag_hf_le (ag_hf_trans (ag_hf_fr f1 h6.2) (ag_hf_up σ1 _ (Or.inl rfl))) (by omega) (by omega), ?_⟩
  · unfold ag_pf
    rw [g1]
    show ((6 = 6 ∧ 12 < 14 ∧ 1 ≤ B) ∧ K (ag_up σ1.1 B (Sum.inr (Sum.inr (Sum.inr (6, _)))), σ1.2)) = _
    have eo : ag_hob B (ag_uf (ag_uf L 5 (σ.2.1 + 1)) (500 + ln 5) e) dr qu mi = Sum.inr (Sum.inr (Sum.inr (6, ([ag_R (B + 1), ag_R 0, ag_I dr, ag_R (L 1), ag_R (L 2), ag_R (L 3), ag_R (L 4), ag_R (L 6), ag_R (L 7), ag_R (L 8), ag_I qu, ag_I mi, ag_R (L 5), ag_R (L 9)] : List ag_V).set 12 (ag_R (σ.2.1 + 1))))) := by
      unfold ag_hob
      rw [ag_uf_ne (show 1 ≠ 500 + ln 5 by omega), ag_uf_ne (show 1 ≠ 5 by decide), ag_uf_ne (show 2 ≠ 500 + ln 5 by omega), ag_uf_ne (show 2 ≠ 5 by decide), ag_uf_ne (show 3 ≠ 500 + ln 5 by omega), ag_uf_ne (show 3 ≠ 5 by decide), ag_uf_ne (show 4 ≠ 500 + ln 5 by omega), ag_uf_ne (show 4 ≠ 5 by decide), ag_uf_ne (show 5 ≠ 500 + ln 5 by omega), ag_uf_at, ag_uf_ne (show 6 ≠ 500 + ln 5 by omega), ag_uf_ne (show 6 ≠ 5 by decide), ag_uf_ne (show 7 ≠ 500 + ln 5 by omega), ag_uf_ne (show 7 ≠ 5 by decide), ag_uf_ne (show 8 ≠ 500 + ln 5 by omega), ag_uf_ne (show 8 ≠ 5 by decide), ag_uf_ne (show 9 ≠ 500 + ln 5 by omega), ag_uf_ne (show 9 ≠ 5 by decide)]
      rfl
    rw [eo]
    exact propext ⟨fun z => z.2, fun z => ⟨⟨rfl, by decide, h6.1⟩, z⟩⟩
  · refine ⟨ag_up_a9 _ _ _, fun r9 r1 r2 => ?_, fun r9 hr => ?_, fun r9 r8 hr hr' e9 => ?_, fun r9 hr => ?_, ⟨h6.1, g6.2⟩, fun r9 i => ?_, fun r9 r1 r2 => ?_, ⟨n2, F3, g9, (ag_up_ne (by omega)).trans g10⟩, h11⟩
    · by_cases e9 : r9 = 5
      · subst e9
        rw [hLe, ag_uf_ne (show 5 ≠ 500 + ln 5 by omega), ag_uf_at]
        refine ⟨_, (ag_up_ne (by omega)).trans hat, fun i hi => ?_⟩
        unfold ag_wth
        by_cases hi2 : i < ln 5
        · rw [if_pos hi2, b i hi2, (hLr (500 + i) (Or.inr (hlive i hi2)) (by omega)).1]
        · rw [if_neg hi2, if_pos (by omega), show 100 * 5 + i = 500 + ln 5 by omega, ag_uf_at]
      · obtain ⟨F4, c, d⟩ := g2 r9 r1 r2
        have hq := hLr r9 (Or.inl ⟨r1, r2⟩) e9
        rw [hq.1, hq.2.1]
        refine ⟨F4, (ag_up_ne (by have := (h5 r9 (Or.inl ⟨r1, r2⟩)).1; omega)).trans c, fun i hi => ?_⟩
        have b9 := h8 r9 r1 r2
        rw [d i hi, (hLr (100 * r9 + i) (Or.inr (by
          unfold ag_hlv
          have h9 : r9 = 1 ∨ r9 = 2 ∨ r9 = 3 ∨ r9 = 4 ∨ r9 = 5 := by omega
          rcases h9 with rfl | rfl | rfl | rfl | rfl <;> omega)) (by omega)).1]
    · rcases hlw r9 (Or.inr hr) with e9 | hr0
      · subst e9
        rw [ag_uf_at, ag_uf_at, ag_ug_same]
        exact (ag_up_ne (by omega)).trans he1
      · have h69 := ag_hlv_6 hr
        have hq := hLr r9 hr0 (by omega)
        rw [hq.1, hq.2.1, ag_ug_ne _ _ hq.2.2]
        refine (ag_up_ne (by have := (h5 r9 hr0).1; omega)).trans (g3 r9 ?_)
        rcases hr0 with q | q
        · omega
        · exact q
    · have key : ∀ r9, ag_hlw (ag_uf (ag_uf ln 5 (ln 5 + 1)) (500 + ln 5) l) r9 → (r9 = 500 + ln 5 ∧ ag_uf (ag_uf L 5 (σ.2.1 + 1)) (500 + ln 5) e r9 = e) ∨ (r9 = 5 ∧ ag_uf (ag_uf L 5 (σ.2.1 + 1)) (500 + ln 5) e r9 = σ.2.1 + 1) ∨ (ag_hlw ln r9 ∧ ag_uf (ag_uf L 5 (σ.2.1 + 1)) (500 + ln 5) e r9 = L r9) := by
        intro r9 hr9
        rcases hlw r9 hr9 with q | q
        · exact Or.inl ⟨q, by rw [q, ag_uf_at]⟩
        · by_cases e8 : r9 = 5
          · exact Or.inr (Or.inl ⟨e8, by rw [e8]; exact hLe⟩)
          · exact Or.inr (Or.inr ⟨q, (hLr r9 q e8).1⟩)
      rcases key r9 hr with ⟨a1, a2⟩ | ⟨a1, a2⟩ | ⟨a1, a2⟩ <;> rcases key r8 hr' with ⟨b1, b2⟩ | ⟨b1, b2⟩ | ⟨b1, b2⟩ <;> rw [a2, b2] at e9
      · omega
      · omega
      · exact absurd e9.symm (q3 r8 b1)
      · omega
      · omega
      · exact absurd e9.symm (qn r8 b1)
      · exact absurd e9 (q3 r9 a1)
      · exact absurd e9 (qn r9 a1)
      · exact h4 r9 r8 a1 b1 e9
    · rcases hlw r9 hr with q | q
      · rw [q, ag_uf_at]
        exact ⟨q1, by show e ≤ σ1.2.1; omega⟩
      · by_cases e8 : r9 = 5
        · rw [e8, hLe]
          exact ⟨by omega, by show σ.2.1 + 1 ≤ σ1.2.1; omega⟩
        · rw [(hLr r9 q e8).1]
          exact g5 r9 q
    · by_cases e9 : r9 = 500 + ln 5
      · rw [e9, ag_ug_same]
        exact hf i
      · rw [ag_ug_ne _ _ e9]
        exact h7 r9 i
    · rw [ag_uf_ne (show r9 ≠ 500 + ln 5 by omega)]
      by_cases e9 : r9 = 5
      · rw [e9, ag_uf_at]
        omega
      · rw [ag_uf_ne e9]
        exact h8 r9 r1 r2
/-- the row of role 6 is replaced by one that is longer: .. = plus(.., ..length, x) -/
theorem ag_h_rep6 (h : ag_HS B σ L ln g dr qu mi) {x : Int} (x1 : -100000 ≤ x) (x2 : x ≤ 100000) (hl : ln 6 ≤ 99) :
    ∃ σ1 σ' : ag_S, (∀ K : ag_Rs → ag_S → Prop, ag_cl9 97 [ag_R (L 6), ag_I (ln 6 : Int), ag_I x] σ K = K (Sum.inl (some (ag_R (σ.2.1 + 1)))) σ1) ∧ (∀ K : ag_S → Prop, ag_pf σ1 B 6 7 (ag_R (σ.2.1 + 1)) K = K σ') ∧ ag_hf B σ σ' 1 100 ∧ ag_HS B σ' (ag_uf L 6 (σ.2.1 + 1)) (ag_uf ln 6 (ln 6 + 1)) (ag_ug g 6 (ag_pls (g 6) (ln 6) (ln 6) x)) dr qu mi := by
  have hlv : ag_hlv ln 6 := Or.inl (by decide)
  have hL := h.2.2.2.2.1 _ (Or.inr hlv)
  have e1 := fun K => ag_h_plus (h.2.2.1 _ hlv) (show 1 ≤ L 6 by omega) hL.2 (by omega) (Nat.le_refl (ln 6)) x K
  have f1 := ag_fr_n9 σ (Sum.inl (ln 6 + 1, ag_pls (g 6) (ln 6) (ln 6) x)) (ln 6 + 1)
  have hat := ag_n9_at σ (Sum.inl (ln 6 + 1, ag_pls (g 6) (ln 6) (ln 6) x)) (ln 6 + 1)
  have hsm := ag_pls_sm (h.2.2.2.2.2.2.1 6) x1 x2 (ln 6) (ln 6)
  have h1 := ag_HS_fr h f1
  generalize hσ1 : ag_n9 σ (Sum.inl (ln 6 + 1, ag_pls (g 6) (ln 6) (ln 6) x)) (ln 6 + 1) = σ1 at e1 f1 h1 hat
  have hs1 : σ1.2.1 = σ.2.1 + 1 := by rw [← hσ1]; rfl
  have qn : ∀ r, ag_hlw ln r → L r ≠ σ.2.1 + 1 := fun r hr => by have := (h.2.2.2.2.1 r hr).2; omega
  have h6 := h.2.2.2.2.2.1
  obtain ⟨g1, g2, g3, g4, g5, g6, g7, g8, ⟨n2, F3, g9, g10⟩, g11⟩ := h1
  refine ⟨σ1, (ag_up σ1.1 B (ag_hob B (ag_uf L 6 (σ.2.1 + 1)) dr qu mi), σ1.2), e1, fun K => ?_, ag_hf_le (ag_hf_trans (ag_hf_fr f1 h6.2) (ag_hf_up σ1 _ (Or.inl rfl))) (by omega) (by omega), ?_⟩
  · unfold ag_pf
    rw [g1]
    show ((6 = 6 ∧ 7 < 14 ∧ 1 ≤ B) ∧ K (ag_up σ1.1 B (Sum.inr (Sum.inr (Sum.inr (6, _)))), σ1.2)) = _
    have eo : ag_hob B (ag_uf L 6 (σ.2.1 + 1)) dr qu mi = Sum.inr (Sum.inr (Sum.inr (6, ([ag_R (B + 1), ag_R 0, ag_I dr, ag_R (L 1), ag_R (L 2), ag_R (L 3), ag_R (L 4), ag_R (L 6), ag_R (L 7), ag_R (L 8), ag_I qu, ag_I mi, ag_R (L 5), ag_R (L 9)] : List ag_V).set 7 (ag_R (σ.2.1 + 1))))) := by
      unfold ag_hob
      rw [ag_uf_ne (show 1 ≠ 6 by decide), ag_uf_ne (show 2 ≠ 6 by decide), ag_uf_ne (show 3 ≠ 6 by decide), ag_uf_ne (show 4 ≠ 6 by decide), ag_uf_ne (show 5 ≠ 6 by decide), ag_uf_at, ag_uf_ne (show 7 ≠ 6 by decide), ag_uf_ne (show 8 ≠ 6 by decide), ag_uf_ne (show 9 ≠ 6 by decide)]
      rfl
    rw [eo]
    exact propext ⟨fun z => z.2, fun z => ⟨⟨rfl, by decide, h6.1⟩, z⟩⟩
  · refine ⟨ag_up_a9 _ _ _, fun r9 r1 r2 => ?_, fun r9 hr => ?_, fun r9 r8 hr hr' e9 => ?_, fun r9 hr => ?_, g6, fun r9 i => ?_, fun r9 r1 r2 => ?_, ⟨n2, F3, g9, (ag_up_ne (by omega)).trans g10⟩, g11⟩
    · obtain ⟨F4, c, d⟩ := g2 r9 r1 r2
      rw [ag_uf_ne (show r9 ≠ 6 by omega), ag_uf_ne (show r9 ≠ 6 by omega)]
      refine ⟨F4, (ag_up_ne (by have := (g5 r9 (Or.inl ⟨r1, r2⟩)).1; omega)).trans c, fun i hi => ?_⟩
      rw [ag_uf_ne (show 100 * r9 + i ≠ 6 by omega)]
      exact d i hi
    · have hr0 := (ag_hlv_uf (show 6 ≤ 6 by decide)).mp hr
      by_cases e9 : r9 = 6
      · subst e9
        rw [ag_uf_at, ag_uf_at, ag_ug_same]
        exact (ag_up_ne (by omega)).trans hat
      · rw [ag_uf_ne e9, ag_uf_ne e9, ag_ug_ne _ _ e9]
        exact (ag_up_ne (by have := (g5 r9 (Or.inr hr0)).1; omega)).trans (g3 r9 hr0)
    · have a1 := (ag_hlw_uf (show 6 ≤ 6 by decide)).mp hr
      have b1 := (ag_hlw_uf (show 6 ≤ 6 by decide)).mp hr'
      by_cases u1 : r9 = 6 <;> by_cases u2 : r8 = 6
      · omega
      · rw [u1, ag_uf_at, ag_uf_ne u2] at e9
        exact absurd e9.symm (qn r8 b1)
      · rw [u2, ag_uf_at, ag_uf_ne u1] at e9
        exact absurd e9 (qn r9 a1)
      · rw [ag_uf_ne u1, ag_uf_ne u2] at e9
        exact g4 r9 r8 a1 b1 e9
    · have a1 := (ag_hlw_uf (show 6 ≤ 6 by decide)).mp hr
      by_cases u1 : r9 = 6
      · rw [u1, ag_uf_at]
        exact ⟨by omega, by show σ.2.1 + 1 ≤ σ1.2.1; omega⟩
      · rw [ag_uf_ne u1]
        exact g5 r9 a1
    · by_cases e9 : r9 = 6
      · rw [e9, ag_ug_same]
        exact hsm i
      · rw [ag_ug_ne _ _ e9]
        exact g7 r9 i
    · rw [ag_uf_ne (by omega)]
      exact g8 r9 r1 r2
/-- the row of role 7 is replaced by one that is longer: .. = plus(.., ..length, x) -/
theorem ag_h_rep7 (h : ag_HS B σ L ln g dr qu mi) {x : Int} (x1 : -100000 ≤ x) (x2 : x ≤ 100000) (hl : ln 7 ≤ 99) :
    ∃ σ1 σ' : ag_S, (∀ K : ag_Rs → ag_S → Prop, ag_cl9 97 [ag_R (L 7), ag_I (ln 7 : Int), ag_I x] σ K = K (Sum.inl (some (ag_R (σ.2.1 + 1)))) σ1) ∧ (∀ K : ag_S → Prop, ag_pf σ1 B 6 8 (ag_R (σ.2.1 + 1)) K = K σ') ∧ ag_hf B σ σ' 1 100 ∧ ag_HS B σ' (ag_uf L 7 (σ.2.1 + 1)) (ag_uf ln 7 (ln 7 + 1)) (ag_ug g 7 (ag_pls (g 7) (ln 7) (ln 7) x)) dr qu mi := by
  have hlv : ag_hlv ln 7 := Or.inl (by decide)
  have hL := h.2.2.2.2.1 _ (Or.inr hlv)
  have e1 := fun K => ag_h_plus (h.2.2.1 _ hlv) (show 1 ≤ L 7 by omega) hL.2 (by omega) (Nat.le_refl (ln 7)) x K
  have f1 := ag_fr_n9 σ (Sum.inl (ln 7 + 1, ag_pls (g 7) (ln 7) (ln 7) x)) (ln 7 + 1)
  have hat := ag_n9_at σ (Sum.inl (ln 7 + 1, ag_pls (g 7) (ln 7) (ln 7) x)) (ln 7 + 1)
  have hsm := ag_pls_sm (h.2.2.2.2.2.2.1 7) x1 x2 (ln 7) (ln 7)
  have h1 := ag_HS_fr h f1
  generalize hσ1 : ag_n9 σ (Sum.inl (ln 7 + 1, ag_pls (g 7) (ln 7) (ln 7) x)) (ln 7 + 1) = σ1 at e1 f1 h1 hat
  have hs1 : σ1.2.1 = σ.2.1 + 1 := by rw [← hσ1]; rfl
  have qn : ∀ r, ag_hlw ln r → L r ≠ σ.2.1 + 1 := fun r hr => by have := (h.2.2.2.2.1 r hr).2; omega
  have h6 := h.2.2.2.2.2.1
  obtain ⟨g1, g2, g3, g4, g5, g6, g7, g8, ⟨n2, F3, g9, g10⟩, g11⟩ := h1
  refine ⟨σ1, (ag_up σ1.1 B (ag_hob B (ag_uf L 7 (σ.2.1 + 1)) dr qu mi), σ1.2), e1, fun K => ?_, ag_hf_le (ag_hf_trans (ag_hf_fr f1 h6.2) (ag_hf_up σ1 _ (Or.inl rfl))) (by omega) (by omega), ?_⟩
  · unfold ag_pf
    rw [g1]
    show ((6 = 6 ∧ 8 < 14 ∧ 1 ≤ B) ∧ K (ag_up σ1.1 B (Sum.inr (Sum.inr (Sum.inr (6, _)))), σ1.2)) = _
    have eo : ag_hob B (ag_uf L 7 (σ.2.1 + 1)) dr qu mi = Sum.inr (Sum.inr (Sum.inr (6, ([ag_R (B + 1), ag_R 0, ag_I dr, ag_R (L 1), ag_R (L 2), ag_R (L 3), ag_R (L 4), ag_R (L 6), ag_R (L 7), ag_R (L 8), ag_I qu, ag_I mi, ag_R (L 5), ag_R (L 9)] : List ag_V).set 8 (ag_R (σ.2.1 + 1))))) := by
      unfold ag_hob
      rw [ag_uf_ne (show 1 ≠ 7 by decide), ag_uf_ne (show 2 ≠ 7 by decide), ag_uf_ne (show 3 ≠ 7 by decide), ag_uf_ne (show 4 ≠ 7 by decide), ag_uf_ne (show 5 ≠ 7 by decide), ag_uf_ne (show 6 ≠ 7 by decide), ag_uf_at, ag_uf_ne (show 8 ≠ 7 by decide), ag_uf_ne (show 9 ≠ 7 by decide)]
      rfl
    rw [eo]
    exact propext ⟨fun z => z.2, fun z => ⟨⟨rfl, by decide, h6.1⟩, z⟩⟩
  · refine ⟨ag_up_a9 _ _ _, fun r9 r1 r2 => ?_, fun r9 hr => ?_, fun r9 r8 hr hr' e9 => ?_, fun r9 hr => ?_, g6, fun r9 i => ?_, fun r9 r1 r2 => ?_, ⟨n2, F3, g9, (ag_up_ne (by omega)).trans g10⟩, g11⟩
    · obtain ⟨F4, c, d⟩ := g2 r9 r1 r2
      rw [ag_uf_ne (show r9 ≠ 7 by omega), ag_uf_ne (show r9 ≠ 7 by omega)]
      refine ⟨F4, (ag_up_ne (by have := (g5 r9 (Or.inl ⟨r1, r2⟩)).1; omega)).trans c, fun i hi => ?_⟩
      rw [ag_uf_ne (show 100 * r9 + i ≠ 7 by omega)]
      exact d i hi
    · have hr0 := (ag_hlv_uf (show 6 ≤ 7 by decide)).mp hr
      by_cases e9 : r9 = 7
      · subst e9
        rw [ag_uf_at, ag_uf_at, ag_ug_same]
        exact (ag_up_ne (by omega)).trans hat
      · rw [ag_uf_ne e9, ag_uf_ne e9, ag_ug_ne _ _ e9]
        exact (ag_up_ne (by have := (g5 r9 (Or.inr hr0)).1; omega)).trans (g3 r9 hr0)
    · have a1 := (ag_hlw_uf (show 6 ≤ 7 by decide)).mp hr
      have b1 := (ag_hlw_uf (show 6 ≤ 7 by decide)).mp hr'
      by_cases u1 : r9 = 7 <;> by_cases u2 : r8 = 7
      · omega
      · rw [u1, ag_uf_at, ag_uf_ne u2] at e9
        exact absurd e9.symm (qn r8 b1)
      · rw [u2, ag_uf_at, ag_uf_ne u1] at e9
        exact absurd e9 (qn r9 a1)
      · rw [ag_uf_ne u1, ag_uf_ne u2] at e9
        exact g4 r9 r8 a1 b1 e9
    · have a1 := (ag_hlw_uf (show 6 ≤ 7 by decide)).mp hr
      by_cases u1 : r9 = 7
      · rw [u1, ag_uf_at]
        exact ⟨by omega, by show σ.2.1 + 1 ≤ σ1.2.1; omega⟩
      · rw [ag_uf_ne u1]
        exact g5 r9 a1
    · by_cases e9 : r9 = 7
      · rw [e9, ag_ug_same]
        exact hsm i
      · rw [ag_ug_ne _ _ e9]
        exact g7 r9 i
    · rw [ag_uf_ne (by omega)]
      exact g8 r9 r1 r2
/-- the row of role 8 is replaced by one that is longer: .. = plus(.., ..length, x) -/
theorem ag_h_rep8 (h : ag_HS B σ L ln g dr qu mi) {x : Int} (x1 : -100000 ≤ x) (x2 : x ≤ 100000) (hl : ln 8 ≤ 99) :
    ∃ σ1 σ' : ag_S, (∀ K : ag_Rs → ag_S → Prop, ag_cl9 97 [ag_R (L 8), ag_I (ln 8 : Int), ag_I x] σ K = K (Sum.inl (some (ag_R (σ.2.1 + 1)))) σ1) ∧ (∀ K : ag_S → Prop, ag_pf σ1 B 6 9 (ag_R (σ.2.1 + 1)) K = K σ') ∧ ag_hf B σ σ' 1 100 ∧ ag_HS B σ' (ag_uf L 8 (σ.2.1 + 1)) (ag_uf ln 8 (ln 8 + 1)) (ag_ug g 8 (ag_pls (g 8) (ln 8) (ln 8) x)) dr qu mi := by
  have hlv : ag_hlv ln 8 := Or.inl (by decide)
  have hL := h.2.2.2.2.1 _ (Or.inr hlv)
  have e1 := fun K => ag_h_plus (h.2.2.1 _ hlv) (show 1 ≤ L 8 by omega) hL.2 (by omega) (Nat.le_refl (ln 8)) x K
  have f1 := ag_fr_n9 σ (Sum.inl (ln 8 + 1, ag_pls (g 8) (ln 8) (ln 8) x)) (ln 8 + 1)
  have hat := ag_n9_at σ (Sum.inl (ln 8 + 1, ag_pls (g 8) (ln 8) (ln 8) x)) (ln 8 + 1)
  have hsm := ag_pls_sm (h.2.2.2.2.2.2.1 8) x1 x2 (ln 8) (ln 8)
  have h1 := ag_HS_fr h f1
  generalize hσ1 : ag_n9 σ (Sum.inl (ln 8 + 1, ag_pls (g 8) (ln 8) (ln 8) x)) (ln 8 + 1) = σ1 at e1 f1 h1 hat
  have hs1 : σ1.2.1 = σ.2.1 + 1 := by rw [← hσ1]; rfl
  have qn : ∀ r, ag_hlw ln r → L r ≠ σ.2.1 + 1 := fun r hr => by have := (h.2.2.2.2.1 r hr).2; omega
  have h6 := h.2.2.2.2.2.1
  obtain ⟨g1, g2, g3, g4, g5, g6, g7, g8, ⟨n2, F3, g9, g10⟩, g11⟩ := h1
  refine ⟨σ1, (ag_up σ1.1 B (ag_hob B (ag_uf L 8 (σ.2.1 + 1)) dr qu mi), σ1.2), e1, fun K => ?_, ag_hf_le (ag_hf_trans (ag_hf_fr f1 h6.2) (ag_hf_up σ1 _ (Or.inl rfl))) (by omega) (by omega), ?_⟩
  · unfold ag_pf
    rw [g1]
    show ((6 = 6 ∧ 9 < 14 ∧ 1 ≤ B) ∧ K (ag_up σ1.1 B (Sum.inr (Sum.inr (Sum.inr (6, _)))), σ1.2)) = _
    have eo : ag_hob B (ag_uf L 8 (σ.2.1 + 1)) dr qu mi = Sum.inr (Sum.inr (Sum.inr (6, ([ag_R (B + 1), ag_R 0, ag_I dr, ag_R (L 1), ag_R (L 2), ag_R (L 3), ag_R (L 4), ag_R (L 6), ag_R (L 7), ag_R (L 8), ag_I qu, ag_I mi, ag_R (L 5), ag_R (L 9)] : List ag_V).set 9 (ag_R (σ.2.1 + 1))))) := by
      unfold ag_hob
      rw [ag_uf_ne (show 1 ≠ 8 by decide), ag_uf_ne (show 2 ≠ 8 by decide), ag_uf_ne (show 3 ≠ 8 by decide), ag_uf_ne (show 4 ≠ 8 by decide), ag_uf_ne (show 5 ≠ 8 by decide), ag_uf_ne (show 6 ≠ 8 by decide), ag_uf_ne (show 7 ≠ 8 by decide), ag_uf_at, ag_uf_ne (show 9 ≠ 8 by decide)]
      rfl
    rw [eo]
    exact propext ⟨fun z => z.2, fun z => ⟨⟨rfl, by decide, h6.1⟩, z⟩⟩
  · refine ⟨ag_up_a9 _ _ _, fun r9 r1 r2 => ?_, fun r9 hr => ?_, fun r9 r8 hr hr' e9 => ?_, fun r9 hr => ?_, g6, fun r9 i => ?_, fun r9 r1 r2 => ?_, ⟨n2, F3, g9, (ag_up_ne (by omega)).trans g10⟩, g11⟩
    · obtain ⟨F4, c, d⟩ := g2 r9 r1 r2
      rw [ag_uf_ne (show r9 ≠ 8 by omega), ag_uf_ne (show r9 ≠ 8 by omega)]
      refine ⟨F4, (ag_up_ne (by have := (g5 r9 (Or.inl ⟨r1, r2⟩)).1; omega)).trans c, fun i hi => ?_⟩
      rw [ag_uf_ne (show 100 * r9 + i ≠ 8 by omega)]
      exact d i hi
    · have hr0 := (ag_hlv_uf (show 6 ≤ 8 by decide)).mp hr
      by_cases e9 : r9 = 8
      · subst e9
        rw [ag_uf_at, ag_uf_at, ag_ug_same]
        exact (ag_up_ne (by omega)).trans hat
      · rw [ag_uf_ne e9, ag_uf_ne e9, ag_ug_ne _ _ e9]
        exact (ag_up_ne (by have := (g5 r9 (Or.inr hr0)).1; omega)).trans (g3 r9 hr0)
    · have a1 := (ag_hlw_uf (show 6 ≤ 8 by decide)).mp hr
      have b1 := (ag_hlw_uf (show 6 ≤ 8 by decide)).mp hr'
      by_cases u1 : r9 = 8 <;> by_cases u2 : r8 = 8
      · omega
      · rw [u1, ag_uf_at, ag_uf_ne u2] at e9
        exact absurd e9.symm (qn r8 b1)
      · rw [u2, ag_uf_at, ag_uf_ne u1] at e9
        exact absurd e9 (qn r9 a1)
      · rw [ag_uf_ne u1, ag_uf_ne u2] at e9
        exact g4 r9 r8 a1 b1 e9
    · have a1 := (ag_hlw_uf (show 6 ≤ 8 by decide)).mp hr
      by_cases u1 : r9 = 8
      · rw [u1, ag_uf_at]
        exact ⟨by omega, by show σ.2.1 + 1 ≤ σ1.2.1; omega⟩
      · rw [ag_uf_ne u1]
        exact g5 r9 a1
    · by_cases e9 : r9 = 8
      · rw [e9, ag_ug_same]
        exact hsm i
      · rw [ag_ug_ne _ _ e9]
        exact g7 r9 i
    · rw [ag_uf_ne (by omega)]
      exact g8 r9 r1 r2
end AGH2
