/-! THE LAW's HOUSE in a store: at B, its office at B + 1; L: where its rows are, by roles (1 clauses, 2 kids, 3 amendments, 4 votes, 5 petitions: rows of rows, their rows at 100 times that and on; 6 seats, 7 shares, 8 spoke); ln, g: how long these are, and what is in them. -/
variable {B : Nat}
/-- the rows of numbers -/
def ag_hlv (ln : Nat → Nat) (r : Nat) : Prop := (6 ≤ r ∧ r ≤ 8) ∨ (100 ≤ r ∧ r < 100 + ln 1) ∨ (200 ≤ r ∧ r < 200 + ln 2) ∨ (300 ≤ r ∧ r < 300 + ln 3) ∨ (400 ≤ r ∧ r < 400 + ln 4) ∨ (500 ≤ r ∧ r < 500 + ln 5)
/-- all rows -/
def ag_hlw (ln : Nat → Nat) (r : Nat) : Prop := (1 ≤ r ∧ r ≤ 5) ∨ ag_hlv ln r
def ag_hob (B : Nat) (L : Nat → Nat) (dr qu mi : Int) : ag_C := Sum.inr (Sum.inr (Sum.inr (6, [ag_R (B + 1), ag_R 0, ag_I dr, ag_R (L 1), ag_R (L 2), ag_R (L 3), ag_R (L 4), ag_R (L 6), ag_R (L 7), ag_R (L 8), ag_I qu, ag_I mi, ag_R (L 5), ag_R (L 9)])))
/-- the rows of rows hold what they should -/
def ag_qok (σ : ag_S) (L ln : Nat → Nat) : Prop := ∀ r, 1 ≤ r → r ≤ 5 → ∃ f, σ.1 (L r) = some (Sum.inr (Sum.inr (Sum.inl (ln r, f)))) ∧ ∀ i, i < ln r → f i = some (L (100 * r + i))
def ag_HS (B : Nat) (σ : ag_S) (L ln : Nat → Nat) (g : Nat → Nat → Int) (dr qu mi : Int) : Prop :=
  σ.1 B = some (ag_hob B L dr qu mi) ∧ ag_qok σ L ln ∧ (∀ r, ag_hlv ln r → σ.1 (L r) = some (Sum.inl (ln r, g r))) ∧ (∀ r r', ag_hlw ln r → ag_hlw ln r' → L r = L r' → r = r') ∧
  (∀ r, ag_hlw ln r → B + 44 < L r ∧ L r ≤ σ.2.1) ∧ (1 ≤ B ∧ B + 44 ≤ σ.2.1) ∧ (∀ r i, -100000 ≤ g r i ∧ g r i ≤ 100000) ∧ (∀ r, 1 ≤ r → r ≤ 5 → ln r ≤ 99) ∧ (∃ n f, n ≤ 1000 ∧ σ.1 0 = some (Sum.inl (n, f))) ∧ (0 ≤ dr ∧ dr ≤ 100000)
theorem ag_HS_fr {σ σ' : ag_S} {L ln : Nat → Nat} {g : Nat → Nat → Int} {dr qu mi : Int} {dc ds : Nat} (h : ag_HS B σ L ln g dr qu mi) (hf : ag_fr σ σ' dc ds) : ag_HS B σ' L ln g dr qu mi := by
  obtain ⟨h1, h2, h3, h4, h5, h6, h7, h8, ⟨n, f, h9, h10⟩, h11⟩ := h
  obtain ⟨f1, f2, -, -⟩ := hf
  refine ⟨(f1 _ (by omega)).trans h1, fun r r1 r2 => ?_, fun r hr => (f1 _ (h5 r (Or.inr hr)).2).trans (h3 r hr), h4, fun r hr => ⟨(h5 r hr).1, by have := (h5 r hr).2; omega⟩, ⟨h6.1, by omega⟩, h7, h8, ⟨n, f, h9, (f1 _ (by omega)).trans h10⟩, h11⟩
  obtain ⟨f, a, b⟩ := h2 r r1 r2
  exact ⟨f, (f1 _ (h5 r (Or.inl ⟨r1, r2⟩)).2).trans a, b⟩
/-- the office's own writes leave the House as it is -/
theorem ag_HS_Fr {σ σ' : ag_S} {L ln : Nat → Nat} {g : Nat → Nat → Int} {dr qu mi : Int} (h : ag_HS B σ L ln g dr qu mi) (hf : ag_Fr B σ σ') (hs : σ.2.1 ≤ σ'.2.1) : ag_HS B σ' L ln g dr qu mi := by
  obtain ⟨h1, h2, h3, h4, h5, h6, h7, h8, ⟨n, f, h9, h10⟩, h11⟩ := h
  refine ⟨(hf _ (Or.inl (Nat.le_refl _))).trans h1, fun r r1 r2 => ?_, fun r hr => (hf _ (Or.inr (h5 r (Or.inr hr)).1)).trans (h3 r hr), h4, fun r hr => ⟨(h5 r hr).1, by have := (h5 r hr).2; omega⟩, ⟨h6.1, by omega⟩, h7, h8, ⟨n, f, h9, (hf _ (Or.inl (by omega))).trans h10⟩, h11⟩
  obtain ⟨f, a, b⟩ := h2 r r1 r2
  exact ⟨f, (hf _ (Or.inr (h5 r (Or.inl ⟨r1, r2⟩)).1)).trans a, b⟩
section AGHS
variable {σ : ag_S} {L ln : Nat → Nat} {g : Nat → Nat → Int} {dr qu mi : Int}
theorem ag_h_g0 (h : ag_HS B σ L ln g dr qu mi) (K : ag_V → Prop) : ag_gf σ B 6 0 K = K (ag_R (B + 1)) := ag_gf_at h.1 rfl K
theorem ag_h_g1 (h : ag_HS B σ L ln g dr qu mi) (K : ag_V → Prop) : ag_gf σ B 6 1 K = K (ag_R 0) := ag_gf_at h.1 rfl K
theorem ag_h_g2 (h : ag_HS B σ L ln g dr qu mi) (K : ag_V → Prop) : ag_gf σ B 6 2 K = K (ag_I dr) := ag_gf_at h.1 rfl K
theorem ag_h_g3 (h : ag_HS B σ L ln g dr qu mi) (K : ag_V → Prop) : ag_gf σ B 6 3 K = K (ag_R (L 1)) := ag_gf_at h.1 rfl K
theorem ag_h_g4 (h : ag_HS B σ L ln g dr qu mi) (K : ag_V → Prop) : ag_gf σ B 6 4 K = K (ag_R (L 2)) := ag_gf_at h.1 rfl K
theorem ag_h_g5 (h : ag_HS B σ L ln g dr qu mi) (K : ag_V → Prop) : ag_gf σ B 6 5 K = K (ag_R (L 3)) := ag_gf_at h.1 rfl K
theorem ag_h_g6 (h : ag_HS B σ L ln g dr qu mi) (K : ag_V → Prop) : ag_gf σ B 6 6 K = K (ag_R (L 4)) := ag_gf_at h.1 rfl K
theorem ag_h_g7 (h : ag_HS B σ L ln g dr qu mi) (K : ag_V → Prop) : ag_gf σ B 6 7 K = K (ag_R (L 6)) := ag_gf_at h.1 rfl K
theorem ag_h_g8 (h : ag_HS B σ L ln g dr qu mi) (K : ag_V → Prop) : ag_gf σ B 6 8 K = K (ag_R (L 7)) := ag_gf_at h.1 rfl K
theorem ag_h_g9 (h : ag_HS B σ L ln g dr qu mi) (K : ag_V → Prop) : ag_gf σ B 6 9 K = K (ag_R (L 8)) := ag_gf_at h.1 rfl K
theorem ag_h_g10 (h : ag_HS B σ L ln g dr qu mi) (K : ag_V → Prop) : ag_gf σ B 6 10 K = K (ag_I qu) := ag_gf_at h.1 rfl K
theorem ag_h_g11 (h : ag_HS B σ L ln g dr qu mi) (K : ag_V → Prop) : ag_gf σ B 6 11 K = K (ag_I mi) := ag_gf_at h.1 rfl K
theorem ag_h_g12 (h : ag_HS B σ L ln g dr qu mi) (K : ag_V → Prop) : ag_gf σ B 6 12 K = K (ag_R (L 5)) := ag_gf_at h.1 rfl K
theorem ag_h_ck (h : ag_HS B σ L ln g dr qu mi) (P : Prop) : ag_ck σ B 6 P = P := ag_ck_at h.1 P
theorem ag_h_nm (h : ag_HS B σ L ln g dr qu mi) (r i : Nat) : ag_nm (g r i) = g r i := ag_nm_of (by have := (h.2.2.2.2.2.2.1 r i).1; omega) (by have := (h.2.2.2.2.2.2.1 r i).2; omega)
theorem ag_h_al (h : ag_HS B σ L ln g dr qu mi) {r : Nat} (r1 : 1 ≤ r) (r2 : r ≤ 5) (K : Int → Prop) : ag_al9 σ (L r) K = K (ln r) := by
  obtain ⟨f, a, -⟩ := h.2.1 r r1 r2
  exact ag_alq_at a K
theorem ag_h_a1 (h : ag_HS B σ L ln g dr qu mi) (K : Int → Prop) : ag_al9 σ (L 1) K = K (ln 1) := ag_h_al h (by decide) (by decide) K
theorem ag_h_a3 (h : ag_HS B σ L ln g dr qu mi) (K : Int → Prop) : ag_al9 σ (L 3) K = K (ln 3) := ag_h_al h (by decide) (by decide) K
theorem ag_h_a5 (h : ag_HS B σ L ln g dr qu mi) (K : Int → Prop) : ag_al9 σ (L 5) K = K (ln 5) := ag_h_al h (by decide) (by decide) K
theorem ag_h_a6 (h : ag_HS B σ L ln g dr qu mi) (K : Int → Prop) : ag_al9 σ (L 6) K = K (ln 6) := ag_al_at (h.2.2.1 6 (Or.inl (by decide))) K
theorem ag_h_a7 (h : ag_HS B σ L ln g dr qu mi) (K : Int → Prop) : ag_al9 σ (L 7) K = K (ln 7) := ag_al_at (h.2.2.1 7 (Or.inl (by decide))) K
theorem ag_h_a8 (h : ag_HS B σ L ln g dr qu mi) (K : Int → Prop) : ag_al9 σ (L 8) K = K (ln 8) := ag_al_at (h.2.2.1 8 (Or.inl (by decide))) K
/-- a row of a row of rows -/
theorem ag_h_qa (h : ag_HS B σ L ln g dr qu mi) {r k : Nat} (r1 : 1 ≤ r) (r2 : r ≤ 5) (hk : k < ln r) {x : Int} (hx : x = k) (K : Nat → Prop) : ag_qa σ (L r) x K = K (L (100 * r + k)) := by
  obtain ⟨f, a, b⟩ := h.2.1 r r1 r2
  have hl := h.2.2.2.2.2.2.2.1 r r1 r2
  subst hx
  unfold ag_qa
  rw [a]
  dsimp only
  rw [ag_nm_nat (by omega), Int.toNat_natCast, b k hk]
  simp only [show (0 ≤ (k : Int) ∧ (k : Int) < ln r) = True from by simp; omega, true_and]
theorem ag_h_ia (h : ag_HS B σ L ln g dr qu mi) {r k : Nat} (hr : ag_hlv ln r) (hk : k < ln r) (hl : ln r ≤ 1000) {x : Int} (hx : x = k) (K : Int → Prop) : ag_ia σ (L r) x K = K (g r k) := by
  subst hx
  exact ag_ia_at (h.2.2.1 r hr) hk (by omega) K
theorem ag_h_lal (h : ag_HS B σ L ln g dr qu mi) {r : Nat} (hr : ag_hlv ln r) (K : Int → Prop) : ag_al9 σ (L r) K = K (ln r) := ag_al_at (h.2.2.1 r hr) K
/-- a number of a row is written -/
theorem ag_h_is (h : ag_HS B σ L ln g dr qu mi) {r k : Nat} (hr : ag_hlv ln r) (hk : k < ln r) (hl : ln r ≤ 1000) {x : Int} (hx : x = k) (v : Int) (K : ag_S → Prop) : ag_is σ (L r) x v K = K (ag_up σ.1 (L r) (Sum.inl (ln r, ag_ui (g r) k v)), σ.2) := by
  subst hx
  exact ag_is_at (h.2.2.1 r hr) (by have := (h.2.2.2.2.1 r (Or.inr hr)).1; omega) hk (by omega) v K
theorem ag_HS_is (h : ag_HS B σ L ln g dr qu mi) {r : Nat} (hr : ag_hlv ln r) (k : Nat) {v : Int} (v1 : -100000 ≤ v) (v2 : v ≤ 100000) : ag_HS B (ag_up σ.1 (L r) (Sum.inl (ln r, ag_ui (g r) k v)), σ.2) L ln (ag_ug g r (ag_ui (g r) k v)) dr qu mi := by
  obtain ⟨h1, h2, h3, h4, h5, h6, h7, h8, ⟨n, f, h9, h10⟩, h11⟩ := h
  have hL := (h5 r (Or.inr hr)).1
  refine ⟨(ag_up_ne (by omega)).trans h1, fun r' r1 r2 => ?_, fun r' hr' => ?_, h4, h5, h6, fun r' i => ?_, h8, ⟨n, f, h9, (ag_up_ne (by omega)).trans h10⟩, h11⟩
  · obtain ⟨f, a, b⟩ := h2 r' r1 r2
    refine ⟨f, (ag_up_ne (fun e => ?_)).trans a, b⟩
    have h9 := h4 r' r (Or.inl ⟨r1, r2⟩) (Or.inr hr) e
    have hr9 : 6 ≤ r := by unfold ag_hlv at hr; omega
    omega
  · by_cases e : r' = r
    · subst e
      rw [ag_ug_same]
      exact ag_up_a9 _ _ _
    · rw [ag_ug_ne _ _ e]
      exact (ag_up_ne (fun q => e (h4 r' r (Or.inr hr') (Or.inr hr) q))).trans (h3 r' hr')
  · by_cases e : r' = r
    · subst e
      rw [ag_ug_same]
      unfold ag_ui
      split
      · exact ⟨v1, v2⟩
      · exact h7 _ _
    · rw [ag_ug_ne _ _ e]
      exact h7 _ _
/-- a number of the object itself -/
theorem ag_h_p2 (h : ag_HS B σ L ln g dr qu mi) (x : Int) (K : ag_S → Prop) : ag_pf σ B 6 2 (ag_I x) K = K (ag_up σ.1 B (ag_hob B L x qu mi), σ.2) := by
  unfold ag_pf
  rw [h.1]
  show ((6 = 6 ∧ 2 < 14 ∧ 1 ≤ B) ∧ K (ag_up σ.1 B (ag_hob B L x qu mi), σ.2)) = _
  exact propext ⟨fun q => q.2, fun q => ⟨⟨rfl, by decide, h.2.2.2.2.2.1.1⟩, q⟩⟩
theorem ag_h_p11 (h : ag_HS B σ L ln g dr qu mi) (x : Int) (K : ag_S → Prop) : ag_pf σ B 6 11 (ag_I x) K = K (ag_up σ.1 B (ag_hob B L dr qu x), σ.2) := by
  unfold ag_pf
  rw [h.1]
  show ((6 = 6 ∧ 11 < 14 ∧ 1 ≤ B) ∧ K (ag_up σ.1 B (ag_hob B L dr qu x), σ.2)) = _
  exact propext ⟨fun q => q.2, fun q => ⟨⟨rfl, by decide, h.2.2.2.2.2.1.1⟩, q⟩⟩
theorem ag_HS_ob (h : ag_HS B σ L ln g dr qu mi) {dr' mi' : Int} (d0 : 0 ≤ dr') (d1 : dr' ≤ 100000) : ag_HS B (ag_up σ.1 B (ag_hob B L dr' qu mi'), σ.2) L ln g dr' qu mi' := by
  obtain ⟨h1, h2, h3, h4, h5, h6, h7, h8, ⟨n, f, h9, h10⟩, h11⟩ := h
  refine ⟨ag_up_a9 _ _ _, fun r' r1 r2 => ?_, fun r' hr' => (ag_up_ne (by have := (h5 r' (Or.inr hr')).1; omega)).trans (h3 r' hr'), h4, h5, h6, h7, h8, ⟨n, f, h9, (ag_up_ne (by omega)).trans h10⟩, d0, d1⟩
  obtain ⟨f, a, b⟩ := h2 r' r1 r2
  exact ⟨f, (ag_up_ne (by have := (h5 r' (Or.inl ⟨r1, r2⟩)).1; omega)).trans a, b⟩
end AGHS
