/-! THE HOUSE AND THE OFFICE TOGETHER: what an act keeps; draws; a petition. -/
variable {B : Nat}
theorem ag_TC_eq {gb : Nat → Nat → Int} {w n : Nat} {ln ln' : Nat → Nat} {g g' : Nat → Nat → Int} (hw : w ≤ 40) (h : ∀ r, r = 1 ∨ r = 2 ∨ (100 ≤ r ∧ r < 141) ∨ (200 ≤ r ∧ r < 241) → ln' r = ln r ∧ g' r = g r) (t : ag_TC gb w n ln g) : ag_TC gb w n ln' g' := by
  refine ⟨(h 1 (by omega)).1.trans t.1, (h 2 (by omega)).1.trans t.2.1, fun c hc => ?_, ag_kdo_cg (fun k hk => ag_kds_cg (h _ (by omega))) t.2.2.2⟩
  obtain ⟨e1, e2⟩ := h (100 + c) (by omega)
  rw [e1, e2]
  exact t.2.2.1 c hc
theorem ag_TA_eq {gp : Nat → Nat → Int} {m : Nat} {ln ln' : Nat → Nat} {g g' : Nat → Nat → Int} (hm : m ≤ 99) (h : ∀ r, r = 3 ∨ (300 ≤ r ∧ r < 400) → ln' r = ln r ∧ g' r = g r) (t : ag_TA gp m ln g) : ag_TA gp m ln' g' := by
  refine ⟨(h 3 (by omega)).1.trans t.1, fun b hb => ?_⟩
  obtain ⟨e1, e2⟩ := h (300 + b) (by omega)
  rw [e1, e2]
  exact t.2 b hb
theorem ag_TV_eq {gh : Nat → Nat → Int} {m : Nat} {ln ln' : Nat → Nat} {g g' : Nat → Nat → Int} (hm : m ≤ 99) (h : ∀ r, r = 4 ∨ (400 ≤ r ∧ r < 500) → ln' r = ln r ∧ g' r = g r) (t : ag_TV gh m ln g) : ag_TV gh m ln' g' := by
  refine ⟨(h 4 (by omega)).1.trans t.1, fun b hb => ?_⟩
  obtain ⟨e1, e2⟩ := h (400 + b) (by omega)
  rw [e1, e2]
  exact t.2 b hb
theorem ag_TP_eq {gq : Nat → Nat → Int} {nq : Nat} {ln ln' : Nat → Nat} {g g' : Nat → Nat → Int} (h : ∀ r, r = 5 ∨ 500 ≤ r → ln' r = ln r ∧ g' r = g r) (t : ag_TP gq nq ln g) : ag_TP gq nq ln' g' := by
  refine ⟨(h 5 (by omega)).1.trans t.1, fun b hb => ?_⟩
  obtain ⟨e1, e2⟩ := h (500 + b) (by omega)
  rw [e1, e2]
  exact t.2 b hb
theorem ag_TS_eq {gh : Nat → Nat → Int} {np : Nat} {ln ln' : Nat → Nat} {g g' : Nat → Nat → Int} (h : ∀ r, 6 ≤ r ∧ r ≤ 8 → ln' r = ln r ∧ g' r = g r) (t : ag_TS gh np ln g) : ag_TS gh np ln' g' := by
  obtain ⟨a1, a2⟩ := h 6 (by omega)
  obtain ⟨b1, b2⟩ := h 7 (by omega)
  obtain ⟨c1, c2⟩ := h 8 (by omega)
  refine ⟨a1.trans t.1, b1.trans t.2.1, c1.trans t.2.2.1, fun p hp => ?_⟩
  rw [a2, b2, c2]
  exact t.2.2.2 p hp
/-- what an act leaves, and what it costs -/
def ag_af (B : Nat) (σ σ' : ag_S) (dc ds : Nat) : Prop := (∀ z, z < B → σ'.1 z = σ.1 z) ∧ σ.2.1 ≤ σ'.2.1 ∧ σ'.2.1 ≤ σ.2.1 + dc ∧ σ'.2.2 ≤ σ.2.2 + ds
theorem ag_af_trans {σ σ' σ'' : ag_S} {a b c d : Nat} (h1 : ag_af B σ σ' a b) (h2 : ag_af B σ' σ'' c d) : ag_af B σ σ'' (a + c) (b + d) := by
  obtain ⟨a1, a2, a3, a4⟩ := h1
  obtain ⟨b1, b2, b3, b4⟩ := h2
  exact ⟨fun z hz => (b1 z hz).trans (a1 z hz), by omega, by omega, by omega⟩
theorem ag_af_le {σ σ' : ag_S} {a b c d : Nat} (h : ag_af B σ σ' a b) (h1 : a ≤ c) (h2 : b ≤ d) : ag_af B σ σ' c d := ⟨h.1, h.2.1, by have := h.2.2.1; omega, by have := h.2.2.2; omega⟩
theorem ag_af_hf {σ σ' : ag_S} {a b : Nat} (h : ag_hf B σ σ' a b) : ag_af B σ σ' a b := ⟨fun z hz => h.1 z (Or.inl hz), h.2⟩
theorem ag_af_Fr {σ σ' : ag_S} (h : ag_Fr B σ σ') (e : σ'.2 = σ.2) : ag_af B σ σ' 0 0 := ⟨fun z hz => h z (Or.inl (Nat.le_of_lt hz)), by rw [e]; exact Nat.le_refl _, by rw [e]; exact Nat.le_refl _, by rw [e]; exact Nat.le_refl _⟩
theorem ag_af_bp (σ : ag_S) : ag_af B σ (ag_bp σ) 1 6 := ⟨fun _ _ => rfl, Nat.le_succ _, Nat.le_refl _, Nat.le_refl _⟩
/-- a laid CHANGE's aim is laid -/
def ag_E3 (gp : Nat → Nat → Int) (m : Nat) : Prop := ∀ a : Nat, a < m → gp 3 a = 0 → gp 0 a = 5 → gp 3 (gp 1 a).toNat = 0
/-- by whom one is moot; what was made, and what came -/
def ag_E (S : ag_T) (m : Nat) : Prop :=
  (∀ b : Nat, b < m → (S.2.2.2 3 b = 3 ↔ 0 ≤ S.2.2.2 4 b) ∧ -1 ≤ S.2.2.2 4 b ∧ (0 ≤ S.2.2.2 4 b → S.2.2.2 4 b < m ∧ (S.2.2.2 4 b = b ∨ S.2.2.2 3 (S.2.2.2 4 b).toNat ≠ 0))) ∧
  (∀ b : Nat, b < m → S.2.2.2 5 b = -1 ∨ (0 ≤ S.2.2.2 5 b ∧ S.2.2.2 5 b < S.2.1 ∧ S.2.2.2 3 b = 1 ∧ (S.2.2.2 0 b = 3 ∨ S.2.2.2 0 b = 4) ∧ S.1 3 (S.2.2.2 5 b).toNat = b)) ∧
  (∀ c : Nat, c < S.2.1 → 0 ≤ S.1 3 c → S.2.2.2 5 (S.1 3 c).toNat = c) ∧ ag_E3 S.2.2.2 m
/-- of numbers alone -/
def ag_U (S : ag_T) (m : Nat) (gh : Nat → Nat → Int) (np : Nat) (qu mi : Int) (gq : Nat → Nat → Int) (nq k : Nat) : Prop :=
  ag_IV S m ∧ ag_HI gh np qu mi ∧ ag_QI gq S.1 S.2.1 nq ∧ ag_VT gh ∧ (∀ p b : Nat, p < 5 → m ≤ b → b < 20 → gh 3 (p * 20 + b) = 0) ∧ (∀ p, np ≤ p → gh 1 p = 0 ∧ gh 2 p = 0) ∧ ag_sp9 gh mi k ∧ ag_su (gh 1) np 0 ≤ 300 ∧ ag_E S m
theorem ag_U_k {S : ag_T} {m : Nat} {gh : Nat → Nat → Int} {np : Nat} {qu mi : Int} {gq : Nat → Nat → Int} {nq k : Nat} (h : ag_U S m gh np qu mi gq nq k) : ag_U S m gh np qu mi gq nq (k + 1) := by
  obtain ⟨h1, h2, h3, h4, h5, h6, h7, h8, h9⟩ := h
  exact ⟨h1, h2, h3, h4, h5, h6, ag_sp9_gh h7 rfl (Or.inl (Int.le_refl _)), h8, h9⟩
/-- the House and the office hold the same -/
def ag_M (B : Nat) (σ : ag_S) (dr qu mi : Int) (S : ag_T) (m : Nat) (gh : Nat → Nat → Int) (np : Nat) (gq : Nat → Nat → Int) (nq : Nat) : Prop :=
  ∃ L ln g T mt en, ag_HS B σ L ln g dr qu mi ∧ ag_CX B σ (gh, ag_vH np qu mi) (gq, ag_vP nq) S m T mt en ∧ ag_TI T ∧ ag_TC S.1 S.2.1 S.2.2.1 ln g ∧ ag_TA S.2.2.2 m ln g ∧ ag_TV gh m ln g ∧ ag_TP gq nq ln g ∧ ag_TS gh np ln g
section AGWD
variable {σ : ag_S} {L ln : Nat → Nat} {g : Nat → Nat → Int} {dr qu mi : Int} {gb gp gh gq : Nat → Nat → Int} {w n m np nq k : Nat} {S : ag_T} {H Q : ag_O} {T : ag_T} {mt : Nat} {en : Nat → Int}
theorem ag_HS_bp (h : ag_HS B σ L ln g dr qu mi) : ag_HS B (ag_bp σ) L ln g dr qu mi := ag_HS_Fr h (fun _ _ => rfl) (Nat.le_succ _)
theorem ag_HS_q (h : ag_HS B σ L ln g dr qu mi) {q : Nat} (hq : ag_hnew B σ L ln q) (c : ag_C) : ag_HS B (ag_up σ.1 q c, σ.2) L ln g dr qu mi := by
  obtain ⟨h1, h2, h3, h4, h5, h6, h7, h8, ⟨n, f, h9, h10⟩, h11⟩ := h
  obtain ⟨q1, q2, q3⟩ := hq
  refine ⟨(ag_up_ne (by omega)).trans h1, fun r' r1 r2 => ?_, fun r' hr' => (ag_up_ne (q3 r' (Or.inr hr'))).trans (h3 r' hr'), h4, h5, h6, h7, h8, ⟨n, f, h9, (ag_up_ne (by omega)).trans h10⟩, h11⟩
  obtain ⟨f, a, b⟩ := h2 r' r1 r2
  exact ⟨f, (ag_up_ne (q3 r' (Or.inl ⟨r1, r2⟩))).trans a, b⟩
theorem ag_w_draw (h : ag_HS B σ L ln g dr qu mi) (hd : dr < 100000) {z : Nat} (hk : 1 ≤ z) (hk2 : z ≤ 1000) : ∃ (v : Nat) (σ' : ag_S), v < z ∧ ag_HS B σ' L ln g (dr + 1) qu mi ∧ ag_hf B σ σ' 0 0 ∧ (∀ y, y ≠ B → σ'.1 y = σ.1 y) ∧ σ'.2 = σ.2 ∧ ∀ K : ag_Rs → ag_S → Prop, ag_cl9 96 [ag_R B, ag_I (z : Int)] σ K = K (Sum.inl (some (ag_I (v : Int)))) σ' := by
  obtain ⟨v, v1, v2⟩ := ag_h_draw h hk hk2
  have h11 := h.2.2.2.2.2.2.2.2.2
  exact ⟨v, _, v1, ag_HS_ob h (by omega) (by omega), ag_hf_up σ _ (Or.inl rfl), fun y hy => ag_up_ne hy, rfl, v2⟩
/-- a petition -/
theorem ag_a_petition (hM : ag_M B σ dr qu mi S m gh np gq nq) (hU : ag_U S m gh np qu mi gq nq k) (hw1 : 1 ≤ S.2.1) (hd : dr ≤ 90000) :
    ∃ σ' dr' gq' nq', ag_M B σ' dr' qu mi S m gh np gq' nq' ∧ ag_U S m gh np qu mi gq' nq' (k + 1) ∧ dr ≤ dr' ∧ dr' ≤ dr + 8 ∧ ag_af B σ σ' 1300 21000 ∧ ∀ K : ag_Rs → ag_S → Prop, ag_cl9 129 [ag_R B] σ K = K (Sum.inl (some (ag_I 1))) σ' := by
  obtain ⟨L, ln, g, T, mt, en, h, hX, hT, tc, ta, tv, tp, ts⟩ := hM
  obtain ⟨hV, hH, hQ, hv, hz, hp0, h9, hs3, hE⟩ := hU
  have hw40 : S.2.1 ≤ 40 := hV.1.1.2.2.2
  have hm : m ≤ 20 := hV.2.1.1.2.2
  have hnq : nq ≤ 12 := hQ.2.1
  obtain ⟨c, σ1, c1, h1, f1, o1, e1, d1⟩ := ag_w_draw h (by omega) hw1 (by omega)
  have hX1 := ag_hf_CX f1 hX
  have cn : ag_nm (c : Int) = c := ag_nm_nat (by omega)
  have start1 : S.1 5 c = -1 → ∀ K, ag_cl9 129 [ag_R B] σ K = K (Sum.inl (some (ag_I 1))) σ1 := fun z K => by
    simp only [ag_e129, ag_i129_0, ag_i129_1, ag_i129_2, ag_h_g3 h, ag_i129_5, ag_h_a1 h, tc.1, ag_i129_6, ag_h_ck h, d1, ag_kk_v, ag_kk_n, Nat.reduceAdd, ag_i129_9_n, ag_i129_9_i, ag_i129_9_r, ag_i129_10, ag_i129_11, ag_h_g3 h1, ag_i129_14, ag_i129_15, ag_c_q h1 tc c1 (x := (c : Int)) rfl, ag_i129_16, ag_i129_17, ag_c_i4 h1 tc c1, ag_i129_18, ag_i129_19, ag_nm_1]
    rw [if_pos z, if_pos ag_nm_1]
    simp only [ag_i129_32, ag_i129_33, ag_b0, ag_b1, true_and, or_true, true_or, Int.reduceEq, ne_eq, not_false_eq_true, not_true_eq_false, ↓reduceIte]
  have start2 : S.1 5 c ≠ -1 → ∀ K, ag_cl9 129 [ag_R B] σ K = if (nq : Int) ≠ 12 then ag_wp 129 34 [some (ag_R B), some (ag_I (c : Int)), none] [] σ1 K else K (Sum.inl (some (ag_I 1))) σ1 := fun z K => by
    simp only [ag_e129, ag_i129_0, ag_i129_1, ag_i129_2, ag_h_g3 h, ag_i129_5, ag_h_a1 h, tc.1, ag_i129_6, ag_h_ck h, d1, ag_kk_v, ag_kk_n, Nat.reduceAdd, ag_i129_9_n, ag_i129_9_i, ag_i129_9_r, ag_i129_10, ag_i129_11, ag_h_g3 h1, ag_i129_14, ag_i129_15, ag_c_q h1 tc c1 (x := (c : Int)) rfl, ag_i129_16, ag_i129_17, ag_c_i4 h1 tc c1, ag_i129_18, ag_i129_19, ag_nm_1]
    rw [if_neg z, if_neg (show ¬ ag_nm 0 = 1 by decide +kernel)]
    simp only [ag_i129_22, ag_i129_23, ag_h_g12 h1, ag_i129_26, ag_h_a5 h1, tp.1, ag_i129_27, ag_i129_29, ag_nmk_12, ag_nm_nat (show nq ≤ 1000000 by omega), ag_i129_32, ag_i129_33, ag_b0, ag_b1, true_and, or_true, true_or, Int.reduceEq, ne_eq, not_false_eq_true, not_true_eq_false, ↓reduceIte]
  by_cases z : S.1 5 c = -1 ∨ nq = 12
  · refine ⟨σ1, dr + 1, gq, nq, ⟨L, ln, g, T, mt, en, h1, hX1, hT, tc, ta, tv, tp, ts⟩, ag_U_k ⟨hV, hH, hQ, hv, hz, hp0, h9, hs3, hE⟩, by omega, by omega, ag_af_le (ag_af_hf f1) (by omega) (by omega), fun K => ?_⟩
    by_cases z1 : S.1 5 c = -1
    · rw [start1 z1 K]
    · rw [start2 z1 K, if_neg (by omega)]
  · have z1 : S.1 5 c ≠ -1 := fun y => z (Or.inl y)
    have z2 : nq < 12 := by omega
    have st34 : ∀ K, ag_cl9 129 [ag_R B] σ K = ag_wp 129 34 [some (ag_R B), some (ag_I (c : Int)), none] [] σ1 K := fun K => by
      rw [start2 z1 K, if_pos (by omega)]
    -- the new row
    have f2 := ag_fr_n9 σ1 (Sum.inl (2, ag_ui (fun _ => (0 : Int)) 0 c)) 2
    have h2 := ag_HS_fr h1 f2
    obtain ⟨v, σ3, v1, h3, f3, o3, e3, d3⟩ := ag_w_draw h2 (by omega) (show 1 ≤ 500 by decide) (by decide)
    have hq3 : σ3.1 (σ1.2.1 + 1) = some (Sum.inl (2, ag_ui (fun _ => (0 : Int)) 0 c)) := (o3 _ (by have := h1.2.2.2.2.2.1.2; omega)).trans (ag_n9_at _ _ _)
    have s3 : σ3.2.1 = σ1.2.1 + 1 := by rw [e3]; rfl
    have hnew3 : ag_hnew B σ3 L ln (σ1.2.1 + 1) := ag_HS_new h1 (by omega) (by omega) (by omega)
    have h4 := ag_HS_q h3 hnew3 (Sum.inl (2, ag_ui (ag_ui (fun _ => (0 : Int)) 0 c) 1 (1 + (v : Int))))
    have hf4 : ag_hf B σ3 (ag_up σ3.1 (σ1.2.1 + 1) (Sum.inl (2, ag_ui (ag_ui (fun _ => (0 : Int)) 0 c) 1 (1 + (v : Int)))), σ3.2) 0 0 := ag_hf_up σ3 _ (Or.inr hnew3.1)
    have is4 := fun K => ag_is_at (σ := σ3) (z := σ1.2.1 + 1) (n := 2) (k := 1) hq3 (by omega) (by decide) (by decide) (1 + (v : Int)) K
    have hq4 : (ag_up σ3.1 (σ1.2.1 + 1) (Sum.inl (2, ag_ui (ag_ui (fun _ => (0 : Int)) 0 c) 1 (1 + (v : Int)))) (σ1.2.1 + 1)) = some (Sum.inl (2, ag_ui (ag_ui (fun _ => (0 : Int)) 0 c) 1 (1 + (v : Int)))) := ag_up_a9 _ _ _
    generalize hσ4 : ((ag_up σ3.1 (σ1.2.1 + 1) (Sum.inl (2, ag_ui (ag_ui (fun _ => (0 : Int)) 0 c) 1 (1 + (v : Int)))), σ3.2) : ag_S) = σ4 at h4 hf4 is4
    have hq4 : σ4.1 (σ1.2.1 + 1) = some (Sum.inl (2, ag_ui (ag_ui (fun _ => (0 : Int)) 0 c) 1 (1 + (v : Int)))) := by rw [← hσ4]; exact hq4
    have s4 : σ4.2.1 = σ1.2.1 + 1 := by rw [← hσ4]; exact s3
    have hnew4 : ag_hnew B σ4 L ln (σ1.2.1 + 1) := ⟨hnew3.1, by omega, hnew3.2.2⟩
    have hF : ∀ i, -100000 ≤ ag_ui (ag_ui (fun _ => (0 : Int)) 0 c) 1 (1 + (v : Int)) i ∧ ag_ui (ag_ui (fun _ => (0 : Int)) 0 c) 1 (1 + (v : Int)) i ≤ 100000 := fun i => by
      unfold ag_ui
      repeat' split
      all_goals first
        | omega
        | (dsimp only; omega)
    obtain ⟨σ5, σ6, a1, a2, a3, a4⟩ := ag_h_add5 h4 hq4 hnew4 hF (by rw [tp.1]; omega)
    rw [tp.1, s4] at a4
    rw [s4] at a1 a2
    have l5 : ∀ r, r ≠ 5 → r ≠ 500 + nq → ag_uf (ag_uf ln 5 (nq + 1)) (500 + nq) 2 r = ln r := fun r r1 r2 => by rw [ag_uf_ne r2, ag_uf_ne r1]
    have g5 : ∀ r, r ≠ 500 + nq → ag_ug g (500 + nq) (ag_ui (ag_ui (fun _ => (0 : Int)) 0 c) 1 (1 + (v : Int))) r = g r := fun r r2 => ag_ug_ne _ _ r2
    have keep : ∀ r, r ≠ 5 → r ≠ 500 + nq → ag_uf (ag_uf ln 5 (nq + 1)) (500 + nq) 2 r = ln r ∧ ag_ug g (500 + nq) (ag_ui (ag_ui (fun _ => (0 : Int)) 0 c) 1 (1 + (v : Int))) r = g r := fun r r1 r2 => ⟨l5 r r1 r2, g5 r r2⟩
    have l55 : ag_uf (ag_uf ln 5 (nq + 1)) (500 + nq) 2 5 = nq + 1 := by rw [ag_uf_ne (by omega), ag_uf_at]
    have tp6 : ag_TP (ag_ug (ag_ug gq 0 (ag_ui (gq 0) nq (c : Int))) 1 (ag_ui (gq 1) nq (1 + (v : Int)))) (nq + 1) (ag_uf (ag_uf ln 5 (nq + 1)) (500 + nq) 2) (ag_ug g (500 + nq) (ag_ui (ag_ui (fun _ => (0 : Int)) 0 c) 1 (1 + (v : Int)))) := by
      refine ⟨l55, fun p hp => ?_⟩
      by_cases y : p = nq
      · subst y
        rw [ag_uf_at, ag_ug_same]
        refine ⟨rfl, ?_, ?_⟩
        · show (c : Int) = ag_ui (gq 0) p (c : Int) p
          rw [ag_ui_eq9]
        · show (1 + (v : Int)) = ag_ui (gq 1) p (1 + (v : Int)) p
          rw [ag_ui_eq9]
      · obtain ⟨y1, y2⟩ := keep (500 + p) (by omega) (by omega)
        rw [y1, y2]
        obtain ⟨t1, t2, t3⟩ := tp.2 p (by omega)
        refine ⟨t1, ?_, ?_⟩
        · show g (500 + p) 0 = ag_ui (gq 0) nq (c : Int) p
          rw [show ag_ui (gq 0) nq (c : Int) p = gq 0 p from if_neg y]
          exact t2
        · show g (500 + p) 1 = ag_ui (gq 1) nq (1 + (v : Int)) p
          rw [show ag_ui (gq 1) nq (1 + (v : Int)) p = gq 1 p from if_neg y]
          exact t3
    have hX4 := ag_hf_CX hf4 (ag_hf_CX f3 (ag_hf_CX (ag_hf_fr f2 h1.2.2.2.2.2.1.2) hX1))
    have hX6 := ag_hf_CX a3 hX4
    have hld : ag_hld S (c : Int) := ⟨by omega, by rw [cn]; omega, by rw [ag_rd_nat (by decide) (by omega)]; exact z1⟩
    have hP := fun K => ag_F_petition_3 hX6 hV hH hQ (c := (c : Int)) (s := 1 + (v : Int)) (ag_nm_of (by omega) (by omega)) hld (by omega) z2 K
    have hX7 := ag_CX_Q (g := ag_ug (ag_ug gq 0 (ag_ui (gq 0) nq (c : Int))) 1 (ag_ui (gq 1) nq (1 + (v : Int)))) (v := ag_vP (nq + 1)) hX6
    have hFr := ag_Fr_Q (B := B) σ6 (g := ag_ug (ag_ug gq 0 (ag_ui (gq 0) nq (c : Int))) 1 (ag_ui (gq 1) nq (1 + (v : Int)))) (v := ag_vP (nq + 1))
    have h7 := ag_HS_Fr a4 hFr (Nat.le_refl _)
    refine ⟨_, dr + 1 + 1, _, nq + 1, ⟨_, _, _, T, mt, en, h7, hX7, hT, ag_TC_eq hw40 (fun r hr => keep r (by omega) (by omega)) tc, ag_TA_eq (by omega) (fun r hr => keep r (by omega) (by omega)) ta, ag_TV_eq (by omega) (fun r hr => keep r (by omega) (by omega)) tv, tp6, ag_TS_eq (fun r hr => keep r (by omega) (by omega)) ts⟩, ag_U_k ⟨hV, hH, ag_QI_pet hQ hw40 ⟨by omega, by omega, by rw [Int.toNat_natCast]; exact z1⟩ (by omega) z2, hv, hz, hp0, h9, hs3, hE⟩, by omega, by omega, ag_af_le (ag_af_trans (ag_af_hf (ag_hf_trans f1 (ag_hf_trans (ag_hf_fr f2 h1.2.2.2.2.2.1.2) (ag_hf_trans f3 (ag_hf_trans hf4 a3))))) (ag_af_Fr hFr rfl)) (by omega) (by omega), fun K => ?_⟩
    have rd1 := fun K => ag_ia_at (σ := σ6) (z := σ1.2.1 + 1) (n := 2) (k := 1) (f := ag_ui (ag_ui (fun _ => (0 : Int)) 0 c) 1 (1 + (v : Int))) (by
      have := a4.2.2.1 (500 + nq) (by unfold ag_hlv; omega)
      rw [ag_uf_at, ag_uf_at, ag_ug_same] at this
      exact this) (by decide) (by decide) K
    rw [st34 K]
    simp only [ag_i129_34, ag_i129_35, ag_nmk_2, show ((0 : Int) ≤ 2 ∧ (2 : Int) ≤ 1000000) = True from by simp, true_and, show (2 : Int).toNat = 2 from rfl, ag_n9_f, ag_i129_37, ag_i129_38, ag_i129_39, ag_i129_40]
    rw [ag_n9_is (l := 2) (k := 0) (x := 0) (by decide) (by decide) rfl]
    simp only [ag_i129_41, ag_i129_42, ag_i129_43, ag_i129_44, ag_i129_45, ag_i129_48]
    rw [show (500 : Int) = ((500 : Nat) : Int) from rfl]
    simp only [ag_h_ck h2, d3, ag_kk_v, ag_kk_n, Nat.reduceAdd, ag_i129_51, ag_i129_52]
    have is4 : ∀ K : ag_S → Prop, ag_is σ3 (σ1.2.1 + 1) 1 (1 + (v : Int)) K = K σ4 := is4
    have rd1 : ∀ K : Int → Prop, ag_ia σ6 (σ1.2.1 + 1) 1 K = K (1 + (v : Int)) := rd1
    have en1 : ag_nm (((nq + 1 : Nat) : Int) - 1) = nq := by rw [ag_nm_of (by omega) (by omega)]; omega
    rw [is4]
    simp only [ag_i129_53_n, ag_i129_53_i, ag_i129_53_r, ag_i129_54, ag_i129_55, ag_i129_56, ag_h_g12 h4, ag_i129_59, ag_i129_60, a1, ag_kk_v, ag_kk_n, Nat.reduceAdd, ag_i129_63, a2, ag_i129_66, ag_i129_67, ag_h_g0 a4, ag_i129_70, ag_i129_71, ag_i129_72, ag_i129_73, rd1, ag_i129_74, ag_X_o0 hX6, ag_X_o1 hX6, ag_X_o2 hX6, ag_X_o3 hX6, ag_X_o4 hX6, ag_X_oc hX6, ag_X_n0 hX6, ag_X_n1 hX6, ag_X_n2 hX6, ag_X_nc hX6, ag_X_t0 hX6, ag_X_t1 hX6, ag_X_t2 hX6, ag_X_tc hX6, ag_X_b0 hX6, ag_X_b1 hX6, ag_X_b2 hX6, ag_X_b3 hX6, ag_X_b4 hX6, ag_X_b5 hX6, ag_X_b6 hX6, ag_X_b7 hX6, ag_X_b8 hX6, ag_X_b9 hX6, ag_X_bc hX6, ag_X_p0 hX6, ag_X_p1 hX6, ag_X_p2 hX6, ag_X_p3 hX6, ag_X_p4 hX6, ag_X_p5 hX6, ag_X_p6 hX6, ag_X_pc hX6, ag_X_h0 hX6, ag_X_h1 hX6, ag_X_h2 hX6, ag_X_h3 hX6, ag_X_h4 hX6, ag_X_h5 hX6, ag_X_h6 hX6, ag_X_hc hX6, ag_X_q0 hX6, ag_X_q1 hX6, ag_X_q2 hX6, ag_X_qc hX6, ag_X_tb0 hX6, ag_X_tb1 hX6, ag_X_tb2 hX6, ag_X_tb3 hX6, ag_X_tb4 hX6, ag_X_tb5 hX6, ag_X_tb6 hX6, ag_X_tb7 hX6, ag_X_tb8 hX6, ag_X_tb9 hX6, ag_X_tbc hX6, ag_X_tp0 hX6, ag_X_tp1 hX6, ag_X_tp2 hX6, ag_X_tp3 hX6, ag_X_tp4 hX6, ag_X_tp5 hX6, ag_X_tp6 hX6, ag_X_tpc hX6, ag_X_ba0 hX6, ag_X_ba1 hX6, ag_X_ba2 hX6, ag_X_ba3 hX6, ag_X_ba4 hX6, ag_X_ba5 hX6, ag_X_ba6 hX6, ag_X_ba7 hX6, ag_X_pa0 hX6, ag_X_pa1 hX6, ag_X_pa2 hX6, ag_X_pa3 hX6, ag_X_pa4 hX6, ag_X_pa5 hX6, ag_X_ha0 hX6, ag_X_ha1 hX6, ag_X_ha2 hX6, ag_X_ha3 hX6, ag_X_qa0 hX6, ag_X_qa1 hX6, ag_X_tba0 hX6, ag_X_tba1 hX6, ag_X_tba2 hX6, ag_X_tba3 hX6, ag_X_tba4 hX6, ag_X_tba5 hX6, ag_X_tba6 hX6, ag_X_tba7 hX6, ag_X_tpa0 hX6, ag_X_tpa1 hX6, ag_X_tpa2 hX6, ag_X_tpa3 hX6, ag_X_tpa4 hX6, ag_X_tpa5 hX6, ag_X_ea hX6, hP, ag_kk_v, ag_kk_n, Nat.reduceAdd, ag_i129_77, ag_i129_78, ag_h_g12 h7, ag_i129_81, ag_h_a5 h7, l55, ag_i129_82, ag_i129_83, ag_i129_84, en1, ag_nm_nat (show nq ≤ 1000000 by omega)]
    rw [if_neg (by simp)]
    simp only [ag_i129_87, ag_i129_88, ag_i129_92, ag_b0, ag_b1, true_and, or_true, true_or, Int.reduceEq, ne_eq, not_false_eq_true, not_true_eq_false, ↓reduceIte]
end AGWD
