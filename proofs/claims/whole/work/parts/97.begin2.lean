/-! THE START: the office made, the law at its loop. -/
theorem ag_N_Office {f : Nat → Option ag_C} {s : Nat} (hf : f 1 = some (Sum.inr (Sum.inr (Sum.inr (5, [ag_N, ag_N, ag_N, ag_N, ag_N]))))) : ∃ τ : ag_S, ag_CX τ (ag_g0, ag_vH 0 0 (-1)) (ag_g0, ag_vP 0) (ag_g0, (0, (0, ag_g0))) 0 (ag_g0, (0, (0, ag_g0))) 0 (fun _ => 0) ∧ τ.1 0 = f 0 ∧ τ.2 = (44, s + 1089) ∧ ∀ K, ag_cl9 58 [ag_R 1] (f, (1, s)) K = K (Sum.inl none) τ := by
  obtain ⟨t1, a1, g1, e1, k1⟩ := ag_N_House (f := ag_up f 2 (Sum.inr (Sum.inr (Sum.inr (2, [ag_N, ag_N, ag_N, ag_N, ag_I 0, ag_I 0, ag_I 0]))))) (c := 2) (s := s + 7) (by decide) (ag_upe rfl)
  obtain ⟨h1, c1, s1⟩ := t1
  cases e1
  have b1 : (h1, (2 + 4, s + 7 + 115)).1 1 = some (Sum.inr (Sum.inr (Sum.inr (5, [ag_N, ag_N, ag_N, ag_N, ag_N])))) := (g1 1 (by decide)).trans ((ag_upn (by decide)).trans hf)
  obtain ⟨t2, a2, g2, e2, k2⟩ := ag_N_Petitions (f := ag_up (ag_up h1 1 (Sum.inr (Sum.inr (Sum.inr (5, [ag_R 2, ag_N, ag_N, ag_N, ag_N]))))) 7 (Sum.inr (Sum.inr (Sum.inr (4, [ag_N, ag_N, ag_I 0]))))) (c := 7) (s := s + 7 + 115 + 3) (by decide) (ag_upe rfl)
  obtain ⟨h2, c2, s2⟩ := t2
  cases e2
  have b2 : (h2, (7 + 2, s + 7 + 115 + 3 + 24)).1 1 = some (Sum.inr (Sum.inr (Sum.inr (5, [ag_R 2, ag_N, ag_N, ag_N, ag_N])))) := (g2 1 (by decide)).trans ((ag_upn (by decide)).trans (ag_upe rfl))
  obtain ⟨t3, a3, a3b, a3p, g3, e3, k3⟩ := ag_N_Course (f := ag_up (ag_up h2 1 (Sum.inr (Sum.inr (Sum.inr (5, [ag_R 2, ag_R 7, ag_N, ag_N, ag_N]))))) 10 (Sum.inr (Sum.inr (Sum.inr (1, [ag_N, ag_N, ag_N]))))) (c := 10) (s := s + 7 + 115 + 3 + 24 + 3) (by decide) (ag_upe rfl)
  obtain ⟨h3, c3, s3⟩ := t3
  cases e3
  have b3 : (h3, (10 + 16, s + 7 + 115 + 3 + 24 + 3 + 457)).1 1 = some (Sum.inr (Sum.inr (Sum.inr (5, [ag_R 2, ag_R 7, ag_N, ag_N, ag_N])))) := (g3 1 (by decide)).trans ((ag_upn (by decide)).trans (ag_upe rfl))
  obtain ⟨t4, a4, a4b, a4p, g4, e4, k4⟩ := ag_N_Course (f := ag_up (ag_up h3 1 (Sum.inr (Sum.inr (Sum.inr (5, [ag_R 2, ag_R 7, ag_R 10, ag_N, ag_N]))))) 27 (Sum.inr (Sum.inr (Sum.inr (1, [ag_N, ag_N, ag_N]))))) (c := 27) (s := s + 7 + 115 + 3 + 24 + 3 + 457 + 3) (by decide) (ag_upe rfl)
  obtain ⟨h4, c4, s4⟩ := t4
  cases e4
  have b4 : (h4, (27 + 16, s + 7 + 115 + 3 + 24 + 3 + 457 + 3 + 457)).1 1 = some (Sum.inr (Sum.inr (Sum.inr (5, [ag_R 2, ag_R 7, ag_R 10, ag_N, ag_N])))) := (g4 1 (by decide)).trans ((ag_upn (by decide)).trans (ag_upe rfl))
  have d2 : (ag_up (ag_up h2 1 (Sum.inr (Sum.inr (Sum.inr (5, [ag_R 2, ag_R 7, ag_N, ag_N, ag_N]))))) 10 (Sum.inr (Sum.inr (Sum.inr (1, [ag_N, ag_N, ag_N]))))) 1 = some (Sum.inr (Sum.inr (Sum.inr (5, [ag_R 2, ag_R 7, ag_N, ag_N, ag_N])))) := (ag_upn (by decide)).trans (ag_upe rfl)
  have d3 : (ag_up (ag_up h3 1 (Sum.inr (Sum.inr (Sum.inr (5, [ag_R 2, ag_R 7, ag_R 10, ag_N, ag_N]))))) 27 (Sum.inr (Sum.inr (Sum.inr (1, [ag_N, ag_N, ag_N]))))) 1 = some (Sum.inr (Sum.inr (Sum.inr (5, [ag_R 2, ag_R 7, ag_R 10, ag_N, ag_N])))) := (ag_upn (by decide)).trans (ag_upe rfl)
  have d4 : (ag_up (ag_up h4 1 (Sum.inr (Sum.inr (Sum.inr (5, [ag_R 2, ag_R 7, ag_R 10, ag_R 27, ag_N]))))) 44 (Sum.inl (20, fun _ => 0))) 1 = some (Sum.inr (Sum.inr (Sum.inr (5, [ag_R 2, ag_R 7, ag_R 10, ag_R 27, ag_N])))) := (ag_upn (by decide)).trans (ag_upe rfl)
  have p1 := fun K => ag_pf_at (k := 0) (v := ag_R 2) b1 (Nat.le_of_ble_eq_true rfl) (by decide) K
  have p2 := fun K => ag_pf_at (k := 1) (v := ag_R 7) b2 (Nat.le_of_ble_eq_true rfl) (by decide) K
  have p3 := fun K => ag_pf_at (k := 2) (v := ag_R 10) b3 (Nat.le_of_ble_eq_true rfl) (by decide) K
  have p4 := fun K => ag_pf_at (k := 3) (v := ag_R 27) b4 (Nat.le_of_ble_eq_true rfl) (by decide) K
  have p5 := fun (q : Nat × Nat) (K : ag_S → Prop) => ag_pf_at (τ := (ag_up (ag_up h4 1 (Sum.inr (Sum.inr (Sum.inr (5, [ag_R 2, ag_R 7, ag_R 10, ag_R 27, ag_N]))))) 44 (Sum.inl (20, fun _ => 0)), q)) (a := 1) (ci := 5) (fs := [ag_R 2, ag_R 7, ag_R 10, ag_R 27, ag_N]) (k := 4) (v := ag_R 44) d4 (Nat.le_of_ble_eq_true rfl) (by decide) K
  have q2 := fun (q : Nat × Nat) (K : ag_V → Prop) => ag_gf_at (τ := (ag_up (ag_up h2 1 (Sum.inr (Sum.inr (Sum.inr (5, [ag_R 2, ag_R 7, ag_N, ag_N, ag_N]))))) 10 (Sum.inr (Sum.inr (Sum.inr (1, [ag_N, ag_N, ag_N])))), q)) (a := 1) (ci := 5) (fs := [ag_R 2, ag_R 7, ag_N, ag_N, ag_N]) (k := 0) (v := ag_R 2) d2 rfl K
  have q3 := fun (q : Nat × Nat) (K : ag_V → Prop) => ag_gf_at (τ := (ag_up (ag_up h3 1 (Sum.inr (Sum.inr (Sum.inr (5, [ag_R 2, ag_R 7, ag_R 10, ag_N, ag_N]))))) 27 (Sum.inr (Sum.inr (Sum.inr (1, [ag_N, ag_N, ag_N])))), q)) (a := 1) (ci := 5) (fs := [ag_R 2, ag_R 7, ag_R 10, ag_N, ag_N]) (k := 0) (v := ag_R 2) d3 rfl K
  simp only [List.set_cons_zero, List.set_cons_succ, Nat.add_assoc, Nat.reduceAdd] at p1 p2 p3 p4 p5 k1 k2 k3 k4
  refine ⟨_, ?h1, ?h2, ?h3, fun K => by
    simp only [ag_e58, ag_i58_0, ag_i58_1, ag_i58_4, ag_i58_5, ag_i58_8, ag_i58_9, ag_i58_12, ag_i58_15, ag_i58_16, ag_i58_19, ag_i58_20, ag_i58_23, ag_i58_26, ag_i58_27, ag_i58_30, ag_i58_31, ag_i58_32, ag_i58_35, ag_i58_38, ag_i58_41, ag_i58_42, ag_i58_45, ag_i58_46, ag_i58_47, ag_i58_50, ag_i58_53, ag_i58_56, ag_i58_57, ag_i58_59, ag_i58_61, ag_i58_64, ag_kk_v, ag_kk_n, Nat.reduceAdd, k1, k2, k3, k4, p1, p2, p3, p4, p5, q2, q3, Nat.add_assoc, Nat.reduceAdd, ag_nmk_20, Int.reduceLE, Int.reduceToNat, and_self, true_and]
    rfl⟩
  case h3 => rfl
  case h2 =>
    have z1 := g1 0 (by decide)
    have z2 := g2 0 (by decide)
    have z3 := g3 0 (by decide)
    have z4 := g4 0 (by decide)
    simp (disch := decide) only [ag_upn] at z1 z2 z3 z4
    dsimp only
    simp (disch := decide) only [ag_upn]
    rw [z4, z3, z2, z1]
  case h1 =>
    have f4 : ∀ z, z ≠ 1 → z ≠ 44 → (ag_up (ag_up (ag_up h4 1 (Sum.inr (Sum.inr (Sum.inr (5, [ag_R 2, ag_R 7, ag_R 10, ag_R 27, ag_N]))))) 44 (Sum.inl (20, fun _ => 0))) 1 (Sum.inr (Sum.inr (Sum.inr (5, [ag_R 2, ag_R 7, ag_R 10, ag_R 27, ag_R 44]))))) z = h4 z := fun z z1 z2 => by
      rw [ag_upn z1, ag_upn z2, ag_upn z1]
    have f3 : ∀ z, z ≠ 1 → z < 27 → h4 z = h3 z := fun z z1 z2 => by
      have e : h4 z = _ := g4 z z2
      rw [e, ag_upn (by omega), ag_upn z1]
    have f2 : ∀ z, z ≠ 1 → z < 10 → h3 z = h2 z := fun z z1 z2 => by
      have e : h3 z = _ := g3 z z2
      rw [e, ag_upn (by omega), ag_upn z1]
    have f1 : ∀ z, z ≠ 1 → z < 7 → h2 z = h1 z := fun z z1 z2 => by
      have e : h2 z = _ := g2 z z2
      rw [e, ag_upn (by omega), ag_upn z1]
    refine ⟨by dsimp only; exact ag_upe rfl, ag_CH_fr a1 (fun z _ _ => (f4 z (by omega) (by omega)).trans ((f3 z (by omega) (by omega)).trans ((f2 z (by omega) (by omega)).trans (f1 z (by omega) (by omega))))), ag_CQ_fr a2 (fun z _ _ => (f4 z (by omega) (by omega)).trans ((f3 z (by omega) (by omega)).trans (f2 z (by omega) (by omega)))), (f4 10 (by decide) (by decide)).trans ((f3 10 (by decide) (by decide)).trans a3), ag_CB_fr a3b (fun z _ _ => (f4 z (by omega) (by omega)).trans (f3 z (by omega) (by omega))), ag_CP_fr a3p (fun z _ _ => (f4 z (by omega) (by omega)).trans (f3 z (by omega) (by omega))), (f4 27 (by decide) (by decide)).trans a4, ag_CB_fr a4b (fun z _ _ => f4 z (by omega) (by omega)), ag_CP_fr a4p (fun z _ _ => f4 z (by omega) (by omega)), ?_⟩
    dsimp only
    rw [ag_upn (by decide), ag_upe rfl]
def ag_mg0 : Nat → Nat → Int := ag_mg ag_g0 (fun _ => 0) ag_g0 (ag_g0 0) (ag_g0 1) ag_g0
theorem ag_mg0_eq (k : Nat) : ag_mg0 k = fun _ => 0 := by
  match k with
  | 0 => rfl
  | 1 => rfl
  | 2 => rfl
  | 3 => rfl
  | 4 => rfl
  | 5 => rfl
  | 6 => rfl
  | 7 => rfl
  | 8 => rfl
  | 9 => rfl
  | 10 => rfl
  | 11 => rfl
  | 12 => rfl
  | 13 => rfl
  | 14 => rfl
  | 15 => rfl
  | 16 => rfl
  | k + 17 => rfl
theorem ag_sm0 : ag_sm ag_g0 := fun _ _ => by
  show -100000 ≤ (0 : Int) ∧ (0 : Int) ≤ 100000
  decide
theorem ag_IV0 : ag_IV (ag_g0, (0, (0, ag_g0))) 0 := by
  refine ⟨⟨⟨fun _ _ _ => rfl, ag_sm0, Nat.le_refl _, by decide⟩, fun i hi => absurd hi (Nat.not_lt_zero i), fun c hc => absurd hc (Nat.not_lt_zero c), fun i hi => absurd hi (Nat.not_lt_zero i)⟩, ⟨⟨fun _ _ _ => rfl, ag_sm0, by decide⟩, fun c hc => absurd hc (Nat.not_lt_zero c), fun a ha => absurd ha (Nat.not_lt_zero a)⟩, fun a ha => absurd ha (Nat.not_lt_zero a)⟩
theorem ag_begin (L : Nat) (xs : Nat → Int) : ∃ τ, ag_Wd L xs 0 τ ∧ ∀ Q, ag_wp 189 0 (ag_en 189 [ag_R 0]) [] (ag_S0 L xs) Q = ag_wp 189 23 [some (ag_R 0), some (ag_R 1), some (ag_R 45), some (ag_R 63), some (ag_I 0), none, none, none, none] [] τ Q := by
  obtain ⟨t1, a1, g1, e1, k1⟩ := ag_N_Office (f := ag_up (ag_S0 L xs).1 1 (Sum.inr (Sum.inr (Sum.inr (5, [ag_N, ag_N, ag_N, ag_N, ag_N]))))) (s := 5) (ag_upe rfl)
  obtain ⟨h1, c1, s1⟩ := t1
  cases e1
  obtain ⟨t2, ⟨a2, a2b⟩, g2, e2, k2⟩ := ag_N_Model (f := ag_up h1 45 (Sum.inr (Sum.inr (Sum.inr (6, [ag_I 0, ag_I 0, ag_I 0, ag_I 0, ag_N, ag_N, ag_N, ag_N, ag_N, ag_N, ag_N, ag_N, ag_N, ag_N, ag_N, ag_N, ag_I 0, ag_N, ag_I 0, ag_I 0, ag_N, ag_N, ag_N, ag_N, ag_I 0]))))) (c := 45) (s := 5 + 1089 + 25) (by decide) (ag_upe rfl)
  obtain ⟨h2, c2, s2⟩ := t2
  cases e2
  have f2 : ∀ z, z < 45 → h2 z = h1 z := fun z hz => by
    have e : h2 z = _ := g2 z hz
    rw [e, ag_upn (by omega)]
  have z0 : h1 0 = some (Sum.inl (L, xs)) := by
    have e : h1 0 = _ := g1
    rw [e, ag_upn (by decide)]
    rfl
  refine ⟨(ag_up h2 63 (Sum.inr (Sum.inl (1, fun _ => 0))), (63, 1579)), ?_, fun Q => ?_⟩
  · have hz : ∀ z, z ≠ 63 → (ag_up h2 63 (Sum.inr (Sum.inl (1, fun _ => 0)))) z = h2 z := fun z hz => ag_upn hz
    refine ⟨(ag_g0, (0, (0, ag_g0))), 0, (ag_g0, (0, (0, ag_g0))), 0, fun _ => 0, ag_g0, ag_g0, 0, 0, 0, -1, fun _ => 0, 0, ag_CX_cg a1 (fun z z1 z2 => (hz z (by omega)).trans (f2 z (by omega))), ?_, ⟨(hz 0 (by decide)).trans ((f2 0 (by decide)).trans z0), ⟨fun _ => 0, show (ag_up h2 63 (Sum.inr (Sum.inl (1, fun _ => 0)))) 63 = some (Sum.inr (Sum.inl (1, fun _ => 0))) from ag_upe rfl⟩, Nat.le_refl _⟩, ag_IV0, fun i hi => absurd hi (Nat.not_lt_zero i), ⟨ag_sm0, by decide, by decide, by decide, fun p hp => absurd hp (Nat.not_lt_zero p), fun _ => by
      show (0 : Int) ≤ 0 ∧ (0 : Int) ≤ 300
      decide⟩, ⟨ag_sm0, by decide, fun p hp => absurd hp (Nat.not_lt_zero p)⟩, ag_TI_of ag_IV0, fun _ => by
      show (0 : Int) ≤ 0 ∧ 2 * (0 : Int) ≤ 300 * ((0 : Nat) : Int) ∧ 2 * (0 : Int) + -1 ≤ 300 * ((0 : Nat) : Int)
      decide, ⟨Nat.le_refl _, by show 63 ≤ 64 + 650 * 0; decide, by show 1579 ≤ 2000 + (0 - (0 + 0 + 0)) * ag_Cw 0 0 0 + 50 * 0; decide⟩⟩
    have eρ : (fun k => 45 + 1 + k) = ag_r0 := funext (fun k => by show 45 + 1 + k = k + 46; omega)
    refine (ag_SM_of (N := 62) (ag_m0 (Nat.le_refl 62)) ?_ (fun k hk => ?_)).symm
    · rw [← eρ]
      exact (hz 45 (by decide)).trans a2
    · have e9 : ag_r0 k = 45 + 1 + k := by show k + 46 = _; omega
      rw [e9]
      refine (hz _ (by omega)).trans ((a2b k hk).trans ?_)
      exact congrArg (fun g => some (Sum.inl (ag_mL k, g))) (ag_mg0_eq k).symm
  · show ag_wp 189 0 [some (ag_R 0), none, none, none, none, none, none, none, none] [] (ag_S0 L xs) Q = _
    have k1' : ∀ K, ag_cl9 58 [ag_R 1] (ag_up (ag_S0 L xs).1 1 (Sum.inr (Sum.inr (Sum.inr (5, [ag_N, ag_N, ag_N, ag_N, ag_N])))), (1, 5)) K = K (Sum.inl none) (h1, (44, 1094)) := k1
    have k2' : ∀ K, ag_cl9 97 [ag_R 45] (ag_up h1 45 (Sum.inr (Sum.inr (Sum.inr (6, [ag_I 0, ag_I 0, ag_I 0, ag_I 0, ag_N, ag_N, ag_N, ag_N, ag_N, ag_N, ag_N, ag_N, ag_N, ag_N, ag_N, ag_N, ag_I 0, ag_N, ag_I 0, ag_I 0, ag_N, ag_N, ag_N, ag_N, ag_I 0])))), (45, 1119)) K = K (Sum.inl none) (h2, (62, 1578)) := k2
    have s0 : (ag_S0 L xs).2 = (0, 0) := rfl
    simp only [ag_i189_0, ag_i189_3, ag_i189_4, ag_i189_7_n, ag_i189_7_i, ag_i189_7_r, ag_i189_8, ag_i189_11, ag_i189_12, ag_i189_15_n, ag_i189_15_i, ag_i189_15_r, ag_i189_16, ag_i189_17, ag_i189_19_n, ag_i189_19_i, ag_i189_19_r, ag_i189_20, ag_i189_21_n, ag_i189_21_i, ag_i189_21_r, s0, ag_kk_v, ag_kk_n, Nat.reduceAdd, k1', k2', Nat.reduceAdd, ag_nm_1, Int.reduceLE, Int.reduceToNat, Int.toNat_one, and_self, true_and]
