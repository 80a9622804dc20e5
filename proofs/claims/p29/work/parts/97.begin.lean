/-! THE START: the constructors. -/
theorem ag_upn {f : Nat → Option ag_C} {a j : Nat} {x : ag_C} (hj : j ≠ a) : ag_up f a x j = f j := if_neg hj
theorem ag_upe {f : Nat → Option ag_C} {a j : Nat} {x : ag_C} (hj : j = a) : ag_up f a x j = some x := if_pos hj
theorem ag_nmk_40 : ag_nm 40 = 40 := ag_nm_of (by decide) (by decide)
theorem ag_pf_at {τ : ag_S} {a ci k : Nat} {fs : List ag_V} {v : ag_V} (h : τ.1 a = some (Sum.inr (Sum.inr (Sum.inr (ci, fs))))) (hk : k < fs.length) (ha : 1 ≤ a) (K : ag_S → Prop) : ag_pf τ a ci k v K = K (ag_up τ.1 a (Sum.inr (Sum.inr (Sum.inr (ci, fs.set k v)))), τ.2) := by
  unfold ag_pf
  rw [h]
  exact propext ⟨fun z => z.2, fun z => ⟨⟨rfl, hk, ha⟩, z⟩⟩
def ag_g0 : Nat → Nat → Int := fun _ _ => 0
theorem ag_N_Bill {f : Nat → Option ag_C} {c s : Nat} (hc : 1 ≤ c) (hf : f c = some (Sum.inr (Sum.inr (Sum.inr (0, [ag_N, ag_N, ag_N, ag_N, ag_N, ag_N, ag_N, ag_N, ag_I 0, ag_I 0]))))) : ∃ τ : ag_S, ag_CB τ c ag_g0 (ag_vB 0 0) ∧ (∀ z, z < c → τ.1 z = f z) ∧ τ.2 = (c + 8, s + 320) ∧ ∀ K, ag_cl9 3 [ag_R c] (f, (c, s)) K = K (Sum.inl none) τ := by
  refine ⟨_, ?h1, ?h2, ?h3, fun K => by
    simp (disch := omega) only [ag_e3, ag_i3_0, ag_i3_1, ag_i3_4, ag_i3_5, ag_i3_7, ag_i3_9, ag_i3_12, ag_i3_13, ag_i3_15, ag_i3_17, ag_i3_20, ag_i3_21, ag_i3_23, ag_i3_25, ag_i3_28, ag_i3_29, ag_i3_31, ag_i3_33, ag_i3_36, ag_i3_37, ag_i3_39, ag_i3_41, ag_i3_44, ag_i3_45, ag_i3_47, ag_i3_49, ag_i3_52, ag_i3_53, ag_i3_55, ag_i3_57, ag_i3_60, ag_i3_61, ag_i3_63, ag_i3_65, ag_i3_68, ag_pf, ag_upn, ag_upe, hf, Nat.add_assoc, Nat.reduceAdd, ag_nmk_40, ag_nmk_20, ag_nmk_12, ag_nmk_5, ag_nmk_100, ag_nm_1, Int.reduceLE, Int.reduceToNat, and_self, true_and, List.length_cons, List.length_nil, Nat.reduceLT, List.set_cons_zero, List.set_cons_succ, hc]
    rfl⟩
  case h3 => rfl
  case h2 =>
    intro z hz
    simp (disch := omega) only [ag_upn]
  case h1 =>
    unfold ag_CB
    refine ⟨?_, ?_, ?_, ?_, ?_, ?_, ?_, ?_, ?_⟩ <;> simp (disch := omega) only [ag_upn, ag_upe] <;> rfl
theorem ag_N_House {f : Nat → Option ag_C} {c s : Nat} (hc : 1 ≤ c) (hf : f c = some (Sum.inr (Sum.inr (Sum.inr (2, [ag_N, ag_N, ag_N, ag_N, ag_I 0, ag_I 0, ag_I 0]))))) : ∃ τ : ag_S, ag_CH τ c ag_g0 (ag_vH 0 0 (-1)) ∧ (∀ z, z < c → τ.1 z = f z) ∧ τ.2 = (c + 4, s + 115) ∧ ∀ K, ag_cl9 31 [ag_R c] (f, (c, s)) K = K (Sum.inl none) τ := by
  refine ⟨_, ?h1, ?h2, ?h3, fun K => by
    simp (disch := omega) only [ag_e31, ag_i31_0, ag_i31_1, ag_i31_4, ag_i31_5, ag_i31_6, ag_i31_8, ag_i31_11, ag_i31_12, ag_i31_13, ag_i31_15, ag_i31_18, ag_i31_19, ag_i31_20, ag_i31_22, ag_i31_25, ag_i31_26, ag_i31_28, ag_i31_30, ag_i31_33, ag_i31_34, ag_i31_35, ag_i31_38, ag_pf, ag_upn, ag_upe, hf, Nat.add_assoc, Nat.reduceAdd, ag_nmk_40, ag_nmk_20, ag_nmk_12, ag_nmk_5, ag_nmk_100, ag_nm_1, Int.reduceLE, Int.reduceToNat, and_self, true_and, List.length_cons, List.length_nil, Nat.reduceLT, List.set_cons_zero, List.set_cons_succ, hc]
    rfl⟩
  case h3 => rfl
  case h2 =>
    intro z hz
    simp (disch := omega) only [ag_upn]
  case h1 =>
    unfold ag_CH
    refine ⟨?_, ?_, ?_, ?_, ?_⟩ <;> simp (disch := omega) only [ag_upn, ag_upe] <;> rfl
theorem ag_N_Papers {f : Nat → Option ag_C} {c s : Nat} (hc : 1 ≤ c) (hf : f c = some (Sum.inr (Sum.inr (Sum.inr (3, [ag_N, ag_N, ag_N, ag_N, ag_N, ag_N, ag_I 0]))))) : ∃ τ : ag_S, ag_CP τ c ag_g0 (ag_vP 0) ∧ (∀ z, z < c → τ.1 z = f z) ∧ τ.2 = (c + 6, s + 120) ∧ ∀ K, ag_cl9 42 [ag_R c] (f, (c, s)) K = K (Sum.inl none) τ := by
  refine ⟨_, ?h1, ?h2, ?h3, fun K => by
    simp (disch := omega) only [ag_e42, ag_i42_0, ag_i42_1, ag_i42_4, ag_i42_5, ag_i42_7, ag_i42_9, ag_i42_12, ag_i42_13, ag_i42_15, ag_i42_17, ag_i42_20, ag_i42_21, ag_i42_23, ag_i42_25, ag_i42_28, ag_i42_29, ag_i42_31, ag_i42_33, ag_i42_36, ag_i42_37, ag_i42_39, ag_i42_41, ag_i42_44, ag_i42_45, ag_i42_47, ag_i42_49, ag_i42_52, ag_pf, ag_upn, ag_upe, hf, Nat.add_assoc, Nat.reduceAdd, ag_nmk_40, ag_nmk_20, ag_nmk_12, ag_nmk_5, ag_nmk_100, ag_nm_1, Int.reduceLE, Int.reduceToNat, and_self, true_and, List.length_cons, List.length_nil, Nat.reduceLT, List.set_cons_zero, List.set_cons_succ, hc]
    rfl⟩
  case h3 => rfl
  case h2 =>
    intro z hz
    simp (disch := omega) only [ag_upn]
  case h1 =>
    unfold ag_CP
    refine ⟨?_, ?_, ?_, ?_, ?_, ?_, ?_⟩ <;> simp (disch := omega) only [ag_upn, ag_upe] <;> rfl
theorem ag_N_Petitions {f : Nat → Option ag_C} {c s : Nat} (hc : 1 ≤ c) (hf : f c = some (Sum.inr (Sum.inr (Sum.inr (4, [ag_N, ag_N, ag_I 0]))))) : ∃ τ : ag_S, ag_CQ τ c ag_g0 (ag_vP 0) ∧ (∀ z, z < c → τ.1 z = f z) ∧ τ.2 = (c + 2, s + 24) ∧ ∀ K, ag_cl9 53 [ag_R c] (f, (c, s)) K = K (Sum.inl none) τ := by
  refine ⟨_, ?h1, ?h2, ?h3, fun K => by
    simp (disch := omega) only [ag_e53, ag_i53_0, ag_i53_1, ag_i53_4, ag_i53_5, ag_i53_7, ag_i53_9, ag_i53_12, ag_i53_13, ag_i53_15, ag_i53_17, ag_i53_20, ag_pf, ag_upn, ag_upe, hf, Nat.add_assoc, Nat.reduceAdd, ag_nmk_40, ag_nmk_20, ag_nmk_12, ag_nmk_5, ag_nmk_100, ag_nm_1, Int.reduceLE, Int.reduceToNat, and_self, true_and, List.length_cons, List.length_nil, Nat.reduceLT, List.set_cons_zero, List.set_cons_succ, hc]
    rfl⟩
  case h3 => rfl
  case h2 =>
    intro z hz
    simp (disch := omega) only [ag_upn]
  case h1 =>
    unfold ag_CQ
    refine ⟨?_, ?_, ?_⟩ <;> simp (disch := omega) only [ag_upn, ag_upe] <;> rfl
theorem ag_N_Course {r : Nat} {f : Nat → Option ag_C} {c s : Nat} (hc : 7 ≤ c) (hf : f c = some (Sum.inr (Sum.inr (Sum.inr (1, [ag_N, ag_N, ag_N]))))) : ∃ τ : ag_S, τ.1 c = some (Sum.inr (Sum.inr (Sum.inr (1, [ag_R (c + 1), ag_R (c + 10), ag_R r])))) ∧ ag_CB τ (c + 1) ag_g0 (ag_vB 0 0) ∧ ag_CP τ (c + 10) ag_g0 (ag_vP 0) ∧ (∀ z, z < c → τ.1 z = f z) ∧ τ.2 = (c + 16, s + 457) ∧ ∀ K, ag_cl9 19 [ag_R c, ag_R r] (f, (c, s)) K = K (Sum.inl none) τ := by
  obtain ⟨t1, a1, a2, a3, a4⟩ := ag_N_Bill (f := ag_up f (c + 1) (Sum.inr (Sum.inr (Sum.inr (0, [ag_N, ag_N, ag_N, ag_N, ag_N, ag_N, ag_N, ag_N, ag_I 0, ag_I 0]))))) (c := c + 1) (s := s + 10) (by omega) (ag_upe rfl)
  have b1 : t1.1 c = some (Sum.inr (Sum.inr (Sum.inr (1, [ag_N, ag_N, ag_N])))) := by rw [a2 c (by omega), ag_upn (by omega), hf]
  obtain ⟨h1, c1, s1⟩ := t1
  cases a3
  obtain ⟨t2, d1, d2, d3, d4⟩ := ag_N_Papers (f := ag_up (ag_up h1 c (Sum.inr (Sum.inr (Sum.inr (1, [ag_R (c + 1), ag_N, ag_N]))))) (c + 10) (Sum.inr (Sum.inr (Sum.inr (3, [ag_N, ag_N, ag_N, ag_N, ag_N, ag_N, ag_I 0]))))) (c := c + 10) (s := s + 10 + 320 + 7) (by omega) (ag_upe rfl)
  have b2 : t2.1 c = some (Sum.inr (Sum.inr (Sum.inr (1, [ag_R (c + 1), ag_N, ag_N])))) := by rw [d2 c (by omega), ag_upn (by omega), ag_upe rfl]
  obtain ⟨h2, c2, s2⟩ := t2
  cases d3
  have p1 := fun K => ag_pf_at (k := 0) (v := ag_R (c + 1)) b1 (Nat.le_of_ble_eq_true rfl) (by omega) K
  have p2 := fun K => ag_pf_at (k := 1) (v := ag_R (c + 10)) b2 (Nat.le_of_ble_eq_true rfl) (by omega) K
  have b3 : (ag_up h2 c (Sum.inr (Sum.inr (Sum.inr (1, [ag_R (c + 1), ag_R (c + 10), ag_N])))), (c + 16, s + 457)).1 c = some (Sum.inr (Sum.inr (Sum.inr (1, [ag_R (c + 1), ag_R (c + 10), ag_N])))) := ag_upe rfl
  have p3 := fun K => ag_pf_at (k := 2) (v := ag_R r) b3 (Nat.le_of_ble_eq_true rfl) (by omega) K
  simp only [List.set_cons_zero, List.set_cons_succ] at p1 p2 p3
  simp only [Nat.add_assoc, Nat.reduceAdd] at a4 d4 p1 p2 p3
  refine ⟨_, ?h1, ?h2, ?h3, ?h4, ?h5, fun K => by
    simp only [ag_e19, ag_i19_0, ag_i19_1, ag_i19_4, ag_i19_5, ag_i19_8, ag_i19_9, ag_i19_12, ag_i19_15, ag_i19_16, ag_i19_19, ag_i19_20, ag_i19_23, ag_i19_26, ag_i19_27, ag_i19_28, ag_i19_31, ag_kk_v, ag_kk_n, Nat.reduceAdd, a4, d4, p1, p2, p3, Nat.add_assoc, Nat.reduceAdd]
    rfl⟩
  case h5 => rfl
  case h4 =>
    intro z hz
    show ag_up _ c _ z = f z
    simp (disch := omega) only [ag_upn]
    have e1 := d2 z (by omega)
    have e2 := a2 z (by omega)
    simp (disch := omega) only [ag_upn] at e1 e2
    exact e1.trans e2
  case h3 => exact ag_CP_fr d1 (fun z z1 z2 => by simp (disch := omega) only [ag_upn])
  case h2 =>
    refine ag_CB_fr a1 (fun z z1 z2 => ?_)
    have e1 := d2 z (by omega)
    simp (disch := omega) only [ag_upn] at e1 ⊢
    exact e1
  case h1 => exact ag_upe rfl
theorem ag_N_Office {B : Nat} {f : Nat → Option ag_C} {s : Nat} (hf : f (B + 1) = some (Sum.inr (Sum.inr (Sum.inr (5, [ag_N, ag_N, ag_N, ag_N, ag_N]))))) : ∃ τ : ag_S, ag_CX B τ (ag_g0, ag_vH 0 0 (-1)) (ag_g0, ag_vP 0) (ag_g0, (0, (0, ag_g0))) 0 (ag_g0, (0, (0, ag_g0))) 0 (fun _ => 0) ∧ (∀ z, z ≤ B → τ.1 z = f z) ∧ τ.2 = (B + 44, s + 1089) ∧ ∀ K, ag_cl9 58 [ag_R (B + 1)] (f, (B + 1, s)) K = K (Sum.inl none) τ := by
  obtain ⟨t1, a1, g1, e1, k1⟩ := ag_N_House (f := ag_up f (B + 2) (Sum.inr (Sum.inr (Sum.inr (2, [ag_N, ag_N, ag_N, ag_N, ag_I 0, ag_I 0, ag_I 0]))))) (c := B + 2) (s := s + 7) (by omega) (ag_upe rfl)
  obtain ⟨h1, c1, s1⟩ := t1
  cases e1
  have b1 : (h1, (B + 2 + 4, s + 7 + 115)).1 (B + 1) = some (Sum.inr (Sum.inr (Sum.inr (5, [ag_N, ag_N, ag_N, ag_N, ag_N])))) := (g1 (B + 1) (by omega)).trans ((ag_upn (by omega)).trans hf)
  obtain ⟨t2, a2, g2, e2, k2⟩ := ag_N_Petitions (f := ag_up (ag_up h1 (B + 1) (Sum.inr (Sum.inr (Sum.inr (5, [ag_R (B + 2), ag_N, ag_N, ag_N, ag_N]))))) (B + 7) (Sum.inr (Sum.inr (Sum.inr (4, [ag_N, ag_N, ag_I 0]))))) (c := B + 7) (s := s + 7 + 115 + 3) (by omega) (ag_upe rfl)
  obtain ⟨h2, c2, s2⟩ := t2
  cases e2
  have b2 : (h2, (B + 7 + 2, s + 7 + 115 + 3 + 24)).1 (B + 1) = some (Sum.inr (Sum.inr (Sum.inr (5, [ag_R (B + 2), ag_N, ag_N, ag_N, ag_N])))) := (g2 (B + 1) (by omega)).trans ((ag_upn (by omega)).trans (ag_upe rfl))
  obtain ⟨t3, a3, a3b, a3p, g3, e3, k3⟩ := ag_N_Course (r := B + 2) (f := ag_up (ag_up h2 (B + 1) (Sum.inr (Sum.inr (Sum.inr (5, [ag_R (B + 2), ag_R (B + 7), ag_N, ag_N, ag_N]))))) (B + 10) (Sum.inr (Sum.inr (Sum.inr (1, [ag_N, ag_N, ag_N]))))) (c := B + 10) (s := s + 7 + 115 + 3 + 24 + 3) (by omega) (ag_upe rfl)
  obtain ⟨h3, c3, s3⟩ := t3
  cases e3
  have b3 : (h3, (B + 10 + 16, s + 7 + 115 + 3 + 24 + 3 + 457)).1 (B + 1) = some (Sum.inr (Sum.inr (Sum.inr (5, [ag_R (B + 2), ag_R (B + 7), ag_N, ag_N, ag_N])))) := (g3 (B + 1) (by omega)).trans ((ag_upn (by omega)).trans (ag_upe rfl))
  obtain ⟨t4, a4, a4b, a4p, g4, e4, k4⟩ := ag_N_Course (r := B + 2) (f := ag_up (ag_up h3 (B + 1) (Sum.inr (Sum.inr (Sum.inr (5, [ag_R (B + 2), ag_R (B + 7), ag_R (B + 10), ag_N, ag_N]))))) (B + 27) (Sum.inr (Sum.inr (Sum.inr (1, [ag_N, ag_N, ag_N]))))) (c := B + 27) (s := s + 7 + 115 + 3 + 24 + 3 + 457 + 3) (by omega) (ag_upe rfl)
  obtain ⟨h4, c4, s4⟩ := t4
  cases e4
  have b4 : (h4, (B + 27 + 16, s + 7 + 115 + 3 + 24 + 3 + 457 + 3 + 457)).1 (B + 1) = some (Sum.inr (Sum.inr (Sum.inr (5, [ag_R (B + 2), ag_R (B + 7), ag_R (B + 10), ag_N, ag_N])))) := (g4 (B + 1) (by omega)).trans ((ag_upn (by omega)).trans (ag_upe rfl))
  have d2 : (ag_up (ag_up h2 (B + 1) (Sum.inr (Sum.inr (Sum.inr (5, [ag_R (B + 2), ag_R (B + 7), ag_N, ag_N, ag_N]))))) (B + 10) (Sum.inr (Sum.inr (Sum.inr (1, [ag_N, ag_N, ag_N]))))) (B + 1) = some (Sum.inr (Sum.inr (Sum.inr (5, [ag_R (B + 2), ag_R (B + 7), ag_N, ag_N, ag_N])))) := (ag_upn (by omega)).trans (ag_upe rfl)
  have d3 : (ag_up (ag_up h3 (B + 1) (Sum.inr (Sum.inr (Sum.inr (5, [ag_R (B + 2), ag_R (B + 7), ag_R (B + 10), ag_N, ag_N]))))) (B + 27) (Sum.inr (Sum.inr (Sum.inr (1, [ag_N, ag_N, ag_N]))))) (B + 1) = some (Sum.inr (Sum.inr (Sum.inr (5, [ag_R (B + 2), ag_R (B + 7), ag_R (B + 10), ag_N, ag_N])))) := (ag_upn (by omega)).trans (ag_upe rfl)
  have d4 : (ag_up (ag_up h4 (B + 1) (Sum.inr (Sum.inr (Sum.inr (5, [ag_R (B + 2), ag_R (B + 7), ag_R (B + 10), ag_R (B + 27), ag_N]))))) (B + 44) (Sum.inl (20, fun _ => 0))) (B + 1) = some (Sum.inr (Sum.inr (Sum.inr (5, [ag_R (B + 2), ag_R (B + 7), ag_R (B + 10), ag_R (B + 27), ag_N])))) := (ag_upn (by omega)).trans (ag_upe rfl)
  have p1 := fun K => ag_pf_at (k := 0) (v := ag_R (B + 2)) b1 (Nat.le_of_ble_eq_true rfl) (by omega) K
  have p2 := fun K => ag_pf_at (k := 1) (v := ag_R (B + 7)) b2 (Nat.le_of_ble_eq_true rfl) (by omega) K
  have p3 := fun K => ag_pf_at (k := 2) (v := ag_R (B + 10)) b3 (Nat.le_of_ble_eq_true rfl) (by omega) K
  have p4 := fun K => ag_pf_at (k := 3) (v := ag_R (B + 27)) b4 (Nat.le_of_ble_eq_true rfl) (by omega) K
  have p5 := fun (q : Nat × Nat) (K : ag_S → Prop) => ag_pf_at (τ := (ag_up (ag_up h4 (B + 1) (Sum.inr (Sum.inr (Sum.inr (5, [ag_R (B + 2), ag_R (B + 7), ag_R (B + 10), ag_R (B + 27), ag_N]))))) (B + 44) (Sum.inl (20, fun _ => 0)), q)) (a := B + 1) (ci := 5) (fs := [ag_R (B + 2), ag_R (B + 7), ag_R (B + 10), ag_R (B + 27), ag_N]) (k := 4) (v := ag_R (B + 44)) d4 (Nat.le_of_ble_eq_true rfl) (by omega) K
  have q2 := fun (q : Nat × Nat) (K : ag_V → Prop) => ag_gf_at (τ := (ag_up (ag_up h2 (B + 1) (Sum.inr (Sum.inr (Sum.inr (5, [ag_R (B + 2), ag_R (B + 7), ag_N, ag_N, ag_N]))))) (B + 10) (Sum.inr (Sum.inr (Sum.inr (1, [ag_N, ag_N, ag_N])))), q)) (a := B + 1) (ci := 5) (fs := [ag_R (B + 2), ag_R (B + 7), ag_N, ag_N, ag_N]) (k := 0) (v := ag_R (B + 2)) d2 rfl K
  have q3 := fun (q : Nat × Nat) (K : ag_V → Prop) => ag_gf_at (τ := (ag_up (ag_up h3 (B + 1) (Sum.inr (Sum.inr (Sum.inr (5, [ag_R (B + 2), ag_R (B + 7), ag_R (B + 10), ag_N, ag_N]))))) (B + 27) (Sum.inr (Sum.inr (Sum.inr (1, [ag_N, ag_N, ag_N])))), q)) (a := B + 1) (ci := 5) (fs := [ag_R (B + 2), ag_R (B + 7), ag_R (B + 10), ag_N, ag_N]) (k := 0) (v := ag_R (B + 2)) d3 rfl K
  simp only [List.set_cons_zero, List.set_cons_succ, Nat.add_assoc, Nat.reduceAdd] at p1 p2 p3 p4 p5 k1 k2 k3 k4
  refine ⟨_, ?h1, ?h2, ?h3, fun K => by
    simp only [ag_e58, ag_i58_0, ag_i58_1, ag_i58_4, ag_i58_5, ag_i58_8, ag_i58_9, ag_i58_12, ag_i58_15, ag_i58_16, ag_i58_19, ag_i58_20, ag_i58_23, ag_i58_26, ag_i58_27, ag_i58_30, ag_i58_31, ag_i58_32, ag_i58_35, ag_i58_38, ag_i58_41, ag_i58_42, ag_i58_45, ag_i58_46, ag_i58_47, ag_i58_50, ag_i58_53, ag_i58_56, ag_i58_57, ag_i58_59, ag_i58_61, ag_i58_64, ag_kk_v, ag_kk_n, Nat.reduceAdd, k1, k2, k3, k4, p1, p2, p3, p4, p5, q2, q3, Nat.add_assoc, Nat.reduceAdd, ag_nmk_20, Int.reduceLE, Int.reduceToNat, and_self, true_and]
    rfl⟩
  case h3 => rfl
  case h2 =>
    intro z hz
    have z1 := g1 z (by omega)
    have z2 := g2 z (by omega)
    have z3 := g3 z (by omega)
    have z4 := g4 z (by omega)
    simp (disch := omega) only [ag_upn] at z1 z2 z3 z4
    dsimp only
    simp (disch := omega) only [ag_upn]
    rw [z4, z3, z2, z1]
  case h1 =>
    have f4 : ∀ z, z ≠ B + 1 → z ≠ B + 44 → (ag_up (ag_up (ag_up h4 (B + 1) (Sum.inr (Sum.inr (Sum.inr (5, [ag_R (B + 2), ag_R (B + 7), ag_R (B + 10), ag_R (B + 27), ag_N]))))) (B + 44) (Sum.inl (20, fun _ => 0))) (B + 1) (Sum.inr (Sum.inr (Sum.inr (5, [ag_R (B + 2), ag_R (B + 7), ag_R (B + 10), ag_R (B + 27), ag_R (B + 44)]))))) z = h4 z := fun z z1 z2 => by
      rw [ag_upn z1, ag_upn z2, ag_upn z1]
    have f3 : ∀ z, z ≠ B + 1 → z < B + 27 → h4 z = h3 z := fun z z1 z2 => by
      have e : h4 z = _ := g4 z z2
      rw [e, ag_upn (by omega), ag_upn z1]
    have f2 : ∀ z, z ≠ B + 1 → z < B + 10 → h3 z = h2 z := fun z z1 z2 => by
      have e : h3 z = _ := g3 z z2
      rw [e, ag_upn (by omega), ag_upn z1]
    have f1 : ∀ z, z ≠ B + 1 → z < B + 7 → h2 z = h1 z := fun z z1 z2 => by
      have e : h2 z = _ := g2 z z2
      rw [e, ag_upn (by omega), ag_upn z1]
    refine ⟨by dsimp only; exact ag_upe rfl, ag_CH_fr a1 (fun z _ _ => (f4 z (by omega) (by omega)).trans ((f3 z (by omega) (by omega)).trans ((f2 z (by omega) (by omega)).trans (f1 z (by omega) (by omega))))), ag_CQ_fr a2 (fun z _ _ => (f4 z (by omega) (by omega)).trans ((f3 z (by omega) (by omega)).trans (f2 z (by omega) (by omega)))), (f4 (B + 10) (by omega) (by omega)).trans ((f3 (B + 10) (by omega) (by omega)).trans a3), ag_CB_fr a3b (fun z _ _ => (f4 z (by omega) (by omega)).trans (f3 z (by omega) (by omega))), ag_CP_fr a3p (fun z _ _ => (f4 z (by omega) (by omega)).trans (f3 z (by omega) (by omega))), (f4 (B + 27) (by omega) (by omega)).trans a4, ag_CB_fr a4b (fun z _ _ => f4 z (by omega) (by omega)), ag_CP_fr a4p (fun z _ _ => f4 z (by omega) (by omega)), ?_⟩
    dsimp only
    rw [ag_upn (by omega), ag_upe rfl]
