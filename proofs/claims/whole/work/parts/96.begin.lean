/-! THE START: the constructors. -/
theorem ag_upn {f : Nat → Option ag_C} {a j : Nat} {x : ag_C} (hj : j ≠ a) : ag_up f a x j = f j := if_neg hj
theorem ag_upe {f : Nat → Option ag_C} {a j : Nat} {x : ag_C} (hj : j = a) : ag_up f a x j = some x := if_pos hj
theorem ag_nmk_40 : ag_nm 40 = 40 := ag_nm_of (by decide) (by decide)
theorem ag_pf_at {τ : ag_S} {a ci k : Nat} {fs : List ag_V} {v : ag_V} (h : τ.1 a = some (Sum.inr (Sum.inr (Sum.inr (ci, fs))))) (hk : k < fs.length) (ha : 1 ≤ a) (K : ag_S → Prop) : ag_pf τ a ci k v K = K (ag_up τ.1 a (Sum.inr (Sum.inr (Sum.inr (ci, fs.set k v)))), τ.2) := by
  unfold ag_pf
  rw [h]
  exact propext ⟨fun z => z.2, fun z => ⟨⟨rfl, hk, ha⟩, z⟩⟩
def ag_g0 : Nat → Nat → Int := fun _ _ => 0
theorem ag_N_Bill {f : Nat → Option ag_C} {c s : Nat} (hc : 1 ≤ c) (hf : f c = some (Sum.inr (Sum.inr (Sum.inr (0, [ag_N, ag_N, ag_N, ag_N, ag_N, ag_N, ag_N, ag_N, ag_I 0, ag_I 0]))))) : ∃ τ : ag_S, ag_CB τ c ag_g0 (ag_vB 0 0) ∧ (∀ z, z < c → τ.1 z = f z) ∧ τ.2 = (c + 8, s + 320) ∧ ∀ K, ag_cl9 3 [ag_R c] (f, (c, s)) K = K (Sum.inl none) τ := by
  refine ⟨_, ?h1, ?h2, ?h3, fun K => by
    simp (disch := omega) only [ag_e3, ag_i3_0, ag_i3_1, ag_i3_4, ag_i3_5, ag_i3_7, ag_i3_9, ag_i3_12, ag_i3_13, ag_i3_15, ag_i3_17, ag_i3_20, ag_i3_21, ag_i3_23, ag_i3_25, ag_i3_28, ag_i3_29, ag_i3_31, ag_i3_33, ag_i3_36, ag_i3_37, ag_i3_39, ag_i3_41, ag_i3_44, ag_i3_45, ag_i3_47, ag_i3_49, ag_i3_52, ag_i3_53, ag_i3_55, ag_i3_57, ag_i3_60, ag_i3_61, ag_i3_63, ag_i3_65, ag_i3_68, ag_pf, ag_upn, ag_upe, hf, Nat.add_assoc, Nat.reduceAdd, ag_nmk_40, ag_nmk_20, ag_nmk_12, ag_nmk_5, ag_nmk_100, ag_nm_1, Int.reduceLE, Int.reduceToNat, and_self, true_and, List.length_cons, List.length_nil, Nat.reduceLT, List.set_cons_zero, List.set_cons_succ, hc]
    rfl⟩
  case h3 => rfl
  case h2 =>
    intro z hz
    simp (disch := omega) only [ag_upn]
  case h1 =>
    unfold ag_CB
    refine ⟨?_, ?_, ?_, ?_, ?_, ?_, ?_, ?_, ?_⟩ <;> simp (disch := omega) only [ag_upn, ag_upe] <;> rfl
theorem ag_N_House {f : Nat → Option ag_C} {c s : Nat} (hc : 1 ≤ c) (hf : f c = some (Sum.inr (Sum.inr (Sum.inr (2, [ag_N, ag_N, ag_N, ag_N, ag_I 0, ag_I 0, ag_I 0]))))) : ∃ τ : ag_S, ag_CH τ c ag_g0 (ag_vH 0 0 (-1)) ∧ (∀ z, z < c → τ.1 z = f z) ∧ τ.2 = (c + 4, s + 115) ∧ ∀ K, ag_cl9 31 [ag_R c] (f, (c, s)) K = K (Sum.inl none) τ := by
  refine ⟨_, ?h1, ?h2, ?h3, fun K => by
    simp (disch := omega) only [ag_e31, ag_i31_0, ag_i31_1, ag_i31_4, ag_i31_5, ag_i31_6, ag_i31_8, ag_i31_11, ag_i31_12, ag_i31_13, ag_i31_15, ag_i31_18, ag_i31_19, ag_i31_20, ag_i31_22, ag_i31_25, ag_i31_26, ag_i31_28, ag_i31_30, ag_i31_33, ag_i31_34, ag_i31_35, ag_i31_38, ag_pf, ag_upn, ag_upe, hf, Nat.add_assoc, Nat.reduceAdd, ag_nmk_40, ag_nmk_20, ag_nmk_12, ag_nmk_5, ag_nmk_100, ag_nm_1, Int.reduceLE, Int.reduceToNat, and_self, true_and, List.length_cons, List.length_nil, Nat.reduceLT, List.set_cons_zero, List.set_cons_succ, hc]
    rfl⟩
  case h3 => rfl
  case h2 =>
    intro z hz
    simp (disch := omega) only [ag_upn]
  case h1 =>
    unfold ag_CH
    refine ⟨?_, ?_, ?_, ?_, ?_⟩ <;> simp (disch := omega) only [ag_upn, ag_upe] <;> rfl
theorem ag_N_Papers {f : Nat → Option ag_C} {c s : Nat} (hc : 1 ≤ c) (hf : f c = some (Sum.inr (Sum.inr (Sum.inr (3, [ag_N, ag_N, ag_N, ag_N, ag_N, ag_N, ag_I 0]))))) : ∃ τ : ag_S, ag_CP τ c ag_g0 (ag_vP 0) ∧ (∀ z, z < c → τ.1 z = f z) ∧ τ.2 = (c + 6, s + 120) ∧ ∀ K, ag_cl9 42 [ag_R c] (f, (c, s)) K = K (Sum.inl none) τ := by
  refine ⟨_, ?h1, ?h2, ?h3, fun K => by
    simp (disch := omega) only [ag_e42, ag_i42_0, ag_i42_1, ag_i42_4, ag_i42_5, ag_i42_7, ag_i42_9, ag_i42_12, ag_i42_13, ag_i42_15, ag_i42_17, ag_i42_20, ag_i42_21, ag_i42_23, ag_i42_25, ag_i42_28, ag_i42_29, ag_i42_31, ag_i42_33, ag_i42_36, ag_i42_37, ag_i42_39, ag_i42_41, ag_i42_44, ag_i42_45, ag_i42_47, ag_i42_49, ag_i42_52, ag_pf, ag_upn, ag_upe, hf, Nat.add_assoc, Nat.reduceAdd, ag_nmk_40, ag_nmk_20, ag_nmk_12, ag_nmk_5, ag_nmk_100, ag_nm_1, Int.reduceLE, Int.reduceToNat, and_self, true_and, List.length_cons, List.length_nil, Nat.reduceLT, List.set_cons_zero, List.set_cons_succ, hc]
    rfl⟩
  case h3 => rfl
  case h2 =>
    intro z hz
    simp (disch := omega) only [ag_upn]
  case h1 =>
    unfold ag_CP
    refine ⟨?_, ?_, ?_, ?_, ?_, ?_, ?_⟩ <;> simp (disch := omega) only [ag_upn, ag_upe] <;> rfl
theorem ag_N_Petitions {f : Nat → Option ag_C} {c s : Nat} (hc : 1 ≤ c) (hf : f c = some (Sum.inr (Sum.inr (Sum.inr (4, [ag_N, ag_N, ag_I 0]))))) : ∃ τ : ag_S, ag_CQ τ c ag_g0 (ag_vP 0) ∧ (∀ z, z < c → τ.1 z = f z) ∧ τ.2 = (c + 2, s + 24) ∧ ∀ K, ag_cl9 53 [ag_R c] (f, (c, s)) K = K (Sum.inl none) τ := by
  refine ⟨_, ?h1, ?h2, ?h3, fun K => by
    simp (disch := omega) only [ag_e53, ag_i53_0, ag_i53_1, ag_i53_4, ag_i53_5, ag_i53_7, ag_i53_9, ag_i53_12, ag_i53_13, ag_i53_15, ag_i53_17, ag_i53_20, ag_pf, ag_upn, ag_upe, hf, Nat.add_assoc, Nat.reduceAdd, ag_nmk_40, ag_nmk_20, ag_nmk_12, ag_nmk_5, ag_nmk_100, ag_nm_1, Int.reduceLE, Int.reduceToNat, and_self, true_and, List.length_cons, List.length_nil, Nat.reduceLT, List.set_cons_zero, List.set_cons_succ, hc]
    rfl⟩
  case h3 => rfl
  case h2 =>
    intro z hz
    simp (disch := omega) only [ag_upn]
  case h1 =>
    unfold ag_CQ
    refine ⟨?_, ?_, ?_⟩ <;> simp (disch := omega) only [ag_upn, ag_upe] <;> rfl
theorem ag_N_Model {f : Nat → Option ag_C} {c s : Nat} (hc : 1 ≤ c) (hf : f c = some (Sum.inr (Sum.inr (Sum.inr (6, [ag_I 0, ag_I 0, ag_I 0, ag_I 0, ag_N, ag_N, ag_N, ag_N, ag_N, ag_N, ag_N, ag_N, ag_N, ag_N, ag_N, ag_N, ag_I 0, ag_N, ag_I 0, ag_I 0, ag_N, ag_N, ag_N, ag_N, ag_I 0]))))) : ∃ τ : ag_S, (τ.1 c = some (ag_mO (fun k => c + 1 + k) (ag_mv 0 0 0 0 0 0 0 (-1))) ∧ ∀ k, k < 17 → τ.1 (c + 1 + k) = some (Sum.inl (ag_mL k, fun _ => 0))) ∧ (∀ z, z < c → τ.1 z = f z) ∧ τ.2 = (c + 17, s + 459) ∧ ∀ K, ag_cl9 97 [ag_R c] (f, (c, s)) K = K (Sum.inl none) τ := by
  refine ⟨_, ?h1, ?h2, ?h3, fun K => by
    simp (disch := omega) only [ag_e97, ag_i97_0, ag_i97_1, ag_i97_4, ag_i97_5, ag_i97_7, ag_i97_9, ag_i97_12, ag_i97_13, ag_i97_15, ag_i97_17, ag_i97_20, ag_i97_21, ag_i97_23, ag_i97_25, ag_i97_28, ag_i97_29, ag_i97_31, ag_i97_33, ag_i97_36, ag_i97_37, ag_i97_39, ag_i97_41, ag_i97_44, ag_i97_45, ag_i97_47, ag_i97_49, ag_i97_52, ag_i97_53, ag_i97_55, ag_i97_57, ag_i97_60, ag_i97_61, ag_i97_63, ag_i97_65, ag_i97_68, ag_i97_69, ag_i97_71, ag_i97_73, ag_i97_76, ag_i97_77, ag_i97_79, ag_i97_81, ag_i97_84, ag_i97_85, ag_i97_87, ag_i97_89, ag_i97_92, ag_i97_93, ag_i97_95, ag_i97_97, ag_i97_100, ag_i97_101, ag_i97_103, ag_i97_105, ag_i97_108, ag_i97_109, ag_i97_110, ag_i97_112, ag_i97_115, ag_i97_116, ag_i97_117, ag_i97_119, ag_i97_122, ag_i97_123, ag_i97_124, ag_i97_126, ag_i97_129, ag_i97_130, ag_i97_132, ag_i97_134, ag_i97_137, ag_i97_138, ag_i97_139, ag_i97_142, ag_pf, ag_upn, ag_upe, hf, Nat.add_assoc, Nat.reduceAdd, ag_nmk_40, ag_nmk_20, ag_nmk_12, ag_nmk_5, ag_nmk_100, ag_nm_1, Int.reduceLE, Int.reduceToNat, and_self, true_and, List.length_cons, List.length_nil, Nat.reduceLT, List.set_cons_zero, List.set_cons_succ, hc]
    rfl⟩
  case h3 => rfl
  case h2 =>
    intro z hz
    simp (disch := omega) only [ag_upn]
  case h1 =>
    refine ⟨?_, fun k hk => ?_⟩
    · simp (disch := omega) only [ag_upn, ag_upe]
      rfl
    · obtain rfl | rfl | rfl | rfl | rfl | rfl | rfl | rfl | rfl | rfl | rfl | rfl | rfl | rfl | rfl | rfl | rfl : k = 0 ∨ k = 1 ∨ k = 2 ∨ k = 3 ∨ k = 4 ∨ k = 5 ∨ k = 6 ∨ k = 7 ∨ k = 8 ∨ k = 9 ∨ k = 10 ∨ k = 11 ∨ k = 12 ∨ k = 13 ∨ k = 14 ∨ k = 15 ∨ k = 16 := by omega
      all_goals simp (disch := omega) only [ag_upn, ag_upe] <;> rfl
theorem ag_N_Course {f : Nat → Option ag_C} {c s : Nat} (hc : 7 ≤ c) (hf : f c = some (Sum.inr (Sum.inr (Sum.inr (1, [ag_N, ag_N, ag_N]))))) : ∃ τ : ag_S, τ.1 c = some (Sum.inr (Sum.inr (Sum.inr (1, [ag_R (c + 1), ag_R (c + 10), ag_R 2])))) ∧ ag_CB τ (c + 1) ag_g0 (ag_vB 0 0) ∧ ag_CP τ (c + 10) ag_g0 (ag_vP 0) ∧ (∀ z, z < c → τ.1 z = f z) ∧ τ.2 = (c + 16, s + 457) ∧ ∀ K, ag_cl9 19 [ag_R c, ag_R 2] (f, (c, s)) K = K (Sum.inl none) τ := by
  obtain ⟨t1, a1, a2, a3, a4⟩ := ag_N_Bill (f := ag_up f (c + 1) (Sum.inr (Sum.inr (Sum.inr (0, [ag_N, ag_N, ag_N, ag_N, ag_N, ag_N, ag_N, ag_N, ag_I 0, ag_I 0]))))) (c := c + 1) (s := s + 10) (by omega) (ag_upe rfl)
  have b1 : t1.1 c = some (Sum.inr (Sum.inr (Sum.inr (1, [ag_N, ag_N, ag_N])))) := by rw [a2 c (by omega), ag_upn (by omega), hf]
  obtain ⟨h1, c1, s1⟩ := t1
  cases a3
  obtain ⟨t2, d1, d2, d3, d4⟩ := ag_N_Papers (f := ag_up (ag_up h1 c (Sum.inr (Sum.inr (Sum.inr (1, [ag_R (c + 1), ag_N, ag_N]))))) (c + 10) (Sum.inr (Sum.inr (Sum.inr (3, [ag_N, ag_N, ag_N, ag_N, ag_N, ag_N, ag_I 0]))))) (c := c + 10) (s := s + 10 + 320 + 7) (by omega) (ag_upe rfl)
  have b2 : t2.1 c = some (Sum.inr (Sum.inr (Sum.inr (1, [ag_R (c + 1), ag_N, ag_N])))) := by rw [d2 c (by omega), ag_upn (by omega), ag_upe rfl]
  obtain ⟨h2, c2, s2⟩ := t2
  cases d3
  have p1 := fun K => ag_pf_at (k := 0) (v := ag_R (c + 1)) b1 (Nat.le_of_ble_eq_true rfl) (by omega) K
  have p2 := fun K => ag_pf_at (k := 1) (v := ag_R (c + 10)) b2 (Nat.le_of_ble_eq_true rfl) (by omega) K
  have b3 : (ag_up h2 c (Sum.inr (Sum.inr (Sum.inr (1, [ag_R (c + 1), ag_R (c + 10), ag_N])))), (c + 16, s + 457)).1 c = some (Sum.inr (Sum.inr (Sum.inr (1, [ag_R (c + 1), ag_R (c + 10), ag_N])))) := ag_upe rfl
  have p3 := fun K => ag_pf_at (k := 2) (v := ag_R 2) b3 (Nat.le_of_ble_eq_true rfl) (by omega) K
  simp only [List.set_cons_zero, List.set_cons_succ] at p1 p2 p3
  simp only [Nat.add_assoc, Nat.reduceAdd] at a4 d4 p1 p2 p3
  refine ⟨_, ?h1, ?h2, ?h3, ?h4, ?h5, fun K => by
    simp only [ag_e19, ag_i19_0, ag_i19_1, ag_i19_4, ag_i19_5, ag_i19_8, ag_i19_9, ag_i19_12, ag_i19_15, ag_i19_16, ag_i19_19, ag_i19_20, ag_i19_23, ag_i19_26, ag_i19_27, ag_i19_28, ag_i19_31, ag_kk_v, ag_kk_n, Nat.reduceAdd, a4, d4, p1, p2, p3, Nat.add_assoc, Nat.reduceAdd]
    rfl⟩
  case h5 => rfl
  case h4 =>
    intro z hz
    show ag_up _ c _ z = f z
    simp (disch := omega) only [ag_upn]
    have e1 := d2 z (by omega)
    have e2 := a2 z (by omega)
    simp (disch := omega) only [ag_upn] at e1 e2
    exact e1.trans e2
  case h3 => exact ag_CP_fr d1 (fun z z1 z2 => by simp (disch := omega) only [ag_upn])
  case h2 =>
    refine ag_CB_fr a1 (fun z z1 z2 => ?_)
    have e1 := d2 z (by omega)
    simp (disch := omega) only [ag_upn] at e1 ⊢
    exact e1
  case h1 => exact ag_upe rfl
