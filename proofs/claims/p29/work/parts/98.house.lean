/-! THE START OF A HOUSE. -/
variable {B : Nat}
theorem ag_mnn {h : Nat → Option ag_C} {q n k z : Nat} (hz : z < q) : ag_mn h q n k z = h z := by
  unfold ag_mn
  rw [if_neg (by omega), if_neg (by omega)]
theorem ag_mn_q {h : Nat → Option ag_C} {q n k z : Nat} (hz : z = q) : ag_mn h q n k z = some (Sum.inr (Sum.inr (Sum.inl (n, fun i => if i < n then some (q + 1 + i) else none)))) := by
  unfold ag_mn
  rw [if_pos hz]
theorem ag_mn_i {h : Nat → Option ag_C} {q n k z : Nat} (hz : q < z ∧ z ≤ q + n) : ag_mn h q n k z = some (Sum.inl (k, fun _ => 0)) := by
  unfold ag_mn
  rw [if_neg (by omega), if_pos hz]
def ag_L0 (B : Nat) : Nat → Nat := fun r => if r = 1 then B + 45 else if r = 2 then B + 46 else if r = 3 then B + 88 else if r = 4 then B + 89 else if r = 5 then B + 93 else if r = 6 then B + 90 else if r = 7 then B + 91 else if r = 8 then B + 92 else if r = 9 then B + 94 else B + 47 + (r - 200)
def ag_ln0 : Nat → Nat := fun r => if r = 2 then 41 else 0
theorem ag_hlw0 {r : Nat} (h : ag_hlw ag_ln0 r) : (1 ≤ r ∧ r ≤ 8) ∨ (200 ≤ r ∧ r ≤ 240) := by
  unfold ag_hlw ag_hlv ag_ln0 at h
  simp only [Nat.reduceEqDiff, ↓reduceIte] at h
  omega
theorem ag_L0_200 {r : Nat} (h : 200 ≤ r) : ag_L0 B r = B + 47 + (r - 200) := by
  unfold ag_L0
  rw [if_neg (by omega), if_neg (by omega), if_neg (by omega), if_neg (by omega), if_neg (by omega), if_neg (by omega), if_neg (by omega), if_neg (by omega), if_neg (by omega)]
theorem ag_L0_in {r : Nat} (h : (1 ≤ r ∧ r ≤ 8) ∨ (200 ≤ r ∧ r ≤ 240)) : B + 45 ≤ ag_L0 B r ∧ ag_L0 B r ≤ B + 94 := by
  unfold ag_L0
  repeat' split
  all_goals omega
theorem ag_L0_inj {r r' : Nat} (h : (1 ≤ r ∧ r ≤ 8) ∨ (200 ≤ r ∧ r ≤ 240)) (h' : (1 ≤ r' ∧ r' ≤ 8) ∨ (200 ≤ r' ∧ r' ≤ 240)) (e : ag_L0 B r = ag_L0 B r') : r = r' := by
  rcases h with h | h
  · rcases h' with h' | h'
    · have h1 : r = 1 ∨ r = 2 ∨ r = 3 ∨ r = 4 ∨ r = 5 ∨ r = 6 ∨ r = 7 ∨ r = 8 := by omega
      have h2 : r' = 1 ∨ r' = 2 ∨ r' = 3 ∨ r' = 4 ∨ r' = 5 ∨ r' = 6 ∨ r' = 7 ∨ r' = 8 := by omega
      rcases h1 with q | q | q | q | q | q | q | q <;> rcases h2 with p | p | p | p | p | p | p | p <;> subst q <;> subst p <;> simp only [ag_L0, Nat.reduceEqDiff, ↓reduceIte] at e <;> omega
    · rw [ag_L0_200 h'.1] at e
      have h1 : r = 1 ∨ r = 2 ∨ r = 3 ∨ r = 4 ∨ r = 5 ∨ r = 6 ∨ r = 7 ∨ r = 8 := by omega
      rcases h1 with q | q | q | q | q | q | q | q <;> subst q <;> simp only [ag_L0, Nat.reduceEqDiff, ↓reduceIte] at e <;> omega
  · rcases h' with h' | h'
    · rw [ag_L0_200 h.1] at e
      have h1 : r' = 1 ∨ r' = 2 ∨ r' = 3 ∨ r' = 4 ∨ r' = 5 ∨ r' = 6 ∨ r' = 7 ∨ r' = 8 := by omega
      rcases h1 with q | q | q | q | q | q | q | q <;> subst q <;> simp only [ag_L0, Nat.reduceEqDiff, ↓reduceIte] at e <;> omega
    · rw [ag_L0_200 h.1, ag_L0_200 h'.1] at e
      omega
theorem ag_nm_41 : ag_nm 41 = 41 := by decide +kernel
theorem ag_N_LHouse {f : Nat → Option ag_C} {s : Nat} {d : Int} (hB : 1 ≤ B) (hf : f B = some (Sum.inr (Sum.inr (Sum.inr (6, [ag_N, ag_N, ag_I 0, ag_N, ag_N, ag_N, ag_N, ag_N, ag_N, ag_N, ag_I 0, ag_I 0, ag_N, ag_N]))))) (h0 : ∃ n g, n ≤ 1000 ∧ f 0 = some (Sum.inl (n, g))) (hd : 0 ≤ d ∧ d ≤ 1000) :
    ∃ τ : ag_S, ag_HS B τ (ag_L0 B) ag_ln0 ag_g0 d 0 (-1) ∧ ag_CX B τ (ag_g0, ag_vH 0 0 (-1)) (ag_g0, ag_vP 0) (ag_g0, (0, (0, ag_g0))) 0 (ag_g0, (0, (0, ag_g0))) 0 (fun _ => 0) ∧ (∀ z, z < B → τ.1 z = f z) ∧ τ.2 = (B + 94, s + 1135) ∧ ∀ K : ag_Rs → ag_S → Prop, ag_cl9 95 [ag_R B, ag_R 0, ag_I d] (f, (B, s)) K = K (Sum.inl none) τ := by
  obtain ⟨t1, hX, g1, e1, k1⟩ := ag_N_Office (B := B) (f := ag_up f (B + 1) (Sum.inr (Sum.inr (Sum.inr (5, [ag_N, ag_N, ag_N, ag_N, ag_N]))))) (s := s + 5) (ag_upe rfl)
  obtain ⟨h1, c1, s1⟩ := t1
  cases e1
  have b1 : h1 B = some (Sum.inr (Sum.inr (Sum.inr (6, [ag_N, ag_N, ag_I 0, ag_N, ag_N, ag_N, ag_N, ag_N, ag_N, ag_N, ag_I 0, ag_I 0, ag_N, ag_N])))) := (g1 B (Nat.le_refl _)).trans ((ag_upn (by omega)).trans hf)
  simp only [Nat.add_assoc, Nat.reduceAdd] at k1
  refine ⟨_, ?h1, ?h2, ?h3, ?h4, fun K => by
    simp (disch := omega) only [ag_e95, ag_i95_0, ag_i95_1, ag_i95_4, ag_i95_5, ag_i95_8, ag_i95_9, ag_i95_12, ag_i95_15, ag_i95_16, ag_i95_17, ag_i95_20, ag_i95_23, ag_i95_24, ag_i95_26, ag_i95_27, ag_i95_31, ag_i95_34, ag_i95_35, ag_i95_36, ag_i95_39, ag_i95_42, ag_i95_43, ag_i95_44, ag_i95_47, ag_i95_50, ag_i95_51, ag_i95_52, ag_i95_54, ag_i95_57, ag_i95_58, ag_i95_59, ag_i95_61, ag_i95_64, ag_i95_65, ag_i95_66, ag_i95_68, ag_i95_71, ag_i95_72, ag_i95_73, ag_i95_76, ag_i95_77, ag_i95_78, ag_i95_81, ag_i95_84, ag_i95_85, ag_i95_86, ag_i95_88, ag_i95_91, ag_i95_92, ag_i95_93, ag_i95_96, ag_i95_97, ag_i95_98, ag_i95_101, ag_kk_v, ag_kk_n, Nat.reduceAdd, k1, ag_pf, ag_upn, ag_upe, ag_mnn, b1, Nat.add_assoc, Nat.reduceAdd, ag_nm_41, ag_nm_z, Int.reduceLE, Int.reduceToNat, and_self, true_and, List.length_cons, List.length_nil, Nat.reduceLT, List.set_cons_zero, List.set_cons_succ, hB, Nat.mul_zero, Nat.add_zero, show ag_mu (ag_ow 95) 22 = true from rfl]
    rfl⟩
  case h4 => rfl
  case h3 =>
    intro z hz
    have z1 : h1 z = _ := g1 z (by omega)
    simp (disch := omega) only [ag_upn] at z1
    dsimp only
    simp (disch := omega) only [ag_upn, ag_mnn]
    exact z1
  case h2 =>
    refine ag_CX_fr hX (fun z z1 z2 => ?_)
    dsimp only
    simp (disch := omega) only [ag_upn, ag_mnn]
  case h1 =>
    refine ⟨?_, fun r r1 r2 => ?_, fun r hr => ?_, fun r r' hr hr' e => ag_L0_inj (ag_hlw0 hr) (ag_hlw0 hr') e, fun r hr => ?_, ⟨hB, by dsimp only; omega⟩, fun r i => ⟨by show (-100000 : Int) ≤ 0; decide, by show (0 : Int) ≤ 100000; decide⟩, fun r r1 r2 => ?_, ?_, ⟨hd.1, by omega⟩⟩
    · dsimp only
      simp (disch := omega) only [ag_upe]
      rfl
    · have h5 : r = 1 ∨ r = 2 ∨ r = 3 ∨ r = 4 ∨ r = 5 := by omega
      rcases h5 with h5 | h5 | h5 | h5 | h5 <;> subst h5
      · refine ⟨fun _ => none, ?_, fun i hi => absurd hi (Nat.not_lt_zero i)⟩
        show _ = some (Sum.inr (Sum.inr (Sum.inl (0, fun _ => none))))
        dsimp only [ag_L0]
        simp (disch := omega) only [Nat.reduceEqDiff, ↓reduceIte, ag_upn, ag_upe, ag_mnn]
      · refine ⟨fun i => if i < 41 then some (B + 46 + 1 + i) else none, ?_, fun i hi => ?_⟩
        · show _ = some (Sum.inr (Sum.inr (Sum.inl (41, _))))
          dsimp only [ag_L0]
          simp (disch := omega) only [Nat.reduceEqDiff, ↓reduceIte, ag_upn, ag_upe, ag_mn_q]
        · have hi : i < 41 := hi
          dsimp only
          rw [if_pos hi, ag_L0_200 (by omega), show B + 46 + 1 + i = B + 47 + (100 * 2 + i - 200) by omega]
      · refine ⟨fun _ => none, ?_, fun i hi => absurd hi (Nat.not_lt_zero i)⟩
        show _ = some (Sum.inr (Sum.inr (Sum.inl (0, fun _ => none))))
        dsimp only [ag_L0]
        simp (disch := omega) only [Nat.reduceEqDiff, ↓reduceIte, ag_upn, ag_upe, ag_mnn]
      · refine ⟨fun _ => none, ?_, fun i hi => absurd hi (Nat.not_lt_zero i)⟩
        show _ = some (Sum.inr (Sum.inr (Sum.inl (0, fun _ => none))))
        dsimp only [ag_L0]
        simp (disch := omega) only [Nat.reduceEqDiff, ↓reduceIte, ag_upn, ag_upe, ag_mnn]
      · refine ⟨fun _ => none, ?_, fun i hi => absurd hi (Nat.not_lt_zero i)⟩
        show _ = some (Sum.inr (Sum.inr (Sum.inl (0, fun _ => none))))
        dsimp only [ag_L0]
        simp (disch := omega) only [Nat.reduceEqDiff, ↓reduceIte, ag_upn, ag_upe, ag_mnn]
    · have hq := ag_hlw0 (Or.inr hr)
      have h6 := ag_hlv_6 hr
      have h9 : r = 6 ∨ r = 7 ∨ r = 8 ∨ (200 ≤ r ∧ r ≤ 240) := by omega
      rcases h9 with h9 | h9 | h9 | h9
      · subst h9
        show _ = some (Sum.inl (0, fun _ => 0))
        dsimp only [ag_L0]
        simp (disch := omega) only [Nat.reduceEqDiff, ↓reduceIte, ag_upn, ag_upe, ag_mnn]
      · subst h9
        show _ = some (Sum.inl (0, fun _ => 0))
        dsimp only [ag_L0]
        simp (disch := omega) only [Nat.reduceEqDiff, ↓reduceIte, ag_upn, ag_upe, ag_mnn]
      · subst h9
        show _ = some (Sum.inl (0, fun _ => 0))
        dsimp only [ag_L0]
        simp (disch := omega) only [Nat.reduceEqDiff, ↓reduceIte, ag_upn, ag_upe, ag_mnn]
      · have hl : ag_ln0 r = 0 := if_neg (by omega)
        rw [ag_L0_200 h9.1, hl]
        show _ = some (Sum.inl (0, fun _ => 0))
        dsimp only
        simp (disch := omega) only [ag_upn, ag_mn_i]
    · have := ag_L0_in (B := B) (ag_hlw0 hr)
      dsimp only
      omega
    · unfold ag_ln0
      split <;> omega
    · obtain ⟨n, g, n1, n2⟩ := h0
      refine ⟨n, g, n1, ?_⟩
      have z1 : h1 0 = _ := g1 0 (by omega)
      simp (disch := omega) only [ag_upn] at z1
      dsimp only
      simp (disch := omega) only [ag_upn, ag_mnn]
      exact z1.trans n2
/-- the world at its start -/
theorem ag_W0 {f : Nat → Option ag_C} {s : Nat} {d : Int} (hB : 1 ≤ B) (hf : f B = some (Sum.inr (Sum.inr (Sum.inr (6, [ag_N, ag_N, ag_I 0, ag_N, ag_N, ag_N, ag_N, ag_N, ag_N, ag_N, ag_I 0, ag_I 0, ag_N, ag_N]))))) (h0 : ∃ n g, n ≤ 1000 ∧ f 0 = some (Sum.inl (n, g))) (hd : 0 ≤ d ∧ d ≤ 1000) :
    ∃ τ : ag_S, ag_Wc B τ 0 0 0 ∧ (∀ z, z < B → τ.1 z = f z) ∧ τ.2 = (B + 94, s + 1135) ∧ ∀ K : ag_Rs → ag_S → Prop, ag_cl9 95 [ag_R B, ag_R 0, ag_I d] (f, (B, s)) K = K (Sum.inl none) τ := by
  obtain ⟨τ, h1, h2, h3, h4, h5⟩ := ag_N_LHouse (s := s) hB hf h0 hd
  have sm0 : ag_sm ag_g0 := fun i j => ⟨by show (-100000 : Int) ≤ 0; decide, by show (0 : Int) ≤ 100000; decide⟩
  have hIV : ag_IV (ag_g0, (0, (0, ag_g0))) 0 := ⟨⟨⟨fun _ _ _ => rfl, sm0, Nat.le_refl _, by decide⟩, fun i hi => absurd hi (Nat.not_lt_zero i), fun c hc => absurd hc (Nat.not_lt_zero c), fun i hi => absurd hi (Nat.not_lt_zero i)⟩, ⟨⟨fun _ _ _ => rfl, sm0, by decide⟩, fun c hc => absurd hc (Nat.not_lt_zero c), fun a ha => absurd ha (Nat.not_lt_zero a)⟩, fun a ha => absurd ha (Nat.not_lt_zero a)⟩
  refine ⟨τ, ⟨d, -1, (ag_g0, (0, (0, ag_g0))), ag_g0, 0, ag_g0, 0, ⟨_, _, _, _, _, _, h1, h2, ⟨fun _ _ _ => rfl, fun _ => ⟨by show (-100000 : Int) ≤ 0; decide, by show (0 : Int) ≤ 100000; decide⟩, fun _ _ _ => rfl⟩, ?_, ⟨rfl, fun b hb => absurd hb (Nat.not_lt_zero b)⟩, ⟨rfl, fun b hb => absurd hb (Nat.not_lt_zero b)⟩, ⟨rfl, fun b hb => absurd hb (Nat.not_lt_zero b)⟩, ⟨rfl, rfl, rfl, fun p hp => absurd hp (Nat.not_lt_zero p)⟩⟩, ⟨hIV, ?_, ⟨sm0, by decide, fun p hp => absurd hp (Nat.not_lt_zero p)⟩, fun j => ⟨by show (-1 : Int) ≤ 0; decide, by show (0 : Int) ≤ 1; decide⟩, fun _ _ _ _ _ => rfl, fun _ _ => ⟨rfl, rfl⟩, ?_, ?_, ?_⟩, by omega, fun c hc => absurd hc (Nat.not_lt_zero c), fun z => absurd z (by decide)⟩, h3, h4, h5⟩
  · refine ⟨rfl, rfl, fun c hc => absurd hc (Nat.not_lt_zero c), ?_, fun k hk => ?_⟩
    · rfl
    · unfold ag_kds
      have e : ag_ln0 (200 + k) = 0 := if_neg (by omega)
      rw [e]
      rfl
  · refine ⟨sm0, by decide, ⟨by decide, by decide⟩, ⟨by decide, by decide⟩, fun p hp => absurd hp (Nat.not_lt_zero p), fun p => ⟨by show (0 : Int) ≤ 0; decide, by show (0 : Int) ≤ 300; decide⟩⟩
  · intro p
    refine ⟨?_, ?_, ?_⟩
    · show (0 : Int) ≤ 0; decide
    · show 2 * (0 : Int) ≤ 300 * ((0 : Nat) : Int); decide
    · show 2 * (0 : Int) + -1 ≤ 300 * ((0 : Nat) : Int); decide
  · show (0 : Int) ≤ 300
    decide
  · exact ⟨fun b hb => absurd hb (Nat.not_lt_zero b), fun b hb => absurd hb (Nat.not_lt_zero b), fun c hc => absurd hc (Nat.not_lt_zero c), fun b hb => absurd hb (Nat.not_lt_zero b)⟩
