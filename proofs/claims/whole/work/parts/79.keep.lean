/-! THE REFERENCE: keep and putBack (by program, wip/whole/gen_79.py). -/
def ag_ur (ρ : Nat → Nat) (k x : Nat) : Nat → Nat := fun j => if j = k then x else ρ j
theorem ag_ur_eq (ρ : Nat → Nat) (k x : Nat) : ag_ur ρ k x k = x := if_pos rfl
theorem ag_ur_ne {ρ : Nat → Nat} {k x j : Nat} (h : j ≠ k) : ag_ur ρ k x j = ρ j := if_neg h
theorem ag_SM_of {τ : ag_S} {a N : Nat} {ρ : Nat → Nat} {g : Nat → Nat → Int} {v : Nat → Int} (h : ag_mi a ρ N) (h0 : τ.1 a = some (ag_mO ρ v)) (h1 : ∀ k, k < 17 → τ.1 (ρ k) = some (Sum.inl (ag_mL k, g k))) : ag_SM τ a ρ g v = τ := by
  refine Prod.ext (funext fun z => ?_) rfl
  unfold ag_SM
  dsimp only
  by_cases ha : z = a
  · rw [if_pos ha, ha, h0]
  · rw [if_neg ha]
    cases hf : ag_mF ρ z with
    | none => rfl
    | some k =>
      have h2 := List.find?_some hf
      have h3 := List.mem_range.mp (List.mem_of_find?_eq_some hf)
      have h2 : ρ k = z := by simpa using h2
      dsimp only
      rw [← h2, h1 k h3]
theorem ag_qs_at {σ : ag_S} {z x n n2 i : Nat} {fa : Nat → Option Nat} {f : Nat → Int} (h1 : σ.1 z = some (Sum.inr (Sum.inr (Sum.inl (n, fa))))) (h2 : σ.1 x = some (Sum.inl (n2, f))) (hz : 1 ≤ z) (hx : 1 ≤ x) {y : Int} (hy : ag_nm y = i) (hi : i < n) (K : ag_S → Prop) : ag_qs σ z y x K = K (ag_up σ.1 z (Sum.inr (Sum.inr (Sum.inl (n, ag_uq fa i (some x))))), σ.2) := by
  unfold ag_qs
  rw [h1]
  dsimp only
  rw [h2]
  dsimp only
  rw [hy, Int.toNat_natCast]
  exact propext ⟨fun h => h.2, fun h => ⟨⟨by omega, by omega, hz, hx⟩, h⟩⟩
theorem ag_qa_at {σ : ag_S} {z n i x : Nat} {fa : Nat → Option Nat} (h1 : σ.1 z = some (Sum.inr (Sum.inr (Sum.inl (n, fa))))) {y : Int} (hy : ag_nm y = i) (hi : i < n) (hx : fa i = some x) (K : Nat → Prop) : ag_qa σ z y K = K x := by
  unfold ag_qa
  rw [h1]
  dsimp only
  rw [hy, Int.toNat_natCast, hx]
  exact propext ⟨fun h => h.2, fun h => ⟨⟨by omega, by omega⟩, h⟩⟩
theorem ag_pr_0 {τ : ag_S} {a : Nat} {ρ : Nat → Nat} {v : Nat → Int} (h : τ.1 a = some (ag_mO ρ v)) (ha : 1 ≤ a) (x : Nat) (K : ag_S → Prop) : ag_pf τ a 6 4 (ag_R x) K = K (ag_up τ.1 a (ag_mO (ag_ur ρ 0 x) v), τ.2) := by
  unfold ag_pf
  rw [h]
  have e : (Sum.inr (Sum.inr (Sum.inr (6, ([ag_I (v 0), ag_I (v 1), ag_I (v 2), ag_I (v 3), ag_R (ρ 0), ag_R (ρ 1), ag_R (ρ 2), ag_R (ρ 3), ag_R (ρ 4), ag_R (ρ 5), ag_R (ρ 6), ag_R (ρ 7), ag_R (ρ 8), ag_R (ρ 9), ag_R (ρ 10), ag_R (ρ 11), ag_I (v 4), ag_R (ρ 12), ag_I (v 5), ag_I (v 6), ag_R (ρ 13), ag_R (ρ 14), ag_R (ρ 15), ag_R (ρ 16), ag_I (v 7)] : List ag_V).set 4 (ag_R x)))) : ag_C) = ag_mO (ag_ur ρ 0 x) v := by
    simp [ag_mO, ag_ur]
  rw [← e]
  unfold ag_mO
  simp [ha]
theorem ag_pr_1 {τ : ag_S} {a : Nat} {ρ : Nat → Nat} {v : Nat → Int} (h : τ.1 a = some (ag_mO ρ v)) (ha : 1 ≤ a) (x : Nat) (K : ag_S → Prop) : ag_pf τ a 6 5 (ag_R x) K = K (ag_up τ.1 a (ag_mO (ag_ur ρ 1 x) v), τ.2) := by
  unfold ag_pf
  rw [h]
  have e : (Sum.inr (Sum.inr (Sum.inr (6, ([ag_I (v 0), ag_I (v 1), ag_I (v 2), ag_I (v 3), ag_R (ρ 0), ag_R (ρ 1), ag_R (ρ 2), ag_R (ρ 3), ag_R (ρ 4), ag_R (ρ 5), ag_R (ρ 6), ag_R (ρ 7), ag_R (ρ 8), ag_R (ρ 9), ag_R (ρ 10), ag_R (ρ 11), ag_I (v 4), ag_R (ρ 12), ag_I (v 5), ag_I (v 6), ag_R (ρ 13), ag_R (ρ 14), ag_R (ρ 15), ag_R (ρ 16), ag_I (v 7)] : List ag_V).set 5 (ag_R x)))) : ag_C) = ag_mO (ag_ur ρ 1 x) v := by
    simp [ag_mO, ag_ur]
  rw [← e]
  unfold ag_mO
  simp [ha]
theorem ag_pr_2 {τ : ag_S} {a : Nat} {ρ : Nat → Nat} {v : Nat → Int} (h : τ.1 a = some (ag_mO ρ v)) (ha : 1 ≤ a) (x : Nat) (K : ag_S → Prop) : ag_pf τ a 6 6 (ag_R x) K = K (ag_up τ.1 a (ag_mO (ag_ur ρ 2 x) v), τ.2) := by
  unfold ag_pf
  rw [h]
  have e : (Sum.inr (Sum.inr (Sum.inr (6, ([ag_I (v 0), ag_I (v 1), ag_I (v 2), ag_I (v 3), ag_R (ρ 0), ag_R (ρ 1), ag_R (ρ 2), ag_R (ρ 3), ag_R (ρ 4), ag_R (ρ 5), ag_R (ρ 6), ag_R (ρ 7), ag_R (ρ 8), ag_R (ρ 9), ag_R (ρ 10), ag_R (ρ 11), ag_I (v 4), ag_R (ρ 12), ag_I (v 5), ag_I (v 6), ag_R (ρ 13), ag_R (ρ 14), ag_R (ρ 15), ag_R (ρ 16), ag_I (v 7)] : List ag_V).set 6 (ag_R x)))) : ag_C) = ag_mO (ag_ur ρ 2 x) v := by
    simp [ag_mO, ag_ur]
  rw [← e]
  unfold ag_mO
  simp [ha]
theorem ag_pr_3 {τ : ag_S} {a : Nat} {ρ : Nat → Nat} {v : Nat → Int} (h : τ.1 a = some (ag_mO ρ v)) (ha : 1 ≤ a) (x : Nat) (K : ag_S → Prop) : ag_pf τ a 6 7 (ag_R x) K = K (ag_up τ.1 a (ag_mO (ag_ur ρ 3 x) v), τ.2) := by
  unfold ag_pf
  rw [h]
  have e : (Sum.inr (Sum.inr (Sum.inr (6, ([ag_I (v 0), ag_I (v 1), ag_I (v 2), ag_I (v 3), ag_R (ρ 0), ag_R (ρ 1), ag_R (ρ 2), ag_R (ρ 3), ag_R (ρ 4), ag_R (ρ 5), ag_R (ρ 6), ag_R (ρ 7), ag_R (ρ 8), ag_R (ρ 9), ag_R (ρ 10), ag_R (ρ 11), ag_I (v 4), ag_R (ρ 12), ag_I (v 5), ag_I (v 6), ag_R (ρ 13), ag_R (ρ 14), ag_R (ρ 15), ag_R (ρ 16), ag_I (v 7)] : List ag_V).set 7 (ag_R x)))) : ag_C) = ag_mO (ag_ur ρ 3 x) v := by
    simp [ag_mO, ag_ur]
  rw [← e]
  unfold ag_mO
  simp [ha]
theorem ag_pr_4 {τ : ag_S} {a : Nat} {ρ : Nat → Nat} {v : Nat → Int} (h : τ.1 a = some (ag_mO ρ v)) (ha : 1 ≤ a) (x : Nat) (K : ag_S → Prop) : ag_pf τ a 6 8 (ag_R x) K = K (ag_up τ.1 a (ag_mO (ag_ur ρ 4 x) v), τ.2) := by
  unfold ag_pf
  rw [h]
  have e : (Sum.inr (Sum.inr (Sum.inr (6, ([ag_I (v 0), ag_I (v 1), ag_I (v 2), ag_I (v 3), ag_R (ρ 0), ag_R (ρ 1), ag_R (ρ 2), ag_R (ρ 3), ag_R (ρ 4), ag_R (ρ 5), ag_R (ρ 6), ag_R (ρ 7), ag_R (ρ 8), ag_R (ρ 9), ag_R (ρ 10), ag_R (ρ 11), ag_I (v 4), ag_R (ρ 12), ag_I (v 5), ag_I (v 6), ag_R (ρ 13), ag_R (ρ 14), ag_R (ρ 15), ag_R (ρ 16), ag_I (v 7)] : List ag_V).set 8 (ag_R x)))) : ag_C) = ag_mO (ag_ur ρ 4 x) v := by
    simp [ag_mO, ag_ur]
  rw [← e]
  unfold ag_mO
  simp [ha]
theorem ag_pr_7 {τ : ag_S} {a : Nat} {ρ : Nat → Nat} {v : Nat → Int} (h : τ.1 a = some (ag_mO ρ v)) (ha : 1 ≤ a) (x : Nat) (K : ag_S → Prop) : ag_pf τ a 6 11 (ag_R x) K = K (ag_up τ.1 a (ag_mO (ag_ur ρ 7 x) v), τ.2) := by
  unfold ag_pf
  rw [h]
  have e : (Sum.inr (Sum.inr (Sum.inr (6, ([ag_I (v 0), ag_I (v 1), ag_I (v 2), ag_I (v 3), ag_R (ρ 0), ag_R (ρ 1), ag_R (ρ 2), ag_R (ρ 3), ag_R (ρ 4), ag_R (ρ 5), ag_R (ρ 6), ag_R (ρ 7), ag_R (ρ 8), ag_R (ρ 9), ag_R (ρ 10), ag_R (ρ 11), ag_I (v 4), ag_R (ρ 12), ag_I (v 5), ag_I (v 6), ag_R (ρ 13), ag_R (ρ 14), ag_R (ρ 15), ag_R (ρ 16), ag_I (v 7)] : List ag_V).set 11 (ag_R x)))) : ag_C) = ag_mO (ag_ur ρ 7 x) v := by
    simp [ag_mO, ag_ur]
  rw [← e]
  unfold ag_mO
  simp [ha]
theorem ag_pr_8 {τ : ag_S} {a : Nat} {ρ : Nat → Nat} {v : Nat → Int} (h : τ.1 a = some (ag_mO ρ v)) (ha : 1 ≤ a) (x : Nat) (K : ag_S → Prop) : ag_pf τ a 6 12 (ag_R x) K = K (ag_up τ.1 a (ag_mO (ag_ur ρ 8 x) v), τ.2) := by
  unfold ag_pf
  rw [h]
  have e : (Sum.inr (Sum.inr (Sum.inr (6, ([ag_I (v 0), ag_I (v 1), ag_I (v 2), ag_I (v 3), ag_R (ρ 0), ag_R (ρ 1), ag_R (ρ 2), ag_R (ρ 3), ag_R (ρ 4), ag_R (ρ 5), ag_R (ρ 6), ag_R (ρ 7), ag_R (ρ 8), ag_R (ρ 9), ag_R (ρ 10), ag_R (ρ 11), ag_I (v 4), ag_R (ρ 12), ag_I (v 5), ag_I (v 6), ag_R (ρ 13), ag_R (ρ 14), ag_R (ρ 15), ag_R (ρ 16), ag_I (v 7)] : List ag_V).set 12 (ag_R x)))) : ag_C) = ag_mO (ag_ur ρ 8 x) v := by
    simp [ag_mO, ag_ur]
  rw [← e]
  unfold ag_mO
  simp [ha]
theorem ag_pr_9 {τ : ag_S} {a : Nat} {ρ : Nat → Nat} {v : Nat → Int} (h : τ.1 a = some (ag_mO ρ v)) (ha : 1 ≤ a) (x : Nat) (K : ag_S → Prop) : ag_pf τ a 6 13 (ag_R x) K = K (ag_up τ.1 a (ag_mO (ag_ur ρ 9 x) v), τ.2) := by
  unfold ag_pf
  rw [h]
  have e : (Sum.inr (Sum.inr (Sum.inr (6, ([ag_I (v 0), ag_I (v 1), ag_I (v 2), ag_I (v 3), ag_R (ρ 0), ag_R (ρ 1), ag_R (ρ 2), ag_R (ρ 3), ag_R (ρ 4), ag_R (ρ 5), ag_R (ρ 6), ag_R (ρ 7), ag_R (ρ 8), ag_R (ρ 9), ag_R (ρ 10), ag_R (ρ 11), ag_I (v 4), ag_R (ρ 12), ag_I (v 5), ag_I (v 6), ag_R (ρ 13), ag_R (ρ 14), ag_R (ρ 15), ag_R (ρ 16), ag_I (v 7)] : List ag_V).set 13 (ag_R x)))) : ag_C) = ag_mO (ag_ur ρ 9 x) v := by
    simp [ag_mO, ag_ur]
  rw [← e]
  unfold ag_mO
  simp [ha]
theorem ag_pr_10 {τ : ag_S} {a : Nat} {ρ : Nat → Nat} {v : Nat → Int} (h : τ.1 a = some (ag_mO ρ v)) (ha : 1 ≤ a) (x : Nat) (K : ag_S → Prop) : ag_pf τ a 6 14 (ag_R x) K = K (ag_up τ.1 a (ag_mO (ag_ur ρ 10 x) v), τ.2) := by
  unfold ag_pf
  rw [h]
  have e : (Sum.inr (Sum.inr (Sum.inr (6, ([ag_I (v 0), ag_I (v 1), ag_I (v 2), ag_I (v 3), ag_R (ρ 0), ag_R (ρ 1), ag_R (ρ 2), ag_R (ρ 3), ag_R (ρ 4), ag_R (ρ 5), ag_R (ρ 6), ag_R (ρ 7), ag_R (ρ 8), ag_R (ρ 9), ag_R (ρ 10), ag_R (ρ 11), ag_I (v 4), ag_R (ρ 12), ag_I (v 5), ag_I (v 6), ag_R (ρ 13), ag_R (ρ 14), ag_R (ρ 15), ag_R (ρ 16), ag_I (v 7)] : List ag_V).set 14 (ag_R x)))) : ag_C) = ag_mO (ag_ur ρ 10 x) v := by
    simp [ag_mO, ag_ur]
  rw [← e]
  unfold ag_mO
  simp [ha]
theorem ag_pr_11 {τ : ag_S} {a : Nat} {ρ : Nat → Nat} {v : Nat → Int} (h : τ.1 a = some (ag_mO ρ v)) (ha : 1 ≤ a) (x : Nat) (K : ag_S → Prop) : ag_pf τ a 6 15 (ag_R x) K = K (ag_up τ.1 a (ag_mO (ag_ur ρ 11 x) v), τ.2) := by
  unfold ag_pf
  rw [h]
  have e : (Sum.inr (Sum.inr (Sum.inr (6, ([ag_I (v 0), ag_I (v 1), ag_I (v 2), ag_I (v 3), ag_R (ρ 0), ag_R (ρ 1), ag_R (ρ 2), ag_R (ρ 3), ag_R (ρ 4), ag_R (ρ 5), ag_R (ρ 6), ag_R (ρ 7), ag_R (ρ 8), ag_R (ρ 9), ag_R (ρ 10), ag_R (ρ 11), ag_I (v 4), ag_R (ρ 12), ag_I (v 5), ag_I (v 6), ag_R (ρ 13), ag_R (ρ 14), ag_R (ρ 15), ag_R (ρ 16), ag_I (v 7)] : List ag_V).set 15 (ag_R x)))) : ag_C) = ag_mO (ag_ur ρ 11 x) v := by
    simp [ag_mO, ag_ur]
  rw [← e]
  unfold ag_mO
  simp [ha]
theorem ag_pn_1 {τ : ag_S} {a : Nat} {ρ : Nat → Nat} {v : Nat → Int} (h : τ.1 a = some (ag_mO ρ v)) (ha : 1 ≤ a) (x : Int) (K : ag_S → Prop) : ag_pf τ a 6 1 (ag_I x) K = K (ag_up τ.1 a (ag_mO ρ (ag_ui v 1 x)), τ.2) := by
  unfold ag_pf
  rw [h]
  have e : (Sum.inr (Sum.inr (Sum.inr (6, ([ag_I (v 0), ag_I (v 1), ag_I (v 2), ag_I (v 3), ag_R (ρ 0), ag_R (ρ 1), ag_R (ρ 2), ag_R (ρ 3), ag_R (ρ 4), ag_R (ρ 5), ag_R (ρ 6), ag_R (ρ 7), ag_R (ρ 8), ag_R (ρ 9), ag_R (ρ 10), ag_R (ρ 11), ag_I (v 4), ag_R (ρ 12), ag_I (v 5), ag_I (v 6), ag_R (ρ 13), ag_R (ρ 14), ag_R (ρ 15), ag_R (ρ 16), ag_I (v 7)] : List ag_V).set 1 (ag_I x)))) : ag_C) = ag_mO ρ (ag_ui v 1 x) := by
    simp [ag_mO, ag_ui]
  rw [← e]
  unfold ag_mO
  simp [ha]
theorem ag_pn_2 {τ : ag_S} {a : Nat} {ρ : Nat → Nat} {v : Nat → Int} (h : τ.1 a = some (ag_mO ρ v)) (ha : 1 ≤ a) (x : Int) (K : ag_S → Prop) : ag_pf τ a 6 2 (ag_I x) K = K (ag_up τ.1 a (ag_mO ρ (ag_ui v 2 x)), τ.2) := by
  unfold ag_pf
  rw [h]
  have e : (Sum.inr (Sum.inr (Sum.inr (6, ([ag_I (v 0), ag_I (v 1), ag_I (v 2), ag_I (v 3), ag_R (ρ 0), ag_R (ρ 1), ag_R (ρ 2), ag_R (ρ 3), ag_R (ρ 4), ag_R (ρ 5), ag_R (ρ 6), ag_R (ρ 7), ag_R (ρ 8), ag_R (ρ 9), ag_R (ρ 10), ag_R (ρ 11), ag_I (v 4), ag_R (ρ 12), ag_I (v 5), ag_I (v 6), ag_R (ρ 13), ag_R (ρ 14), ag_R (ρ 15), ag_R (ρ 16), ag_I (v 7)] : List ag_V).set 2 (ag_I x)))) : ag_C) = ag_mO ρ (ag_ui v 2 x) := by
    simp [ag_mO, ag_ui]
  rw [← e]
  unfold ag_mO
  simp [ha]
/-- n of f, 0 behind -/
def ag_cq (f : Nat → Int) (n : Nat) : Nat → Int := fun j => if j < n then f j else 0
theorem ag_cq_of {f : Nat → Int} {n : Nat} (h : ∀ j, n ≤ j → f j = 0) : ag_cq f n = f := by
  funext j
  unfold ag_cq
  split
  · rfl
  · exact (h j (by omega)).symm
theorem ag_R_copy {τ : ag_S} {x n : Nat} {f : Nat → Int} (h : τ.1 x = some (Sum.inl (n, f))) (hx : 1 ≤ x) (hx2 : x ≤ τ.2.1) (hn : n ≤ 1000000) (K : ag_Rs → ag_S → Prop) : ag_cl9 102 [ag_R x] τ K = K (Sum.inl (some (ag_R (τ.2.1 + 1)))) (ag_up τ.1 (τ.2.1 + 1) (Sum.inl (n, ag_cq f n)), (τ.2.1 + 1, τ.2.2 + n)) := by
  have nn : ag_nm (n : Int) = n := ag_nm_nat hn
  simp only [ag_i102_0, ag_i102_1, ag_e102, ag_al_at h]
  rw [ag_i102_2, nn, Int.toNat_natCast]
  refine Eq.trans (propext ⟨fun z => z.2, fun z => ⟨by omega, z⟩⟩ : _ = ag_wp 102 4 [some (ag_R x), none] [ag_R (τ.2.1 + 1)] (ag_up τ.1 (τ.2.1 + 1) (Sum.inl (n, fun _ => 0)), (τ.2.1 + 1, τ.2.2 + n)) K) ?_
  have h2 : ((ag_up τ.1 (τ.2.1 + 1) (Sum.inl (n, fun _ => 0)), (τ.2.1 + 1, τ.2.2 + n)) : ag_S).1 x = some (Sum.inl (n, f)) := (if_neg (by omega)).trans h
  have h3 : ((ag_up τ.1 (τ.2.1 + 1) (Sum.inl (n, fun _ => 0)), (τ.2.1 + 1, τ.2.2 + n)) : ag_S).1 (τ.2.1 + 1) = some (Sum.inl (n, fun _ => 0)) := if_pos rfl
  simp only [ag_i102_4_n, ag_i102_4_i, ag_i102_4_r, ag_i102_5, ag_i102_6, ag_i102_7, ag_i102_8, ag_i102_9, ag_i102_10, ag_al_at h2]
  rw [ag_i102_11, ag_cp_at h2 h3 (sp := 0) (dp := 0) (n := n) ag_nm_z ag_nm_z nn (by omega) (by omega) hx (by omega)]
  simp only [ag_i102_14, ag_i102_15]
  have e1 : va_cpy f (fun _ => (0 : Int)) 0 0 n = ag_cq f n := by
    funext j
    unfold va_cpy ag_cq
    by_cases q : j < n
    · rw [if_pos (by omega), if_pos q]
      congr 1
      omega
    · rw [if_neg (by omega), if_neg q]
  rw [e1, ag_up_2]
/-- what stands once the arrays L are copied: τ0 the store before, ρ0 the names before -/
def ag_KP (τ0 : ag_S) (a : Nat) (ρ0 : Nat → Nat) (g : Nat → Nat → Int) (v : Nat → Int) (L : List Nat) (τ : ag_S) (ρ : Nat → Nat) (ds : Nat) : Prop :=
  τ.1 a = some (ag_mO ρ v) ∧ (∀ k, k ∉ L → ρ k = ρ0 k) ∧ (∀ k, k ∈ L → τ0.2.1 < ρ k ∧ ρ k ≤ τ.2.1 ∧ τ.1 (ρ k) = some (Sum.inl (ag_mL k, ag_cq (g k) (ag_mL k)))) ∧ (∀ j k, j ∈ L → k ∈ L → ρ j = ρ k → j = k) ∧ (∀ z, z ≤ τ0.2.1 → z ≠ a → τ.1 z = τ0.1 z) ∧ τ.2.1 = τ0.2.1 + L.length ∧ τ.2.2 = τ0.2.2 + ds
theorem ag_KP_0 {τ0 : ag_S} {a : Nat} {ρ0 : Nat → Nat} {g : Nat → Nat → Int} {v : Nat → Int} (h : τ0.1 a = some (ag_mO ρ0 v)) : ag_KP τ0 a ρ0 g v [] τ0 ρ0 0 :=
  ⟨h, fun _ _ => rfl, fun k hk => absurd hk List.not_mem_nil, fun j k hj => absurd hj List.not_mem_nil, fun _ _ _ => rfl, rfl, rfl⟩
theorem ag_KP_s {τ0 τ : ag_S} {a k ds : Nat} {ρ0 ρ : Nat → Nat} {g : Nat → Nat → Int} {v : Nat → Int} {L : List Nat} (h : ag_KP τ0 a ρ0 g v L τ ρ ds) (ha : a ≤ τ0.2.1) (hk : k ∉ L) (h0 : ρ0 k ≤ τ0.2.1) :
    ag_KP τ0 a ρ0 g v (k :: L) (ag_up (ag_up τ.1 (τ.2.1 + 1) (Sum.inl (ag_mL k, ag_cq (g k) (ag_mL k)))) a (ag_mO (ag_ur ρ k (τ.2.1 + 1)) v), (τ.2.1 + 1, τ.2.2 + ag_mL k)) (ag_ur ρ k (τ.2.1 + 1)) (ds + ag_mL k) := by
  obtain ⟨p1, p2, p3, p4, p5, p6, p7⟩ := h
  have hN : a < τ.2.1 + 1 := by omega
  refine ⟨if_pos rfl, fun j hj => ?_, fun j hj => ?_, fun i j hi hj e => ?_, fun z hz hza => ?_, ?_, ?_⟩
  · rw [List.mem_cons, not_or] at hj
    rw [ag_ur_ne hj.1, p2 j hj.2]
  · by_cases q : j = k
    · subst q
      rw [ag_ur_eq]
      refine ⟨by omega, Nat.le_refl _, ?_⟩
      show (if τ.2.1 + 1 = a then _ else if τ.2.1 + 1 = τ.2.1 + 1 then _ else _) = _
      rw [if_neg (by omega), if_pos rfl]
    · have hjL : j ∈ L := by
        rcases List.mem_cons.mp hj with z | z
        · exact absurd z q
        · exact z
      obtain ⟨q1, q2, q3⟩ := p3 j hjL
      rw [ag_ur_ne q]
      refine ⟨q1, Nat.le_succ_of_le q2, ?_⟩
      show (if ρ j = a then _ else if ρ j = τ.2.1 + 1 then _ else τ.1 (ρ j)) = _
      rw [if_neg (by omega), if_neg (by omega), q3]
  · by_cases qi : i = k
    · by_cases qj : j = k
      · rw [qi, qj]
      · have hjL : j ∈ L := by
          rcases List.mem_cons.mp hj with z | z
          · exact absurd z qj
          · exact z
        rw [qi, ag_ur_eq, ag_ur_ne qj] at e
        have := (p3 j hjL).2.1
        omega
    · have hiL : i ∈ L := by
        rcases List.mem_cons.mp hi with z | z
        · exact absurd z qi
        · exact z
      by_cases qj : j = k
      · rw [qj, ag_ur_eq, ag_ur_ne qi] at e
        have := (p3 i hiL).2.1
        omega
      · have hjL : j ∈ L := by
          rcases List.mem_cons.mp hj with z | z
          · exact absurd z qj
          · exact z
        rw [ag_ur_ne qi, ag_ur_ne qj] at e
        exact p4 i j hiL hjL e
  · show (if z = a then _ else if z = τ.2.1 + 1 then _ else τ.1 z) = _
    rw [if_neg hza, if_neg (by omega), p5 z hz hza]
  · show τ.2.1 + 1 = τ0.2.1 + (L.length + 1)
    omega
  · show τ.2.2 + ag_mL k = τ0.2.2 + (ds + ag_mL k)
    omega
theorem ag_ks_0 {τ0 τ : ag_S} {a ds : Nat} {ρ0 ρ : Nat → Nat} {g : Nat → Nat → Int} {v : Nat → Int} {L : List Nat} (h : ag_KP τ0 a ρ0 g v L τ ρ ds) (ha : 1 ≤ a) (ha2 : a ≤ τ0.2.1) (hk : 0 ∉ L) (h1 : 1 ≤ ρ0 0) (h0 : ρ0 0 ≤ τ0.2.1) (h2 : ρ0 0 ≠ a) (hg : τ0.1 (ρ0 0) = some (Sum.inl (ag_mL 0, g 0))) (x : Option ag_V) :
    ∃ τ' ρ', ag_KP τ0 a ρ0 g v (0 :: L) τ' ρ' (ds + 40) ∧ ∀ K, ag_wp 155 101 [some (ag_R a), x] [] τ K = ag_wp 155 112 [some (ag_R a), x] [] τ' K := by
  refine ⟨_, _, ag_KP_s h ha2 hk h0, fun K => ?_⟩
  have p1 := h.1
  have p2 : ρ 0 = ρ0 0 := h.2.1 0 hk
  have p6 := h.2.2.2.2.2.1
  have p5 : τ.1 (ρ 0) = some (Sum.inl (ag_mL 0, g 0)) := by rw [p2, h.2.2.2.2.1 _ h0 h2, hg]
  have hgf := fun K => ag_gf_at (k := 4) (v := ag_R (ρ 0)) p1 rfl K
  have hcp := fun K => ag_R_copy p5 (by omega) (by omega) (by decide) K
  have p9 : ((ag_up τ.1 (τ.2.1 + 1) (Sum.inl (ag_mL 0, ag_cq (g 0) (ag_mL 0))), (τ.2.1 + 1, τ.2.2 + ag_mL 0)) : ag_S).1 a = some (ag_mO ρ v) := (if_neg (by omega)).trans p1
  have hpf := fun K => ag_pr_0 p9 ha (τ.2.1 + 1) K
  simp only [ag_i155_101, ag_i155_102, ag_i155_103, ag_i155_106, ag_i155_109, ag_kk_v, ag_kk_n, Nat.reduceAdd, hgf, hcp, hpf]
theorem ag_ks_1 {τ0 τ : ag_S} {a ds : Nat} {ρ0 ρ : Nat → Nat} {g : Nat → Nat → Int} {v : Nat → Int} {L : List Nat} (h : ag_KP τ0 a ρ0 g v L τ ρ ds) (ha : 1 ≤ a) (ha2 : a ≤ τ0.2.1) (hk : 1 ∉ L) (h1 : 1 ≤ ρ0 1) (h0 : ρ0 1 ≤ τ0.2.1) (h2 : ρ0 1 ≠ a) (hg : τ0.1 (ρ0 1) = some (Sum.inl (ag_mL 1, g 1))) (x : Option ag_V) :
    ∃ τ' ρ', ag_KP τ0 a ρ0 g v (1 :: L) τ' ρ' (ds + 40) ∧ ∀ K, ag_wp 155 112 [some (ag_R a), x] [] τ K = ag_wp 155 123 [some (ag_R a), x] [] τ' K := by
  refine ⟨_, _, ag_KP_s h ha2 hk h0, fun K => ?_⟩
  have p1 := h.1
  have p2 : ρ 1 = ρ0 1 := h.2.1 1 hk
  have p6 := h.2.2.2.2.2.1
  have p5 : τ.1 (ρ 1) = some (Sum.inl (ag_mL 1, g 1)) := by rw [p2, h.2.2.2.2.1 _ h0 h2, hg]
  have hgf := fun K => ag_gf_at (k := 5) (v := ag_R (ρ 1)) p1 rfl K
  have hcp := fun K => ag_R_copy p5 (by omega) (by omega) (by decide) K
  have p9 : ((ag_up τ.1 (τ.2.1 + 1) (Sum.inl (ag_mL 1, ag_cq (g 1) (ag_mL 1))), (τ.2.1 + 1, τ.2.2 + ag_mL 1)) : ag_S).1 a = some (ag_mO ρ v) := (if_neg (by omega)).trans p1
  have hpf := fun K => ag_pr_1 p9 ha (τ.2.1 + 1) K
  simp only [ag_i155_112, ag_i155_113, ag_i155_114, ag_i155_117, ag_i155_120, ag_kk_v, ag_kk_n, Nat.reduceAdd, hgf, hcp, hpf]
theorem ag_ks_2 {τ0 τ : ag_S} {a ds : Nat} {ρ0 ρ : Nat → Nat} {g : Nat → Nat → Int} {v : Nat → Int} {L : List Nat} (h : ag_KP τ0 a ρ0 g v L τ ρ ds) (ha : 1 ≤ a) (ha2 : a ≤ τ0.2.1) (hk : 2 ∉ L) (h1 : 1 ≤ ρ0 2) (h0 : ρ0 2 ≤ τ0.2.1) (h2 : ρ0 2 ≠ a) (hg : τ0.1 (ρ0 2) = some (Sum.inl (ag_mL 2, g 2))) (x : Option ag_V) :
    ∃ τ' ρ', ag_KP τ0 a ρ0 g v (2 :: L) τ' ρ' (ds + 40) ∧ ∀ K, ag_wp 155 123 [some (ag_R a), x] [] τ K = ag_wp 155 134 [some (ag_R a), x] [] τ' K := by
  refine ⟨_, _, ag_KP_s h ha2 hk h0, fun K => ?_⟩
  have p1 := h.1
  have p2 : ρ 2 = ρ0 2 := h.2.1 2 hk
  have p6 := h.2.2.2.2.2.1
  have p5 : τ.1 (ρ 2) = some (Sum.inl (ag_mL 2, g 2)) := by rw [p2, h.2.2.2.2.1 _ h0 h2, hg]
  have hgf := fun K => ag_gf_at (k := 6) (v := ag_R (ρ 2)) p1 rfl K
  have hcp := fun K => ag_R_copy p5 (by omega) (by omega) (by decide) K
  have p9 : ((ag_up τ.1 (τ.2.1 + 1) (Sum.inl (ag_mL 2, ag_cq (g 2) (ag_mL 2))), (τ.2.1 + 1, τ.2.2 + ag_mL 2)) : ag_S).1 a = some (ag_mO ρ v) := (if_neg (by omega)).trans p1
  have hpf := fun K => ag_pr_2 p9 ha (τ.2.1 + 1) K
  simp only [ag_i155_123, ag_i155_124, ag_i155_125, ag_i155_128, ag_i155_131, ag_kk_v, ag_kk_n, Nat.reduceAdd, hgf, hcp, hpf]
theorem ag_ks_3 {τ0 τ : ag_S} {a ds : Nat} {ρ0 ρ : Nat → Nat} {g : Nat → Nat → Int} {v : Nat → Int} {L : List Nat} (h : ag_KP τ0 a ρ0 g v L τ ρ ds) (ha : 1 ≤ a) (ha2 : a ≤ τ0.2.1) (hk : 3 ∉ L) (h1 : 1 ≤ ρ0 3) (h0 : ρ0 3 ≤ τ0.2.1) (h2 : ρ0 3 ≠ a) (hg : τ0.1 (ρ0 3) = some (Sum.inl (ag_mL 3, g 3))) (x : Option ag_V) :
    ∃ τ' ρ', ag_KP τ0 a ρ0 g v (3 :: L) τ' ρ' (ds + 40) ∧ ∀ K, ag_wp 155 134 [some (ag_R a), x] [] τ K = ag_wp 155 145 [some (ag_R a), x] [] τ' K := by
  refine ⟨_, _, ag_KP_s h ha2 hk h0, fun K => ?_⟩
  have p1 := h.1
  have p2 : ρ 3 = ρ0 3 := h.2.1 3 hk
  have p6 := h.2.2.2.2.2.1
  have p5 : τ.1 (ρ 3) = some (Sum.inl (ag_mL 3, g 3)) := by rw [p2, h.2.2.2.2.1 _ h0 h2, hg]
  have hgf := fun K => ag_gf_at (k := 7) (v := ag_R (ρ 3)) p1 rfl K
  have hcp := fun K => ag_R_copy p5 (by omega) (by omega) (by decide) K
  have p9 : ((ag_up τ.1 (τ.2.1 + 1) (Sum.inl (ag_mL 3, ag_cq (g 3) (ag_mL 3))), (τ.2.1 + 1, τ.2.2 + ag_mL 3)) : ag_S).1 a = some (ag_mO ρ v) := (if_neg (by omega)).trans p1
  have hpf := fun K => ag_pr_3 p9 ha (τ.2.1 + 1) K
  simp only [ag_i155_134, ag_i155_135, ag_i155_136, ag_i155_139, ag_i155_142, ag_kk_v, ag_kk_n, Nat.reduceAdd, hgf, hcp, hpf]
theorem ag_ks_4 {τ0 τ : ag_S} {a ds : Nat} {ρ0 ρ : Nat → Nat} {g : Nat → Nat → Int} {v : Nat → Int} {L : List Nat} (h : ag_KP τ0 a ρ0 g v L τ ρ ds) (ha : 1 ≤ a) (ha2 : a ≤ τ0.2.1) (hk : 4 ∉ L) (h1 : 1 ≤ ρ0 4) (h0 : ρ0 4 ≤ τ0.2.1) (h2 : ρ0 4 ≠ a) (hg : τ0.1 (ρ0 4) = some (Sum.inl (ag_mL 4, g 4))) (x : Option ag_V) :
    ∃ τ' ρ', ag_KP τ0 a ρ0 g v (4 :: L) τ' ρ' (ds + 40) ∧ ∀ K, ag_wp 155 145 [some (ag_R a), x] [] τ K = ag_wp 155 156 [some (ag_R a), x] [] τ' K := by
  refine ⟨_, _, ag_KP_s h ha2 hk h0, fun K => ?_⟩
  have p1 := h.1
  have p2 : ρ 4 = ρ0 4 := h.2.1 4 hk
  have p6 := h.2.2.2.2.2.1
  have p5 : τ.1 (ρ 4) = some (Sum.inl (ag_mL 4, g 4)) := by rw [p2, h.2.2.2.2.1 _ h0 h2, hg]
  have hgf := fun K => ag_gf_at (k := 8) (v := ag_R (ρ 4)) p1 rfl K
  have hcp := fun K => ag_R_copy p5 (by omega) (by omega) (by decide) K
  have p9 : ((ag_up τ.1 (τ.2.1 + 1) (Sum.inl (ag_mL 4, ag_cq (g 4) (ag_mL 4))), (τ.2.1 + 1, τ.2.2 + ag_mL 4)) : ag_S).1 a = some (ag_mO ρ v) := (if_neg (by omega)).trans p1
  have hpf := fun K => ag_pr_4 p9 ha (τ.2.1 + 1) K
  simp only [ag_i155_145, ag_i155_146, ag_i155_147, ag_i155_150, ag_i155_153, ag_kk_v, ag_kk_n, Nat.reduceAdd, hgf, hcp, hpf]
theorem ag_ks_7 {τ0 τ : ag_S} {a ds : Nat} {ρ0 ρ : Nat → Nat} {g : Nat → Nat → Int} {v : Nat → Int} {L : List Nat} (h : ag_KP τ0 a ρ0 g v L τ ρ ds) (ha : 1 ≤ a) (ha2 : a ≤ τ0.2.1) (hk : 7 ∉ L) (h1 : 1 ≤ ρ0 7) (h0 : ρ0 7 ≤ τ0.2.1) (h2 : ρ0 7 ≠ a) (hg : τ0.1 (ρ0 7) = some (Sum.inl (ag_mL 7, g 7))) (x : Option ag_V) :
    ∃ τ' ρ', ag_KP τ0 a ρ0 g v (7 :: L) τ' ρ' (ds + 20) ∧ ∀ K, ag_wp 155 156 [some (ag_R a), x] [] τ K = ag_wp 155 167 [some (ag_R a), x] [] τ' K := by
  refine ⟨_, _, ag_KP_s h ha2 hk h0, fun K => ?_⟩
  have p1 := h.1
  have p2 : ρ 7 = ρ0 7 := h.2.1 7 hk
  have p6 := h.2.2.2.2.2.1
  have p5 : τ.1 (ρ 7) = some (Sum.inl (ag_mL 7, g 7)) := by rw [p2, h.2.2.2.2.1 _ h0 h2, hg]
  have hgf := fun K => ag_gf_at (k := 11) (v := ag_R (ρ 7)) p1 rfl K
  have hcp := fun K => ag_R_copy p5 (by omega) (by omega) (by decide) K
  have p9 : ((ag_up τ.1 (τ.2.1 + 1) (Sum.inl (ag_mL 7, ag_cq (g 7) (ag_mL 7))), (τ.2.1 + 1, τ.2.2 + ag_mL 7)) : ag_S).1 a = some (ag_mO ρ v) := (if_neg (by omega)).trans p1
  have hpf := fun K => ag_pr_7 p9 ha (τ.2.1 + 1) K
  simp only [ag_i155_156, ag_i155_157, ag_i155_158, ag_i155_161, ag_i155_164, ag_kk_v, ag_kk_n, Nat.reduceAdd, hgf, hcp, hpf]
theorem ag_ks_8 {τ0 τ : ag_S} {a ds : Nat} {ρ0 ρ : Nat → Nat} {g : Nat → Nat → Int} {v : Nat → Int} {L : List Nat} (h : ag_KP τ0 a ρ0 g v L τ ρ ds) (ha : 1 ≤ a) (ha2 : a ≤ τ0.2.1) (hk : 8 ∉ L) (h1 : 1 ≤ ρ0 8) (h0 : ρ0 8 ≤ τ0.2.1) (h2 : ρ0 8 ≠ a) (hg : τ0.1 (ρ0 8) = some (Sum.inl (ag_mL 8, g 8))) (x : Option ag_V) :
    ∃ τ' ρ', ag_KP τ0 a ρ0 g v (8 :: L) τ' ρ' (ds + 20) ∧ ∀ K, ag_wp 155 167 [some (ag_R a), x] [] τ K = ag_wp 155 178 [some (ag_R a), x] [] τ' K := by
  refine ⟨_, _, ag_KP_s h ha2 hk h0, fun K => ?_⟩
  have p1 := h.1
  have p2 : ρ 8 = ρ0 8 := h.2.1 8 hk
  have p6 := h.2.2.2.2.2.1
  have p5 : τ.1 (ρ 8) = some (Sum.inl (ag_mL 8, g 8)) := by rw [p2, h.2.2.2.2.1 _ h0 h2, hg]
  have hgf := fun K => ag_gf_at (k := 12) (v := ag_R (ρ 8)) p1 rfl K
  have hcp := fun K => ag_R_copy p5 (by omega) (by omega) (by decide) K
  have p9 : ((ag_up τ.1 (τ.2.1 + 1) (Sum.inl (ag_mL 8, ag_cq (g 8) (ag_mL 8))), (τ.2.1 + 1, τ.2.2 + ag_mL 8)) : ag_S).1 a = some (ag_mO ρ v) := (if_neg (by omega)).trans p1
  have hpf := fun K => ag_pr_8 p9 ha (τ.2.1 + 1) K
  simp only [ag_i155_167, ag_i155_168, ag_i155_169, ag_i155_172, ag_i155_175, ag_kk_v, ag_kk_n, Nat.reduceAdd, hgf, hcp, hpf]
theorem ag_ks_9 {τ0 τ : ag_S} {a ds : Nat} {ρ0 ρ : Nat → Nat} {g : Nat → Nat → Int} {v : Nat → Int} {L : List Nat} (h : ag_KP τ0 a ρ0 g v L τ ρ ds) (ha : 1 ≤ a) (ha2 : a ≤ τ0.2.1) (hk : 9 ∉ L) (h1 : 1 ≤ ρ0 9) (h0 : ρ0 9 ≤ τ0.2.1) (h2 : ρ0 9 ≠ a) (hg : τ0.1 (ρ0 9) = some (Sum.inl (ag_mL 9, g 9))) (x : Option ag_V) :
    ∃ τ' ρ', ag_KP τ0 a ρ0 g v (9 :: L) τ' ρ' (ds + 20) ∧ ∀ K, ag_wp 155 178 [some (ag_R a), x] [] τ K = ag_wp 155 189 [some (ag_R a), x] [] τ' K := by
  refine ⟨_, _, ag_KP_s h ha2 hk h0, fun K => ?_⟩
  have p1 := h.1
  have p2 : ρ 9 = ρ0 9 := h.2.1 9 hk
  have p6 := h.2.2.2.2.2.1
  have p5 : τ.1 (ρ 9) = some (Sum.inl (ag_mL 9, g 9)) := by rw [p2, h.2.2.2.2.1 _ h0 h2, hg]
  have hgf := fun K => ag_gf_at (k := 13) (v := ag_R (ρ 9)) p1 rfl K
  have hcp := fun K => ag_R_copy p5 (by omega) (by omega) (by decide) K
  have p9 : ((ag_up τ.1 (τ.2.1 + 1) (Sum.inl (ag_mL 9, ag_cq (g 9) (ag_mL 9))), (τ.2.1 + 1, τ.2.2 + ag_mL 9)) : ag_S).1 a = some (ag_mO ρ v) := (if_neg (by omega)).trans p1
  have hpf := fun K => ag_pr_9 p9 ha (τ.2.1 + 1) K
  simp only [ag_i155_178, ag_i155_179, ag_i155_180, ag_i155_183, ag_i155_186, ag_kk_v, ag_kk_n, Nat.reduceAdd, hgf, hcp, hpf]
theorem ag_ks_10 {τ0 τ : ag_S} {a ds : Nat} {ρ0 ρ : Nat → Nat} {g : Nat → Nat → Int} {v : Nat → Int} {L : List Nat} (h : ag_KP τ0 a ρ0 g v L τ ρ ds) (ha : 1 ≤ a) (ha2 : a ≤ τ0.2.1) (hk : 10 ∉ L) (h1 : 1 ≤ ρ0 10) (h0 : ρ0 10 ≤ τ0.2.1) (h2 : ρ0 10 ≠ a) (hg : τ0.1 (ρ0 10) = some (Sum.inl (ag_mL 10, g 10))) (x : Option ag_V) :
    ∃ τ' ρ', ag_KP τ0 a ρ0 g v (10 :: L) τ' ρ' (ds + 20) ∧ ∀ K, ag_wp 155 189 [some (ag_R a), x] [] τ K = ag_wp 155 200 [some (ag_R a), x] [] τ' K := by
  refine ⟨_, _, ag_KP_s h ha2 hk h0, fun K => ?_⟩
  have p1 := h.1
  have p2 : ρ 10 = ρ0 10 := h.2.1 10 hk
  have p6 := h.2.2.2.2.2.1
  have p5 : τ.1 (ρ 10) = some (Sum.inl (ag_mL 10, g 10)) := by rw [p2, h.2.2.2.2.1 _ h0 h2, hg]
  have hgf := fun K => ag_gf_at (k := 14) (v := ag_R (ρ 10)) p1 rfl K
  have hcp := fun K => ag_R_copy p5 (by omega) (by omega) (by decide) K
  have p9 : ((ag_up τ.1 (τ.2.1 + 1) (Sum.inl (ag_mL 10, ag_cq (g 10) (ag_mL 10))), (τ.2.1 + 1, τ.2.2 + ag_mL 10)) : ag_S).1 a = some (ag_mO ρ v) := (if_neg (by omega)).trans p1
  have hpf := fun K => ag_pr_10 p9 ha (τ.2.1 + 1) K
  simp only [ag_i155_189, ag_i155_190, ag_i155_191, ag_i155_194, ag_i155_197, ag_kk_v, ag_kk_n, Nat.reduceAdd, hgf, hcp, hpf]
theorem ag_ks_11 {τ0 τ : ag_S} {a ds : Nat} {ρ0 ρ : Nat → Nat} {g : Nat → Nat → Int} {v : Nat → Int} {L : List Nat} (h : ag_KP τ0 a ρ0 g v L τ ρ ds) (ha : 1 ≤ a) (ha2 : a ≤ τ0.2.1) (hk : 11 ∉ L) (h1 : 1 ≤ ρ0 11) (h0 : ρ0 11 ≤ τ0.2.1) (h2 : ρ0 11 ≠ a) (hg : τ0.1 (ρ0 11) = some (Sum.inl (ag_mL 11, g 11))) (x : Option ag_V) :
    ∃ τ' ρ', ag_KP τ0 a ρ0 g v (11 :: L) τ' ρ' (ds + 12) ∧ ∀ K, ag_wp 155 200 [some (ag_R a), x] [] τ K = ag_wp 155 211 [some (ag_R a), x] [] τ' K := by
  refine ⟨_, _, ag_KP_s h ha2 hk h0, fun K => ?_⟩
  have p1 := h.1
  have p2 : ρ 11 = ρ0 11 := h.2.1 11 hk
  have p6 := h.2.2.2.2.2.1
  have p5 : τ.1 (ρ 11) = some (Sum.inl (ag_mL 11, g 11)) := by rw [p2, h.2.2.2.2.1 _ h0 h2, hg]
  have hgf := fun K => ag_gf_at (k := 15) (v := ag_R (ρ 11)) p1 rfl K
  have hcp := fun K => ag_R_copy p5 (by omega) (by omega) (by decide) K
  have p9 : ((ag_up τ.1 (τ.2.1 + 1) (Sum.inl (ag_mL 11, ag_cq (g 11) (ag_mL 11))), (τ.2.1 + 1, τ.2.2 + ag_mL 11)) : ag_S).1 a = some (ag_mO ρ v) := (if_neg (by omega)).trans p1
  have hpf := fun K => ag_pr_11 p9 ha (τ.2.1 + 1) K
  simp only [ag_i155_200, ag_i155_201, ag_i155_202, ag_i155_205, ag_i155_208, ag_kk_v, ag_kk_n, Nat.reduceAdd, hgf, hcp, hpf]
