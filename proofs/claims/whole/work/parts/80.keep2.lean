/-! THE REFERENCE: keep and putBack, whole (by program, wip/whole/gen_80.py). -/
abbrev ag_TEN : List Nat := [11, 10, 9, 8, 7, 4, 3, 2, 1, 0]
def ag_tn (i : Nat) : Nat := if i < 5 then i else i + 2
def ag_T1 (τ : ag_S) (fa : Nat → Option Nat) : ag_S := (ag_up τ.1 (τ.2.1 + 1) (Sum.inr (Sum.inr (Sum.inl (11, fa)))), (τ.2.1 + 1, τ.2.2 + 11))
def ag_T2 (τ : ag_S) (fa : Nat → Option Nat) (fb : Nat → Int) : ag_S := (ag_up (ag_T1 τ fa).1 (τ.2.1 + 1 + 1) (Sum.inl (2, fb)), (τ.2.1 + 1 + 1, τ.2.2 + 11 + 2))
theorem ag_T1_o {τ : ag_S} (fa : Nat → Option Nat) {z : Nat} (h : z ≤ τ.2.1) : (ag_T1 τ fa).1 z = τ.1 z := if_neg (by omega)
theorem ag_T1_z (τ : ag_S) (fa : Nat → Option Nat) : (ag_T1 τ fa).1 (τ.2.1 + 1) = some (Sum.inr (Sum.inr (Sum.inl (11, fa)))) := if_pos rfl
theorem ag_T1_u (τ : ag_S) (fa fa' : Nat → Option Nat) : ((ag_up (ag_T1 τ fa).1 (τ.2.1 + 1) (Sum.inr (Sum.inr (Sum.inl (11, fa')))), (ag_T1 τ fa).2) : ag_S) = ag_T1 τ fa' := by
  unfold ag_T1
  rw [ag_up_2]
theorem ag_T2_o {τ : ag_S} (fa : Nat → Option Nat) (fb : Nat → Int) {z : Nat} (h : z ≤ τ.2.1) : (ag_T2 τ fa fb).1 z = τ.1 z := (if_neg (by omega)).trans (ag_T1_o fa h)
theorem ag_T2_z (τ : ag_S) (fa : Nat → Option Nat) (fb : Nat → Int) : (ag_T2 τ fa fb).1 (τ.2.1 + 1) = some (Sum.inr (Sum.inr (Sum.inl (11, fa)))) := (if_neg (by omega)).trans (ag_T1_z τ fa)
theorem ag_T2_y (τ : ag_S) (fa : Nat → Option Nat) (fb : Nat → Int) : (ag_T2 τ fa fb).1 (τ.2.1 + 1 + 1) = some (Sum.inl (2, fb)) := if_pos rfl
theorem ag_T2_u (τ : ag_S) (fa : Nat → Option Nat) (fb fb' : Nat → Int) : ((ag_up (ag_T2 τ fa fb).1 (τ.2.1 + 1 + 1) (Sum.inl (2, fb')), (ag_T2 τ fa fb).2) : ag_S) = ag_T2 τ fa fb' := by
  unfold ag_T2
  rw [ag_up_2]
theorem ag_T2_v (τ : ag_S) (fa fa' : Nat → Option Nat) (fb : Nat → Int) : ((ag_up (ag_T2 τ fa fb).1 (τ.2.1 + 1) (Sum.inr (Sum.inr (Sum.inl (11, fa')))), (ag_T2 τ fa fb).2) : ag_S) = ag_T2 τ fa' fb := by
  refine Prod.ext (funext fun z => ?_) rfl
  show (if z = τ.2.1 + 1 then _ else (ag_T2 τ fa fb).1 z) = (ag_T2 τ fa' fb).1 z
  unfold ag_T2 ag_T1 ag_up
  dsimp only
  by_cases q1 : z = τ.2.1 + 1
  · rw [if_pos q1, if_neg (by omega), if_pos q1]
  · rw [if_neg q1, if_neg q1, if_neg q1]
/-- what keep leaves: the names ρ' from now on, the kept at z -/
def ag_KK (σ : ag_S) (a : Nat) (ρ : Nat → Nat) (g : Nat → Nat → Int) (v : Nat → Int) (σ1 : ag_S) (ρ' : Nat → Nat) : Prop :=
  ag_mi a ρ' σ1.2.1 ∧ σ1.2 = (σ.2.1 + 12, σ.2.2 + 305) ∧ (∀ y, y ≤ σ.2.1 → y ≠ a → σ1.1 y = (ag_SM σ a ρ g v).1 y) ∧ (∀ k, k ∉ ag_TEN → ρ' k = ρ k) ∧ (∀ k, k ∈ ag_TEN → σ.2.1 + 2 < ρ' k) ∧
  (∃ fa, σ1.1 (σ.2.1 + 1) = some (Sum.inr (Sum.inr (Sum.inl (11, fa)))) ∧ (∀ i, i < 10 → fa i = some (ρ (ag_tn i))) ∧ fa 10 = some (σ.2.1 + 2)) ∧ (∃ fb, σ1.1 (σ.2.1 + 2) = some (Sum.inl (2, fb)) ∧ fb 0 = v 1 ∧ fb 1 = v 2)
/-- the rows once copied -/
def ag_gc (g : Nat → Nat → Int) : Nat → Nat → Int := fun k => if k ∈ ag_TEN then ag_cq (g k) (ag_mL k) else g k
theorem ag_ten_17 : ∀ k, k ∈ ag_TEN → k < 17 := by
  intro k hk
  have h : ∀ j, j ∈ ag_TEN → j < 17 := by decide
  exact h k hk
theorem ag_R_keep {σ : ag_S} {a : Nat} {ρ : Nat → Nat} (h : ag_mi a ρ σ.2.1) (g : Nat → Nat → Int) (v : Nat → Int) : ∃ σ1 ρ', ag_KK σ a ρ g v σ1 ρ' ∧ ∀ K, ag_cl9 155 [ag_R a] (ag_SM σ a ρ g v) K = K (Sum.inl (some (ag_R (σ.2.1 + 1)))) (ag_SM σ1 a ρ' (ag_gc g) v) := by
  have hc : (ag_SM σ a ρ g v).2 = σ.2 := rfl
  generalize hτ : ag_SM σ a ρ g v = τ at hc
  have ho : τ.1 a = some (ag_mO ρ v) := by rw [← hτ]; exact ag_SM_o σ a ρ g v
  have hr : ∀ k, k < 17 → τ.1 (ρ k) = some (Sum.inl (ag_mL k, g k)) := fun k hk => by rw [← hτ]; exact ag_SM_r h g v hk
  have ha := h.2.2.1
  have ha2 : a ≤ τ.2.1 := by rw [hc]; exact h.2.2.2
  have hk1 : ∀ k, k < 17 → ρ k ≠ a ∧ 1 ≤ ρ k ∧ ρ k ≤ τ.2.1 := fun k hk => by rw [hc]; exact h.1 k hk
  have gf1 := fun (fa : Nat → Option Nat) (f : Nat) (x : ag_V) (hx : ([ag_I (v 0), ag_I (v 1), ag_I (v 2), ag_I (v 3), ag_R (ρ 0), ag_R (ρ 1), ag_R (ρ 2), ag_R (ρ 3), ag_R (ρ 4), ag_R (ρ 5), ag_R (ρ 6), ag_R (ρ 7), ag_R (ρ 8), ag_R (ρ 9), ag_R (ρ 10), ag_R (ρ 11), ag_I (v 4), ag_R (ρ 12), ag_I (v 5), ag_I (v 6), ag_R (ρ 13), ag_R (ρ 14), ag_R (ρ 15), ag_R (ρ 16), ag_I (v 7)] : List ag_V)[f]? = some x) K => ag_gf_at ((ag_T1_o (τ := τ) fa ha2).trans ho) hx K
  have gf2 := fun (fa : Nat → Option Nat) (fb : Nat → Int) (f : Nat) (x : ag_V) (hx : ([ag_I (v 0), ag_I (v 1), ag_I (v 2), ag_I (v 3), ag_R (ρ 0), ag_R (ρ 1), ag_R (ρ 2), ag_R (ρ 3), ag_R (ρ 4), ag_R (ρ 5), ag_R (ρ 6), ag_R (ρ 7), ag_R (ρ 8), ag_R (ρ 9), ag_R (ρ 10), ag_R (ρ 11), ag_I (v 4), ag_R (ρ 12), ag_I (v 5), ag_I (v 6), ag_R (ρ 13), ag_R (ρ 14), ag_R (ρ 15), ag_R (ρ 16), ag_I (v 7)] : List ag_V)[f]? = some x) K => ag_gf_at ((ag_T2_o (τ := τ) fa fb ha2).trans ho) hx K
  have a0 : ∀ fa K, ag_qs (ag_T1 τ fa) (τ.2.1 + 1) 0 (ρ 0) K = K (ag_T1 τ (ag_uq fa 0 (some (ρ 0)))) := fun fa K => by
    rw [ag_qs_at (ag_T1_z τ fa) ((ag_T1_o fa (hk1 0 (by decide)).2.2).trans (hr 0 (by decide))) (by omega) (hk1 0 (by decide)).2.1 (i := 0) (by decide +kernel) (by decide), ag_T1_u]
  have a1 : ∀ fa K, ag_qs (ag_T1 τ fa) (τ.2.1 + 1) 1 (ρ 1) K = K (ag_T1 τ (ag_uq fa 1 (some (ρ 1)))) := fun fa K => by
    rw [ag_qs_at (ag_T1_z τ fa) ((ag_T1_o fa (hk1 1 (by decide)).2.2).trans (hr 1 (by decide))) (by omega) (hk1 1 (by decide)).2.1 (i := 1) (by decide +kernel) (by decide), ag_T1_u]
  have a2 : ∀ fa K, ag_qs (ag_T1 τ fa) (τ.2.1 + 1) 2 (ρ 2) K = K (ag_T1 τ (ag_uq fa 2 (some (ρ 2)))) := fun fa K => by
    rw [ag_qs_at (ag_T1_z τ fa) ((ag_T1_o fa (hk1 2 (by decide)).2.2).trans (hr 2 (by decide))) (by omega) (hk1 2 (by decide)).2.1 (i := 2) (by decide +kernel) (by decide), ag_T1_u]
  have a3 : ∀ fa K, ag_qs (ag_T1 τ fa) (τ.2.1 + 1) 3 (ρ 3) K = K (ag_T1 τ (ag_uq fa 3 (some (ρ 3)))) := fun fa K => by
    rw [ag_qs_at (ag_T1_z τ fa) ((ag_T1_o fa (hk1 3 (by decide)).2.2).trans (hr 3 (by decide))) (by omega) (hk1 3 (by decide)).2.1 (i := 3) (by decide +kernel) (by decide), ag_T1_u]
  have a4 : ∀ fa K, ag_qs (ag_T1 τ fa) (τ.2.1 + 1) 4 (ρ 4) K = K (ag_T1 τ (ag_uq fa 4 (some (ρ 4)))) := fun fa K => by
    rw [ag_qs_at (ag_T1_z τ fa) ((ag_T1_o fa (hk1 4 (by decide)).2.2).trans (hr 4 (by decide))) (by omega) (hk1 4 (by decide)).2.1 (i := 4) (by decide +kernel) (by decide), ag_T1_u]
  have a5 : ∀ fa K, ag_qs (ag_T1 τ fa) (τ.2.1 + 1) 5 (ρ 7) K = K (ag_T1 τ (ag_uq fa 5 (some (ρ 7)))) := fun fa K => by
    rw [ag_qs_at (ag_T1_z τ fa) ((ag_T1_o fa (hk1 7 (by decide)).2.2).trans (hr 7 (by decide))) (by omega) (hk1 7 (by decide)).2.1 (i := 5) (by decide +kernel) (by decide), ag_T1_u]
  have a6 : ∀ fa K, ag_qs (ag_T1 τ fa) (τ.2.1 + 1) 6 (ρ 8) K = K (ag_T1 τ (ag_uq fa 6 (some (ρ 8)))) := fun fa K => by
    rw [ag_qs_at (ag_T1_z τ fa) ((ag_T1_o fa (hk1 8 (by decide)).2.2).trans (hr 8 (by decide))) (by omega) (hk1 8 (by decide)).2.1 (i := 6) (by decide +kernel) (by decide), ag_T1_u]
  have a7 : ∀ fa K, ag_qs (ag_T1 τ fa) (τ.2.1 + 1) 7 (ρ 9) K = K (ag_T1 τ (ag_uq fa 7 (some (ρ 9)))) := fun fa K => by
    rw [ag_qs_at (ag_T1_z τ fa) ((ag_T1_o fa (hk1 9 (by decide)).2.2).trans (hr 9 (by decide))) (by omega) (hk1 9 (by decide)).2.1 (i := 7) (by decide +kernel) (by decide), ag_T1_u]
  have a8 : ∀ fa K, ag_qs (ag_T1 τ fa) (τ.2.1 + 1) 8 (ρ 10) K = K (ag_T1 τ (ag_uq fa 8 (some (ρ 10)))) := fun fa K => by
    rw [ag_qs_at (ag_T1_z τ fa) ((ag_T1_o fa (hk1 10 (by decide)).2.2).trans (hr 10 (by decide))) (by omega) (hk1 10 (by decide)).2.1 (i := 8) (by decide +kernel) (by decide), ag_T1_u]
  have a9 : ∀ fa K, ag_qs (ag_T1 τ fa) (τ.2.1 + 1) 9 (ρ 11) K = K (ag_T1 τ (ag_uq fa 9 (some (ρ 11)))) := fun fa K => by
    rw [ag_qs_at (ag_T1_z τ fa) ((ag_T1_o fa (hk1 11 (by decide)).2.2).trans (hr 11 (by decide))) (by omega) (hk1 11 (by decide)).2.1 (i := 9) (by decide +kernel) (by decide), ag_T1_u]
  generalize hfa : (ag_uq (ag_uq (ag_uq (ag_uq (ag_uq (ag_uq (ag_uq (ag_uq (ag_uq (ag_uq (fun _ => none) 0 (some (ρ 0))) 1 (some (ρ 1))) 2 (some (ρ 2))) 3 (some (ρ 3))) 4 (some (ρ 4))) 5 (some (ρ 7))) 6 (some (ρ 8))) 7 (some (ρ 9))) 8 (some (ρ 10))) 9 (some (ρ 11)) : Nat → Option Nat) = fa at *
  have fai : ∀ i, i < 10 → fa i = some (ρ (ag_tn i)) := by
    intro i hi
    rw [← hfa]
    have hi2 : i = 0 ∨ i = 1 ∨ i = 2 ∨ i = 3 ∨ i = 4 ∨ i = 5 ∨ i = 6 ∨ i = 7 ∨ i = 8 ∨ i = 9 := by omega
    rcases hi2 with rfl | rfl | rfl | rfl | rfl | rfl | rfl | rfl | rfl | rfl <;> rfl
  generalize hfb : ag_ui (ag_ui (fun _ => 0) 0 (v 1)) 1 (v 2) = fb
  have fb0 : fb 0 = v 1 := by rw [← hfb]; rfl
  have fb1 : fb 1 = v 2 := by rw [← hfb]; rfl
  have i0 : ag_inb 2 0 := ⟨by rw [ag_nm_z]; decide, by rw [ag_nm_z]; decide⟩
  have i1 : ag_inb 2 1 := ⟨by rw [ag_nm_1]; decide, by rw [ag_nm_1]; decide⟩
  have w0 : ∀ x, ag_wr 2 (fun _ => 0) 0 x = ag_ui (fun _ => 0) 0 x := fun x => ag_wr_i x (by decide) (by decide) (by decide)
  have w1 : ∀ f x, ag_wr 2 f 1 x = ag_ui f 1 x := fun f x => ag_wr_i x (by decide) (by decide) (by decide)
  have b0 : ∀ fb x K, ag_is (ag_T2 τ fa fb) (τ.2.1 + 1 + 1) 0 x K = (ag_inb 2 0 ∧ K (ag_T2 τ fa (ag_wr 2 fb 0 x))) := fun fb x K => by
    rw [ag_is_at (ag_T2_y τ fa fb) (by omega), ag_T2_u]
  have b1 : ∀ fb x K, ag_is (ag_T2 τ fa fb) (τ.2.1 + 1 + 1) 1 x K = (ag_inb 2 1 ∧ K (ag_T2 τ fa (ag_wr 2 fb 1 x))) := fun fb x K => by
    rw [ag_is_at (ag_T2_y τ fa fb) (by omega), ag_T2_u]
  have a10 : ∀ K, ag_qs (ag_T2 τ fa fb) (τ.2.1 + 1) 10 (τ.2.1 + 1 + 1) K = K (ag_T2 τ (ag_uq fa 10 (some (τ.2.1 + 1 + 1))) fb) := fun K => by
    rw [ag_qs_at (ag_T2_z τ fa fb) (ag_T2_y τ fa fb) (by omega) (by omega) (i := 10) (by decide +kernel) (by decide), ag_T2_v]
  generalize hf9 : ag_uq fa 10 (some (τ.2.1 + 1 + 1)) = f9 at a10
  have f9i : ∀ i, i < 10 → f9 i = some (ρ (ag_tn i)) := fun i hi => by
    rw [← hf9]
    exact (if_neg (by omega)).trans (fai i hi)
  have f99 : f9 10 = some (τ.2.1 + 1 + 1) := by rw [← hf9]; exact if_pos rfl
  generalize hτ2 : ag_T2 τ f9 fb = τ2 at a10
  have g2c : τ2.2 = (τ.2.1 + 1 + 1, τ.2.2 + 11 + 2) := by rw [← hτ2]; rfl
  have g2o : ∀ z, z ≤ τ.2.1 → τ2.1 z = τ.1 z := fun z hz => by rw [← hτ2]; exact ag_T2_o f9 fb hz
  have g2z : τ2.1 (τ.2.1 + 1) = some (Sum.inr (Sum.inr (Sum.inl (11, f9)))) := by rw [← hτ2]; exact ag_T2_z τ f9 fb
  have g2y : τ2.1 (τ.2.1 + 1 + 1) = some (Sum.inl (2, fb)) := by rw [← hτ2]; exact ag_T2_y τ f9 fb
  have hk2 : ∀ k, k < 17 → τ2.1 (ρ k) = some (Sum.inl (ag_mL k, g k)) := fun k hk => (g2o _ (hk1 k hk).2.2).trans (hr k hk)
  have le2 : τ.2.1 ≤ τ2.2.1 := by rw [g2c]; show τ.2.1 ≤ τ.2.1 + 1 + 1; omega
  have le3 : ∀ k, k < 17 → ρ k ≤ τ2.2.1 := fun k hk => Nat.le_trans (hk1 k hk).2.2 le2
  have q0 := ag_KP_0 (τ0 := τ2) (g := g) ((g2o a ha2).trans ho)
  obtain ⟨t0, r0, q1, e0⟩ := ag_ks_0 q0 ha (Nat.le_trans ha2 le2) (by decide) (hk1 0 (by decide)).2.1 (le3 0 (by decide)) (hk1 0 (by decide)).1 (hk2 0 (by decide)) (some (ag_R (τ.2.1 + 1)))
  obtain ⟨t1, r1, q2, e1⟩ := ag_ks_1 q1 ha (Nat.le_trans ha2 le2) (by decide) (hk1 1 (by decide)).2.1 (le3 1 (by decide)) (hk1 1 (by decide)).1 (hk2 1 (by decide)) (some (ag_R (τ.2.1 + 1)))
  obtain ⟨t2, r2, q3, e2⟩ := ag_ks_2 q2 ha (Nat.le_trans ha2 le2) (by decide) (hk1 2 (by decide)).2.1 (le3 2 (by decide)) (hk1 2 (by decide)).1 (hk2 2 (by decide)) (some (ag_R (τ.2.1 + 1)))
  obtain ⟨t3, r3, q4, e3⟩ := ag_ks_3 q3 ha (Nat.le_trans ha2 le2) (by decide) (hk1 3 (by decide)).2.1 (le3 3 (by decide)) (hk1 3 (by decide)).1 (hk2 3 (by decide)) (some (ag_R (τ.2.1 + 1)))
  obtain ⟨t4, r4, q5, e4⟩ := ag_ks_4 q4 ha (Nat.le_trans ha2 le2) (by decide) (hk1 4 (by decide)).2.1 (le3 4 (by decide)) (hk1 4 (by decide)).1 (hk2 4 (by decide)) (some (ag_R (τ.2.1 + 1)))
  obtain ⟨t5, r5, q6, e5⟩ := ag_ks_7 q5 ha (Nat.le_trans ha2 le2) (by decide) (hk1 7 (by decide)).2.1 (le3 7 (by decide)) (hk1 7 (by decide)).1 (hk2 7 (by decide)) (some (ag_R (τ.2.1 + 1)))
  obtain ⟨t6, r6, q7, e6⟩ := ag_ks_8 q6 ha (Nat.le_trans ha2 le2) (by decide) (hk1 8 (by decide)).2.1 (le3 8 (by decide)) (hk1 8 (by decide)).1 (hk2 8 (by decide)) (some (ag_R (τ.2.1 + 1)))
  obtain ⟨t7, r7, q8, e7⟩ := ag_ks_9 q7 ha (Nat.le_trans ha2 le2) (by decide) (hk1 9 (by decide)).2.1 (le3 9 (by decide)) (hk1 9 (by decide)).1 (hk2 9 (by decide)) (some (ag_R (τ.2.1 + 1)))
  obtain ⟨t8, r8, q9, e8⟩ := ag_ks_10 q8 ha (Nat.le_trans ha2 le2) (by decide) (hk1 10 (by decide)).2.1 (le3 10 (by decide)) (hk1 10 (by decide)).1 (hk2 10 (by decide)) (some (ag_R (τ.2.1 + 1)))
  obtain ⟨t9, r9, q10, e9⟩ := ag_ks_11 q9 ha (Nat.le_trans ha2 le2) (by decide) (hk1 11 (by decide)).2.1 (le3 11 (by decide)) (hk1 11 (by decide)).1 (hk2 11 (by decide)) (some (ag_R (τ.2.1 + 1)))
  obtain ⟨p1, p2, p3, p4, p5, p6, p7⟩ := q10
  have p6 : t9.2.1 = τ2.2.1 + 10 := p6
  have p7 : t9.2.2 = τ2.2.2 + 292 := p7
  have hN : t9.2.1 = τ.2.1 + 12 := by rw [p6, g2c]
  have hM : t9.2.2 = τ.2.2 + 305 := by rw [p7, g2c]
  have g21 : τ2.2.1 = τ.2.1 + 2 := by rw [g2c]
  have hmi : ag_mi a r9 t9.2.1 := by
    refine ⟨fun k hk => ?_, fun j k hj hk e => ?_, ha, by omega⟩
    · by_cases q : k ∈ ag_TEN
      · have := p3 k q
        exact ⟨by omega, by omega, this.2.1⟩
      · rw [p2 k q]
        have := hk1 k hk
        exact ⟨this.1, this.2.1, by omega⟩
    · by_cases qj : j ∈ ag_TEN
      · by_cases qk : k ∈ ag_TEN
        · exact p4 j k qj qk e
        · rw [p2 k qk] at e
          have := p3 j qj
          have := hk1 k hk
          omega
      · by_cases qk : k ∈ ag_TEN
        · rw [p2 j qj] at e
          have := p3 k qk
          have := hk1 j hj
          omega
        · rw [p2 j qj, p2 k qk] at e
          exact h.2.1 j k hj hk e
  have hSM : ag_SM t9 a r9 (ag_gc g) v = t9 := by
    refine ag_SM_of hmi p1 (fun k hk => ?_)
    unfold ag_gc
    by_cases q : k ∈ ag_TEN
    · rw [if_pos q]
      exact (p3 k q).2.2
    · rw [if_neg q, p2 k q, p5 _ (le3 k hk) (hk1 k hk).1, hk2 k hk]
  refine ⟨t9, r9, ⟨hmi, ?_, fun y hy hya => ?_, p2, fun k hk => ?_, ⟨f9, ?_, f9i, ?_⟩, ⟨fb, ?_, fb0, fb1⟩⟩, fun K => ?_⟩
  · rw [← hc]
    exact Prod.ext hN hM
  · rw [hτ, p5 y (by rw [← hc] at hy; omega) hya, g2o y (by rw [hc]; exact hy)]
  · have := (p3 k hk).1
    rw [← hc]
    omega
  · rw [← hc, p5 _ (by omega) (by omega), g2z]
  · rw [← hc, f99]
  · rw [← hc, p5 _ (by omega) (by omega), g2y]
  · rw [hSM]
    have n11 : ag_nm 11 = 11 := ag_nmk_11
    simp only [ag_i155_0, ag_e155]
    rw [ag_i155_2, n11, show (11 : Int).toNat = 11 from rfl]
    refine Eq.trans (propext ⟨fun z => z.2, fun z => ⟨by decide, z⟩⟩ : _ = ag_wp 155 5 [some (ag_R a), none] [ag_R (τ.2.1 + 1)] (ag_T1 τ (fun _ => none)) K) ?_
    simp only [ag_i155_5, ag_i155_6, ag_i155_7, ag_i155_8, ag_i155_11, ag_i155_12, ag_i155_13, ag_i155_14, ag_i155_15, ag_i155_18, ag_i155_19, ag_i155_20, ag_i155_21, ag_i155_22, ag_i155_25, ag_i155_26, ag_i155_27, ag_i155_28, ag_i155_29, ag_i155_32, ag_i155_33, ag_i155_34, ag_i155_35, ag_i155_36, ag_i155_39, ag_i155_40, ag_i155_41, ag_i155_42, ag_i155_43, ag_i155_46, ag_i155_47, ag_i155_48, ag_i155_50, ag_i155_51, ag_i155_54, ag_i155_55, ag_i155_56, ag_i155_58, ag_i155_59, ag_i155_62, ag_i155_63, ag_i155_64, ag_i155_66, ag_i155_67, ag_i155_70, ag_i155_71, ag_i155_72, ag_i155_74, ag_i155_75, ag_i155_78, ag_i155_79, ag_i155_80, ag_i155_82, gf1 _ 4 (ag_R (ρ 0)) rfl, gf1 _ 5 (ag_R (ρ 1)) rfl, gf1 _ 6 (ag_R (ρ 2)) rfl, gf1 _ 7 (ag_R (ρ 3)) rfl, gf1 _ 8 (ag_R (ρ 4)) rfl, gf1 _ 11 (ag_R (ρ 7)) rfl, gf1 _ 12 (ag_R (ρ 8)) rfl, gf1 _ 13 (ag_R (ρ 9)) rfl, gf1 _ 14 (ag_R (ρ 10)) rfl, gf1 _ 15 (ag_R (ρ 11)) rfl, a0, a1, a2, a3, a4, a5, a6, a7, a8, a9, hfa]
    rw [ag_i155_83, ag_nmk_2, show (2 : Int).toNat = 2 from rfl]
    refine Eq.trans (propext ⟨fun z => z.2, fun z => ⟨by decide, z⟩⟩ : _ = ag_wp 155 85 [some (ag_R a), none] [ag_R (τ.2.1 + 1 + 1), ag_I 10, ag_R (τ.2.1 + 1), ag_R (τ.2.1 + 1)] (ag_T2 τ fa (fun _ => 0)) K) ?_
    simp only [ag_i155_85, ag_i155_86, ag_i155_87, ag_i155_88, ag_i155_91, ag_i155_92, ag_i155_93, ag_i155_94, ag_i155_95, ag_i155_98, ag_i155_99, ag_i155_100_n, ag_i155_100_i, ag_i155_100_r, gf2 _ _ 1 (ag_I (v 1)) rfl, gf2 _ _ 2 (ag_I (v 2)) rfl, b0, b1, i0, i1, w0, w1, hfb, a10, true_and]
    rw [e0, e1, e2, e3, e4, e5, e6, e7, e8, e9]
    simp only [ag_i155_211, ag_i155_212]
    rw [← hc]
/-- the object anew, all else as in τ -/
def ag_UP (τ : ag_S) (a : Nat) (ρ : Nat → Nat) (v : Nat → Int) : ag_S := (ag_up τ.1 a (ag_mO ρ v), τ.2)
theorem ag_UP_2 (τ : ag_S) (a : Nat) (ρ ρ' : Nat → Nat) (v v' : Nat → Int) : ((ag_up (ag_UP τ a ρ v).1 a (ag_mO ρ' v'), (ag_UP τ a ρ v).2) : ag_S) = ag_UP τ a ρ' v' := by
  unfold ag_UP
  rw [ag_up_2]
theorem ag_SM_cg {τ σ : ag_S} {a : Nat} {ρ : Nat → Nat} {g : Nat → Nat → Int} {v : Nat → Int} (h : ∀ y, y ≠ a → (∀ k, k < 17 → ρ k ≠ y) → τ.1 y = σ.1 y) (h2 : τ.2 = σ.2) : ag_SM τ a ρ g v = ag_SM σ a ρ g v := by
  refine Prod.ext (funext fun y => ?_) h2
  unfold ag_SM
  dsimp only
  by_cases ha : y = a
  · rw [if_pos ha, if_pos ha]
  · rw [if_neg ha, if_neg ha]
    cases hf : ag_mF ρ y with
    | some k => rfl
    | none =>
      dsimp only
      refine h y ha (fun k hk q => ?_)
      have := List.find?_eq_none.mp hf k (List.mem_range.mpr hk)
      simp at this
      exact this q
theorem ag_R_putBack {σ σ1 σ2 : ag_S} {a dc ds : Nat} {ρ ρ' : Nat → Nat} {g g2 : Nat → Nat → Int} {v v2 : Nat → Int} (h : ag_mi a ρ σ.2.1) (hk : ag_KK σ a ρ g v σ1 ρ') (hf : ag_fr σ1 σ2 dc ds) (hg : ∀ k, k < 17 → k ∉ ag_TEN → g2 k = g k) :
    ∃ σ3, (∀ y, y ≤ σ.2.1 → σ3.1 y = σ.1 y) ∧ (∀ y, σ.2.1 < y → σ3.1 y = (ag_SM σ2 a ρ' g2 v2).1 y) ∧ σ3.2 = σ2.2 ∧
    ∀ K, ag_cl9 156 [ag_R a, ag_R (σ.2.1 + 1)] (ag_SM σ2 a ρ' g2 v2) K = K (Sum.inl none) (ag_SM σ3 a ρ g (ag_ui (ag_ui v2 1 (v 1)) 2 (v 2))) := by
  obtain ⟨k1, k2, k3, k4, k5, ⟨fa, k6, k7, k8⟩, ⟨fb, k9, k10, k11⟩⟩ := hk
  have c1 : σ1.2.1 = σ.2.1 + 12 := by rw [k2]
  have ha := h.2.2.1
  have ha2 := h.2.2.2
  have nr : ∀ y, y ≤ σ1.2.1 → y ≠ a → (∀ k, k < 17 → ρ' k ≠ y) → (ag_SM σ2 a ρ' g2 v2).1 y = σ1.1 y := fun y hy hya hyr => (ag_SM_b g2 v2 hya hyr).trans (hf.1 y hy)
  have notin : ∀ y, y ≤ σ.2.1 + 2 → (∀ k, k < 17 → k ∉ ag_TEN → ρ k ≠ y) → ∀ k, k < 17 → ρ' k ≠ y := fun y hy hyr k hk => by
    by_cases q : k ∈ ag_TEN
    · have := k5 k q
      omega
    · rw [k4 k q]
      exact hyr k hk q
  have hz1 : ∀ k, k < 17 → ρ' k ≠ σ.2.1 + 1 := notin _ (by omega) (fun k hk _ => by have := (h.1 k hk).2.2; omega)
  have hz2 : ∀ k, k < 17 → ρ' k ≠ σ.2.1 + 2 := notin _ (by omega) (fun k hk _ => by have := (h.1 k hk).2.2; omega)
  have z1 : (ag_SM σ2 a ρ' g2 v2).1 (σ.2.1 + 1) = some (Sum.inr (Sum.inr (Sum.inl (11, fa)))) := (nr _ (by omega) (by omega) hz1).trans k6
  have z2 : (ag_SM σ2 a ρ' g2 v2).1 (σ.2.1 + 2) = some (Sum.inl (2, fb)) := (nr _ (by omega) (by omega) hz2).trans k9
  have hold : ∀ k, k < 17 → (ag_SM σ2 a ρ' g2 v2).1 (ρ k) = some (Sum.inl (ag_mL k, g k)) := fun k hk => by
    have b := h.1 k hk
    by_cases q : k ∈ ag_TEN
    · rw [nr _ (by omega) b.1 (notin _ (by omega) (fun j hj hjq e => hjq (by rw [h.2.1 j k hj hk e]; exact q))), k3 _ b.2.2 b.1]
      exact ag_SM_r h g v hk
    · have := ag_SM_r (σ := σ2) k1 g2 v2 hk
      rw [k4 k q, hg k hk q] at this
      exact this
  have hfr : ∀ y, y ≤ σ.2.1 → y ≠ a → (∀ k, k < 17 → ρ k ≠ y) → (ag_SM σ2 a ρ' g2 v2).1 y = σ.1 y := fun y hy hya hyr => by
    rw [nr y (by omega) hya (notin y (by omega) (fun k hk _ => hyr k hk)), k3 y hy hya]
    exact ag_SM_b g v hya hyr
  have hs : ag_SM σ2 a ρ' g2 v2 = ag_UP (ag_SM σ2 a ρ' g2 v2) a ρ' v2 := by
    refine Prod.ext (funext fun y => ?_) rfl
    show (ag_SM σ2 a ρ' g2 v2).1 y = if y = a then some (ag_mO ρ' v2) else (ag_SM σ2 a ρ' g2 v2).1 y
    by_cases q : y = a
    · rw [if_pos q, q]
      exact ag_SM_o σ2 a ρ' g2 v2
    · rw [if_neg q]
  have hc2 : (ag_SM σ2 a ρ' g2 v2).2 = σ2.2 := rfl
  refine ⟨(fun y => if y ≤ σ.2.1 then σ.1 y else (ag_SM σ2 a ρ' g2 v2).1 y, σ2.2), fun y hy => if_pos hy, fun y hy => if_neg (by omega), rfl, fun K => ?_⟩
  generalize hτ : ag_SM σ2 a ρ' g2 v2 = τ at *
  have uo : ∀ ρ v, (ag_UP τ a ρ v).1 a = some (ag_mO ρ v) := fun ρ v => if_pos rfl
  have uz1 : ∀ ρ v, (ag_UP τ a ρ v).1 (σ.2.1 + 1) = some (Sum.inr (Sum.inr (Sum.inl (11, fa)))) := fun ρ v => (if_neg (by omega)).trans z1
  have uz2 : ∀ ρ v, (ag_UP τ a ρ v).1 (σ.2.1 + 2) = some (Sum.inl (2, fb)) := fun ρ v => (if_neg (by omega)).trans z2
  have a0 : ∀ ρ9 v9 K, ag_qa (ag_UP τ a ρ9 v9) (σ.2.1 + 1) 0 K = K (ρ 0) := fun ρ9 v9 K => ag_qa_at (uz1 ρ9 v9) (i := 0) (by decide +kernel) (by decide) (k7 0 (by decide)) K
  have p0 : ∀ ρ9 v9 x K, ag_pf (ag_UP τ a ρ9 v9) a 6 4 (ag_R x) K = K (ag_UP τ a (ag_ur ρ9 0 x) v9) := fun ρ9 v9 x K => by
    rw [ag_pr_0 (uo ρ9 v9) ha, ag_UP_2]
  have a1 : ∀ ρ9 v9 K, ag_qa (ag_UP τ a ρ9 v9) (σ.2.1 + 1) 1 K = K (ρ 1) := fun ρ9 v9 K => ag_qa_at (uz1 ρ9 v9) (i := 1) (by decide +kernel) (by decide) (k7 1 (by decide)) K
  have p1 : ∀ ρ9 v9 x K, ag_pf (ag_UP τ a ρ9 v9) a 6 5 (ag_R x) K = K (ag_UP τ a (ag_ur ρ9 1 x) v9) := fun ρ9 v9 x K => by
    rw [ag_pr_1 (uo ρ9 v9) ha, ag_UP_2]
  have a2 : ∀ ρ9 v9 K, ag_qa (ag_UP τ a ρ9 v9) (σ.2.1 + 1) 2 K = K (ρ 2) := fun ρ9 v9 K => ag_qa_at (uz1 ρ9 v9) (i := 2) (by decide +kernel) (by decide) (k7 2 (by decide)) K
  have p2 : ∀ ρ9 v9 x K, ag_pf (ag_UP τ a ρ9 v9) a 6 6 (ag_R x) K = K (ag_UP τ a (ag_ur ρ9 2 x) v9) := fun ρ9 v9 x K => by
    rw [ag_pr_2 (uo ρ9 v9) ha, ag_UP_2]
  have a3 : ∀ ρ9 v9 K, ag_qa (ag_UP τ a ρ9 v9) (σ.2.1 + 1) 3 K = K (ρ 3) := fun ρ9 v9 K => ag_qa_at (uz1 ρ9 v9) (i := 3) (by decide +kernel) (by decide) (k7 3 (by decide)) K
  have p3 : ∀ ρ9 v9 x K, ag_pf (ag_UP τ a ρ9 v9) a 6 7 (ag_R x) K = K (ag_UP τ a (ag_ur ρ9 3 x) v9) := fun ρ9 v9 x K => by
    rw [ag_pr_3 (uo ρ9 v9) ha, ag_UP_2]
  have a4 : ∀ ρ9 v9 K, ag_qa (ag_UP τ a ρ9 v9) (σ.2.1 + 1) 4 K = K (ρ 4) := fun ρ9 v9 K => ag_qa_at (uz1 ρ9 v9) (i := 4) (by decide +kernel) (by decide) (k7 4 (by decide)) K
  have p4 : ∀ ρ9 v9 x K, ag_pf (ag_UP τ a ρ9 v9) a 6 8 (ag_R x) K = K (ag_UP τ a (ag_ur ρ9 4 x) v9) := fun ρ9 v9 x K => by
    rw [ag_pr_4 (uo ρ9 v9) ha, ag_UP_2]
  have a5 : ∀ ρ9 v9 K, ag_qa (ag_UP τ a ρ9 v9) (σ.2.1 + 1) 5 K = K (ρ 7) := fun ρ9 v9 K => ag_qa_at (uz1 ρ9 v9) (i := 5) (by decide +kernel) (by decide) (k7 5 (by decide)) K
  have p7 : ∀ ρ9 v9 x K, ag_pf (ag_UP τ a ρ9 v9) a 6 11 (ag_R x) K = K (ag_UP τ a (ag_ur ρ9 7 x) v9) := fun ρ9 v9 x K => by
    rw [ag_pr_7 (uo ρ9 v9) ha, ag_UP_2]
  have a6 : ∀ ρ9 v9 K, ag_qa (ag_UP τ a ρ9 v9) (σ.2.1 + 1) 6 K = K (ρ 8) := fun ρ9 v9 K => ag_qa_at (uz1 ρ9 v9) (i := 6) (by decide +kernel) (by decide) (k7 6 (by decide)) K
  have p8 : ∀ ρ9 v9 x K, ag_pf (ag_UP τ a ρ9 v9) a 6 12 (ag_R x) K = K (ag_UP τ a (ag_ur ρ9 8 x) v9) := fun ρ9 v9 x K => by
    rw [ag_pr_8 (uo ρ9 v9) ha, ag_UP_2]
  have a7 : ∀ ρ9 v9 K, ag_qa (ag_UP τ a ρ9 v9) (σ.2.1 + 1) 7 K = K (ρ 9) := fun ρ9 v9 K => ag_qa_at (uz1 ρ9 v9) (i := 7) (by decide +kernel) (by decide) (k7 7 (by decide)) K
  have p9 : ∀ ρ9 v9 x K, ag_pf (ag_UP τ a ρ9 v9) a 6 13 (ag_R x) K = K (ag_UP τ a (ag_ur ρ9 9 x) v9) := fun ρ9 v9 x K => by
    rw [ag_pr_9 (uo ρ9 v9) ha, ag_UP_2]
  have a8 : ∀ ρ9 v9 K, ag_qa (ag_UP τ a ρ9 v9) (σ.2.1 + 1) 8 K = K (ρ 10) := fun ρ9 v9 K => ag_qa_at (uz1 ρ9 v9) (i := 8) (by decide +kernel) (by decide) (k7 8 (by decide)) K
  have p10 : ∀ ρ9 v9 x K, ag_pf (ag_UP τ a ρ9 v9) a 6 14 (ag_R x) K = K (ag_UP τ a (ag_ur ρ9 10 x) v9) := fun ρ9 v9 x K => by
    rw [ag_pr_10 (uo ρ9 v9) ha, ag_UP_2]
  have a9 : ∀ ρ9 v9 K, ag_qa (ag_UP τ a ρ9 v9) (σ.2.1 + 1) 9 K = K (ρ 11) := fun ρ9 v9 K => ag_qa_at (uz1 ρ9 v9) (i := 9) (by decide +kernel) (by decide) (k7 9 (by decide)) K
  have p11 : ∀ ρ9 v9 x K, ag_pf (ag_UP τ a ρ9 v9) a 6 15 (ag_R x) K = K (ag_UP τ a (ag_ur ρ9 11 x) v9) := fun ρ9 v9 x K => by
    rw [ag_pr_11 (uo ρ9 v9) ha, ag_UP_2]
  have a10 : ∀ ρ9 v9 K, ag_qa (ag_UP τ a ρ9 v9) (σ.2.1 + 1) 10 K = K (σ.2.1 + 2) := fun ρ9 v9 K => ag_qa_at (uz1 ρ9 v9) (i := 10) (by decide +kernel) (by decide) k8 K
  have n1 : ∀ ρ9 v9 x K, ag_pf (ag_UP τ a ρ9 v9) a 6 1 (ag_I x) K = K (ag_UP τ a ρ9 (ag_ui v9 1 x)) := fun ρ9 v9 x K => by
    rw [ag_pn_1 (uo ρ9 v9) ha, ag_UP_2]
  have n2 : ∀ ρ9 v9 x K, ag_pf (ag_UP τ a ρ9 v9) a 6 2 (ag_I x) K = K (ag_UP τ a ρ9 (ag_ui v9 2 x)) := fun ρ9 v9 x K => by
    rw [ag_pn_2 (uo ρ9 v9) ha, ag_UP_2]
  have i0 : ag_inb 2 0 := ⟨by rw [ag_nm_z]; decide, by rw [ag_nm_z]; decide⟩
  have i1 : ag_inb 2 1 := ⟨by rw [ag_nm_1]; decide, by rw [ag_nm_1]; decide⟩
  have y0 : ∀ ρ9 v9 K, ag_ia (ag_UP τ a ρ9 v9) (σ.2.1 + 2) 0 K = K (v 1) := fun ρ9 v9 K => by
    rw [ag_ia_at (uz2 ρ9 v9), ag_rd_i (by decide) (by decide) (by decide)]
    rw [show fb (0 : Int).toNat = v 1 from k10]
    exact propext ⟨fun z => z.2, fun z => ⟨i0, z⟩⟩
  have y1 : ∀ ρ9 v9 K, ag_ia (ag_UP τ a ρ9 v9) (σ.2.1 + 2) 1 K = K (v 2) := fun ρ9 v9 K => by
    rw [ag_ia_at (uz2 ρ9 v9), ag_rd_i (by decide) (by decide) (by decide)]
    rw [show fb (1 : Int).toNat = v 2 from k11]
    exact propext ⟨fun z => z.2, fun z => ⟨i1, z⟩⟩
  have hchain : ag_ur (ag_ur (ag_ur (ag_ur (ag_ur (ag_ur (ag_ur (ag_ur (ag_ur (ag_ur (ρ') 0 (ρ 0)) 1 (ρ 1)) 2 (ρ 2)) 3 (ρ 3)) 4 (ρ 4)) 7 (ρ 7)) 8 (ρ 8)) 9 (ρ 9)) 10 (ρ 10)) 11 (ρ 11) = ρ := by
    funext k
    by_cases q : k ∈ ag_TEN
    · have hm : k = 0 ∨ k = 1 ∨ k = 2 ∨ k = 3 ∨ k = 4 ∨ k = 7 ∨ k = 8 ∨ k = 9 ∨ k = 10 ∨ k = 11 := by
        simp only [List.mem_cons, List.not_mem_nil, or_false] at q
        omega
      rcases hm with rfl | rfl | rfl | rfl | rfl | rfl | rfl | rfl | rfl | rfl <;> rfl
    · have hm : k ≠ 0 ∧ k ≠ 1 ∧ k ≠ 2 ∧ k ≠ 3 ∧ k ≠ 4 ∧ k ≠ 7 ∧ k ≠ 8 ∧ k ≠ 9 ∧ k ≠ 10 ∧ k ≠ 11 := by
        simp only [List.mem_cons, List.not_mem_nil, or_false] at q
        omega
      obtain ⟨m0, m1, m2, m3, m4, m7, m8, m9, m10, m11⟩ := hm
      rw [ag_ur_ne m11, ag_ur_ne m10, ag_ur_ne m9, ag_ur_ne m8, ag_ur_ne m7, ag_ur_ne m4, ag_ur_ne m3, ag_ur_ne m2, ag_ur_ne m1, ag_ur_ne m0, k4 k q]
  have hend : ag_UP τ a ρ (ag_ui (ag_ui v2 1 (v 1)) 2 (v 2)) = ag_SM ((fun y => if y ≤ σ.2.1 then σ.1 y else τ.1 y, σ2.2) : ag_S) a ρ g (ag_ui (ag_ui v2 1 (v 1)) 2 (v 2)) := by
    rw [← ag_SM_of (τ := ag_UP τ a ρ (ag_ui (ag_ui v2 1 (v 1)) 2 (v 2))) h (uo _ _) (fun k hk => (if_neg (h.1 k hk).1).trans (hold k hk))]
    refine ag_SM_cg (fun y hya hyr => ?_) hc2
    show (if y = a then _ else τ.1 y) = if y ≤ σ.2.1 then σ.1 y else τ.1 y
    rw [if_neg hya]
    split
    · rename_i q
      exact hfr y q hya hyr
    · rfl
  rw [← hend, hs]
  simp only [ag_i156_0, ag_i156_1, ag_i156_2, ag_i156_3, ag_i156_4, ag_i156_7, ag_i156_8, ag_i156_9, ag_i156_10, ag_i156_11, ag_i156_14, ag_i156_15, ag_i156_16, ag_i156_17, ag_i156_18, ag_i156_21, ag_i156_22, ag_i156_23, ag_i156_24, ag_i156_25, ag_i156_28, ag_i156_29, ag_i156_30, ag_i156_31, ag_i156_32, ag_i156_35, ag_i156_36, ag_i156_37, ag_i156_38, ag_i156_39, ag_i156_42, ag_i156_43, ag_i156_44, ag_i156_46, ag_i156_47, ag_i156_50, ag_i156_51, ag_i156_52, ag_i156_54, ag_i156_55, ag_i156_58, ag_i156_59, ag_i156_60, ag_i156_62, ag_i156_63, ag_i156_66, ag_i156_67, ag_i156_68, ag_i156_70, ag_i156_71, ag_i156_74, ag_i156_75, ag_i156_76, ag_i156_78, ag_i156_79, ag_i156_80, ag_i156_81, ag_i156_84, ag_i156_85, ag_i156_86, ag_i156_88, ag_i156_89, ag_i156_90, ag_i156_91, ag_i156_94, ag_e156, a0, a1, a2, a3, a4, a5, a6, a7, a8, a9, a10, p0, p1, p2, p3, p4, p7, p8, p9, p10, p11, n1, n2, y0, y1, hchain]
  exact congrArg (K _) (ag_UP_2 τ a ρ' ρ v2 _).symm
