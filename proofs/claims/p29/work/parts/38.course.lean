/-! A COURSE at c (its Bill at c + 1, its Papers at c + 10) with the House at 2. -/
variable {B : Nat}
def ag_SO (B : Nat) (σ : ag_S) (c : Nat) : ag_S := (ag_up σ.1 c (Sum.inr (Sum.inr (Sum.inr (1, [ag_R (c + 1), ag_R (c + 10), ag_R (B + 2)])))), σ.2)
def ag_SK (B : Nat) (σ : ag_S) (c : Nat) (gh : Nat → Nat → Int) (vh : Nat → Int) (gb : Nat → Nat → Int) (vb : Nat → Int) (gp : Nat → Nat → Int) (vp : Nat → Int) : ag_S :=
  ag_SP (ag_SB (ag_SH (ag_SO B σ c) (B + 2) gh vh) (c + 1) gb vb) (c + 10) gp vp
section AGK
variable (σ : ag_S) {c : Nat} (gh : Nat → Nat → Int) (vh : Nat → Int) (gb : Nat → Nat → Int) (vb : Nat → Int) (gp : Nat → Nat → Int) (vp : Nat → Int)
theorem ag_SK_B (hc : B + 7 ≤ c) : ag_SK B σ c gh vh gb vb gp vp = ag_SB (ag_SP (ag_SH (ag_SO B σ c) (B + 2) gh vh) (c + 10) gp vp) (c + 1) gb vb := by
  unfold ag_SK
  rw [ag_SBP _ gb gp vb vp (by omega)]
theorem ag_SK_H (hc : B + 7 ≤ c) : ag_SK B σ c gh vh gb vb gp vp = ag_SH (ag_SP (ag_SB (ag_SO B σ c) (c + 1) gb vb) (c + 10) gp vp) (B + 2) gh vh := by
  unfold ag_SK
  rw [ag_SBH _ gb gh vb vh (by omega), ag_SHP _ gh gp vh vp (by omega)]
theorem ag_SK_P : ag_SK B σ c gh vh gb vb gp vp = ag_SP (ag_SB (ag_SH (ag_SO B σ c) (B + 2) gh vh) (c + 1) gb vb) (c + 10) gp vp := rfl
theorem ag_SK_o (hc : B + 7 ≤ c) : (ag_SK B σ c gh vh gb vb gp vp).1 c = some (Sum.inr (Sum.inr (Sum.inr (1, [ag_R (c + 1), ag_R (c + 10), ag_R (B + 2)])))) := by
  unfold ag_SK
  rw [ag_SP_fr _ _ gp vp (by omega), ag_SB_fr _ _ gb vb (by omega), ag_SH_fr _ _ gh vh (by omega)]
  simp [ag_SO, ag_up]
theorem ag_SK_f0 (hc : B + 7 ≤ c) (K : ag_V → Prop) : ag_gf (ag_SK B σ c gh vh gb vb gp vp) c 1 0 K = K (ag_R (c + 1)) := by
  unfold ag_gf
  rw [ag_SK_o σ gh vh gb vb gp vp hc]
  simp
theorem ag_SK_f1 (hc : B + 7 ≤ c) (K : ag_V → Prop) : ag_gf (ag_SK B σ c gh vh gb vb gp vp) c 1 1 K = K (ag_R (c + 10)) := by
  unfold ag_gf
  rw [ag_SK_o σ gh vh gb vb gp vp hc]
  simp
theorem ag_SK_f2 (hc : B + 7 ≤ c) (K : ag_V → Prop) : ag_gf (ag_SK B σ c gh vh gb vb gp vp) c 1 2 K = K (ag_R (B + 2)) := by
  unfold ag_gf
  rw [ag_SK_o σ gh vh gb vb gp vp hc]
  simp
theorem ag_SK_ck (hc : B + 7 ≤ c) (P : Prop) : ag_ck (ag_SK B σ c gh vh gb vb gp vp) c 1 P = P := by
  unfold ag_ck
  rw [ag_SK_o σ gh vh gb vb gp vp hc]
  simp
theorem ag_lB (hc : B + 7 ≤ c) {y : Nat} {as : List ag_V} {r : ag_Rs} {g' : Nat → Nat → Int} {v' : Nat → Int} {gb : Nat → Nat → Int} {vb : Nat → Int} (h : ∀ σ K, ag_cl9 y as (ag_SB σ (c + 1) gb vb) K = K r (ag_SB σ (c + 1) g' v')) (K : ag_Rs → ag_S → Prop) : ag_cl9 y as (ag_SK B σ c gh vh gb vb gp vp) K = K r (ag_SK B σ c gh vh g' v' gp vp) := by
  rw [ag_SK_B σ _ _ _ _ _ _ hc, ag_SK_B σ _ _ _ _ _ _ hc, h]
theorem ag_lH (hc : B + 7 ≤ c) {y : Nat} {as : List ag_V} {r : ag_Rs} {g' : Nat → Nat → Int} {v' : Nat → Int} {gh : Nat → Nat → Int} {vh : Nat → Int} (h : ∀ σ K, ag_cl9 y as (ag_SH σ (B + 2) gh vh) K = K r (ag_SH σ (B + 2) g' v')) (K : ag_Rs → ag_S → Prop) : ag_cl9 y as (ag_SK B σ c gh vh gb vb gp vp) K = K r (ag_SK B σ c g' v' gb vb gp vp) := by
  rw [ag_SK_H σ _ _ _ _ _ _ hc, ag_SK_H σ _ _ _ _ _ _ hc, h]
theorem ag_lP {y : Nat} {as : List ag_V} {r : ag_Rs} {g' : Nat → Nat → Int} {v' : Nat → Int} {gp : Nat → Nat → Int} {vp : Nat → Int} (h : ∀ σ K, ag_cl9 y as (ag_SP σ (c + 10) gp vp) K = K r (ag_SP σ (c + 10) g' v')) (K : ag_Rs → ag_S → Prop) : ag_cl9 y as (ag_SK B σ c gh vh gb vb gp vp) K = K r (ag_SK B σ c gh vh gb vb g' v') := by
  rw [ag_SK_P, ag_SK_P, h]
end AGK
