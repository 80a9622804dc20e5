/-! A LAID CHANGE'S AIM IS LAID. -/
def ag_E3 (gp : Nat → Nat → Int) (m : Nat) : Prop := ∀ a : Nat, a < m → gp 3 a = 0 → gp 0 a = 5 → gp 3 (gp 1 a).toNat = 0
section AGE3
variable {gb gp : Nat → Nat → Int} {w n m : Nat}
theorem ag_E3_set {b : Nat} {s y : Int} (h : ag_E3 gp m) (hb : b < m) (hm : m ≤ 20) (hs : 1 ≤ s ∧ s ≤ 4) (rg : ∀ a : Nat, a < m → gp 0 a = 5 → 0 ≤ gp 1 a) (no : ∀ i : Nat, i < m → gp 0 i = 5 → ∀ j : Nat, j < m → gp 0 j = 5 → gp 1 j ≠ i) (in9 : ∀ a : Nat, a < m → gp 0 a = 5 → gp 1 a < m) : ag_E3 (ag_set gp b s y m) m := by
  intro a ha h3 h0
  rw [ag_set_k (by decide) (by decide)] at h0
  rw [ag_set_k (k := 1) (by decide) (by decide)]
  have e3 := ag_set_3 (gp := gp) (s := s) (y := y) (m := m) (show b < 20 by omega) a
  have r0 := rg a ha h0
  have r1 := in9 a ha h0
  have hab : a ≠ b := fun z => by
    rw [z, ag_set_b (by omega) (by omega)] at h3
    omega
  rw [ag_ui_ne hab] at e3
  by_cases hit : a < m ∧ gp 3 a = 0 ∧ gp 0 a = 5 ∧ gp 1 a = b
  · rw [if_pos hit] at e3
    omega
  · rw [if_neg hit] at e3
    have g3 : gp 3 a = 0 := by rw [← e3]; exact h3
    have hne : (gp 1 a).toNat ≠ b := fun z => hit ⟨ha, g3, h0, by omega⟩
    have old := h a ha g3 h0
    rw [ag_set_3 (by omega), ag_ui_ne hne, if_neg (fun z => ?_)]
    · exact old
    · exact no (gp 1 a).toNat (by omega) z.2.2.1 a ha h0 (by omega)
end AGE3
