/-! What is decided stays so; who would end otherwise. -/
variable {B : Nat}
section AGKP
variable {gb gp : Nat → Nat → Int} {w n m : Nat}
theorem ag_set_keep {b : Nat} {s y : Int} (hb : b < 20) (hl : gp 3 b = 0) (j : Nat) (hj : gp 3 j ≠ 0) : ag_set gp b s y m 3 j = gp 3 j := by
  have hji : j ≠ b := fun z => hj (by rw [z]; exact hl)
  rw [ag_set_3 hb, ag_ui_ne hji, if_neg (fun z => hj z.2.1)]
theorem ag_spl_keep {x : Nat} (hm : m ≤ 20) : ∀ (k i : Nat) (gp : Nat → Nat → Int), i + k = m → ∀ j, gp 3 j ≠ 0 → ag_spl gb x m k i gp 3 j = gp 3 j := by
  intro k
  induction k with
  | zero => intro i gp _ j _; rfl
  | succ k ih =>
    intro i gp hi j hj
    rw [ag_spl]
    by_cases c : ag_fat gb gp x i = 0
    · rw [if_pos c]
      exact ih (i + 1) gp (by omega) j hj
    · rw [if_neg c]
      have hl : gp 3 i = 0 := by
        by_cases z : gp 3 i = 0
        · exact z
        · refine absurd ?_ c
          unfold ag_fat
          rw [ag_rd_nat (by decide) (show i < 20 by omega), if_pos z]
      have one := ag_set_keep (m := m) (s := ag_fat gb gp x i) (y := if ag_fat gb gp x i = 3 then (x : Int) else -1) (show i < 20 by omega) hl j hj
      rw [ih (i + 1) _ (by omega) j (by rw [one]; exact hj), one]
theorem ag_dec_keep {gh : Nat → Nat → Int} {np b : Nat} {qu x : Int} {S : ag_T} (hV : ag_IV S m) (hb : b < m) (hl : S.2.2.2 3 b = 0) (j : Nat) (hj : S.2.2.2 3 j ≠ 0) : (ag_dec gh np qu x m S b).2.2.2 3 j = S.2.2.2 3 j := by
  have hm : m ≤ 20 := hV.2.1.1.2.2
  unfold ag_dec
  by_cases q1 : ag_ftb S.1 S.2.1 S.2.2.1 S.2.2.2 b = 0
  · rw [if_pos q1]
    exact ag_set_keep (s := 3) (y := (b : Int)) (by omega) hl j hj
  · rw [if_neg q1]
    by_cases q2 : ag_car gh np qu b x = 0
    · rw [if_pos q2]
      exact ag_set_keep (s := 2) (y := -1) (by omega) hl j hj
    · rw [if_neg q2]
      obtain ⟨-, -, ⟨-, -, p3, -, -⟩, -⟩ := ag_pfm_I hV hb hl q1
      have hl2 : (ag_pfm S.1 S.2.1 S.2.2.1 S.2.2.2 b).2.2.2 3 b = 0 := by rw [p3]; exact hl
      have hj2 : (ag_pfm S.1 S.2.1 S.2.2.1 S.2.2.2 b).2.2.2 3 j ≠ 0 := by rw [p3]; exact hj
      have k1 := ag_set_keep (m := m) (s := 1) (y := -1) (show b < 20 by omega) hl2 j hj2
      show ag_spl (ag_pfm S.1 S.2.1 S.2.2.1 S.2.2.2 b).1 b m m 0 (ag_set (ag_pfm S.1 S.2.1 S.2.2.1 S.2.2.2 b).2.2.2 b 1 (-1) m) 3 j = S.2.2.2 3 j
      rw [ag_spl_keep hm m 0 _ (Nat.zero_add _) j (by rw [k1]; exact hj2), k1, p3]
theorem ag_dal_keep {gh : Nat → Nat → Int} {np : Nat} {qu x : Int} : ∀ (k : Nat) (S : ag_T), ag_IV S m → ∀ j, S.2.2.2 3 j ≠ 0 → (ag_dal gh np qu x m k S).2.2.2 3 j = S.2.2.2 3 j := by
  intro k
  induction k with
  | zero => intro S _ j _; rfl
  | succ k ih =>
    intro S hV j hj
    show (if ag_nxt S.1 S.2.2.2 m = -1 then S else ag_dal gh np qu x m k (ag_dec gh np qu x m S (ag_nxt S.1 S.2.2.2 m).toNat)).2.2.2 3 j = _
    by_cases c : ag_nxt S.1 S.2.2.2 m = -1
    · rw [if_pos c]
    · rw [if_neg c]
      obtain ⟨b, hb, hn, hl⟩ := ag_nxt_is c
      rw [show (ag_nxt S.1 S.2.2.2 m).toNat = b by omega]
      have k1 := ag_dec_keep (gh := gh) (np := np) (qu := qu) (x := x) hV hb hl j hj
      rw [ih _ (ag_dec_IV hV hb hl).1 j (by rw [k1]; exact hj), k1]
theorem ag_ct_mon9 {p q : Nat → Bool} : ∀ (k i : Nat), (∀ j, i ≤ j → j < i + k → p j = true → q j = true) → ag_ct p k i ≤ ag_ct q k i := by
  intro k
  induction k with
  | zero => intro i _; exact Nat.le_refl _
  | succ k ih =>
    intro i h
    have h0 := h i (Nat.le_refl _) (by omega)
    have h1 := ih (i + 1) (fun j a b => h j (by omega) (by omega))
    show (if p i = true then 1 else 0) + ag_ct p k (i + 1) ≤ (if q i = true then 1 else 0) + ag_ct q k (i + 1)
    by_cases c : p i = true
    · rw [if_pos c, if_pos (h0 c)]
      omega
    · rw [if_neg c]
      omega
/-- no more end otherwise than are laid -/
theorem ag_vo9_le {gh : Nat → Nat → Int} {np : Nat} {qu : Int} {S : ag_T} (hV : ag_IV S m) (p : Int) : ag_vo9 gh np qu S m p ≤ (ag_cnt S.2.2.2 m 0 : Int) ∧ 0 ≤ ag_vo9 gh np qu S m p := by
  unfold ag_vo9
  have h : ag_ct (fun i => decide ((ag_dal gh np qu p m 20 S).2.2.2 3 i ≠ (ag_dal gh np qu (-1) m 20 S).2.2.2 3 i)) m 0 ≤ ag_cnt S.2.2.2 m 0 := by
    refine ag_ct_mon9 m 0 (fun j _ _ hj => ?_)
    have hj := of_decide_eq_true hj
    refine decide_eq_true ?_
    by_cases z : S.2.2.2 3 j = 0
    · exact z
    · refine absurd ?_ hj
      rw [ag_dal_keep 20 S hV j z, ag_dal_keep 20 S hV j z]
  omega
/-- no more would be called than are laid, and one at least, if one is -/
theorem ag_vi9_le {gh : Nat → Nat → Int} {np : Nat} {qu : Int} {S : ag_T} (hV : ag_IV S m) : ∀ k : Nat, ag_IV (ag_dal gh np qu (-1) m k S) m := by
  have w : ∀ (k : Nat) (S : ag_T), ag_IV S m → ag_IV (ag_dal gh np qu (-1) m k S) m := by
    intro k
    induction k with
    | zero => intro S h; exact h
    | succ k ih =>
      intro S h
      show ag_IV (if ag_nxt S.1 S.2.2.2 m = -1 then S else ag_dal gh np qu (-1) m k (ag_dec gh np qu (-1) m S (ag_nxt S.1 S.2.2.2 m).toNat)) m
      by_cases c : ag_nxt S.1 S.2.2.2 m = -1
      · rw [if_pos c]
        exact h
      · rw [if_neg c]
        obtain ⟨b, hb, hn, hl⟩ := ag_nxt_is c
        rw [show (ag_nxt S.1 S.2.2.2 m).toNat = b by omega]
        exact ih _ (ag_dec_IV h hb hl).1
  exact fun k => w k S hV
end AGKP
section AGKQ
variable {σ : ag_S} {dr qu mi : Int} {gh gq : Nat → Nat → Int} {m np nq k : Nat} {S : ag_T}
theorem ag_m_np (hM : ag_M B σ dr qu mi S m gh np gq nq) : ∃ l6 : Nat, (∀ K : ag_V → Prop, ag_gf σ B 6 7 K = K (ag_R l6)) ∧ ∀ K : Int → Prop, ag_al9 σ l6 K = K np := by
  obtain ⟨L, ln, g, T, mt, en, h, hX, hT, tc, ta, tv, tp, ts⟩ := hM
  exact ⟨L 6, fun K => ag_h_g7 h K, fun K => by rw [ag_h_a6 h, ts.1]⟩
theorem ag_m_mi (hM : ag_M B σ dr qu mi S m gh np gq nq) (K : ag_V → Prop) : ag_gf σ B 6 11 K = K (ag_I mi) := by
  obtain ⟨L, ln, g, T, mt, en, h, -⟩ := hM
  exact ag_h_g11 h K
theorem ag_m_all (hM : ag_M B σ dr qu mi S m gh np gq nq) (hU : ag_U S m gh np qu mi gq nq k) (K : ag_Rs → ag_S → Prop) : ag_cl9 125 [ag_R B] σ K = K (Sum.inl (some (ag_I (ag_su (gh 0) np 0)))) σ := by
  obtain ⟨L, ln, g, T, mt, en, h, hX, hT, tc, ta, tv, tp, ts⟩ := hM
  exact ag_h_all h ts hU.2.1.2.1 K
theorem ag_m_m (hM : ag_M B σ dr qu mi S m gh np gq nq) (K : ag_V → Prop) : ag_gf σ B 6 0 K = K (ag_R (B + 1)) := by
  obtain ⟨L, ln, g, T, mt, en, h, -⟩ := hM
  exact ag_h_g0 h K
end AGKQ
