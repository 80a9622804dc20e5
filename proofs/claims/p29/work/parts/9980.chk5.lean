/-! THE LAW'S THIRD CHECK: came and made, the bill's length, the mean. -/
variable {B : Nat}
section AGC5
variable {σ : ag_S} {dr qu mi : Int} {gh gq : Nat → Nat → Int} {m np nq k : Nat} {S : ag_T} {a0 a1 a2 a4 a5 a6 a7 a8 a9 a10 a11 a12 a13 a14 a15 a16 a17 a18 a19 a20 a21 : Option ag_V}
theorem ag_sb_su {gb : Nat → Nat → Int} {w n : Nat} (hB : ag_IB gb w n) : ∀ (k i : Nat), i + k = n → ag_sb gb k i = ag_su (fun i => gb 2 (gb 6 i).toNat) k i := by
  have hw : w ≤ 40 := hB.1.2.2.2
  have hnw : n ≤ w := hB.1.2.2.1
  intro k
  induction k with
  | zero => intro i _; rfl
  | succ k ih =>
    intro i hi
    have r := hB.2.1 i (by omega)
    show ag_rd 40 (gb 2) (ag_rd 40 (gb 6) i) + ag_sb gb k (i + 1) = gb 2 (gb 6 i).toNat + ag_su (fun i => gb 2 (gb 6 i).toNat) k (i + 1)
    rw [ih (i + 1) (by omega), ag_rd_nat (by decide) (by omega), ag_rd_i (by decide) r.1 (by omega)]
theorem ag_c3 (hM : ag_M B σ dr qu mi S m gh np gq nq) (hU : ag_U S m gh np qu mi gq nq k) {x9 : Int} : ∃ y10 y11 y13 : Option ag_V, ∀ K : ag_Rs → ag_S → Prop,
      ag_wp 136 353 [a0, a1, a2, some (ag_R (B + 1)), a4, a5, a6, a7, some (ag_I ((ag_ct (fun a => decide (0 ≤ S.2.2.2 5 a)) m 0 : Nat) : Int)), some (ag_I x9), a10, a11, a12, a13, a14, a15, a16, a17, a18, a19, a20, a21] [] σ K =
      ag_wp 136 490 [a0, a1, a2, some (ag_R (B + 1)), a4, a5, a6, a7, some (ag_I ((ag_ct (fun a => decide (0 ≤ S.2.2.2 5 a)) m 0 : Nat) : Int)), some (ag_I x9), y10, y11, some (ag_I (ag_su (fun c => if S.1 5 c = -1 then 0 else S.1 2 c) S.2.1 0)), y13, a14, a15, a16, a17, a18, a19, a20, a21] [] σ K := by
  have hV := hU.1
  have hw : S.2.1 ≤ 40 := hV.1.1.2.2.2
  have hnw : S.2.2.1 ≤ S.2.1 := hV.1.1.2.2.1
  have hm : m ≤ 20 := hV.2.1.1.2.2
  have ck := ag_m_ck hM
  have came : ag_ct (fun c => decide (0 ≤ S.1 3 c)) S.2.1 0 = ag_ct (fun a => decide (0 ≤ S.2.2.2 5 a)) m 0 := ag_came hV hU.2.2.2.2.2.2.2.2
  have l0 : ∀ K : ag_Rs → ag_S → Prop, ag_wp 136 365 [a0, a1, a2, some (ag_R (B + 1)), a4, a5, a6, a7, some (ag_I ((ag_ct (fun a => decide (0 ≤ S.2.2.2 5 a)) m 0 : Nat) : Int)), some (ag_I x9), some (ag_I ((0 : Nat) : Int)), some (ag_I ((0 : Nat) : Int)), some (ag_I 0), some (ag_I ((0 : Nat) : Int)), a14, a15, a16, a17, a18, a19, a20, a21] [] σ K =
      ag_wp 136 440 [a0, a1, a2, some (ag_R (B + 1)), a4, a5, a6, a7, some (ag_I ((ag_ct (fun a => decide (0 ≤ S.2.2.2 5 a)) m 0 : Nat) : Int)), some (ag_I x9), some (ag_I ((ag_ct (fun a => decide (0 ≤ S.2.2.2 5 a)) m 0 : Nat) : Int)), some (ag_I ((ag_ct (fun c => decide (S.1 5 c = -1)) S.2.1 0 : Nat) : Int)), some (ag_I (ag_su (fun c => if S.1 5 c = -1 then 0 else S.1 2 c) S.2.1 0)), some (ag_I (S.2.1 : Int)), a14, a15, a16, a17, a18, a19, a20, a21] [] σ K := fun K => by
    have l0 := ag_c3_loop (a0 := a0) (a1 := a1) (a2 := a2) (a4 := a4) (a5 := a5) (a6 := a6) (a7 := a7) (a8 := some (ag_I ((ag_ct (fun a => decide (0 ≤ S.2.2.2 5 a)) m 0 : Nat) : Int))) (a14 := a14) (a15 := a15) (a16 := a16) (a17 := a17) (a18 := a18) (a19 := a19) (a20 := a20) (a21 := a21) (x9 := x9) hM hU K S.2.1 0 0 0 0 (Nat.zero_add _)
    rw [Nat.zero_add, Nat.zero_add, Int.zero_add, came] at l0
    exact l0
  have strk : ag_ct (fun c => decide (S.1 5 c = -1)) S.2.1 0 + S.2.2.1 = S.2.1 := ag_struck hV.1
  have bel := ag_belows hV.1
  have sb := ag_sb_su hV.1 S.2.2.1 0 (Nat.zero_add _)
  rw [← bel] at sb
  have rg := ag_su_b (f := fun i => S.1 2 (S.1 6 i).toNat) (z := 3) S.2.2.1 0 (fun j _ hj => ag_IB_hg hV.1 (by omega))
  rw [← bel] at rg
  have mn0 : ∀ K : ag_Rs → ag_S → Prop, ag_cl9 61 [ag_R (B + 1), ag_I 0] σ K = K (Sum.inl (some (ag_I (S.2.1 : Int)))) σ := fun K => ag_m_many hM hU (j := 0) (by decide) rfl K
  have mn1 : ∀ K : ag_Rs → ag_S → Prop, ag_cl9 61 [ag_R (B + 1), ag_I 1] σ K = K (Sum.inl (some (ag_I (S.2.2.1 : Int)))) σ := fun K => ag_m_many hM hU (j := 1) (by decide) rfl K
  have me := fun K => ag_m_mean hM hU K
  rw [sb] at me
  generalize ag_su (fun c => if S.1 5 c = -1 then 0 else S.1 2 c) S.2.1 0 = s at l0 rg me ⊢
  obtain ⟨z, rfl⟩ : ∃ z : Nat, s = z := ⟨s.toNat, by omega⟩
  obtain ⟨g1, g2, g3⟩ := ag_fp_at (s := z) (n := S.2.2.1) (by omega) (by omega)
  generalize hst : ag_ct (fun c => decide (S.1 5 c = -1)) S.2.1 0 = st at l0 strk
  have e1 : ag_nm ((S.2.1 : Int) - (st : Int)) = ag_nm (S.2.2.1 : Int) := by rw [show (S.2.1 : Int) - (st : Int) = (S.2.2.1 : Int) by omega]
  refine ⟨some (ag_I ((ag_ct (fun a => decide (0 ≤ S.2.2.2 5 a)) m 0 : Nat) : Int)), some (ag_I (st : Int)), some (ag_I (S.2.1 : Int)), fun K => ?_⟩
  have l0 : ag_wp 136 365 [a0, a1, a2, some (ag_R (B + 1)), a4, a5, a6, a7, some (ag_I ((ag_ct (fun a => decide (0 ≤ S.2.2.2 5 a)) m 0 : Nat) : Int)), some (ag_I x9), some (ag_I 0), some (ag_I 0), some (ag_I 0), some (ag_I 0), a14, a15, a16, a17, a18, a19, a20, a21] [] σ K = _ := l0 K
  simp only [ag_i136_353, ag_i136_354_n, ag_i136_354_i, ag_i136_354_r, ag_i136_356, ag_i136_357_n, ag_i136_357_i, ag_i136_357_r, ag_i136_359, ag_i136_360_n, ag_i136_360_i, ag_i136_360_r, ag_i136_362, ag_i136_363_n, ag_i136_363_i, ag_i136_363_r, l0, ag_i136_440, ag_i136_442, ag_i136_444, ne_eq, not_true_eq_false, ↓reduceIte, ag_i136_447, ag_i136_448, ag_i136_449, ck, mn1, ag_kk_v, ag_kk_n, Nat.reduceAdd, ag_i136_452, ag_i136_453, ag_i136_454, ck, mn0, ag_kk_v, ag_kk_n, Nat.reduceAdd, ag_i136_457, ag_i136_459, ag_i136_460, e1, ne_eq, not_true_eq_false, ↓reduceIte, ag_i136_463, ag_i136_464, ck, me, ag_kk_v, ag_kk_n, Nat.reduceAdd, ag_i136_467, ag_i136_468, ag_i136_469, ck, mn1, ag_kk_v, ag_kk_n, Nat.reduceAdd, ag_i136_472, ag_i136_473, g1, true_and, ag_i136_474, ag_i136_476, ag_i136_477]
  have g2 : ag_nn (FP.dsub (FP.dmul (ag_mea (z : Int) S.2.2.1) (FP.i2d (Int32.ofInt (S.2.2.1 : Int)))) (FP.i2d (Int32.ofInt (z : Int)))) = true := g2
  rw [show (ag_nn (FP.dsub (FP.dmul (ag_mea (z : Int) S.2.2.1) (FP.i2d (Int32.ofInt (S.2.2.1 : Int)))) (FP.i2d (Int32.ofInt (z : Int)))) = true) = True from eq_true g2, true_and]
  simp only [ag_i136_478, g2]
  rw [show (True ∧ ag_wt [] ≤ 8 ∧ True) = True from eq_true ⟨trivial, by decide, trivial⟩, true_and]
  simp only [ag_i136_481, ag_i136_484, ag_i136_485, ag_nm_z]
  have e5 : ∀ x : Int32, ag_nm x.toInt = x.toInt := fun x => by
    unfold ag_nm
    rw [Int32.ofInt_toInt]
  rw [e5]
  exact if_pos g3
end AGC5
