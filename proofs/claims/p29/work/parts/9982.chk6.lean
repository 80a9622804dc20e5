/-! THE LAW'S FOURTH CHECK: the parties. -/
variable {B : Nat}
section AGC6
variable {σ : ag_S} {dr qu mi : Int} {gh gq : Nat → Nat → Int} {m np nq k : Nat} {S : ag_T} {a0 a1 a4 a5 a6 a7 a8 a9 a10 a11 a12 a13 a14 a15 a16 a17 a18 a19 a20 a21 : Option ag_V}
theorem ag_c4_loop (hU : ag_U S m gh np qu mi gq nq k) {x12 : Int} : ∀ (d i : Nat) (σ : ag_S) (s : Int), i + d = np → ag_M B σ dr qu mi S m gh np gq nq → ∃ σ' : ag_S, ag_M B σ' dr qu mi S m gh np gq nq ∧ ag_af B σ σ' 0 0 ∧ ∀ K : ag_Rs → ag_S → Prop,
      ag_wp 136 496 [a0, a1, some (ag_R B), some (ag_R (B + 1)), a4, a5, a6, a7, a8, a9, a10, a11, some (ag_I x12), some (ag_I s), some (ag_I (i : Int)), a15, a16, a17, a18, a19, a20, a21] [] σ K =
      ag_wp 136 555 [a0, a1, some (ag_R B), some (ag_R (B + 1)), a4, a5, a6, a7, a8, a9, a10, a11, some (ag_I x12), some (ag_I (s + ag_su (fun p => if mi = -1 then -1 else gh 1 p) d i)), some (ag_I (np : Int)), a15, a16, a17, a18, a19, a20, a21] [] σ' K := by
  have hn : np ≤ 5 := hU.2.1.2.1
  have hV := hU.1
  have hm : m ≤ 20 := hV.2.1.1.2.2
  have npn : ag_nm (np : Int) = np := ag_nm_nat (by omega)
  intro d
  induction d with
  | zero =>
    intro i σ s hi hM
    have hin : i = np := by omega
    subst hin
    obtain ⟨l6, g7, a6'⟩ := ag_m_np hM
    refine ⟨σ, hM, ag_af_hf (ag_hf_refl σ), fun K => ?_⟩
    rw [ag_i136_496, show ag_su (fun p => if mi = -1 then -1 else gh 1 p) 0 i = 0 from rfl, Int.add_zero]
    simp only [ag_i136_498, ag_i136_499, g7, ag_i136_502, a6', ag_i136_503]
    rw [if_pos (Int.le_refl _)]
  | succ d ih =>
    intro i σ s hi hM
    have hin : i < np := by omega
    obtain ⟨l6, g7, a6'⟩ := ag_m_np hM
    obtain ⟨σ1, hM1, f1, d1⟩ := ag_m_oth hM hU hin
    obtain ⟨σ2, hM2, f2, g2⟩ := ih (i + 1) σ1 (s + (if mi = -1 then -1 else gh 1 i)) (by omega) hM1
    refine ⟨σ2, hM2, ag_af_le (ag_af_trans f1 f2) (by omega) (by omega), fun K => ?_⟩
    have d1 := d1 (i : Int) rfl
    have ck := ag_m_ck hM
    have ck1 := ag_m_ck hM1
    have P1 : ∀ K : ag_Rs → ag_S → Prop, ag_cl9 74 [ag_R (B + 1), ag_I (i : Int), ag_I 1] σ K = K (Sum.inl (some (ag_I (if mi = -1 then -1 else gh 1 i)))) σ := fun K => by
      rw [ag_m_ofP hM hU hin (j := 1) (by decide) (x := (i : Int)) (y := 1) rfl rfl K]
      have e9 : ag_fop gh mi S.2.2.2 m (i : Int) 1 = if mi = -1 then -1 else gh 1 i := by
        show (if mi = -1 then (-1 : Int) else ag_rd 5 (gh 1) (i : Int)) = _
        rw [ag_rd_nat (by decide) (by omega)]
      rw [e9]
    have P3 : ∀ K : ag_Rs → ag_S → Prop, ag_cl9 74 [ag_R (B + 1), ag_I (i : Int), ag_I 3] σ1 K = K (Sum.inl (some (ag_I (ag_pwa gh S.2.2.2 m (i : Int) : Int)))) σ1 := fun K => ag_m_ofP hM1 hU hin (j := 3) (by decide) (x := (i : Int)) (y := 3) rfl rfl K
    have M3 : ∀ K : ag_Rs → ag_S → Prop, ag_cl9 61 [ag_R (B + 1), ag_I 3] σ1 K = K (Sum.inl (some (ag_I (ag_cnt S.2.2.2 m 0 : Int)))) σ1 := fun K => ag_m_many hM1 hU (j := 3) (by decide) rfl K
    have M4 : ∀ K : ag_Rs → ag_S → Prop, ag_cl9 61 [ag_R (B + 1), ag_I 4] σ1 K = K (Sum.inl (some (ag_I (ag_cnt S.2.2.2 m 1 : Int)))) σ1 := fun K => ag_m_many hM1 hU (j := 4) (by decide) rfl K
    obtain ⟨v1, v2⟩ := ag_vo9_le (gh := gh) (np := np) (qu := qu) hV (i : Int)
    have c0 : ag_cnt S.2.2.2 m 0 ≤ m := ag_ct_le _ m 0
    have c1 : ag_cnt S.2.2.2 m 1 ≤ m := ag_ct_le _ m 0
    have pw : ag_pwa gh S.2.2.2 m (i : Int) ≤ ag_cnt S.2.2.2 m 1 := ag_ct_mon9 m 0 (fun j _ _ hj => decide_eq_true (of_decide_eq_true hj).1)
    rw [show ag_su (fun p => if mi = -1 then -1 else gh 1 p) (d + 1) i = (if mi = -1 then -1 else gh 1 i) + ag_su (fun p => if mi = -1 then -1 else gh 1 p) d (i + 1) from rfl, ← Int.add_assoc, ← g2 K, ag_i136_496]
    simp only [ag_i136_498, ag_i136_499, g7, ag_i136_502, a6', ag_i136_503, npn, ag_nm_nat (show i ≤ 1000000 by omega)]
    rw [if_neg (show ¬ (np : Int) ≤ i by omega)]
    simp only [ag_i136_506, ag_i136_508, ag_i136_509, ag_i136_511, ag_i136_512, ck, P1, ag_kk_v, ag_kk_n, Nat.reduceAdd, ag_i136_515, ag_i136_516_n, ag_i136_516_i, ag_i136_516_r, ag_i136_518, ag_i136_519, ag_i136_521, ck, d1, ag_kk_v, ag_kk_n, Nat.reduceAdd, ag_i136_524, ag_i136_525, ag_i136_526, ck1, M3, ag_kk_v, ag_kk_n, Nat.reduceAdd, ag_i136_529, ag_nm_of (show -2147483648 ≤ ag_vo9 gh np qu S m (i : Int) by omega) (show ag_vo9 gh np qu S m (i : Int) < 2147483648 by omega), ag_nm_nat (show ag_cnt S.2.2.2 m 0 ≤ 1000000 by omega)]
    rw [if_neg (show ¬ (ag_cnt S.2.2.2 m 0 : Int) < ag_vo9 gh np qu S m (i : Int) by omega)]
    simp only [ag_i136_532, ag_i136_533, ag_i136_535, ag_i136_536, ck1, P3, ag_kk_v, ag_kk_n, Nat.reduceAdd, ag_i136_539, ag_i136_540, ag_i136_541, ck1, M4, ag_kk_v, ag_kk_n, Nat.reduceAdd, ag_i136_544, ag_nm_nat (show ag_pwa gh S.2.2.2 m (i : Int) ≤ 1000000 by omega), ag_nm_nat (show ag_cnt S.2.2.2 m 1 ≤ 1000000 by omega)]
    rw [if_pos (show (ag_pwa gh S.2.2.2 m (i : Int) : Int) ≤ (ag_cnt S.2.2.2 m 1 : Int) by omega)]
    simp only [ag_i136_549_n, ag_i136_549_i, ag_i136_549_r, ag_i136_552]
    rfl
theorem ag_c4 (hM : ag_M B σ dr qu mi S m gh np gq nq) (hU : ag_U S m gh np qu mi gq nq k) {x12 : Int} : ∃ (σ' : ag_S) (y13 y14 : Option ag_V), ag_M B σ' dr qu mi S m gh np gq nq ∧ ag_af B σ σ' 0 0 ∧ ∀ K : ag_Rs → ag_S → Prop,
      ag_wp 136 490 [a0, a1, some (ag_R B), some (ag_R (B + 1)), a4, a5, a6, a7, a8, a9, a10, a11, some (ag_I x12), a13, a14, a15, a16, a17, a18, a19, a20, a21] [] σ K =
      ag_wp 136 578 [a0, a1, some (ag_R B), some (ag_R (B + 1)), a4, a5, a6, a7, a8, a9, a10, a11, some (ag_I x12), some (ag_I (ag_su (fun p => if mi = -1 then -1 else gh 1 p) np 0)), some (ag_I (np : Int)), a15, a16, a17, a18, a19, a20, a21] [] σ' K := by
  have hn : np ≤ 5 := hU.2.1.2.1
  have hH := hU.2.1
  obtain ⟨σ1, hM1, f1, g1⟩ := ag_c4_loop (a0 := a0) (a1 := a1) (a4 := a4) (a5 := a5) (a6 := a6) (a7 := a7) (a8 := a8) (a9 := a9) (a10 := a10) (a11 := a11) (a15 := a15) (a16 := a16) (a17 := a17) (a18 := a18) (a19 := a19) (a20 := a20) (a21 := a21) (B := B) (dr := dr) hU (x12 := x12) np 0 σ 0 (Nat.zero_add _) hM
  rw [Int.zero_add] at g1
  have ck1 := ag_m_ck hM1
  have M9 : ∀ K : ag_Rs → ag_S → Prop, ag_cl9 61 [ag_R (B + 1), ag_I 9] σ1 K = K (Sum.inl (some (ag_I (ag_su (gh 0) np 0)))) σ1 := fun K => ag_m_many hM1 hU (j := 9) (by decide) rfl K
  have al := fun K => ag_m_all hM1 hU K
  have rg := ag_su_b (f := fun p => (if mi = -1 then -1 else gh 1 p) + 1) (z := 301) np 0 (fun j _ _ => by
    have := hH.2.2.2.2.2 j
    split <;> omega)
  have ad := ag_su_ad (f := fun p => (if mi = -1 then -1 else gh 1 p) + 1) (p := fun p => if mi = -1 then -1 else gh 1 p) (q := fun _ => 1) np 0 (fun _ _ _ => rfl)
  have le := ag_su_le (f := fun p => if mi = -1 then -1 else gh 1 p) (f' := gh 1) np 0 (fun j _ _ => by
    have := hH.2.2.2.2.2 j
    split <;> omega)
  have s3 := hU.2.2.2.2.2.2.2.1
  have one := ag_su_b (f := fun _ => (1 : Int)) (z := 1) np 0 (fun _ _ _ => ⟨by decide, by decide⟩)
  refine ⟨σ1, none, none, hM1, f1, fun K => ?_⟩
  have g1 : ∀ K : ag_Rs → ag_S → Prop, ag_wp 136 496 [a0, a1, some (ag_R B), some (ag_R (B + 1)), a4, a5, a6, a7, a8, a9, a10, a11, some (ag_I x12), some (ag_I 0), some (ag_I 0), a15, a16, a17, a18, a19, a20, a21] [] σ K = _ := g1
  simp only [ag_i136_490, ag_i136_491_n, ag_i136_491_i, ag_i136_491_r, ag_i136_493, ag_i136_494_n, ag_i136_494_i, ag_i136_494_r, g1, ag_i136_555, ag_i136_557, ag_i136_560, ag_nmk_300, ag_nm_of (show -2147483648 ≤ ag_su (fun p => if mi = -1 then -1 else gh 1 p) np 0 by omega) (show ag_su (fun p => if mi = -1 then -1 else gh 1 p) np 0 < 2147483648 by omega)]
  rw [if_neg (show ¬ 300 < ag_su (fun p => if mi = -1 then -1 else gh 1 p) np 0 by omega)]
  simp only [ag_i136_563, ag_i136_564, ag_i136_566, ck1, M9, ag_kk_v, ag_kk_n, Nat.reduceAdd, ag_i136_569, ag_i136_570, ag_M_ck hM1, al, ag_kk_v, ag_kk_n, Nat.reduceAdd, ag_i136_573, ↓reduceIte]
end AGC6
