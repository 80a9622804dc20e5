/-! WHAT THE TRIAL'S SPARE ROW DOES NOT DO: the course depends neither on row 7 nor on row 6 beyond the bill. -/
def ag_jr (n : Nat) (gb gb' : Nat → Nat → Int) : Prop := (∀ k, k ≠ 6 → k ≠ 7 → gb' k = gb k) ∧ ∀ i, i < n → gb' 6 i = gb 6 i
theorem ag_jr_refl (n : Nat) (gb : Nat → Nat → Int) : ag_jr n gb gb := ⟨fun _ _ _ => rfl, fun _ _ => rfl⟩
theorem ag_rn_cg {r r' q : Nat → Int} : ∀ (k : Nat), k ≤ 40 → (∀ i, i < k → r i = r' i) → ag_rn r q k = ag_rn r' q k := by
  intro k
  induction k with
  | zero => intro _ _; rfl
  | succ k ih =>
    intro hk h
    show ag_wr 40 (ag_rn r q k) (ag_rd 40 r k) k = ag_wr 40 (ag_rn r' q k) (ag_rd 40 r' k) k
    rw [ih (by omega) (fun i hi => h i (by omega)), ag_rd_nat (by decide) (by omega), ag_rd_nat (by decide) (by omega), h k (by omega)]
theorem ag_un_cg {r r' : Nat → Int} : ∀ (k i : Nat) (q : Nat → Int), i + k ≤ 40 → (∀ t, i ≤ t → t < i + k → r t = r' t) → ag_un r q k i = ag_un r' q k i := by
  intro k
  induction k with
  | zero => intro i q _ _; rfl
  | succ k ih =>
    intro i q hk h
    show ag_un r (ag_wr 40 q (ag_rd 40 r i) (-1)) k (i + 1) = ag_un r' (ag_wr 40 q (ag_rd 40 r' i) (-1)) k (i + 1)
    rw [ag_rd_nat (by decide) (by omega), ag_rd_nat (by decide) (by omega), h i (Nat.le_refl _) (by omega), ih (i + 1) _ (by omega) (fun t a b => h t (by omega) (by omega))]
theorem ag_ra_cg {r r' : Nat → Int} {d : Int} : ∀ (k i : Nat) (q : Nat → Int), i + k ≤ 40 → (∀ t, i ≤ t → t < i + k → r t = r' t) → ag_ra r d q k i = ag_ra r' d q k i := by
  intro k
  induction k with
  | zero => intro i q _ _; rfl
  | succ k ih =>
    intro i q hk h
    show ag_ra r d (ag_wr 40 q (ag_rd 40 r i) (ag_rd 40 q (ag_rd 40 r i) + d)) k (i + 1) = ag_ra r' d (ag_wr 40 q (ag_rd 40 r' i) (ag_rd 40 q (ag_rd 40 r' i) + d)) k (i + 1)
    rw [ag_rd_nat (by decide) (by omega), ag_rd_nat (by decide) (by omega), h i (Nat.le_refl _) (by omega), ih (i + 1) _ (by omega) (fun t a b => h t (by omega) (by omega))]
section AGJU
variable {gb gb' gp : Nat → Nat → Int} {w n m : Nat}
theorem ag_jr_rd (h : ag_jr n gb gb') (hn : n ≤ 40) {i : Nat} (hi : i < n) : ag_rd 40 (gb' 6) i = ag_rd 40 (gb 6) i := by
  rw [ag_rd_nat (by decide) (by omega), ag_rd_nat (by decide) (by omega), h.2 i hi]
theorem ag_jr_plc (h : ag_jr n gb gb') (c : Int) : ag_plc gb' c = ag_plc gb c := by
  unfold ag_plc
  rw [h.1 5 (by decide) (by decide)]
theorem ag_jr_hun (h : ag_jr n gb gb') (c : Int) : ag_hun gb' c = ag_hun gb c := by
  unfold ag_hun
  rw [h.1 2 (by decide) (by decide)]
theorem ag_jr_edd (h : ag_jr n gb gb') (hn : n ≤ 40) (c : Int) : ag_edd gb' n c = ag_edd gb n c := by
  unfold ag_edd
  rw [ag_jr_plc h, h.1 2 (by decide) (by decide)]
  refine ag_ff_congr _ _ fun j j1 j2 => ?_
  rw [ag_jr_rd h hn (show j < n by omega)]
theorem ag_jr_tra (h : ag_jr n gb gb') (hn : n ≤ 40) (c : Int) : ag_tra gb' n c = ag_tra gb n c := by
  unfold ag_tra
  rw [ag_jr_edd h hn, h.1 2 (by decide) (by decide), h.1 4 (by decide) (by decide), h.1 1 (by decide) (by decide)]
  refine ag_ff_congr _ _ fun j j1 j2 => ?_
  rw [ag_jr_rd h hn (show j < n by omega)]
theorem ag_jr_hi (h : ag_jr n gb gb') (hn : n ≤ 40) : ∀ (k i : Nat) (s : Int), i + k ≤ n → ag_hi gb' k i s = ag_hi gb k i s := by
  intro k
  induction k with
  | zero => intro i s _; rfl
  | succ k ih =>
    intro i s hk
    show ag_hi gb' k (i + 1) (max s (ag_rd 40 (gb' 2) (ag_rd 40 (gb' 6) i))) = ag_hi gb k (i + 1) (max s (ag_rd 40 (gb 2) (ag_rd 40 (gb 6) i)))
    rw [ag_jr_rd h hn (show i < n by omega), h.1 2 (by decide) (by decide), ih (i + 1) _ (by omega)]
theorem ag_jr_fit (h : ag_jr n gb gb') (hn : n ≤ 40) {kd c x : Int} (hc : kd = 1 → ag_plc gb c < n) : ag_fit gb' w n kd c x = ag_fit gb w n kd c x := by
  unfold ag_fit
  rw [h.1 2 (by decide) (by decide), h.1 5 (by decide) (by decide)]
  by_cases k1 : kd = 1
  · rw [if_pos k1, if_pos k1]
    have hp : (ag_rd 40 (gb 5) c).toNat < n := hc k1
    have e1 : ag_ff (fun i => decide (ag_rd 40 (gb 2) (ag_rd 40 (gb' 6) i) ≤ ag_rd 40 (gb 2) c)) (n - ((ag_rd 40 (gb 5) c).toNat + 1)) ((ag_rd 40 (gb 5) c).toNat + 1) = ag_ff (fun i => decide (ag_rd 40 (gb 2) (ag_rd 40 (gb 6) i) ≤ ag_rd 40 (gb 2) c)) (n - ((ag_rd 40 (gb 5) c).toNat + 1)) ((ag_rd 40 (gb 5) c).toNat + 1) := by
      refine ag_ff_congr _ _ fun j j1 j2 => ?_
      rw [ag_jr_rd h hn (show j < n by omega)]
    have le := ag_ff_le (fun i => decide (ag_rd 40 (gb 2) (ag_rd 40 (gb 6) i) ≤ ag_rd 40 (gb 2) c)) (n - ((ag_rd 40 (gb 5) c).toNat + 1)) ((ag_rd 40 (gb 5) c).toNat + 1)
    dsimp only
    rw [e1]
    rw [ag_jr_hi h hn _ _ _ (by omega)]
  · rw [if_neg k1, if_neg k1]
theorem ag_jr_ios (h : ag_jr n gb gb') (b : Int) : ag_ios gb' gp b = ag_ios gb gp b := by
  unfold ag_ios
  rw [h.1 5 (by decide) (by decide)]
theorem ag_jr_fat (h : ag_jr n gb gb') (x b : Int) : ag_fat gb' gp x b = ag_fat gb gp x b := by
  unfold ag_fat
  rw [ag_jr_ios h]
theorem ag_jr_spl (h : ag_jr n gb gb') (x : Int) : ∀ (k i : Nat) (gp : Nat → Nat → Int), ag_spl gb' x m k i gp = ag_spl gb x m k i gp := by
  intro k
  induction k with
  | zero => intro i gp; rfl
  | succ k ih =>
    intro i gp
    rw [ag_spl, ag_spl, ag_jr_fat h, ih]
theorem ag_jr_ahd (h : ag_jr n gb gb') (a b : Int) : ag_ahd gb' gp a b = ag_ahd gb gp a b := by
  unfold ag_ahd
  rw [h.1 5 (by decide) (by decide)]
theorem ag_jr_fol (h : ag_jr n gb gb') : ∀ (k i : Nat) (f : Int), ag_fol gb' gp k i f = ag_fol gb gp k i f := by
  intro k
  induction k with
  | zero => intro i f; rfl
  | succ k ih =>
    intro i f
    rw [ag_fol, ag_fol, ag_jr_ahd h, ih]
theorem ag_jr_nxt (h : ag_jr n gb gb') : ag_nxt gb' gp m = ag_nxt gb gp m := by
  unfold ag_nxt
  rw [ag_jr_fol h]
theorem ag_jr_gs (h : ag_jr n gb gb') (hn : n ≤ 40) {p e : Nat} (hpe : p < e) (hen : e ≤ n) : ag_jr (n - (e - p)) (ag_gs gb n p e) (ag_gs gb' n p e) := by
  have h6 : ∀ i, i < n - (e - p) → ag_dr (gb' 6) p e n i = ag_dr (gb 6) p e n i := fun i hi => by
    unfold ag_dr
    by_cases c : p ≤ i ∧ i + e < p + n
    · rw [if_pos c, if_pos c, h.2 _ (by omega)]
    · rw [if_neg c, if_neg c, h.2 _ (by omega)]
  have h5 : ag_gs gb' n p e 5 = ag_gs gb n p e 5 := by
    show ag_rn (ag_dr (gb' 6) p e n) (ag_un (gb' 6) (gb' 5) (e - p) p) (n - (e - p)) = ag_rn (ag_dr (gb 6) p e n) (ag_un (gb 6) (gb 5) (e - p) p) (n - (e - p))
    rw [h.1 5 (by decide) (by decide), ag_un_cg (r := gb' 6) (r' := gb 6) (e - p) p (gb 5) (by omega) (fun t t1 t2 => h.2 t (by omega)), ag_rn_cg (n - (e - p)) (by omega) h6]
  refine ⟨fun k k6 k7 => ?_, h6⟩
  by_cases k5 : k = 5
  · rw [k5]
    exact h5
  · unfold ag_gs
    rw [ag_ug_ne _ _ k6, ag_ug_ne _ _ k5, ag_ug_ne _ _ k6, ag_ug_ne _ _ k5]
    exact h.1 k k6 k7
theorem ag_jr_gi (h : ag_jr n gb gb') (hn : n < 40) {place : Nat} (hp : place ≤ n) (u x hh : Int) : ag_jr (n + 1) (ag_gi gb w n place u x hh) (ag_gi gb' w n place u x hh) := by
  have h6 : ∀ i, i < n + 1 → ag_ui (ag_sh (gb' 6) place n) place w i = ag_ui (ag_sh (gb 6) place n) place w i := fun i hi => by
    unfold ag_ui
    by_cases c : i = place
    · rw [if_pos c, if_pos c]
    · rw [if_neg c, if_neg c]
      unfold ag_sh
      by_cases c2 : place < i ∧ i ≤ n
      · rw [if_pos c2, if_pos c2, h.2 _ (by omega)]
      · rw [if_neg c2, if_neg c2, h.2 _ (by omega)]
  refine ⟨fun k k6 k7 => ?_, h6⟩
  have h5 : ag_rn (ag_ui (ag_sh (gb' 6) place n) place w) (gb' 5) (n + 1) = ag_rn (ag_ui (ag_sh (gb 6) place n) place w) (gb 5) (n + 1) := by
    rw [h.1 5 (by decide) (by decide), ag_rn_cg (n + 1) (by omega) h6]
  unfold ag_gi
  rw [h5, h.1 0 (by decide) (by decide), h.1 1 (by decide) (by decide), h.1 2 (by decide) (by decide), h.1 3 (by decide) (by decide), h.1 4 (by decide) (by decide)]
  unfold ag_ug
  by_cases k5 : k = 5
  · rw [if_pos k5, if_pos k5]
  · rw [if_neg k5, if_neg k5, if_neg k6, if_neg k6, h.1 k k6 k7]
theorem ag_jr_gm (h : ag_jr n gb gb') (hn : n ≤ 40) {p e goal : Nat} (hpe : p < e) (hen : e ≤ n) (hg : goal ≤ n) (c x : Int) : ag_jr n (ag_gm gb n c x p e goal) (ag_gm gb' n c x p e goal) := by
  have hm : ∀ i, i < n → ag_mb (gb' 6) p e goal i = ag_mb (gb 6) p e goal i := fun i hi => by
    unfold ag_mb
    by_cases c0 : goal ≤ p
    · rw [if_pos c0, if_pos c0, h.2 i hi, h.2 (i - (e - p)) (by omega)]
      by_cases c1 : i < goal + (e - p)
      · by_cases c2 : i < goal
        · rw [if_pos c2, if_pos c2]
        · rw [if_neg c2, if_neg c2, if_pos c1, if_pos c1, h.2 (i + p - goal) (by omega)]
      · rw [if_neg (show ¬ i < goal by omega), if_neg (show ¬ i < goal by omega), if_neg c1, if_neg c1]
    · rw [if_neg c0, if_neg c0, h.2 i hi]
      by_cases c1 : i < p
      · rw [if_pos c1, if_pos c1]
      · rw [if_neg c1, if_neg c1]
        by_cases c2 : i < p + goal - e
        · rw [if_pos c2, if_pos c2, h.2 (i + e - p) (by omega)]
        · rw [if_neg c2, if_neg c2]
          by_cases c3 : i < goal
          · rw [if_pos c3, if_pos c3]
            by_cases c4 : i + e - goal < n
            · rw [h.2 _ c4]
            · exact absurd (show i + e - goal < n by omega) c4
          · rw [if_neg c3, if_neg c3]
  have h6 : ∀ i, i < n → ag_cf (ag_cf (ag_mb (gb' 6) p e goal) (gb' 7) n) (gb' 6) 40 i = ag_cf (ag_cf (ag_mb (gb 6) p e goal) (gb 7) n) (gb 6) 40 i := fun i hi => by
    unfold ag_cf
    rw [if_pos (show i < 40 by omega), if_pos (show i < 40 by omega), if_pos hi, if_pos hi, hm i hi]
  have h5 : ag_rn (ag_cf (ag_cf (ag_mb (gb' 6) p e goal) (gb' 7) n) (gb' 6) 40) (gb' 5) n = ag_rn (ag_cf (ag_cf (ag_mb (gb 6) p e goal) (gb 7) n) (gb 6) 40) (gb 5) n := by
    rw [h.1 5 (by decide) (by decide), ag_rn_cg n hn h6]
  have h2 : ag_ra (gb' 6) (ag_rd 40 (gb' 2) x - ag_rd 40 (gb' 2) c) (gb' 2) (e - p) p = ag_ra (gb 6) (ag_rd 40 (gb 2) x - ag_rd 40 (gb 2) c) (gb 2) (e - p) p := by
    rw [h.1 2 (by decide) (by decide), ag_ra_cg (r := gb' 6) (r' := gb 6) (e - p) p (gb 2) (by omega) (fun t t1 t2 => h.2 t (by omega))]
  refine ⟨fun k k6 k7 => ?_, h6⟩
  unfold ag_gm
  rw [h5, h2, h.1 1 (by decide) (by decide)]
  unfold ag_ug
  by_cases k5 : k = 5
  · rw [if_pos k5, if_pos k5]
  · rw [if_neg k5, if_neg k5, if_neg k6, if_neg k6, if_neg k7, if_neg k7, h.1 k k6 k7]
end AGJU
