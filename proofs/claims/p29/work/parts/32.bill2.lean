/-! THE BILL: moveBehind, become. -/
/-- the heights, k clauses from place i on raised -/
def ag_ra (r : Nat → Int) (d : Int) : (Nat → Int) → Nat → Nat → Nat → Int
  | q, 0, _ => q
  | q, k + 1, i => ag_ra r d (ag_wr 40 q (ag_rd 40 r i) (ag_rd 40 q (ag_rd 40 r i) + d)) k (i + 1)
section AGB2
variable (σ : ag_S) {a : Nat} {g : Nat → Nat → Int} {v : Nat → Int} {w n : Nat} (K : ag_Rs → ag_S → Prop)
theorem ag_B_mB_loop {c x : Int} {p e goal : Nat} {d : Int} (he : e ≤ 40) : ∀ (k i : Nat) (q : Nat → Int) (y : Option ag_V), i + k = e →
    ∃ y' : Option ag_V, ag_wp 16 45 [some (ag_R a), some (ag_I c), some (ag_I x), some (ag_I p), some (ag_I e), some (ag_I goal), some (ag_I d), some (ag_I i), y] [] (ag_SB σ a (ag_ug g 2 q) v) K =
    ag_wp 16 90 [some (ag_R a), some (ag_I c), some (ag_I x), some (ag_I p), some (ag_I e), some (ag_I goal), some (ag_I d), some (ag_I e), y'] [] (ag_SB σ a (ag_ug g 2 (ag_ra (g 6) d q k i)) v) K := by
  intro k
  induction k with
  | zero =>
    intro i q y hi
    refine ⟨y, ?_⟩
    rw [ag_i16_45]
    simp only [ag_i16_47, ag_i16_49, ag_nm_nat (show i ≤ 1000000 by omega), ag_nm_nat (show e ≤ 1000000 by omega)]
    rw [if_pos (by omega), show i = e by omega]
    rfl
  | succ k ih =>
    intro i q y hi
    obtain ⟨y', h⟩ := ih (i + 1) (ag_wr 40 q (ag_rd 40 (g 6) i) (ag_rd 40 q (ag_rd 40 (g 6) i) + d)) (some (ag_I (ag_rd 40 (g 6) i))) (by omega)
    refine ⟨y', ?_⟩
    rw [ag_ra, ← h, ag_i16_45]
    simp only [ag_i16_47, ag_i16_49, ag_i16_52, ag_i16_53, ag_i16_56, ag_i16_58, ag_i16_61_n, ag_i16_61_i, ag_i16_61_r, ag_i16_63, ag_i16_64, ag_i16_67, ag_i16_69, ag_i16_70, ag_i16_73, ag_i16_75, ag_i16_78, ag_i16_80, ag_i16_81, ag_i16_84_n, ag_i16_84_i, ag_i16_84_r, ag_i16_87, ag_SB_g0, ag_SB_g1, ag_SB_g2, ag_SB_g3, ag_SB_g4, ag_SB_g5, ag_SB_g6, ag_SB_g7, ag_SB_g8, ag_SB_g9, ag_SB_at0, ag_SB_at1, ag_SB_at2, ag_SB_at3, ag_SB_at4, ag_SB_at5, ag_SB_at6, ag_SB_at7, ag_SB_pt0, ag_SB_pt1, ag_SB_pt2, ag_SB_pt3, ag_SB_pt4, ag_SB_pt5, ag_SB_pt6, ag_SB_pt7, ag_SB_ck, ag_kk_v, ag_kk_n, Nat.reduceAdd, ag_ug_at, ag_ui_at, Nat.reduceEqDiff, ↓reduceIte, ag_ug_2, ag_nm_nat (show i ≤ 1000000 by omega), ag_nm_nat (show e ≤ 1000000 by omega)]
    rw [if_neg (by omega)]
    rfl
/-- the rows behind moveBehind: the block from p to e, of clause c, put at goal, behind the clause x -/
def ag_gm (g : Nat → Nat → Int) (n : Nat) (c x : Int) (p e goal : Nat) : Nat → Nat → Int :=
  let h2 := ag_ra (g 6) (ag_rd 40 (g 2) x - ag_rd 40 (g 2) c) (g 2) (e - p) p
  let m := ag_cf (ag_mb (g 6) p e goal) (g 7) n
  let r2 := ag_cf m (g 6) 40
  ag_ug (ag_ug (ag_ug (ag_ug (ag_ug g 2 h2) 1 (ag_wr 40 (g 1) c (ag_rd 40 (g 1) x))) 7 m) 6 r2) 5 (ag_rn r2 (g 5) n)
theorem ag_B_moveBehind {c x : Int} {p e q goal : Nat} (hv : v 1 = n) (hs : ag_sm g) (hn : n ≤ 40) (ha : 1 ≤ a) (hp : ag_rd 40 (g 5) c = p) (hpn : p < n) (he : ag_ff (fun i => decide (ag_rd 40 (g 2) (ag_rd 40 (g 6) i) ≤ ag_rd 40 (g 2) c)) (n - (p + 1)) (p + 1) = e)
    (hq : ag_rd 40 (g 5) x = q) (hqn : q < n) (hgo : ag_ff (fun i => decide (ag_rd 40 (g 2) (ag_rd 40 (g 6) i) ≤ ag_rd 40 (g 2) x)) (n - (q + 1)) (q + 1) = goal) (hout : goal ≤ p ∨ e ≤ goal) :
    ag_cl9 16 [ag_R a, ag_I c, ag_I x] (ag_SB σ a g v) K = K (Sum.inl none) (ag_SB σ a (ag_gm g n c x p e goal) v) := by
  have hle := ag_ff_le (fun i => decide (ag_rd 40 (g 2) (ag_rd 40 (g 6) i) ≤ ag_rd 40 (g 2) c)) (n - (p + 1)) (p + 1)
  have hlg := ag_ff_le (fun i => decide (ag_rd 40 (g 2) (ag_rd 40 (g 6) i) ≤ ag_rd 40 (g 2) x)) (n - (q + 1)) (q + 1)
  rw [he] at hle
  rw [hgo] at hlg
  simp only [ag_e16, ag_i16_0, ag_i16_1, ag_i16_4, ag_i16_5, ag_i16_8_n, ag_i16_8_i, ag_i16_8_r, ag_i16_9, ag_i16_10, ag_i16_11, ag_i16_14_n, ag_i16_14_i, ag_i16_14_r, ag_i16_16, ag_i16_17, ag_i16_18, ag_i16_21_n, ag_i16_21_i, ag_i16_21_r, ag_i16_23, ag_i16_24, ag_i16_27, ag_i16_28, ag_i16_31, ag_i16_32, ag_i16_35, ag_i16_36, ag_i16_39, ag_i16_40_n, ag_i16_40_i, ag_i16_40_r, ag_i16_42, ag_i16_43_n, ag_i16_43_i, ag_i16_43_r, ag_i16_52, ag_i16_53, ag_i16_56, ag_i16_58, ag_i16_61_n, ag_i16_61_i, ag_i16_61_r, ag_i16_63, ag_i16_64, ag_i16_67, ag_i16_69, ag_i16_70, ag_i16_73, ag_i16_75, ag_i16_78, ag_i16_80, ag_i16_81, ag_i16_84_n, ag_i16_84_i, ag_i16_84_r, ag_i16_87, ag_i16_91, ag_i16_94, ag_i16_95, ag_i16_96, ag_i16_99, ag_i16_100, ag_i16_103, ag_i16_106, ag_i16_107, ag_i16_108, ag_i16_110, ag_i16_112, ag_i16_115, ag_i16_116, ag_i16_119, ag_SB_g0, ag_SB_g1, ag_SB_g2, ag_SB_g3, ag_SB_g4, ag_SB_g5, ag_SB_g6, ag_SB_g7, ag_SB_g8, ag_SB_g9, ag_SB_at0, ag_SB_at1, ag_SB_at2, ag_SB_at3, ag_SB_at4, ag_SB_at5, ag_SB_at6, ag_SB_at7, ag_SB_pt0, ag_SB_pt1, ag_SB_pt2, ag_SB_pt3, ag_SB_pt4, ag_SB_pt5, ag_SB_pt6, ag_SB_pt7, ag_SB_ck, ag_kk_v, ag_kk_n, Nat.reduceAdd, hp, ag_B_endOf _ _ hv hs hn hp hpn, he, ag_B_endOf _ _ hv hs hn hq hqn, hgo]
  have hx : ag_SB σ a g v = ag_SB σ a (ag_ug g 2 (g 2)) v := by rw [ag_ug_self]
  obtain ⟨y', h⟩ := ag_B_mB_loop σ (a := a) (g := g) (v := v) K (c := c) (x := x) (p := p) (goal := goal) (d := ag_rd 40 (g 2) x - ag_rd 40 (g 2) c) (show e ≤ 40 by omega) (e - p) p (g 2) none (by omega)
  rw [hx, h]
  simp only [ag_i16_90, ag_i16_91, ag_i16_94, ag_i16_95, ag_i16_96, ag_i16_99, ag_i16_100, ag_i16_103, ag_i16_106, ag_i16_107, ag_i16_108, ag_i16_110, ag_i16_112, ag_SB_g0, ag_SB_g1, ag_SB_g2, ag_SB_g3, ag_SB_g4, ag_SB_g5, ag_SB_g6, ag_SB_g7, ag_SB_g8, ag_SB_g9, ag_SB_at0, ag_SB_at1, ag_SB_at2, ag_SB_at3, ag_SB_at4, ag_SB_at5, ag_SB_at6, ag_SB_at7, ag_SB_pt0, ag_SB_pt1, ag_SB_pt2, ag_SB_pt3, ag_SB_pt4, ag_SB_pt5, ag_SB_pt6, ag_SB_pt7, ag_SB_ck, ag_kk_v, ag_kk_n, Nat.reduceAdd, ag_ug_at, ag_ui_at, Nat.reduceEqDiff, ↓reduceIte]
  rw [ag_B_shift σ _ hv hn (by omega) (by omega) (by omega) hout]
  simp only [ag_i16_115, ag_i16_116, ag_SB_g0, ag_SB_g1, ag_SB_g2, ag_SB_g3, ag_SB_g4, ag_SB_g5, ag_SB_g6, ag_SB_g7, ag_SB_g8, ag_SB_g9, ag_SB_at0, ag_SB_at1, ag_SB_at2, ag_SB_at3, ag_SB_at4, ag_SB_at5, ag_SB_at6, ag_SB_at7, ag_SB_pt0, ag_SB_pt1, ag_SB_pt2, ag_SB_pt3, ag_SB_pt4, ag_SB_pt5, ag_SB_pt6, ag_SB_pt7, ag_SB_ck, ag_kk_v, ag_kk_n, Nat.reduceAdd, ag_ug_at, ag_ui_at, Nat.reduceEqDiff, ↓reduceIte]
  rw [ag_B_renumber σ _ hv hn ha]
  simp only [ag_i16_119, ag_kk_v, ag_kk_n, Nat.reduceAdd, ag_ug_at, ag_ui_at, Nat.reduceEqDiff, ↓reduceIte, ag_gm]
end AGB2
