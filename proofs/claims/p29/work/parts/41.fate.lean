/-! THE COURSE: what follows, what a passed one makes of the others. -/
variable {B : Nat}
theorem ag_fol_rg (gb gp : Nat → Nat → Int) {m : Nat} : ∀ (k i : Nat) (f : Int), i + k = m → -1 ≤ f → f < i ∨ f = -1 → -1 ≤ ag_fol gb gp k i f ∧ ag_fol gb gp k i f < m ∨ ag_fol gb gp k i f = -1 := by
  intro k
  induction k with
  | zero =>
    intro i f hi h1 h2
    rw [ag_fol]
    omega
  | succ k ih =>
    intro i f hi h1 h2
    rw [ag_fol]
    split
    · exact ih (i + 1) i (by omega) (by omega) (by omega)
    · exact ih (i + 1) f (by omega) h1 (by omega)
/-- whether b is of what is struck -/
def ag_ios (gb gp : Nat → Nat → Int) (b : Int) : Bool :=
  decide ((ag_rd 20 (gp 0) b ≠ 5 ∧ ag_rd 40 (gb 5) (ag_rd 20 (gp 1) b) = -1) ∨ (ag_rd 20 (gp 0) b = 1 ∧ ag_rd 40 (gb 5) (ag_rd 20 (gp 2) b) = -1))
/-- what the passed x makes of b -/
def ag_fat (gb gp : Nat → Nat → Int) (x b : Int) : Int :=
  if ag_rd 20 (gp 3) b ≠ 0 then 0
  else if ag_rd 20 (gp 0) x = 0 then (if ag_ios gb gp b = true then 3 else 0)
  else if ag_rd 20 (gp 0) b = ag_rd 20 (gp 0) x ∧ ag_rd 20 (gp 1) b = ag_rd 20 (gp 1) x then
    (if ag_rd 20 (gp 0) x = 1 then 3 else if ag_rd 20 (gp 0) x = 2 then (if ag_rd 20 (gp 2) b = ag_rd 20 (gp 2) x then 1 else 3) else 0)
  else 0
theorem ag_nm_2 : ag_nm 2 = 2 := by decide +kernel
section AGK3
variable (σ : ag_S) {c : Nat} (gh : Nat → Nat → Int) (vh : Nat → Int) {gb : Nat → Nat → Int} {vb : Nat → Int} {gp : Nat → Nat → Int} {vp : Nat → Int} {w n m : Nat} (K : ag_Rs → ag_S → Prop)
theorem ag_K_following (hc : B + 7 ≤ c) (hs : ag_sm gb) (hs2 : ag_sm gp) (hv2 : vp 0 = m) (hm : m ≤ 20) :
    ag_cl9 23 [ag_R c] (ag_SK B σ c gh vh gb vb gp vp) K = K (Sum.inl (some (ag_I (ag_nxt gb gp m)))) (ag_SK B σ c gh vh gb vb gp vp) := by
  have hr := ag_fol_rg gb gp (m := m) m 0 (-1) (by omega) (by omega) (Or.inr rfl)
  obtain ⟨y', h⟩ := ag_K_following_loop σ gh vh (vb := vb) K hc hs hs2 hv2 hm m 0 (-1) none ag_nm_m (by omega)
  generalize hf : ag_fol gb gp m 0 (-1) = f at h hr
  have hn : ag_nm f = f := ag_nm_of (by omega) (by omega)
  have hF := ag_lP (B := B) σ (c := c) gh vh gb vb (fun σ K => ag_P_firstChangeOf σ (a := c + 10) (g := gp) (v := vp) (c := f) K hv2 hm hs2 hn)
  have h0 : ag_cl9 23 [ag_R c] (ag_SK B σ c gh vh gb vb gp vp) K = ag_wp 23 4 [some (ag_R c), some (ag_I (-1)), some (ag_I (0 : Nat)), none] [] (ag_SK B σ c gh vh gb vb gp vp) K := by
    simp only [ag_i23_0, ag_i23_1_n, ag_i23_1_i, ag_i23_1_r, ag_i23_2, ag_i23_3_n, ag_i23_3_i, ag_i23_3_r, ag_e23, ag_SK_Bg0 _ _ _ _ _ _ _ hc, ag_SK_Bat0 _ _ _ _ _ _ _ hc, ag_SK_Bpt0 _ _ _ _ _ _ _ hc, ag_SK_Bg1 _ _ _ _ _ _ _ hc, ag_SK_Bat1 _ _ _ _ _ _ _ hc, ag_SK_Bpt1 _ _ _ _ _ _ _ hc, ag_SK_Bg2 _ _ _ _ _ _ _ hc, ag_SK_Bat2 _ _ _ _ _ _ _ hc, ag_SK_Bpt2 _ _ _ _ _ _ _ hc, ag_SK_Bg3 _ _ _ _ _ _ _ hc, ag_SK_Bat3 _ _ _ _ _ _ _ hc, ag_SK_Bpt3 _ _ _ _ _ _ _ hc, ag_SK_Bg4 _ _ _ _ _ _ _ hc, ag_SK_Bat4 _ _ _ _ _ _ _ hc, ag_SK_Bpt4 _ _ _ _ _ _ _ hc, ag_SK_Bg5 _ _ _ _ _ _ _ hc, ag_SK_Bat5 _ _ _ _ _ _ _ hc, ag_SK_Bpt5 _ _ _ _ _ _ _ hc, ag_SK_Bg6 _ _ _ _ _ _ _ hc, ag_SK_Bat6 _ _ _ _ _ _ _ hc, ag_SK_Bpt6 _ _ _ _ _ _ _ hc, ag_SK_Bg7 _ _ _ _ _ _ _ hc, ag_SK_Bat7 _ _ _ _ _ _ _ hc, ag_SK_Bpt7 _ _ _ _ _ _ _ hc, ag_SK_Bg8 _ _ _ _ _ _ _ hc, ag_SK_Bp8 _ _ _ _ _ _ _ hc, ag_SK_Bg9 _ _ _ _ _ _ _ hc, ag_SK_Bp9 _ _ _ _ _ _ _ hc, ag_SK_Bck _ _ _ _ _ _ _ hc, ag_SK_Pg0 _ _ _ _ _ _ _ hc, ag_SK_Pat0 _ _ _ _ _ _ _ hc, ag_SK_Ppt0 _ _ _ _ _ _ _ hc, ag_SK_Pg1 _ _ _ _ _ _ _ hc, ag_SK_Pat1 _ _ _ _ _ _ _ hc, ag_SK_Ppt1 _ _ _ _ _ _ _ hc, ag_SK_Pg2 _ _ _ _ _ _ _ hc, ag_SK_Pat2 _ _ _ _ _ _ _ hc, ag_SK_Ppt2 _ _ _ _ _ _ _ hc, ag_SK_Pg3 _ _ _ _ _ _ _ hc, ag_SK_Pat3 _ _ _ _ _ _ _ hc, ag_SK_Ppt3 _ _ _ _ _ _ _ hc, ag_SK_Pg4 _ _ _ _ _ _ _ hc, ag_SK_Pat4 _ _ _ _ _ _ _ hc, ag_SK_Ppt4 _ _ _ _ _ _ _ hc, ag_SK_Pg5 _ _ _ _ _ _ _ hc, ag_SK_Pat5 _ _ _ _ _ _ _ hc, ag_SK_Ppt5 _ _ _ _ _ _ _ hc, ag_SK_Pg6 _ _ _ _ _ _ _ hc, ag_SK_Pp6 _ _ _ _ _ _ _ hc, ag_SK_Pck _ _ _ _ _ _ _ hc, ag_SK_Hg0 _ _ _ _ _ _ _ hc, ag_SK_Hat0 _ _ _ _ _ _ _ hc, ag_SK_Hpt0 _ _ _ _ _ _ _ hc, ag_SK_Hg1 _ _ _ _ _ _ _ hc, ag_SK_Hat1 _ _ _ _ _ _ _ hc, ag_SK_Hpt1 _ _ _ _ _ _ _ hc, ag_SK_Hg2 _ _ _ _ _ _ _ hc, ag_SK_Hat2 _ _ _ _ _ _ _ hc, ag_SK_Hpt2 _ _ _ _ _ _ _ hc, ag_SK_Hg3 _ _ _ _ _ _ _ hc, ag_SK_Hat3 _ _ _ _ _ _ _ hc, ag_SK_Hpt3 _ _ _ _ _ _ _ hc, ag_SK_Hg4 _ _ _ _ _ _ _ hc, ag_SK_Hp4 _ _ _ _ _ _ _ hc, ag_SK_Hg5 _ _ _ _ _ _ _ hc, ag_SK_Hp5 _ _ _ _ _ _ _ hc, ag_SK_Hg6 _ _ _ _ _ _ _ hc, ag_SK_Hp6 _ _ _ _ _ _ _ hc, ag_SK_Hck _ _ _ _ _ _ _ hc, ag_SK_f0 _ _ _ _ _ _ _ hc, ag_SK_f1 _ _ _ _ _ _ _ hc, ag_SK_f2 _ _ _ _ _ _ _ hc, ag_SK_ck _ _ _ _ _ _ _ hc]
    rfl
  rw [h0, h]
  unfold ag_nxt
  dsimp only
  rw [hf]
  simp only [ag_i23_76, ag_i23_77, ag_i23_78, ag_i23_81, ag_i23_82, ag_i23_85, ag_i23_86, ag_i23_89, ag_i23_90, ag_i23_93_n, ag_i23_93_i, ag_i23_93_r, ag_i23_94, ag_i23_95, ag_i23_96, ag_i23_99, ag_i23_100, ag_i23_103, ag_i23_104, ag_SK_Bg0 _ _ _ _ _ _ _ hc, ag_SK_Bat0 _ _ _ _ _ _ _ hc, ag_SK_Bpt0 _ _ _ _ _ _ _ hc, ag_SK_Bg1 _ _ _ _ _ _ _ hc, ag_SK_Bat1 _ _ _ _ _ _ _ hc, ag_SK_Bpt1 _ _ _ _ _ _ _ hc, ag_SK_Bg2 _ _ _ _ _ _ _ hc, ag_SK_Bat2 _ _ _ _ _ _ _ hc, ag_SK_Bpt2 _ _ _ _ _ _ _ hc, ag_SK_Bg3 _ _ _ _ _ _ _ hc, ag_SK_Bat3 _ _ _ _ _ _ _ hc, ag_SK_Bpt3 _ _ _ _ _ _ _ hc, ag_SK_Bg4 _ _ _ _ _ _ _ hc, ag_SK_Bat4 _ _ _ _ _ _ _ hc, ag_SK_Bpt4 _ _ _ _ _ _ _ hc, ag_SK_Bg5 _ _ _ _ _ _ _ hc, ag_SK_Bat5 _ _ _ _ _ _ _ hc, ag_SK_Bpt5 _ _ _ _ _ _ _ hc, ag_SK_Bg6 _ _ _ _ _ _ _ hc, ag_SK_Bat6 _ _ _ _ _ _ _ hc, ag_SK_Bpt6 _ _ _ _ _ _ _ hc, ag_SK_Bg7 _ _ _ _ _ _ _ hc, ag_SK_Bat7 _ _ _ _ _ _ _ hc, ag_SK_Bpt7 _ _ _ _ _ _ _ hc, ag_SK_Bg8 _ _ _ _ _ _ _ hc, ag_SK_Bp8 _ _ _ _ _ _ _ hc, ag_SK_Bg9 _ _ _ _ _ _ _ hc, ag_SK_Bp9 _ _ _ _ _ _ _ hc, ag_SK_Bck _ _ _ _ _ _ _ hc, ag_SK_Pg0 _ _ _ _ _ _ _ hc, ag_SK_Pat0 _ _ _ _ _ _ _ hc, ag_SK_Ppt0 _ _ _ _ _ _ _ hc, ag_SK_Pg1 _ _ _ _ _ _ _ hc, ag_SK_Pat1 _ _ _ _ _ _ _ hc, ag_SK_Ppt1 _ _ _ _ _ _ _ hc, ag_SK_Pg2 _ _ _ _ _ _ _ hc, ag_SK_Pat2 _ _ _ _ _ _ _ hc, ag_SK_Ppt2 _ _ _ _ _ _ _ hc, ag_SK_Pg3 _ _ _ _ _ _ _ hc, ag_SK_Pat3 _ _ _ _ _ _ _ hc, ag_SK_Ppt3 _ _ _ _ _ _ _ hc, ag_SK_Pg4 _ _ _ _ _ _ _ hc, ag_SK_Pat4 _ _ _ _ _ _ _ hc, ag_SK_Ppt4 _ _ _ _ _ _ _ hc, ag_SK_Pg5 _ _ _ _ _ _ _ hc, ag_SK_Pat5 _ _ _ _ _ _ _ hc, ag_SK_Ppt5 _ _ _ _ _ _ _ hc, ag_SK_Pg6 _ _ _ _ _ _ _ hc, ag_SK_Pp6 _ _ _ _ _ _ _ hc, ag_SK_Pck _ _ _ _ _ _ _ hc, ag_SK_Hg0 _ _ _ _ _ _ _ hc, ag_SK_Hat0 _ _ _ _ _ _ _ hc, ag_SK_Hpt0 _ _ _ _ _ _ _ hc, ag_SK_Hg1 _ _ _ _ _ _ _ hc, ag_SK_Hat1 _ _ _ _ _ _ _ hc, ag_SK_Hpt1 _ _ _ _ _ _ _ hc, ag_SK_Hg2 _ _ _ _ _ _ _ hc, ag_SK_Hat2 _ _ _ _ _ _ _ hc, ag_SK_Hpt2 _ _ _ _ _ _ _ hc, ag_SK_Hg3 _ _ _ _ _ _ _ hc, ag_SK_Hat3 _ _ _ _ _ _ _ hc, ag_SK_Hpt3 _ _ _ _ _ _ _ hc, ag_SK_Hg4 _ _ _ _ _ _ _ hc, ag_SK_Hp4 _ _ _ _ _ _ _ hc, ag_SK_Hg5 _ _ _ _ _ _ _ hc, ag_SK_Hp5 _ _ _ _ _ _ _ hc, ag_SK_Hg6 _ _ _ _ _ _ _ hc, ag_SK_Hp6 _ _ _ _ _ _ _ hc, ag_SK_Hck _ _ _ _ _ _ _ hc, ag_SK_f0 _ _ _ _ _ _ _ hc, ag_SK_f1 _ _ _ _ _ _ _ hc, ag_SK_f2 _ _ _ _ _ _ _ hc, ag_SK_ck _ _ _ _ _ _ _ hc, ag_kk_v, ag_kk_n, Nat.reduceAdd, hn, ag_nm_m, hF]
  by_cases q1 : f = -1
  · simp only [q1, ag_b0, ag_b1, true_and, or_true, true_or, Int.reduceEq, ne_eq, not_false_eq_true, not_true_eq_false, ↓reduceIte, ag_nm_m]
  · have hl := ag_ff_le (fun i => decide (gp 3 i = 0 ∧ gp 0 i = 5 ∧ gp 1 i = f)) m 0
    generalize ag_ff (fun i => decide (gp 3 i = 0 ∧ gp 0 i = 5 ∧ gp 1 i = f)) m 0 = e at hl
    by_cases q2 : e < m
    · have q3 : ¬ (e : Int) = -1 := by omega
      simp only [q1, q2, q3, ag_b0, ag_b1, true_and, or_true, true_or, Int.reduceEq, ne_eq, not_false_eq_true, not_true_eq_false, ↓reduceIte, ag_nm_nat (show e ≤ 1000000 by omega)]
    · simp only [q1, q2, ag_b0, ag_b1, true_and, or_true, true_or, Int.reduceEq, ne_eq, not_false_eq_true, not_true_eq_false, ↓reduceIte, ag_nm_m]
theorem ag_K_isOfStruck {b : Int} (hc : B + 7 ≤ c) (hs : ag_sm gb) (hs2 : ag_sm gp) :
    ag_cl9 30 [ag_R c, ag_I b] (ag_SK B σ c gh vh gb vb gp vp) K = K (Sum.inl (some (ag_I (if ag_ios gb gp b = true then 1 else 0)))) (ag_SK B σ c gh vh gb vb gp vp) := by
  simp only [ag_e30, ag_i30_0, ag_i30_1, ag_i30_4, ag_i30_7, ag_i30_8, ag_i30_11_n, ag_i30_11_i, ag_i30_11_r, ag_i30_12, ag_i30_13, ag_i30_14, ag_i30_17, ag_i30_18, ag_i30_21, ag_i30_24, ag_i30_25, ag_i30_28, ag_i30_31, ag_i30_32, ag_i30_35, ag_i30_38, ag_i30_39, ag_i30_42, ag_i30_43, ag_i30_46, ag_i30_47_n, ag_i30_47_i, ag_i30_47_r, ag_i30_48, ag_i30_49, ag_i30_52, ag_i30_53, ag_i30_54, ag_i30_57, ag_i30_58, ag_i30_61, ag_i30_64, ag_i30_65, ag_i30_68, ag_i30_71, ag_i30_72, ag_i30_75, ag_i30_78, ag_i30_79, ag_i30_82, ag_i30_83, ag_i30_86, ag_i30_87, ag_SK_Bg0 _ _ _ _ _ _ _ hc, ag_SK_Bat0 _ _ _ _ _ _ _ hc, ag_SK_Bpt0 _ _ _ _ _ _ _ hc, ag_SK_Bg1 _ _ _ _ _ _ _ hc, ag_SK_Bat1 _ _ _ _ _ _ _ hc, ag_SK_Bpt1 _ _ _ _ _ _ _ hc, ag_SK_Bg2 _ _ _ _ _ _ _ hc, ag_SK_Bat2 _ _ _ _ _ _ _ hc, ag_SK_Bpt2 _ _ _ _ _ _ _ hc, ag_SK_Bg3 _ _ _ _ _ _ _ hc, ag_SK_Bat3 _ _ _ _ _ _ _ hc, ag_SK_Bpt3 _ _ _ _ _ _ _ hc, ag_SK_Bg4 _ _ _ _ _ _ _ hc, ag_SK_Bat4 _ _ _ _ _ _ _ hc, ag_SK_Bpt4 _ _ _ _ _ _ _ hc, ag_SK_Bg5 _ _ _ _ _ _ _ hc, ag_SK_Bat5 _ _ _ _ _ _ _ hc, ag_SK_Bpt5 _ _ _ _ _ _ _ hc, ag_SK_Bg6 _ _ _ _ _ _ _ hc, ag_SK_Bat6 _ _ _ _ _ _ _ hc, ag_SK_Bpt6 _ _ _ _ _ _ _ hc, ag_SK_Bg7 _ _ _ _ _ _ _ hc, ag_SK_Bat7 _ _ _ _ _ _ _ hc, ag_SK_Bpt7 _ _ _ _ _ _ _ hc, ag_SK_Bg8 _ _ _ _ _ _ _ hc, ag_SK_Bp8 _ _ _ _ _ _ _ hc, ag_SK_Bg9 _ _ _ _ _ _ _ hc, ag_SK_Bp9 _ _ _ _ _ _ _ hc, ag_SK_Bck _ _ _ _ _ _ _ hc, ag_SK_Pg0 _ _ _ _ _ _ _ hc, ag_SK_Pat0 _ _ _ _ _ _ _ hc, ag_SK_Ppt0 _ _ _ _ _ _ _ hc, ag_SK_Pg1 _ _ _ _ _ _ _ hc, ag_SK_Pat1 _ _ _ _ _ _ _ hc, ag_SK_Ppt1 _ _ _ _ _ _ _ hc, ag_SK_Pg2 _ _ _ _ _ _ _ hc, ag_SK_Pat2 _ _ _ _ _ _ _ hc, ag_SK_Ppt2 _ _ _ _ _ _ _ hc, ag_SK_Pg3 _ _ _ _ _ _ _ hc, ag_SK_Pat3 _ _ _ _ _ _ _ hc, ag_SK_Ppt3 _ _ _ _ _ _ _ hc, ag_SK_Pg4 _ _ _ _ _ _ _ hc, ag_SK_Pat4 _ _ _ _ _ _ _ hc, ag_SK_Ppt4 _ _ _ _ _ _ _ hc, ag_SK_Pg5 _ _ _ _ _ _ _ hc, ag_SK_Pat5 _ _ _ _ _ _ _ hc, ag_SK_Ppt5 _ _ _ _ _ _ _ hc, ag_SK_Pg6 _ _ _ _ _ _ _ hc, ag_SK_Pp6 _ _ _ _ _ _ _ hc, ag_SK_Pck _ _ _ _ _ _ _ hc, ag_SK_Hg0 _ _ _ _ _ _ _ hc, ag_SK_Hat0 _ _ _ _ _ _ _ hc, ag_SK_Hpt0 _ _ _ _ _ _ _ hc, ag_SK_Hg1 _ _ _ _ _ _ _ hc, ag_SK_Hat1 _ _ _ _ _ _ _ hc, ag_SK_Hpt1 _ _ _ _ _ _ _ hc, ag_SK_Hg2 _ _ _ _ _ _ _ hc, ag_SK_Hat2 _ _ _ _ _ _ _ hc, ag_SK_Hpt2 _ _ _ _ _ _ _ hc, ag_SK_Hg3 _ _ _ _ _ _ _ hc, ag_SK_Hat3 _ _ _ _ _ _ _ hc, ag_SK_Hpt3 _ _ _ _ _ _ _ hc, ag_SK_Hg4 _ _ _ _ _ _ _ hc, ag_SK_Hp4 _ _ _ _ _ _ _ hc, ag_SK_Hg5 _ _ _ _ _ _ _ hc, ag_SK_Hp5 _ _ _ _ _ _ _ hc, ag_SK_Hg6 _ _ _ _ _ _ _ hc, ag_SK_Hp6 _ _ _ _ _ _ _ hc, ag_SK_Hck _ _ _ _ _ _ _ hc, ag_SK_f0 _ _ _ _ _ _ _ hc, ag_SK_f1 _ _ _ _ _ _ _ hc, ag_SK_f2 _ _ _ _ _ _ _ hc, ag_SK_ck _ _ _ _ _ _ _ hc, ag_kk_v, ag_kk_n, Nat.reduceAdd, ag_b0, ag_b1, true_and, or_true, true_or, Int.reduceEq, ne_eq, not_false_eq_true, not_true_eq_false, ↓reduceIte, ag_nm_rd hs, ag_nm_rd hs2, ag_nm_m, ag_nm_5, ag_nm_1]
  unfold ag_ios
  by_cases q1 : ag_rd 20 (gp 0) b = 5 <;> by_cases q2 : ag_rd 40 (gb 5) (ag_rd 20 (gp 1) b) = -1 <;> by_cases q3 : ag_rd 20 (gp 0) b = 1 <;> by_cases q4 : ag_rd 40 (gb 5) (ag_rd 20 (gp 2) b) = -1 <;> simp [q1, q2, q3, q4, ag_nm_1, ag_nm_z]
theorem ag_K_fateBy {x b : Int} (hc : B + 7 ≤ c) (hs : ag_sm gb) (hs2 : ag_sm gp) :
    ag_cl9 29 [ag_R c, ag_I x, ag_I b] (ag_SK B σ c gh vh gb vb gp vp) K = K (Sum.inl (some (ag_I (ag_fat gb gp x b)))) (ag_SK B σ c gh vh gb vb gp vp) := by
  have hI := fun K => ag_K_isOfStruck σ gh vh (vb := vb) (vp := vp) K (b := b) hc hs hs2
  simp only [ag_e29, ag_i29_0, ag_i29_1, ag_i29_4, ag_i29_7, ag_i29_8, ag_i29_11, ag_i29_14, ag_i29_15, ag_i29_16, ag_i29_17, ag_i29_20, ag_i29_23, ag_i29_24, ag_i29_27_n, ag_i29_27_i, ag_i29_27_r, ag_i29_28, ag_i29_29, ag_i29_32, ag_i29_33, ag_i29_34, ag_i29_37, ag_i29_40, ag_i29_41, ag_i29_44, ag_i29_45, ag_i29_46, ag_i29_47, ag_i29_50, ag_i29_53, ag_i29_54, ag_i29_57, ag_i29_58, ag_i29_61, ag_i29_62, ag_i29_65, ag_i29_68, ag_i29_69, ag_i29_72, ag_i29_73, ag_i29_76, ag_i29_79, ag_i29_80, ag_i29_83, ag_i29_86, ag_i29_87, ag_i29_90, ag_i29_91_n, ag_i29_91_i, ag_i29_91_r, ag_i29_93, ag_i29_94, ag_i29_95, ag_i29_98, ag_i29_100, ag_i29_103, ag_i29_104, ag_i29_105, ag_i29_106, ag_i29_107, ag_i29_110, ag_i29_112, ag_i29_115, ag_i29_116, ag_i29_119, ag_i29_122, ag_i29_123, ag_i29_126, ag_i29_127, ag_i29_130, ag_i29_133, ag_i29_134, ag_i29_137, ag_i29_140, ag_i29_141, ag_i29_144, ag_i29_145, ag_i29_146, ag_i29_147, ag_SK_Bg0 _ _ _ _ _ _ _ hc, ag_SK_Bat0 _ _ _ _ _ _ _ hc, ag_SK_Bpt0 _ _ _ _ _ _ _ hc, ag_SK_Bg1 _ _ _ _ _ _ _ hc, ag_SK_Bat1 _ _ _ _ _ _ _ hc, ag_SK_Bpt1 _ _ _ _ _ _ _ hc, ag_SK_Bg2 _ _ _ _ _ _ _ hc, ag_SK_Bat2 _ _ _ _ _ _ _ hc, ag_SK_Bpt2 _ _ _ _ _ _ _ hc, ag_SK_Bg3 _ _ _ _ _ _ _ hc, ag_SK_Bat3 _ _ _ _ _ _ _ hc, ag_SK_Bpt3 _ _ _ _ _ _ _ hc, ag_SK_Bg4 _ _ _ _ _ _ _ hc, ag_SK_Bat4 _ _ _ _ _ _ _ hc, ag_SK_Bpt4 _ _ _ _ _ _ _ hc, ag_SK_Bg5 _ _ _ _ _ _ _ hc, ag_SK_Bat5 _ _ _ _ _ _ _ hc, ag_SK_Bpt5 _ _ _ _ _ _ _ hc, ag_SK_Bg6 _ _ _ _ _ _ _ hc, ag_SK_Bat6 _ _ _ _ _ _ _ hc, ag_SK_Bpt6 _ _ _ _ _ _ _ hc, ag_SK_Bg7 _ _ _ _ _ _ _ hc, ag_SK_Bat7 _ _ _ _ _ _ _ hc, ag_SK_Bpt7 _ _ _ _ _ _ _ hc, ag_SK_Bg8 _ _ _ _ _ _ _ hc, ag_SK_Bp8 _ _ _ _ _ _ _ hc, ag_SK_Bg9 _ _ _ _ _ _ _ hc, ag_SK_Bp9 _ _ _ _ _ _ _ hc, ag_SK_Bck _ _ _ _ _ _ _ hc, ag_SK_Pg0 _ _ _ _ _ _ _ hc, ag_SK_Pat0 _ _ _ _ _ _ _ hc, ag_SK_Ppt0 _ _ _ _ _ _ _ hc, ag_SK_Pg1 _ _ _ _ _ _ _ hc, ag_SK_Pat1 _ _ _ _ _ _ _ hc, ag_SK_Ppt1 _ _ _ _ _ _ _ hc, ag_SK_Pg2 _ _ _ _ _ _ _ hc, ag_SK_Pat2 _ _ _ _ _ _ _ hc, ag_SK_Ppt2 _ _ _ _ _ _ _ hc, ag_SK_Pg3 _ _ _ _ _ _ _ hc, ag_SK_Pat3 _ _ _ _ _ _ _ hc, ag_SK_Ppt3 _ _ _ _ _ _ _ hc, ag_SK_Pg4 _ _ _ _ _ _ _ hc, ag_SK_Pat4 _ _ _ _ _ _ _ hc, ag_SK_Ppt4 _ _ _ _ _ _ _ hc, ag_SK_Pg5 _ _ _ _ _ _ _ hc, ag_SK_Pat5 _ _ _ _ _ _ _ hc, ag_SK_Ppt5 _ _ _ _ _ _ _ hc, ag_SK_Pg6 _ _ _ _ _ _ _ hc, ag_SK_Pp6 _ _ _ _ _ _ _ hc, ag_SK_Pck _ _ _ _ _ _ _ hc, ag_SK_Hg0 _ _ _ _ _ _ _ hc, ag_SK_Hat0 _ _ _ _ _ _ _ hc, ag_SK_Hpt0 _ _ _ _ _ _ _ hc, ag_SK_Hg1 _ _ _ _ _ _ _ hc, ag_SK_Hat1 _ _ _ _ _ _ _ hc, ag_SK_Hpt1 _ _ _ _ _ _ _ hc, ag_SK_Hg2 _ _ _ _ _ _ _ hc, ag_SK_Hat2 _ _ _ _ _ _ _ hc, ag_SK_Hpt2 _ _ _ _ _ _ _ hc, ag_SK_Hg3 _ _ _ _ _ _ _ hc, ag_SK_Hat3 _ _ _ _ _ _ _ hc, ag_SK_Hpt3 _ _ _ _ _ _ _ hc, ag_SK_Hg4 _ _ _ _ _ _ _ hc, ag_SK_Hp4 _ _ _ _ _ _ _ hc, ag_SK_Hg5 _ _ _ _ _ _ _ hc, ag_SK_Hp5 _ _ _ _ _ _ _ hc, ag_SK_Hg6 _ _ _ _ _ _ _ hc, ag_SK_Hp6 _ _ _ _ _ _ _ hc, ag_SK_Hck _ _ _ _ _ _ _ hc, ag_SK_f0 _ _ _ _ _ _ _ hc, ag_SK_f1 _ _ _ _ _ _ _ hc, ag_SK_f2 _ _ _ _ _ _ _ hc, ag_SK_ck _ _ _ _ _ _ _ hc, ag_kk_v, ag_kk_n, Nat.reduceAdd, ag_b0, ag_b1, true_and, or_true, true_or, Int.reduceEq, ne_eq, not_false_eq_true, not_true_eq_false, ↓reduceIte, ag_nm_rd hs, ag_nm_rd hs2, ag_nm_m, ag_nm_5, ag_nm_1, ag_nm_z, ag_nm_2, hI]
  have e1 : ag_nm (if ag_ios gb gp b = true then 1 else 0) = (if ag_ios gb gp b = true then 1 else 0) := by
    split
    · exact ag_nm_1
    · exact ag_nm_z
  rw [e1]
  unfold ag_fat
  generalize ag_rd 20 (gp 3) b = s
  generalize ag_rd 20 (gp 0) x = kx
  generalize ag_rd 20 (gp 0) b = kb
  generalize ag_rd 20 (gp 1) b = tb
  generalize ag_rd 20 (gp 1) x = tx
  generalize ag_rd 20 (gp 2) b = ob
  generalize ag_rd 20 (gp 2) x = ox
  generalize ag_ios gb gp b = io
  by_cases q0 : s = 0
  · by_cases q1 : kx = 0
    · cases io <;> simp [q0, q1]
    · by_cases q2 : kb = kx
      · by_cases q3 : tb = tx
        · by_cases q4 : kx = 1
          · simp [q0, q2, q3, q4]
          · by_cases q5 : kx = 2
            · by_cases q6 : ob = ox <;> simp [q0, q2, q3, q5, q6]
            · simp [q0, q1, q2, q3, q4, q5]
        · simp [q0, q1, q2, q3]
      · simp [q0, q1, q2]
  · simp [q0]
end AGK3
