/-! THE HOUSE: passes and put. -/
variable {B : Nat}
theorem ag_nm_14 : ag_nm 1 = 1 := by decide +kernel
section AGHP
variable {σ : ag_S} {L ln : Nat → Nat} {g : Nat → Nat → Int} {dr qu mi : Int} {gb gp gh gq P : Nat → Nat → Int} {w n m np nq : Nat}
/-- one step of what a passed one settles -/
theorem ag_s_stp {G : Nat → Nat → Int} {b i : Nat} {s : Int} {x5 : Option ag_V} (h : ag_HS B σ L ln g dr qu mi) (t : ag_TC gb w n ln g) (ta : ag_TA G m ln g) (hm : m ≤ 20) (hw : w ≤ 40) (hsm : ag_sm G) (hb : b < m) (hi : i < m) (tor : ∀ a : Nat, a < m → (G 0 a ≠ 5 → 0 ≤ G 1 a ∧ G 1 a < w) ∧ (G 0 a = 1 → 0 ≤ G 2 a ∧ G 2 a < w)) :
    (ag_fat gb G b i = 0 ∧ ∀ K, ag_wp 119 23 [some (ag_R B), some (ag_I (b : Int)), some (ag_I s), some (ag_R (L (300 + b))), some (ag_I (i : Int)), x5] [] σ K = ag_wp 119 191 [some (ag_R B), some (ag_I (b : Int)), some (ag_I s), some (ag_R (L (300 + b))), some (ag_I (i : Int)), some (ag_R (L (300 + i)))] [] σ K) ∨
    (ag_fat gb G b i = 3 ∧ ∀ (ret : Int) (σ' : ag_S), (∀ K, ag_cl9 114 [ag_R B, ag_I (i : Int), ag_I 3, ag_I (b : Int)] σ K = K (Sum.inl (some (ag_I ret))) σ') → ∀ K, ag_wp 119 23 [some (ag_R B), some (ag_I (b : Int)), some (ag_I s), some (ag_R (L (300 + b))), some (ag_I (i : Int)), x5] [] σ K = ag_wp 119 191 [some (ag_R B), some (ag_I (b : Int)), some (ag_I (s + ret)), some (ag_R (L (300 + b))), some (ag_I (i : Int)), some (ag_R (L (300 + i)))] [] σ' K) ∨
    (ag_fat gb G b i = 1 ∧ ∀ (ret : Int) (σ' : ag_S), (∀ K, ag_cl9 114 [ag_R B, ag_I (i : Int), ag_I 1, ag_I (-1)] σ K = K (Sum.inl (some (ag_I ret))) σ') → ∀ K, ag_wp 119 23 [some (ag_R B), some (ag_I (b : Int)), some (ag_I s), some (ag_R (L (300 + b))), some (ag_I (i : Int)), x5] [] σ K = ag_wp 119 191 [some (ag_R B), some (ag_I (b : Int)), some (ag_I (s + ret)), some (ag_R (L (300 + b))), some (ag_I (i : Int)), some (ag_R (L (300 + i)))] [] σ' K) := by
  have enm := fun k i => ag_nm_s hsm k i
  have rdb : ∀ k, ag_rd 20 (G k) (b : Int) = G k b := fun k => ag_rd_nat (by decide) (by omega)
  have rdi : ∀ k, ag_rd 20 (G k) (i : Int) = G k i := fun k => ag_rd_nat (by decide) (by omega)
  have qb := fun K => ag_a_q h ta hb (x := (b : Int)) rfl K
  have qi := fun K => ag_a_q h ta hi (x := (i : Int)) rfl K
  have b0 := fun K => ag_a_i0 h ta hb K
  have b1 := fun K => ag_a_i1 h ta hb K
  have b2 := fun K => ag_a_i2 h ta hb K
  have i0 := fun K => ag_a_i0 h ta hi K
  have i1 := fun K => ag_a_i1 h ta hi K
  have i2 := fun K => ag_a_i2 h ta hi K
  have i3 := fun K => ag_a_i3 h ta hi K
  have hfat : ag_fat gb G b i = if G 3 i ≠ 0 then 0 else if G 0 b = 0 then (if ag_ios gb G i = true then 3 else 0) else if G 0 i = G 0 b ∧ G 1 i = G 1 b then (if G 0 b = 1 then 3 else if G 0 b = 2 then (if G 2 i = G 2 b then 1 else 3) else 0) else 0 := by
    unfold ag_fat
    rw [rdi 3, rdb 0, rdi 0, rdi 1, rdb 1, rdi 2, rdb 2]
  -- the first three looks
  have top : ∀ K, ag_wp 119 23 [some (ag_R B), some (ag_I (b : Int)), some (ag_I s), some (ag_R (L (300 + b))), some (ag_I (i : Int)), x5] [] σ K = if G 3 i ≠ 0 then ag_wp 119 191 [some (ag_R B), some (ag_I (b : Int)), some (ag_I s), some (ag_R (L (300 + b))), some (ag_I (i : Int)), some (ag_R (L (300 + i)))] [] σ K else if G 0 i ≠ 5 then ag_wp 119 60 [some (ag_R B), some (ag_I (b : Int)), some (ag_I s), some (ag_R (L (300 + b))), some (ag_I (i : Int)), some (ag_R (L (300 + i)))] [] σ K else ag_wp 119 191 [some (ag_R B), some (ag_I (b : Int)), some (ag_I s), some (ag_R (L (300 + b))), some (ag_I (i : Int)), some (ag_R (L (300 + i)))] [] σ K := by
    intro K
    rw [ag_i119_23]
    simp only [ag_i119_25, ag_i119_26, ag_h_g5 h, ag_i119_29, ag_h_a3 h, ta.1, ag_i119_30, ag_nm_nat (show m ≤ 1000000 by omega), ag_nm_nat (show i ≤ 1000000 by omega)]
    rw [if_neg (show ¬ (m : Int) ≤ i by omega)]
    simp only [ag_i119_33, ag_i119_34, ag_h_g5 h, ag_i119_37, ag_i119_39, qi, ag_i119_40_n, ag_i119_40_i, ag_i119_40_r, ag_i119_42, ag_i119_44, ag_i119_45, i3, ag_i119_46, enm, ag_nm_z, ag_i119_49, ag_i119_51, ag_i119_52, i0, ag_i119_53, ag_i119_54, ag_nmk_5, ag_i119_57]
  by_cases c1 : G 3 i = 0
  · by_cases c2 : G 0 i = 5
    · refine Or.inl ⟨?_, fun K => ?_⟩
      · rw [hfat, if_neg (show ¬ G 3 i ≠ 0 by omega)]
        by_cases c3 : G 0 b = 0
        · rw [if_pos c3, if_neg]
          unfold ag_ios
          rw [rdi 0]
          intro z
          have z := of_decide_eq_true z
          rcases z with z | z <;> omega
        · rw [if_neg c3]
          by_cases c4 : G 0 i = G 0 b ∧ G 1 i = G 1 b
          · rw [if_pos c4, if_neg (by omega), if_neg (by omega)]
          · rw [if_neg c4]
      · rw [top K, if_neg (show ¬ G 3 i ≠ 0 by omega), if_neg (show ¬ G 0 i ≠ 5 by omega)]
    · have top60 : ∀ K, ag_wp 119 23 [some (ag_R B), some (ag_I (b : Int)), some (ag_I s), some (ag_R (L (300 + b))), some (ag_I (i : Int)), x5] [] σ K = ag_wp 119 60 [some (ag_R B), some (ag_I (b : Int)), some (ag_I s), some (ag_R (L (300 + b))), some (ag_I (i : Int)), some (ag_R (L (300 + i)))] [] σ K := fun K => by
        rw [top K, if_neg (show ¬ G 3 i ≠ 0 by omega), if_pos (show G 0 i ≠ 5 from c2)]
      obtain ⟨to1, to2⟩ := tor i hi
      have to1 := to1 c2
      obtain ⟨c, hc⟩ : ∃ c : Nat, G 1 i = c := ⟨(G 1 i).toNat, by omega⟩
      have hcw : c < w := by omega
      have qc := fun K => ag_c_q h t hcw (x := G 1 i) hc K
      have c4 := fun K => ag_c_i4 h t hcw K
      -- the looks from 118 on
      have low : G 0 b ≠ 0 → ∀ K, ag_wp 119 23 [some (ag_R B), some (ag_I (b : Int)), some (ag_I s), some (ag_R (L (300 + b))), some (ag_I (i : Int)), x5] [] σ K = ag_wp 119 118 [some (ag_R B), some (ag_I (b : Int)), some (ag_I s), some (ag_R (L (300 + b))), some (ag_I (i : Int)), some (ag_R (L (300 + i)))] [] σ K := fun z K => by
        rw [top60 K]
        simp only [ag_i119_60, ag_i119_61, ag_i119_62, b0, ag_i119_63, enm, ag_nm_z]
        rw [if_pos (show G 0 b ≠ 0 from z)]
      by_cases c3 : G 0 b = 0
      · -- a STRIKE passed
        have from118 : ∀ K, ag_wp 119 118 [some (ag_R B), some (ag_I (b : Int)), some (ag_I s), some (ag_R (L (300 + b))), some (ag_I (i : Int)), some (ag_R (L (300 + i)))] [] σ K = ag_wp 119 191 [some (ag_R B), some (ag_I (b : Int)), some (ag_I s), some (ag_R (L (300 + b))), some (ag_I (i : Int)), some (ag_R (L (300 + i)))] [] σ K := fun K => by
          simp only [ag_i119_118, ag_i119_119, ag_i119_120, b0, ag_i119_121, ag_i119_122, enm, ag_nm_1, ag_i119_125, ag_i119_126, ag_i119_127, b0, ag_i119_128, ag_i119_129, ag_nmk_2]
          rw [if_neg (show ¬ G 0 b = 1 by omega), if_pos (show G 0 b ≠ 2 by omega)]
        have hios : ag_ios gb G i = decide ((gb 5 c = -1) ∨ (G 0 i = 1 ∧ gb 5 (G 2 i).toNat = -1)) := by
          unfold ag_ios
          rw [rdi 0, rdi 1, rdi 2, hc, ag_rd_nat (g := gb 5) (i := c) (by decide) (by omega)]
          refine decide_eq_decide.mpr ⟨fun z => ?_, fun z => ?_⟩
          · rcases z with z | z
            · exact Or.inl z.2
            · rw [ag_rd_i (by decide) (to2 z.1).1 (by have := (to2 z.1).2; omega)] at z
              exact Or.inr z
          · rcases z with z | z
            · exact Or.inl ⟨c2, z⟩
            · refine Or.inr ⟨z.1, ?_⟩
              rw [ag_rd_i (by decide) (to2 z.1).1 (by have := (to2 z.1).2; omega)]
              exact z.2
        have hf9 : ag_fat gb G b i = if ag_ios gb G i = true then 3 else 0 := by
          rw [hfat, if_neg (show ¬ G 3 i ≠ 0 by omega), if_pos c3]
        have go66 : ∀ K, ag_wp 119 23 [some (ag_R B), some (ag_I (b : Int)), some (ag_I s), some (ag_R (L (300 + b))), some (ag_I (i : Int)), x5] [] σ K = if gb 5 c = -1 then ag_wp 119 104 [some (ag_R B), some (ag_I (b : Int)), some (ag_I s), some (ag_R (L (300 + b))), some (ag_I (i : Int)), some (ag_R (L (300 + i)))] [] σ K else ag_wp 119 81 [some (ag_R B), some (ag_I (b : Int)), some (ag_I s), some (ag_R (L (300 + b))), some (ag_I (i : Int)), some (ag_R (L (300 + i)))] [] σ K := fun K => by
          rw [top60 K]
          simp only [ag_i119_60, ag_i119_61, ag_i119_62, b0, ag_i119_63, enm, ag_nm_z]
          rw [if_neg (show ¬ G 0 b ≠ 0 by omega)]
          simp only [ag_i119_66, ag_i119_67, ag_h_g3 h, ag_i119_70, ag_i119_72, ag_i119_73, i1, ag_i119_74, qc, ag_i119_75, ag_i119_76, c4, ag_i119_77, ag_i119_78, ag_nm_1]
          by_cases z : gb 5 c = -1
          · rw [if_pos z, if_pos z, if_pos ag_nm_1]
          · rw [if_neg z, if_neg z, if_neg (by decide +kernel)]
        by_cases z1 : gb 5 c = -1
        · refine Or.inr (Or.inl ⟨?_, fun ret σ' hr K => ?_⟩)
          · rw [hf9, hios, if_pos (decide_eq_true (Or.inl z1))]
          · rw [go66 K, if_pos z1]
            simp only [ag_i119_104, ag_i119_105, ag_i119_106, ag_i119_108, ag_i119_109, ag_i119_110, ag_h_ck h, hr, ag_kk_v, ag_kk_n, Nat.reduceAdd, ag_i119_113, ag_i119_114_n, ag_i119_114_i, ag_i119_114_r, ag_i119_115]
        · by_cases z2 : G 0 i = 1
          · have to2 := to2 z2
            obtain ⟨d, hd⟩ : ∃ d : Nat, G 2 i = d := ⟨(G 2 i).toNat, by omega⟩
            have hdw : d < w := by omega
            have qd := fun K => ag_c_q h t hdw (x := G 2 i) hd K
            have d4 := fun K => ag_c_i4 h t hdw K
            have go81 : ∀ K, ag_wp 119 23 [some (ag_R B), some (ag_I (b : Int)), some (ag_I s), some (ag_R (L (300 + b))), some (ag_I (i : Int)), x5] [] σ K = if gb 5 d = -1 then ag_wp 119 104 [some (ag_R B), some (ag_I (b : Int)), some (ag_I s), some (ag_R (L (300 + b))), some (ag_I (i : Int)), some (ag_R (L (300 + i)))] [] σ K else ag_wp 119 118 [some (ag_R B), some (ag_I (b : Int)), some (ag_I s), some (ag_R (L (300 + b))), some (ag_I (i : Int)), some (ag_R (L (300 + i)))] [] σ K := fun K => by
              rw [go66 K, if_neg z1]
              simp only [ag_i119_81, ag_i119_83, ag_i119_84, i0, ag_i119_85, ag_i119_86, enm, ag_nm_1]
              rw [if_neg (show ¬ G 0 i ≠ 1 by omega)]
              simp only [ag_i119_89, ag_i119_90, ag_h_g3 h, ag_i119_93, ag_i119_95, ag_i119_96, i2, ag_i119_97, qd, ag_i119_98, ag_i119_99, d4, ag_i119_100, ag_i119_101, ag_nm_1]
              by_cases z : gb 5 d = -1
              · rw [if_pos z, if_pos z, if_neg (by decide +kernel)]
              · rw [if_neg z, if_neg z, if_pos (by decide +kernel)]
            by_cases z3 : gb 5 d = -1
            · refine Or.inr (Or.inl ⟨?_, fun ret σ' hr K => ?_⟩)
              · rw [hf9, hios, if_pos (decide_eq_true (Or.inr ⟨z2, by rw [hd, Int.toNat_natCast]; exact z3⟩))]
              · rw [go81 K, if_pos z3]
                simp only [ag_i119_104, ag_i119_105, ag_i119_106, ag_i119_108, ag_i119_109, ag_i119_110, ag_h_ck h, hr, ag_kk_v, ag_kk_n, Nat.reduceAdd, ag_i119_113, ag_i119_114_n, ag_i119_114_i, ag_i119_114_r, ag_i119_115]
            · refine Or.inl ⟨?_, fun K => ?_⟩
              · rw [hf9, hios, if_neg]
                intro y
                rcases of_decide_eq_true y with y | y
                · exact z1 y
                · rw [hd, Int.toNat_natCast] at y
                  exact z3 y.2
              · rw [go81 K, if_neg z3, from118 K]
          · refine Or.inl ⟨?_, fun K => ?_⟩
            · rw [hf9, hios, if_neg]
              intro y
              rcases of_decide_eq_true y with y | y
              · exact z1 y
              · exact z2 y.1
            · rw [go66 K, if_neg z1]
              simp only [ag_i119_81, ag_i119_83, ag_i119_84, i0, ag_i119_85, ag_i119_86, enm, ag_nm_1]
              rw [if_pos (show G 0 i ≠ 1 from z2)]
              exact from118 K
      · -- a MOVE or a REPLACE passed, or none of these
        have hf9 : ag_fat gb G b i = if G 0 i = G 0 b ∧ G 1 i = G 1 b then (if G 0 b = 1 then 3 else if G 0 b = 2 then (if G 2 i = G 2 b then 1 else 3) else 0) else 0 := by
          rw [hfat, if_neg (show ¬ G 3 i ≠ 0 by omega), if_neg c3]
        by_cases k1 : G 0 b = 1 ∨ G 0 b = 2
        · have go132 : ∀ K, ag_wp 119 23 [some (ag_R B), some (ag_I (b : Int)), some (ag_I s), some (ag_R (L (300 + b))), some (ag_I (i : Int)), x5] [] σ K = ag_wp 119 132 [some (ag_R B), some (ag_I (b : Int)), some (ag_I s), some (ag_R (L (300 + b))), some (ag_I (i : Int)), some (ag_R (L (300 + i)))] [] σ K := fun K => by
            rw [low c3 K]
            simp only [ag_i119_118, ag_i119_119, ag_i119_120, b0, ag_i119_121, ag_i119_122, enm, ag_nm_1, ag_i119_125, ag_i119_126, ag_i119_127, b0, ag_i119_128, ag_i119_129, ag_nmk_2]
            by_cases z : G 0 b = 1
            · rw [if_pos z]
            · rw [if_neg z, if_neg (show ¬ G 0 b ≠ 2 by omega)]
          by_cases e1 : G 0 i = G 0 b
          · by_cases e2 : G 1 i = G 1 b
            · have go152 : ∀ K, ag_wp 119 23 [some (ag_R B), some (ag_I (b : Int)), some (ag_I s), some (ag_R (L (300 + b))), some (ag_I (i : Int)), x5] [] σ K = ag_wp 119 152 [some (ag_R B), some (ag_I (b : Int)), some (ag_I s), some (ag_R (L (300 + b))), some (ag_I (i : Int)), some (ag_R (L (300 + i)))] [] σ K := fun K => by
                rw [go132 K]
                simp only [ag_i119_132, ag_i119_134, ag_i119_135, i0, ag_i119_136, ag_i119_137, ag_i119_138, b0, ag_i119_139, enm]
                rw [if_neg (show ¬ G 0 i ≠ G 0 b by omega)]
                simp only [ag_i119_142, ag_i119_144, ag_i119_145, i1, ag_i119_146, ag_i119_147, ag_i119_148, b1, ag_i119_149, enm]
                rw [if_neg (show ¬ G 1 i ≠ G 1 b by omega)]
              rw [if_pos ⟨e1, e2⟩] at hf9
              by_cases z : G 0 b = 1
              · rw [if_pos z] at hf9
                refine Or.inr (Or.inl ⟨hf9, fun ret σ' hr K => ?_⟩)
                rw [go152 K]
                simp only [ag_i119_152, ag_i119_153, ag_i119_154, ag_i119_155, b0, ag_i119_156, ag_i119_157, enm, ag_nmk_2]
                rw [if_pos (show G 0 b ≠ 2 by omega)]
                simp only [ag_i119_181, ag_i119_182, ag_i119_184, ag_i119_185, ag_i119_186, ag_h_ck h, hr, ag_kk_v, ag_kk_n, Nat.reduceAdd, ag_i119_189, ag_i119_190_n, ag_i119_190_i, ag_i119_190_r]
              · have z2 : G 0 b = 2 := by omega
                rw [if_neg z, if_pos z2] at hf9
                by_cases z3 : G 2 i = G 2 b
                · rw [if_pos z3] at hf9
                  refine Or.inr (Or.inr ⟨hf9, fun ret σ' hr K => ?_⟩)
                  rw [go152 K]
                  simp only [ag_i119_152, ag_i119_153, ag_i119_154, ag_i119_155, b0, ag_i119_156, ag_i119_157, enm, ag_nmk_2]
                  rw [if_neg (show ¬ G 0 b ≠ 2 by omega)]
                  simp only [ag_i119_160, ag_i119_162, ag_i119_163, i2, ag_i119_164, ag_i119_165, ag_i119_166, b2, ag_i119_167, enm]
                  rw [if_neg (show ¬ G 2 i ≠ G 2 b by omega)]
                  simp only [ag_i119_170, ag_i119_171, ag_i119_173, ag_i119_174, ag_i119_175, ag_h_ck h, hr, ag_kk_v, ag_kk_n, Nat.reduceAdd, ag_i119_178, ag_i119_189, ag_i119_190_n, ag_i119_190_i, ag_i119_190_r]
                · rw [if_neg z3] at hf9
                  refine Or.inr (Or.inl ⟨hf9, fun ret σ' hr K => ?_⟩)
                  rw [go152 K]
                  simp only [ag_i119_152, ag_i119_153, ag_i119_154, ag_i119_155, b0, ag_i119_156, ag_i119_157, enm, ag_nmk_2]
                  rw [if_neg (show ¬ G 0 b ≠ 2 by omega)]
                  simp only [ag_i119_160, ag_i119_162, ag_i119_163, i2, ag_i119_164, ag_i119_165, ag_i119_166, b2, ag_i119_167, enm]
                  rw [if_pos (show G 2 i ≠ G 2 b from z3)]
                  simp only [ag_i119_181, ag_i119_182, ag_i119_184, ag_i119_185, ag_i119_186, ag_h_ck h, hr, ag_kk_v, ag_kk_n, Nat.reduceAdd, ag_i119_189, ag_i119_190_n, ag_i119_190_i, ag_i119_190_r]
            · rw [if_neg (fun y => e2 y.2)] at hf9
              refine Or.inl ⟨hf9, fun K => ?_⟩
              rw [go132 K]
              simp only [ag_i119_132, ag_i119_134, ag_i119_135, i0, ag_i119_136, ag_i119_137, ag_i119_138, b0, ag_i119_139, enm]
              rw [if_neg (show ¬ G 0 i ≠ G 0 b by omega)]
              simp only [ag_i119_142, ag_i119_144, ag_i119_145, i1, ag_i119_146, ag_i119_147, ag_i119_148, b1, ag_i119_149, enm]
              rw [if_pos (show G 1 i ≠ G 1 b from e2)]
          · rw [if_neg (fun y => e1 y.1)] at hf9
            refine Or.inl ⟨hf9, fun K => ?_⟩
            rw [go132 K]
            simp only [ag_i119_132, ag_i119_134, ag_i119_135, i0, ag_i119_136, ag_i119_137, ag_i119_138, b0, ag_i119_139, enm]
            rw [if_pos (show G 0 i ≠ G 0 b from e1)]
        · refine Or.inl ⟨?_, fun K => ?_⟩
          · rw [hf9]
            split
            · rw [if_neg (by omega), if_neg (by omega)]
            · rfl
          · rw [low c3 K]
            simp only [ag_i119_118, ag_i119_119, ag_i119_120, b0, ag_i119_121, ag_i119_122, enm, ag_nm_1, ag_i119_125, ag_i119_126, ag_i119_127, b0, ag_i119_128, ag_i119_129, ag_nmk_2]
            rw [if_neg (show ¬ G 0 b = 1 by omega), if_pos (show G 0 b ≠ 2 by omega)]
  · refine Or.inl ⟨?_, fun K => ?_⟩
    · rw [hfat, if_pos c1]
    · rw [top K, if_pos c1]
/-- all that a passed one settles -/
theorem ag_s_loop {b : Nat} (hm : m ≤ 20) (hw : w ≤ 40) (hb : b < m) (tor : ∀ a : Nat, a < m → (gp 0 a ≠ 5 → 0 ≤ gp 1 a ∧ gp 1 a < w) ∧ (gp 0 a = 1 → 0 ≤ gp 2 a ∧ gp 2 a < w)) (no : ∀ i : Nat, i < m → gp 0 i = 5 → ∀ j : Nat, j < m → gp 0 j = 5 → gp 1 j ≠ i) : ∀ (k i : Nat) (σ1 : ag_S) (g1 G : Nat → Nat → Int) (s : Int) (x5 : Option ag_V), i + k = m → ag_HS B σ1 L ln g1 dr qu mi → ag_TC gb w n ln g1 → ag_TA G m ln g1 → ag_sm G → G 0 = gp 0 → G 1 = gp 1 → G 2 = gp 2 →
    ∃ σ2 g2 v, ag_HS B σ2 L ln g2 dr qu mi ∧ ag_TA (ag_spl gb b m k i G) m ln g2 ∧ ag_g3 g1 g2 ∧ ag_hf B σ1 σ2 0 0 ∧ ∀ K, ag_wp 119 23 [some (ag_R B), some (ag_I (b : Int)), some (ag_I s), some (ag_R (L (300 + b))), some (ag_I (i : Int)), x5] [] σ1 K = K (Sum.inl (some (ag_I v))) σ2 := by
  intro k
  induction k with
  | zero =>
    intro i σ1 g1 G s x5 hi h1 t1 ta1 hsm e0 e1 e2
    have him : i = m := by omega
    subst him
    refine ⟨σ1, g1, s, h1, ta1, fun _ _ => rfl, ag_hf_refl σ1, fun K => ?_⟩
    rw [ag_i119_23]
    simp only [ag_i119_25, ag_i119_26, ag_h_g5 h1, ag_i119_29, ag_h_a3 h1, ta1.1, ag_i119_30, ag_nm_nat (show i ≤ 1000000 by omega)]
    rw [if_pos (Int.le_refl _)]
    simp only [ag_i119_197, ag_i119_198]
  | succ k ih =>
    intro i σ1 g1 G s x5 hi h1 t1 ta1 hsm e0 e1 e2
    have him : i < m := by omega
    have tor' : ∀ a : Nat, a < m → (G 0 a ≠ 5 → 0 ≤ G 1 a ∧ G 1 a < w) ∧ (G 0 a = 1 → 0 ≤ G 2 a ∧ G 2 a < w) := by
      rw [e0, e1, e2]
      exact tor
    have no' : ∀ i : Nat, i < m → G 0 i = 5 → ∀ j : Nat, j < m → G 0 j = 5 → G 1 j ≠ i := by
      rw [e0, e1]
      exact no
    have st := ag_s_stp (b := b) (i := i) (s := s) (x5 := x5) h1 t1 ta1 hm hw hsm hb him tor'
    have hit : ∀ s' y : Int, 0 ≤ s' ∧ s' ≤ 4 → (-1 ≤ y ∧ y ≤ 20) → (∀ (ret : Int) (σ' : ag_S), (∀ K, ag_cl9 114 [ag_R B, ag_I (i : Int), ag_I s', ag_I y] σ1 K = K (Sum.inl (some (ag_I ret))) σ') → ∀ K, ag_wp 119 23 [some (ag_R B), some (ag_I (b : Int)), some (ag_I s), some (ag_R (L (300 + b))), some (ag_I (i : Int)), x5] [] σ1 K = ag_wp 119 191 [some (ag_R B), some (ag_I (b : Int)), some (ag_I (s + ret)), some (ag_R (L (300 + b))), some (ag_I (i : Int)), some (ag_R (L (300 + i)))] [] σ' K) →
        ∃ σ2 g2 v, ag_HS B σ2 L ln g2 dr qu mi ∧ ag_TA (ag_spl gb b m k (i + 1) (ag_set G i s' y m)) m ln g2 ∧ ag_g3 g1 g2 ∧ ag_hf B σ1 σ2 0 0 ∧ ∀ K, ag_wp 119 23 [some (ag_R B), some (ag_I (b : Int)), some (ag_I s), some (ag_R (L (300 + b))), some (ag_I (i : Int)), x5] [] σ1 K = K (Sum.inl (some (ag_I v))) σ2 := by
      intro s' y hs' hy hgo
      obtain ⟨σ2, g2, a1, a2, a3, a4, a5⟩ := ag_h_become h1 ta1 hm hsm no' him (s := s') (y := y) hs' (by omega) (by omega)
      obtain ⟨σ3, g3, v, b1, b2, b3, b4, b5⟩ := ih (i + 1) σ2 g2 (ag_set G i s' y m) (s + _) (some (ag_R (L (300 + i)))) (by omega) a1 (ag_TC_g3 hw t1 a3) a2 (ag_set_sm hsm (by omega) (by omega) (by omega) (by omega) (by omega) (by omega)) ((ag_set_k (by decide) (by decide)).trans e0) ((ag_set_k (by decide) (by decide)).trans e1) ((ag_set_k (by decide) (by decide)).trans e2)
      refine ⟨σ3, g3, v, b1, b2, ag_g3_trans a3 b3, ag_hf_trans a4 b4, fun K => ?_⟩
      rw [hgo _ σ2 a5 K]
      have b5 := b5 K
      rw [← b5]
      simp only [ag_i119_191_n, ag_i119_191_i, ag_i119_191_r, ag_i119_194]
      rfl
    rcases st with ⟨q1, q2⟩ | ⟨q1, q2⟩ | ⟨q1, q2⟩
    · obtain ⟨σ3, g3, v, b1, b2, b3, b4, b5⟩ := ih (i + 1) σ1 g1 G s (some (ag_R (L (300 + i)))) (by omega) h1 t1 ta1 hsm e0 e1 e2
      refine ⟨σ3, g3, v, b1, ?_, b3, b4, fun K => ?_⟩
      · show ag_TA (ag_spl gb b m k (i + 1) (if ag_fat gb G b i = 0 then G else ag_set G i (ag_fat gb G b i) (if ag_fat gb G b i = 3 then (b : Int) else -1) m)) m ln g3
        rw [if_pos q1]
        exact b2
      · rw [q2 K]
        have b5 := b5 K
        rw [← b5]
        simp only [ag_i119_191_n, ag_i119_191_i, ag_i119_191_r, ag_i119_194]
        rfl
    · obtain ⟨σ3, g3, v, b1, b2, b3, b4, b5⟩ := hit 3 b (by omega) (by omega) q2
      refine ⟨σ3, g3, v, b1, ?_, b3, b4, b5⟩
      show ag_TA (ag_spl gb b m k (i + 1) (if ag_fat gb G b i = 0 then G else ag_set G i (ag_fat gb G b i) (if ag_fat gb G b i = 3 then (b : Int) else -1) m)) m ln g3
      rw [q1, if_neg (by decide), if_pos rfl]
      exact b2
    · obtain ⟨σ3, g3, v, b1, b2, b3, b4, b5⟩ := hit 1 (-1) (by omega) (by omega) q2
      refine ⟨σ3, g3, v, b1, ?_, b3, b4, b5⟩
      show ag_TA (ag_spl gb b m k (i + 1) (if ag_fat gb G b i = 0 then G else ag_set G i (ag_fat gb G b i) (if ag_fat gb G b i = 3 then (b : Int) else -1) m)) m ln g3
      rw [q1, if_neg (by decide), if_neg (by decide)]
      exact b2
/-- b is put -/
theorem ag_h_put (h : ag_HS B σ L ln g dr qu mi) (t : ag_TC gb w n ln g) (ta : ag_TA gp m ln g) (tp : ag_TP gq nq ln g) (tv : ag_TV gh m ln g) (ts : ag_TS gh np ln g) {li : Int} (hH : ag_HI gh np qu li) (hv : ag_VT gh) (hV : ag_IV (gb, (w, (n, gp))) m) {b : Nat} (hb : b < m) (hl : gp 3 b = 0) :
    ∃ σ' L' ln' g', ag_HS B σ' L' ln' g' dr qu mi ∧ ag_TC (ag_dec gh np qu (-1) m (gb, (w, (n, gp))) b).1 (ag_dec gh np qu (-1) m (gb, (w, (n, gp))) b).2.1 (ag_dec gh np qu (-1) m (gb, (w, (n, gp))) b).2.2.1 ln' g' ∧ ag_TA (ag_dec gh np qu (-1) m (gb, (w, (n, gp))) b).2.2.2 m ln' g' ∧ ag_TP (ag_ug gq 0 (ag_tpt gh np qu (-1) (gb, (w, (n, gp))) (gq 0) nq b)) nq ln' g' ∧ ag_gdo ln g ln' g' ∧ ag_hf B σ σ' 800 14000 ∧ ∀ K : ag_Rs → ag_S → Prop, ag_cl9 122 [ag_R B, ag_I (b : Int), ag_I (-1)] σ K = K (Sum.inl none) σ' := by
  have hB : ag_IB gb w n := hV.1
  have hsp : ag_sm gp := hV.2.1.1.2.1
  have hm : m ≤ 20 := hV.2.1.1.2.2
  have hw : w ≤ 40 := hB.1.2.2.2
  have no := ag_IP_no hV.2.1
  have no : ∀ i : Nat, i < m → gp 0 i = 5 → ∀ j : Nat, j < m → gp 0 j = 5 → gp 1 j ≠ i := no
  obtain ⟨σ1, d1, d2⟩ := ag_h_canDo1 h t ta hV hb
  have h1 := ag_HS_fr h d2
  have hf1 := ag_hf_fr d2 h.2.2.2.2.2.1.2
  have dec : ag_dec gh np qu (-1) m (gb, (w, (n, gp))) b = if ag_ftb gb w n gp b = 0 then (gb, (w, (n, ag_set gp b 3 b m))) else if ag_car gh np qu b (-1) = 0 then (gb, (w, (n, ag_set gp b 2 (-1) m))) else ag_psd gb w n gp m b := rfl
  have tpt : ag_tpt gh np qu (-1) (gb, (w, (n, gp))) (gq 0) nq b = if ag_ftb gb w n gp b = 0 then gq 0 else if ag_car gh np qu b (-1) = 0 then gq 0 else ag_tpf gb n gp (gq 0) nq b := rfl
  have hwp := fun K => ag_h_wouldPass h1 tv ts hH hv hb hm K
  rw [dec, tpt]
  have f01 : ag_ftb gb w n gp b = 0 ∨ ag_ftb gb w n gp b = 1 := by
    unfold ag_ftb ag_fit
    dsimp only
    repeat' split
    all_goals omega
  have c01 : ag_car gh np qu b (-1) = 0 ∨ ag_car gh np qu b (-1) = 1 := by
    unfold ag_car ag_cy
    repeat' split
    all_goals omega
  rw [if_pos hl] at d1
  by_cases q1 : ag_ftb gb w n gp b = 0
  · rw [if_pos q1, if_pos q1]
    obtain ⟨σ2, g2, a1, a2, a3, a4, a5⟩ := ag_h_become h1 ta hm hsp no hb (s := 3) (y := (b : Int)) (by decide) (by omega) (by omega)
    refine ⟨σ2, L, ln, g2, a1, ag_TC_g3 hw t a3, a2, ?_, ag_gd_g3 a3, ag_hf_le (ag_hf_trans hf1 a4) (by omega) (by omega), fun K => ?_⟩
    · rw [ag_ug_sf]
      exact ag_TP_g3 tp a3
    · rw [q1] at d1
      simp only [ag_e122, ag_i122_0, ag_i122_1, ag_i122_2, ag_h_ck h, d1, ag_kk_v, ag_kk_n, Nat.reduceAdd, ag_i122_5, ag_nm_z, ag_b0, ag_b1, true_and, or_true, true_or, Int.reduceEq, ne_eq, not_false_eq_true, not_true_eq_false, ↓reduceIte, ag_i122_8, ag_i122_9, ag_i122_10, ag_i122_11, ag_i122_12, ag_h_ck h1, a5, ag_kk_v, ag_kk_n, Nat.reduceAdd, ag_i122_15, ag_i122_16, ag_i122_45]
  · have q1' : ag_ftb gb w n gp b = 1 := by omega
    rw [if_neg q1, if_neg q1]
    rw [q1'] at d1
    by_cases q2 : ag_car gh np qu b (-1) = 0
    · rw [if_pos q2, if_pos q2]
      obtain ⟨σ2, g2, a1, a2, a3, a4, a5⟩ := ag_h_become h1 ta hm hsp no hb (s := 2) (y := (-1 : Int)) (by decide) (by omega) (by omega)
      refine ⟨σ2, L, ln, g2, a1, ag_TC_g3 hw t a3, a2, ?_, ag_gd_g3 a3, ag_hf_le (ag_hf_trans hf1 a4) (by omega) (by omega), fun K => ?_⟩
      · rw [ag_ug_sf]
        exact ag_TP_g3 tp a3
      · rw [q2] at hwp
        simp only [ag_e122, ag_i122_0, ag_i122_1, ag_i122_2, ag_h_ck h, d1, ag_kk_v, ag_kk_n, Nat.reduceAdd, ag_i122_5, ag_nm_1, ag_nm_z, ag_b0, ag_b1, true_and, or_true, true_or, Int.reduceEq, ne_eq, not_false_eq_true, not_true_eq_false, ↓reduceIte, Int.reduceEq, ne_eq, not_false_eq_true, ↓reduceIte, ag_i122_19, ag_i122_20, ag_i122_21, ag_i122_22, ag_h_ck h1, hwp, ag_kk_v, ag_kk_n, Nat.reduceAdd, ag_i122_25, ag_i122_37, ag_i122_38, ag_i122_39, ag_i122_40, ag_i122_41, a5, ag_i122_44, ag_i122_45]
    · have q2' : ag_car gh np qu b (-1) = 1 := by omega
      rw [if_neg q2, if_neg q2]
      rw [q2'] at hwp
      obtain ⟨σ2, L2, ln2, g2, a1, a2, a3, a4, a5, a6, a7⟩ := ag_h_doIt h1 t ta tp hV hb hl q1
      obtain ⟨pI1, pI2, ⟨p0, p1, p3, p4, p2⟩, -⟩ := ag_pfm_I hV hb hl q1
      have p0 : (ag_pfm gb w n gp b).2.2.2 0 = gp 0 := p0
      have p1 : (ag_pfm gb w n gp b).2.2.2 1 = gp 1 := p1
      have p2 : ∀ a : Nat, a < m → gp 0 a = 1 → (ag_pfm gb w n gp b).2.2.2 2 a = gp 2 a := p2
      have hw2 : (ag_pfm gb w n gp b).2.1 ≤ 40 := pI1.1.2.2.2
      have hww : w ≤ (ag_pfm gb w n gp b).2.1 := ag_pfm_w gb w n gp b
      have sm2 : ag_sm (ag_pfm gb w n gp b).2.2.2 := pI2.1.2.1
      have no2 : ∀ i : Nat, i < m → (ag_pfm gb w n gp b).2.2.2 0 i = 5 → ∀ j : Nat, j < m → (ag_pfm gb w n gp b).2.2.2 0 j = 5 → (ag_pfm gb w n gp b).2.2.2 1 j ≠ i := by
        rw [p0, p1]
        exact no
      obtain ⟨σ3, g3, b1, b2, b3, b4, b5⟩ := ag_h_become a1 a3 hm sm2 no2 hb (s := 1) (y := (-1 : Int)) (by decide) (by omega) (by omega)
      have tor2 : ∀ a : Nat, a < m → ((ag_pfm gb w n gp b).2.2.2 0 a ≠ 5 → 0 ≤ (ag_pfm gb w n gp b).2.2.2 1 a ∧ (ag_pfm gb w n gp b).2.2.2 1 a < (ag_pfm gb w n gp b).2.1) ∧ ((ag_pfm gb w n gp b).2.2.2 0 a = 1 → 0 ≤ (ag_pfm gb w n gp b).2.2.2 2 a ∧ (ag_pfm gb w n gp b).2.2.2 2 a < (ag_pfm gb w n gp b).2.1) := fun a ha => ⟨(pI2.2.2 a ha).2.2.1, (pI2.2.2 a ha).2.2.2⟩
      obtain ⟨σ4, g4, v, c1, c2, c3, c4, c5⟩ := ag_s_loop (B := B) (L := L2) (ln := ln2) (dr := dr) (qu := qu) (mi := mi) (gb := (ag_pfm gb w n gp b).1) (n := (ag_pfm gb w n gp b).2.2.1) (gp := (ag_pfm gb w n gp b).2.2.2) hm hw2 hb tor2 no2 m 0 σ3 g3 (ag_set (ag_pfm gb w n gp b).2.2.2 b 1 (-1) m) _ none (Nat.zero_add _) b1 (ag_TC_g3 hw2 a2 b3) b2 (ag_set_sm sm2 (by omega) (by omega) (by omega) (by omega) (by omega) (by omega)) (ag_set_k (by decide) (by decide)) (ag_set_k (by decide) (by decide)) (ag_set_k (by decide) (by decide))
      refine ⟨σ4, L2, ln2, g4, c1, ag_TC_g3 hw2 (ag_TC_g3 hw2 a2 b3) c3, c2, ag_TP_g3 (ag_TP_g3 a4 b3) c3, ag_gd_trans a5 (ag_gd_trans (ag_gd_g3 b3) (ag_gd_g3 c3)), ag_hf_le (ag_hf_trans hf1 (ag_hf_trans a6 (ag_hf_trans b4 c4))) (by omega) (by omega), fun K => ?_⟩
      have hps : ∀ K, ag_cl9 119 [ag_R B, ag_I (b : Int)] σ1 K = K (Sum.inl (some (ag_I v))) σ4 := fun K => by
        rw [← c5 K]
        simp only [ag_e119, ag_i119_0, ag_i119_1, ag_i119_2, ag_h_ck h1, a7, ag_kk_v, ag_kk_n, Nat.reduceAdd, ag_i119_5, ag_i119_6, ag_i119_7, ag_i119_8, ag_i119_9, ag_h_ck a1, b5, ag_kk_v, ag_kk_n, Nat.reduceAdd, ag_i119_12_n, ag_i119_12_i, ag_i119_12_r, ag_i119_13, ag_i119_14, ag_h_g5 b1, ag_i119_17, ag_i119_18, ag_a_q b1 b2 hb (x := (b : Int)) rfl, ag_i119_19_n, ag_i119_19_i, ag_i119_19_r, ag_i119_20, ag_i119_21_n, ag_i119_21_i, ag_i119_21_r]
        rfl
      simp only [ag_e122, ag_i122_0, ag_i122_1, ag_i122_2, ag_h_ck h, d1, ag_kk_v, ag_kk_n, Nat.reduceAdd, ag_i122_5, ag_nm_1, ag_nm_z, ag_b0, ag_b1, true_and, or_true, true_or, Int.reduceEq, ne_eq, not_false_eq_true, not_true_eq_false, ↓reduceIte, Int.reduceEq, ne_eq, not_false_eq_true, ↓reduceIte, ag_i122_19, ag_i122_20, ag_i122_21, ag_i122_22, ag_h_ck h1, hwp, ag_kk_v, ag_kk_n, Nat.reduceAdd, ag_i122_25, ag_i122_28, ag_i122_29, ag_i122_30, hps, ag_i122_33, ag_i122_34, ag_i122_45]
end AGHP
