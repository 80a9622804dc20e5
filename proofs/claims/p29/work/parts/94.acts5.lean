/-! THE HOUSE: change, withdraw, speak, call. -/
variable {B : Nat}
theorem ag_ug_co (g : Nat → Nat → Int) {i j : Nat} (x y : Nat → Int) (h : i ≠ j) : ag_ug (ag_ug g i x) j y = ag_ug (ag_ug g j y) i x := by
  funext k
  unfold ag_ug
  by_cases c : k = i
  · rw [if_neg (show ¬ k = j by omega), if_pos c, if_pos c]
  · by_cases c2 : k = j
    · rw [if_pos c2, if_neg c, if_pos c2]
    · rw [if_neg c2, if_neg c, if_neg c, if_neg c2]
theorem ag_su_le {f f' : Nat → Int} : ∀ (k i : Nat), (∀ j, i ≤ j → j < i + k → f j ≤ f' j) → ag_su f k i ≤ ag_su f' k i := by
  intro k
  induction k with
  | zero => intro i _; exact Int.le_refl _
  | succ k ih =>
    intro i h
    have h1 := h i (Nat.le_refl _) (by omega)
    have h2 := ih (i + 1) (fun j a b => h j (by omega) (by omega))
    show f i + ag_su f k (i + 1) ≤ f' i + ag_su f' k (i + 1)
    omega
section AGAG
variable {σ : ag_S} {L ln : Nat → Nat} {g : Nat → Nat → Int} {dr qu mi : Int} {gb gp gh gq : Nat → Nat → Int} {w n m np nq k : Nat} {S : ag_T}
theorem ag_a_change (hM : ag_M B σ dr qu mi S m gh np gq nq) (hU : ag_U S m gh np qu mi gq nq k) (hd : dr ≤ 90000) :
    ∃ σ' dr' S' m', ag_M B σ' dr' qu mi S' m' gh np gq nq ∧ ag_U S' m' gh np qu mi gq nq (k + 1) ∧ S.2.1 ≤ S'.2.1 ∧ dr ≤ dr' ∧ dr' ≤ dr + 8 ∧ ag_af B σ σ' 1300 21000 ∧ ∀ K : ag_Rs → ag_S → Prop, ag_cl9 113 [ag_R B] σ K = K (Sum.inl (some (ag_I 1))) σ' := by
  obtain ⟨gb, w, n, gp⟩ := S
  obtain ⟨L, ln, g, T, mt, en, h, hX, hT, tc, ta, tv, tp, ts⟩ := hM
  obtain ⟨hV, hH, hQ, hv, hz, hp0, h9, hs3, hE⟩ := hU
  have hB : ag_IB gb w n := hV.1
  have hw40 : w ≤ 40 := hB.1.2.2.2
  have hm : m ≤ 20 := hV.2.1.1.2.2
  have hsp : ag_sm gp := hV.2.1.1.2.1
  have enm := fun k i => ag_nm_s hsp k i
  have tc : ag_TC gb w n ln g := tc
  have ta : ag_TA gp m ln g := ta
  by_cases z : m = 0
  · refine ⟨σ, dr, (gb, (w, (n, gp))), m, ⟨L, ln, g, T, mt, en, h, hX, hT, tc, ta, tv, tp, ts⟩, ag_U_k ⟨hV, hH, hQ, hv, hz, hp0, h9, hs3, hE⟩, Nat.le_refl _, by omega, by omega, ag_af_le (ag_af_hf (ag_hf_refl σ)) (by omega) (by omega), fun K => ?_⟩
    simp only [ag_e113, ag_i113_0, ag_i113_1, ag_h_g5 h, ag_i113_4, ag_h_a3 h, ta.1, ag_i113_5, ag_nm_nat (show m ≤ 1000000 by omega), ag_nm_z]
    rw [if_neg (show ¬ (m : Int) ≠ 0 by omega)]
    simp only [ag_i113_8, ag_i113_9, ag_b0, ag_b1, true_and, or_true, true_or, Int.reduceEq, ne_eq, not_false_eq_true, not_true_eq_false, ↓reduceIte]
  · obtain ⟨a, σ1, a1, h1, f1, o1, e1, d1⟩ := ag_w_draw h (by omega) (show 1 ≤ m by omega) (by omega)
    obtain ⟨x, σ2, x1, h2, f2, o2, e2, d2⟩ := ag_w_draw h1 (by omega) (show 1 ≤ 6 by decide) (by decide)
    have d2 : ∀ K : ag_Rs → ag_S → Prop, ag_cl9 96 [ag_R B, ag_I 6] σ1 K = K (Sum.inl (some (ag_I (x : Int)))) σ2 := d2
    have hX2 := ag_hf_CX f2 (ag_hf_CX f1 hX)
    have an : ag_nm (a : Int) = a := ag_nm_nat (by omega)
    have qa := fun K => ag_a_q h2 ta a1 (x := (a : Int)) rfl K
    -- whether it may
    have may : ∃ y : Int, ((y = 1 ∧ m < 20 ∧ gp 3 a = 0 ∧ 1 < gp 0 a ∧ gp 0 a < 5) ∨ (y = 0 ∧ ¬ (m < 20 ∧ gp 3 a = 0 ∧ 1 < gp 0 a ∧ gp 0 a < 5))) ∧ ∀ K : ag_Rs → ag_S → Prop, ag_cl9 113 [ag_R B] σ K = ag_wp 113 78 [some (ag_R B), some (ag_I (a : Int)), some (ag_I (x : Int)), some (ag_I y), none, none] [] σ2 K := by
      have go : ∀ K : ag_Rs → ag_S → Prop, ag_cl9 113 [ag_R B] σ K = if (20 : Int) ≤ m then ag_wp 113 76 [some (ag_R B), some (ag_I (a : Int)), some (ag_I (x : Int)), none, none, none] [] σ2 K else if gp 3 a ≠ 0 then ag_wp 113 76 [some (ag_R B), some (ag_I (a : Int)), some (ag_I (x : Int)), none, none, none] [] σ2 K else if gp 0 a ≤ 1 then ag_wp 113 76 [some (ag_R B), some (ag_I (a : Int)), some (ag_I (x : Int)), none, none, none] [] σ2 K else if 5 ≤ gp 0 a then ag_wp 113 76 [some (ag_R B), some (ag_I (a : Int)), some (ag_I (x : Int)), none, none, none] [] σ2 K else ag_wp 113 72 [some (ag_R B), some (ag_I (a : Int)), some (ag_I (x : Int)), none, none, none] [] σ2 K := fun K => by
        simp only [ag_e113, ag_i113_0, ag_i113_1, ag_h_g5 h, ag_i113_4, ag_h_a3 h, ta.1, ag_i113_5, ag_nm_nat (show m ≤ 1000000 by omega), ag_nm_z]
        rw [if_pos (show (m : Int) ≠ 0 by omega)]
        simp only [ag_i113_10, ag_i113_11, ag_i113_12, ag_h_g5 h, ag_i113_15, ag_h_a3 h, ta.1, ag_i113_16, ag_h_ck h, d1, ag_kk_v, ag_kk_n, Nat.reduceAdd, ag_i113_19_n, ag_i113_19_i, ag_i113_19_r, ag_i113_20, ag_i113_21, ag_i113_23, ag_h_ck h1, d2, ag_kk_v, ag_kk_n, Nat.reduceAdd, ag_i113_26_n, ag_i113_26_i, ag_i113_26_r, ag_i113_27, ag_i113_28, ag_h_g5 h2, ag_i113_31, ag_h_a3 h2, ta.1, ag_i113_32, ag_i113_34, ag_nmk_20, ag_nm_nat (show m ≤ 1000000 by omega), ag_i113_37, ag_i113_38, ag_h_g5 h2, ag_i113_41, ag_i113_42, qa, ag_i113_43, ag_i113_44, ag_a_i3 h2 ta a1, ag_i113_45, enm, ag_nm_z, ag_i113_48, ag_i113_49, ag_h_g5 h2, ag_i113_52, ag_i113_53, qa, ag_i113_54, ag_i113_55, ag_a_i0 h2 ta a1, ag_i113_56, ag_i113_57, enm, ag_nm_1, ag_i113_60, ag_i113_61, ag_h_g5 h2, ag_i113_64, ag_i113_65, qa, ag_i113_66, ag_i113_67, ag_a_i0 h2 ta a1, ag_i113_68, ag_i113_69, enm, ag_nmk_5]
      by_cases c1 : m < 20
      · by_cases c2 : gp 3 a = 0
        · by_cases c3 : gp 0 a ≤ 1
          · refine ⟨0, Or.inr ⟨rfl, by omega⟩, fun K => ?_⟩
            rw [go K, if_neg (show ¬ (20 : Int) ≤ m by omega), if_neg (show ¬ gp 3 a ≠ 0 by omega), if_pos c3]
            simp only [ag_i113_76, ag_i113_77_n, ag_i113_77_i, ag_i113_77_r]
          · by_cases c4 : 5 ≤ gp 0 a
            · refine ⟨0, Or.inr ⟨rfl, by omega⟩, fun K => ?_⟩
              rw [go K, if_neg (show ¬ (20 : Int) ≤ m by omega), if_neg (show ¬ gp 3 a ≠ 0 by omega), if_neg c3, if_pos c4]
              simp only [ag_i113_76, ag_i113_77_n, ag_i113_77_i, ag_i113_77_r]
            · refine ⟨1, Or.inl ⟨rfl, c1, c2, by omega, by omega⟩, fun K => ?_⟩
              rw [go K, if_neg (show ¬ (20 : Int) ≤ m by omega), if_neg (show ¬ gp 3 a ≠ 0 by omega), if_neg c3, if_neg c4]
              simp only [ag_i113_72, ag_i113_73, ag_i113_77_n, ag_i113_77_i, ag_i113_77_r]
        · refine ⟨0, Or.inr ⟨rfl, by omega⟩, fun K => ?_⟩
          rw [go K, if_neg (show ¬ (20 : Int) ≤ m by omega), if_pos (show gp 3 a ≠ 0 from c2)]
          simp only [ag_i113_76, ag_i113_77_n, ag_i113_77_i, ag_i113_77_r]
      · refine ⟨0, Or.inr ⟨rfl, by omega⟩, fun K => ?_⟩
        rw [go K, if_pos (show (20 : Int) ≤ m by omega)]
        simp only [ag_i113_76, ag_i113_77_n, ag_i113_77_i, ag_i113_77_r]
    obtain ⟨y, hy, go⟩ := may
    have hxt := ag_tx_nat (show x ≤ 999 by omega)
    have hka : ag_kno m (a : Int) := ⟨by rw [an]; omega, by rw [an]; omega⟩
    have rda : ∀ j, ag_rd 20 (gp j) (a : Int) = gp j a := fun j => ag_rd_nat (by decide) (by omega)
    rcases hy with ⟨y1, c1, c2, c3, c4⟩ | ⟨y1, c1⟩
    · have hla : ag_lad (gb, (w, (n, gp))) m (a : Int) := ⟨by rw [an]; omega, by rw [an]; omega, by show ag_rd 20 (gp 3) (a : Int) = 0; rw [rda]; exact c2⟩
      have hta : ag_txa (gb, (w, (n, gp))) (a : Int) := ⟨by show 2 ≤ ag_rd 20 (gp 0) (a : Int); rw [rda]; omega, by show ag_rd 20 (gp 0) (a : Int) ≤ 4; rw [rda]; omega⟩
      have hP := fun K => ag_F_change_3 hX2 hV hH hQ an hka hxt c1 hla hta K
      have hV' := ag_IV_adp (k := 5) (t := (a : Int)) (o := (x : Int)) hV c1 ⟨by decide, by decide⟩ ⟨by omega, by omega⟩ (fun _ => ⟨by omega, by omega, by rw [Int.toNat_natCast]; show 2 ≤ gp 0 a; omega, by rw [Int.toNat_natCast]; show gp 0 a ≤ 4; omega⟩) (fun z => absurd rfl z) (fun z => absurd z (by decide))
      have hX5 := ag_CX_P (g := ag_adp gp m 5 (a : Int) (x : Int)) (k := m + 1) hX2
      have hFr := ag_Fr_P (B := B) σ2 (g := ag_adp gp m 5 (a : Int) (x : Int)) (k := m + 1)
      have h5 := ag_HS_Fr h2 hFr (Nat.le_refl _)
      have f5 : ag_af B σ2 (ag_SP σ2 (B + 20) (ag_adp gp m 5 (a : Int) (x : Int)) (ag_vP (m + 1))) 0 0 := ag_af_Fr hFr rfl
      have hP : ∀ K : ag_Rs → ag_S → Prop, ag_cl9 63 [ag_R (B + 1), ag_I (a : Int), ag_I (x : Int)] σ2 K = K (Sum.inl (some (ag_I (m : Int)))) (ag_SP σ2 (B + 20) (ag_adp gp m 5 (a : Int) (x : Int)) (ag_vP (m + 1))) := hP
      generalize ag_SP σ2 (B + 20) (ag_adp gp m 5 (a : Int) (x : Int)) (ag_vP (m + 1)) = σ5 at hP hX5 h5 f5
      obtain ⟨σa, σb, σd, σe, Lb, lnb, gb', q3, q4, Le, lne, ge, b1, b2, b3, b4, b5, b6, b7, b8, b9, keep, fa⟩ := ag_w_add h5 ta tv hz c1 (kd := 5) (t := (a : Int)) (o := (x : Int)) (by omega) (by omega) (by omega)
      have hXe := ag_hf_CX fa hX5
      have le3 : lne 3 = m + 1 := b8.1
      refine ⟨σe, dr + 1 + 1, (gb, (w, (n, ag_adp gp m 5 (a : Int) (x : Int)))), m + 1, ⟨Le, lne, ge, T, mt, en, b7, hXe, hT, ag_TC_eq hw40 (fun r hr => keep r (by omega) (by omega) (by omega) (by omega)) tc, b8, b9, ag_TP_eq (fun r hr => keep r (by omega) (by omega) (by omega) (by omega)) tp, ag_TS_eq (fun r hr => keep r (by omega) (by omega) (by omega) (by omega)) ts⟩, ag_U_k ⟨hV', hH, hQ, hv, fun p b hp hb hb2 => hz p b hp (by omega) hb2, hp0, h9, hs3, ag_E_adp hV hE (fun _ => ⟨by omega, by omega, by rw [Int.toNat_natCast]; exact c2⟩)⟩, Nat.le_refl _, by omega, by omega, ag_af_le (ag_af_trans (ag_af_hf (ag_hf_trans f1 f2)) (ag_af_trans f5 (ag_af_hf fa))) (by omega) (by omega), fun K => ?_⟩
      have en1 : ag_nm (((m + 1 : Nat) : Int) - 1) = m := by rw [ag_nm_of (by omega) (by omega)]; omega
      have fld : ∀ K : ag_Rs → ag_S → Prop, ag_wp 113 89 [some (ag_R B), some (ag_I (a : Int)), some (ag_I (x : Int)), some (ag_I y), some (ag_I (m : Int)), none] [] σ5 K = ag_wp 113 119 [some (ag_R B), some (ag_I (a : Int)), some (ag_I (x : Int)), some (ag_I y), some (ag_I (m : Int)), some (ag_R (σ5.2.1 + 1))] [] (ag_n9 σ5 (Sum.inl (6, ag_row6 5 (a : Int) (x : Int))) 6) K := fun K => by
        simp only [ag_i113_89, ag_i113_91, show ag_nm 6 = 6 from by decide +kernel, show ((0 : Int) ≤ 6 ∧ (6 : Int) ≤ 1000000) = True from by simp, true_and, show (6 : Int).toNat = 6 from rfl, ag_n9_f, ag_i113_93, ag_i113_94, ag_i113_95, ag_i113_96]
        rw [ag_n9_is (l := 6) (k := 0) (x := 0) (by decide) (by decide) rfl]
        simp only [ag_i113_97, ag_i113_98, ag_i113_99, ag_i113_100]
        rw [ag_n9_is (l := 6) (k := 1) (x := 1) (by decide) (by decide) rfl]
        simp only [ag_i113_101, ag_i113_102, ag_i113_103, ag_i113_104]
        rw [ag_n9_is (l := 6) (k := 2) (x := 2) (by decide) (by decide) rfl]
        simp only [ag_i113_105, ag_i113_106, ag_i113_107, ag_i113_108]
        rw [ag_n9_is (l := 6) (k := 3) (x := 3) (by decide) (by decide) rfl]
        simp only [ag_i113_109, ag_i113_110, ag_i113_111, ag_i113_112]
        rw [ag_n9_is (l := 6) (k := 4) (x := 4) (by decide) (by decide) rfl]
        simp only [ag_i113_113, ag_i113_114, ag_i113_115, ag_i113_116]
        rw [ag_n9_is (l := 6) (k := 5) (x := 5) (by decide) (by decide) rfl]
        simp only [ag_i113_117_n, ag_i113_117_i, ag_i113_117_r]
        rfl
      rw [go K]
      simp only [ag_i113_78, ag_i113_79, ag_h_g0 h2, ag_i113_82, ag_i113_83, ag_i113_84, ag_X_o0 hX2, ag_X_o1 hX2, ag_X_o2 hX2, ag_X_o3 hX2, ag_X_o4 hX2, ag_X_oc hX2, ag_X_n0 hX2, ag_X_n1 hX2, ag_X_n2 hX2, ag_X_nc hX2, ag_X_t0 hX2, ag_X_t1 hX2, ag_X_t2 hX2, ag_X_tc hX2, ag_X_b0 hX2, ag_X_b1 hX2, ag_X_b2 hX2, ag_X_b3 hX2, ag_X_b4 hX2, ag_X_b5 hX2, ag_X_b6 hX2, ag_X_b7 hX2, ag_X_b8 hX2, ag_X_b9 hX2, ag_X_bc hX2, ag_X_p0 hX2, ag_X_p1 hX2, ag_X_p2 hX2, ag_X_p3 hX2, ag_X_p4 hX2, ag_X_p5 hX2, ag_X_p6 hX2, ag_X_pc hX2, ag_X_h0 hX2, ag_X_h1 hX2, ag_X_h2 hX2, ag_X_h3 hX2, ag_X_h4 hX2, ag_X_h5 hX2, ag_X_h6 hX2, ag_X_hc hX2, ag_X_q0 hX2, ag_X_q1 hX2, ag_X_q2 hX2, ag_X_qc hX2, ag_X_tb0 hX2, ag_X_tb1 hX2, ag_X_tb2 hX2, ag_X_tb3 hX2, ag_X_tb4 hX2, ag_X_tb5 hX2, ag_X_tb6 hX2, ag_X_tb7 hX2, ag_X_tb8 hX2, ag_X_tb9 hX2, ag_X_tbc hX2, ag_X_tp0 hX2, ag_X_tp1 hX2, ag_X_tp2 hX2, ag_X_tp3 hX2, ag_X_tp4 hX2, ag_X_tp5 hX2, ag_X_tp6 hX2, ag_X_tpc hX2, ag_X_ba0 hX2, ag_X_ba1 hX2, ag_X_ba2 hX2, ag_X_ba3 hX2, ag_X_ba4 hX2, ag_X_ba5 hX2, ag_X_ba6 hX2, ag_X_ba7 hX2, ag_X_pa0 hX2, ag_X_pa1 hX2, ag_X_pa2 hX2, ag_X_pa3 hX2, ag_X_pa4 hX2, ag_X_pa5 hX2, ag_X_ha0 hX2, ag_X_ha1 hX2, ag_X_ha2 hX2, ag_X_ha3 hX2, ag_X_qa0 hX2, ag_X_qa1 hX2, ag_X_tba0 hX2, ag_X_tba1 hX2, ag_X_tba2 hX2, ag_X_tba3 hX2, ag_X_tba4 hX2, ag_X_tba5 hX2, ag_X_tba6 hX2, ag_X_tba7 hX2, ag_X_tpa0 hX2, ag_X_tpa1 hX2, ag_X_tpa2 hX2, ag_X_tpa3 hX2, ag_X_tpa4 hX2, ag_X_tpa5 hX2, ag_X_ea hX2, hP, ag_kk_v, ag_kk_n, Nat.reduceAdd, ag_i113_87_n, ag_i113_87_i, ag_i113_87_r, fld]
      simp only [ag_i113_119, ag_i113_120, ag_i113_121, ag_h_g5 b2, ag_i113_124, ag_i113_126, b1, ag_kk_v, ag_kk_n, Nat.reduceAdd, ag_i113_129, b3, ag_i113_132, ag_i113_133, ag_i113_134, ag_h_g6 b4, ag_i113_137, ag_i113_138, ag_nmk_5, show ((0 : Int) ≤ 5 ∧ (5 : Int) ≤ 1000000) = True from by simp, true_and, show (5 : Int).toNat = 5 from rfl, ag_n9_f, ag_i113_140, b5, ag_kk_v, ag_kk_n, Nat.reduceAdd, ag_i113_143, b6, ag_i113_146, ag_i113_147, y1, ag_nm_1, ag_nm_z, Int.reduceEq, ↓reduceIte]
      simp only [ag_i113_150, ag_i113_152, ag_i113_153, ag_h_g5 b7, ag_i113_156, ag_h_a3 b7, le3, ag_i113_157, ag_i113_158, ag_i113_159, en1, ag_nm_nat (show m ≤ 1000000 by omega)]
      rw [if_neg (by simp)]
      simp only [ag_i113_162, ag_i113_163, ag_i113_167, ag_b0, ag_b1, true_and, or_true, true_or, Int.reduceEq, ne_eq, not_false_eq_true, not_true_eq_false, ↓reduceIte]
    · have hP := fun K => ag_F_change_2 hX2 hV hH hQ an hka hxt (by
        by_cases q1 : m < 20
        · by_cases q2 : gp 3 a = 0
          · refine Or.inr (Or.inr fun q => c1 ⟨q1, q2, ?_, ?_⟩)
            · have := q.1
              have this : 2 ≤ ag_rd 20 (gp 0) (a : Int) := this
              rw [rda 0] at this
              omega
            · have := q.2
              have this : ag_rd 20 (gp 0) (a : Int) ≤ 4 := this
              rw [rda 0] at this
              omega
          · refine Or.inr (Or.inl fun q => q2 ?_)
            have := q.2.2
            rw [← rda 3]
            exact this
        · exact Or.inl (by omega)) K
      refine ⟨ag_bp σ2, dr + 1 + 1, (gb, (w, (n, gp))), m, ⟨L, ln, g, T, mt, en, ag_HS_bp h2, ag_CX_bp hX2, hT, tc, ta, tv, tp, ts⟩, ag_U_k ⟨hV, hH, hQ, hv, hz, hp0, h9, hs3, hE⟩, Nat.le_refl _, by omega, by omega, ag_af_le (ag_af_trans (ag_af_hf (ag_hf_trans f1 f2)) (ag_af_bp σ2)) (by omega) (by omega), fun K => ?_⟩
      rw [go K]
      simp only [ag_i113_78, ag_i113_79, ag_h_g0 h2, ag_i113_82, ag_i113_83, ag_i113_84, ag_X_o0 hX2, ag_X_o1 hX2, ag_X_o2 hX2, ag_X_o3 hX2, ag_X_o4 hX2, ag_X_oc hX2, ag_X_n0 hX2, ag_X_n1 hX2, ag_X_n2 hX2, ag_X_nc hX2, ag_X_t0 hX2, ag_X_t1 hX2, ag_X_t2 hX2, ag_X_tc hX2, ag_X_b0 hX2, ag_X_b1 hX2, ag_X_b2 hX2, ag_X_b3 hX2, ag_X_b4 hX2, ag_X_b5 hX2, ag_X_b6 hX2, ag_X_b7 hX2, ag_X_b8 hX2, ag_X_b9 hX2, ag_X_bc hX2, ag_X_p0 hX2, ag_X_p1 hX2, ag_X_p2 hX2, ag_X_p3 hX2, ag_X_p4 hX2, ag_X_p5 hX2, ag_X_p6 hX2, ag_X_pc hX2, ag_X_h0 hX2, ag_X_h1 hX2, ag_X_h2 hX2, ag_X_h3 hX2, ag_X_h4 hX2, ag_X_h5 hX2, ag_X_h6 hX2, ag_X_hc hX2, ag_X_q0 hX2, ag_X_q1 hX2, ag_X_q2 hX2, ag_X_qc hX2, ag_X_tb0 hX2, ag_X_tb1 hX2, ag_X_tb2 hX2, ag_X_tb3 hX2, ag_X_tb4 hX2, ag_X_tb5 hX2, ag_X_tb6 hX2, ag_X_tb7 hX2, ag_X_tb8 hX2, ag_X_tb9 hX2, ag_X_tbc hX2, ag_X_tp0 hX2, ag_X_tp1 hX2, ag_X_tp2 hX2, ag_X_tp3 hX2, ag_X_tp4 hX2, ag_X_tp5 hX2, ag_X_tp6 hX2, ag_X_tpc hX2, ag_X_ba0 hX2, ag_X_ba1 hX2, ag_X_ba2 hX2, ag_X_ba3 hX2, ag_X_ba4 hX2, ag_X_ba5 hX2, ag_X_ba6 hX2, ag_X_ba7 hX2, ag_X_pa0 hX2, ag_X_pa1 hX2, ag_X_pa2 hX2, ag_X_pa3 hX2, ag_X_pa4 hX2, ag_X_pa5 hX2, ag_X_ha0 hX2, ag_X_ha1 hX2, ag_X_ha2 hX2, ag_X_ha3 hX2, ag_X_qa0 hX2, ag_X_qa1 hX2, ag_X_tba0 hX2, ag_X_tba1 hX2, ag_X_tba2 hX2, ag_X_tba3 hX2, ag_X_tba4 hX2, ag_X_tba5 hX2, ag_X_tba6 hX2, ag_X_tba7 hX2, ag_X_tpa0 hX2, ag_X_tpa1 hX2, ag_X_tpa2 hX2, ag_X_tpa3 hX2, ag_X_tpa4 hX2, ag_X_tpa5 hX2, ag_X_ea hX2, hP, ag_h113_2_n, ag_h113_2_i, ag_h113_2_r, ag_i113_170, ag_i113_171, y1, ag_nm_z, ne_eq, not_true_eq_false, ↓reduceIte, ag_i113_174, ag_i113_175, ag_i113_179, ag_b0, ag_b1, true_and, or_true, true_or, Int.reduceEq, ne_eq, not_false_eq_true, not_true_eq_false, ↓reduceIte]
theorem ag_a_withdraw (hM : ag_M B σ dr qu mi S m gh np gq nq) (hU : ag_U S m gh np qu mi gq nq k) (hd : dr ≤ 90000) :
    ∃ σ' dr' S', ag_M B σ' dr' qu mi S' m gh np gq nq ∧ ag_U S' m gh np qu mi gq nq (k + 1) ∧ S.2.1 ≤ S'.2.1 ∧ dr ≤ dr' ∧ dr' ≤ dr + 2 ∧ ag_af B σ σ' 1300 21000 ∧ ∀ K : ag_Rs → ag_S → Prop, ag_cl9 116 [ag_R B] σ K = K (Sum.inl (some (ag_I 1))) σ' := by
  obtain ⟨gb, w, n, gp⟩ := S
  obtain ⟨L, ln, g, T, mt, en, h, hX, hT, tc, ta, tv, tp, ts⟩ := hM
  obtain ⟨hV, hH, hQ, hv, hz, hp0, h9, hs3, hE⟩ := hU
  have hB : ag_IB gb w n := hV.1
  have hw40 : w ≤ 40 := hB.1.2.2.2
  have hm : m ≤ 20 := hV.2.1.1.2.2
  have hsp : ag_sm gp := hV.2.1.1.2.1
  have enm := fun k i => ag_nm_s hsp k i
  have tc : ag_TC gb w n ln g := tc
  have ta : ag_TA gp m ln g := ta
  by_cases z : m = 0
  · refine ⟨σ, dr, (gb, (w, (n, gp))), ⟨L, ln, g, T, mt, en, h, hX, hT, tc, ta, tv, tp, ts⟩, ag_U_k ⟨hV, hH, hQ, hv, hz, hp0, h9, hs3, hE⟩, Nat.le_refl _, by omega, by omega, ag_af_le (ag_af_hf (ag_hf_refl σ)) (by omega) (by omega), fun K => ?_⟩
    simp only [ag_e116, ag_i116_0, ag_i116_1, ag_h_g5 h, ag_i116_4, ag_h_a3 h, ta.1, ag_i116_5, ag_nm_nat (show m ≤ 1000000 by omega), ag_nm_z]
    rw [if_neg (show ¬ (m : Int) ≠ 0 by omega)]
    simp only [ag_i116_8, ag_i116_9, ag_b0, ag_b1, true_and, or_true, true_or, Int.reduceEq, ne_eq, not_false_eq_true, not_true_eq_false, ↓reduceIte]
  · obtain ⟨a, σ1, a1, h1, f1, o1, e1, d1⟩ := ag_w_draw h (by omega) (show 1 ≤ m by omega) (by omega)
    have hX1 := ag_hf_CX f1 hX
    have an : ag_nm (a : Int) = a := ag_nm_nat (by omega)
    have hka : ag_kno m (a : Int) := ⟨by rw [an]; omega, by rw [an]; omega⟩
    have go : ∀ K : ag_Rs → ag_S → Prop, ag_cl9 116 [ag_R B] σ K = if gp 3 a ≠ 0 then ag_wp 116 37 [some (ag_R B), some (ag_I (a : Int)), some (ag_I 0), none] [] σ1 K else ag_wp 116 37 [some (ag_R B), some (ag_I (a : Int)), some (ag_I 1), none] [] σ1 K := fun K => by
      simp only [ag_e116, ag_i116_0, ag_i116_1, ag_h_g5 h, ag_i116_4, ag_h_a3 h, ta.1, ag_i116_5, ag_nm_nat (show m ≤ 1000000 by omega), ag_nm_z]
      rw [if_pos (show (m : Int) ≠ 0 by omega)]
      simp only [ag_i116_10, ag_i116_11, ag_i116_12, ag_h_g5 h, ag_i116_15, ag_h_a3 h, ta.1, ag_i116_16, ag_h_ck h, d1, ag_kk_v, ag_kk_n, Nat.reduceAdd, ag_i116_19_n, ag_i116_19_i, ag_i116_19_r, ag_i116_20, ag_i116_21, ag_h_g5 h1, ag_i116_24, ag_i116_25, ag_a_q h1 ta a1 (x := (a : Int)) rfl, ag_i116_26, ag_i116_27, ag_a_i3 h1 ta a1, ag_i116_28, enm, ag_nm_z, ag_i116_31, ag_i116_32, ag_i116_35, ag_i116_36_n, ag_i116_36_i, ag_i116_36_r]
    by_cases c : gp 3 a = 0
    · have hP := fun K => ag_F_withdraw_3 hX1 hV hH hQ a1 c K
      have hV' := ag_IV_wdr hV a1
      have hX2 := ag_CX_P (g := ag_set gp (a : Int) 4 (-1) m) (k := m) hX1
      have hFr := ag_Fr_P (B := B) σ1 (g := ag_set gp (a : Int) 4 (-1) m) (k := m)
      have h2 := ag_HS_Fr h1 hFr (Nat.le_refl _)
      have f2 : ag_af B σ1 (ag_SP σ1 (B + 20) (ag_set gp (a : Int) 4 (-1) m) (ag_vP m)) 0 0 := ag_af_Fr hFr rfl
      have hP : ∀ K : ag_Rs → ag_S → Prop, ag_cl9 64 [ag_R (B + 1), ag_I (a : Int)] σ1 K = K (Sum.inl (some (ag_I ((ag_cnt (ag_set gp (a : Int) 4 (-1) m) m 3 : Int) - (ag_cnt gp m 3 : Int))))) (ag_SP σ1 (B + 20) (ag_set gp (a : Int) 4 (-1) m) (ag_vP m)) := hP
      generalize ag_SP σ1 (B + 20) (ag_set gp (a : Int) 4 (-1) m) (ag_vP m) = σ2 at hP hX2 h2 f2
      have no : ∀ i : Nat, i < m → gp 0 i = 5 → ∀ j : Nat, j < m → gp 0 j = 5 → gp 1 j ≠ i := ag_IP_no hV.2.1
      obtain ⟨σ3, g3, b1, b2, b3, b4, b5⟩ := ag_h_become h2 ta hm hsp no a1 (s := 4) (y := -1) (by decide) (by decide) (by decide)
      have hcn := ag_cnt_set (gp := gp) (b := a) (m := m) (s := 4) (y := -1) hm a1 (by omega)
      have hval : (ag_cnt (ag_set gp (a : Int) 4 (-1) m) m 3 : Int) - (ag_cnt gp m 3 : Int) = (((if (4 : Int) = 3 then 1 else 0) + ag_cch gp (ag_ui (gp 3) a 4) a m 0 : Nat) : Int) := by omega
      rw [hval] at hP
      have hX3 := ag_hf_CX b4 hX2
      have gd := ag_gd_g3 (ln := ln) b3
      refine ⟨σ3, dr + 1, (gb, (w, (n, ag_set gp (a : Int) 4 (-1) m))), ⟨L, ln, g3, T, mt, en, b1, hX3, hT, ag_TC_g3 hw40 tc b3, b2, ag_TV_eq (by omega) (fun r hr => gd r (by omega)) tv, ag_TP_g3 tp b3, ag_TS_eq (fun r hr => gd r (by omega)) ts⟩, ag_U_k ⟨hV', hH, hQ, hv, hz, hp0, h9, hs3, ag_E_wdr hV hE a1 c⟩, Nat.le_refl _, by omega, by omega, ag_af_le (ag_af_trans (ag_af_hf f1) (ag_af_trans f2 (ag_af_hf b4))) (by omega) (by omega), fun K => ?_⟩
      rw [go K, if_neg (show ¬ gp 3 a ≠ 0 by omega)]
      simp only [ag_i116_37, ag_i116_38, ag_h_g0 h1, ag_i116_41, ag_i116_42, ag_X_o0 hX1, ag_X_o1 hX1, ag_X_o2 hX1, ag_X_o3 hX1, ag_X_o4 hX1, ag_X_oc hX1, ag_X_n0 hX1, ag_X_n1 hX1, ag_X_n2 hX1, ag_X_nc hX1, ag_X_t0 hX1, ag_X_t1 hX1, ag_X_t2 hX1, ag_X_tc hX1, ag_X_b0 hX1, ag_X_b1 hX1, ag_X_b2 hX1, ag_X_b3 hX1, ag_X_b4 hX1, ag_X_b5 hX1, ag_X_b6 hX1, ag_X_b7 hX1, ag_X_b8 hX1, ag_X_b9 hX1, ag_X_bc hX1, ag_X_p0 hX1, ag_X_p1 hX1, ag_X_p2 hX1, ag_X_p3 hX1, ag_X_p4 hX1, ag_X_p5 hX1, ag_X_p6 hX1, ag_X_pc hX1, ag_X_h0 hX1, ag_X_h1 hX1, ag_X_h2 hX1, ag_X_h3 hX1, ag_X_h4 hX1, ag_X_h5 hX1, ag_X_h6 hX1, ag_X_hc hX1, ag_X_q0 hX1, ag_X_q1 hX1, ag_X_q2 hX1, ag_X_qc hX1, ag_X_tb0 hX1, ag_X_tb1 hX1, ag_X_tb2 hX1, ag_X_tb3 hX1, ag_X_tb4 hX1, ag_X_tb5 hX1, ag_X_tb6 hX1, ag_X_tb7 hX1, ag_X_tb8 hX1, ag_X_tb9 hX1, ag_X_tbc hX1, ag_X_tp0 hX1, ag_X_tp1 hX1, ag_X_tp2 hX1, ag_X_tp3 hX1, ag_X_tp4 hX1, ag_X_tp5 hX1, ag_X_tp6 hX1, ag_X_tpc hX1, ag_X_ba0 hX1, ag_X_ba1 hX1, ag_X_ba2 hX1, ag_X_ba3 hX1, ag_X_ba4 hX1, ag_X_ba5 hX1, ag_X_ba6 hX1, ag_X_ba7 hX1, ag_X_pa0 hX1, ag_X_pa1 hX1, ag_X_pa2 hX1, ag_X_pa3 hX1, ag_X_pa4 hX1, ag_X_pa5 hX1, ag_X_ha0 hX1, ag_X_ha1 hX1, ag_X_ha2 hX1, ag_X_ha3 hX1, ag_X_qa0 hX1, ag_X_qa1 hX1, ag_X_tba0 hX1, ag_X_tba1 hX1, ag_X_tba2 hX1, ag_X_tba3 hX1, ag_X_tba4 hX1, ag_X_tba5 hX1, ag_X_tba6 hX1, ag_X_tba7 hX1, ag_X_tpa0 hX1, ag_X_tpa1 hX1, ag_X_tpa2 hX1, ag_X_tpa3 hX1, ag_X_tpa4 hX1, ag_X_tpa5 hX1, ag_X_ea hX1, hP, ag_kk_v, ag_kk_n, Nat.reduceAdd, ag_i116_45_n, ag_i116_45_i, ag_i116_45_r, ag_i116_46, ag_i116_47, ag_nm_1, ag_nm_z, Int.reduceEq, ↓reduceIte, ag_i116_50, ag_i116_51, ag_i116_52, ag_i116_53, ag_i116_54, ag_i116_55, ag_h_ck h2, b5, ag_kk_v, ag_kk_n, Nat.reduceAdd, ag_i116_58]
      rw [if_neg (by simp)]
      simp only [ag_i116_61, ag_i116_62, ag_i116_66, ag_b0, ag_b1, true_and, or_true, true_or, Int.reduceEq, ne_eq, not_false_eq_true, not_true_eq_false, ↓reduceIte]
    · have hP := fun K => ag_F_withdraw_2 hX1 hV hH hQ an hka (fun q => c (by
        have := q.2.2
        rwa [show ag_rd 20 (((gb, (w, (n, gp))) : ag_T).2.2.2 3) (a : Int) = gp 3 a from ag_rd_nat (by decide) (by omega)] at this)) K
      refine ⟨ag_bp σ1, dr + 1, (gb, (w, (n, gp))), ⟨L, ln, g, T, mt, en, ag_HS_bp h1, ag_CX_bp hX1, hT, tc, ta, tv, tp, ts⟩, ag_U_k ⟨hV, hH, hQ, hv, hz, hp0, h9, hs3, hE⟩, Nat.le_refl _, by omega, by omega, ag_af_le (ag_af_trans (ag_af_hf f1) (ag_af_bp σ1)) (by omega) (by omega), fun K => ?_⟩
      rw [go K, if_pos (show gp 3 a ≠ 0 from c)]
      simp only [ag_i116_37, ag_i116_38, ag_h_g0 h1, ag_i116_41, ag_i116_42, ag_X_o0 hX1, ag_X_o1 hX1, ag_X_o2 hX1, ag_X_o3 hX1, ag_X_o4 hX1, ag_X_oc hX1, ag_X_n0 hX1, ag_X_n1 hX1, ag_X_n2 hX1, ag_X_nc hX1, ag_X_t0 hX1, ag_X_t1 hX1, ag_X_t2 hX1, ag_X_tc hX1, ag_X_b0 hX1, ag_X_b1 hX1, ag_X_b2 hX1, ag_X_b3 hX1, ag_X_b4 hX1, ag_X_b5 hX1, ag_X_b6 hX1, ag_X_b7 hX1, ag_X_b8 hX1, ag_X_b9 hX1, ag_X_bc hX1, ag_X_p0 hX1, ag_X_p1 hX1, ag_X_p2 hX1, ag_X_p3 hX1, ag_X_p4 hX1, ag_X_p5 hX1, ag_X_p6 hX1, ag_X_pc hX1, ag_X_h0 hX1, ag_X_h1 hX1, ag_X_h2 hX1, ag_X_h3 hX1, ag_X_h4 hX1, ag_X_h5 hX1, ag_X_h6 hX1, ag_X_hc hX1, ag_X_q0 hX1, ag_X_q1 hX1, ag_X_q2 hX1, ag_X_qc hX1, ag_X_tb0 hX1, ag_X_tb1 hX1, ag_X_tb2 hX1, ag_X_tb3 hX1, ag_X_tb4 hX1, ag_X_tb5 hX1, ag_X_tb6 hX1, ag_X_tb7 hX1, ag_X_tb8 hX1, ag_X_tb9 hX1, ag_X_tbc hX1, ag_X_tp0 hX1, ag_X_tp1 hX1, ag_X_tp2 hX1, ag_X_tp3 hX1, ag_X_tp4 hX1, ag_X_tp5 hX1, ag_X_tp6 hX1, ag_X_tpc hX1, ag_X_ba0 hX1, ag_X_ba1 hX1, ag_X_ba2 hX1, ag_X_ba3 hX1, ag_X_ba4 hX1, ag_X_ba5 hX1, ag_X_ba6 hX1, ag_X_ba7 hX1, ag_X_pa0 hX1, ag_X_pa1 hX1, ag_X_pa2 hX1, ag_X_pa3 hX1, ag_X_pa4 hX1, ag_X_pa5 hX1, ag_X_ha0 hX1, ag_X_ha1 hX1, ag_X_ha2 hX1, ag_X_ha3 hX1, ag_X_qa0 hX1, ag_X_qa1 hX1, ag_X_tba0 hX1, ag_X_tba1 hX1, ag_X_tba2 hX1, ag_X_tba3 hX1, ag_X_tba4 hX1, ag_X_tba5 hX1, ag_X_tba6 hX1, ag_X_tba7 hX1, ag_X_tpa0 hX1, ag_X_tpa1 hX1, ag_X_tpa2 hX1, ag_X_tpa3 hX1, ag_X_tpa4 hX1, ag_X_tpa5 hX1, ag_X_ea hX1, hP, ag_h116_2_n, ag_h116_2_i, ag_h116_2_r, ag_i116_68, ag_i116_69, ag_nm_z, ne_eq, not_true_eq_false, ↓reduceIte, ag_i116_72, ag_i116_73, ag_i116_77, ag_b0, ag_b1, true_and, or_true, true_or, Int.reduceEq, ne_eq, not_false_eq_true, not_true_eq_false, ↓reduceIte]
end AGAG
