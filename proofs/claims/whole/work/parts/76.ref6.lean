/-! THE REFERENCE: behind, doIt, passed, put. -/
theorem ag_ff_skip {p : Nat → Bool} : ∀ (d k i : Nat), (∀ j, i ≤ j → j < i + d → p j = false) → d ≤ k → ag_ff p k i = ag_ff p (k - d) (i + d) := by
  intro d
  induction d with
  | zero => intro k i _ _; rfl
  | succ d ih =>
    intro k i h hk
    obtain ⟨k, rfl⟩ : ∃ z, k = z + 1 := ⟨k - 1, by omega⟩
    rw [ag_ff, if_neg (by rw [h i (Nat.le_refl _) (by omega)]; decide), ih k (i + 1) (fun j a b => h j (by omega) (by omega)) (by omega), show k + 1 - (d + 1) = k - d by omega, show i + 1 + d = i + (d + 1) by omega]
/-- where the train of c stops -/
def ag_stp (gb : Nat → Nat → Int) (c : Int) : Nat → Bool := fun i => decide (ag_rd 40 (gb 2) (ag_rd 40 (gb 6) i) ≤ ag_rd 40 (gb 2) c ∧ ¬ (ag_rd 40 (gb 4) (ag_rd 40 (gb 6) i) = c ∧ ag_rd 40 (gb 1) (ag_rd 40 (gb 6) i) = ag_rd 40 (gb 1) c))
section AGR6
variable {σ : ag_S} {a N : Nat} {ρ : Nat → Nat} {gb gp gh : Nat → Nat → Int} {r t sg : Nat → Int} {th qu mi : Int} {w n m nq np : Nat}
theorem ag_R_bh_loop (h : ag_mi a ρ N) (hV : ag_IV (gb, (w, (n, gp))) m) (hr : ∀ i, i < n → r i = gb 6 i) {c : Int} {b p : Nat} (hp : p < n) (p3 : ag_plc gb c = p) (p6 : gb 6 p = c) (p2 : ag_rd 40 (gb 2) c = ag_hg gb p) (p1 : ag_rd 40 (gb 1) c = ag_pg gb p) (K : ag_Rs → ag_S → Prop) : ∀ (k i : Nat), n - i ≤ k → i ≤ n → (i < n → ag_hg gb i ≤ ag_hg gb p) →
    ag_wp 138 17 [some (ag_R a), some (ag_I b), some (ag_I c), some (ag_I i)] [] (ag_SM σ a ρ (ag_mg gb r gp t sg gh) (ag_mv th w n m nq np qu mi)) K = ag_wp 138 109 [some (ag_R a), some (ag_I b), some (ag_I c), some (ag_I (ag_ff (ag_stp gb c) (n - i) i : Nat))] [] (ag_SM σ a ρ (ag_mg gb r gp t sg gh) (ag_mv th w n m nq np qu mi)) K := by
  have hB : ag_IB gb w n := hV.1
  have hw := hB.1.2.2
  have hsb := hB.1.2.1
  have hsp : ag_sm gp := hV.2.1.1.2.1
  have hm : m ≤ 20 := hV.2.1.1.2.2
  have b1 := hB.2.1 p hp
  have c0 : 0 ≤ c := by rw [← p6]; exact b1.1
  have ic : ag_inb 40 c := by rw [← p6]; exact ag_inb_i b1.1 (by omega) (by decide)
  have hcn : ag_nm c = c := by rw [← p6]; exact ag_nm_of (by omega) (by omega)
  intro k
  induction k with
  | zero =>
    intro i hi hin _
    have e : i = n := by omega
    subst e
    rw [ag_i138_17]
    simp only [ag_i138_18, ag_i138_19, ag_i138_22, ag_mv_0, ag_mv_u0, ag_mv_1, ag_mv_u1, ag_mv_2, ag_mv_u2, ag_mv_3, ag_mv_u3, ag_mv_4, ag_mv_u4, ag_mv_5, ag_mv_u5, ag_mv_6, ag_mv_u6, ag_mv_7, ag_mv_u7, ag_mg_0, ag_mg_u0, ag_mg_1, ag_mg_u1, ag_mg_2, ag_mg_u2, ag_mg_3, ag_mg_u3, ag_mg_4, ag_mg_u4, ag_mg_5, ag_mg_u5, ag_mg_6, ag_mg_u6, ag_mg_7, ag_mg_u7, ag_mg_8, ag_mg_u8, ag_mg_9, ag_mg_u9, ag_mg_10, ag_mg_u10, ag_mg_11, ag_mg_u11, ag_mg_12, ag_mg_u12, ag_mg_13, ag_mg_u13, ag_mg_14, ag_mg_u14, ag_mg_15, ag_mg_u15, ag_mg_16, ag_mg_u16, ag_M_g0, ag_M_g1, ag_M_g2, ag_M_g3, ag_M_g4, ag_M_g5, ag_M_g6, ag_M_g7, ag_M_g8, ag_M_g9, ag_M_g10, ag_M_g11, ag_M_g12, ag_M_g13, ag_M_g14, ag_M_g15, ag_M_g16, ag_M_g17, ag_M_g18, ag_M_g19, ag_M_g20, ag_M_g21, ag_M_g22, ag_M_g23, ag_M_g24, ag_M_ck, ag_SM_2, ag_M_p0 h, ag_M_p1 h, ag_M_p2 h, ag_M_p3 h, ag_M_p16 h, ag_M_p18 h, ag_M_p19 h, ag_M_p24 h, ag_M_ia0 h, ag_M_is0 h, ag_M_al0 h, ag_M_ia1 h, ag_M_is1 h, ag_M_al1 h, ag_M_ia2 h, ag_M_is2 h, ag_M_al2 h, ag_M_ia3 h, ag_M_is3 h, ag_M_al3 h, ag_M_ia4 h, ag_M_is4 h, ag_M_al4 h, ag_M_ia5 h, ag_M_is5 h, ag_M_al5 h, ag_M_ia6 h, ag_M_is6 h, ag_M_al6 h, ag_M_ia7 h, ag_M_is7 h, ag_M_al7 h, ag_M_ia8 h, ag_M_is8 h, ag_M_al8 h, ag_M_ia9 h, ag_M_is9 h, ag_M_al9 h, ag_M_ia10 h, ag_M_is10 h, ag_M_al10 h, ag_M_ia11 h, ag_M_is11 h, ag_M_al11 h, ag_M_ia12 h, ag_M_is12 h, ag_M_al12 h, ag_M_ia13 h, ag_M_is13 h, ag_M_al13 h, ag_M_ia14 h, ag_M_is14 h, ag_M_al14 h, ag_M_ia15 h, ag_M_is15 h, ag_M_al15 h, ag_M_ia16 h, ag_M_is16 h, ag_M_al16 h, ag_kk_v, ag_kk_n, Nat.reduceAdd, ag_b0, ag_b1, true_and, or_true, true_or, Int.reduceEq, ne_eq, not_false_eq_true, not_true_eq_false, ↓reduceIte, ag_nm_nat (show i ≤ 1000000 by omega)]
    rw [if_pos (Int.le_refl _), Nat.sub_self, ag_ff]
  | succ k ih =>
    intro i hi hin hhi
    by_cases e : i = n
    · subst e
      rw [ag_i138_17]
      simp only [ag_i138_18, ag_i138_19, ag_i138_22, ag_mv_0, ag_mv_u0, ag_mv_1, ag_mv_u1, ag_mv_2, ag_mv_u2, ag_mv_3, ag_mv_u3, ag_mv_4, ag_mv_u4, ag_mv_5, ag_mv_u5, ag_mv_6, ag_mv_u6, ag_mv_7, ag_mv_u7, ag_mg_0, ag_mg_u0, ag_mg_1, ag_mg_u1, ag_mg_2, ag_mg_u2, ag_mg_3, ag_mg_u3, ag_mg_4, ag_mg_u4, ag_mg_5, ag_mg_u5, ag_mg_6, ag_mg_u6, ag_mg_7, ag_mg_u7, ag_mg_8, ag_mg_u8, ag_mg_9, ag_mg_u9, ag_mg_10, ag_mg_u10, ag_mg_11, ag_mg_u11, ag_mg_12, ag_mg_u12, ag_mg_13, ag_mg_u13, ag_mg_14, ag_mg_u14, ag_mg_15, ag_mg_u15, ag_mg_16, ag_mg_u16, ag_M_g0, ag_M_g1, ag_M_g2, ag_M_g3, ag_M_g4, ag_M_g5, ag_M_g6, ag_M_g7, ag_M_g8, ag_M_g9, ag_M_g10, ag_M_g11, ag_M_g12, ag_M_g13, ag_M_g14, ag_M_g15, ag_M_g16, ag_M_g17, ag_M_g18, ag_M_g19, ag_M_g20, ag_M_g21, ag_M_g22, ag_M_g23, ag_M_g24, ag_M_ck, ag_SM_2, ag_M_p0 h, ag_M_p1 h, ag_M_p2 h, ag_M_p3 h, ag_M_p16 h, ag_M_p18 h, ag_M_p19 h, ag_M_p24 h, ag_M_ia0 h, ag_M_is0 h, ag_M_al0 h, ag_M_ia1 h, ag_M_is1 h, ag_M_al1 h, ag_M_ia2 h, ag_M_is2 h, ag_M_al2 h, ag_M_ia3 h, ag_M_is3 h, ag_M_al3 h, ag_M_ia4 h, ag_M_is4 h, ag_M_al4 h, ag_M_ia5 h, ag_M_is5 h, ag_M_al5 h, ag_M_ia6 h, ag_M_is6 h, ag_M_al6 h, ag_M_ia7 h, ag_M_is7 h, ag_M_al7 h, ag_M_ia8 h, ag_M_is8 h, ag_M_al8 h, ag_M_ia9 h, ag_M_is9 h, ag_M_al9 h, ag_M_ia10 h, ag_M_is10 h, ag_M_al10 h, ag_M_ia11 h, ag_M_is11 h, ag_M_al11 h, ag_M_ia12 h, ag_M_is12 h, ag_M_al12 h, ag_M_ia13 h, ag_M_is13 h, ag_M_al13 h, ag_M_ia14 h, ag_M_is14 h, ag_M_al14 h, ag_M_ia15 h, ag_M_is15 h, ag_M_al15 h, ag_M_ia16 h, ag_M_is16 h, ag_M_al16 h, ag_kk_v, ag_kk_n, Nat.reduceAdd, ag_b0, ag_b1, true_and, or_true, true_or, Int.reduceEq, ne_eq, not_false_eq_true, not_true_eq_false, ↓reduceIte, ag_nm_nat (show i ≤ 1000000 by omega)]
      rw [if_pos (Int.le_refl _), Nat.sub_self, ag_ff]
    · have hlt : i < n := by omega
      have hh := hhi hlt
      have b2 := hB.2.1 i hlt
      have ii : ag_inb 40 (i : Int) := ag_inb_nat (by omega) (by decide)
      have ir : ag_inb 40 (gb 6 i) := ag_inb_i b2.1 (by omega) (by decide)
      have e1 : ag_rd 40 (gb 1) (gb 6 i) = ag_pg gb i := ag_rd_i (by decide) b2.1 (by omega)
      have e3 : ag_rd 40 (gb 3) (gb 6 i) = gb 3 (gb 6 i).toNat := ag_rd_i (by decide) b2.1 (by omega)
      have hI4 := hV.2.1.2.1 (gb 6 i).toNat (by dsimp only; omega)
      dsimp only at hI4
      obtain ⟨j1, j2, j3⟩ := hI4
      have g3n : ag_nm (gb 3 (gb 6 i).toNat) = gb 3 (gb 6 i).toNat := ag_nm_g hsb _ _
      have gpn : ag_nm (ag_pg gb i) = ag_pg gb i := ag_nm_g hsb _ _
      have gpp : ag_nm (ag_pg gb p) = ag_pg gb p := ag_nm_g hsb _ _
      have es : ag_stp gb c i = decide (ag_hg gb i ≤ ag_hg gb p ∧ ¬ (gb 4 (gb 6 i).toNat = c ∧ ag_pg gb i = ag_pg gb p)) := by
        unfold ag_stp
        rw [ag_IB_rd hB 2 hlt, ag_IB_rd hB 4 hlt, ag_IB_rd hB 1 hlt, p2, p1]
        rfl
      have hff : ag_ff (ag_stp gb c) (n - i) i = if ag_stp gb c i = true then i else ag_ff (ag_stp gb c) (n - i - 1) (i + 1) := by
        obtain ⟨z, hz⟩ : ∃ z, n - i = z + 1 := ⟨n - i - 1, by omega⟩
        rw [hz, ag_ff]
        rfl
      have n3 : ag_nm 3 = 3 := ag_nm_3
      rw [ag_i138_17]
      by_cases q1 : ag_pg gb i = ag_pg gb p
      · by_cases q2 : gb 3 (gb 6 i).toNat = -1
        · have hst : ag_stp gb c i = true := by
            rw [es, j3, if_neg (by omega)]
            exact decide_eq_true ⟨hh, fun z => by omega⟩
          rw [hff, if_pos hst]
          simp only [ag_i138_18, ag_i138_19, ag_i138_22, ag_i138_25, ag_i138_26, ag_i138_29, ag_i138_30, ag_i138_33, ag_i138_34, ag_i138_35, ag_i138_36, ag_i138_37, ag_i138_40, ag_i138_41, ag_i138_42, ag_i138_45, ag_i138_46, ag_i138_49, ag_i138_50, ag_i138_53, ag_i138_54, ag_i138_55, ag_i138_56, ag_i138_57, ag_mv_0, ag_mv_u0, ag_mv_1, ag_mv_u1, ag_mv_2, ag_mv_u2, ag_mv_3, ag_mv_u3, ag_mv_4, ag_mv_u4, ag_mv_5, ag_mv_u5, ag_mv_6, ag_mv_u6, ag_mv_7, ag_mv_u7, ag_mg_0, ag_mg_u0, ag_mg_1, ag_mg_u1, ag_mg_2, ag_mg_u2, ag_mg_3, ag_mg_u3, ag_mg_4, ag_mg_u4, ag_mg_5, ag_mg_u5, ag_mg_6, ag_mg_u6, ag_mg_7, ag_mg_u7, ag_mg_8, ag_mg_u8, ag_mg_9, ag_mg_u9, ag_mg_10, ag_mg_u10, ag_mg_11, ag_mg_u11, ag_mg_12, ag_mg_u12, ag_mg_13, ag_mg_u13, ag_mg_14, ag_mg_u14, ag_mg_15, ag_mg_u15, ag_mg_16, ag_mg_u16, ag_M_g0, ag_M_g1, ag_M_g2, ag_M_g3, ag_M_g4, ag_M_g5, ag_M_g6, ag_M_g7, ag_M_g8, ag_M_g9, ag_M_g10, ag_M_g11, ag_M_g12, ag_M_g13, ag_M_g14, ag_M_g15, ag_M_g16, ag_M_g17, ag_M_g18, ag_M_g19, ag_M_g20, ag_M_g21, ag_M_g22, ag_M_g23, ag_M_g24, ag_M_ck, ag_SM_2, ag_M_p0 h, ag_M_p1 h, ag_M_p2 h, ag_M_p3 h, ag_M_p16 h, ag_M_p18 h, ag_M_p19 h, ag_M_p24 h, ag_M_ia0 h, ag_M_is0 h, ag_M_al0 h, ag_M_ia1 h, ag_M_is1 h, ag_M_al1 h, ag_M_ia2 h, ag_M_is2 h, ag_M_al2 h, ag_M_ia3 h, ag_M_is3 h, ag_M_al3 h, ag_M_ia4 h, ag_M_is4 h, ag_M_al4 h, ag_M_ia5 h, ag_M_is5 h, ag_M_al5 h, ag_M_ia6 h, ag_M_is6 h, ag_M_al6 h, ag_M_ia7 h, ag_M_is7 h, ag_M_al7 h, ag_M_ia8 h, ag_M_is8 h, ag_M_al8 h, ag_M_ia9 h, ag_M_is9 h, ag_M_al9 h, ag_M_ia10 h, ag_M_is10 h, ag_M_al10 h, ag_M_ia11 h, ag_M_is11 h, ag_M_al11 h, ag_M_ia12 h, ag_M_is12 h, ag_M_al12 h, ag_M_ia13 h, ag_M_is13 h, ag_M_al13 h, ag_M_ia14 h, ag_M_is14 h, ag_M_al14 h, ag_M_ia15 h, ag_M_is15 h, ag_M_al15 h, ag_M_ia16 h, ag_M_is16 h, ag_M_al16 h, ag_kk_v, ag_kk_n, Nat.reduceAdd, ag_b0, ag_b1, true_and, or_true, true_or, Int.reduceEq, ne_eq, not_false_eq_true, not_true_eq_false, ↓reduceIte, ag_nmk_2, ag_nmk_3, ag_nmk_4, ag_nmk_5, ag_nmk_7, ag_nmk_11, ag_nmk_12, ag_nmk_20, ag_nmk_99, ag_nmk_100, ag_nmk_300, ag_nmk_999, ag_nmk_9999, ag_nm_1, ag_nm_z, ag_nm_m, ag_nm_nat (show i ≤ 1000000 by omega), ag_nm_nat (show n ≤ 1000000 by omega), ii, ag_rd_nat (show 40 ≤ 1000000 by decide) (show i < 40 by omega), hr i hlt, ir, e1, e3, ic, p1, gpn, gpp, q1, q2]
          rw [if_neg (show ¬ (n : Int) ≤ i by omega)]
        · have iz : ag_inb 20 (gb 3 (gb 6 i).toNat) := ag_inb_i (by omega) (by omega) (by decide)
          have f0 : ag_rd 20 (gp 0) (gb 3 (gb 6 i).toNat) = gp 0 (gb 3 (gb 6 i).toNat).toNat := ag_rd_i (by decide) (by omega) (by omega)
          have f1 : ag_rd 20 (gp 1) (gb 3 (gb 6 i).toNat) = gp 1 (gb 3 (gb 6 i).toNat).toNat := ag_rd_i (by decide) (by omega) (by omega)
          by_cases q3 : gp 0 (gb 3 (gb 6 i).toNat).toNat = 3
          · rw [if_pos ⟨by omega, q3⟩] at j3
            by_cases q4 : gp 1 (gb 3 (gb 6 i).toNat).toNat = c
            · have hst : ag_stp gb c i = false := by
                rw [es, j3]
                exact decide_eq_false (fun z => z.2 ⟨q4, q1⟩)
              have hb5 : gb 5 (gb 6 i).toNat = i := b2.2.2
              have u3 : ag_plc gb (gb 6 i) = i := by
                unfold ag_plc
                rw [ag_rd_i (by decide) b2.1 (by omega), hb5, Int.toNat_natCast]
              have u2 : ag_rd 40 (gb 2) (gb 6 i) = ag_hg gb i := ag_rd_i (by decide) b2.1 (by omega)
              have hEo := fun K => ag_R_eo (σ := σ) (gp := gp) (gh := gh) (t := t) (sg := sg) (th := th) (qu := qu) (mi := mi) (m := m) (nq := nq) (np := np) h hB hr hlt u3 u2 K
              obtain ⟨v1, v2, v3, v4⟩ := ag_IB_blk hB hlt u3 u2
              have hpar := ag_IB_par hB hlt hp q1
              have hnx := ih (ag_edd gb n (gb 6 i)) (by omega) v2 (fun z => by have := v4 z; omega)
              have hsk := ag_ff_skip (p := ag_stp gb c) (ag_edd gb n (gb 6 i) - i) (n - i) i (fun j a1 a2 => by
                by_cases ji : j = i
                · rw [ji]; exact hst
                · have := v3 j (by omega) (by omega)
                  unfold ag_stp
                  rw [ag_IB_rd hB 2 (by omega), p2]
                  refine decide_eq_false (fun z => ?_)
                  have z1 : ag_hg gb j ≤ ag_hg gb p := z.1
                  omega) (by omega)
              rw [hsk, show n - i - (ag_edd gb n (gb 6 i) - i) = n - ag_edd gb n (gb 6 i) by omega, show i + (ag_edd gb n (gb 6 i) - i) = ag_edd gb n (gb 6 i) by omega, ← hnx]
              simp only [ag_i138_18, ag_i138_19, ag_i138_22, ag_i138_25, ag_i138_26, ag_i138_29, ag_i138_30, ag_i138_33, ag_i138_34, ag_i138_35, ag_i138_36, ag_i138_37, ag_i138_40, ag_i138_41, ag_i138_42, ag_i138_45, ag_i138_46, ag_i138_49, ag_i138_50, ag_i138_53, ag_i138_54, ag_i138_55, ag_i138_56, ag_i138_57, ag_i138_60, ag_i138_61, ag_i138_64, ag_i138_65, ag_i138_68, ag_i138_69, ag_i138_72, ag_i138_73, ag_i138_74, ag_i138_75, ag_i138_76, ag_i138_77, ag_i138_80, ag_i138_81, ag_i138_84, ag_i138_85, ag_i138_88, ag_i138_89, ag_i138_92, ag_i138_93, ag_i138_94, ag_i138_95, ag_i138_96, ag_i138_97, ag_i138_100, ag_i138_101, ag_i138_102, ag_i138_105_n, ag_i138_105_i, ag_i138_105_r, ag_i138_106, ag_mv_0, ag_mv_u0, ag_mv_1, ag_mv_u1, ag_mv_2, ag_mv_u2, ag_mv_3, ag_mv_u3, ag_mv_4, ag_mv_u4, ag_mv_5, ag_mv_u5, ag_mv_6, ag_mv_u6, ag_mv_7, ag_mv_u7, ag_mg_0, ag_mg_u0, ag_mg_1, ag_mg_u1, ag_mg_2, ag_mg_u2, ag_mg_3, ag_mg_u3, ag_mg_4, ag_mg_u4, ag_mg_5, ag_mg_u5, ag_mg_6, ag_mg_u6, ag_mg_7, ag_mg_u7, ag_mg_8, ag_mg_u8, ag_mg_9, ag_mg_u9, ag_mg_10, ag_mg_u10, ag_mg_11, ag_mg_u11, ag_mg_12, ag_mg_u12, ag_mg_13, ag_mg_u13, ag_mg_14, ag_mg_u14, ag_mg_15, ag_mg_u15, ag_mg_16, ag_mg_u16, ag_M_g0, ag_M_g1, ag_M_g2, ag_M_g3, ag_M_g4, ag_M_g5, ag_M_g6, ag_M_g7, ag_M_g8, ag_M_g9, ag_M_g10, ag_M_g11, ag_M_g12, ag_M_g13, ag_M_g14, ag_M_g15, ag_M_g16, ag_M_g17, ag_M_g18, ag_M_g19, ag_M_g20, ag_M_g21, ag_M_g22, ag_M_g23, ag_M_g24, ag_M_ck, ag_SM_2, ag_M_p0 h, ag_M_p1 h, ag_M_p2 h, ag_M_p3 h, ag_M_p16 h, ag_M_p18 h, ag_M_p19 h, ag_M_p24 h, ag_M_ia0 h, ag_M_is0 h, ag_M_al0 h, ag_M_ia1 h, ag_M_is1 h, ag_M_al1 h, ag_M_ia2 h, ag_M_is2 h, ag_M_al2 h, ag_M_ia3 h, ag_M_is3 h, ag_M_al3 h, ag_M_ia4 h, ag_M_is4 h, ag_M_al4 h, ag_M_ia5 h, ag_M_is5 h, ag_M_al5 h, ag_M_ia6 h, ag_M_is6 h, ag_M_al6 h, ag_M_ia7 h, ag_M_is7 h, ag_M_al7 h, ag_M_ia8 h, ag_M_is8 h, ag_M_al8 h, ag_M_ia9 h, ag_M_is9 h, ag_M_al9 h, ag_M_ia10 h, ag_M_is10 h, ag_M_al10 h, ag_M_ia11 h, ag_M_is11 h, ag_M_al11 h, ag_M_ia12 h, ag_M_is12 h, ag_M_al12 h, ag_M_ia13 h, ag_M_is13 h, ag_M_al13 h, ag_M_ia14 h, ag_M_is14 h, ag_M_al14 h, ag_M_ia15 h, ag_M_is15 h, ag_M_al15 h, ag_M_ia16 h, ag_M_is16 h, ag_M_al16 h, ag_kk_v, ag_kk_n, Nat.reduceAdd, ag_b0, ag_b1, true_and, or_true, true_or, Int.reduceEq, ne_eq, not_false_eq_true, not_true_eq_false, ↓reduceIte, ag_nmk_2, ag_nmk_3, ag_nmk_4, ag_nmk_5, ag_nmk_7, ag_nmk_11, ag_nmk_12, ag_nmk_20, ag_nmk_99, ag_nmk_100, ag_nmk_300, ag_nmk_999, ag_nmk_9999, ag_nm_1, ag_nm_z, ag_nm_m, ag_nm_nat (show i ≤ 1000000 by omega), ag_nm_nat (show n ≤ 1000000 by omega), ii, ag_rd_nat (show 40 ≤ 1000000 by decide) (show i < 40 by omega), hr i hlt, ir, e1, e3, ic, p1, gpn, gpp, q1, g3n, q2, iz, f0, f1, q3, q4, n3, hcn, hEo]
              rw [if_neg (show ¬ (n : Int) ≤ i by omega)]
            · have hst : ag_stp gb c i = true := by
                rw [es, j3]
                exact decide_eq_true ⟨hh, fun z => q4 z.1⟩
              rw [hff, if_pos hst]
              simp only [ag_i138_18, ag_i138_19, ag_i138_22, ag_i138_25, ag_i138_26, ag_i138_29, ag_i138_30, ag_i138_33, ag_i138_34, ag_i138_35, ag_i138_36, ag_i138_37, ag_i138_40, ag_i138_41, ag_i138_42, ag_i138_45, ag_i138_46, ag_i138_49, ag_i138_50, ag_i138_53, ag_i138_54, ag_i138_55, ag_i138_56, ag_i138_57, ag_i138_60, ag_i138_61, ag_i138_64, ag_i138_65, ag_i138_68, ag_i138_69, ag_i138_72, ag_i138_73, ag_i138_74, ag_i138_75, ag_i138_76, ag_i138_77, ag_i138_80, ag_i138_81, ag_i138_84, ag_i138_85, ag_i138_88, ag_i138_89, ag_i138_92, ag_i138_93, ag_i138_94, ag_i138_95, ag_i138_96, ag_i138_97, ag_mv_0, ag_mv_u0, ag_mv_1, ag_mv_u1, ag_mv_2, ag_mv_u2, ag_mv_3, ag_mv_u3, ag_mv_4, ag_mv_u4, ag_mv_5, ag_mv_u5, ag_mv_6, ag_mv_u6, ag_mv_7, ag_mv_u7, ag_mg_0, ag_mg_u0, ag_mg_1, ag_mg_u1, ag_mg_2, ag_mg_u2, ag_mg_3, ag_mg_u3, ag_mg_4, ag_mg_u4, ag_mg_5, ag_mg_u5, ag_mg_6, ag_mg_u6, ag_mg_7, ag_mg_u7, ag_mg_8, ag_mg_u8, ag_mg_9, ag_mg_u9, ag_mg_10, ag_mg_u10, ag_mg_11, ag_mg_u11, ag_mg_12, ag_mg_u12, ag_mg_13, ag_mg_u13, ag_mg_14, ag_mg_u14, ag_mg_15, ag_mg_u15, ag_mg_16, ag_mg_u16, ag_M_g0, ag_M_g1, ag_M_g2, ag_M_g3, ag_M_g4, ag_M_g5, ag_M_g6, ag_M_g7, ag_M_g8, ag_M_g9, ag_M_g10, ag_M_g11, ag_M_g12, ag_M_g13, ag_M_g14, ag_M_g15, ag_M_g16, ag_M_g17, ag_M_g18, ag_M_g19, ag_M_g20, ag_M_g21, ag_M_g22, ag_M_g23, ag_M_g24, ag_M_ck, ag_SM_2, ag_M_p0 h, ag_M_p1 h, ag_M_p2 h, ag_M_p3 h, ag_M_p16 h, ag_M_p18 h, ag_M_p19 h, ag_M_p24 h, ag_M_ia0 h, ag_M_is0 h, ag_M_al0 h, ag_M_ia1 h, ag_M_is1 h, ag_M_al1 h, ag_M_ia2 h, ag_M_is2 h, ag_M_al2 h, ag_M_ia3 h, ag_M_is3 h, ag_M_al3 h, ag_M_ia4 h, ag_M_is4 h, ag_M_al4 h, ag_M_ia5 h, ag_M_is5 h, ag_M_al5 h, ag_M_ia6 h, ag_M_is6 h, ag_M_al6 h, ag_M_ia7 h, ag_M_is7 h, ag_M_al7 h, ag_M_ia8 h, ag_M_is8 h, ag_M_al8 h, ag_M_ia9 h, ag_M_is9 h, ag_M_al9 h, ag_M_ia10 h, ag_M_is10 h, ag_M_al10 h, ag_M_ia11 h, ag_M_is11 h, ag_M_al11 h, ag_M_ia12 h, ag_M_is12 h, ag_M_al12 h, ag_M_ia13 h, ag_M_is13 h, ag_M_al13 h, ag_M_ia14 h, ag_M_is14 h, ag_M_al14 h, ag_M_ia15 h, ag_M_is15 h, ag_M_al15 h, ag_M_ia16 h, ag_M_is16 h, ag_M_al16 h, ag_kk_v, ag_kk_n, Nat.reduceAdd, ag_b0, ag_b1, true_and, or_true, true_or, Int.reduceEq, ne_eq, not_false_eq_true, not_true_eq_false, ↓reduceIte, ag_nmk_2, ag_nmk_3, ag_nmk_4, ag_nmk_5, ag_nmk_7, ag_nmk_11, ag_nmk_12, ag_nmk_20, ag_nmk_99, ag_nmk_100, ag_nmk_300, ag_nmk_999, ag_nmk_9999, ag_nm_1, ag_nm_z, ag_nm_m, ag_nm_nat (show i ≤ 1000000 by omega), ag_nm_nat (show n ≤ 1000000 by omega), ii, ag_rd_nat (show 40 ≤ 1000000 by decide) (show i < 40 by omega), hr i hlt, ir, e1, e3, ic, p1, gpn, gpp, q1, g3n, q2, iz, f0, f1, q3, q4, n3, hcn, ag_nm_g hsp]
              rw [if_neg (show ¬ (n : Int) ≤ i by omega)]
          · rw [if_neg (fun z => q3 z.2)] at j3
            have hst : ag_stp gb c i = true := by
              rw [es, j3]
              exact decide_eq_true ⟨hh, fun z => by omega⟩
            rw [hff, if_pos hst]
            simp only [ag_i138_18, ag_i138_19, ag_i138_22, ag_i138_25, ag_i138_26, ag_i138_29, ag_i138_30, ag_i138_33, ag_i138_34, ag_i138_35, ag_i138_36, ag_i138_37, ag_i138_40, ag_i138_41, ag_i138_42, ag_i138_45, ag_i138_46, ag_i138_49, ag_i138_50, ag_i138_53, ag_i138_54, ag_i138_55, ag_i138_56, ag_i138_57, ag_i138_60, ag_i138_61, ag_i138_64, ag_i138_65, ag_i138_68, ag_i138_69, ag_i138_72, ag_i138_73, ag_i138_74, ag_i138_75, ag_i138_76, ag_i138_77, ag_mv_0, ag_mv_u0, ag_mv_1, ag_mv_u1, ag_mv_2, ag_mv_u2, ag_mv_3, ag_mv_u3, ag_mv_4, ag_mv_u4, ag_mv_5, ag_mv_u5, ag_mv_6, ag_mv_u6, ag_mv_7, ag_mv_u7, ag_mg_0, ag_mg_u0, ag_mg_1, ag_mg_u1, ag_mg_2, ag_mg_u2, ag_mg_3, ag_mg_u3, ag_mg_4, ag_mg_u4, ag_mg_5, ag_mg_u5, ag_mg_6, ag_mg_u6, ag_mg_7, ag_mg_u7, ag_mg_8, ag_mg_u8, ag_mg_9, ag_mg_u9, ag_mg_10, ag_mg_u10, ag_mg_11, ag_mg_u11, ag_mg_12, ag_mg_u12, ag_mg_13, ag_mg_u13, ag_mg_14, ag_mg_u14, ag_mg_15, ag_mg_u15, ag_mg_16, ag_mg_u16, ag_M_g0, ag_M_g1, ag_M_g2, ag_M_g3, ag_M_g4, ag_M_g5, ag_M_g6, ag_M_g7, ag_M_g8, ag_M_g9, ag_M_g10, ag_M_g11, ag_M_g12, ag_M_g13, ag_M_g14, ag_M_g15, ag_M_g16, ag_M_g17, ag_M_g18, ag_M_g19, ag_M_g20, ag_M_g21, ag_M_g22, ag_M_g23, ag_M_g24, ag_M_ck, ag_SM_2, ag_M_p0 h, ag_M_p1 h, ag_M_p2 h, ag_M_p3 h, ag_M_p16 h, ag_M_p18 h, ag_M_p19 h, ag_M_p24 h, ag_M_ia0 h, ag_M_is0 h, ag_M_al0 h, ag_M_ia1 h, ag_M_is1 h, ag_M_al1 h, ag_M_ia2 h, ag_M_is2 h, ag_M_al2 h, ag_M_ia3 h, ag_M_is3 h, ag_M_al3 h, ag_M_ia4 h, ag_M_is4 h, ag_M_al4 h, ag_M_ia5 h, ag_M_is5 h, ag_M_al5 h, ag_M_ia6 h, ag_M_is6 h, ag_M_al6 h, ag_M_ia7 h, ag_M_is7 h, ag_M_al7 h, ag_M_ia8 h, ag_M_is8 h, ag_M_al8 h, ag_M_ia9 h, ag_M_is9 h, ag_M_al9 h, ag_M_ia10 h, ag_M_is10 h, ag_M_al10 h, ag_M_ia11 h, ag_M_is11 h, ag_M_al11 h, ag_M_ia12 h, ag_M_is12 h, ag_M_al12 h, ag_M_ia13 h, ag_M_is13 h, ag_M_al13 h, ag_M_ia14 h, ag_M_is14 h, ag_M_al14 h, ag_M_ia15 h, ag_M_is15 h, ag_M_al15 h, ag_M_ia16 h, ag_M_is16 h, ag_M_al16 h, ag_kk_v, ag_kk_n, Nat.reduceAdd, ag_b0, ag_b1, true_and, or_true, true_or, Int.reduceEq, ne_eq, not_false_eq_true, not_true_eq_false, ↓reduceIte, ag_nmk_2, ag_nmk_3, ag_nmk_4, ag_nmk_5, ag_nmk_7, ag_nmk_11, ag_nmk_12, ag_nmk_20, ag_nmk_99, ag_nmk_100, ag_nmk_300, ag_nmk_999, ag_nmk_9999, ag_nm_1, ag_nm_z, ag_nm_m, ag_nm_nat (show i ≤ 1000000 by omega), ag_nm_nat (show n ≤ 1000000 by omega), ii, ag_rd_nat (show 40 ≤ 1000000 by decide) (show i < 40 by omega), hr i hlt, ir, e1, e3, ic, p1, gpn, gpp, q1, g3n, q2, iz, f0, q3, n3, ag_nm_g hsp]
            rw [if_neg (show ¬ (n : Int) ≤ i by omega)]
      · have hst : ag_stp gb c i = true := by
          rw [es]
          exact decide_eq_true ⟨hh, fun z => q1 z.2⟩
        rw [hff, if_pos hst]
        simp only [ag_i138_18, ag_i138_19, ag_i138_22, ag_i138_25, ag_i138_26, ag_i138_29, ag_i138_30, ag_i138_33, ag_i138_34, ag_i138_35, ag_i138_36, ag_i138_37, ag_i138_40, ag_i138_41, ag_i138_42, ag_mv_0, ag_mv_u0, ag_mv_1, ag_mv_u1, ag_mv_2, ag_mv_u2, ag_mv_3, ag_mv_u3, ag_mv_4, ag_mv_u4, ag_mv_5, ag_mv_u5, ag_mv_6, ag_mv_u6, ag_mv_7, ag_mv_u7, ag_mg_0, ag_mg_u0, ag_mg_1, ag_mg_u1, ag_mg_2, ag_mg_u2, ag_mg_3, ag_mg_u3, ag_mg_4, ag_mg_u4, ag_mg_5, ag_mg_u5, ag_mg_6, ag_mg_u6, ag_mg_7, ag_mg_u7, ag_mg_8, ag_mg_u8, ag_mg_9, ag_mg_u9, ag_mg_10, ag_mg_u10, ag_mg_11, ag_mg_u11, ag_mg_12, ag_mg_u12, ag_mg_13, ag_mg_u13, ag_mg_14, ag_mg_u14, ag_mg_15, ag_mg_u15, ag_mg_16, ag_mg_u16, ag_M_g0, ag_M_g1, ag_M_g2, ag_M_g3, ag_M_g4, ag_M_g5, ag_M_g6, ag_M_g7, ag_M_g8, ag_M_g9, ag_M_g10, ag_M_g11, ag_M_g12, ag_M_g13, ag_M_g14, ag_M_g15, ag_M_g16, ag_M_g17, ag_M_g18, ag_M_g19, ag_M_g20, ag_M_g21, ag_M_g22, ag_M_g23, ag_M_g24, ag_M_ck, ag_SM_2, ag_M_p0 h, ag_M_p1 h, ag_M_p2 h, ag_M_p3 h, ag_M_p16 h, ag_M_p18 h, ag_M_p19 h, ag_M_p24 h, ag_M_ia0 h, ag_M_is0 h, ag_M_al0 h, ag_M_ia1 h, ag_M_is1 h, ag_M_al1 h, ag_M_ia2 h, ag_M_is2 h, ag_M_al2 h, ag_M_ia3 h, ag_M_is3 h, ag_M_al3 h, ag_M_ia4 h, ag_M_is4 h, ag_M_al4 h, ag_M_ia5 h, ag_M_is5 h, ag_M_al5 h, ag_M_ia6 h, ag_M_is6 h, ag_M_al6 h, ag_M_ia7 h, ag_M_is7 h, ag_M_al7 h, ag_M_ia8 h, ag_M_is8 h, ag_M_al8 h, ag_M_ia9 h, ag_M_is9 h, ag_M_al9 h, ag_M_ia10 h, ag_M_is10 h, ag_M_al10 h, ag_M_ia11 h, ag_M_is11 h, ag_M_al11 h, ag_M_ia12 h, ag_M_is12 h, ag_M_al12 h, ag_M_ia13 h, ag_M_is13 h, ag_M_al13 h, ag_M_ia14 h, ag_M_is14 h, ag_M_al14 h, ag_M_ia15 h, ag_M_is15 h, ag_M_al15 h, ag_M_ia16 h, ag_M_is16 h, ag_M_al16 h, ag_kk_v, ag_kk_n, Nat.reduceAdd, ag_b0, ag_b1, true_and, or_true, true_or, Int.reduceEq, ne_eq, not_false_eq_true, not_true_eq_false, ↓reduceIte, ag_nmk_2, ag_nmk_3, ag_nmk_4, ag_nmk_5, ag_nmk_7, ag_nmk_11, ag_nmk_12, ag_nmk_20, ag_nmk_99, ag_nmk_100, ag_nmk_300, ag_nmk_999, ag_nmk_9999, ag_nm_1, ag_nm_z, ag_nm_m, ag_nm_nat (show i ≤ 1000000 by omega), ag_nm_nat (show n ≤ 1000000 by omega), ii, ag_rd_nat (show 40 ≤ 1000000 by decide) (show i < 40 by omega), hr i hlt, ir, e1, ic, p1, gpn, gpp, q1]
        rw [if_neg (show ¬ (n : Int) ≤ i by omega)]
/-- slots that b's performing takes -/
def ag_cst (gb : Nat → Nat → Int) (n : Nat) (gp : Nat → Nat → Int) (b : Nat) : Nat :=
  if gp 0 b = 0 ∨ gp 0 b = 1 then ag_edd gb n (gp 1 b) - ag_plc gb (gp 1 b) else if gp 0 b = 3 ∨ gp 0 b = 4 then 1 else 0
/-- the ties behind b's performing -/
noncomputable def ag_tpf (gb : Nat → Nat → Int) (n : Nat) (gp : Nat → Nat → Int) (t : Nat → Int) (nq b : Nat) : Nat → Int :=
  if gp 0 b = 0 then ag_tdl t (fun s => gb 6 (ag_plc gb (gp 1 b) + s)) (ag_rd 40 (gb 1) (gp 1 b)) nq (ag_edd gb n (gp 1 b) - ag_plc gb (gp 1 b)) else t
theorem ag_R_doIt (h : ag_mi a ρ σ.2.1) (hV : ag_IV (gb, (w, (n, gp))) m) (hr : ∀ i, i < n → r i = gb 6 i) (hn : nq ≤ 12) (ht : ∀ j, ag_nm (t j) = t j) {b : Nat} (hb : b < m) (hl : gp 3 b = 0) (hf : ag_ftb gb w n gp b ≠ 0) :
    ∃ σ' r', ag_fr σ σ' 1 (ag_cst gb n gp b) ∧ (∀ i, i < (ag_pfm gb w n gp b).2.2.1 → r' i = (ag_pfm gb w n gp b).1 6 i) ∧
    ∀ K, ag_cl9 139 [ag_R a, ag_I b] (ag_SM σ a ρ (ag_mg gb r gp t sg gh) (ag_mv th w n m nq np qu mi)) K = K (Sum.inl none) (ag_SM σ' a ρ (ag_mg (ag_pfm gb w n gp b).1 r' (ag_pfm gb w n gp b).2.2.2 (ag_tpf gb n gp t nq b) sg gh) (ag_mv th ((ag_pfm gb w n gp b).2.1 : Nat) ((ag_pfm gb w n gp b).2.2.1 : Nat) m nq np qu mi)) := by
  have hI := ag_pfm_I hV hb hl hf
  dsimp only at hI
  have hB : ag_IB gb w n := hV.1
  have hw := hB.1.2.2
  have hm : m ≤ 20 := hV.2.1.1.2.2
  have hsp : ag_sm gp := hV.2.1.1.2.1
  have kb := (hV.2.1.2.2 b hb).1
  dsimp only at kb
  have ib : ag_inb 20 (b : Int) := ag_inb_nat (by omega) (by decide)
  have rr : ∀ k, ag_rd 20 (gp k) (b : Int) = gp k b := fun k => ag_rd_nat (by decide) (by omega)
  have f9 := hf
  unfold ag_ftb at f9
  unfold ag_pfm at hI ⊢
  unfold ag_cst ag_tpf
  by_cases k0 : gp 0 b = 0
  · rw [if_pos k0, if_pos (Or.inl k0), if_pos k0]
    obtain ⟨t1, p, p1, p2, p3, p4, p5, p6⟩ := ag_IV_to hV hb hl (by dsimp only; omega)
    dsimp only at p1 p2 p3 p4 p5 p6 t1
    obtain ⟨σ', r', u1, u2, u3⟩ := ag_R_strike (σ := σ) (gb := gb) (gp := gp) (gh := gh) (r := r) (t := t) (sg := sg) (th := th) (qu := qu) (mi := mi) (w := w) (n := n) (m := m) (nq := nq) (np := np) h hB hr hn ht p1 p3 p4 p5 p6
    rw [p3, p6]
    refine ⟨σ', r', u1, u2, fun K => ?_⟩
    simp only [ag_e139, ag_i139_0, ag_i139_1, ag_i139_4, ag_i139_5, ag_i139_6_n, ag_i139_6_i, ag_i139_6_r, ag_i139_7, ag_i139_8, ag_i139_11, ag_i139_12, ag_i139_48, ag_i139_49, ag_i139_50, ag_i139_53, ag_i139_56, ag_i139_57, ag_i139_58, ag_i139_59, ag_i139_62, ag_i139_63, ag_i139_64, ag_i139_67, ag_i139_70, ag_i139_71, ag_i139_74, ag_i139_75, ag_i139_76, ag_i139_79, ag_i139_80, ag_i139_81, ag_i139_82, ag_i139_85, ag_i139_86, ag_i139_89, ag_i139_90, ag_i139_91, ag_i139_92, ag_i139_95, ag_i139_96, ag_i139_99, ag_i139_100, ag_i139_103, ag_i139_104, ag_i139_105, ag_i139_106, ag_i139_107, ag_i139_108, ag_i139_111, ag_i139_114, ag_i139_115, ag_i139_116, ag_i139_119, ag_i139_120, ag_i139_121, ag_i139_122, ag_i139_125, ag_i139_126, ag_i139_129, ag_i139_130, ag_i139_133, ag_i139_134, ag_i139_135, ag_i139_138, ag_i139_139, ag_i139_140, ag_i139_141, ag_i139_13_0 _ _ _ _ _ _ (show ag_nm (gp 0 b) = 0 from by rw [k0]; exact ag_nm_z), ag_mv_0, ag_mv_u0, ag_mv_1, ag_mv_u1, ag_mv_2, ag_mv_u2, ag_mv_3, ag_mv_u3, ag_mv_4, ag_mv_u4, ag_mv_5, ag_mv_u5, ag_mv_6, ag_mv_u6, ag_mv_7, ag_mv_u7, ag_mg_0, ag_mg_u0, ag_mg_1, ag_mg_u1, ag_mg_2, ag_mg_u2, ag_mg_3, ag_mg_u3, ag_mg_4, ag_mg_u4, ag_mg_5, ag_mg_u5, ag_mg_6, ag_mg_u6, ag_mg_7, ag_mg_u7, ag_mg_8, ag_mg_u8, ag_mg_9, ag_mg_u9, ag_mg_10, ag_mg_u10, ag_mg_11, ag_mg_u11, ag_mg_12, ag_mg_u12, ag_mg_13, ag_mg_u13, ag_mg_14, ag_mg_u14, ag_mg_15, ag_mg_u15, ag_mg_16, ag_mg_u16, ag_M_g0, ag_M_g1, ag_M_g2, ag_M_g3, ag_M_g4, ag_M_g5, ag_M_g6, ag_M_g7, ag_M_g8, ag_M_g9, ag_M_g10, ag_M_g11, ag_M_g12, ag_M_g13, ag_M_g14, ag_M_g15, ag_M_g16, ag_M_g17, ag_M_g18, ag_M_g19, ag_M_g20, ag_M_g21, ag_M_g22, ag_M_g23, ag_M_g24, ag_M_ck, ag_SM_2, ag_M_p0 h, ag_M_p1 h, ag_M_p2 h, ag_M_p3 h, ag_M_p16 h, ag_M_p18 h, ag_M_p19 h, ag_M_p24 h, ag_M_ia0 h, ag_M_is0 h, ag_M_al0 h, ag_M_ia1 h, ag_M_is1 h, ag_M_al1 h, ag_M_ia2 h, ag_M_is2 h, ag_M_al2 h, ag_M_ia3 h, ag_M_is3 h, ag_M_al3 h, ag_M_ia4 h, ag_M_is4 h, ag_M_al4 h, ag_M_ia5 h, ag_M_is5 h, ag_M_al5 h, ag_M_ia6 h, ag_M_is6 h, ag_M_al6 h, ag_M_ia7 h, ag_M_is7 h, ag_M_al7 h, ag_M_ia8 h, ag_M_is8 h, ag_M_al8 h, ag_M_ia9 h, ag_M_is9 h, ag_M_al9 h, ag_M_ia10 h, ag_M_is10 h, ag_M_al10 h, ag_M_ia11 h, ag_M_is11 h, ag_M_al11 h, ag_M_ia12 h, ag_M_is12 h, ag_M_al12 h, ag_M_ia13 h, ag_M_is13 h, ag_M_al13 h, ag_M_ia14 h, ag_M_is14 h, ag_M_al14 h, ag_M_ia15 h, ag_M_is15 h, ag_M_al15 h, ag_M_ia16 h, ag_M_is16 h, ag_M_al16 h, ag_kk_v, ag_kk_n, Nat.reduceAdd, ag_b0, ag_b1, true_and, or_true, true_or, Int.reduceEq, ne_eq, not_false_eq_true, not_true_eq_false, ↓reduceIte, ib, rr, u3]
  · rw [if_neg k0, if_neg k0]
    by_cases k1 : gp 0 b = 1
    · rw [if_pos k1, if_pos (Or.inr k1)]
      rw [if_neg k0, if_pos k1] at hI
      obtain ⟨t1, p, p1, p2, p3, p4, p5, p6⟩ := ag_IV_to hV hb hl (by dsimp only; omega)
      obtain ⟨t2, q, q1, q2, q3, q4, q5, q6⟩ := ag_IV_aim hV hb hl k1
      dsimp only at p1 p2 p3 p4 p5 p6 q1 q2 q3 q4 q5 q6 t1 t2
      rw [k1] at f9
      obtain ⟨f1, f2⟩ := ag_fit_1 hB p1 p3 p2 p5 q2 q5 f9
      dsimp only at hI ⊢
      rw [p3] at hI ⊢
      obtain ⟨σ', r', u1, u2, u3⟩ := ag_R_move (σ := σ) (gb := gb) (gp := gp) (gh := gh) (r := r) (t := t) (sg := sg) (th := th) (qu := qu) (mi := mi) (w := w) (n := n) (m := m) (nq := nq) (np := np) h hB hr p1 p3 p4 p5 q1 q3 q4 q5 f1 hI.1.1.2.1
      refine ⟨σ', r', u1, u2, fun K => ?_⟩
      simp only [ag_e139, ag_i139_0, ag_i139_1, ag_i139_4, ag_i139_5, ag_i139_6_n, ag_i139_6_i, ag_i139_6_r, ag_i139_7, ag_i139_8, ag_i139_11, ag_i139_12, ag_i139_48, ag_i139_49, ag_i139_50, ag_i139_53, ag_i139_56, ag_i139_57, ag_i139_58, ag_i139_59, ag_i139_62, ag_i139_63, ag_i139_64, ag_i139_67, ag_i139_70, ag_i139_71, ag_i139_74, ag_i139_75, ag_i139_76, ag_i139_79, ag_i139_80, ag_i139_81, ag_i139_82, ag_i139_85, ag_i139_86, ag_i139_89, ag_i139_90, ag_i139_91, ag_i139_92, ag_i139_95, ag_i139_96, ag_i139_99, ag_i139_100, ag_i139_103, ag_i139_104, ag_i139_105, ag_i139_106, ag_i139_107, ag_i139_108, ag_i139_111, ag_i139_114, ag_i139_115, ag_i139_116, ag_i139_119, ag_i139_120, ag_i139_121, ag_i139_122, ag_i139_125, ag_i139_126, ag_i139_129, ag_i139_130, ag_i139_133, ag_i139_134, ag_i139_135, ag_i139_138, ag_i139_139, ag_i139_140, ag_i139_141, ag_i139_13_1 _ _ _ _ _ _ (show ag_nm (gp 0 b) = 1 from by rw [k1]; exact ag_nm_1), ag_mv_0, ag_mv_u0, ag_mv_1, ag_mv_u1, ag_mv_2, ag_mv_u2, ag_mv_3, ag_mv_u3, ag_mv_4, ag_mv_u4, ag_mv_5, ag_mv_u5, ag_mv_6, ag_mv_u6, ag_mv_7, ag_mv_u7, ag_mg_0, ag_mg_u0, ag_mg_1, ag_mg_u1, ag_mg_2, ag_mg_u2, ag_mg_3, ag_mg_u3, ag_mg_4, ag_mg_u4, ag_mg_5, ag_mg_u5, ag_mg_6, ag_mg_u6, ag_mg_7, ag_mg_u7, ag_mg_8, ag_mg_u8, ag_mg_9, ag_mg_u9, ag_mg_10, ag_mg_u10, ag_mg_11, ag_mg_u11, ag_mg_12, ag_mg_u12, ag_mg_13, ag_mg_u13, ag_mg_14, ag_mg_u14, ag_mg_15, ag_mg_u15, ag_mg_16, ag_mg_u16, ag_M_g0, ag_M_g1, ag_M_g2, ag_M_g3, ag_M_g4, ag_M_g5, ag_M_g6, ag_M_g7, ag_M_g8, ag_M_g9, ag_M_g10, ag_M_g11, ag_M_g12, ag_M_g13, ag_M_g14, ag_M_g15, ag_M_g16, ag_M_g17, ag_M_g18, ag_M_g19, ag_M_g20, ag_M_g21, ag_M_g22, ag_M_g23, ag_M_g24, ag_M_ck, ag_SM_2, ag_M_p0 h, ag_M_p1 h, ag_M_p2 h, ag_M_p3 h, ag_M_p16 h, ag_M_p18 h, ag_M_p19 h, ag_M_p24 h, ag_M_ia0 h, ag_M_is0 h, ag_M_al0 h, ag_M_ia1 h, ag_M_is1 h, ag_M_al1 h, ag_M_ia2 h, ag_M_is2 h, ag_M_al2 h, ag_M_ia3 h, ag_M_is3 h, ag_M_al3 h, ag_M_ia4 h, ag_M_is4 h, ag_M_al4 h, ag_M_ia5 h, ag_M_is5 h, ag_M_al5 h, ag_M_ia6 h, ag_M_is6 h, ag_M_al6 h, ag_M_ia7 h, ag_M_is7 h, ag_M_al7 h, ag_M_ia8 h, ag_M_is8 h, ag_M_al8 h, ag_M_ia9 h, ag_M_is9 h, ag_M_al9 h, ag_M_ia10 h, ag_M_is10 h, ag_M_al10 h, ag_M_ia11 h, ag_M_is11 h, ag_M_al11 h, ag_M_ia12 h, ag_M_is12 h, ag_M_al12 h, ag_M_ia13 h, ag_M_is13 h, ag_M_al13 h, ag_M_ia14 h, ag_M_is14 h, ag_M_al14 h, ag_M_ia15 h, ag_M_is15 h, ag_M_al15 h, ag_M_ia16 h, ag_M_is16 h, ag_M_al16 h, ag_kk_v, ag_kk_n, Nat.reduceAdd, ag_b0, ag_b1, true_and, or_true, true_or, Int.reduceEq, ne_eq, not_false_eq_true, not_true_eq_false, ↓reduceIte, ib, rr, u3]
    · rw [if_neg k1, if_neg (show ¬ (gp 0 b = 0 ∨ gp 0 b = 1) by omega)]
      by_cases k2 : gp 0 b = 2
      · rw [if_pos k2, if_neg (show ¬ (gp 0 b = 3 ∨ gp 0 b = 4) by omega)]
        have t1 := (hV.2.1.2.2 b hb).2.2.1 (show gp 0 b ≠ 5 by omega)
        dsimp only at t1
        have ic : ag_inb 40 (gp 1 b) := ag_inb_i t1.1 (by omega) (by decide)
        refine ⟨σ, r, ag_fr_le (ag_fr_refl σ) (by omega) (by omega), hr, fun K => ?_⟩
        simp only [ag_e139, ag_i139_0, ag_i139_1, ag_i139_4, ag_i139_5, ag_i139_6_n, ag_i139_6_i, ag_i139_6_r, ag_i139_7, ag_i139_8, ag_i139_11, ag_i139_12, ag_i139_48, ag_i139_49, ag_i139_50, ag_i139_53, ag_i139_56, ag_i139_57, ag_i139_58, ag_i139_59, ag_i139_62, ag_i139_63, ag_i139_64, ag_i139_67, ag_i139_70, ag_i139_71, ag_i139_74, ag_i139_75, ag_i139_76, ag_i139_79, ag_i139_80, ag_i139_81, ag_i139_82, ag_i139_85, ag_i139_86, ag_i139_89, ag_i139_90, ag_i139_91, ag_i139_92, ag_i139_95, ag_i139_96, ag_i139_99, ag_i139_100, ag_i139_103, ag_i139_104, ag_i139_105, ag_i139_106, ag_i139_107, ag_i139_108, ag_i139_111, ag_i139_114, ag_i139_115, ag_i139_116, ag_i139_119, ag_i139_120, ag_i139_121, ag_i139_122, ag_i139_125, ag_i139_126, ag_i139_129, ag_i139_130, ag_i139_133, ag_i139_134, ag_i139_135, ag_i139_138, ag_i139_139, ag_i139_140, ag_i139_141, ag_i139_13_2 _ _ _ _ _ _ (show ag_nm (gp 0 b) = 2 from by rw [k2]; exact ag_nm_2), ag_mv_0, ag_mv_u0, ag_mv_1, ag_mv_u1, ag_mv_2, ag_mv_u2, ag_mv_3, ag_mv_u3, ag_mv_4, ag_mv_u4, ag_mv_5, ag_mv_u5, ag_mv_6, ag_mv_u6, ag_mv_7, ag_mv_u7, ag_mg_0, ag_mg_u0, ag_mg_1, ag_mg_u1, ag_mg_2, ag_mg_u2, ag_mg_3, ag_mg_u3, ag_mg_4, ag_mg_u4, ag_mg_5, ag_mg_u5, ag_mg_6, ag_mg_u6, ag_mg_7, ag_mg_u7, ag_mg_8, ag_mg_u8, ag_mg_9, ag_mg_u9, ag_mg_10, ag_mg_u10, ag_mg_11, ag_mg_u11, ag_mg_12, ag_mg_u12, ag_mg_13, ag_mg_u13, ag_mg_14, ag_mg_u14, ag_mg_15, ag_mg_u15, ag_mg_16, ag_mg_u16, ag_M_g0, ag_M_g1, ag_M_g2, ag_M_g3, ag_M_g4, ag_M_g5, ag_M_g6, ag_M_g7, ag_M_g8, ag_M_g9, ag_M_g10, ag_M_g11, ag_M_g12, ag_M_g13, ag_M_g14, ag_M_g15, ag_M_g16, ag_M_g17, ag_M_g18, ag_M_g19, ag_M_g20, ag_M_g21, ag_M_g22, ag_M_g23, ag_M_g24, ag_M_ck, ag_SM_2, ag_M_p0 h, ag_M_p1 h, ag_M_p2 h, ag_M_p3 h, ag_M_p16 h, ag_M_p18 h, ag_M_p19 h, ag_M_p24 h, ag_M_ia0 h, ag_M_is0 h, ag_M_al0 h, ag_M_ia1 h, ag_M_is1 h, ag_M_al1 h, ag_M_ia2 h, ag_M_is2 h, ag_M_al2 h, ag_M_ia3 h, ag_M_is3 h, ag_M_al3 h, ag_M_ia4 h, ag_M_is4 h, ag_M_al4 h, ag_M_ia5 h, ag_M_is5 h, ag_M_al5 h, ag_M_ia6 h, ag_M_is6 h, ag_M_al6 h, ag_M_ia7 h, ag_M_is7 h, ag_M_al7 h, ag_M_ia8 h, ag_M_is8 h, ag_M_al8 h, ag_M_ia9 h, ag_M_is9 h, ag_M_al9 h, ag_M_ia10 h, ag_M_is10 h, ag_M_al10 h, ag_M_ia11 h, ag_M_is11 h, ag_M_al11 h, ag_M_ia12 h, ag_M_is12 h, ag_M_al12 h, ag_M_ia13 h, ag_M_is13 h, ag_M_al13 h, ag_M_ia14 h, ag_M_is14 h, ag_M_al14 h, ag_M_ia15 h, ag_M_is15 h, ag_M_al15 h, ag_M_ia16 h, ag_M_is16 h, ag_M_al16 h, ag_kk_v, ag_kk_n, Nat.reduceAdd, ag_b0, ag_b1, true_and, or_true, true_or, Int.reduceEq, ne_eq, not_false_eq_true, not_true_eq_false, ↓reduceIte, ib, ic, rr]
      · rw [if_neg k2]
        by_cases k3 : gp 0 b = 3
        · rw [if_pos k3, if_pos (Or.inl k3)]
          obtain ⟨t1, p, p1, p2, p3, p4, p5, p6⟩ := ag_IV_to hV hb hl (by dsimp only; omega)
          dsimp only at p1 p2 p3 p4 p5 p6 t1
          have hw40 : w < 40 := by
            rw [k3] at f9
            unfold ag_fit at f9
            rw [if_neg (by decide), if_pos rfl] at f9
            split at f9
            · exact absurd rfl f9
            · omega
          obtain ⟨b1, b2, b3, b4⟩ := ag_IB_blk hB p1 p3 p5
          obtain ⟨r1, r2, r3, r4⟩ := ag_IB_tra hB p1 p3 p4 p5 p6
          obtain ⟨u1, u2, u3, u4⟩ := ag_IB_hun hB p1
          have ic : ag_inb 40 (gp 1 b) := ag_inb_i t1.1 (by omega) (by decide)
          have hPl := fun K => ag_R_pl_y (σ := σ) (gp := gp) (gh := gh) (t := t) (sg := sg) (th := th) (qu := qu) (mi := mi) (m := m) (nq := nq) (np := np) h hB hr p1 p4 K
          have hEo := fun K => ag_R_eo (σ := σ) (gp := gp) (gh := gh) (t := t) (sg := sg) (th := th) (qu := qu) (mi := mi) (m := m) (nq := nq) (np := np) h hB hr p1 p3 p5 K
          have hLp := fun K => ag_R_bh_loop (σ := σ) (gb := gb) (gp := gp) (gh := gh) (r := r) (t := t) (sg := sg) (th := th) (qu := qu) (mi := mi) (w := w) (n := n) (m := m) (nq := nq) (np := np) (b := b) h hV hr p1 p3 p4 p5 p6 K n (ag_edd gb n (gp 1 b)) (by omega) b2 b4
          have htr : ag_ff (ag_stp gb (gp 1 b)) (n - ag_edd gb n (gp 1 b)) (ag_edd gb n (gp 1 b)) = ag_tra gb n (gp 1 b) := rfl
          rw [htr] at hLp
          dsimp only
          generalize hG : ag_ug (ag_ug (ag_G3 gb w n (gp 1 b) (gp 2 b)) 4 (ag_wr 40 (ag_G3 gb w n (gp 1 b) (gp 2 b) 4) w (gp 1 b))) 3 (ag_wr 40 (ag_G3 gb w n (gp 1 b) (gp 2 b) 3) w b) = G
          have q0 : G 0 = ag_ui (gb 0) w (gp 2 b) := by
            rw [← hG, ag_ug_ne _ _ (by decide), ag_ug_ne _ _ (by decide)]
            exact ag_gi_k.2.2.2.1
          have q1 : G 1 = ag_ui (gb 1) w (ag_rd 40 (gb 1) (gp 1 b)) := by
            rw [← hG, ag_ug_ne _ _ (by decide), ag_ug_ne _ _ (by decide)]
            exact ag_gi_k.2.2.2.2.1
          have q2 : G 2 = ag_ui (gb 2) w (ag_hun gb (ag_rd 40 (gb 1) (gp 1 b))) := by
            rw [← hG, ag_ug_ne _ _ (by decide), ag_ug_ne _ _ (by decide)]
            exact ag_gi_k.2.2.2.2.2
          have q3 : G 3 = ag_ui (gb 3) w b := by
            rw [← hG, ag_ug_same, show ag_G3 gb w n (gp 1 b) (gp 2 b) 3 = ag_ui (gb 3) w (-1) from ag_gi_k.1, ag_wr_nat _ (by decide) hw40]
            funext j
            unfold ag_ui
            split <;> rfl
          have q6 : G 6 = ag_ui (ag_sh (gb 6) (ag_tra gb n (gp 1 b)) n) (ag_tra gb n (gp 1 b)) w := by
            rw [← hG, ag_ug_ne _ _ (by decide), ag_ug_ne _ _ (by decide)]
            exact ag_gi_k.2.2.1
          obtain ⟨σ', r', x1, x2, x3⟩ := ag_R_add (σ := σ) (gb := gb) (gp := gp) (gh := gh) (r := r) (t := t) (sg := sg) (th := th) (qu := qu) (mi := mi) (w := w) (n := n) (m := m) (nq := nq) (np := np) (place := ag_tra gb n (gp 1 b)) (u := ag_rd 40 (gb 1) (gp 1 b)) (x := gp 2 b) (y := (b : Int)) (gb' := G) h hw40 (by omega) r2 (by rw [p6]; omega) q0 q1 q2 q3
          refine ⟨σ', r', x1, fun i hi => ?_, fun K => ?_⟩
          · rw [x2 i (by omega), q6, ag_sh_pin (by omega)]
            unfold ag_pin
            by_cases z1 : i < ag_tra gb n (gp 1 b)
            · rw [if_pos z1, if_pos z1, hr i (by omega)]
            · rw [if_neg z1, if_neg z1]
              by_cases z2 : i = ag_tra gb n (gp 1 b)
              · rw [if_pos z2, if_pos z2]
              · rw [if_neg z2, if_neg z2, hr _ (by omega)]
          · have hbh : ∀ K, ag_cl9 138 [ag_R a, ag_I b] (ag_SM σ a ρ (ag_mg gb r gp t sg gh) (ag_mv th w n m nq np qu mi)) K = K (Sum.inl (some (ag_I w))) (ag_SM σ' a ρ (ag_mg G r' gp t sg gh) (ag_mv th (w + 1 : Nat) (n + 1 : Nat) m nq np qu mi)) := by
              intro K
              rw [← x3 K]
              simp only [ag_i138_0, ag_i138_1, ag_i138_4, ag_i138_5, ag_i138_6_n, ag_i138_6_i, ag_i138_6_r, ag_i138_7, ag_i138_8, ag_i138_9, ag_i138_10, ag_i138_13, ag_i138_16_n, ag_i138_16_i, ag_i138_16_r, ag_e138, ag_mv_0, ag_mv_u0, ag_mv_1, ag_mv_u1, ag_mv_2, ag_mv_u2, ag_mv_3, ag_mv_u3, ag_mv_4, ag_mv_u4, ag_mv_5, ag_mv_u5, ag_mv_6, ag_mv_u6, ag_mv_7, ag_mv_u7, ag_mg_0, ag_mg_u0, ag_mg_1, ag_mg_u1, ag_mg_2, ag_mg_u2, ag_mg_3, ag_mg_u3, ag_mg_4, ag_mg_u4, ag_mg_5, ag_mg_u5, ag_mg_6, ag_mg_u6, ag_mg_7, ag_mg_u7, ag_mg_8, ag_mg_u8, ag_mg_9, ag_mg_u9, ag_mg_10, ag_mg_u10, ag_mg_11, ag_mg_u11, ag_mg_12, ag_mg_u12, ag_mg_13, ag_mg_u13, ag_mg_14, ag_mg_u14, ag_mg_15, ag_mg_u15, ag_mg_16, ag_mg_u16, ag_M_g0, ag_M_g1, ag_M_g2, ag_M_g3, ag_M_g4, ag_M_g5, ag_M_g6, ag_M_g7, ag_M_g8, ag_M_g9, ag_M_g10, ag_M_g11, ag_M_g12, ag_M_g13, ag_M_g14, ag_M_g15, ag_M_g16, ag_M_g17, ag_M_g18, ag_M_g19, ag_M_g20, ag_M_g21, ag_M_g22, ag_M_g23, ag_M_g24, ag_M_ck, ag_SM_2, ag_M_p0 h, ag_M_p1 h, ag_M_p2 h, ag_M_p3 h, ag_M_p16 h, ag_M_p18 h, ag_M_p19 h, ag_M_p24 h, ag_M_ia0 h, ag_M_is0 h, ag_M_al0 h, ag_M_ia1 h, ag_M_is1 h, ag_M_al1 h, ag_M_ia2 h, ag_M_is2 h, ag_M_al2 h, ag_M_ia3 h, ag_M_is3 h, ag_M_al3 h, ag_M_ia4 h, ag_M_is4 h, ag_M_al4 h, ag_M_ia5 h, ag_M_is5 h, ag_M_al5 h, ag_M_ia6 h, ag_M_is6 h, ag_M_al6 h, ag_M_ia7 h, ag_M_is7 h, ag_M_al7 h, ag_M_ia8 h, ag_M_is8 h, ag_M_al8 h, ag_M_ia9 h, ag_M_is9 h, ag_M_al9 h, ag_M_ia10 h, ag_M_is10 h, ag_M_al10 h, ag_M_ia11 h, ag_M_is11 h, ag_M_al11 h, ag_M_ia12 h, ag_M_is12 h, ag_M_al12 h, ag_M_ia13 h, ag_M_is13 h, ag_M_al13 h, ag_M_ia14 h, ag_M_is14 h, ag_M_al14 h, ag_M_ia15 h, ag_M_is15 h, ag_M_al15 h, ag_M_ia16 h, ag_M_is16 h, ag_M_al16 h, ag_kk_v, ag_kk_n, Nat.reduceAdd, ag_b0, ag_b1, true_and, or_true, true_or, Int.reduceEq, ne_eq, not_false_eq_true, not_true_eq_false, ↓reduceIte, ib, rr, hPl, hEo]
              refine Eq.trans (hLp K) ?_
              simp only [ag_i138_109, ag_i138_110, ag_i138_111, ag_i138_112, ag_i138_115, ag_i138_116, ag_i138_117, ag_i138_118, ag_i138_121, ag_i138_122, ag_i138_123, ag_i138_124, ag_i138_127, ag_mv_0, ag_mv_u0, ag_mv_1, ag_mv_u1, ag_mv_2, ag_mv_u2, ag_mv_3, ag_mv_u3, ag_mv_4, ag_mv_u4, ag_mv_5, ag_mv_u5, ag_mv_6, ag_mv_u6, ag_mv_7, ag_mv_u7, ag_mg_0, ag_mg_u0, ag_mg_1, ag_mg_u1, ag_mg_2, ag_mg_u2, ag_mg_3, ag_mg_u3, ag_mg_4, ag_mg_u4, ag_mg_5, ag_mg_u5, ag_mg_6, ag_mg_u6, ag_mg_7, ag_mg_u7, ag_mg_8, ag_mg_u8, ag_mg_9, ag_mg_u9, ag_mg_10, ag_mg_u10, ag_mg_11, ag_mg_u11, ag_mg_12, ag_mg_u12, ag_mg_13, ag_mg_u13, ag_mg_14, ag_mg_u14, ag_mg_15, ag_mg_u15, ag_mg_16, ag_mg_u16, ag_M_g0, ag_M_g1, ag_M_g2, ag_M_g3, ag_M_g4, ag_M_g5, ag_M_g6, ag_M_g7, ag_M_g8, ag_M_g9, ag_M_g10, ag_M_g11, ag_M_g12, ag_M_g13, ag_M_g14, ag_M_g15, ag_M_g16, ag_M_g17, ag_M_g18, ag_M_g19, ag_M_g20, ag_M_g21, ag_M_g22, ag_M_g23, ag_M_g24, ag_M_ck, ag_SM_2, ag_M_p0 h, ag_M_p1 h, ag_M_p2 h, ag_M_p3 h, ag_M_p16 h, ag_M_p18 h, ag_M_p19 h, ag_M_p24 h, ag_M_ia0 h, ag_M_is0 h, ag_M_al0 h, ag_M_ia1 h, ag_M_is1 h, ag_M_al1 h, ag_M_ia2 h, ag_M_is2 h, ag_M_al2 h, ag_M_ia3 h, ag_M_is3 h, ag_M_al3 h, ag_M_ia4 h, ag_M_is4 h, ag_M_al4 h, ag_M_ia5 h, ag_M_is5 h, ag_M_al5 h, ag_M_ia6 h, ag_M_is6 h, ag_M_al6 h, ag_M_ia7 h, ag_M_is7 h, ag_M_al7 h, ag_M_ia8 h, ag_M_is8 h, ag_M_al8 h, ag_M_ia9 h, ag_M_is9 h, ag_M_al9 h, ag_M_ia10 h, ag_M_is10 h, ag_M_al10 h, ag_M_ia11 h, ag_M_is11 h, ag_M_al11 h, ag_M_ia12 h, ag_M_is12 h, ag_M_al12 h, ag_M_ia13 h, ag_M_is13 h, ag_M_al13 h, ag_M_ia14 h, ag_M_is14 h, ag_M_al14 h, ag_M_ia15 h, ag_M_is15 h, ag_M_al15 h, ag_M_ia16 h, ag_M_is16 h, ag_M_al16 h, ag_kk_v, ag_kk_n, Nat.reduceAdd, ag_b0, ag_b1, true_and, or_true, true_or, Int.reduceEq, ne_eq, not_false_eq_true, not_true_eq_false, ↓reduceIte, ib, rr, ic, x3]
            simp only [ag_e139, ag_i139_0, ag_i139_1, ag_i139_4, ag_i139_5, ag_i139_6_n, ag_i139_6_i, ag_i139_6_r, ag_i139_7, ag_i139_8, ag_i139_11, ag_i139_12, ag_i139_48, ag_i139_49, ag_i139_50, ag_i139_53, ag_i139_56, ag_i139_57, ag_i139_58, ag_i139_59, ag_i139_62, ag_i139_63, ag_i139_64, ag_i139_67, ag_i139_70, ag_i139_71, ag_i139_74, ag_i139_75, ag_i139_76, ag_i139_79, ag_i139_80, ag_i139_81, ag_i139_82, ag_i139_85, ag_i139_86, ag_i139_89, ag_i139_90, ag_i139_91, ag_i139_92, ag_i139_95, ag_i139_96, ag_i139_99, ag_i139_100, ag_i139_103, ag_i139_104, ag_i139_105, ag_i139_106, ag_i139_107, ag_i139_108, ag_i139_111, ag_i139_114, ag_i139_115, ag_i139_116, ag_i139_119, ag_i139_120, ag_i139_121, ag_i139_122, ag_i139_125, ag_i139_126, ag_i139_129, ag_i139_130, ag_i139_133, ag_i139_134, ag_i139_135, ag_i139_138, ag_i139_139, ag_i139_140, ag_i139_141, ag_i139_13_3 _ _ _ _ _ _ (show ag_nm (gp 0 b) = 3 from by rw [k3]; exact ag_nm_3), ag_mv_0, ag_mv_u0, ag_mv_1, ag_mv_u1, ag_mv_2, ag_mv_u2, ag_mv_3, ag_mv_u3, ag_mv_4, ag_mv_u4, ag_mv_5, ag_mv_u5, ag_mv_6, ag_mv_u6, ag_mv_7, ag_mv_u7, ag_mg_0, ag_mg_u0, ag_mg_1, ag_mg_u1, ag_mg_2, ag_mg_u2, ag_mg_3, ag_mg_u3, ag_mg_4, ag_mg_u4, ag_mg_5, ag_mg_u5, ag_mg_6, ag_mg_u6, ag_mg_7, ag_mg_u7, ag_mg_8, ag_mg_u8, ag_mg_9, ag_mg_u9, ag_mg_10, ag_mg_u10, ag_mg_11, ag_mg_u11, ag_mg_12, ag_mg_u12, ag_mg_13, ag_mg_u13, ag_mg_14, ag_mg_u14, ag_mg_15, ag_mg_u15, ag_mg_16, ag_mg_u16, ag_M_g0, ag_M_g1, ag_M_g2, ag_M_g3, ag_M_g4, ag_M_g5, ag_M_g6, ag_M_g7, ag_M_g8, ag_M_g9, ag_M_g10, ag_M_g11, ag_M_g12, ag_M_g13, ag_M_g14, ag_M_g15, ag_M_g16, ag_M_g17, ag_M_g18, ag_M_g19, ag_M_g20, ag_M_g21, ag_M_g22, ag_M_g23, ag_M_g24, ag_M_ck, ag_SM_2, ag_M_p0 h, ag_M_p1 h, ag_M_p2 h, ag_M_p3 h, ag_M_p16 h, ag_M_p18 h, ag_M_p19 h, ag_M_p24 h, ag_M_ia0 h, ag_M_is0 h, ag_M_al0 h, ag_M_ia1 h, ag_M_is1 h, ag_M_al1 h, ag_M_ia2 h, ag_M_is2 h, ag_M_al2 h, ag_M_ia3 h, ag_M_is3 h, ag_M_al3 h, ag_M_ia4 h, ag_M_is4 h, ag_M_al4 h, ag_M_ia5 h, ag_M_is5 h, ag_M_al5 h, ag_M_ia6 h, ag_M_is6 h, ag_M_al6 h, ag_M_ia7 h, ag_M_is7 h, ag_M_al7 h, ag_M_ia8 h, ag_M_is8 h, ag_M_al8 h, ag_M_ia9 h, ag_M_is9 h, ag_M_al9 h, ag_M_ia10 h, ag_M_is10 h, ag_M_al10 h, ag_M_ia11 h, ag_M_is11 h, ag_M_al11 h, ag_M_ia12 h, ag_M_is12 h, ag_M_al12 h, ag_M_ia13 h, ag_M_is13 h, ag_M_al13 h, ag_M_ia14 h, ag_M_is14 h, ag_M_al14 h, ag_M_ia15 h, ag_M_is15 h, ag_M_al15 h, ag_M_ia16 h, ag_M_is16 h, ag_M_al16 h, ag_kk_v, ag_kk_n, Nat.reduceAdd, ag_b0, ag_b1, true_and, or_true, true_or, Int.reduceEq, ne_eq, not_false_eq_true, not_true_eq_false, ↓reduceIte, ib, rr, hbh]
        · rw [if_neg k3]
          by_cases k4 : gp 0 b = 4
          · rw [if_pos k4, if_pos (Or.inr k4)]
            obtain ⟨t1, p, p1, p2, p3, p4, p5, p6⟩ := ag_IV_to hV hb hl (by dsimp only; omega)
            dsimp only at p1 p2 p3 p4 p5 p6 t1
            have hw40 : w < 40 := by
              rw [k4] at f9
              unfold ag_fit at f9
              rw [if_neg (by decide), if_neg (by decide), if_pos rfl] at f9
              split at f9
              · exact absurd rfl f9
              · omega
            obtain ⟨b1, b2, b3, b4⟩ := ag_IB_blk hB p1 p3 p5
            have hPl := fun K => ag_R_pl_y (σ := σ) (gp := gp) (gh := gh) (t := t) (sg := sg) (th := th) (qu := qu) (mi := mi) (m := m) (nq := nq) (np := np) h hB hr p1 p4 K
            have hEo := fun K => ag_R_eo (σ := σ) (gp := gp) (gh := gh) (t := t) (sg := sg) (th := th) (qu := qu) (mi := mi) (m := m) (nq := nq) (np := np) h hB hr p1 p3 p5 K
            dsimp only
            generalize hG : ag_ug (ag_G4 gb w n (gp 1 b) (gp 2 b)) 3 (ag_wr 40 (ag_G4 gb w n (gp 1 b) (gp 2 b) 3) w b) = G
            have q0 : G 0 = ag_ui (gb 0) w (gp 2 b) := by
              rw [← hG, ag_ug_ne _ _ (by decide)]
              exact ag_gi_k.2.2.2.1
            have q1 : G 1 = ag_ui (gb 1) w (gp 1 b) := by
              rw [← hG, ag_ug_ne _ _ (by decide)]
              exact ag_gi_k.2.2.2.2.1
            have q2 : G 2 = ag_ui (gb 2) w (ag_hun gb (gp 1 b)) := by
              rw [← hG, ag_ug_ne _ _ (by decide)]
              exact ag_gi_k.2.2.2.2.2
            have q3 : G 3 = ag_ui (gb 3) w b := by
              rw [← hG, ag_ug_same, show ag_G4 gb w n (gp 1 b) (gp 2 b) 3 = ag_ui (gb 3) w (-1) from ag_gi_k.1, ag_wr_nat _ (by decide) hw40]
              funext j
              unfold ag_ui
              split <;> rfl
            have q6 : G 6 = ag_ui (ag_sh (gb 6) (ag_edd gb n (gp 1 b)) n) (ag_edd gb n (gp 1 b)) w := by
              rw [← hG, ag_ug_ne _ _ (by decide)]
              exact ag_gi_k.2.2.1
            obtain ⟨σ', r', x1, x2, x3⟩ := ag_R_add (σ := σ) (gb := gb) (gp := gp) (gh := gh) (r := r) (t := t) (sg := sg) (th := th) (qu := qu) (mi := mi) (w := w) (n := n) (m := m) (nq := nq) (np := np) (place := ag_edd gb n (gp 1 b)) (u := gp 1 b) (x := gp 2 b) (y := (b : Int)) (gb' := G) h hw40 (by omega) b2 (by omega) q0 q1 q2 q3
            refine ⟨σ', r', x1, fun i hi => ?_, fun K => ?_⟩
            · rw [x2 i (by omega), q6, ag_sh_pin (by omega)]
              unfold ag_pin
              by_cases z1 : i < ag_edd gb n (gp 1 b)
              · rw [if_pos z1, if_pos z1, hr i (by omega)]
              · rw [if_neg z1, if_neg z1]
                by_cases z2 : i = ag_edd gb n (gp 1 b)
                · rw [if_pos z2, if_pos z2]
                · rw [if_neg z2, if_neg z2, hr _ (by omega)]
            · simp only [ag_e139, ag_i139_0, ag_i139_1, ag_i139_4, ag_i139_5, ag_i139_6_n, ag_i139_6_i, ag_i139_6_r, ag_i139_7, ag_i139_8, ag_i139_11, ag_i139_12, ag_i139_48, ag_i139_49, ag_i139_50, ag_i139_53, ag_i139_56, ag_i139_57, ag_i139_58, ag_i139_59, ag_i139_62, ag_i139_63, ag_i139_64, ag_i139_67, ag_i139_70, ag_i139_71, ag_i139_74, ag_i139_75, ag_i139_76, ag_i139_79, ag_i139_80, ag_i139_81, ag_i139_82, ag_i139_85, ag_i139_86, ag_i139_89, ag_i139_90, ag_i139_91, ag_i139_92, ag_i139_95, ag_i139_96, ag_i139_99, ag_i139_100, ag_i139_103, ag_i139_104, ag_i139_105, ag_i139_106, ag_i139_107, ag_i139_108, ag_i139_111, ag_i139_114, ag_i139_115, ag_i139_116, ag_i139_119, ag_i139_120, ag_i139_121, ag_i139_122, ag_i139_125, ag_i139_126, ag_i139_129, ag_i139_130, ag_i139_133, ag_i139_134, ag_i139_135, ag_i139_138, ag_i139_139, ag_i139_140, ag_i139_141, ag_i139_13_4 _ _ _ _ _ _ (show ag_nm (gp 0 b) = 4 from by rw [k4]; exact ag_nm_4), ag_mv_0, ag_mv_u0, ag_mv_1, ag_mv_u1, ag_mv_2, ag_mv_u2, ag_mv_3, ag_mv_u3, ag_mv_4, ag_mv_u4, ag_mv_5, ag_mv_u5, ag_mv_6, ag_mv_u6, ag_mv_7, ag_mv_u7, ag_mg_0, ag_mg_u0, ag_mg_1, ag_mg_u1, ag_mg_2, ag_mg_u2, ag_mg_3, ag_mg_u3, ag_mg_4, ag_mg_u4, ag_mg_5, ag_mg_u5, ag_mg_6, ag_mg_u6, ag_mg_7, ag_mg_u7, ag_mg_8, ag_mg_u8, ag_mg_9, ag_mg_u9, ag_mg_10, ag_mg_u10, ag_mg_11, ag_mg_u11, ag_mg_12, ag_mg_u12, ag_mg_13, ag_mg_u13, ag_mg_14, ag_mg_u14, ag_mg_15, ag_mg_u15, ag_mg_16, ag_mg_u16, ag_M_g0, ag_M_g1, ag_M_g2, ag_M_g3, ag_M_g4, ag_M_g5, ag_M_g6, ag_M_g7, ag_M_g8, ag_M_g9, ag_M_g10, ag_M_g11, ag_M_g12, ag_M_g13, ag_M_g14, ag_M_g15, ag_M_g16, ag_M_g17, ag_M_g18, ag_M_g19, ag_M_g20, ag_M_g21, ag_M_g22, ag_M_g23, ag_M_g24, ag_M_ck, ag_SM_2, ag_M_p0 h, ag_M_p1 h, ag_M_p2 h, ag_M_p3 h, ag_M_p16 h, ag_M_p18 h, ag_M_p19 h, ag_M_p24 h, ag_M_ia0 h, ag_M_is0 h, ag_M_al0 h, ag_M_ia1 h, ag_M_is1 h, ag_M_al1 h, ag_M_ia2 h, ag_M_is2 h, ag_M_al2 h, ag_M_ia3 h, ag_M_is3 h, ag_M_al3 h, ag_M_ia4 h, ag_M_is4 h, ag_M_al4 h, ag_M_ia5 h, ag_M_is5 h, ag_M_al5 h, ag_M_ia6 h, ag_M_is6 h, ag_M_al6 h, ag_M_ia7 h, ag_M_is7 h, ag_M_al7 h, ag_M_ia8 h, ag_M_is8 h, ag_M_al8 h, ag_M_ia9 h, ag_M_is9 h, ag_M_al9 h, ag_M_ia10 h, ag_M_is10 h, ag_M_al10 h, ag_M_ia11 h, ag_M_is11 h, ag_M_al11 h, ag_M_ia12 h, ag_M_is12 h, ag_M_al12 h, ag_M_ia13 h, ag_M_is13 h, ag_M_al13 h, ag_M_ia14 h, ag_M_is14 h, ag_M_al14 h, ag_M_ia15 h, ag_M_is15 h, ag_M_al15 h, ag_M_ia16 h, ag_M_is16 h, ag_M_al16 h, ag_kk_v, ag_kk_n, Nat.reduceAdd, ag_b0, ag_b1, true_and, or_true, true_or, Int.reduceEq, ne_eq, not_false_eq_true, not_true_eq_false, ↓reduceIte, ib, rr, hPl, hEo, x3]
          · rw [if_neg k4, if_neg (show ¬ (gp 0 b = 3 ∨ gp 0 b = 4) by omega)]
            have k5 : gp 0 b = 5 := by omega
            have t1 := (hV.2.1.2.2 b hb).2.1 k5
            dsimp only at t1
            have ic : ag_inb 20 (gp 1 b) := ag_inb_i t1.1 (by omega) (by decide)
            refine ⟨σ, r, ag_fr_le (ag_fr_refl σ) (by omega) (by omega), hr, fun K => ?_⟩
            simp only [ag_e139, ag_i139_0, ag_i139_1, ag_i139_4, ag_i139_5, ag_i139_6_n, ag_i139_6_i, ag_i139_6_r, ag_i139_7, ag_i139_8, ag_i139_11, ag_i139_12, ag_i139_48, ag_i139_49, ag_i139_50, ag_i139_53, ag_i139_56, ag_i139_57, ag_i139_58, ag_i139_59, ag_i139_62, ag_i139_63, ag_i139_64, ag_i139_67, ag_i139_70, ag_i139_71, ag_i139_74, ag_i139_75, ag_i139_76, ag_i139_79, ag_i139_80, ag_i139_81, ag_i139_82, ag_i139_85, ag_i139_86, ag_i139_89, ag_i139_90, ag_i139_91, ag_i139_92, ag_i139_95, ag_i139_96, ag_i139_99, ag_i139_100, ag_i139_103, ag_i139_104, ag_i139_105, ag_i139_106, ag_i139_107, ag_i139_108, ag_i139_111, ag_i139_114, ag_i139_115, ag_i139_116, ag_i139_119, ag_i139_120, ag_i139_121, ag_i139_122, ag_i139_125, ag_i139_126, ag_i139_129, ag_i139_130, ag_i139_133, ag_i139_134, ag_i139_135, ag_i139_138, ag_i139_139, ag_i139_140, ag_i139_141, ag_i139_13_d _ _ _ _ _ _ (show ag_nm (gp 0 b) < 0 ∨ 4 < ag_nm (gp 0 b) from by rw [k5, ag_nm_5]; decide), ag_mv_0, ag_mv_u0, ag_mv_1, ag_mv_u1, ag_mv_2, ag_mv_u2, ag_mv_3, ag_mv_u3, ag_mv_4, ag_mv_u4, ag_mv_5, ag_mv_u5, ag_mv_6, ag_mv_u6, ag_mv_7, ag_mv_u7, ag_mg_0, ag_mg_u0, ag_mg_1, ag_mg_u1, ag_mg_2, ag_mg_u2, ag_mg_3, ag_mg_u3, ag_mg_4, ag_mg_u4, ag_mg_5, ag_mg_u5, ag_mg_6, ag_mg_u6, ag_mg_7, ag_mg_u7, ag_mg_8, ag_mg_u8, ag_mg_9, ag_mg_u9, ag_mg_10, ag_mg_u10, ag_mg_11, ag_mg_u11, ag_mg_12, ag_mg_u12, ag_mg_13, ag_mg_u13, ag_mg_14, ag_mg_u14, ag_mg_15, ag_mg_u15, ag_mg_16, ag_mg_u16, ag_M_g0, ag_M_g1, ag_M_g2, ag_M_g3, ag_M_g4, ag_M_g5, ag_M_g6, ag_M_g7, ag_M_g8, ag_M_g9, ag_M_g10, ag_M_g11, ag_M_g12, ag_M_g13, ag_M_g14, ag_M_g15, ag_M_g16, ag_M_g17, ag_M_g18, ag_M_g19, ag_M_g20, ag_M_g21, ag_M_g22, ag_M_g23, ag_M_g24, ag_M_ck, ag_SM_2, ag_M_p0 h, ag_M_p1 h, ag_M_p2 h, ag_M_p3 h, ag_M_p16 h, ag_M_p18 h, ag_M_p19 h, ag_M_p24 h, ag_M_ia0 h, ag_M_is0 h, ag_M_al0 h, ag_M_ia1 h, ag_M_is1 h, ag_M_al1 h, ag_M_ia2 h, ag_M_is2 h, ag_M_al2 h, ag_M_ia3 h, ag_M_is3 h, ag_M_al3 h, ag_M_ia4 h, ag_M_is4 h, ag_M_al4 h, ag_M_ia5 h, ag_M_is5 h, ag_M_al5 h, ag_M_ia6 h, ag_M_is6 h, ag_M_al6 h, ag_M_ia7 h, ag_M_is7 h, ag_M_al7 h, ag_M_ia8 h, ag_M_is8 h, ag_M_al8 h, ag_M_ia9 h, ag_M_is9 h, ag_M_al9 h, ag_M_ia10 h, ag_M_is10 h, ag_M_al10 h, ag_M_ia11 h, ag_M_is11 h, ag_M_al11 h, ag_M_ia12 h, ag_M_is12 h, ag_M_al12 h, ag_M_ia13 h, ag_M_is13 h, ag_M_al13 h, ag_M_ia14 h, ag_M_is14 h, ag_M_al14 h, ag_M_ia15 h, ag_M_is15 h, ag_M_al15 h, ag_M_ia16 h, ag_M_is16 h, ag_M_al16 h, ag_kk_v, ag_kk_n, Nat.reduceAdd, ag_b0, ag_b1, true_and, or_true, true_or, Int.reduceEq, ne_eq, not_false_eq_true, not_true_eq_false, ↓reduceIte, ib, ic, rr]
end AGR6
