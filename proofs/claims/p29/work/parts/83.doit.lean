/-! THE HOUSE: doIt of a CHANGE, a REPLACE, a WITHIN. -/
variable {B : Nat}
/-- what doIt leaves -/
def ag_gdo (ln : Nat → Nat) (g : Nat → Nat → Int) (ln' : Nat → Nat) (g' : Nat → Nat → Int) : Prop := ∀ r, r = 4 ∨ (6 ≤ r ∧ r ≤ 8) ∨ (400 ≤ r ∧ r < 500) → ln' r = ln r ∧ g' r = g r
theorem ag_gd_refl (ln : Nat → Nat) (g : Nat → Nat → Int) : ag_gdo ln g ln g := fun _ _ => ⟨rfl, rfl⟩
theorem ag_gd_trans {ln ln' ln'' : Nat → Nat} {g g' g'' : Nat → Nat → Int} (h : ag_gdo ln g ln' g') (h2 : ag_gdo ln' g' ln'' g'') : ag_gdo ln g ln'' g'' := fun r hr => ⟨(h2 r hr).1.trans (h r hr).1, (h2 r hr).2.trans (h r hr).2⟩
theorem ag_gd_g3 {ln : Nat → Nat} {g g' : Nat → Nat → Int} (h : ag_g3 g g') : ag_gdo ln g ln g' := fun r hr => ⟨rfl, h r (by omega)⟩
theorem ag_gd_gc {ln ln' : Nat → Nat} {g g' : Nat → Nat → Int} (h : ag_gc ln g ln' g') : ag_gdo ln g ln' g' := fun r hr => h r (by omega)
theorem ag_kds_cg {ln ln' : Nat → Nat} {g g' : Nat → Nat → Int} {k : Nat} (h : ln' (200 + k) = ln (200 + k) ∧ g' (200 + k) = g (200 + k)) : ag_kds ln' g' k = ag_kds ln g k := by
  unfold ag_kds
  rw [h.1, h.2]
theorem ag_kdo_cg {gb : Nat → Nat → Int} {n : Nat} {kd kd' : Nat → List Int} (h : ∀ k, k ≤ 40 → kd' k = kd k) (hk : ag_kdo gb n kd) : ag_kdo gb n kd' := ⟨(h 40 (Nat.le_refl _)).trans hk.1, fun k hk2 => (h k (by omega)).trans (hk.2 k hk2)⟩
theorem ag_TC_g3 {gb : Nat → Nat → Int} {w n : Nat} {ln : Nat → Nat} {g g' : Nat → Nat → Int} (hw : w ≤ 40) (t : ag_TC gb w n ln g) (h : ag_g3 g g') : ag_TC gb w n ln g' := by
  refine ⟨t.1, t.2.1, fun c hc => ?_, ag_kdo_cg (fun k hk => ag_kds_cg ⟨rfl, h _ (by omega)⟩) t.2.2.2⟩
  rw [h (100 + c) (by omega)]
  exact t.2.2.1 c hc
theorem ag_TP_g3 {gq : Nat → Nat → Int} {nq : Nat} {ln : Nat → Nat} {g g' : Nat → Nat → Int} (t : ag_TP gq nq ln g) (h : ag_g3 g g') : ag_TP gq nq ln g' := by
  refine ⟨t.1, fun p hp => ?_⟩
  rw [h (500 + p) (by omega)]
  exact t.2 p hp
theorem ag_ug_sf (g : Nat → Nat → Int) (k : Nat) : ag_ug g k (g k) = g := by
  funext j
  unfold ag_ug
  by_cases c : j = k
  · rw [if_pos c, c]
  · rw [if_neg c]
theorem ag_slt_up {w : Nat} {u : Int} {sl : Nat} (h : ag_slt w u sl) (hw : w ≤ 40) : ag_slt 40 u sl := by
  rcases h with h | ⟨z, h1, h2, h3⟩
  · exact Or.inl h
  · exact Or.inr ⟨z, h1, by omega, h3⟩
theorem ag_slt_eq {u u' : Int} {sl sl' : Nat} (h : ag_slt 40 u sl) (h' : ag_slt 40 u' sl') : sl = sl' ↔ u = u' := by
  rcases h with ⟨h1, h2⟩ | ⟨z, h1, h2, h3⟩ <;> rcases h' with ⟨k1, k2⟩ | ⟨y, k1, k2, k3⟩ <;> omega
theorem ag_kdo_iff {gb : Nat → Nat → Int} {n : Nat} {kd : Nat → List Int} : ag_kdo gb n kd ↔ ∀ u sl, ag_slt 40 u sl → kd sl = ag_kid (ag_prl gb n) u := by
  constructor
  · intro h u sl hs
    rcases hs with ⟨h1, h2⟩ | ⟨z, h1, h2, h3⟩
    · rw [h1, h2]
      exact h.1
    · rw [h1, h3]
      exact h.2 z h2
  · intro h
    exact ⟨h _ _ (Or.inl ⟨rfl, rfl⟩), fun k hk => h _ _ (Or.inr ⟨k, rfl, hk, rfl⟩)⟩
/-- a clause put in -/
theorem ag_TC_ins {gb G : Nat → Nat → Int} {w n place : Nat} {ln ln' : Nat → Nat} {g g' : Nat → Nat → Int} {x u hh y : Int} {sl k : Nat} (hB : ag_IB gb w n) (hB' : ag_IB G (w + 1) (n + 1)) (t : ag_TC gb w n ln g) (hp : place ≤ n) (h6 : G 6 = ag_ui (ag_sh (gb 6) place n) place w) (h0 : G 0 = ag_ui (gb 0) w x) (h1 : G 1 = ag_ui (gb 1) w u) (h2 : G 2 = ag_ui (gb 2) w hh) (h3 : G 3 = ag_ui (gb 3) w y) (hu : ag_slt w u sl) (hk : (ag_kid (ag_sgm gb 0 place) u).length = k)
    (l1 : ln' 1 = w + 1) (l2 : ln' 2 = 41) (lr : ∀ r, r ≠ 1 → r ≠ 100 + w → r ≠ 200 + sl → ln' r = ln r ∧ g' r = g r) (lw : ln' (100 + w) = 5 ∧ g' (100 + w) 0 = x ∧ g' (100 + w) 1 = u ∧ g' (100 + w) 2 = hh ∧ g' (100 + w) 3 = y ∧ g' (100 + w) 4 = 0) (lk : ag_kds ln' g' sl = (ag_kds ln g sl).take k ++ (w : Int) :: (ag_kds ln g sl).drop k) :
    ag_TC G (w + 1) (n + 1) ln' g' := by
  have hw : w + 1 ≤ 40 := hB'.1.2.2.2
  obtain ⟨f1, f2, f3⟩ := ag_kid_ins hB hp h6 h1
  have s40 := (ag_slt_40 hu (by omega)).1
  refine ⟨l1, l2, fun c hc => ?_, ag_kdo_iff.mpr fun u' sl' hs' => ?_⟩
  · have e5 : (G 5 c = -1) ↔ (c < w ∧ gb 5 c = -1) := by
      rw [ag_IB_in hB' hc]
      have q : (∀ i, i < n + 1 → G 6 i ≠ c) ↔ ¬ ∃ u', ((c : Int), u') ∈ ag_prl G (n + 1) := by
        rw [← ag_prl_fst]
        exact ⟨fun a ⟨i, i1, i2⟩ => a i i1 i2, fun a i i1 i2 => a ⟨i, i1, i2⟩⟩
      rw [q, ag_prl_ins hB hp h6 h1]
      by_cases cw : c = w
      · subst cw
        exact ⟨fun a => absurd ⟨u, List.mem_append.mpr (Or.inr (List.mem_cons_self))⟩ a, fun a => by omega⟩
      · rw [ag_IB_in hB (show c < w by omega)]
        have q2 : (∀ i, i < n → gb 6 i ≠ c) ↔ ¬ ∃ u', ((c : Int), u') ∈ ag_prl gb n := by
          rw [← ag_prl_fst]
          exact ⟨fun a ⟨i, i1, i2⟩ => a i i1 i2, fun a i i1 i2 => a ⟨i, i1, i2⟩⟩
        rw [q2, ← ag_sgm_all, ag_sgm_app (b := place) (Nat.zero_le _) hp]
        constructor
        · intro a
          refine ⟨by omega, fun ⟨u', hu'⟩ => a ⟨u', ?_⟩⟩
          rcases List.mem_append.mp hu' with z | z
          · exact List.mem_append.mpr (Or.inl z)
          · exact List.mem_append.mpr (Or.inr (List.mem_cons_of_mem _ z))
        · intro a ⟨u', hu'⟩
          refine a.2 ⟨u', ?_⟩
          rcases List.mem_append.mp hu' with z | z
          · exact List.mem_append.mpr (Or.inl z)
          · rcases List.mem_cons.mp z with y | y
            · have := congrArg Prod.fst y
              have : (c : Int) = w := this
              omega
            · exact List.mem_append.mpr (Or.inr y)
    by_cases cw : c = w
    · subst cw
      obtain ⟨a, b0, b1, b2, b3, b4⟩ := lw
      rw [h0, h1, h2, h3, ag_ui_eq9, ag_ui_eq9, ag_ui_eq9, ag_ui_eq9, if_neg (fun z => by have := e5.mp z; omega)]
      exact ⟨a, b0, b1, b2, b3, b4⟩
    · have hcw : c < w := by omega
      have ui : ∀ (f : Nat → Int) (v : Int), ag_ui f w v c = f c := fun f v => if_neg cw
      obtain ⟨z1, z2⟩ := lr (100 + c) (by omega) (by omega) (by omega)
      rw [z1, z2, h0, h1, h2, h3, ui, ui, ui, ui]
      obtain ⟨a, b0, b1, b2, b3, b4⟩ := t.2.2.1 c hcw
      refine ⟨a, b0, b1, b2, b3, b4.trans ?_⟩
      by_cases q : gb 5 c = -1
      · rw [if_pos q, if_pos (e5.mpr ⟨hcw, q⟩)]
      · rw [if_neg q, if_neg (fun z => q (e5.mp z).2)]
  · have hu4 := ag_slt_up hu (show w ≤ 40 by omega)
    have old := ag_kdo_iff.mp t.2.2.2
    by_cases e : u' = u
    · have es : sl' = sl := (ag_slt_eq hs' hu4).mpr e
      rw [es, e, lk, f2, old u sl hu4, f1, ← hk, List.take_left, List.drop_left]
    · have es : sl' ≠ sl := fun z => e ((ag_slt_eq hs' hu4).mp z)
      have s40' := (ag_slt_40 hs' (Nat.le_refl _)).1
      rw [f3 u' e, ← old u' sl' hs']
      exact ag_kds_cg (lr (200 + sl') (by omega) (by omega) (by omega))
section AGHE
variable {σ : ag_S} {L ln : Nat → Nat} {g : Nat → Nat → Int} {dr qu mi : Int} {gb gp gh gq X : Nat → Nat → Int} {w n m np nq : Nat} {a3 a4 a5 a6 a7 a8 a9 a10 a11 a12 a13 a14 : Option ag_V}
theorem ag_d_384 (h : ag_HS B σ L ln g dr qu mi) (ta : ag_TA gp m ln g) (hsp : ag_sm gp) {b : Nat} (hb : b < m) (k0 : gp 0 b ≠ 0) (K : ag_Rs → ag_S → Prop) : ag_wp 118 384 [some (ag_R B), some (ag_I (b : Int)), some (ag_R (L (300 + b))), a3, a4, a5, a6, a7, a8, a9, a10, a11, a12, a13, a14] [] σ K = K (Sum.inl none) σ := by
  have enm := fun k i => ag_nm_s hsp k i
  rw [ag_i118_384]
  simp only [ag_i118_385, ag_i118_386, ag_a_i0 h ta hb, ag_i118_387, enm, ag_nm_z]
  rw [if_pos (show gp 0 b ≠ 0 from k0)]
  simp only [ag_i118_545]
theorem ag_d_217 (h : ag_HS B σ L ln g dr qu mi) (ta : ag_TA gp m ln g) (hsp : ag_sm gp) {b : Nat} (hb : b < m) (k1 : gp 0 b ≠ 1) (K : ag_Rs → ag_S → Prop) : ag_wp 118 217 [some (ag_R B), some (ag_I (b : Int)), some (ag_R (L (300 + b))), a3, a4, a5, a6, a7, a8, a9, a10, a11, a12, a13, a14] [] σ K = ag_wp 118 384 [some (ag_R B), some (ag_I (b : Int)), some (ag_R (L (300 + b))), a3, a4, a5, a6, a7, a8, a9, a10, a11, a12, a13, a14] [] σ K := by
  have enm := fun k i => ag_nm_s hsp k i
  rw [ag_i118_217]
  simp only [ag_i118_218, ag_i118_219, ag_a_i0 h ta hb, ag_i118_220, ag_i118_221, enm, ag_nm_1]
  rw [if_pos (show gp 0 b ≠ 1 from k1)]
theorem ag_d_101 (h : ag_HS B σ L ln g dr qu mi) (ta : ag_TA gp m ln g) (hsp : ag_sm gp) {b : Nat} (hb : b < m) (k1 : gp 0 b ≠ 3) (K : ag_Rs → ag_S → Prop) : ag_wp 118 101 [some (ag_R B), some (ag_I (b : Int)), some (ag_R (L (300 + b))), a3, a4, a5, a6, a7, a8, a9, a10, a11, a12, a13, a14] [] σ K = ag_wp 118 217 [some (ag_R B), some (ag_I (b : Int)), some (ag_R (L (300 + b))), a3, a4, a5, a6, a7, a8, a9, a10, a11, a12, a13, a14] [] σ K := by
  have enm := fun k i => ag_nm_s hsp k i
  rw [ag_i118_101]
  simp only [ag_i118_102, ag_i118_103, ag_a_i0 h ta hb, ag_i118_104, ag_i118_105, enm, ag_nmk_3]
  rw [if_pos (show gp 0 b ≠ 3 from k1)]
theorem ag_d_75 (h : ag_HS B σ L ln g dr qu mi) (ta : ag_TA gp m ln g) (hsp : ag_sm gp) {b : Nat} (hb : b < m) (k1 : gp 0 b ≠ 4) (K : ag_Rs → ag_S → Prop) : ag_wp 118 75 [some (ag_R B), some (ag_I (b : Int)), some (ag_R (L (300 + b))), a3, a4, a5, a6, a7, a8, a9, a10, a11, a12, a13, a14] [] σ K = ag_wp 118 101 [some (ag_R B), some (ag_I (b : Int)), some (ag_R (L (300 + b))), a3, a4, a5, a6, a7, a8, a9, a10, a11, a12, a13, a14] [] σ K := by
  have enm := fun k i => ag_nm_s hsp k i
  rw [ag_i118_75]
  simp only [ag_i118_76, ag_i118_77, ag_a_i0 h ta hb, ag_i118_78, ag_i118_79, enm, ag_nmk_4]
  rw [if_pos (show gp 0 b ≠ 4 from k1)]
theorem ag_d_57 (h : ag_HS B σ L ln g dr qu mi) (ta : ag_TA gp m ln g) (hsp : ag_sm gp) {b : Nat} (hb : b < m) (k1 : gp 0 b ≠ 2) (K : ag_Rs → ag_S → Prop) : ag_wp 118 57 [some (ag_R B), some (ag_I (b : Int)), some (ag_R (L (300 + b))), a3, a4, a5, a6, a7, a8, a9, a10, a11, a12, a13, a14] [] σ K = ag_wp 118 75 [some (ag_R B), some (ag_I (b : Int)), some (ag_R (L (300 + b))), a3, a4, a5, a6, a7, a8, a9, a10, a11, a12, a13, a14] [] σ K := by
  have enm := fun k i => ag_nm_s hsp k i
  rw [ag_i118_57]
  simp only [ag_i118_58, ag_i118_59, ag_a_i0 h ta hb, ag_i118_60, ag_i118_61, enm, ag_nmk_2]
  rw [if_pos (show gp 0 b ≠ 2 from k1)]
/-- what doIt comes to -/
def ag_DO (B : Nat) (σ : ag_S) (L ln : Nat → Nat) (g : Nat → Nat → Int) (dr qu mi : Int) (gb : Nat → Nat → Int) (w n : Nat) (gp : Nat → Nat → Int) (m : Nat) (gq : Nat → Nat → Int) (nq b : Nat) : Prop :=
  ∃ σ' L' ln' g', ag_HS B σ' L' ln' g' dr qu mi ∧ ag_TC (ag_pfm gb w n gp b).1 (ag_pfm gb w n gp b).2.1 (ag_pfm gb w n gp b).2.2.1 ln' g' ∧ ag_TA (ag_pfm gb w n gp b).2.2.2 m ln' g' ∧ ag_TP (ag_ug gq 0 (ag_tpf gb n gp (gq 0) nq b)) nq ln' g' ∧ ag_gdo ln g ln' g' ∧ ag_hf B σ σ' 400 7000 ∧ ∀ K : ag_Rs → ag_S → Prop, ag_cl9 118 [ag_R B, ag_I (b : Int)] σ K = K (Sum.inl none) σ'
theorem ag_tpf_no {gb gp : Nat → Nat → Int} {n b nq : Nat} (k0 : gp 0 b ≠ 0) : ag_ug gq 0 (ag_tpf gb n gp (gq 0) nq b) = gq := by
  unfold ag_tpf
  rw [if_neg k0]
  exact ag_ug_sf gq 0
theorem ag_d_5 (h : ag_HS B σ L ln g dr qu mi) (t : ag_TC gb w n ln g) (ta : ag_TA gp m ln g) (tp : ag_TP gq nq ln g) (hV : ag_IV (gb, (w, (n, gp))) m) {b : Nat} (hb : b < m) (k5 : gp 0 b = 5) : ag_DO B σ L ln g dr qu mi gb w n gp m gq nq b := by
  have hB : ag_IB gb w n := hV.1
  have hsp : ag_sm gp := hV.2.1.1.2.1
  have hm : m ≤ 20 := hV.2.1.1.2.2
  have hw : w ≤ 40 := hB.1.2.2.2
  have enm := fun k i => ag_nm_s hsp k i
  have t1 : 0 ≤ gp 1 b ∧ gp 1 b < m ∧ 2 ≤ gp 0 (gp 1 b).toNat ∧ gp 0 (gp 1 b).toNat ≤ 4 := (hV.2.1.2.2 b hb).2.1 k5
  obtain ⟨c, hc⟩ : ∃ c : Nat, gp 1 b = c := ⟨(gp 1 b).toNat, by omega⟩
  have hcm : c < m := by omega
  obtain ⟨σ1, g1, a1, a2, a3, a4, a5⟩ := ag_a_w h ta hm hcm (j := 2) (by decide) (hsp 2 b).1 (hsp 2 b).2
  have hpf : ag_pfm gb w n gp b = (gb, (w, (n, ag_ug gp 2 (ag_ui (gp 2) c (gp 2 b))))) := by
    unfold ag_pfm
    rw [if_neg (by omega), if_neg (by omega), if_neg (by omega), if_neg (by omega), if_neg (by omega), hc, ag_wr_nat _ (by decide) (by omega)]
  refine ⟨σ1, L, ln, g1, a1, ?_, ?_, ?_, ag_gd_g3 a3, ag_hf_le a4 (by omega) (by omega), fun K => ?_⟩
  · rw [hpf]
    exact ag_TC_g3 hw t a3
  · rw [hpf]
    exact a2
  · rw [ag_tpf_no (by omega)]
    exact ag_TP_g3 tp a3
  · have w2 := fun K => a5 2 K rfl
    have r1 : ∀ K : Int → Prop, ag_ia σ (L (300 + b)) 1 K = K (c : Int) := fun K => by rw [ag_a_i1 h ta hb K, hc]
    simp only [ag_e118, ag_i118_0, ag_i118_1, ag_h_g5 h, ag_i118_4, ag_i118_5, ag_a_q h ta hb (x := (b : Int)) rfl, ag_i118_6_n, ag_i118_6_i, ag_i118_6_r, ag_i118_7, ag_i118_8, ag_i118_9, r1, ag_i118_10_n, ag_i118_10_i, ag_i118_10_r, ag_i118_11, ag_i118_12, ag_i118_13, ag_a_i0 h ta hb, ag_i118_14, ag_i118_15, enm, ag_nmk_5]
    rw [if_neg (show ¬ gp 0 b ≠ 5 by omega)]
    simp only [ag_i118_18, ag_i118_19, ag_h_g5 h, ag_i118_22, ag_i118_23, ag_a_q h ta hcm (x := (c : Int)) rfl, ag_i118_24, ag_i118_25, ag_i118_26, ag_i118_27, ag_a_i2 h ta hb, ag_i118_28, w2, ag_i118_29]
theorem ag_d_2 (h : ag_HS B σ L ln g dr qu mi) (t : ag_TC gb w n ln g) (ta : ag_TA gp m ln g) (tp : ag_TP gq nq ln g) (hV : ag_IV (gb, (w, (n, gp))) m) {b : Nat} (hb : b < m) (k2 : gp 0 b = 2) (hl : gp 3 b = 0) : ag_DO B σ L ln g dr qu mi gb w n gp m gq nq b := by
  have hB : ag_IB gb w n := hV.1
  have hsp : ag_sm gp := hV.2.1.1.2.1
  have hw : w ≤ 40 := hB.1.2.2.2
  have enm := fun k i => ag_nm_s hsp k i
  obtain ⟨⟨p, e, hp1, hp6, hp5, hp3, hp2, hpb, hpe, hc0, hc1⟩, -⟩ := ag_lhd_of hV hb hl (by omega)
  obtain ⟨c, e6, hc, -, epg, ehg⟩ := ag_pg_nat hB hp1
  have ec : gp 1 b = c := hp6.symm.trans e6
  obtain ⟨sl, hu⟩ := ag_slt_of hB hp1
  obtain ⟨⟨A, C, hA, hno, -⟩, -⟩ := ag_kid_strike hB hp1 hpb
  rw [epg] at hu hA
  rw [e6] at hA hno
  have pre := fun K => ag_d_pre h t ta hV hb (by omega) hp1 e6 ec hc hu hA hno K
  obtain ⟨σ1, g1, a1, a2, a3, a4, -, -, a5⟩ := ag_r_w h (ag_TC_CR t) hc (j := 0) (by decide) (hsp 2 b).1 (hsp 2 b).2
  have g3 : ag_gc ln g ln g1 := fun r hr => ⟨rfl, a3 r (by omega)⟩
  have ta1 := ag_TA_gc g3 ta
  have hpf : ag_pfm gb w n gp b = (ag_ug gb 0 (ag_ui (gb 0) c (gp 2 b)), (w, (n, gp))) := by
    unfold ag_pfm
    rw [if_neg (by omega), if_neg (by omega), if_pos k2, ec, ag_wr_nat _ (by decide) (by omega)]
  refine ⟨σ1, L, ln, g1, a1, ?_, ?_, ?_, ag_gd_gc g3, ag_hf_le a4 (by omega) (by omega), fun K => ?_⟩
  · rw [hpf]
    refine ag_TC_of a2 t.2.1 (fun c' hc' j hj => ?_) (ag_kdo_cg (kd := ag_kds ln g) (fun k hk => ag_kds_cg ⟨rfl, a3 _ (by omega)⟩) t.2.2.2)
    have h5 : j = 0 ∨ j = 1 ∨ j = 2 ∨ j = 3 ∨ j = 4 := by omega
    rcases h5 with h5 | h5 | h5 | h5 | h5 <;> subst h5 <;> rfl
  · rw [hpf]
    exact ta1
  · rw [ag_tpf_no (by omega)]
    exact ag_TP_gc g3 tp
  · have w0 := fun K => a5 0 K rfl
    rw [pre, ag_i118_57]
    simp only [ag_i118_58, ag_i118_59, ag_a_i0 h ta hb, ag_i118_60, ag_i118_61, enm, ag_nmk_2]
    rw [if_neg (show ¬ gp 0 b ≠ 2 by omega)]
    simp only [ag_i118_64, ag_i118_65, ag_h_g3 h, ag_i118_68, ag_i118_69, ag_c_q h t hc (x := (c : Int)) rfl, ag_i118_70, ag_i118_71, ag_i118_72, ag_i118_73, ag_a_i2 h ta hb, ag_i118_74, w0]
    rw [ag_d_75 a1 ta1 hsp hb (by omega), ag_d_101 a1 ta1 hsp hb (by omega), ag_d_217 a1 ta1 hsp hb (by omega), ag_d_384 a1 ta1 hsp hb (by omega)]
theorem ag_gi_rows {gb : Nat → Nat → Int} {w n place : Nat} {u x hh : Int} : ag_gi gb w n place u x hh 0 = ag_ui (gb 0) w x ∧ ag_gi gb w n place u x hh 1 = ag_ui (gb 1) w u ∧ ag_gi gb w n place u x hh 2 = ag_ui (gb 2) w hh ∧ ag_gi gb w n place u x hh 3 = ag_ui (gb 3) w (-1) ∧ ag_gi gb w n place u x hh 6 = ag_ui (ag_sh (gb 6) place n) place w := ⟨rfl, rfl, rfl, rfl, rfl⟩
theorem ag_ui_ui (f : Nat → Int) (i : Nat) (x y : Int) : ag_ui (ag_ui f i x) i y = ag_ui f i y := by
  funext z
  unfold ag_ui
  by_cases c : z = i
  · rw [if_pos c, if_pos c]
  · rw [if_neg c, if_neg c, if_neg c]
theorem ag_d_4 (h : ag_HS B σ L ln g dr qu mi) (t : ag_TC gb w n ln g) (ta : ag_TA gp m ln g) (tp : ag_TP gq nq ln g) (hV : ag_IV (gb, (w, (n, gp))) m) {b : Nat} (hb : b < m) (k4 : gp 0 b = 4) (hl : gp 3 b = 0) (hf : ag_ftb gb w n gp b ≠ 0) : ag_DO B σ L ln g dr qu mi gb w n gp m gq nq b := by
  have hB : ag_IB gb w n := hV.1
  have hsp : ag_sm gp := hV.2.1.1.2.1
  have hm : m ≤ 20 := hV.2.1.1.2.2
  have hs : ag_sm gb := hB.1.2.1
  have enm := fun k i => ag_nm_s hsp k i
  have hPI := ag_pfm_I hV hb hl hf
  have hB' : ag_IB (ag_pfm gb w n gp b).1 (ag_pfm gb w n gp b).2.1 (ag_pfm gb w n gp b).2.2.1 := hPI.1
  have hw : w < 40 := by
    unfold ag_ftb ag_fit at hf
    rw [if_neg (by omega), if_neg (by omega), if_pos k4] at hf
    by_cases z : 40 ≤ w
    · rw [if_pos z] at hf
      exact absurd rfl hf
    · omega
  obtain ⟨⟨p, e, hp1, hp6, hp5, hp3, hp2, hpb, hpe, hc0, hc1⟩, -⟩ := ag_lhd_of hV hb hl (by omega)
  obtain ⟨c, e6, hc, -, epg, ehg⟩ := ag_pg_nat hB hp1
  have ec : gp 1 b = c := hp6.symm.trans e6
  obtain ⟨sl, hu⟩ := ag_slt_of hB hp1
  obtain ⟨⟨A, C, hA, hno, -⟩, -⟩ := ag_kid_strike hB hp1 hpb
  rw [epg] at hu hA
  rw [e6] at hA hno
  have pre := fun K => ag_d_pre h t ta hV hb (by omega) hp1 e6 ec hc hu hA hno K
  have hsl : ag_slt w (c : Int) c := Or.inr ⟨c, rfl, hc, rfl⟩
  obtain ⟨q1, q2⟩ := ag_kds_u t.2.2.2 (Nat.le_of_lt hw) hsl
  have hn40 : n ≤ 40 := by have := hB.1.2.2.1; omega
  have hbs := hB.2.2.2 p hp1
  have hh99 : gb 2 c ≤ 99 := by
    have := (ag_IB_hg hB hp1).2
    omega
  obtain ⟨σ1, L1, ln1, g1, a1, a2, a3, a4, a5, a6, a7, a8⟩ := ag_h_create h t hs hw (u := (c : Int)) (x := gp 2 b) (y := (b : Int)) (sl := c) (k := ln (200 + c)) hsl (hsp 2 b).1 (hsp 2 b).2 (by omega) (by omega) (Nat.le_refl _) (by omega) (fun z hz => by
    have : z = c := by omega
    rw [this]
    exact hh99)
  have g3 : ag_gc ln g ln1 g1 := fun r hr => (a5 r (by omega) (by omega) (by omega)).2
  have ta1 := ag_TA_gc g3 ta
  obtain ⟨σ2, g2, b1, b2, b3, b4, b5⟩ := ag_a_w a1 ta1 hm hb (j := 5) (by decide) (v := (w : Int)) (by omega) (by omega)
  have hLb : L1 (300 + b) = L (300 + b) := (a5 (300 + b) (by omega) (by omega) (by omega)).1
  have hpf : ag_pfm gb w n gp b = (ag_ug (ag_G4 gb w n (c : Int) (gp 2 b)) 3 (ag_ui (ag_G4 gb w n (c : Int) (gp 2 b) 3) w b), (w + 1, (n + 1, ag_ug gp 5 (ag_ui (gp 5) b w)))) := by
    unfold ag_pfm
    rw [if_neg (by omega), if_neg (by omega), if_neg (by omega), if_neg (by omega), if_pos k4, ec, ag_wr_nat _ (by decide) hw, ag_wr_nat _ (by decide) (by omega)]
  have hsp2 : ag_sm (ag_ug gp 5 (ag_ui (gp 5) b w)) := ag_sm_ug9 hsp fun z => by
    have := hsp 5 z
    unfold ag_ui
    split <;> omega
  have hpc : ag_edd gb n (c : Int) = e := by rw [← ec, ← hpe]
  have k0 : (c : Int) = gb 6 p := e6.symm
  have hnone : ag_kid (ag_sgm gb e n) (c : Int) = [] := ag_kid_no fun i i1 i2 => by
    rw [k0]
    exact ag_pg_out hB hpb i2 (Or.inr i1) (Nat.le_refl p) hpb.1
  have hlen : (ag_kid (ag_sgm gb 0 e) (c : Int)).length = ln (200 + c) := by
    have z1 : ag_kid (ag_prl gb n) (c : Int) = ag_kid (ag_sgm gb 0 e) (c : Int) := by
      rw [← ag_sgm_all, ag_sgm_app (b := e) (Nat.zero_le _) hpb.2.1, ag_kid_app, hnone, List.append_nil]
    rw [← z1, ← q1, ag_kds_len]
  have hT : ag_TC (ag_pfm gb w n gp b).1 (ag_pfm gb w n gp b).2.1 (ag_pfm gb w n gp b).2.2.1 ln1 g1 := by
    rw [hpf] at hB' ⊢
    refine ag_TC_ins (place := e) (x := gp 2 b) (u := (c : Int)) (hh := gb 2 c + 1) (y := (b : Int)) (sl := c) (k := ln (200 + c)) hB hB' t hpb.2.1 ?_ ?_ ?_ ?_ ?_ hsl hlen a3 a4 (fun r r1 r2 r3 => (a5 r r1 r2 r3).2) ?_ a7
    · show ag_G4 gb w n (c : Int) (gp 2 b) 6 = _
      unfold ag_G4
      rw [hpc]
      exact ag_gi_rows.2.2.2.2
    · rfl
    · rfl
    · show ag_ui (gb 2) w (ag_hun gb (c : Int)) = _
      unfold ag_hun
      rw [ag_nm_nat (show c ≤ 1000000 by omega), if_neg (show ¬ (c : Int) = -1 by omega), ag_rd_nat (by decide) (by omega)]
    · show ag_ui (ag_ui (gb 3) w (-1)) w b = _
      exact ag_ui_ui _ _ _ _
    · obtain ⟨z0, z1, z2, z3, z4, z5⟩ := a6
      refine ⟨z0, z1, z2, z3.trans ?_, z4, z5⟩
      rw [if_neg (by omega), Int.toNat_natCast]
  refine ⟨σ2, L1, ln1, g2, b1, ag_TC_g3 hB'.1.2.2.2 hT b3, ?_, ?_, ag_gd_trans (ag_gd_gc g3) (ag_gd_g3 b3), ag_hf_le (ag_hf_trans a2 b4) (by omega) (by omega), fun K => ?_⟩
  · rw [hpf]
    exact b2
  · rw [ag_tpf_no (by omega)]
    exact ag_TP_g3 (ag_TP_gc g3 tp) b3
  · have w5 := fun K => b5 5 K rfl
    rw [hLb] at w5
    rw [pre, ag_d_57 h ta hsp hb (by omega), ag_i118_75]
    simp only [ag_i118_76, ag_i118_77, ag_a_i0 h ta hb, ag_i118_78, ag_i118_79, enm, ag_nmk_4]
    rw [if_neg (show ¬ gp 0 b ≠ 4 by omega)]
    simp only [ag_i118_82, ag_i118_83, ag_i118_84, ag_i118_85, ag_i118_86, ag_i118_87, ag_i118_88, ag_a_i2 h ta hb, ag_i118_89, ag_i118_90, ag_i118_91, ag_h_g4 h, ag_i118_94, ag_i118_95, ag_k_q h t (show c ≤ 40 by omega) (x := (c : Int)) rfl, ag_i118_96, ag_h_lal h (ag_k_lv t (show c ≤ 40 by omega)), ag_i118_97, ag_h_ck h, a8, ag_kk_v, ag_kk_n, Nat.reduceAdd, ag_i118_100, w5]
    rw [← hLb, ag_d_101 b1 b2 hsp2 hb (by show gp 0 b ≠ 3; omega), ag_d_217 b1 b2 hsp2 hb (by show gp 0 b ≠ 1; omega), ag_d_384 b1 b2 hsp2 hb (by show gp 0 b ≠ 0; omega)]
end AGHE
