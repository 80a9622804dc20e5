/-! THE HOUSE: doIt of a MOVE. -/
variable {B : Nat}
theorem ag_rdl_cg {kd kd' : Nat → List Int} : ∀ (k : Nat) (l : List Int), (∀ x ∈ ag_rdl kd k l, kd' x.toNat = kd x.toNat) → ag_rdl kd' k l = ag_rdl kd k l ∧ (ag_rok kd k l → ag_rok kd' k l) := by
  intro k
  induction k with
  | zero => intro l _; exact ⟨rfl, fun h => h⟩
  | succ k ih =>
    intro l
    induction l with
    | nil => intro _; exact ⟨rfl, fun _ c hc => absurd hc (List.not_mem_nil)⟩
    | cons a l ihl =>
      intro h
      have ea : ag_rdl kd (k + 1) (a :: l) = a :: ag_rdl kd k (kd a.toNat) ++ ag_rdl kd (k + 1) l := by
        show (a :: l).flatMap (fun c => c :: ag_rdl kd k (kd c.toNat)) = _
        rw [List.flatMap_cons]
        rfl
      have ea' : ag_rdl kd' (k + 1) (a :: l) = a :: ag_rdl kd' k (kd' a.toNat) ++ ag_rdl kd' (k + 1) l := by
        show (a :: l).flatMap (fun c => c :: ag_rdl kd' k (kd' c.toNat)) = _
        rw [List.flatMap_cons]
        rfl
      rw [ea] at h
      have h0 := h a (List.mem_append_left _ List.mem_cons_self)
      obtain ⟨i1, i2⟩ := ih (kd a.toNat) (fun x hx => h x (List.mem_append_left _ (List.mem_cons_of_mem _ hx)))
      obtain ⟨j1, j2⟩ := ihl (fun x hx => h x (List.mem_append_right _ hx))
      refine ⟨by rw [ea, ea', h0, i1, j1], fun hr c hc => ?_⟩
      rcases List.mem_cons.mp hc with y | y
      · subst y
        obtain ⟨z, z1, z2, z3⟩ := hr c List.mem_cons_self
        refine ⟨z, z1, z2, ?_⟩
        have e9 : c.toNat = z := by omega
        rw [e9] at h0 i2
        rw [h0]
        exact i2 z3
      · exact j2 (fun c hc => hr c (List.mem_cons_of_mem _ hc)) c y
theorem ag_take_1 (A C : List Int) (x c : Int) : (A ++ x :: C).take (A.length + 1) ++ c :: (A ++ x :: C).drop (A.length + 1) = A ++ x :: c :: C := by
  have e : A ++ x :: C = (A ++ [x]) ++ C := by simp
  rw [e, List.take_left' (by simp), List.drop_left' (by simp), List.append_assoc]
  rfl
/-- heights from p to s are raised by d -/
def ag_xrs (gb : Nat → Nat → Int) (p s : Nat) (d : Int) (H : Nat → Int) : Prop := (∀ i, p ≤ i → i < s → H (gb 6 i).toNat = gb 2 (gb 6 i).toNat + d) ∧ ∀ c : Nat, (∀ i, p ≤ i → i < s → gb 6 i ≠ c) → H c = gb 2 c
theorem ag_xrs_s {gb : Nat → Nat → Int} {w n p s : Nat} {d : Int} {H : Nat → Int} (hB : ag_IB gb w n) (hps : p ≤ s) (hs : s < n) (h : ag_xrs gb p s d H) : ag_xrs gb p (s + 1) d (ag_ui H (gb 6 s).toNat (H (gb 6 s).toNat + d)) := by
  have hn := fun i (hi : i < n) => (hB.2.1 i hi).1
  refine ⟨fun i i1 i2 => ?_, fun c hc => ?_⟩
  · by_cases e : i = s
    · subst e
      rw [ag_ui_eq9, h.2 _ (fun k k1 k2 z => by
        have := hn i hs
        have := ag_IB_inj hB (show k < n by omega) hs (by omega)
        omega)]
    · have hne : (gb 6 i).toNat ≠ (gb 6 s).toNat := fun z => by
        have := hn i (by omega)
        have := hn s hs
        exact e (ag_IB_inj hB (by omega) hs (by omega))
      rw [show ag_ui H (gb 6 s).toNat (H (gb 6 s).toNat + d) (gb 6 i).toNat = H (gb 6 i).toNat from if_neg hne]
      exact h.1 i i1 (by omega)
  · have hne : c ≠ (gb 6 s).toNat := fun z => by
      have := hn s hs
      exact hc s hps (by omega) (by omega)
    rw [show ag_ui H (gb 6 s).toNat (H (gb 6 s).toNat + d) c = H c from if_neg hne]
    exact h.2 c (fun i i1 i2 => hc i i1 (by omega))
section AGHM
variable {σ : ag_S} {L ln : Nat → Nat} {g : Nat → Nat → Int} {dr qu mi : Int} {gb gp gh gq X : Nat → Nat → Int} {w n m np nq : Nat}
/-- those below are raised -/
theorem ag_d_raise {p e b c : Nat} {u at9 to9 : Int} {its q8 l9 : Nat} {f8 : Nat → Int} {d9 : Int} (hB : ag_IB gb w n) (hpe : p < e) (hen : e ≤ n) (hl : l9 = e - (p + 1)) (hf : ∀ i, i < l9 → f8 i = gb 6 (p + 1 + i)) (hd : -3 ≤ d9 ∧ d9 ≤ 3) : ∀ (d i : Nat) (σ1 : ag_S) (g1 X : Nat → Nat → Int) (x11 : Option ag_V), i + d = l9 → ag_HS B σ1 L ln g1 dr qu mi → ag_CR X w ln g1 → (∀ j, j ≠ 2 → X j = ag_cxf gb j) → ag_xrs gb p (p + 1 + i) d9 (X 2) → σ1.1 q8 = some (Sum.inl (l9, f8)) → (∀ r, ag_hlv ln r → L r ≠ q8) →
    ∃ σ2 g2 X2 y11, ag_HS B σ2 L ln g2 dr qu mi ∧ ag_CR X2 w ln g2 ∧ (∀ j, j ≠ 2 → X2 j = ag_cxf gb j) ∧ ag_xrs gb p e d9 (X2 2) ∧ (∀ r, r < 100 ∨ 140 ≤ r → g2 r = g1 r) ∧ ag_hf B σ1 σ2 0 0 ∧ ∀ K : ag_Rs → ag_S → Prop,
      ag_wp 118 295 [some (ag_R B), some (ag_I (b : Int)), some (ag_R its), some (ag_I (c : Int)), some (ag_I u), some (ag_I at9), some (ag_I to9), some (ag_I d9), some (ag_R q8), some (ag_I (l9 : Int)), some (ag_I (i : Int)), x11, none, none, none] [] σ1 K =
      ag_wp 118 329 [some (ag_R B), some (ag_I (b : Int)), some (ag_R its), some (ag_I (c : Int)), some (ag_I u), some (ag_I at9), some (ag_I to9), some (ag_I d9), some (ag_R q8), some (ag_I (l9 : Int)), some (ag_I (l9 : Int)), y11, none, none, none] [] σ2 K := by
  have hw : w ≤ 40 := hB.1.2.2.2
  have hnw : n ≤ w := hB.1.2.2.1
  intro d
  induction d with
  | zero =>
    intro i σ1 g1 X x11 hi h1 r1 hX hx hq hne
    have hil : i = l9 := by omega
    subst hil
    have ee : p + 1 + i = e := by omega
    rw [ee] at hx
    refine ⟨σ1, g1, X, x11, h1, r1, hX, hx, fun _ _ => rfl, ag_hf_refl σ1, fun K => ?_⟩
    rw [ag_i118_295]
    simp only [ag_i118_297, ag_i118_299]
    rw [if_pos (Int.le_refl _)]
  | succ d ih =>
    intro i σ1 g1 X x11 hi h1 r1 hX hx hq hne
    have hin : p + 1 + i < n := by omega
    have hz := hB.2.1 (p + 1 + i) hin
    obtain ⟨z, hz1⟩ : ∃ z : Nat, gb 6 (p + 1 + i) = z := ⟨(gb 6 (p + 1 + i)).toNat, by omega⟩
    have hzw : z < w := by omega
    have hX2 : X 2 z = gb 2 z := hx.2 z (fun k k1 k2 y => by
      have := ag_IB_inj hB (show k < n by omega) hin (by omega)
      omega)
    have hg2 : gb 2 z = ag_hg gb (p + 1 + i) := by
      show gb 2 z = gb 2 (gb 6 (p + 1 + i)).toNat
      rw [hz1, Int.toNat_natCast]
    have hgr := ag_IB_hg hB hin
    obtain ⟨σ2, g2, a1, a2, a3, a4, a5, a6, a7⟩ := ag_r_w h1 r1 hzw (j := 2) (by decide) (v := X 2 z + d9) (by omega) (by omega)
    have hx2 := ag_xrs_s hB (show p ≤ p + 1 + i by omega) hin hx
    rw [hz1, Int.toNat_natCast] at hx2
    obtain ⟨σ3, g3, X3, y11, b1, b2, b3, b4, b5, b6, b7⟩ := ih (i + 1) σ2 g2 (ag_ug X 2 (ag_ui (X 2) z (X 2 z + d9))) (some (ag_I (z : Int))) (by omega) a1 a2 (fun j hj => (ag_ug_ne _ _ hj).trans (hX j hj)) (by rw [ag_ug_same, show p + 1 + (i + 1) = p + 1 + i + 1 by omega]; exact hx2) ((a5 q8 (fun y => hne _ (ag_r_lv r1 hzw) y.symm)).trans hq) hne
    refine ⟨σ3, g3, X3, y11, b1, b2, b3, b4, fun r hr => (b5 r hr).trans (a3 r (by omega)), ag_hf_trans a4 b6, fun K => ?_⟩
    have w2 := fun K => a7 2 K rfl
    have hfz : f8 i = (z : Int) := (hf i (by omega)).trans hz1
    rw [← b7, ag_i118_295]
    simp only [ag_i118_297, ag_i118_299, ag_nm_nat (show l9 ≤ 1000000 by omega), ag_nm_nat (show i ≤ 1000000 by omega)]
    rw [if_neg (show ¬ (l9 : Int) ≤ i by omega)]
    simp only [ag_i118_302, ag_i118_304, ag_i118_306, ag_ia_at hq (show i < l9 by omega) (show l9 ≤ 1000000 by omega), hfz, ag_i118_307_n, ag_i118_307_i, ag_i118_307_r, ag_i118_309, ag_i118_310, ag_h_g3 h1, ag_i118_313, ag_i118_315, ag_r_q h1 r1 hzw (x := (z : Int)) rfl, ag_i118_316, ag_i118_317, ag_i118_318, ag_r_i h1 r1 hzw (j := 2) (by decide) (x := 2) rfl, ag_i118_319, ag_i118_321, ag_i118_322, w2, ag_i118_323_n, ag_i118_323_i, ag_i118_323_r, ag_i118_326]
    rfl
theorem ag_d_1 (h : ag_HS B σ L ln g dr qu mi) (t : ag_TC gb w n ln g) (ta : ag_TA gp m ln g) (tp : ag_TP gq nq ln g) (hV : ag_IV (gb, (w, (n, gp))) m) {b : Nat} (hb : b < m) (k1 : gp 0 b = 1) (hl : gp 3 b = 0) (hf : ag_ftb gb w n gp b ≠ 0) : ag_DO B σ L ln g dr qu mi gb w n gp m gq nq b := by
  have hB : ag_IB gb w n := hV.1
  have hsp : ag_sm gp := hV.2.1.1.2.1
  have hm : m ≤ 20 := hV.2.1.1.2.2
  have hs : ag_sm gb := hB.1.2.1
  have hw : w ≤ 40 := hB.1.2.2.2
  have hnw : n ≤ w := hB.1.2.2.1
  have enm := fun k i => ag_nm_s hsp k i
  have enb := fun k i => ag_nm_s hs k i
  have hPI := ag_pfm_I hV hb hl hf
  have hB' : ag_IB (ag_pfm gb w n gp b).1 (ag_pfm gb w n gp b).2.1 (ag_pfm gb w n gp b).2.2.1 := hPI.1
  obtain ⟨⟨p, e, hp1, hp6, hp5, hp3, hp2, hpb, hpe, hc0, hc1⟩, hx9⟩ := ag_lhd_of hV hb hl (by omega)
  obtain ⟨q, f, hq1, hq6, hq5, hq3, hq2, hqb, hqe, hx0, hx1⟩ := hx9 k1
  obtain ⟨c, e6, hc, -, epg, ehg⟩ := ag_pg_nat hB hp1
  obtain ⟨x, x6, hx, -, xpg, xhg⟩ := ag_pg_nat hB hq1
  have ec : gp 1 b = c := hp6.symm.trans e6
  have ex : gp 2 b = x := hq6.symm.trans x6
  have hff : ag_fit gb w n 1 (gp 1 b) (gp 2 b) ≠ 0 := by
    unfold ag_ftb at hf
    rwa [k1] at hf
  obtain ⟨ho, -⟩ := ag_fit_1 hB hp1 hp3 hp5 hp2 hq5 hq2 hff
  rw [← hpe] at ho
  have hcut := (ag_blk_cut hpb hqb ho).1
  obtain ⟨sl, hu⟩ := ag_slt_of hB hp1
  obtain ⟨sx, hv⟩ := ag_slt_of hB hq1
  have hpe1 := hpb.1
  have hen := hpb.2.1
  have hfn := hqb.2.1
  -- the class's rows behind it
  have hc40 : c < 40 := by omega
  have hx40 : x < 40 := by omega
  have r2c : ag_rd 40 (gb 2) (c : Int) = gb 2 c := ag_rd_nat (by decide) hc40
  have r2x : ag_rd 40 (gb 2) (x : Int) = gb 2 x := ag_rd_nat (by decide) hx40
  have r1x : ag_rd 40 (gb 1) (x : Int) = gb 1 x := ag_rd_nat (by decide) hx40
  have hpf : ag_pfm gb w n gp b = (ag_gm gb n (c : Int) (x : Int) p e f, (w, (n, gp))) := by
    unfold ag_pfm
    rw [if_neg (by omega), if_pos k1, ← hpe, ← hqe, hp3, ec, ex]
  rw [hpf] at hB'
  have G1 : ag_gm gb n (c : Int) (x : Int) p e f 1 = ag_ui (gb 1) c (gb 1 x) := by
    show ag_wr 40 (gb 1) (c : Int) (ag_rd 40 (gb 1) (x : Int)) = _
    rw [r1x, ag_wr_nat _ (by decide) hc40]
  have G2 : ag_gm gb n (c : Int) (x : Int) p e f 2 = ag_ra (gb 6) (gb 2 x - gb 2 c) (gb 2) (e - p) p := by
    show ag_ra (gb 6) (ag_rd 40 (gb 2) (x : Int) - ag_rd 40 (gb 2) (c : Int)) (gb 2) (e - p) p = _
    rw [r2x, r2c]
  have G6 := fun i hi => ag_gm_6 (gb := gb) (n := n) (p := p) (e := e) (goal := f) (c := (c : Int)) (x := (x : Int)) (by omega) hpe1 hcut (i := i) hi
  have hcp : (gb 6 p).toNat = c := by omega
  have G1' : ag_gm gb n (c : Int) (x : Int) p e f 1 = ag_ui (gb 1) (gb 6 p).toNat (ag_pg gb q) := by rw [G1, hcp, xpg]
  obtain ⟨A0, C0, A1, C1, m1, m2, m3, m4, m5, m6, m7⟩ := ag_kid_move (G := ag_gm gb n (c : Int) (x : Int) p e f) hB hp1 hq1 hpb hqb ho G6 G1'
  have hprl := ag_prl_move (G := ag_gm gb n (c : Int) (x : Int) p e f) hB hpe1 hen hfn hcut G6 G1'
  rw [epg] at hu m1 m3 m6 m7
  rw [xpg] at hv m3 m5 m6 m7
  rw [e6] at m1 m2 m5
  rw [x6] at m3 m4 m5
  have pre := fun K => ag_d_pre h t ta hV hb (by omega) hp1 e6 ec hc hu m1 m2 K
  obtain ⟨s40, sle, hun⟩ := ag_slt_40 hu hw
  obtain ⟨x40, xle, hvn⟩ := ag_slt_40 hv hw
  have hu4 := ag_slt_up hu hw
  have hv4 := ag_slt_up hv hw
  obtain ⟨q1, q2⟩ := ag_kds_u t.2.2.2 hw hu
  -- no parent within the block
  have hne : ∀ i, p ≤ i → i < e → sl ≠ (gb 6 i).toNat := fun i i1 i2 z => by
    have hi := hB.2.1 i (by omega)
    rcases hu with ⟨y1, y2⟩ | ⟨y, y1, y2, y3⟩
    · omega
    · rcases ag_par_ahead hB hp1 with v | ⟨j, j1, j2⟩
      · omega
      · have := ag_IB_inj hB (show i < n by omega) (show j < n by omega) (by rw [← j2, epg, y1]; omega)
        omega
  have hnc : sl ≠ c := by rw [← hcp]; exact hne p (Nat.le_refl _) hpe1
  -- cut
  obtain ⟨σ1, L1, ln1, g1, a1, a2, a3, a4, a5, -, -⟩ := ag_h_cut h t hw hc hu (A := A0) (C := C0) (q1.trans m1) m2 (by omega)
  have l11 : ln1 1 = w := (a3 1 (by omega)).2.1.trans t.1
  have l12 : ln1 2 = 41 := (a3 2 (by omega)).2.1.trans t.2.1
  have cr1 : ag_CR (ag_cxf gb) w ln1 g1 := by
    refine ⟨l11, fun c' hc' => ?_⟩
    obtain ⟨-, z1, z2⟩ := a3 (100 + c') (by omega)
    rw [z1, z2]
    exact (ag_TC_CR t).2 c' hc'
  have gc1 : ag_gc ln g ln1 g1 := fun r hr => (a3 r (by omega)).2
  have ta1 := ag_TA_gc gc1 ta
  have hLb : L1 (300 + b) = L (300 + b) := (a3 (300 + b) (by omega)).1
  -- its own height
  have hgp := ag_IB_hg hB hp1
  have hgq := ag_IB_hg hB hq1
  obtain ⟨σ2, g2, b1, b2, b3, b4, b5, b6, b7⟩ := ag_r_w a1 cr1 hc (j := 2) (by decide) (v := gb 2 c + (gb 2 x - gb 2 c)) (by omega) (by omega)
  -- all below is read
  have kd2 : ∀ k, k ≤ 40 → k ≠ sl → ag_kds ln1 g2 k = ag_kds ln g k := fun k k1 k2 => ag_kds_cg ⟨(a3 (200 + k) (by omega)).2.1, (b3 (200 + k) (by omega)).trans (a3 (200 + k) (by omega)).2.2⟩
  obtain ⟨rd1, rd2⟩ := ag_read_below hB t.2.2.2 hp1 hpb
  rw [hcp] at rd1 rd2
  have hcg := ag_rdl_cg (kd := ag_kds ln g) (kd' := ag_kds ln1 g2) 4 (ag_kds ln g c) (fun y hy => by
    rw [rd1] at hy
    obtain ⟨i, i1, i2⟩ := List.mem_map.mp hy
    rw [List.mem_range'_1] at i1
    have hi := hB.2.1 i (by omega)
    exact kd2 y.toNat (by omega) (fun z => hne i (by omega) (by omega) (by rw [i2]; exact z.symm)))
  rw [← kd2 c (by omega) (fun z => hnc z.symm)] at hcg
  have hcr : ag_kds ln1 g2 c = ag_kds ln g c := kd2 c (by omega) (fun z => hnc z.symm)
  have rd3 : ag_rdl (ag_kds ln1 g2) 4 (ag_kds ln1 g2 c) = (List.range' (p + 1) (e - (p + 1))).map (gb 6) := by
    rw [hcg.1, hcr, rd1]
  have rd4 : ag_rok (ag_kds ln1 g2) 4 (ag_kds ln1 g2 c) := hcg.2 (by rw [hcr]; exact rd2)
  have hlc : ag_hlv ln1 (200 + c) := by unfold ag_hlv; omega
  have hlen3 : (ag_rdl (ag_kds ln1 g2) 4 (ag_kds ln1 g2 c)).length = e - (p + 1) := by
    rw [rd3, List.length_map, List.length_range']
  have hklc : ln1 (200 + c) ≤ 40 := by
    have z1 := ag_rdl_len (ag_kds ln1 g2) 3 (ag_kds ln1 g2 c)
    have z1 : (ag_kds ln1 g2 c).length ≤ (ag_rdl (ag_kds ln1 g2) 4 (ag_kds ln1 g2 c)).length := z1
    rw [hlen3, ag_kds_len] at z1
    omega
  obtain ⟨q8, l9, f8, σ3, d1, d2, d3, d4, d5, d6, d7⟩ := ag_h_read0 b1 l12 (b1.2.2.1 _ hlc) (b1.2.2.2.2.1 _ (Or.inr hlc)).2 hklc rd4 (by show (ag_rdl (ag_kds ln1 g2) 4 (ag_kds ln1 g2 c)).length ≤ 40; omega)
  have d3 : ag_ls l9 f8 = ag_rdl (ag_kds ln1 g2) 4 (ag_kds ln1 g2 c) := d3
  rw [rd3] at d3
  have hl9 : l9 = e - (p + 1) := by
    have := congrArg List.length d3
    rwa [ag_ls_len, List.length_map, List.length_range'] at this
  have hf8 : ∀ i, i < l9 → f8 i = gb 6 (p + 1 + i) := fun i hi => by
    have z := ag_ls_get (f := f8) hi
    rw [d3, List.getElem?_map, List.getElem?_range' (by omega)] at z
    simpa using z.symm
  have c1 := ag_HS_fr b1 d6
  have hxr : ag_xrs gb p (p + 1 + 0) (gb 2 x - gb 2 c) (ag_ui (gb 2) c (gb 2 c + (gb 2 x - gb 2 c))) := by
    have := ag_xrs_s (d := gb 2 x - gb 2 c) (H := gb 2) hB (Nat.le_refl p) hp1 ⟨fun i i1 i2 => by omega, fun _ _ => rfl⟩
    rwa [hcp] at this
  obtain ⟨σ4, g4, X4, y11, f1, f2, f3, f4, f5, f6, f7⟩ := ag_d_raise (b := b) (c := c) (u := gb 1 c) (at9 := (A0.length : Int)) (to9 := gb 1 x) (its := L (300 + b)) hB hpe1 hen hl9 hf8 (d9 := gb 2 x - gb 2 c) (by omega) l9 0 σ3 g2 (ag_ug (ag_cxf gb) 2 (ag_ui (ag_cxf gb 2) c (gb 2 c + (gb 2 x - gb 2 c)))) none (Nat.zero_add _) c1 b2 (fun j hj => ag_ug_ne _ _ hj) hxr d2 (fun r hr => by have := (b1.2.2.2.2.1 r (Or.inr hr)).2; omega)
  -- its parent
  have h1x : -100000 ≤ gb 1 x ∧ gb 1 x ≤ 100000 := hs 1 x
  obtain ⟨σ5, g5, i1, i2, i3, i4, i5, i6, i7⟩ := ag_r_w f1 f2 hc (j := 1) (by decide) h1x.1 h1x.2
  -- its place among its new parent's children
  have kd5 : ∀ k, k ≤ 40 → ag_kds ln1 g5 k = ag_kds ln1 g1 k := fun k k1 => ag_kds_cg ⟨rfl, (i3 (200 + k) (by omega)).trans ((f5 (200 + k) (by omega)).trans (b3 (200 + k) (by omega)))⟩
  have old := ag_kdo_iff.mp t.2.2.2
  have kdx : ag_kds ln1 g5 sx = A1 ++ (x : Int) :: C1 := by
    rw [kd5 sx x40, ← m3]
    by_cases z : gb 1 x = gb 1 c
    · rw [if_pos z, (ag_slt_eq hv4 hu4).mpr z]
      exact a4
    · rw [if_neg z, ag_kds_cg (a3 (200 + sx) (fun y => z ((ag_slt_eq hv4 hu4).mp (by omega)))).2]
      exact old _ _ hv4
  obtain ⟨e1, e2, e3, -⟩ := ag_cut_eq (p := A1.length) kdx rfl
  have hlx : ag_hlv ln1 (200 + sx) := by unfold ag_hlv; omega
  have hlx40 : ln1 (200 + sx) ≤ 40 := by
    by_cases z : gb 1 x = gb 1 c
    · have zz := (ag_slt_eq hv4 hu4).mpr z
      have y := congrArg List.length a4
      have y2 := congrArg List.length (q1.trans m1)
      rw [ag_kds_len, List.length_append] at y y2
      rw [List.length_cons] at y2
      rw [zz]
      omega
    · have y := (a3 (200 + sx) (fun y => z ((ag_slt_eq hv4 hu4).mp (by omega)))).2.1
      have := (ag_kds_u t.2.2.2 hw hv).2
      omega
  have hplx := fun K => ag_h_place (σ := σ5) (b := L1 (200 + sx)) (l := ln1 (200 + sx)) (f := g5 (200 + sx)) (p := A1.length) (x := (x : Int)) (i1.2.2.1 _ hlx) (by omega) (by omega) e2 (fun i hi z => by
    rw [ag_h_nm i1, ag_nm_nat (show x ≤ 1000000 by omega)] at z
    exact m4 (z ▸ e3 i hi)) K
  have hqx := fun K => ag_h_qa i1 (r := 2) (k := sx) (by decide) (by decide) (by rw [l12]; omega) (x := (sx : Int)) rfl K
  obtain ⟨σ6, σ7, j1, j2, j3, j4, j5⟩ := ag_h_gkid i1 (k := sx) (p := A1.length + 1) (c := (c : Int)) (by rw [l12]; omega) (by omega) (by omega) (by omega) (by omega)
  -- what has come about
  have lnu : ∀ r, r ≠ 200 + sx → ag_uf ln1 (200 + sx) (ln1 (200 + sx) + 1) r = ln1 r := fun r hr => ag_uf_ne hr
  have gnu : ∀ r, r ≠ 200 + sx → ag_ug g5 (200 + sx) (ag_pls (g5 (200 + sx)) (A1.length + 1) (ln1 (200 + sx)) (c : Int)) r = g5 r := fun r hr => ag_ug_ne _ _ hr
  have cr7 : ag_CR (ag_ug X4 1 (ag_ui (X4 1) c (gb 1 x))) w (ag_uf ln1 (200 + sx) (ln1 (200 + sx) + 1)) (ag_ug g5 (200 + sx) (ag_pls (g5 (200 + sx)) (A1.length + 1) (ln1 (200 + sx)) (c : Int))) := by
    refine ⟨(lnu 1 (by omega)).trans l11, fun c' hc' => ?_⟩
    rw [lnu _ (by omega), gnu _ (by omega)]
    exact i2.2 c' hc'
  have gc7 : ag_gc ln g (ag_uf ln1 (200 + sx) (ln1 (200 + sx) + 1)) (ag_ug g5 (200 + sx) (ag_pls (g5 (200 + sx)) (A1.length + 1) (ln1 (200 + sx)) (c : Int))) := fun r hr => by
    rw [lnu _ (by omega), gnu _ (by omega), i3 r (by omega), f5 r (by omega), b3 r (by omega)]
    exact gc1 r hr
  have ta7 := ag_TA_gc gc7 ta
  refine ⟨σ7, _, _, _, j5, ?_, ?_, ?_, ag_gd_gc gc7, ag_hf_le (ag_hf_trans a2 (ag_hf_trans b4 (ag_hf_trans (ag_hf_fr d6 b1.2.2.2.2.2.1.2) (ag_hf_trans f6 (ag_hf_trans i4 j4))))) (by omega) (by omega), fun K => ?_⟩
  · rw [hpf]
    refine ag_TC_of cr7 ((lnu 2 (by omega)).trans l12) (fun c' hc' j hj => ?_) (ag_kdo_iff.mpr fun u' s' hs' => ?_)
    · have hc' : c' < w := hc'
      have h5 : j = 0 ∨ j = 1 ∨ j = 2 ∨ j = 3 ∨ j = 4 := by omega
      rcases h5 with h5 | h5 | h5 | h5 | h5 <;> subst h5
      · show X4 0 c' = gb 0 c'
        rw [f3 0 (by decide)]
        rfl
      · show ag_ui (X4 1) c (gb 1 x) c' = ag_gm gb n (c : Int) (x : Int) p e f 1 c'
        rw [f3 1 (by decide), G1]
        rfl
      · show X4 2 c' = ag_gm gb n (c : Int) (x : Int) p e f 2 c'
        rw [G2]
        have hrg : ∀ t', p ≤ t' → t' < p + (e - p) → 0 ≤ gb 6 t' ∧ gb 6 t' < 40 := fun t' t1 t2 => by
          have := hB.2.1 t' (by omega)
          omega
        by_cases z : ∃ i, p ≤ i ∧ i < e ∧ gb 6 i = c'
        · obtain ⟨i, z1, z2, z3⟩ := z
          have z4 : (gb 6 i).toNat = c' := by omega
          rw [← z4, f4.1 i z1 z2]
          exact (ag_ra_yes (e - p) p (gb 2) hrg (by omega) (fun s1 t1 y1 y2 y3 y => by
            have := ag_IB_inj hB (show s1 < n by omega) (show t1 < n by omega) y
            omega) i z1 (by omega)).symm
        · have z9 : ∀ i, p ≤ i → i < e → gb 6 i ≠ c' := fun i z1 z2 z3 => z ⟨i, z1, z2, z3⟩
          rw [f4.2 c' z9]
          exact (ag_ra_no (e - p) p (gb 2) hrg (by omega) (fun t1 y1 y2 => z9 t1 y1 (by omega))).symm
      · show X4 3 c' = gb 3 c'
        rw [f3 3 (by decide)]
        rfl
      · show X4 4 c' = if ag_gm gb n (c : Int) (x : Int) p e f 5 c' = -1 then 1 else 0
        rw [f3 4 (by decide)]
        show (if gb 5 c' = -1 then (1 : Int) else 0) = _
        have e5 : (ag_gm gb n (c : Int) (x : Int) p e f 5 c' = -1) ↔ (gb 5 c' = -1) := by
          constructor
          · intro y
            by_cases y5 : gb 5 c' = -1
            · exact y5
            · have y6 : (ag_pfm gb w n gp b).1 5 ((c' : Nat) : Int).toNat ≠ -1 := hPI.2.2.2 (by show gp 0 b ≠ 0; omega) (c' : Int) (by omega) (by show (c' : Int) < w; omega) (by show gb 5 ((c' : Nat) : Int).toNat ≠ -1; rw [Int.toNat_natCast]; exact y5)
              rw [hpf, Int.toNat_natCast] at y6
              exact absurd y y6
          · intro y
            rw [ag_IB_in hB' hc']
            rw [ag_IB_in hB hc'] at y
            intro i i1 i2
            obtain ⟨v, hv9⟩ := ag_prl_fst.mp ⟨i, i1, i2⟩
            have hv9 : ((c' : Int), v) ∈ ag_prl (ag_gm gb n (c : Int) (x : Int) p e f) n := hv9
            rw [hprl] at hv9
            have seg : ∀ a9 b9, b9 ≤ n → ((c' : Int), v) ∉ ag_sgm gb a9 b9 := fun a9 b9 hb9 hm9 => by
              obtain ⟨k, k1, k2, k3⟩ := ag_sgm_mem.mp hm9
              exact y k (by omega) (congrArg Prod.fst k3).symm
            rcases List.mem_append.mp hv9 with v1 | v1
            · by_cases z : f ≤ p
              · rw [if_pos z] at v1
                exact seg 0 f hfn v1
              · rw [if_neg z] at v1
                rcases List.mem_append.mp v1 with v2 | v2
                · exact seg 0 p (by omega) v2
                · exact seg e f hfn v2
            · rcases List.mem_append.mp v1 with v2 | v2
              · rcases List.mem_cons.mp v2 with v3 | v3
                · exact y p hp1 (congrArg Prod.fst v3).symm
                · exact seg (p + 1) e hen v3
              · by_cases z : f ≤ p
                · rw [if_pos z] at v2
                  rcases List.mem_append.mp v2 with v3 | v3
                  · exact seg f p (by omega) v3
                  · exact seg e n (Nat.le_refl _) v3
                · rw [if_neg z] at v2
                  exact seg f n (Nat.le_refl _) v2
        by_cases y : gb 5 c' = -1
        · rw [if_pos y, if_pos (e5.mpr y)]
        · rw [if_neg y, if_neg (fun z => y (e5.mp z))]
    · have s4 := (ag_slt_40 hs' (Nat.le_refl _)).1
      by_cases z : u' = gb 1 x
      · have zs := (ag_slt_eq hs' hv4).mpr z
        rw [z, m5, zs]
        unfold ag_kds
        rw [ag_uf_at, ag_ug_same, ag_ls_pls (by omega)]
        have kdx' : ag_ls (ln1 (200 + sx)) (g5 (200 + sx)) = A1 ++ (x : Int) :: C1 := kdx
        rw [kdx', ag_take_1]
      · have zs : s' ≠ sx := fun y => z ((ag_slt_eq hs' hv4).mp y)
        rw [ag_kds_cg ⟨lnu (200 + s') (by omega), gnu (200 + s') (by omega)⟩, kd5 s' s4]
        by_cases z2 : u' = gb 1 c
        · have zs2 := (ag_slt_eq hs' hu4).mpr z2
          rw [z2, m6 (fun y => z (z2.trans y)), zs2]
          exact a4
        · have zs2 : s' ≠ sl := fun y => z2 ((ag_slt_eq hs' hu4).mp y)
          rw [m7 u' z2 z, ag_kds_cg (a3 (200 + s') (by omega)).2]
          exact old u' s' hs'
  · rw [hpf]
    exact ta7
  · rw [ag_tpf_no (by omega)]
    exact ag_TP_gc gc7 tp
  · have hL7 : ag_uf L1 (200 + sx) (σ5.2.1 + 1) (300 + b) = L (300 + b) := by rw [ag_uf_ne (by omega)]; exact hLb
    have w2 := fun K => b7 2 K rfl
    have w1 := fun K => i7 1 K rfl
    have hslx := fun K => ag_h_slot i1 hvn K
    rw [xle] at hslx
    have d1 : ∀ K : ag_Rs → ag_S → Prop, ag_cl9 100 [ag_R B, ag_R (L1 (200 + c))] σ2 K = K (Sum.inl (some (ag_R q8))) σ3 := d1
    have rb2 : ∀ K : Int → Prop, ag_ia σ1 (L (300 + b)) 2 K = K (x : Int) := fun K => by rw [← hLb, ag_a_i2 a1 ta1 hb K, ex]
    have gc5 : ag_gc ln g ln1 g5 := fun r hr => by
      rw [i3 r (by omega), f5 r (by omega), b3 r (by omega)]
      exact gc1 r hr
    have rb5 : ∀ K : Int → Prop, ag_ia σ5 (L (300 + b)) 2 K = K (x : Int) := fun K => by rw [← hLb, ag_a_i2 i1 (ag_TA_gc gc5 ta) hb K, ex]
    have q1x := fun K => ag_r_q a1 cr1 hx (x := (x : Int)) rfl K
    have q1c := fun K => ag_r_q a1 cr1 hc (x := (c : Int)) rfl K
    have i1x1 := fun K => ag_r_i a1 cr1 hx (j := 1) (by decide) (x := 1) rfl K
    have i1x2 := fun K => ag_r_i a1 cr1 hx (j := 2) (by decide) (x := 2) rfl K
    have i1c2 := fun K => ag_r_i a1 cr1 hc (j := 2) (by decide) (x := 2) rfl K
    have g1x : ag_cxf gb 1 x = gb 1 x := rfl
    have g2x : ag_cxf gb 2 x = gb 2 x := rfl
    have g2c : ag_cxf gb 2 c = gb 2 c := rfl
    have hk2c := fun K => ag_h_qa b1 (r := 2) (k := c) (by decide) (by decide) (by rw [l12]; omega) (x := (c : Int)) rfl K
    have q4c := fun K => ag_r_q f1 f2 hc (x := (c : Int)) rfl K
    have hal := fun K => ag_al_at d2 K
    rw [pre, ag_d_57 h ta hsp hb (by omega), ag_d_75 h ta hsp hb (by omega), ag_d_101 h ta hsp hb (by omega), ag_i118_217]
    simp only [ag_i118_218, ag_i118_219, ag_a_i0 h ta hb, ag_i118_220, ag_i118_221, enm, ag_nm_1]
    rw [if_neg (show ¬ gp 0 b ≠ 1 by omega)]
    simp only [ag_i118_224, ag_i118_225, ag_i118_226, ag_h_ck h, a5, ag_kk_v, ag_kk_n, Nat.reduceAdd, ag_i118_229, ag_i118_230, ag_h_g3 a1, ag_i118_233, ag_i118_234, ag_i118_235, rb2, ag_i118_236, q1x, ag_i118_237, ag_i118_238, i1x1, g1x, ag_i118_239_n, ag_i118_239_i, ag_i118_239_r, ag_i118_241, ag_i118_242, ag_h_g3 a1, ag_i118_245, ag_i118_246, ag_i118_247, rb2, ag_i118_248, q1x, ag_i118_249, ag_i118_250, i1x2, g2x, ag_i118_251, ag_i118_252, ag_h_g3 a1, ag_i118_255, ag_i118_256, q1c, ag_i118_257, ag_i118_258, i1c2, g2c, ag_i118_259, ag_i118_260_n, ag_i118_260_i, ag_i118_260_r, ag_i118_262, ag_i118_263, ag_h_g3 a1, ag_i118_266, ag_i118_267, q1c, ag_i118_268, ag_i118_269, ag_i118_270, i1c2, g2c, ag_i118_271, ag_i118_273, ag_i118_274, w2, ag_i118_275, ag_i118_276, ag_i118_277, ag_h_g4 b1, ag_i118_280, ag_i118_281, hk2c, ag_i118_282, ag_h_ck b1, d1, ag_kk_v, ag_kk_n, Nat.reduceAdd, ag_i118_285_n, ag_i118_285_i, ag_i118_285_r, ag_i118_287, ag_i118_289, hal, ag_i118_290_n, ag_i118_290_i, ag_i118_290_r, ag_i118_292, ag_i118_293_n, ag_i118_293_i, ag_i118_293_r]
    rw [show (0 : Int) = ((0 : Nat) : Int) from rfl, f7]
    simp only [ag_i118_329, ag_i118_330, ag_h_g3 f1, ag_i118_333, ag_i118_334, q4c, ag_i118_335, ag_i118_336, ag_i118_338, w1, ag_i118_339, ag_i118_340, ag_h_g4 i1, ag_i118_343, ag_i118_344, ag_i118_346, ag_h_ck i1, hslx, ag_kk_v, ag_kk_n, Nat.reduceAdd, ag_i118_349, ag_i118_350, ag_h_g4 i1, ag_i118_353, ag_i118_354, ag_i118_356, hslx, ag_kk_v, ag_kk_n, Nat.reduceAdd, ag_i118_359, hqx, ag_i118_360, ag_i118_361, ag_h_g4 i1, ag_i118_364, ag_i118_365, ag_i118_367, hslx, ag_kk_v, ag_kk_n, Nat.reduceAdd, ag_i118_370, hqx, ag_i118_371, ag_i118_372, ag_i118_373, rb5, ag_i118_374, hplx, ag_kk_v, ag_kk_n, Nat.reduceAdd, ag_i118_377, ag_i118_378, ag_i118_379, ag_i118_380]
    rw [show (A1.length : Int) + 1 = ((A1.length + 1 : Nat) : Int) from rfl, j1]
    simp only [ag_kk_v, ag_kk_n, Nat.reduceAdd, ag_i118_383]
    rw [j3 (sx : Int) _ rfl, ← hL7, ag_d_384 j5 ta7 hsp hb (by omega)]
end AGHM
