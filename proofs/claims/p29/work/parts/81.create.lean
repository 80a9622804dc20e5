/-! THE HOUSE: create and cut. -/
variable {B : Nat}
theorem ag_n9_f (σ : ag_S) (c : ag_C) (s : Nat) : (ag_up σ.1 (σ.2.1 + 1) c, (σ.2.1 + 1, σ.2.2 + s)) = ag_n9 σ c s := rfl
theorem ag_n9_is {σ : ag_S} {l s k : Nat} {f : Nat → Int} (hk : k < l) (hl : l ≤ 1000) {x : Int} (hx : x = k) (v : Int) (K : ag_S → Prop) : ag_is (ag_n9 σ (Sum.inl (l, f)) s) (σ.2.1 + 1) x v K = K (ag_n9 σ (Sum.inl (l, ag_ui f k v)) s) := by
  subst hx
  rw [ag_is_at (ag_n9_at _ _ _) (by omega) hk (by omega)]
  unfold ag_n9
  dsimp only
  rw [ag_up_2]
/-- all rows but those of clauses and children are left -/
def ag_gc (ln : Nat → Nat) (g : Nat → Nat → Int) (ln' : Nat → Nat) (g' : Nat → Nat → Int) : Prop := ∀ r, (3 ≤ r ∧ r ≤ 8) ∨ 300 ≤ r → ln' r = ln r ∧ g' r = g r
theorem ag_gc_refl (ln : Nat → Nat) (g : Nat → Nat → Int) : ag_gc ln g ln g := fun _ _ => ⟨rfl, rfl⟩
theorem ag_gc_trans {ln ln' ln'' : Nat → Nat} {g g' g'' : Nat → Nat → Int} (h : ag_gc ln g ln' g') (h2 : ag_gc ln' g' ln'' g'') : ag_gc ln g ln'' g'' := fun r hr => ⟨(h2 r hr).1.trans (h r hr).1, (h2 r hr).2.trans (h r hr).2⟩
theorem ag_TA_gc {gp : Nat → Nat → Int} {m : Nat} {ln ln' : Nat → Nat} {g g' : Nat → Nat → Int} (hc : ag_gc ln g ln' g') (t : ag_TA gp m ln g) : ag_TA gp m ln' g' := by
  refine ⟨(hc 3 (by omega)).1.trans t.1, fun b hb => ?_⟩
  have e := hc (300 + b) (by omega)
  rw [e.1, e.2]
  exact t.2 b hb
theorem ag_TV_gc {gh : Nat → Nat → Int} {m : Nat} {ln ln' : Nat → Nat} {g g' : Nat → Nat → Int} (hc : ag_gc ln g ln' g') (t : ag_TV gh m ln g) : ag_TV gh m ln' g' := by
  refine ⟨(hc 4 (by omega)).1.trans t.1, fun b hb => ?_⟩
  have e := hc (400 + b) (by omega)
  rw [e.1, e.2]
  exact t.2 b hb
theorem ag_TP_gc {gq : Nat → Nat → Int} {nq : Nat} {ln ln' : Nat → Nat} {g g' : Nat → Nat → Int} (hc : ag_gc ln g ln' g') (t : ag_TP gq nq ln g) : ag_TP gq nq ln' g' := by
  refine ⟨(hc 5 (by omega)).1.trans t.1, fun b hb => ?_⟩
  have e := hc (500 + b) (by omega)
  rw [e.1, e.2]
  exact t.2 b hb
theorem ag_TS_gc {gh : Nat → Nat → Int} {np : Nat} {ln ln' : Nat → Nat} {g g' : Nat → Nat → Int} (hc : ag_gc ln g ln' g') (t : ag_TS gh np ln g) : ag_TS gh np ln' g' := by
  refine ⟨(hc 6 (by omega)).1.trans t.1, (hc 7 (by omega)).1.trans t.2.1, (hc 8 (by omega)).1.trans t.2.2.1, fun b hb => ?_⟩
  rw [(hc 6 (by omega)).2, (hc 7 (by omega)).2, (hc 8 (by omega)).2]
  exact t.2.2.2 b hb
/-- the row of children of parent u -/
def ag_slt (w : Nat) (u : Int) (sl : Nat) : Prop := (u = -1 ∧ sl = 40) ∨ (∃ z : Nat, u = z ∧ z < w ∧ sl = z)
theorem ag_slt_40 {w : Nat} {u : Int} {sl : Nat} (h : ag_slt w u sl) (hw : w ≤ 40) : sl ≤ 40 ∧ (if u < 0 then 40 else u) = (sl : Int) ∧ ag_nm u = u := by
  rcases h with ⟨h1, h2⟩ | ⟨z, h1, h2, h3⟩
  · subst h1
    subst h2
    exact ⟨Nat.le_refl _, by decide, by decide +kernel⟩
  · refine ⟨by omega, ?_, ag_nm_of (by omega) (by omega)⟩
    rw [if_neg (by omega)]
    omega
section AGHC
variable {σ : ag_S} {L ln : Nat → Nat} {g : Nat → Nat → Int} {dr qu mi : Int} {gb gp gh gq : Nat → Nat → Int} {w n m np nq : Nat}
theorem ag_h_create (h : ag_HS B σ L ln g dr qu mi) (t : ag_TC gb w n ln g) (hs : ag_sm gb) (hw : w < 40) {u x y : Int} {sl k : Nat} (hu : ag_slt w u sl) (x1 : -100000 ≤ x) (x2 : x ≤ 100000) (y1 : -100000 ≤ y) (y2 : y ≤ 100000) (hk : k ≤ ln (200 + sl)) (hl : ln (200 + sl) ≤ 40) (hh3 : ∀ z : Nat, u = z → gb 2 z ≤ 99) :
    ∃ σ' L' ln' g', ag_HS B σ' L' ln' g' dr qu mi ∧ ag_hf B σ σ' 3 300 ∧ ln' 1 = w + 1 ∧ ln' 2 = 41 ∧ (∀ r, r ≠ 1 → r ≠ 100 + w → r ≠ 200 + sl → L' r = L r ∧ ln' r = ln r ∧ g' r = g r) ∧
      (ln' (100 + w) = 5 ∧ g' (100 + w) 0 = x ∧ g' (100 + w) 1 = u ∧ g' (100 + w) 2 = (if u < 0 then 0 else gb 2 u.toNat + 1) ∧ g' (100 + w) 3 = y ∧ g' (100 + w) 4 = 0) ∧
      ag_kds ln' g' sl = (ag_kds ln g sl).take k ++ (w : Int) :: (ag_kds ln g sl).drop k ∧ ∀ K : ag_Rs → ag_S → Prop, ag_cl9 107 [ag_R B, ag_I u, ag_I x, ag_I y, ag_I (k : Int)] σ K = K (Sum.inl (some (ag_I (w : Int)))) σ' := by
  obtain ⟨s40, sle, hun⟩ := ag_slt_40 hu (Nat.le_of_lt hw)
  have hu1 : -1 ≤ u ∧ u < w := by
    rcases hu with ⟨h1, h2⟩ | ⟨z, h1, h2, h3⟩ <;> omega
  -- the new row
  have hfill : ∃ σ1 : ag_S, σ1 = ag_n9 σ (Sum.inl (5, ag_ui (ag_ui (ag_ui (ag_ui (ag_ui (fun _ => 0) 0 x) 1 u) 2 (if u < 0 then 0 else gb 2 u.toNat + 1)) 3 y) 4 0)) 5 := ⟨_, rfl⟩
  obtain ⟨σ1, hσ1⟩ := hfill
  have f1 : ag_fr σ σ1 1 5 := by rw [hσ1]; exact ag_fr_n9 _ _ _
  have h1 := ag_HS_fr h f1
  have hs1 : σ1.2.1 = σ.2.1 + 1 := by rw [hσ1]; rfl
  have he : σ1.1 (σ.2.1 + 1) = some (Sum.inl (5, ag_ui (ag_ui (ag_ui (ag_ui (ag_ui (fun _ => 0) 0 x) 1 u) 2 (if u < 0 then 0 else gb 2 u.toNat + 1)) 3 y) 4 0)) := by rw [hσ1]; exact ag_n9_at _ _ _
  have hF : ∀ i, -100000 ≤ ag_ui (ag_ui (ag_ui (ag_ui (ag_ui (fun _ => 0) 0 x) 1 u) 2 (if u < 0 then 0 else gb 2 u.toNat + 1)) 3 y) 4 0 i ∧ ag_ui (ag_ui (ag_ui (ag_ui (ag_ui (fun _ => 0) 0 x) 1 u) 2 (if u < 0 then 0 else gb 2 u.toNat + 1)) 3 y) 4 0 i ≤ 100000 := by
    intro i
    have hb : -100000 ≤ (if u < 0 then 0 else gb 2 u.toNat + 1) ∧ (if u < 0 then 0 else gb 2 u.toNat + 1) ≤ 100000 := by
      split
      · omega
      · have a := (hs 2 u.toNat).1
        have b := hh3 u.toNat (by omega)
        omega
    generalize (if u < 0 then 0 else gb 2 u.toNat + 1) = hh at hb ⊢
    unfold ag_ui
    repeat' split
    all_goals first
      | omega
      | (dsimp only; omega)
  generalize hFF : ag_ui (ag_ui (ag_ui (ag_ui (ag_ui (fun _ => 0) 0 x) 1 u) 2 (if u < 0 then 0 else gb 2 u.toNat + 1)) 3 y) 4 0 = F at hσ1 he hF
  have hnew : ag_hnew B σ1 L ln (σ.2.1 + 1) := ag_HS_new h (by omega) (by omega) (by omega)
  obtain ⟨σ2, σ3, c1, c2, c3, c4⟩ := ag_h_add1 h1 he hnew hF (by rw [t.1]; omega)
  rw [t.1, hs1] at c4
  rw [hs1] at c1 c2
  have l2 : ag_uf (ag_uf ln 1 (w + 1)) (100 + w) 5 2 = 41 := by rw [ag_uf_ne (by omega), ag_uf_ne (by omega)]; exact t.2.1
  have lsl : ag_uf (ag_uf ln 1 (w + 1)) (100 + w) 5 (200 + sl) = ln (200 + sl) := by rw [ag_uf_ne (by omega), ag_uf_ne (by omega)]
  have gsl : ag_ug g (100 + w) F (200 + sl) = g (200 + sl) := ag_ug_ne _ _ (by omega)
  generalize hLL : ag_uf (ag_uf L 1 (σ.2.1 + 1 + 1)) (100 + w) (σ.2.1 + 1) = L2 at c4
  generalize hll : ag_uf (ag_uf ln 1 (w + 1)) (100 + w) 5 = ln2 at c4 l2 lsl
  have hqa := fun K => ag_h_qa c4 (r := 2) (k := sl) (by decide) (by decide) (by rw [l2]; omega) (x := (sl : Int)) rfl K
  obtain ⟨σ4, σ5, d1, d2, d3, d4, d5⟩ := ag_h_gkid c4 (k := sl) (p := k) (c := (w : Int)) (by rw [l2]; omega) (by rw [lsl]; exact hk) (by rw [lsl]; omega) (by omega) (by omega)
  have g9 : ∀ r, r ≠ 1 → r ≠ 100 + w → r ≠ 200 + sl → ag_uf L2 (200 + sl) (σ3.2.1 + 1) r = L r ∧ ag_uf ln2 (200 + sl) (ln2 (200 + sl) + 1) r = ln r ∧ ag_ug (ag_ug g (100 + w) F) (200 + sl) (ag_pls (ag_ug g (100 + w) F (200 + sl)) k (ln2 (200 + sl)) w) r = g r := by
    intro r r1 r2 r3
    rw [ag_uf_ne r3, ag_uf_ne r3, ag_ug_ne _ _ r3, ag_ug_ne _ _ r2, ← hll, ← hLL, ag_uf_ne r2, ag_uf_ne r2, ag_uf_ne r1, ag_uf_ne r1]
    exact ⟨rfl, rfl, rfl⟩
  refine ⟨σ5, _, _, _, d5, ag_hf_le (ag_hf_trans (ag_hf_fr f1 h.2.2.2.2.2.1.2) (ag_hf_trans c3 d4)) (by omega) (by omega), ?_, ?_, g9, ?_, ?_, ?_⟩
  · rw [ag_uf_ne (by omega), ← hll, ag_uf_ne (by omega), ag_uf_at]
  · rw [ag_uf_ne (by omega)]
    exact l2
  · rw [ag_uf_ne (by omega), ag_ug_ne _ _ (by omega), ag_ug_same, ← hll, ag_uf_at, ← hFF]
    exact ⟨rfl, rfl, rfl, rfl, rfl, rfl⟩
  · unfold ag_kds
    rw [ag_uf_at, ag_ug_same, lsl, gsl, ag_ls_pls hk]
  · intro K
    have fld : ∀ K : ag_Rs → ag_S → Prop, ag_wp 107 7 [some (ag_R B), some (ag_I u), some (ag_I x), some (ag_I y), some (ag_I (k : Int)), some (ag_I (w : Int)), none] [] σ K = ag_wp 107 49 [some (ag_R B), some (ag_I u), some (ag_I x), some (ag_I y), some (ag_I (k : Int)), some (ag_I (w : Int)), some (ag_R (σ.2.1 + 1))] [] σ1 K := by
      intro K
      simp only [ag_i107_7, ag_i107_8, ag_nmk_5, show ((0 : Int) ≤ 5 ∧ (5 : Int) ≤ 1000000) = True from by simp, true_and, show (5 : Int).toNat = 5 from rfl, ag_n9_f, ag_i107_10, ag_i107_11, ag_i107_12, ag_i107_13]
      rw [ag_n9_is (l := 5) (k := 0) (x := 0) (by decide) (by decide) rfl]
      simp only [ag_i107_14, ag_i107_15, ag_i107_16, ag_i107_17]
      rw [ag_n9_is (l := 5) (k := 1) (x := 1) (by decide) (by decide) rfl]
      simp only [ag_i107_18, ag_i107_19, ag_i107_20, ag_i107_21, ag_nm_z, hun]
      rw [hσ1, ← hFF]
      by_cases c : u < 0
      · rw [if_neg (show ¬ (0 : Int) ≤ u by omega), if_pos c]
        simp only [ag_i107_24, ag_i107_25, ag_i107_38]
        rw [ag_n9_is (l := 5) (k := 2) (x := 2) (by decide) (by decide) rfl]
        simp only [ag_i107_39, ag_i107_40, ag_i107_41, ag_i107_42]
        rw [ag_n9_is (l := 5) (k := 3) (x := 3) (by decide) (by decide) rfl]
        simp only [ag_i107_43, ag_i107_44, ag_i107_45, ag_i107_46]
        rw [ag_n9_is (l := 5) (k := 4) (x := 4) (by decide) (by decide) rfl]
        simp only [ag_i107_47_n, ag_i107_47_i, ag_i107_47_r]
      · rw [if_pos (show (0 : Int) ≤ u by omega), if_neg c]
        have hz := ag_HS_fr h (ag_fr_n9 σ (Sum.inl (5, ag_ui (ag_ui (fun _ => 0) 0 x) 1 u)) 5)
        simp only [ag_i107_28, ag_i107_29, ag_h_g3 hz, ag_i107_32, ag_i107_33, ag_c_q hz t (c := u.toNat) (by omega) (show u = ((u.toNat : Nat) : Int) by omega), ag_i107_34, ag_i107_35, ag_c_i2 hz t (c := u.toNat) (by omega), ag_i107_36, ag_i107_37, ag_i107_38]
        rw [ag_n9_is (l := 5) (k := 2) (x := 2) (by decide) (by decide) rfl]
        simp only [ag_i107_39, ag_i107_40, ag_i107_41, ag_i107_42]
        rw [ag_n9_is (l := 5) (k := 3) (x := 3) (by decide) (by decide) rfl]
        simp only [ag_i107_43, ag_i107_44, ag_i107_45, ag_i107_46]
        rw [ag_n9_is (l := 5) (k := 4) (x := 4) (by decide) (by decide) rfl]
        simp only [ag_i107_47_n, ag_i107_47_i, ag_i107_47_r]
    have hsl := fun K => ag_h_slot c4 hun K
    rw [sle] at hsl
    simp only [ag_e107, ag_i107_0, ag_i107_1, ag_h_g3 h, ag_i107_4, ag_h_a1 h, t.1, ag_i107_5_n, ag_i107_5_i, ag_i107_5_r, fld, ag_i107_49, ag_i107_50, ag_i107_51, ag_h_g3 h1, ag_i107_54, ag_i107_56, c1, ag_kk_v, ag_kk_n, Nat.reduceAdd, ag_i107_59, c2, ag_i107_62, ag_i107_63, ag_h_g4 c4, ag_i107_66, ag_i107_67, ag_i107_68, ag_h_ck c4, hsl, ag_kk_v, ag_kk_n, Nat.reduceAdd, ag_i107_71, ag_i107_72, ag_h_g4 c4, ag_i107_75, ag_i107_76, ag_i107_77, ag_h_ck c4, hsl, ag_kk_v, ag_kk_n, Nat.reduceAdd, ag_i107_80, hqa, ag_i107_81, ag_i107_83, ag_i107_85, d1, ag_kk_v, ag_kk_n, Nat.reduceAdd, ag_i107_88]
    rw [d3 (sl : Int) _ rfl]
    simp only [ag_i107_89, ag_i107_91]
theorem ag_cut_eq {f : Nat → Int} {p l : Nat} {A C : List Int} {c : Int} (h : ag_ls l f = A ++ c :: C) (hp : p = A.length) : l = p + 1 + C.length ∧ f p = c ∧ (∀ i, i < p → f i ∈ A) ∧ ag_ls (l - 1) (va_cpy f (va_cpy f (fun _ => 0) 0 0 p) (p + 1) p (l - 1 - p)) = A ++ C := by
  subst hp
  have hl := congrArg List.length h
  rw [ag_ls_len, List.length_append, List.length_cons] at hl
  have hg : ∀ i, i < l → some (f i) = (A ++ c :: C)[i]? := fun i hi => by rw [← h, ag_ls_get hi]
  refine ⟨by omega, ?_, fun i hi => ?_, ?_⟩
  · have := hg A.length (by omega)
    rw [List.getElem?_append_right (Nat.le_refl _), Nat.sub_self] at this
    exact Option.some.inj this
  · have := hg i (by omega)
    rw [List.getElem?_append_left hi] at this
    exact List.mem_of_getElem? this.symm
  · apply List.ext_getElem?
    intro i
    by_cases h1 : i < l - 1
    · rw [ag_ls_get h1]
      show some (if A.length ≤ i ∧ i < A.length + (l - 1 - A.length) then f (A.length + 1 + (i - A.length)) else if 0 ≤ i ∧ i < 0 + A.length then f (0 + (i - 0)) else 0) = _
      by_cases h2 : i < A.length
      · rw [if_neg (by omega), if_pos (by omega), List.getElem?_append_left h2]
        have := hg i (by omega)
        rw [List.getElem?_append_left h2] at this
        rw [← this]
        congr 2
        omega
      · rw [if_pos (by omega), List.getElem?_append_right (by omega)]
        have := hg (A.length + 1 + (i - A.length)) (by omega)
        rw [List.getElem?_append_right (by omega), show A.length + 1 + (i - A.length) - A.length = (i - A.length) + 1 by omega, List.getElem?_cons_succ] at this
        exact this
    · rw [List.getElem?_eq_none (by rw [ag_ls_len]; omega), List.getElem?_eq_none (by rw [List.length_append]; omega)]
theorem ag_h_cut (h : ag_HS B σ L ln g dr qu mi) (t : ag_TC gb w n ln g) (hw : w ≤ 40) {c : Nat} (hc : c < w) {sl : Nat} (hu : ag_slt w (gb 1 c) sl) {A C : List Int} (hA : ag_kds ln g sl = A ++ (c : Int) :: C) (hno : (c : Int) ∉ A) (hl : ln (200 + sl) ≤ 40) :
    ∃ σ' L' ln' g', ag_HS B σ' L' ln' g' dr qu mi ∧ ag_hf B σ σ' 1 100 ∧ (∀ r, r ≠ 200 + sl → L' r = L r ∧ ln' r = ln r ∧ g' r = g r) ∧ ag_kds ln' g' sl = A ++ C ∧ (∀ K : ag_Rs → ag_S → Prop, ag_cl9 108 [ag_R B, ag_I (c : Int)] σ K = K (Sum.inl none) σ') ∧ L' (200 + sl) = σ.2.1 + 1 ∧ ∀ z, z ≤ σ.2.1 → z ≠ L 2 → σ'.1 z = σ.1 z := by
  obtain ⟨s40, sle, hun⟩ := ag_slt_40 hu hw
  obtain ⟨e1, e2, e3, e4⟩ := ag_cut_eq (p := A.length) hA rfl
  have hlv := ag_k_lv t (k := sl) s40
  have hL := h.2.2.2.2.1 _ (Or.inr hlv)
  have hrow := h.2.2.1 _ hlv
  have hsm := h.2.2.2.2.2.2.1 (200 + sl)
  have hnm := fun i => ag_h_nm h (200 + sl) i
  have hB1 := h.2.2.2.2.2.1.2
  generalize hlq : ln (200 + sl) = l at e1 e4 hrow hl
  generalize hfq : g (200 + sl) = f at e2 e3 e4 hrow hsm hnm
  generalize hp : A.length = p at e1 e2 e3 e4
  have hne : L (200 + sl) ≠ σ.2.1 + 1 := by omega
  have hN : ag_n9 σ (Sum.inl (l - 1, va_cpy f (va_cpy f (fun _ => 0) 0 0 p) (p + 1) p (l - 1 - p))) (l - 1) = (ag_up (ag_up (ag_up σ.1 (σ.2.1 + 1) (Sum.inl (l - 1, fun _ => 0))) (σ.2.1 + 1) (Sum.inl (l - 1, va_cpy f (fun _ => 0) 0 0 p))) (σ.2.1 + 1) (Sum.inl (l - 1, va_cpy f (va_cpy f (fun _ => 0) 0 0 p) (p + 1) p (l - 1 - p))), (σ.2.1 + 1, σ.2.2 + (l - 1))) := by
    unfold ag_n9
    rw [ag_up_2, ag_up_2]
  have f1 := ag_fr_n9 σ (Sum.inl (l - 1, va_cpy f (va_cpy f (fun _ => 0) 0 0 p) (p + 1) p (l - 1 - p))) (l - 1)
  have f0 := ag_fr_n9 σ (Sum.inl (l - 1, fun _ => (0 : Int))) (l - 1)
  have f2 := ag_fr_n9 σ (Sum.inl (l - 1, va_cpy f (fun _ => 0) 0 0 p)) (l - 1)
  have h0 := ag_HS_fr h f0
  have h2 := ag_HS_fr h f2
  have h1 := ag_HS_fr h f1
  have hsm1 : ∀ i, -100000 ≤ va_cpy f (va_cpy f (fun _ => 0) 0 0 p) (p + 1) p (l - 1 - p) i ∧ va_cpy f (va_cpy f (fun _ => 0) 0 0 p) (p + 1) p (l - 1 - p) i ≤ 100000 := by
    intro i
    show -100000 ≤ (if p ≤ i ∧ i < p + (l - 1 - p) then f (p + 1 + (i - p)) else if 0 ≤ i ∧ i < 0 + p then f (0 + (i - 0)) else 0) ∧ (if p ≤ i ∧ i < p + (l - 1 - p) then f (p + 1 + (i - p)) else if 0 ≤ i ∧ i < 0 + p then f (0 + (i - 0)) else 0) ≤ 100000
    repeat' split
    · exact hsm _
    · exact hsm _
    · exact ⟨by decide, by decide⟩
  obtain ⟨σ5, d1, d2, d3, d4, d5⟩ := ag_h_kid h1 (k := sl) (q := σ.2.1 + 1) (by rw [t.2.1]; omega) (ag_n9_at _ _ _) (ag_HS_new h (Nat.lt_succ_self _) (Nat.lt_succ_self _) (Nat.le_refl _)) hsm1
  refine ⟨σ5, _, _, _, d5, ag_hf_le (ag_hf_trans (ag_hf_fr f1 hB1) d4) (by omega) (by omega), fun r hr => ⟨ag_uf_ne hr, ag_uf_ne hr, ag_ug_ne _ _ hr⟩, ?_, fun K => ?_, ag_uf_at _ _ _, fun z z1 z2 => (d3 z z2).trans (f1.1 z z1)⟩
  · unfold ag_kds
    rw [ag_uf_at, ag_ug_same]
    exact e4
  · have hsl := fun K => ag_h_slot h hun K
    have hsl1 := fun K => ag_h_slot h1 hun K
    rw [sle] at hsl hsl1
    have hpl := fun K => ag_h_place (σ := ag_n9 σ (Sum.inl (l - 1, fun _ => (0 : Int))) (l - 1)) (b := L (200 + sl)) (l := l) (f := f) (p := p) (x := (c : Int)) ((ag_n9_ne hne).trans hrow) (by omega) (by omega) e2 (fun i hi u => by
      rw [hnm, ag_nm_nat (show c ≤ 1000000 by omega)] at u
      exact hno (u ▸ e3 i hi)) K
    have hal := fun K => ag_al_at (σ := ag_n9 σ (Sum.inl (l - 1, va_cpy f (fun _ => 0) 0 0 p)) (l - 1)) (z := σ.2.1 + 1) (ag_n9_at _ _ _) K
    have a1 : ag_nm ((l : Int) - 1) = ((l - 1 : Nat) : Int) := by rw [ag_nm_of (by omega) (by omega)]; omega
    have a2 : ag_nm ((p : Int) + 1) = ((p + 1 : Nat) : Int) := ag_nm_of (by omega) (by omega)
    have a3 : ag_nm (((l - 1 : Nat) : Int) - (p : Int)) = ((l - 1 - p : Nat) : Int) := by rw [ag_nm_of (by omega) (by omega)]; omega
    have a4 : ag_nm (p : Int) = p := ag_nm_nat (by omega)
    simp only [ag_e108, ag_i108_0, ag_i108_1, ag_h_g4 h, ag_i108_4, ag_i108_5, ag_i108_6, ag_h_g3 h, ag_i108_9, ag_i108_10, ag_c_q h t hc (x := (c : Int)) rfl, ag_i108_11, ag_i108_12, ag_c_i1 h t hc, ag_i108_13, ag_h_ck h, hsl, ag_kk_v, ag_kk_n, Nat.reduceAdd, ag_i108_16, ag_k_q h t s40 (x := (sl : Int)) rfl, ag_i108_17_n, ag_i108_17_i, ag_i108_17_r, ag_i108_18, ag_i108_19, ag_al_at hrow, ag_i108_20, ag_i108_21, ag_i108_22, a1, Int.toNat_natCast, ag_n9_f]
    rw [show ((0 : Int) ≤ ((l - 1 : Nat) : Int) ∧ ((l - 1 : Nat) : Int) ≤ 1000000) = True from by simp; omega, true_and]
    simp only [ag_i108_24_n, ag_i108_24_i, ag_i108_24_r, ag_i108_25, ag_i108_26, ag_i108_27, hpl, ag_kk_v, ag_kk_n, Nat.reduceAdd, ag_i108_30_n, ag_i108_30_i, ag_i108_30_r, ag_i108_32, ag_i108_33, ag_i108_34, ag_i108_35, ag_i108_36, ag_i108_38]
    rw [ag_cp_at (n0 := l) (n1 := l - 1) (f := f) (g := fun _ => 0) ((ag_n9_ne hne).trans hrow) (ag_n9_at _ _ _) (sp := 0) (dp := 0) (n := p) ag_nm_z ag_nm_z a4 (by omega) (by omega) (by omega) (by omega)]
    rw [show (ag_up (ag_n9 σ (Sum.inl (l - 1, fun _ => (0 : Int))) (l - 1)).1 (σ.2.1 + 1) (Sum.inl (l - 1, va_cpy f (fun _ => 0) 0 0 p)), (ag_n9 σ (Sum.inl (l - 1, fun _ => (0 : Int))) (l - 1)).2) = ag_n9 σ (Sum.inl (l - 1, va_cpy f (fun _ => 0) 0 0 p)) (l - 1) from by unfold ag_n9; dsimp only; rw [ag_up_2]]
    simp only [ag_i108_41, ag_i108_42, ag_i108_44, ag_i108_45, ag_i108_46, ag_i108_47, ag_i108_49, ag_i108_50, hal, ag_i108_51, ag_i108_53, ag_i108_54]
    rw [ag_cp_at (n0 := l) (n1 := l - 1) (f := f) (g := va_cpy f (fun _ => 0) 0 0 p) ((ag_n9_ne hne).trans hrow) (ag_n9_at _ _ _) (sp := p + 1) (dp := p) (n := l - 1 - p) a2 a4 a3 (by omega) (by omega) (by omega) (by omega)]
    rw [show (ag_up (ag_n9 σ (Sum.inl (l - 1, va_cpy f (fun _ => 0) 0 0 p)) (l - 1)).1 (σ.2.1 + 1) (Sum.inl (l - 1, va_cpy f (va_cpy f (fun _ => 0) 0 0 p) (p + 1) p (l - 1 - p))), (ag_n9 σ (Sum.inl (l - 1, va_cpy f (fun _ => 0) 0 0 p)) (l - 1)).2) = ag_n9 σ (Sum.inl (l - 1, va_cpy f (va_cpy f (fun _ => 0) 0 0 p) (p + 1) p (l - 1 - p))) (l - 1) from by unfold ag_n9; dsimp only; rw [ag_up_2]]
    simp only [ag_i108_57, ag_i108_58, ag_h_g4 h1, ag_i108_61, ag_i108_62, ag_i108_63, ag_h_g3 h1, ag_i108_66, ag_i108_67, ag_c_q h1 t hc (x := (c : Int)) rfl, ag_i108_68, ag_i108_69, ag_c_i1 h1 t hc, ag_i108_70, ag_h_ck h1, hsl1, ag_kk_v, ag_kk_n, Nat.reduceAdd, ag_i108_73, ag_i108_74]
    rw [d1 (sl : Int) _ rfl]
    simp only [ag_i108_75]
end AGHC
