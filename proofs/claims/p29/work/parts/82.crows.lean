/-! THE HOUSE: rows of clauses, read and written; what doIt begins with. -/
variable {B : Nat}
def ag_CR (X : Nat → Nat → Int) (w : Nat) (ln : Nat → Nat) (g : Nat → Nat → Int) : Prop := ln 1 = w ∧ ∀ c, c < w → ln (100 + c) = 5 ∧ ∀ j, j < 5 → g (100 + c) j = X j c
def ag_cxf (gb : Nat → Nat → Int) : Nat → Nat → Int := fun j c => if j = 4 then (if gb 5 c = -1 then 1 else 0) else gb j c
theorem ag_TC_CR {gb : Nat → Nat → Int} {w n : Nat} {ln : Nat → Nat} {g : Nat → Nat → Int} (t : ag_TC gb w n ln g) : ag_CR (ag_cxf gb) w ln g := by
  refine ⟨t.1, fun c hc => ⟨(t.2.2.1 c hc).1, fun j hj => ?_⟩⟩
  obtain ⟨-, e0, e1, e2, e3, e4⟩ := t.2.2.1 c hc
  have h5 : j = 0 ∨ j = 1 ∨ j = 2 ∨ j = 3 ∨ j = 4 := by omega
  rcases h5 with h5 | h5 | h5 | h5 | h5 <;> subst h5
  · exact e0
  · exact e1
  · exact e2
  · exact e3
  · exact e4
theorem ag_TC_of {gb X : Nat → Nat → Int} {w n : Nat} {ln : Nat → Nat} {g : Nat → Nat → Int} (r : ag_CR X w ln g) (h2 : ln 2 = 41) (hX : ∀ c, c < w → ∀ j, j < 5 → X j c = ag_cxf gb j c) (hk : ag_kdo gb n (ag_kds ln g)) : ag_TC gb w n ln g := by
  refine ⟨r.1, h2, fun c hc => ?_, hk⟩
  obtain ⟨e, f⟩ := r.2 c hc
  exact ⟨e, (f 0 (by decide)).trans (hX c hc 0 (by decide)), (f 1 (by decide)).trans (hX c hc 1 (by decide)), (f 2 (by decide)).trans (hX c hc 2 (by decide)), (f 3 (by decide)).trans (hX c hc 3 (by decide)), (f 4 (by decide)).trans (hX c hc 4 (by decide))⟩
theorem ag_CR_w {X : Nat → Nat → Int} {w : Nat} {ln : Nat → Nat} {g : Nat → Nat → Int} (t : ag_CR X w ln g) (c j : Nat) (v : Int) : ag_CR (ag_ug X j (ag_ui (X j) c v)) w ln (ag_ug g (100 + c) (ag_ui (g (100 + c)) j v)) := by
  refine ⟨t.1, fun c' hc' => ⟨(t.2 c' hc').1, fun j' hj' => ?_⟩⟩
  have e := (t.2 c' hc').2 j' hj'
  unfold ag_ug ag_ui
  by_cases c1 : c' = c
  · subst c1
    rw [if_pos rfl]
    by_cases c2 : j' = j
    · subst c2
      rw [if_pos rfl, if_pos rfl, if_pos rfl]
    · rw [if_neg c2, if_neg c2]
      exact e
  · rw [if_neg (show ¬ 100 + c' = 100 + c by omega)]
    by_cases c2 : j' = j
    · subst c2
      rw [if_pos rfl, if_neg c1]
      exact e
    · rw [if_neg c2]
      exact e
theorem ag_kid_len (P : List (Int × Int)) (p : Int) : (ag_kid P p).length ≤ P.length := by
  unfold ag_kid
  rw [List.length_map]
  exact List.length_filter_le _ _
theorem ag_IB_in {gb : Nat → Nat → Int} {w n : Nat} (hB : ag_IB gb w n) {c : Nat} (hc : c < w) : gb 5 c = -1 ↔ ∀ i, i < n → gb 6 i ≠ c := by
  obtain ⟨-, h1, h2, -⟩ := hB
  constructor
  · intro h i hi e
    have := (h1 i hi).2.2
    rw [e, Int.toNat_natCast, h] at this
    omega
  · intro h
    rcases h2 c hc with z | ⟨i, i1, -, i3⟩
    · exact z
    · exact absurd i3 (h i i1)
theorem ag_prl_fst {gb : Nat → Nat → Int} {n : Nat} {c : Int} : (∃ i, i < n ∧ gb 6 i = c) ↔ ∃ u, (c, u) ∈ ag_prl gb n := by
  constructor
  · rintro ⟨i, i1, i2⟩
    exact ⟨ag_pg gb i, ag_prl_mem.mpr ⟨i, i1, by rw [i2]⟩⟩
  · rintro ⟨u, hu⟩
    obtain ⟨i, i1, i2⟩ := ag_prl_mem.mp hu
    exact ⟨i, i1, (congrArg Prod.fst i2).symm⟩
theorem ag_slt_of {gb : Nat → Nat → Int} {w n p : Nat} (hB : ag_IB gb w n) (hp : p < n) : ∃ sl, ag_slt w (ag_pg gb p) sl := by
  rcases ag_par_ahead hB hp with h | ⟨j, j1, j2⟩
  · exact ⟨40, Or.inl ⟨h, rfl⟩⟩
  · have := hB.2.1 j (by omega)
    exact ⟨(gb 6 j).toNat, Or.inr ⟨(gb 6 j).toNat, by omega, by omega, rfl⟩⟩
theorem ag_kds_u {gb : Nat → Nat → Int} {w n sl : Nat} {u : Int} {ln : Nat → Nat} {g : Nat → Nat → Int} (hk : ag_kdo gb n (ag_kds ln g)) (hw : w ≤ 40) (hu : ag_slt w u sl) : ag_kds ln g sl = ag_kid (ag_prl gb n) u ∧ ln (200 + sl) ≤ n := by
  have e : ag_kds ln g sl = ag_kid (ag_prl gb n) u := by
    rcases hu with ⟨h1, h2⟩ | ⟨z, h1, h2, h3⟩
    · rw [h1, h2]
      exact hk.1
    · rw [h1, h3]
      exact hk.2 z (by omega)
  refine ⟨e, ?_⟩
  have a := ag_kid_len (ag_prl gb n) u
  rw [← e, ag_kds_len, ag_prl_len] at a
  exact a
theorem ag_pg_nat {gb : Nat → Nat → Int} {w n p : Nat} (hB : ag_IB gb w n) (hp : p < n) : ∃ c : Nat, gb 6 p = c ∧ c < w ∧ (gb 6 p).toNat = c ∧ ag_pg gb p = gb 1 c ∧ ag_hg gb p = gb 2 c := by
  have := hB.2.1 p hp
  exact ⟨(gb 6 p).toNat, by omega, by omega, rfl, rfl, rfl⟩
section AGHD
variable {σ : ag_S} {L ln : Nat → Nat} {g : Nat → Nat → Int} {dr qu mi : Int} {gb gp gh gq X : Nat → Nat → Int} {w n m np nq : Nat}
theorem ag_r_lv (t : ag_CR X w ln g) {c : Nat} (hc : c < w) : ag_hlv ln (100 + c) := by
  have := t.1
  unfold ag_hlv
  omega
theorem ag_r_q (h : ag_HS B σ L ln g dr qu mi) (t : ag_CR X w ln g) {c : Nat} (hc : c < w) {x : Int} (hx : x = c) (K : Nat → Prop) : ag_qa σ (L 1) x K = K (L (100 + c)) := ag_h_qa h (r := 1) (by decide) (by decide) (by rw [t.1]; exact hc) hx K
theorem ag_r_i (h : ag_HS B σ L ln g dr qu mi) (t : ag_CR X w ln g) {c j : Nat} (hc : c < w) (hj : j < 5) {x : Int} (hx : x = j) (K : Int → Prop) : ag_ia σ (L (100 + c)) x K = K (X j c) := by
  have e := t.2 c hc
  rw [ag_h_ia h (ag_r_lv t hc) (k := j) (by omega) (by omega) hx, e.2 j hj]
theorem ag_r_w (h : ag_HS B σ L ln g dr qu mi) (t : ag_CR X w ln g) {c j : Nat} (hc : c < w) (hj : j < 5) {v : Int} (v1 : -100000 ≤ v) (v2 : v ≤ 100000) :
    ∃ σ' g', ag_HS B σ' L ln g' dr qu mi ∧ ag_CR (ag_ug X j (ag_ui (X j) c v)) w ln g' ∧ (∀ r, r ≠ 100 + c → g' r = g r) ∧ ag_hf B σ σ' 0 0 ∧ (∀ z, z ≠ L (100 + c) → σ'.1 z = σ.1 z) ∧ σ'.2 = σ.2 ∧ ∀ (x : Int) (K : ag_S → Prop), x = j → ag_is σ (L (100 + c)) x v K = K σ' := by
  have hlv := ag_r_lv t hc
  have hl := (t.2 c hc).1
  have hz := h.2.2.2.2.1 _ (Or.inr hlv)
  refine ⟨_, _, ag_HS_is h hlv j v1 v2, ag_CR_w t c j v, fun r hr => ag_ug_ne _ _ hr, ag_hf_up σ _ (Or.inr hz.1), fun z hz => ag_up_ne hz, rfl, fun x K hx => ?_⟩
  rw [ag_h_is h hlv (k := j) (by omega) (by omega) hx]
/-- what doIt begins with: the clause's place among its parent's children -/
theorem ag_d_pre (h : ag_HS B σ L ln g dr qu mi) (t : ag_TC gb w n ln g) (ta : ag_TA gp m ln g) (hV : ag_IV (gb, (w, (n, gp))) m) {b : Nat} (hb : b < m) (h5 : gp 0 b ≠ 5) {p c sl : Nat} (hp : p < n) (e6 : gb 6 p = c) (ec : gp 1 b = c) (hc : c < w) (hu : ag_slt w (gb 1 c) sl) {A C : List Int} (hA : ag_kid (ag_prl gb n) (gb 1 c) = A ++ (c : Int) :: C) (hno : (c : Int) ∉ A) (K : ag_Rs → ag_S → Prop) :
    ag_cl9 118 [ag_R B, ag_I (b : Int)] σ K = ag_wp 118 57 [some (ag_R B), some (ag_I (b : Int)), some (ag_R (L (300 + b))), some (ag_I (c : Int)), some (ag_I (gb 1 c)), some (ag_I (A.length : Int)), none, none, none, none, none, none, none, none, none] [] σ K := by
  have hB : ag_IB gb w n := hV.1
  have hsp : ag_sm gp := hV.2.1.1.2.1
  have hw : w ≤ 40 := hB.1.2.2.2
  have hnw : n ≤ w := hB.1.2.2.1
  have enm := fun k i => ag_nm_s hsp k i
  obtain ⟨s40, sle, hun⟩ := ag_slt_40 hu hw
  obtain ⟨k1, k2⟩ := ag_kds_u t.2.2.2 hw hu
  rw [hA] at k1
  obtain ⟨e1, e2, e3, -⟩ := ag_cut_eq (p := A.length) k1 rfl
  have hsl := fun K => ag_h_slot h hun K
  rw [sle] at hsl
  have hpl := fun K => ag_h_place (σ := σ) (b := L (200 + sl)) (l := ln (200 + sl)) (f := g (200 + sl)) (p := A.length) (x := (c : Int)) (h.2.2.1 _ (ag_k_lv t s40)) (by omega) (by omega) e2 (fun i hi z => by
    rw [ag_h_nm h, ag_nm_nat (show c ≤ 1000000 by omega)] at z
    exact hno (z ▸ e3 i hi)) K
  have r0 : ∀ K : Int → Prop, ag_ia σ (L (300 + b)) 0 K = K (gp 0 b) := fun K => ag_a_i0 h ta hb K
  have r1 : ∀ K : Int → Prop, ag_ia σ (L (300 + b)) 1 K = K (c : Int) := fun K => by rw [ag_a_i1 h ta hb K, ec]
  simp only [ag_e118, ag_i118_0, ag_i118_1, ag_h_g5 h, ag_i118_4, ag_i118_5, ag_a_q h ta hb (x := (b : Int)) rfl, ag_i118_6_n, ag_i118_6_i, ag_i118_6_r, ag_i118_7, ag_i118_8, ag_i118_9, r1, ag_i118_10_n, ag_i118_10_i, ag_i118_10_r, ag_i118_11, ag_i118_12, ag_i118_13, r0, ag_i118_14, ag_i118_15, enm, ag_nmk_5]
  rw [if_pos (show gp 0 b ≠ 5 from h5)]
  simp only [ag_i118_30, ag_i118_31, ag_h_g3 h, ag_i118_34, ag_i118_35, ag_c_q h t hc (x := (c : Int)) rfl, ag_i118_36, ag_i118_37, ag_c_i1 h t hc, ag_i118_38_n, ag_i118_38_i, ag_i118_38_r, ag_i118_40, ag_i118_41, ag_h_g4 h, ag_i118_44, ag_i118_45, ag_i118_47, ag_h_ck h, hsl, ag_kk_v, ag_kk_n, Nat.reduceAdd, ag_i118_50, ag_k_q h t s40 (x := (sl : Int)) rfl, ag_i118_51, ag_i118_52, hpl, ag_kk_v, ag_kk_n, Nat.reduceAdd, ag_i118_55_n, ag_i118_55_i, ag_i118_55_r]
end AGHD
