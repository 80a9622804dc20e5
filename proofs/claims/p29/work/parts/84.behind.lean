/-! THE HOUSE: doIt of a BEHIND. -/
variable {B : Nat}
section AGHF
variable {gb : Nat → Nat → Int} {w n : Nat}
/-- same parent, same height -/
theorem ag_sib_h (hB : ag_IB gb w n) {p q : Nat} (hp : p < n) (hq : q < n) (h : ag_pg gb q = ag_pg gb p) : ag_hg gb q = ag_hg gb p := by
  rcases (hB.2.2.2 p hp).2.2 with ⟨a1, a2⟩ | ⟨j, j1, j2, j3, -⟩ <;> rcases (hB.2.2.2 q hq).2.2 with ⟨b1, b2⟩ | ⟨k, k1, k2, k3, -⟩
  · omega
  · have := (hB.2.1 k (by omega)).1
    omega
  · have := (hB.2.1 j (by omega)).1
    omega
  · have hjk := ag_IB_inj hB (show k < n by omega) (show j < n by omega) (by rw [← k2, ← j2]; exact h)
    subst hjk
    omega
/-- what stands between two children of one parent, and is not higher, is its child too -/
theorem ag_sib_in (hB : ag_IB gb w n) {p i q : Nat} (hpi : p < i) (hiq : i < q) (hq : q < n) (h : ag_pg gb q = ag_pg gb p) (hi : ag_hg gb i ≤ ag_hg gb p) : ag_pg gb i = ag_pg gb p := by
  have hh := ag_sib_h hB (show p < n by omega) hq h
  have i0 := (hB.2.2.2 i (by omega)).1
  rcases (hB.2.2.2 q hq).2.2 with ⟨a1, a2⟩ | ⟨j, j1, j2, j3, j4⟩ <;> rcases (hB.2.2.2 i (by omega)).2.2 with ⟨b1, b2⟩ | ⟨k, k1, k2, k3, k4⟩
  · omega
  · have := (hB.2.2.2 k (by omega)).1
    omega
  · have := (hB.2.2.2 j (by omega)).1
    have jp : j < p := by
      rcases ag_par_ahead hB (show p < n by omega) with z | ⟨y, y1, y2⟩
      · have := (hB.2.1 j (by omega)).1
        omega
      · have := ag_IB_inj hB (show j < n by omega) (show y < n by omega) (by rw [← j2, ← y2]; exact h)
        omega
    have := j4 i (by omega) hiq
    omega
  · have jp : j < p := by
      rcases ag_par_ahead hB (show p < n by omega) with z | ⟨y, y1, y2⟩
      · have := (hB.2.1 j (by omega)).1
        omega
      · have := ag_IB_inj hB (show j < n by omega) (show y < n by omega) (by rw [← j2, ← y2]; exact h)
        omega
    have hqi := j4 i (by omega) hiq
    have hjk : j = k := by
      rcases Nat.lt_trichotomy j k with z | z | z
      · have := j4 k z (by omega)
        omega
      · exact z
      · have := k4 j z (by omega)
        omega
    rw [k2, ← hjk, ← j2]
    exact h
theorem ag_kid_head {u x : Int} {N : List Int} : ∀ (d a : Nat), a + d = n → ag_kid (ag_sgm gb a n) u = x :: N → ∃ q, a ≤ q ∧ q < n ∧ gb 6 q = x ∧ ag_pg gb q = u ∧ ∀ i, a ≤ i → i < q → ag_pg gb i ≠ u := by
  intro d
  induction d with
  | zero =>
    intro a ha h
    rw [ag_kid_no (fun i i1 i2 => by omega)] at h
    exact absurd h (by simp)
  | succ d ih =>
    intro a ha h
    rw [ag_sgm_cons (show a < n by omega), ag_kid_cons] at h
    by_cases c : ag_pg gb a = u
    · rw [if_pos c] at h
      exact ⟨a, Nat.le_refl _, by omega, (List.cons.inj h).1, c, fun i i1 i2 => by omega⟩
    · rw [if_neg c] at h
      obtain ⟨q, q1, q2, q3, q4, q5⟩ := ih (a + 1) (by omega) h
      refine ⟨q, by omega, q2, q3, q4, fun i i1 i2 => ?_⟩
      by_cases e : i = a
      · rw [e]
        exact c
      · exact q5 i (by omega) i2
theorem ag_kid_split (hB : ag_IB gb w n) {p e : Nat} (hp : p < n) (hb : ag_blk (ag_hg gb) n p e) : ag_kid (ag_prl gb n) (ag_pg gb p) = ag_kid (ag_sgm gb 0 p) (ag_pg gb p) ++ gb 6 p :: ag_kid (ag_sgm gb e n) (ag_pg gb p) ∧ gb 6 p ∉ ag_kid (ag_sgm gb 0 p) (ag_pg gb p) := by
  have hbb := hb
  obtain ⟨b1, b2, b3, b4⟩ := hb
  have hP : ag_prl gb n = ag_sgm gb 0 p ++ ((gb 6 p, ag_pg gb p) :: ag_sgm gb (p + 1) e ++ ag_sgm gb e n) := by
    rw [← ag_sgm_all, ag_sgm_app (b := p) (Nat.zero_le _) (by omega), ag_sgm_app (a := p) (b := e) (by omega) b2, ag_sgm_cons b1]
  refine ⟨?_, fun h => ?_⟩
  · rw [hP, ag_kid_app, ag_kid_app, ag_kid_cons, if_pos rfl, ag_kid_no (a := p + 1) (b := e) (fun i i1 i2 => ag_pg_ne hB hp hbb (by omega) i2)]
    rfl
  · obtain ⟨i, -, i2, i3, -⟩ := ag_kid_in h
    have := ag_IB_inj hB (by omega) hp i3
    omega
theorem ag_kid_split0 (hB : ag_IB gb w n) {p e s : Nat} (hp : p < n) (hb : ag_blk (ag_hg gb) n p e) (h1 : e ≤ s) : ag_kid (ag_sgm gb 0 s) (ag_pg gb p) = ag_kid (ag_sgm gb 0 p) (ag_pg gb p) ++ gb 6 p :: ag_kid (ag_sgm gb e s) (ag_pg gb p) := by
  have hbb := hb
  obtain ⟨b1, b2, b3, b4⟩ := hb
  rw [ag_sgm_app (a := 0) (b := p) (c := s) (Nat.zero_le _) (by omega), ag_sgm_app (a := p) (b := e) (c := s) (by omega) h1, ag_sgm_cons b1, ag_kid_app, ag_kid_app, ag_kid_cons, if_pos rfl, ag_kid_no (a := p + 1) (b := e) (fun i i1 i2 => ag_pg_ne hB hp hbb (by omega) i2)]
  rfl
/-- the train: who is in it, and who is not -/
theorem ag_train (hB : ag_IB gb w n) {p e c : Nat} (hp : p < n) (hb : ag_blk (ag_hg gb) n p e) (e6 : gb 6 p = c) (he : ag_edd gb n (c : Int) = e) :
    e ≤ ag_tra gb n (c : Int) ∧ ag_tra gb n (c : Int) ≤ n ∧ (∀ x ∈ ag_kid (ag_sgm gb e (ag_tra gb n (c : Int))) (ag_pg gb p), ∃ z : Nat, x = z ∧ z < w ∧ gb 4 z = c) ∧ (∀ x N, ag_kid (ag_sgm gb (ag_tra gb n (c : Int)) n) (ag_pg gb p) = x :: N → ∃ z : Nat, x = z ∧ z < w ∧ gb 4 z ≠ c) := by
  have hw : w ≤ 40 := hB.1.2.2.2
  have hnw : n ≤ w := hB.1.2.2.1
  have hen := hb.2.1
  obtain ⟨cc, q1, q2, q3, q4, q5⟩ := ag_pg_nat hB hp
  have hcc : cc = c := by omega
  subst hcc
  have rd2 : ag_rd 40 (gb 2) (cc : Int) = ag_hg gb p := by rw [q5]; exact ag_rd_nat (by decide) (by omega)
  have rd1 : ag_rd 40 (gb 1) (cc : Int) = ag_pg gb p := by rw [q4]; exact ag_rd_nat (by decide) (by omega)
  have rdi : ∀ i, i < n → ag_rd 40 (gb 6) i = gb 6 i := fun i hi => ag_rd_nat (by decide) (by omega)
  have rdk : ∀ (k i : Nat), i < n → ag_rd 40 (gb k) (gb 6 i) = gb k (gb 6 i).toNat := fun k i hi => by
    have := hB.2.1 i hi
    exact ag_rd_i (by decide) this.1 (by omega)
  have P : ∀ i, i < n → ((ag_rd 40 (gb 2) (ag_rd 40 (gb 6) i) ≤ ag_rd 40 (gb 2) (cc : Int) ∧ ¬ (ag_rd 40 (gb 4) (ag_rd 40 (gb 6) i) = cc ∧ ag_rd 40 (gb 1) (ag_rd 40 (gb 6) i) = ag_rd 40 (gb 1) (cc : Int))) ↔ (ag_hg gb i ≤ ag_hg gb p ∧ ¬ (gb 4 (gb 6 i).toNat = cc ∧ ag_pg gb i = ag_pg gb p))) := fun i hi => by
    rw [rdi i hi, rdk 2 i hi, rdk 4 i hi, rdk 1 i hi, rd2, rd1]
    exact Iff.rfl
  have f1 := ag_ff_le (fun i => decide (ag_rd 40 (gb 2) (ag_rd 40 (gb 6) i) ≤ ag_rd 40 (gb 2) (cc : Int) ∧ ¬ (ag_rd 40 (gb 4) (ag_rd 40 (gb 6) i) = cc ∧ ag_rd 40 (gb 1) (ag_rd 40 (gb 6) i) = ag_rd 40 (gb 1) (cc : Int)))) (n - e) e
  have f2 := ag_ff_no (fun i => decide (ag_rd 40 (gb 2) (ag_rd 40 (gb 6) i) ≤ ag_rd 40 (gb 2) (cc : Int) ∧ ¬ (ag_rd 40 (gb 4) (ag_rd 40 (gb 6) i) = cc ∧ ag_rd 40 (gb 1) (ag_rd 40 (gb 6) i) = ag_rd 40 (gb 1) (cc : Int)))) (n - e) e
  have f3 := ag_ff_yes (fun i => decide (ag_rd 40 (gb 2) (ag_rd 40 (gb 6) i) ≤ ag_rd 40 (gb 2) (cc : Int) ∧ ¬ (ag_rd 40 (gb 4) (ag_rd 40 (gb 6) i) = cc ∧ ag_rd 40 (gb 1) (ag_rd 40 (gb 6) i) = ag_rd 40 (gb 1) (cc : Int)))) (n - e) e
  have ht : ag_tra gb n (cc : Int) = ag_ff (fun i => decide (ag_rd 40 (gb 2) (ag_rd 40 (gb 6) i) ≤ ag_rd 40 (gb 2) (cc : Int) ∧ ¬ (ag_rd 40 (gb 4) (ag_rd 40 (gb 6) i) = cc ∧ ag_rd 40 (gb 1) (ag_rd 40 (gb 6) i) = ag_rd 40 (gb 1) (cc : Int)))) (n - e) e := by
    unfold ag_tra
    rw [he]
  rw [← ht] at f1 f2 f3
  generalize ag_tra gb n (cc : Int) = s at f1 f2 f3 ⊢
  have hes : e ≤ s := by omega
  have hsn : s ≤ n := by omega
  have hpe := hb.1
  refine ⟨hes, hsn, fun x hx => ?_, fun x N hx => ?_⟩
  · obtain ⟨i, i1, i2, i3, i4⟩ := ag_kid_in hx
    have hi : i < n := by omega
    have a := hB.2.1 i hi
    have nt := of_decide_eq_false (f2 i i1 i2)
    rw [P i hi] at nt
    have hh := ag_sib_h hB hp hi i4
    refine ⟨(gb 6 i).toNat, by omega, by omega, ?_⟩
    by_cases c4 : gb 4 (gb 6 i).toNat = cc
    · exact c4
    · exact absurd ⟨by omega, fun z => c4 z.1⟩ nt
  · obtain ⟨q, q1, q2, q3, q4, q5⟩ := ag_kid_head (n - s) s (by omega) hx
    have a := hB.2.1 q q2
    refine ⟨(gb 6 q).toNat, by omega, by omega, fun z => ?_⟩
    have yes := of_decide_eq_true (f3 (by omega))
    rw [P s (by omega)] at yes
    by_cases c : q = s
    · subst c
      exact yes.2 ⟨z, q4⟩
    · have := ag_sib_in hB (show p < s by omega) (show s < q by omega) q2 q4 yes.1
      exact q5 s (Nat.le_refl _) (by omega) this
end AGHF
section AGHG
variable {σ : ag_S} {L ln : Nat → Nat} {g : Nat → Nat → Int} {dr qu mi : Int} {gb gp gh gq X : Nat → Nat → Int} {w n m np nq : Nat}
theorem ag_d_3 (h : ag_HS B σ L ln g dr qu mi) (t : ag_TC gb w n ln g) (ta : ag_TA gp m ln g) (tp : ag_TP gq nq ln g) (hV : ag_IV (gb, (w, (n, gp))) m) {b : Nat} (hb : b < m) (k3 : gp 0 b = 3) (hl : gp 3 b = 0) (hf : ag_ftb gb w n gp b ≠ 0) : ag_DO B σ L ln g dr qu mi gb w n gp m gq nq b := by
  have hB : ag_IB gb w n := hV.1
  have hsp : ag_sm gp := hV.2.1.1.2.1
  have hm : m ≤ 20 := hV.2.1.1.2.2
  have hs : ag_sm gb := hB.1.2.1
  have enm := fun k i => ag_nm_s hsp k i
  have enb := fun k i => ag_nm_s hs k i
  have hPI := ag_pfm_I hV hb hl hf
  have hB' : ag_IB (ag_pfm gb w n gp b).1 (ag_pfm gb w n gp b).2.1 (ag_pfm gb w n gp b).2.2.1 := hPI.1
  have hw : w < 40 := by
    unfold ag_ftb ag_fit at hf
    rw [if_neg (by omega), if_pos k3] at hf
    by_cases z : 40 ≤ w
    · rw [if_pos z] at hf
      exact absurd rfl hf
    · omega
  have hnw : n ≤ w := hB.1.2.2.1
  obtain ⟨⟨p, e, hp1, hp6, hp5, hp3, hp2, hpb, hpe, hc0, hc1⟩, -⟩ := ag_lhd_of hV hb hl (by omega)
  obtain ⟨c, e6, hc, -, epg, ehg⟩ := ag_pg_nat hB hp1
  have ec : gp 1 b = c := hp6.symm.trans e6
  have hpc : ag_edd gb n (c : Int) = e := by rw [← ec, ← hpe]
  obtain ⟨sl, hu⟩ := ag_slt_of hB hp1
  obtain ⟨hA, hno⟩ := ag_kid_split hB hp1 hpb
  obtain ⟨t1, t2, t3, t4⟩ := ag_train hB hp1 hpb e6 hpc
  have hA0 := ag_kid_split0 hB hp1 hpb t1
  have hC : ag_kid (ag_sgm gb e n) (ag_pg gb p) = ag_kid (ag_sgm gb e (ag_tra gb n (c : Int))) (ag_pg gb p) ++ ag_kid (ag_sgm gb (ag_tra gb n (c : Int)) n) (ag_pg gb p) := by
    rw [ag_sgm_app (a := e) (b := ag_tra gb n (c : Int)) (c := n) t1 t2, ag_kid_app]
  rw [hC] at hA
  rw [epg] at hu hA hno hA0 t3 t4
  rw [e6] at hA hno hA0
  have hpar : ∀ z : Nat, gb 1 c = z → gb 2 z ≤ 99 := fun z hz => by
    rcases ag_par_ahead hB hp1 with y | ⟨j, j1, j2⟩
    · omega
    · have := (ag_IB_hg hB (show j < n by omega)).2
      have e7 : ag_hg gb j = gb 2 z := by
        show gb 2 (gb 6 j).toNat = _
        rw [← j2, epg, hz, Int.toNat_natCast]
      omega
  have pre := fun K => ag_d_pre h t ta hV hb (by omega) hp1 e6 ec hc hu hA hno K
  obtain ⟨s40, sle, hun⟩ := ag_slt_40 hu (Nat.le_of_lt hw)
  obtain ⟨q1, q2⟩ := ag_kds_u t.2.2.2 (Nat.le_of_lt hw) hu
  rw [hA] at q1
  generalize hAA : ag_kid (ag_sgm gb 0 p) (gb 1 c) = A at hA hno hA0 q1 pre
  generalize hMM : ag_kid (ag_sgm gb e (ag_tra gb n (c : Int))) (gb 1 c) = M at hA hA0 t3 q1
  generalize hNN : ag_kid (ag_sgm gb (ag_tra gb n (c : Int)) n) (gb 1 c) = N at hA t4 q1
  have q1' : ag_ls (ln (200 + sl)) (g (200 + sl)) = A ++ (c : Int) :: (M ++ N) := q1
  have hll := congrArg List.length q1'
  rw [ag_ls_len, List.length_append, List.length_cons, List.length_append] at hll
  have hg : ∀ i, i < ln (200 + sl) → some (g (200 + sl) i) = (A ++ (c : Int) :: (M ++ N))[i]? := fun i hi => by rw [← q1', ag_ls_get hi]
  have hgM : ∀ i, A.length + 1 ≤ i → i < A.length + 1 + M.length → g (200 + sl) i ∈ M := fun i i1 i2 => by
    have := hg i (by omega)
    rw [List.getElem?_append_right (by omega), show i - A.length = (i - A.length - 1) + 1 by omega, List.getElem?_cons_succ, List.getElem?_append_left (by omega)] at this
    exact List.mem_of_getElem? this.symm
  have hgN : A.length + 1 + M.length < ln (200 + sl) → ∃ N', N = g (200 + sl) (A.length + 1 + M.length) :: N' := fun i1 => by
    have := hg (A.length + 1 + M.length) (by omega)
    rw [List.getElem?_append_right (by omega), show A.length + 1 + M.length - A.length = M.length + 1 by omega, List.getElem?_cons_succ, List.getElem?_append_right (Nat.le_refl _), Nat.sub_self] at this
    cases N with
    | nil => exact absurd this (by simp)
    | cons x N' =>
      rw [List.getElem?_cons_zero] at this
      rw [Option.some.inj this]
      exact ⟨N', rfl⟩
  -- the loop
  have hlvk := ag_k_lv t s40
  have hl40 : ln (200 + sl) ≤ 40 := by omega
  have hrow := fun (j : Nat) (hj : j < ln (200 + sl)) K => ag_h_ia h hlvk hj (by omega) (x := (j : Int)) rfl K
  have hIP : ∀ z : Nat, z < w → -1 ≤ gb 3 z ∧ gb 3 z < m ∧ gb 4 z = (if 0 ≤ gb 3 z ∧ gp 0 (gb 3 z).toNat = 3 then gp 1 (gb 3 z).toNat else -1) := hV.2.1.2.1
  have stp : ∀ (j z : Nat) (K : ag_Rs → ag_S → Prop), j < ln (200 + sl) → g (200 + sl) j = z → z < w → ag_wp 118 127 [some (ag_R B), some (ag_I (b : Int)), some (ag_R (L (300 + b))), some (ag_I (c : Int)), some (ag_I (gb 1 c)), some (ag_I (A.length : Int)), some (ag_R (L (200 + sl))), some (ag_I (j : Int)), none, none, none, none, none, none, none] [] σ K =
      if gb 4 z = c then ag_wp 118 127 [some (ag_R B), some (ag_I (b : Int)), some (ag_R (L (300 + b))), some (ag_I (c : Int)), some (ag_I (gb 1 c)), some (ag_I (A.length : Int)), some (ag_R (L (200 + sl))), some (ag_I ((j + 1 : Nat) : Int)), none, none, none, none, none, none, none] [] σ K
      else ag_wp 118 202 [some (ag_R B), some (ag_I (b : Int)), some (ag_R (L (300 + b))), some (ag_I (c : Int)), some (ag_I (gb 1 c)), some (ag_I (A.length : Int)), some (ag_R (L (200 + sl))), some (ag_I (j : Int)), none, none, none, none, none, none, none] [] σ K := by
    intro j z K hj hz hzw
    obtain ⟨v1, v2, v3⟩ := hIP z hzw
    have hr := hrow j hj
    rw [hz] at hr
    rw [ag_i118_127]
    simp only [ag_i118_129, ag_i118_131, ag_h_lal h hlvk, ag_i118_132, ag_nm_nat (show ln (200 + sl) ≤ 1000000 by omega), ag_nm_nat (show j ≤ 1000000 by omega)]
    rw [if_neg (show ¬ (ln (200 + sl) : Int) ≤ j by omega)]
    simp only [ag_i118_135, ag_i118_136, ag_h_g3 h, ag_i118_139, ag_i118_141, ag_i118_143, hr, ag_i118_144, ag_c_q h t hzw (x := (z : Int)) rfl, ag_i118_145, ag_i118_146, ag_c_i3 h t hzw, ag_i118_147, enb, ag_nm_z]
    by_cases c1 : gb 3 z < 0
    · rw [if_pos c1, if_neg (show ¬ gb 4 z = c by rw [v3, if_neg (fun y => by omega)]; omega)]
    · obtain ⟨a, ha⟩ : ∃ a : Nat, gb 3 z = a := ⟨(gb 3 z).toNat, by omega⟩
      have ham : a < m := by omega
      rw [ha, Int.toNat_natCast] at v3
      rw [if_neg c1]
      simp only [ag_i118_150, ag_i118_151, ag_h_g5 h, ag_i118_154, ag_i118_155, ag_h_g3 h, ag_i118_158, ag_i118_160, ag_i118_162, hr, ag_i118_163, ag_c_q h t hzw (x := (z : Int)) rfl, ag_i118_164, ag_i118_165, ag_c_i3 h t hzw, ag_i118_166, ag_a_q h ta ham (x := gb 3 z) ha, ag_i118_167, ag_i118_168, ag_a_i0 h ta ham, ag_i118_169, ag_i118_170, enm, ag_nmk_3]
      by_cases c2 : gp 0 a = 3
      · rw [if_neg (show ¬ gp 0 a ≠ 3 by omega)]
        rw [if_pos ⟨by omega, c2⟩] at v3
        simp only [ag_i118_173, ag_i118_174, ag_h_g5 h, ag_i118_177, ag_i118_178, ag_h_g3 h, ag_i118_181, ag_i118_183, ag_i118_185, hr, ag_i118_186, ag_c_q h t hzw (x := (z : Int)) rfl, ag_i118_187, ag_i118_188, ag_c_i3 h t hzw, ag_i118_189, ag_a_q h ta ham (x := gb 3 z) ha, ag_i118_190, ag_i118_191, ag_a_i1 h ta ham, ag_i118_192, ag_i118_193, enm, ag_nm_nat (show c ≤ 1000000 by omega)]
        by_cases c3 : gp 1 a = c
        · rw [if_neg (show ¬ gp 1 a ≠ c by omega), if_pos (show gb 4 z = c by omega)]
          simp only [ag_i118_196_n, ag_i118_196_i, ag_i118_196_r, ag_i118_199]
          rfl
        · rw [if_pos (show gp 1 a ≠ c from c3), if_neg (show ¬ gb 4 z = c by omega)]
      · rw [if_pos (show gp 0 a ≠ 3 from c2), if_neg (show ¬ gb 4 z = c by rw [v3, if_neg (fun y => c2 y.2)]; omega)]
  have loop : ∀ (d j : Nat) (K : ag_Rs → ag_S → Prop), A.length + 1 ≤ j → j + d = A.length + 1 + M.length → ag_wp 118 127 [some (ag_R B), some (ag_I (b : Int)), some (ag_R (L (300 + b))), some (ag_I (c : Int)), some (ag_I (gb 1 c)), some (ag_I (A.length : Int)), some (ag_R (L (200 + sl))), some (ag_I (j : Int)), none, none, none, none, none, none, none] [] σ K =
      ag_wp 118 202 [some (ag_R B), some (ag_I (b : Int)), some (ag_R (L (300 + b))), some (ag_I (c : Int)), some (ag_I (gb 1 c)), some (ag_I (A.length : Int)), some (ag_R (L (200 + sl))), some (ag_I ((A.length + 1 + M.length : Nat) : Int)), none, none, none, none, none, none, none] [] σ K := by
    intro d
    induction d with
    | zero =>
      intro j K j1 j2
      have hj : j = A.length + 1 + M.length := by omega
      by_cases c1 : j < ln (200 + sl)
      · obtain ⟨N', hN⟩ := hgN (by omega)
        obtain ⟨z, z1, z2, z3⟩ := t4 _ _ hN
        rw [← hj] at z1
        rw [stp j z K c1 z1 z2, if_neg z3, hj]
      · rw [ag_i118_127]
        simp only [ag_i118_129, ag_i118_131, ag_h_lal h hlvk, ag_i118_132, ag_nm_nat (show ln (200 + sl) ≤ 1000000 by omega), ag_nm_nat (show j ≤ 1000000 by omega)]
        rw [if_pos (show (ln (200 + sl) : Int) ≤ j by omega), hj]
    | succ d ih =>
      intro j K j1 j2
      obtain ⟨z, z1, z2, z3⟩ := t3 _ (hgM j j1 (by omega))
      rw [stp j z K (by omega) z1 z2, if_pos z3]
      exact ih (j + 1) K (by omega) (by omega)
  obtain ⟨σ1, L1, ln1, g1, a1, a2, a3, a4, a5, a6, a7, a8⟩ := ag_h_create h t hs hw (u := gb 1 c) (x := gp 2 b) (y := (b : Int)) (sl := sl) (k := A.length + 1 + M.length) hu (hsp 2 b).1 (hsp 2 b).2 (by omega) (by omega) (by omega) hl40 hpar
  have g3 : ag_gc ln g ln1 g1 := fun r hr => (a5 r (by omega) (by omega) (by omega)).2
  have ta1 := ag_TA_gc g3 ta
  obtain ⟨σ2, g2, b1, b2, b3, b4, b5⟩ := ag_a_w a1 ta1 hm hb (j := 5) (by decide) (v := (w : Int)) (by omega) (by omega)
  have hLb : L1 (300 + b) = L (300 + b) := (a5 (300 + b) (by omega) (by omega) (by omega)).1
  have hu1 : ag_rd 40 (gb 1) (c : Int) = gb 1 c := ag_rd_nat (by decide) (by omega)
  have hpf : ag_pfm gb w n gp b = (ag_ug (ag_ug (ag_G3 gb w n (c : Int) (gp 2 b)) 4 (ag_ui (ag_G3 gb w n (c : Int) (gp 2 b) 4) w c)) 3 (ag_ui (ag_G3 gb w n (c : Int) (gp 2 b) 3) w b), (w + 1, (n + 1, ag_ug gp 5 (ag_ui (gp 5) b w)))) := by
    unfold ag_pfm
    rw [if_neg (by omega), if_neg (by omega), if_neg (by omega), if_pos k3, ec, ag_wr_nat _ (by decide) hw, ag_wr_nat _ (by decide) hw, ag_wr_nat _ (by decide) (by omega)]
  have hsp2 : ag_sm (ag_ug gp 5 (ag_ui (gp 5) b w)) := ag_sm_ug9 hsp fun z => by
    have := hsp 5 z
    unfold ag_ui
    split <;> omega
  have hT : ag_TC (ag_pfm gb w n gp b).1 (ag_pfm gb w n gp b).2.1 (ag_pfm gb w n gp b).2.2.1 ln1 g1 := by
    rw [hpf] at hB' ⊢
    refine ag_TC_ins (place := ag_tra gb n (c : Int)) (x := gp 2 b) (u := gb 1 c) (hh := if gb 1 c < 0 then 0 else gb 2 (gb 1 c).toNat + 1) (y := (b : Int)) (sl := sl) (k := A.length + 1 + M.length) hB hB' t t2 ?_ ?_ ?_ ?_ ?_ hu ?_ a3 a4 (fun r r1 r2 r3 => (a5 r r1 r2 r3).2) a6 a7
    · show ag_G3 gb w n (c : Int) (gp 2 b) 6 = _
      unfold ag_G3
      exact ag_gi_rows.2.2.2.2
    · rfl
    · show ag_ui (gb 1) w (ag_rd 40 (gb 1) (c : Int)) = _
      rw [hu1]
    · show ag_ui (gb 2) w (ag_hun gb (ag_rd 40 (gb 1) (c : Int))) = _
      rw [hu1]
      unfold ag_hun
      rw [hun]
      rcases hu with ⟨y1, -⟩ | ⟨y, y1, y2, -⟩
      · rw [y1, if_pos rfl, if_pos (by decide)]
      · rw [y1, if_neg (by omega), if_neg (by omega), Int.toNat_natCast, ag_rd_nat (by decide) (by omega)]
    · show ag_ui (ag_ui (gb 3) w (-1)) w b = _
      exact ag_ui_ui _ _ _ _
    · rw [hA0, List.length_append, List.length_cons]
      omega
  refine ⟨σ2, L1, ln1, g2, b1, ag_TC_g3 hB'.1.2.2.2 hT b3, ?_, ?_, ag_gd_trans (ag_gd_gc g3) (ag_gd_g3 b3), ag_hf_le (ag_hf_trans a2 b4) (by omega) (by omega), fun K => ?_⟩
  · rw [hpf]
    exact b2
  · rw [ag_tpf_no (by omega)]
    exact ag_TP_g3 (ag_TP_gc g3 tp) b3
  · have w5 := fun K => b5 5 K rfl
    rw [hLb] at w5
    have hsl := fun K => ag_h_slot h hun K
    rw [sle] at hsl
    have l0 := fun K => loop M.length (A.length + 1) K (Nat.le_refl _) rfl
    rw [pre, ag_d_57 h ta hsp hb (by omega), ag_d_75 h ta hsp hb (by omega), ag_i118_101]
    simp only [ag_i118_102, ag_i118_103, ag_a_i0 h ta hb, ag_i118_104, ag_i118_105, enm, ag_nmk_3]
    rw [if_neg (show ¬ gp 0 b ≠ 3 by omega)]
    simp only [ag_i118_108, ag_i118_109, ag_h_g4 h, ag_i118_112, ag_i118_113, ag_i118_115, ag_h_ck h, hsl, ag_kk_v, ag_kk_n, Nat.reduceAdd, ag_i118_118, ag_k_q h t s40 (x := (sl : Int)) rfl, ag_i118_119_n, ag_i118_119_i, ag_i118_119_r, ag_i118_121, ag_i118_123, ag_i118_124, ag_i118_125_n, ag_i118_125_i, ag_i118_125_r]
    rw [show (A.length : Int) + 1 = ((A.length + 1 : Nat) : Int) from rfl, l0]
    simp only [ag_i118_202, ag_i118_203, ag_i118_204, ag_i118_205, ag_i118_207, ag_i118_208, ag_i118_209, ag_a_i2 h ta hb, ag_i118_210, ag_i118_211, ag_i118_213, ag_h_ck h, a8, ag_kk_v, ag_kk_n, Nat.reduceAdd, ag_i118_216, w5]
    rw [← hLb, ag_d_217 b1 b2 hsp2 hb (by show gp 0 b ≠ 1; omega), ag_d_384 b1 b2 hsp2 hb (by show gp 0 b ≠ 0; omega)]
end AGHG
