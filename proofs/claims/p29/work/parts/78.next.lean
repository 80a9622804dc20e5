/-! THE HOUSE: bill, next. -/
variable {B : Nat}
/-- the one of kind kd to c that was laid first -/
def ag_bs (gp : Nat → Nat → Int) (m : Nat) (kd c : Int) : Int := if ag_ff (fun a => decide (gp 3 a = 0 ∧ gp 0 a = kd ∧ gp 1 a = c)) m 0 < m then (ag_ff (fun a => decide (gp 3 a = 0 ∧ gp 0 a = kd ∧ gp 1 a = c)) m 0 : Int) else -1
def ag_bk (gp : Nat → Nat → Int) (m : Nat) (c : Int) : Nat → Nat → Int
  | 0, _ => -1
  | j + 1, d => if ag_bs gp m d c = -1 then ag_bk gp m c j (d + 1) else ag_bs gp m d c
def ag_bb (gb gp : Nat → Nat → Int) (m : Nat) : Nat → Nat → Int
  | 0, _ => -1
  | j + 1, k => if ag_bk gp m (gb 6 k) 5 0 = -1 then ag_bb gb gp m j (k + 1) else ag_bk gp m (gb 6 k) 5 0
theorem ag_bs_is (gp : Nat → Nat → Int) (m : Nat) (kd c : Int) : (ag_bs gp m kd c = -1 ∧ ∀ a, a < m → ¬ (gp 3 a = 0 ∧ gp 0 a = kd ∧ gp 1 a = c)) ∨ (∃ b : Nat, b < m ∧ ag_bs gp m kd c = b ∧ (gp 3 b = 0 ∧ gp 0 b = kd ∧ gp 1 b = c) ∧ ∀ a, a < b → ¬ (gp 3 a = 0 ∧ gp 0 a = kd ∧ gp 1 a = c)) := by
  have h1 := ag_ff_no (fun a => decide (gp 3 a = 0 ∧ gp 0 a = kd ∧ gp 1 a = c)) m 0
  have h2 := ag_ff_yes (fun a => decide (gp 3 a = 0 ∧ gp 0 a = kd ∧ gp 1 a = c)) m 0
  have h3 := ag_ff_le (fun a => decide (gp 3 a = 0 ∧ gp 0 a = kd ∧ gp 1 a = c)) m 0
  unfold ag_bs
  generalize ag_ff (fun a => decide (gp 3 a = 0 ∧ gp 0 a = kd ∧ gp 1 a = c)) m 0 = x at h1 h2 h3 ⊢
  by_cases hx : x < m
  · rw [if_pos hx]
    exact Or.inr ⟨x, hx, rfl, of_decide_eq_true (h2 (by omega)), fun a ha => of_decide_eq_false (h1 a (by omega) ha)⟩
  · rw [if_neg hx]
    exact Or.inl ⟨rfl, fun a ha => of_decide_eq_false (h1 a (by omega) (by omega))⟩
theorem ag_bk_is (gp : Nat → Nat → Int) (m : Nat) (c : Int) : ∀ (j d : Nat), (ag_bk gp m c j d = -1 ∧ ∀ d' : Nat, d ≤ d' → d' < d + j → ∀ a, a < m → ¬ (gp 3 a = 0 ∧ gp 0 a = d' ∧ gp 1 a = c)) ∨
    (∃ b d1 : Nat, b < m ∧ d ≤ d1 ∧ d1 < d + j ∧ ag_bk gp m c j d = b ∧ (gp 3 b = 0 ∧ gp 0 b = d1 ∧ gp 1 b = c) ∧ (∀ a, a < b → ¬ (gp 3 a = 0 ∧ gp 0 a = d1 ∧ gp 1 a = c)) ∧ ∀ d' : Nat, d ≤ d' → d' < d1 → ∀ a, a < m → ¬ (gp 3 a = 0 ∧ gp 0 a = d' ∧ gp 1 a = c)) := by
  intro j
  induction j with
  | zero => intro d; exact Or.inl ⟨rfl, fun d' h1 h2 => by omega⟩
  | succ j ih =>
    intro d
    unfold ag_bk
    rcases ag_bs_is gp m d c with ⟨e1, e2⟩ | ⟨b, b1, b2, b3, b4⟩
    · rw [if_pos e1]
      rcases ih (d + 1) with ⟨f1, f2⟩ | ⟨b, d1, b1, b2, b3, b4, b5, b6, b7⟩
      · refine Or.inl ⟨f1, fun d' h1 h2 a ha => ?_⟩
        by_cases hd : d' = d
        · subst hd
          exact e2 a ha
        · exact f2 d' (by omega) (by omega) a ha
      · refine Or.inr ⟨b, d1, b1, by omega, by omega, b4, b5, b6, fun d' h1 h2 a ha => ?_⟩
        by_cases hd : d' = d
        · subst hd
          exact e2 a ha
        · exact b7 d' (by omega) h2 a ha
    · rw [if_neg (by rw [b2]; omega)]
      exact Or.inr ⟨b, d, b1, Nat.le_refl _, by omega, b2, b3, b4, fun d' h1 h2 => by omega⟩
theorem ag_bb_is (gb gp : Nat → Nat → Int) (m : Nat) : ∀ (j k : Nat), (ag_bb gb gp m j k = -1 ∧ ∀ k' : Nat, k ≤ k' → k' < k + j → ∀ d' : Nat, d' < 5 → ∀ a, a < m → ¬ (gp 3 a = 0 ∧ gp 0 a = d' ∧ gp 1 a = gb 6 k')) ∨
    (∃ b d1 k1 : Nat, b < m ∧ d1 < 5 ∧ k ≤ k1 ∧ k1 < k + j ∧ ag_bb gb gp m j k = b ∧ (gp 3 b = 0 ∧ gp 0 b = d1 ∧ gp 1 b = gb 6 k1) ∧ (∀ a, a < b → ¬ (gp 3 a = 0 ∧ gp 0 a = d1 ∧ gp 1 a = gb 6 k1)) ∧ (∀ d' : Nat, d' < d1 → ∀ a, a < m → ¬ (gp 3 a = 0 ∧ gp 0 a = d' ∧ gp 1 a = gb 6 k1)) ∧ ∀ k' : Nat, k ≤ k' → k' < k1 → ∀ d' : Nat, d' < 5 → ∀ a, a < m → ¬ (gp 3 a = 0 ∧ gp 0 a = d' ∧ gp 1 a = gb 6 k')) := by
  intro j
  induction j with
  | zero => intro k; exact Or.inl ⟨rfl, fun d' h1 h2 => by omega⟩
  | succ j ih =>
    intro k
    unfold ag_bb
    rcases ag_bk_is gp m (gb 6 k) 5 0 with ⟨e1, e2⟩ | ⟨b, d1, b1, -, b3, b4, b5, b6, b7⟩
    · rw [if_pos e1]
      rcases ih (k + 1) with ⟨f1, f2⟩ | ⟨b, d1, k1, b1, b2, b3, b4, b5, b6, b7, b8, b9⟩
      · refine Or.inl ⟨f1, fun k' h1 h2 d' hd a ha => ?_⟩
        by_cases hk : k' = k
        · subst hk
          exact e2 d' (Nat.zero_le _) (by omega) a ha
        · exact f2 k' (by omega) (by omega) d' hd a ha
      · refine Or.inr ⟨b, d1, k1, b1, b2, by omega, by omega, b5, b6, b7, b8, fun k' h1 h2 d' hd a ha => ?_⟩
        by_cases hk : k' = k
        · subst hk
          exact e2 d' (Nat.zero_le _) (by omega) a ha
        · exact b9 k' (by omega) h2 d' hd a ha
    · rw [if_neg (by rw [b4]; omega)]
      exact Or.inr ⟨b, d1, k, b1, by omega, Nat.le_refl _, by omega, b4, b5, b6, fun d' hd => b7 d' (Nat.zero_le _) hd, fun k' h1 h2 => by omega⟩
/-- the candidate with the smallest key, of those the first -/
theorem ag_fol_min {S : ag_T} {m : Nat} (hV : ag_IV S m) : ∀ (k i : Nat) (f : Int), i + k = m →
    ((f = -1 ∧ ∀ c, c < i → ¬ (S.2.2.2 3 c = 0 ∧ S.2.2.2 0 c ≠ 5)) ∨ (∃ b : Nat, b < i ∧ f = b ∧ S.2.2.2 3 b = 0 ∧ S.2.2.2 0 b ≠ 5 ∧ ∀ c, c < i → S.2.2.2 3 c = 0 → S.2.2.2 0 c ≠ 5 → ag_key S.1 S.2.2.2 b ≤ ag_key S.1 S.2.2.2 c ∧ (ag_key S.1 S.2.2.2 b = ag_key S.1 S.2.2.2 c → b ≤ c))) →
    ((ag_fol S.1 S.2.2.2 k i f = -1 ∧ ∀ c, c < m → ¬ (S.2.2.2 3 c = 0 ∧ S.2.2.2 0 c ≠ 5)) ∨ (∃ b : Nat, b < m ∧ ag_fol S.1 S.2.2.2 k i f = b ∧ S.2.2.2 3 b = 0 ∧ S.2.2.2 0 b ≠ 5 ∧ ∀ c, c < m → S.2.2.2 3 c = 0 → S.2.2.2 0 c ≠ 5 → ag_key S.1 S.2.2.2 b ≤ ag_key S.1 S.2.2.2 c ∧ (ag_key S.1 S.2.2.2 b = ag_key S.1 S.2.2.2 c → b ≤ c))) := by
  intro k
  induction k with
  | zero =>
    intro i f hi hf
    have him : i = m := by omega
    subst him
    exact hf
  | succ k ih =>
    intro i f hi hf
    unfold ag_fol
    refine ih (i + 1) _ (by omega) ?_
    by_cases hc : S.2.2.2 3 i = 0 ∧ S.2.2.2 0 i ≠ 5
    · rcases hf with ⟨f1, f2⟩ | ⟨b, b1, b2, b3, b4, b5⟩
      · rw [if_pos ⟨hc.1, hc.2, Or.inl f1⟩]
        refine Or.inr ⟨i, Nat.lt_succ_self _, rfl, hc.1, hc.2, fun c c1 c2 c3 => ?_⟩
        by_cases e : c = i
        · subst e
          exact ⟨Int.le_refl _, fun _ => Nat.le_refl _⟩
        · exact absurd ⟨c2, c3⟩ (f2 c (by omega))
      · have hk := ag_key_lt hV (b := i) (c := b) (by omega) (by omega) hc.1 b3 hc.2 b4
        by_cases ha : ag_ahd S.1 S.2.2.2 i f = true
        · rw [if_pos ⟨hc.1, hc.2, Or.inr ha⟩]
          rw [b2] at ha
          have hlt := hk.mp ha
          refine Or.inr ⟨i, Nat.lt_succ_self _, rfl, hc.1, hc.2, fun c c1 c2 c3 => ?_⟩
          by_cases e : c = i
          · subst e
            exact ⟨Int.le_refl _, fun _ => Nat.le_refl _⟩
          · have := (b5 c (by omega) c2 c3).1
            exact ⟨by omega, by omega⟩
        · rw [if_neg (fun z => by
            rcases z.2.2 with y | y
            · omega
            · exact ha y)]
          rw [b2] at ha
          have hge : ag_key S.1 S.2.2.2 b ≤ ag_key S.1 S.2.2.2 i := by
            rcases Int.lt_or_le (ag_key S.1 S.2.2.2 i) (ag_key S.1 S.2.2.2 b) with y | y
            · exact absurd (hk.mpr y) ha
            · exact y
          refine Or.inr ⟨b, by omega, b2, b3, b4, fun c c1 c2 c3 => ?_⟩
          by_cases e : c = i
          · subst e
            exact ⟨hge, fun _ => by omega⟩
          · exact b5 c (by omega) c2 c3
    · rw [if_neg (fun z => hc ⟨z.1, z.2.1⟩)]
      rcases hf with ⟨f1, f2⟩ | ⟨b, b1, b2, b3, b4, b5⟩
      · refine Or.inl ⟨f1, fun c c1 => ?_⟩
        by_cases e : c = i
        · subst e
          exact hc
        · exact f2 c (by omega)
      · refine Or.inr ⟨b, by omega, b2, b3, b4, fun c c1 c2 c3 => ?_⟩
        by_cases e : c = i
        · subst e
          exact absurd ⟨c2, c3⟩ hc
        · exact b5 c (by omega) c2 c3
theorem ag_bb_fol {S : ag_T} {m : Nat} (hV : ag_IV S m) : ag_bb S.1 S.2.2.2 m S.2.2.1 0 = ag_fol S.1 S.2.2.2 m 0 (-1) := by
  have hF := ag_fol_min hV m 0 (-1) (Nat.zero_add _) (Or.inl ⟨rfl, fun c hc => by omega⟩)
  -- where a candidate stands
  have at9 : ∀ c, c < m → S.2.2.2 3 c = 0 → S.2.2.2 0 c ≠ 5 → ∃ k d : Nat, k < S.2.2.1 ∧ d < 5 ∧ S.2.2.2 0 c = d ∧ S.2.2.2 1 c = S.1 6 k ∧ ag_key S.1 S.2.2.2 c = 10 * k + d := by
    intro c c1 c2 c3
    obtain ⟨t1, p, p1, p2, p3, p4, -, -⟩ := ag_IV_to hV c1 c2 c3
    have k1 := (hV.2.1.2.2 c c1).1
    have hw := hV.1.1.2.2
    have e1 : S.1 5 (S.2.2.2 1 c).toNat = p := by rw [← ag_rd_i (g := S.1 5) (show 40 ≤ 1000000 by decide) t1.1 (by omega), p2]
    refine ⟨p, (S.2.2.2 0 c).toNat, p1, by omega, by omega, p4.symm, ?_⟩
    unfold ag_key
    rw [e1]
    omega
  rcases ag_bb_is S.1 S.2.2.2 m S.2.2.1 0 with ⟨e1, e2⟩ | ⟨b, d1, k1, b1, b2, -, b4, b5, b6, b7, b8, b9⟩
  · rw [e1]
    rcases hF with ⟨f1, -⟩ | ⟨c, c1, -, c3, c4, -⟩
    · exact f1.symm
    · obtain ⟨k, d, q1, q2, q3, q4, -⟩ := at9 c c1 c3 c4
      exact absurd ⟨c3, q3, q4⟩ (e2 k (Nat.zero_le _) (by omega) d q2 c c1)
  · rw [b5]
    have hb5 : S.2.2.2 0 b ≠ 5 := by
      rw [b6.2.1]
      omega
    rcases hF with ⟨-, f2⟩ | ⟨c, c1, c2, c3, c4, c5⟩
    · exact absurd ⟨b6.1, hb5⟩ (f2 b b1)
    · rw [c2]
      obtain ⟨k, d, q1, q2, q3, q4, q5⟩ := at9 c c1 c3 c4
      obtain ⟨k2, d2, r1, r2, r3, r4, r5⟩ := at9 b b1 b6.1 hb5
      have hk2 : k2 = k1 := ag_IB_inj hV.1 r1 (by omega) (r4.symm.trans b6.2.2)
      have hd2 : d2 = d1 := by
        have := r3.symm.trans b6.2.1
        omega
      obtain ⟨x1, x2⟩ := c5 b b1 b6.1 hb5
      rw [q5, r5, hk2, hd2] at x1
      rw [q5, r5, hk2, hd2] at x2
      have hkk : k = k1 := by
        rcases Nat.lt_or_ge k k1 with y | y
        · exact absurd ⟨c3, q3, q4⟩ (b9 k (Nat.zero_le _) y d q2 c c1)
        · omega
      have hdd : d = d1 := by
        rcases Nat.lt_or_ge d d1 with y | y
        · exact absurd ⟨c3, q3, hkk ▸ q4⟩ (b8 d y c c1)
        · omega
      have hcb := x2 (by omega)
      rcases Nat.lt_or_ge c b with y | y
      · exact absurd ⟨c3, hdd ▸ q3, hkk ▸ q4⟩ (b7 c y)
      · omega
theorem ag_rdl_len (kd : Nat → List Int) (k : Nat) (l : List Int) : l.length ≤ (ag_rdl kd (k + 1) l).length := by
  unfold ag_rdl
  induction l with
  | nil => exact Nat.zero_le _
  | cons a l ihw =>
    rw [List.flatMap_cons, List.length_append, List.length_cons, List.length_cons]
    omega
section AGH8
variable {σ : ag_S} {L ln : Nat → Nat} {g : Nat → Nat → Int} {dr qu mi : Int} {gb gp gh gq : Nat → Nat → Int} {w n m np nq : Nat}
theorem ag_h_bill (h : ag_HS B σ L ln g dr qu mi) (t : ag_TC gb w n ln g) (hB : ag_IB gb w n) :
    ∃ (q : Nat) (f : Nat → Int) (σ' : ag_S), (∀ K : ag_Rs → ag_S → Prop, ag_cl9 105 [ag_R B] σ K = K (Sum.inl (some (ag_R q))) σ') ∧ σ'.1 q = some (Sum.inl (n, f)) ∧ (∀ i, i < n → f i = gb 6 i) ∧ ag_fr σ σ' 330 6500 := by
  obtain ⟨r1, r2⟩ := ag_read_all hB t.2.2.2
  have hlv := ag_k_lv t (Nat.le_refl 40)
  have hk := h.2.2.1 _ hlv
  have hkL := h.2.2.2.2.1 _ (Or.inr hlv)
  have a3 := congrArg List.length r1
  rw [ag_ls_len] at a3
  have hw := hB.1.2.2
  have hkl : ln (200 + 40) ≤ 40 := by
    have a1 : (ag_kds ln g 40).length = ln (200 + 40) := ag_kds_len ln g 40
    have a2 : (ag_kds ln g 40).length ≤ (ag_rdl (ag_kds ln g) 4 (ag_kds ln g 40)).length := ag_rdl_len (ag_kds ln g) 3 (ag_kds ln g 40)
    omega
  obtain ⟨q, l9, f9, σ1, d1, d2, d3, d4, d5, d6, d7⟩ := ag_h_read0 h t.2.1 hk hkL.2 hkl r2 (by show (ag_rdl (ag_kds ln g) 4 (ag_kds ln g 40)).length ≤ 40; omega)
  have d3 : ag_ls l9 f9 = ag_rdl (ag_kds ln g) 4 (ag_kds ln g 40) := d3
  rw [r1] at d3
  obtain ⟨e1, e2⟩ := ag_ls_inj d3
  subst e1
  refine ⟨q, f9, σ1, fun K => ?_, d2, e2, ag_fr_le d6 (by omega) (by omega)⟩
  have d1 : ∀ K : ag_Rs → ag_S → Prop, ag_cl9 100 [ag_R B, ag_R (L 240)] σ K = K (Sum.inl (some (ag_R q))) σ1 := d1
  simp only [ag_e105, ag_i105_0, ag_i105_1, ag_i105_2, ag_i105_5, ag_i105_7, ag_i105_8, ag_i105_11, ag_h_g4 h, ag_k_40 h t, ag_h_ck h, d1, ag_kk_v, ag_kk_n, Nat.reduceAdd]
theorem ag_h_next (h : ag_HS B σ L ln g dr qu mi) (t : ag_TC gb w n ln g) (ta : ag_TA gp m ln g) (hV : ag_IV (gb, (w, (n, gp))) m) :
    ∃ σ' : ag_S, (∀ K : ag_Rs → ag_S → Prop, ag_cl9 117 [ag_R B] σ K = K (Sum.inl (some (ag_I (ag_nxt gb gp m)))) σ') ∧ ag_fr σ σ' 330 6500 := by
  have hB : ag_IB gb w n := hV.1
  have hm : m ≤ 20 := hV.2.1.1.2.2
  have hw : w ≤ 40 := hB.1.2.2.2
  have hnw : n ≤ w := hB.1.2.2.1
  have hs := hB.1.2.1
  have hsp := hV.2.1.1.2.1
  obtain ⟨q, f, σ1, d1, d2, d3, d4⟩ := ag_h_bill h t hB
  have h1 := ag_HS_fr h d4
  have enm := fun k i => ag_nm_s hsp k i
  have enb := fun i => ag_nm_s hs 6 i
  have em := ag_nm_nat (n := m) (by omega)
  -- amendments
  have inner : ∀ (k d : Nat) (j i : Nat) (x6 : Option ag_V) (K : ag_Rs → ag_S → Prop), k < n → d < 5 → i + j = m → ∃ y5 y6 : Option ag_V, ag_wp 117 35 [some (ag_R B), some (ag_R q), some (ag_I (-1)), some (ag_I (k : Int)), some (ag_I (d : Int)), some (ag_I (i : Int)), x6] [] σ1 K = ag_wp 117 93 [some (ag_R B), some (ag_R q), some (ag_I (if ag_ff (fun a => decide (gp 3 a = 0 ∧ gp 0 a = d ∧ gp 1 a = gb 6 k)) j i < m then (ag_ff (fun a => decide (gp 3 a = 0 ∧ gp 0 a = d ∧ gp 1 a = gb 6 k)) j i : Int) else -1)), some (ag_I (k : Int)), some (ag_I (d : Int)), y5, y6] [] σ1 K := by
    intro k d j
    induction j with
    | zero =>
      intro i x6 K hk hd hi
      refine ⟨some (ag_I (i : Int)), x6, ?_⟩
      rw [ag_i117_35]
      simp only [ag_i117_37, ag_i117_38, ag_h_g5 h1, ag_i117_41, ag_h_a3 h1, ta.1, ag_i117_42, em, ag_nm_nat (show i ≤ 1000000 by omega)]
      rw [if_pos (show (m : Int) ≤ i by omega)]
      unfold ag_ff
      rw [if_neg (show ¬ i < m by omega)]
    | succ j ih =>
      intro i x6 K hk hd hi
      have him : i < m := by omega
      obtain ⟨y5, y6, e9⟩ := ih (i + 1) (some (ag_R (L (300 + i)))) K hk hd (by omega)
      have stp : ag_wp 117 35 [some (ag_R B), some (ag_R q), some (ag_I (-1)), some (ag_I (k : Int)), some (ag_I (d : Int)), some (ag_I (i : Int)), x6] [] σ1 K = if gp 3 i = 0 ∧ gp 0 i = d ∧ gp 1 i = gb 6 k then ag_wp 117 87 [some (ag_R B), some (ag_R q), some (ag_I (i : Int)), some (ag_I (k : Int)), some (ag_I (d : Int)), some (ag_I (i : Int)), some (ag_R (L (300 + i)))] [] σ1 K else ag_wp 117 87 [some (ag_R B), some (ag_R q), some (ag_I (-1)), some (ag_I (k : Int)), some (ag_I (d : Int)), some (ag_I (i : Int)), some (ag_R (L (300 + i)))] [] σ1 K := by
        rw [ag_i117_35]
        simp only [ag_i117_37, ag_i117_38, ag_h_g5 h1, ag_i117_41, ag_h_a3 h1, ta.1, ag_i117_42, em, ag_nm_nat (show i ≤ 1000000 by omega)]
        rw [if_neg (show ¬ (m : Int) ≤ i by omega)]
        simp only [ag_i117_45, ag_i117_46]
        rw [if_neg (show ¬ ag_nm 0 ≤ ag_nm (-1) by decide +kernel)]
        simp only [ag_i117_49, ag_i117_50, ag_h_g5 h1, ag_i117_53, ag_i117_55, ag_a_q h1 ta him rfl, ag_i117_56_n, ag_i117_56_i, ag_i117_56_r, ag_i117_58, ag_i117_60, ag_i117_61, ag_a_i3 h1 ta him, ag_i117_62, enm, ag_nm_z]
        by_cases c1 : gp 3 i = 0
        · rw [if_neg (show ¬ gp 3 i ≠ 0 by omega)]
          simp only [ag_i117_65, ag_i117_67, ag_i117_68, ag_a_i0 h1 ta him, ag_i117_69, ag_i117_71, enm, ag_nm_nat (show d ≤ 1000000 by omega)]
          by_cases c2 : gp 0 i = d
          · rw [if_neg (show ¬ gp 0 i ≠ d by omega)]
            simp only [ag_i117_74, ag_i117_76, ag_i117_77, ag_a_i1 h1 ta him, ag_i117_78, ag_i117_79, ag_i117_80, ag_ia_at d2 hk (show n ≤ 1000000 by omega), d3 k hk, ag_i117_81, enm, enb]
            by_cases c3 : gp 1 i = gb 6 k
            · rw [if_neg (show ¬ gp 1 i ≠ gb 6 k by omega), if_pos ⟨c1, c2, c3⟩]
              simp only [ag_i117_84, ag_i117_86_n, ag_i117_86_i, ag_i117_86_r]
            · rw [if_pos (show gp 1 i ≠ gb 6 k from c3), if_neg (fun z => c3 z.2.2)]
          · rw [if_pos (show gp 0 i ≠ d from c2), if_neg (fun z => c2 z.2.1)]
        · rw [if_pos (show gp 3 i ≠ 0 from c1), if_neg (fun z => c1 z.1)]
      by_cases hit : gp 3 i = 0 ∧ gp 0 i = d ∧ gp 1 i = gb 6 k
      · refine ⟨some (ag_I ((i : Int) + 1)), some (ag_R (L (300 + i))), ?_⟩
        rw [stp, if_pos hit]
        have e8 : ag_ff (fun a => decide (gp 3 a = 0 ∧ gp 0 a = d ∧ gp 1 a = gb 6 k)) (j + 1) i = i := by
          unfold ag_ff
          rw [if_pos (decide_eq_true hit)]
        rw [e8, if_pos him]
        simp only [ag_i117_87_n, ag_i117_87_i, ag_i117_87_r, ag_i117_90]
        rw [ag_i117_35]
        simp only [ag_i117_37, ag_i117_38, ag_h_g5 h1, ag_i117_41, ag_h_a3 h1, ta.1, ag_i117_42, em, ag_nm_of (show -2147483648 ≤ (i : Int) + 1 by omega) (show (i : Int) + 1 < 2147483648 by omega)]
        by_cases c4 : (m : Int) ≤ (i : Int) + 1
        · rw [if_pos c4]
        · rw [if_neg c4]
          simp only [ag_i117_45, ag_i117_46, ag_nm_z, ag_nm_nat (show i ≤ 1000000 by omega)]
          rw [if_pos (show (0 : Int) ≤ i by omega)]
      · refine ⟨y5, y6, ?_⟩
        rw [stp, if_neg hit]
        have e8 : ag_ff (fun a => decide (gp 3 a = 0 ∧ gp 0 a = d ∧ gp 1 a = gb 6 k)) (j + 1) i = ag_ff (fun a => decide (gp 3 a = 0 ∧ gp 0 a = d ∧ gp 1 a = gb 6 k)) j (i + 1) := by
          rw [show ag_ff (fun a => decide (gp 3 a = 0 ∧ gp 0 a = d ∧ gp 1 a = gb 6 k)) (j + 1) i = if decide (gp 3 i = 0 ∧ gp 0 i = d ∧ gp 1 i = gb 6 k) = true then i else ag_ff (fun a => decide (gp 3 a = 0 ∧ gp 0 a = d ∧ gp 1 a = gb 6 k)) j (i + 1) from rfl, if_neg (by simpa using hit)]
        rw [e8]
        simp only [ag_i117_87_n, ag_i117_87_i, ag_i117_87_r, ag_i117_90]
        exact e9
  -- kinds
  have middle : ∀ (k : Nat) (j d : Nat) (x5 x6 : Option ag_V) (K : ag_Rs → ag_S → Prop), k < n → d + j = 5 → ∃ y4 y5 y6 : Option ag_V, ag_wp 117 22 [some (ag_R B), some (ag_R q), some (ag_I (-1)), some (ag_I (k : Int)), some (ag_I (d : Int)), x5, x6] [] σ1 K = ag_wp 117 99 [some (ag_R B), some (ag_R q), some (ag_I (ag_bk gp m (gb 6 k) j d)), some (ag_I (k : Int)), y4, y5, y6] [] σ1 K := by
    intro k j
    induction j with
    | zero =>
      intro d x5 x6 K hk hd
      refine ⟨some (ag_I (d : Int)), x5, x6, ?_⟩
      rw [ag_i117_22]
      simp only [ag_i117_24, ag_i117_25, ag_nmk_5, ag_nm_nat (show d ≤ 1000000 by omega)]
      rw [if_pos (show (5 : Int) ≤ d by omega)]
      rfl
    | succ j ih =>
      intro d x5 x6 K hk hd
      obtain ⟨y5, y6, e9⟩ := inner k d m 0 x6 K hk (by omega) (Nat.zero_add _)
      have e9 : ag_wp 117 35 [some (ag_R B), some (ag_R q), some (ag_I (-1)), some (ag_I (k : Int)), some (ag_I (d : Int)), some (ag_I ((0 : Nat) : Int)), x6] [] σ1 K = ag_wp 117 93 [some (ag_R B), some (ag_R q), some (ag_I (ag_bs gp m d (gb 6 k))), some (ag_I (k : Int)), some (ag_I (d : Int)), y5, y6] [] σ1 K := e9
      obtain ⟨z4, z5, z6, e8⟩ := ih (d + 1) y5 y6 K hk (by omega)
      have stp : ag_wp 117 22 [some (ag_R B), some (ag_R q), some (ag_I (-1)), some (ag_I (k : Int)), some (ag_I (d : Int)), x5, x6] [] σ1 K = ag_wp 117 22 [some (ag_R B), some (ag_R q), some (ag_I (ag_bs gp m d (gb 6 k))), some (ag_I (k : Int)), some (ag_I ((d : Int) + 1)), y5, y6] [] σ1 K := by
        rw [ag_i117_22]
        simp only [ag_i117_24, ag_i117_25, ag_nmk_5, ag_nm_nat (show d ≤ 1000000 by omega)]
        rw [if_neg (show ¬ (5 : Int) ≤ d by omega)]
        simp only [ag_i117_28, ag_i117_29]
        rw [if_neg (show ¬ ag_nm 0 ≤ ag_nm (-1) by decide +kernel)]
        simp only [ag_i117_32, ag_i117_33_n, ag_i117_33_i, ag_i117_33_r]
        rw [show (0 : Int) = ((0 : Nat) : Int) from rfl, e9]
        simp only [ag_i117_93_n, ag_i117_93_i, ag_i117_93_r, ag_i117_96]
      rw [stp]
      unfold ag_bk
      by_cases c1 : ag_bs gp m d (gb 6 k) = -1
      · rw [if_pos c1, c1]
        exact ⟨z4, z5, z6, e8⟩
      · rw [if_neg c1]
        refine ⟨some (ag_I ((d : Int) + 1)), y5, y6, ?_⟩
        have hb : ∃ b : Nat, b < m ∧ ag_bs gp m d (gb 6 k) = b := by
          rcases ag_bs_is gp m d (gb 6 k) with ⟨u, -⟩ | ⟨b, b1, b2, -⟩
          · exact absurd u c1
          · exact ⟨b, b1, b2⟩
        obtain ⟨b, b1, b2⟩ := hb
        rw [b2, ag_i117_22]
        simp only [ag_i117_24, ag_i117_25, ag_nmk_5, ag_nm_of (show -2147483648 ≤ (d : Int) + 1 by omega) (show (d : Int) + 1 < 2147483648 by omega)]
        by_cases c2 : (5 : Int) ≤ (d : Int) + 1
        · rw [if_pos c2]
        · rw [if_neg c2]
          simp only [ag_i117_28, ag_i117_29, ag_nm_z, ag_nm_nat (show b ≤ 1000000 by omega)]
          rw [if_pos (show (0 : Int) ≤ b by omega)]
  -- clauses
  have outer : ∀ (j k : Nat) (x4 x5 x6 : Option ag_V) (K : ag_Rs → ag_S → Prop), k + j = n → ∃ y3 y4 y5 y6 : Option ag_V, ag_wp 117 9 [some (ag_R B), some (ag_R q), some (ag_I (-1)), some (ag_I (k : Int)), x4, x5, x6] [] σ1 K = ag_wp 117 105 [some (ag_R B), some (ag_R q), some (ag_I (ag_bb gb gp m j k)), y3, y4, y5, y6] [] σ1 K := by
    intro j
    induction j with
    | zero =>
      intro k x4 x5 x6 K hk
      refine ⟨some (ag_I (k : Int)), x4, x5, x6, ?_⟩
      rw [ag_i117_9]
      simp only [ag_i117_10, ag_i117_11, ag_al_at d2, ag_i117_12, ag_nm_nat (show n ≤ 1000000 by omega), ag_nm_nat (show k ≤ 1000000 by omega)]
      rw [if_pos (show (n : Int) ≤ k by omega)]
      rfl
    | succ j ih =>
      intro k x4 x5 x6 K hk
      obtain ⟨y4, y5, y6, e9⟩ := middle k 5 0 x5 x6 K (by omega) rfl
      obtain ⟨z3, z4, z5, z6, e8⟩ := ih (k + 1) y4 y5 y6 K (by omega)
      have stp : ag_wp 117 9 [some (ag_R B), some (ag_R q), some (ag_I (-1)), some (ag_I (k : Int)), x4, x5, x6] [] σ1 K = ag_wp 117 9 [some (ag_R B), some (ag_R q), some (ag_I (ag_bk gp m (gb 6 k) 5 0)), some (ag_I ((k : Int) + 1)), y4, y5, y6] [] σ1 K := by
        rw [ag_i117_9]
        simp only [ag_i117_10, ag_i117_11, ag_al_at d2, ag_i117_12, ag_nm_nat (show n ≤ 1000000 by omega), ag_nm_nat (show k ≤ 1000000 by omega)]
        rw [if_neg (show ¬ (n : Int) ≤ k by omega)]
        simp only [ag_i117_15, ag_i117_16]
        rw [if_neg (show ¬ ag_nm 0 ≤ ag_nm (-1) by decide +kernel)]
        simp only [ag_i117_19, ag_i117_20_n, ag_i117_20_i, ag_i117_20_r]
        rw [show (0 : Int) = ((0 : Nat) : Int) from rfl, e9]
        simp only [ag_i117_99_n, ag_i117_99_i, ag_i117_99_r, ag_i117_102]
      rw [stp]
      unfold ag_bb
      by_cases c1 : ag_bk gp m (gb 6 k) 5 0 = -1
      · rw [if_pos c1, c1]
        exact ⟨z3, z4, z5, z6, e8⟩
      · rw [if_neg c1]
        refine ⟨some (ag_I ((k : Int) + 1)), y4, y5, y6, ?_⟩
        have hb : ∃ b : Nat, b < m ∧ ag_bk gp m (gb 6 k) 5 0 = b := by
          rcases ag_bk_is gp m (gb 6 k) 5 0 with ⟨u, -⟩ | ⟨b, d9, b1, -, -, b2, -⟩
          · exact absurd u c1
          · exact ⟨b, b1, b2⟩
        obtain ⟨b, b1, b2⟩ := hb
        rw [b2, ag_i117_9]
        simp only [ag_i117_10, ag_i117_11, ag_al_at d2, ag_i117_12, ag_nm_nat (show n ≤ 1000000 by omega), ag_nm_of (show -2147483648 ≤ (k : Int) + 1 by omega) (show (k : Int) + 1 < 2147483648 by omega)]
        by_cases c2 : (n : Int) ≤ (k : Int) + 1
        · rw [if_pos c2]
        · rw [if_neg c2]
          simp only [ag_i117_15, ag_i117_16, ag_nm_z, ag_nm_nat (show b ≤ 1000000 by omega)]
          rw [if_pos (show (0 : Int) ≤ b by omega)]
  -- its change
  have hF := ag_fol_min hV m 0 (-1) (Nat.zero_add _) (Or.inl ⟨rfl, fun c hc => by omega⟩)
  have hF2 : (ag_fol gb gp m 0 (-1) = -1) ∨ ∃ b : Nat, b < m ∧ ag_fol gb gp m 0 (-1) = b := by
    rcases hF with ⟨f1, -⟩ | ⟨b, b1, b2, -⟩
    · exact Or.inl f1
    · exact Or.inr ⟨b, b1, b2⟩
  have none9 : ∀ (j i : Nat) (x4 x5 x6 : Option ag_V) (K : ag_Rs → ag_S → Prop), i + j = m → ag_wp 117 107 [some (ag_R B), some (ag_R q), some (ag_I (-1)), some (ag_I (i : Int)), x4, x5, x6] [] σ1 K = K (Sum.inl (some (ag_I (-1)))) σ1 := by
    intro j
    induction j with
    | zero =>
      intro i x4 x5 x6 K hi
      rw [ag_i117_107]
      simp only [ag_i117_108, ag_i117_109, ag_h_g5 h1, ag_i117_112, ag_h_a3 h1, ta.1, ag_i117_113, em, ag_nm_nat (show i ≤ 1000000 by omega)]
      rw [if_pos (show (m : Int) ≤ i by omega)]
      simp only [ag_i117_163, ag_i117_164]
    | succ j ih =>
      intro i x4 x5 x6 K hi
      rw [ag_i117_107]
      simp only [ag_i117_108, ag_i117_109, ag_h_g5 h1, ag_i117_112, ag_h_a3 h1, ta.1, ag_i117_113, em, ag_nm_nat (show i ≤ 1000000 by omega)]
      rw [if_neg (show ¬ (m : Int) ≤ i by omega)]
      simp only [ag_i117_116, ag_i117_117]
      rw [if_pos (show ag_nm (-1) < ag_nm 0 by decide +kernel)]
      simp only [ag_i117_157_n, ag_i117_157_i, ag_i117_157_r, ag_i117_160]
      exact ih (i + 1) x4 x5 x6 K (by omega)
  have some9 : ∀ (b : Nat), b < m → ∀ (j i : Nat) (x4 x5 x6 : Option ag_V) (K : ag_Rs → ag_S → Prop), i + j = m → ag_wp 117 107 [some (ag_R B), some (ag_R q), some (ag_I (b : Int)), some (ag_I (i : Int)), x4, x5, x6] [] σ1 K = K (Sum.inl (some (ag_I (if ag_ff (fun a => decide (gp 3 a = 0 ∧ gp 0 a = 5 ∧ gp 1 a = b)) j i < m then (ag_ff (fun a => decide (gp 3 a = 0 ∧ gp 0 a = 5 ∧ gp 1 a = b)) j i : Int) else b)))) σ1 := by
    intro b hb j
    induction j with
    | zero =>
      intro i x4 x5 x6 K hi
      rw [ag_i117_107]
      simp only [ag_i117_108, ag_i117_109, ag_h_g5 h1, ag_i117_112, ag_h_a3 h1, ta.1, ag_i117_113, em, ag_nm_nat (show i ≤ 1000000 by omega)]
      rw [if_pos (show (m : Int) ≤ i by omega)]
      simp only [ag_i117_163, ag_i117_164]
      unfold ag_ff
      rw [if_neg (show ¬ i < m by omega)]
    | succ j ih =>
      intro i x4 x5 x6 K hi
      have him : i < m := by omega
      rw [ag_i117_107]
      simp only [ag_i117_108, ag_i117_109, ag_h_g5 h1, ag_i117_112, ag_h_a3 h1, ta.1, ag_i117_113, em, ag_nm_nat (show i ≤ 1000000 by omega)]
      rw [if_neg (show ¬ (m : Int) ≤ i by omega)]
      simp only [ag_i117_116, ag_i117_117, ag_nm_z, ag_nm_nat (show b ≤ 1000000 by omega)]
      rw [if_neg (show ¬ (b : Int) < 0 by omega)]
      simp only [ag_i117_120, ag_i117_121, ag_h_g5 h1, ag_i117_124, ag_i117_125, ag_a_q h1 ta him rfl, ag_i117_126, ag_i117_127, ag_a_i3 h1 ta him, ag_i117_128, enm, ag_nm_z]
      have e8 : ag_ff (fun a => decide (gp 3 a = 0 ∧ gp 0 a = 5 ∧ gp 1 a = b)) (j + 1) i = if decide (gp 3 i = 0 ∧ gp 0 i = 5 ∧ gp 1 i = b) = true then i else ag_ff (fun a => decide (gp 3 a = 0 ∧ gp 0 a = 5 ∧ gp 1 a = b)) j (i + 1) := rfl
      rw [e8]
      by_cases c1 : gp 3 i = 0
      · rw [if_neg (show ¬ gp 3 i ≠ 0 by omega)]
        simp only [ag_i117_131, ag_i117_132, ag_h_g5 h1, ag_i117_135, ag_i117_136, ag_a_q h1 ta him rfl, ag_i117_137, ag_i117_138, ag_a_i0 h1 ta him, ag_i117_139, ag_i117_140, enm, ag_nmk_5]
        by_cases c2 : gp 0 i = 5
        · rw [if_neg (show ¬ gp 0 i ≠ 5 by omega)]
          simp only [ag_i117_143, ag_i117_144, ag_h_g5 h1, ag_i117_147, ag_i117_148, ag_a_q h1 ta him rfl, ag_i117_149, ag_i117_150, ag_a_i1 h1 ta him, ag_i117_151, ag_i117_152, enm, ag_nm_nat (show b ≤ 1000000 by omega)]
          by_cases c3 : gp 1 i = b
          · rw [if_neg (show ¬ gp 1 i ≠ b by omega), if_pos (decide_eq_true ⟨c1, c2, c3⟩), if_pos him]
            simp only [ag_i117_155, ag_i117_156]
          · rw [if_pos (show gp 1 i ≠ b from c3), if_neg (show ¬ decide (gp 3 i = 0 ∧ gp 0 i = 5 ∧ gp 1 i = b) = true by simp [c3])]
            simp only [ag_i117_157_n, ag_i117_157_i, ag_i117_157_r, ag_i117_160]
            exact ih (i + 1) x4 x5 x6 K (by omega)
        · rw [if_pos (show gp 0 i ≠ 5 from c2), if_neg (show ¬ decide (gp 3 i = 0 ∧ gp 0 i = 5 ∧ gp 1 i = b) = true by simp [c2])]
          simp only [ag_i117_157_n, ag_i117_157_i, ag_i117_157_r, ag_i117_160]
          exact ih (i + 1) x4 x5 x6 K (by omega)
      · rw [if_pos (show gp 3 i ≠ 0 from c1), if_neg (show ¬ decide (gp 3 i = 0 ∧ gp 0 i = 5 ∧ gp 1 i = b) = true by simp [c1])]
        simp only [ag_i117_157_n, ag_i117_157_i, ag_i117_157_r, ag_i117_160]
        exact ih (i + 1) x4 x5 x6 K (by omega)
  refine ⟨σ1, fun K => ?_, d4⟩
  obtain ⟨y3, y4, y5, y6, e9⟩ := outer n 0 none none none K (Nat.zero_add _)
  have hbf : ag_bb gb gp m n 0 = ag_fol gb gp m 0 (-1) := ag_bb_fol hV
  rw [hbf] at e9
  simp only [ag_i117_0, ag_i117_1, ag_e117, ag_h_ck h, d1, ag_kk_v, ag_kk_n, Nat.reduceAdd, ag_i117_4_n, ag_i117_4_i, ag_i117_4_r, ag_i117_5, ag_i117_6_n, ag_i117_6_i, ag_i117_6_r, ag_i117_7, ag_i117_8_n, ag_i117_8_i, ag_i117_8_r]
  rw [show (0 : Int) = ((0 : Nat) : Int) from rfl, e9]
  rcases hF2 with u | ⟨b, b1, b2⟩
  · rw [u]
    simp only [ag_i117_105, ag_i117_106_n, ag_i117_106_i, ag_i117_106_r]
    rw [show (0 : Int) = ((0 : Nat) : Int) from rfl, none9 m 0 y4 y5 y6 K (Nat.zero_add _)]
    unfold ag_nxt
    dsimp only
    rw [if_pos u]
  · rw [b2]
    simp only [ag_i117_105, ag_i117_106_n, ag_i117_106_i, ag_i117_106_r]
    rw [show (0 : Int) = ((0 : Nat) : Int) from rfl, some9 b b1 m 0 y4 y5 y6 K (Nat.zero_add _)]
    unfold ag_nxt
    dsimp only
    rw [b2, if_neg (show ¬ (b : Int) = -1 by omega)]
end AGH8
