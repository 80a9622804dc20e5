/-! THE CHILDREN, behind a strike, a new clause, a MOVE. -/
section AGOP
variable {gb : Nat → Nat → Int} {w n : Nat}
/-- from a to b -/
def ag_sgm (gb : Nat → Nat → Int) (a b : Nat) : List (Int × Int) := (List.range' a (b - a)).map (fun i => (gb 6 i, ag_pg gb i))
theorem ag_sgm_len (a b : Nat) : (ag_sgm gb a b).length = b - a := by simp [ag_sgm]
theorem ag_sgm_get {a b i : Nat} (h : i < b - a) : (ag_sgm gb a b)[i]? = some (gb 6 (a + i), ag_pg gb (a + i)) := by
  unfold ag_sgm
  rw [List.getElem?_map, List.getElem?_range' h]
  simp
theorem ag_sgm_all : ag_sgm gb 0 n = ag_prl gb n := by
  unfold ag_sgm ag_prl
  rw [List.range_eq_range', Nat.sub_zero]
theorem ag_sgm_app {a b c : Nat} (h1 : a ≤ b) (h2 : b ≤ c) : ag_sgm gb a c = ag_sgm gb a b ++ ag_sgm gb b c := by
  unfold ag_sgm
  rw [← List.map_append]
  congr 1
  rw [show c - a = (b - a) + (c - b) by omega, ← List.range'_append_1, show a + (b - a) = b by omega]
theorem ag_sgm_cons {a b : Nat} (h : a < b) : ag_sgm gb a b = (gb 6 a, ag_pg gb a) :: ag_sgm gb (a + 1) b := by
  unfold ag_sgm
  rw [show b - a = (b - (a + 1)) + 1 by omega, List.range'_succ, List.map_cons]
theorem ag_sgm_mem {a b : Nat} {q : Int × Int} : q ∈ ag_sgm gb a b ↔ ∃ i, a ≤ i ∧ i < b ∧ q = (gb 6 i, ag_pg gb i) := by
  unfold ag_sgm
  rw [List.mem_map]
  constructor
  · rintro ⟨i, hi, rfl⟩
    have := List.mem_range'_1.mp hi
    exact ⟨i, this.1, by omega, rfl⟩
  · rintro ⟨i, h1, h2, rfl⟩
    exact ⟨i, List.mem_range'_1.mpr ⟨h1, by omega⟩, rfl⟩
theorem ag_kid_no {a b : Nat} {p : Int} (h : ∀ i, a ≤ i → i < b → ag_pg gb i ≠ p) : ag_kid (ag_sgm gb a b) p = [] := ag_kid_none (fun q hq => by
  obtain ⟨i, h1, h2, rfl⟩ := ag_sgm_mem.mp hq
  exact h i h1 h2)
theorem ag_kid_in {a b : Nat} {p c : Int} (h : c ∈ ag_kid (ag_sgm gb a b) p) : ∃ i, a ≤ i ∧ i < b ∧ gb 6 i = c ∧ ag_pg gb i = p := by
  obtain ⟨i, h1, h2, h3⟩ := ag_sgm_mem.mp (ag_kid_mem.mp h)
  exact ⟨i, h1, h2, (congrArg Prod.fst h3).symm, (congrArg Prod.snd h3).symm⟩
/-- the row of reading struck -/
theorem ag_prl_strike {p e : Nat} (h1 : p < e) (h2 : e ≤ n) : ag_prl (ag_gs gb n p e) (n - (e - p)) = ag_sgm gb 0 p ++ ag_sgm gb e n := by
  have e6 : ag_gs gb n p e 6 = ag_dr (gb 6) p e n := ag_ug_same _ _ _
  have e1 : ag_gs gb n p e 1 = gb 1 := by
    unfold ag_gs
    rw [ag_ug_ne _ _ (by decide), ag_ug_ne _ _ (by decide)]
  apply List.ext_getElem?
  intro i
  by_cases hi : i < n - (e - p)
  · rw [ag_prl_get hi]
    unfold ag_pg
    rw [e6, e1, ag_dr_pcu h1 h2 hi]
    unfold ag_pcu
    by_cases hp : i < p
    · rw [if_pos hp, List.getElem?_append_left (by rw [ag_sgm_len]; omega), ag_sgm_get (by omega), Nat.zero_add]
      rfl
    · rw [if_neg hp, List.getElem?_append_right (by rw [ag_sgm_len]; omega), ag_sgm_len, ag_sgm_get (by omega), show e + (i - (p - 0)) = i + (e - p) by omega]
      rfl
  · rw [List.getElem?_eq_none (by rw [ag_prl_len]; omega), List.getElem?_eq_none (by rw [List.length_append, ag_sgm_len, ag_sgm_len]; omega)]
/-- the row of reading with a new one -/
theorem ag_prl_ins {G : Nat → Nat → Int} {place : Nat} {u : Int} (hB : ag_IB gb w n) (hp : place ≤ n) (h6 : G 6 = ag_ui (ag_sh (gb 6) place n) place w) (h1 : G 1 = ag_ui (gb 1) w u) : ag_prl G (n + 1) = ag_sgm gb 0 place ++ ((w : Int), u) :: ag_sgm gb place n := by
  apply List.ext_getElem?
  intro i
  by_cases hi : i < n + 1
  · rw [ag_prl_get hi]
    unfold ag_pg
    rw [h6, h1, ag_sh_pin (by omega)]
    unfold ag_pin
    by_cases h2 : i < place
    · have hr := hB.2.1 i (by omega)
      rw [if_pos h2, List.getElem?_append_left (by rw [ag_sgm_len]; omega), ag_sgm_get (by omega), Nat.zero_add, ag_ui_ne (by omega)]
      rfl
    · rw [if_neg h2, List.getElem?_append_right (by rw [ag_sgm_len]; omega), ag_sgm_len]
      by_cases h3 : i = place
      · rw [if_pos h3, h3, show place - (place - 0) = 0 by omega, Int.toNat_natCast, ag_ui_eq]
        rfl
      · obtain ⟨j, hj⟩ : ∃ j, i = place + j + 1 := ⟨i - place - 1, by omega⟩
        have hr := hB.2.1 (i - 1) (by omega)
        rw [if_neg h3, ag_ui_ne (by omega), show i - (place - 0) = j + 1 by omega, List.getElem?_cons_succ, ag_sgm_get (by omega), show place + j = i - 1 by omega]
        rfl
  · rw [List.getElem?_eq_none (by rw [ag_prl_len]; omega), List.getElem?_eq_none (by rw [List.length_append, List.length_cons, ag_sgm_len, ag_sgm_len]; omega)]
/-- what lies in a block has its parent there, but for its first -/
theorem ag_blk_par (hB : ag_IB gb w n) {p e i : Nat} (hb : ag_blk (ag_hg gb) n p e) (h1 : p < i) (h2 : i < e) : ∃ j, p ≤ j ∧ j < i ∧ ag_pg gb i = gb 6 j := by
  have hen := hb.2.1
  rcases (hB.2.2.2 i (by omega)).2.2 with ⟨c1, -⟩ | ⟨j, j1, j2, j3, j4⟩
  · have := hb.2.2.1 i h1 h2
    have := (hB.2.2.2 p (by omega)).1
    omega
  · refine ⟨j, ?_, j1, j2⟩
    rcases Nat.lt_or_ge j p with q | q
    · have := j4 p q h1
      have := hb.2.2.1 i h1 h2
      omega
    · exact q
/-- the parent of a clause is read ahead of it -/
theorem ag_par_ahead (hB : ag_IB gb w n) {p : Nat} (hp : p < n) : ag_pg gb p = -1 ∨ ∃ j, j < p ∧ ag_pg gb p = gb 6 j := by
  rcases (hB.2.2.2 p hp).2.2 with ⟨-, c2⟩ | ⟨j, j1, j2, -, -⟩
  · exact Or.inl c2
  · exact Or.inr ⟨j, j1, j2⟩
theorem ag_pg_ne (hB : ag_IB gb w n) {p e i : Nat} (hp : p < n) (hb : ag_blk (ag_hg gb) n p e) (h1 : p < i) (h2 : i < e) : ag_pg gb i ≠ ag_pg gb p := by
  obtain ⟨j, j1, j2, j3⟩ := ag_blk_par hB hb h1 h2
  have hen := hb.2.1
  rw [j3]
  rcases ag_par_ahead hB hp with q | ⟨k, k1, k2⟩
  · have := (hB.2.1 j (by omega)).1
    omega
  · intro q
    have := ag_IB_inj hB (by omega) (by omega) (q.trans k2)
    omega
/-- one outside a block has its parent outside -/
theorem ag_pg_out (hB : ag_IB gb w n) {p e i j : Nat} (hb : ag_blk (ag_hg gb) n p e) (hi : i < n) (ho : i < p ∨ e ≤ i) (j1 : p ≤ j) (j2 : j < e) : ag_pg gb i ≠ gb 6 j := by
  have hen := hb.2.1
  rcases (hB.2.2.2 i hi).2.2 with ⟨-, c2⟩ | ⟨k, k1, k2, k3, k4⟩
  · have := (hB.2.1 j (by omega)).1
    omega
  · rw [k2]
    intro q
    have hkj := ag_IB_inj hB (by omega) (by omega) q
    subst hkj
    rcases ho with q | q
    · omega
    · rcases ag_blk_out hb q hi k1 k3 k4 with z | z <;> omega
theorem ag_kid_strike (hB : ag_IB gb w n) {p e : Nat} (hp : p < n) (hb : ag_blk (ag_hg gb) n p e) :
    (∃ A C : List Int, ag_kid (ag_prl gb n) (ag_pg gb p) = A ++ gb 6 p :: C ∧ gb 6 p ∉ A ∧ ag_kid (ag_prl (ag_gs gb n p e) (n - (e - p))) (ag_pg gb p) = A ++ C) ∧
    (∀ i, p ≤ i → i < e → ag_kid (ag_prl (ag_gs gb n p e) (n - (e - p))) (gb 6 i) = []) ∧
    (∀ c : Int, c ≠ ag_pg gb p → (∀ i, p ≤ i → i < e → gb 6 i ≠ c) → ag_kid (ag_prl (ag_gs gb n p e) (n - (e - p))) c = ag_kid (ag_prl gb n) c) := by
  obtain ⟨b1, b2, b3, b4⟩ := hb
  have hP : ag_prl gb n = ag_sgm gb 0 p ++ ((gb 6 p, ag_pg gb p) :: ag_sgm gb (p + 1) e ++ ag_sgm gb e n) := by
    rw [← ag_sgm_all, ag_sgm_app (b := p) (Nat.zero_le _) (by omega), ag_sgm_app (a := p) (b := e) (by omega) b2, ag_sgm_cons b1]
  refine ⟨⟨ag_kid (ag_sgm gb 0 p) (ag_pg gb p), ag_kid (ag_sgm gb e n) (ag_pg gb p), ?_, fun h => ?_, ?_⟩, fun i i1 i2 => ?_, fun c h1 h2 => ?_⟩
  · rw [hP, ag_kid_app, ag_kid_app, ag_kid_cons, if_pos rfl, ag_kid_no (a := p + 1) (b := e) (fun i i1 i2 => ag_pg_ne hB hp ⟨b1, b2, b3, b4⟩ (by omega) i2)]
    rfl
  · obtain ⟨i, -, i2, i3, -⟩ := ag_kid_in h
    have := ag_IB_inj hB (by omega) hp i3
    omega
  · rw [ag_prl_strike b1 b2, ag_kid_app]
  · rw [ag_prl_strike b1 b2, ag_kid_app, ag_kid_no (fun k k1 k2 => ag_pg_out hB ⟨b1, b2, b3, b4⟩ (by omega) (Or.inl k2) i1 i2), ag_kid_no (fun k k1 k2 => ag_pg_out hB ⟨b1, b2, b3, b4⟩ (by omega) (Or.inr k1) i1 i2)]
    rfl
  · rw [ag_prl_strike b1 b2, ag_kid_app, hP, ag_kid_app, ag_kid_app, ag_kid_cons, if_neg (fun q => h1 q.symm), ag_kid_no (a := p + 1) (b := e) (fun i i1 i2 => ?_)]
    · rfl
    · obtain ⟨j, j1, j2, j3⟩ := ag_blk_par hB ⟨b1, b2, b3, b4⟩ (show p < i by omega) i2
      rw [j3]
      exact h2 j j1 (by omega)
theorem ag_kid_ins {G : Nat → Nat → Int} {place : Nat} {u : Int} (hB : ag_IB gb w n) (hp : place ≤ n) (h6 : G 6 = ag_ui (ag_sh (gb 6) place n) place w) (h1 : G 1 = ag_ui (gb 1) w u) :
    ag_kid (ag_prl gb n) u = ag_kid (ag_sgm gb 0 place) u ++ ag_kid (ag_sgm gb place n) u ∧ ag_kid (ag_prl G (n + 1)) u = ag_kid (ag_sgm gb 0 place) u ++ (w : Int) :: ag_kid (ag_sgm gb place n) u ∧ ∀ c : Int, c ≠ u → ag_kid (ag_prl G (n + 1)) c = ag_kid (ag_prl gb n) c := by
  have hP : ag_prl gb n = ag_sgm gb 0 place ++ ag_sgm gb place n := by rw [← ag_sgm_all, ag_sgm_app (b := place) (Nat.zero_le _) hp]
  refine ⟨by rw [hP, ag_kid_app], ?_, fun c hc => ?_⟩
  · rw [ag_prl_ins hB hp h6 h1, ag_kid_app, ag_kid_cons, if_pos rfl]
  · rw [ag_prl_ins hB hp h6 h1, ag_kid_app, ag_kid_cons, if_neg (fun q => hc q.symm), hP, ag_kid_app]
/-- the row of reading behind a MOVE -/
theorem ag_prl_move {G : Nat → Nat → Int} {p e goal : Nat} {u : Int} (hB : ag_IB gb w n) (h1 : p < e) (h2 : e ≤ n) (hg : goal ≤ n) (ho : goal ≤ p ∨ e ≤ goal) (h6 : ∀ i, i < n → G 6 i = ag_bin (ag_pcu (gb 6) p e) (if goal ≤ p then goal else goal - (e - p)) (e - p) (fun t => gb 6 (p + t)) i) (hu : G 1 = ag_ui (gb 1) (gb 6 p).toNat u) :
    ag_prl G n = (if goal ≤ p then ag_sgm gb 0 goal else ag_sgm gb 0 p ++ ag_sgm gb e goal) ++ (((gb 6 p, u) :: ag_sgm gb (p + 1) e) ++ (if goal ≤ p then ag_sgm gb goal p ++ ag_sgm gb e n else ag_sgm gb goal n)) := by
  have hne : ∀ i, i < n → i ≠ p → (gb 6 i).toNat ≠ (gb 6 p).toNat := fun i hi hip q => by
    have a := (hB.2.1 i hi).1
    have b := (hB.2.1 p (by omega)).1
    exact hip (ag_IB_inj hB hi (by omega) (by omega))
  have key : ∀ i j, i < n → j < n → G 6 i = gb 6 j → (G 6 i, ag_pg G i) = (gb 6 j, if j = p then u else ag_pg gb j) := by
    intro i j hi hj e9
    unfold ag_pg
    rw [e9, hu]
    by_cases hjp : j = p
    · rw [if_pos hjp, hjp, ag_ui_eq]
    · rw [if_neg hjp, ag_ui_ne (hne j hj hjp)]
  -- the block with its new parent
  have blk : ∀ t, t < e - p → ((gb 6 p, u) :: ag_sgm gb (p + 1) e)[t]? = some (gb 6 (p + t), if p + t = p then u else ag_pg gb (p + t)) := by
    intro t ht
    cases t with
    | zero => rw [if_pos (Nat.add_zero p)]; rfl
    | succ t =>
      rw [List.getElem?_cons_succ, ag_sgm_get (by omega), if_neg (by omega), show p + 1 + t = p + (t + 1) by omega]
  have blkl : ((gb 6 p, u) :: ag_sgm gb (p + 1) e).length = e - p := by
    rw [List.length_cons, ag_sgm_len]
    omega
  apply List.ext_getElem?
  intro i
  by_cases hi : i < n
  · rw [ag_prl_get hi]
    have e9 := h6 i hi
    unfold ag_bin ag_pcu at e9
    by_cases hgp : goal ≤ p
    · simp only [hgp, if_true] at e9 ⊢
      by_cases a1 : i < goal
      · rw [if_pos a1, if_pos (by omega)] at e9
        rw [List.getElem?_append_left (by rw [ag_sgm_len]; omega), ag_sgm_get (by omega), Nat.zero_add, key i i hi hi e9, if_neg (by omega)]
      · rw [if_neg a1] at e9
        rw [List.getElem?_append_right (by rw [ag_sgm_len]; omega), ag_sgm_len]
        by_cases a2 : i < goal + (e - p)
        · rw [if_pos a2] at e9
          rw [List.getElem?_append_left (by rw [blkl]; omega), blk _ (by omega), key i _ hi (show p + (i - goal) < n by omega) e9]
          rfl
        · rw [if_neg a2] at e9
          rw [List.getElem?_append_right (by rw [blkl]; omega), blkl]
          by_cases a3 : i < e
          · rw [if_pos (by omega)] at e9
            rw [List.getElem?_append_left (by rw [ag_sgm_len]; omega), ag_sgm_get (by omega), key i _ hi (show i - (e - p) < n by omega) e9, if_neg (by omega), show goal + (i - (goal - 0) - (e - p)) = i - (e - p) by omega]
          · rw [if_neg (by omega), show i - (e - p) + (e - p) = i by omega] at e9
            rw [List.getElem?_append_right (by rw [ag_sgm_len]; omega), ag_sgm_len, ag_sgm_get (by omega), key i i hi hi e9, if_neg (by omega), show e + (i - (goal - 0) - (e - p) - (p - goal)) = i by omega]
    · have ho2 : e ≤ goal := by omega
      simp only [hgp, if_false] at e9 ⊢
      by_cases a1 : i < goal - (e - p)
      · rw [if_pos a1] at e9
        rw [List.getElem?_append_left (by rw [List.length_append, ag_sgm_len, ag_sgm_len]; omega)]
        by_cases a2 : i < p
        · rw [if_pos a2] at e9
          rw [List.getElem?_append_left (by rw [ag_sgm_len]; omega), ag_sgm_get (by omega), Nat.zero_add, key i i hi hi e9, if_neg (by omega)]
        · rw [if_neg a2] at e9
          rw [List.getElem?_append_right (by rw [ag_sgm_len]; omega), ag_sgm_len, ag_sgm_get (by omega), key i _ hi (show i + (e - p) < n by omega) e9, if_neg (by omega), show e + (i - (p - 0)) = i + (e - p) by omega]
      · rw [if_neg a1] at e9
        rw [List.getElem?_append_right (by rw [List.length_append, ag_sgm_len, ag_sgm_len]; omega), List.length_append, ag_sgm_len, ag_sgm_len]
        by_cases a2 : i < goal
        · rw [if_pos (by omega)] at e9
          rw [List.getElem?_append_left (by rw [blkl]; omega), blk _ (by omega), key i _ hi (show p + (i - (goal - (e - p))) < n by omega) e9, show p - 0 + (goal - e) = goal - (e - p) by omega]
        · rw [if_neg (by omega), if_neg (by omega), show i - (e - p) + (e - p) = i by omega] at e9
          rw [List.getElem?_append_right (by rw [blkl]; omega), blkl, ag_sgm_get (by omega), key i i hi hi e9, if_neg (by omega), show goal + (i - (p - 0 + (goal - e)) - (e - p)) = i by omega]
  · rw [List.getElem?_eq_none (by rw [ag_prl_len]; omega), List.getElem?_eq_none]
    by_cases hgp : goal ≤ p
    · simp only [hgp, if_true, List.length_append, blkl, ag_sgm_len]
      omega
    · simp only [hgp, if_false, List.length_append, blkl, ag_sgm_len]
      omega
theorem ag_kid_move {G : Nat → Nat → Int} {p e q goal : Nat} (hB : ag_IB gb w n) (hp : p < n) (hq : q < n) (hb : ag_blk (ag_hg gb) n p e) (hbq : ag_blk (ag_hg gb) n q goal) (hqo : q < p ∨ e ≤ q) (h6 : ∀ i, i < n → G 6 i = ag_bin (ag_pcu (gb 6) p e) (if goal ≤ p then goal else goal - (e - p)) (e - p) (fun t => gb 6 (p + t)) i) (hu : G 1 = ag_ui (gb 1) (gb 6 p).toNat (ag_pg gb q)) :
    ∃ A0 C0 A1 C1 : List Int, ag_kid (ag_prl gb n) (ag_pg gb p) = A0 ++ gb 6 p :: C0 ∧ gb 6 p ∉ A0 ∧ (if ag_pg gb q = ag_pg gb p then A0 ++ C0 else ag_kid (ag_prl gb n) (ag_pg gb q)) = A1 ++ gb 6 q :: C1 ∧ gb 6 q ∉ A1 ∧ ag_kid (ag_prl G n) (ag_pg gb q) = A1 ++ gb 6 q :: gb 6 p :: C1 ∧ (ag_pg gb p ≠ ag_pg gb q → ag_kid (ag_prl G n) (ag_pg gb p) = A0 ++ C0) ∧ ∀ c : Int, c ≠ ag_pg gb p → c ≠ ag_pg gb q → ag_kid (ag_prl G n) c = ag_kid (ag_prl gb n) c := by
  have ho := (ag_blk_cut hb hbq hqo).1
  have hbb := hb
  have hbbq := hbq
  obtain ⟨b1, b2, b3, b4⟩ := hb
  obtain ⟨q1, q2, q3, q4⟩ := hbq
  have hP : ag_prl gb n = ag_sgm gb 0 p ++ ((gb 6 p, ag_pg gb p) :: ag_sgm gb (p + 1) e ++ ag_sgm gb e n) := by
    rw [← ag_sgm_all, ag_sgm_app (b := p) (Nat.zero_le _) (by omega), ag_sgm_app (a := p) (b := e) (by omega) b2, ag_sgm_cons b1]
  have hG := ag_prl_move hB b1 b2 q2 ho h6 hu
  -- the aim's parent lies outside of the block
  have uq : ∀ j, p ≤ j → j < e → ag_pg gb q ≠ gb 6 j := fun j j1 j2 => ag_pg_out hB hbb hq hqo j1 j2
  have tl : ∀ c : Int, (∀ j, p ≤ j → j < e → c ≠ gb 6 j) → ag_kid (ag_sgm gb (p + 1) e) c = [] := fun c hc => ag_kid_no (fun i i1 i2 => by
    obtain ⟨j, j1, j2, j3⟩ := ag_blk_par hB hbb (show p < i by omega) i2
    rw [j3]
    exact fun z => hc j j1 (by omega) z.symm)
  have up : ∀ j, p ≤ j → j < e → ag_pg gb p ≠ gb 6 j := fun j j1 j2 z => by
    rcases ag_par_ahead hB hp with y | ⟨k, k1, k2⟩
    · have := (hB.2.1 j (by omega)).1
      omega
    · have := ag_IB_inj hB (by omega) (by omega) (k2.symm.trans z)
      omega
  -- what is left, ahead of the aim's end and behind
  have hM : ∃ M1 M2 : List (Int × Int), ag_sgm gb 0 p ++ ag_sgm gb e n = M1 ++ M2 ∧ ag_prl G n = M1 ++ (((gb 6 p, ag_pg gb q) :: ag_sgm gb (p + 1) e) ++ M2) ∧ ∃ A1 : List Int, ag_kid M1 (ag_pg gb q) = A1 ++ [gb 6 q] ∧ gb 6 q ∉ A1 := by
    have noq : ∀ a b, q < a → b ≤ goal → ag_kid (ag_sgm gb a b) (ag_pg gb q) = [] := fun a b a1 a2 => ag_kid_no (fun i i1 i2 => ag_pg_ne hB hq hbbq (by omega) (by omega))
    have nin : ∀ a b, b ≤ n → (q < a ∨ b ≤ q) → gb 6 q ∉ ag_kid (ag_sgm gb a b) (ag_pg gb q) := fun a b hbn ha h => by
      obtain ⟨i, i1, i2, i3, -⟩ := ag_kid_in h
      have := ag_IB_inj hB (by omega) hq i3
      omega
    by_cases hgp : goal ≤ p
    · simp only [hgp, if_true] at hG
      refine ⟨ag_sgm gb 0 goal, ag_sgm gb goal p ++ ag_sgm gb e n, ?_, hG, ag_kid (ag_sgm gb 0 q) (ag_pg gb q), ?_, nin 0 q (by omega) (by omega)⟩
      · rw [ag_sgm_app (a := 0) (b := goal) (c := p) (Nat.zero_le _) hgp, List.append_assoc]
      · rw [ag_sgm_app (a := 0) (b := q) (c := goal) (Nat.zero_le _) (by omega), ag_sgm_cons q1, ag_kid_app, ag_kid_cons, if_pos rfl, noq (q + 1) goal (by omega) (Nat.le_refl _)]
    · have ho2 : e ≤ goal := by omega
      simp only [hgp, if_false] at hG
      refine ⟨ag_sgm gb 0 p ++ ag_sgm gb e goal, ag_sgm gb goal n, ?_, hG, ?_⟩
      · rw [ag_sgm_app (a := e) (b := goal) (c := n) ho2 q2, List.append_assoc]
      · rcases hqo with z | z
        · refine ⟨ag_kid (ag_sgm gb 0 q) (ag_pg gb q), ?_, nin 0 q (by omega) (by omega)⟩
          rw [ag_sgm_app (a := 0) (b := q) (c := p) (Nat.zero_le _) (by omega), ag_sgm_cons z, ag_kid_app, ag_kid_app, ag_kid_cons, if_pos rfl, noq (q + 1) p (by omega) (by omega), noq e goal (by omega) (Nat.le_refl _), List.append_nil]
        · refine ⟨ag_kid (ag_sgm gb 0 p) (ag_pg gb q) ++ ag_kid (ag_sgm gb e q) (ag_pg gb q), ?_, fun h => ?_⟩
          · rw [ag_sgm_app (a := e) (b := q) (c := goal) z (by omega), ag_sgm_cons q1, ag_kid_app, ag_kid_app, ag_kid_cons, if_pos rfl, noq (q + 1) goal (by omega) (Nat.le_refl _), List.append_assoc]
          · rcases List.mem_append.mp h with y | y
            · exact nin 0 p (by omega) (by omega) y
            · exact nin e q (by omega) (by omega) y
  obtain ⟨M1, M2, m1, m2, A1, m3, m4⟩ := hM
  -- children in what is left
  have kM : ∀ c, ag_kid M1 c ++ ag_kid M2 c = ag_kid (ag_sgm gb 0 p) c ++ ag_kid (ag_sgm gb e n) c := fun c => by rw [← ag_kid_app, ← m1, ag_kid_app]
  have kG : ∀ c, ag_kid (ag_prl G n) c = ag_kid M1 c ++ ((if ag_pg gb q = c then [gb 6 p] else []) ++ (ag_kid (ag_sgm gb (p + 1) e) c ++ ag_kid M2 c)) := fun c => by
    rw [m2, ag_kid_app, ag_kid_app, ag_kid_cons]
    by_cases hc : ag_pg gb q = c
    · rw [if_pos hc, if_pos hc]
      rfl
    · rw [if_neg hc, if_neg hc]
      rfl
  have kP : ∀ c, ag_kid (ag_prl gb n) c = ag_kid (ag_sgm gb 0 p) c ++ ((if ag_pg gb p = c then [gb 6 p] else []) ++ (ag_kid (ag_sgm gb (p + 1) e) c ++ ag_kid (ag_sgm gb e n) c)) := fun c => by
    rw [hP, ag_kid_app, ag_kid_app, ag_kid_cons]
    by_cases hc : ag_pg gb p = c
    · rw [if_pos hc, if_pos hc]
      rfl
    · rw [if_neg hc, if_neg hc]
      rfl
  refine ⟨ag_kid (ag_sgm gb 0 p) (ag_pg gb p), ag_kid (ag_sgm gb e n) (ag_pg gb p), A1, ag_kid M2 (ag_pg gb q), ?_, fun h => ?_, ?_, m4, ?_, fun hne => ?_, fun c c1 c2 => ?_⟩
  · rw [kP, if_pos rfl, tl _ up]
    rfl
  · obtain ⟨i, -, i2, i3, -⟩ := ag_kid_in h
    have := ag_IB_inj hB (by omega) hp i3
    omega
  · have e9 : ag_kid M1 (ag_pg gb q) ++ ag_kid M2 (ag_pg gb q) = A1 ++ gb 6 q :: ag_kid M2 (ag_pg gb q) := by
      rw [m3, List.append_assoc]
      rfl
    by_cases hc : ag_pg gb q = ag_pg gb p
    · rw [if_pos hc, ← e9, kM, hc]
    · rw [if_neg hc, ← e9, kM, kP, if_neg (fun z => hc z.symm), tl _ uq]
      rfl
  · rw [kG, if_pos rfl, tl _ uq, m3, List.append_assoc]
    rfl
  · rw [kG, if_neg (fun z => hne z.symm), tl _ up, List.nil_append, List.nil_append, kM]
  · rw [kG, if_neg (fun z => c2 z.symm), kP, if_neg (fun z => c1 z.symm), List.nil_append, List.nil_append]
    by_cases hin : ∃ j, p ≤ j ∧ j < e ∧ c = gb 6 j
    · obtain ⟨j, j1, j2, rfl⟩ := hin
      have z1 : ag_kid (ag_sgm gb 0 p) (gb 6 j) = [] := ag_kid_no (fun k k1 k2 => ag_pg_out hB hbb (by omega) (Or.inl k2) j1 j2)
      have z2 : ag_kid (ag_sgm gb e n) (gb 6 j) = [] := ag_kid_no (fun k k1 k2 => ag_pg_out hB hbb (by omega) (Or.inr k1) j1 j2)
      have z3 := kM (gb 6 j)
      rw [z1, z2, List.append_nil] at z3
      have z4 := List.append_eq_nil_iff.mp z3
      rw [z4.1, z4.2, z1, z2]
    · have hc : ∀ j, p ≤ j → j < e → c ≠ gb 6 j := fun j j1 j2 z => hin ⟨j, j1, j2, z⟩
      rw [tl c hc, List.nil_append, List.nil_append, kM]
end AGOP
