/-! THE TREE OUT OF THE ROW OF READING: the children of each, in their order, and what is read out of these. -/
theorem ag_blk_ex {h : Nat → Int} {n p : Nat} (hp : p < n) : ∃ e, ag_blk h n p e := by
  have a := ag_ff_le (fun i => decide (h i ≤ h p)) (n - (p + 1)) (p + 1)
  have b := ag_ff_no (fun i => decide (h i ≤ h p)) (n - (p + 1)) (p + 1)
  have d := ag_ff_yes (fun i => decide (h i ≤ h p)) (n - (p + 1)) (p + 1)
  generalize ag_ff (fun i => decide (h i ≤ h p)) (n - (p + 1)) (p + 1) = e at a b d
  refine ⟨e, by omega, by omega, fun k k1 k2 => ?_, fun he => ?_⟩
  · have := of_decide_eq_false (b k (by omega) k2)
    omega
  · exact of_decide_eq_true (d (by omega))
def ag_tp (h r : Nat → Int) (H : Int) (x k : Nat) : List Int := ((List.range' x k).filter (fun i => decide (h i = H))).map r
theorem ag_tp_app (h r : Nat → Int) (H : Int) (x a b : Nat) : ag_tp h r H x (a + b) = ag_tp h r H x a ++ ag_tp h r H (x + a) b := by
  unfold ag_tp
  rw [← List.map_append, ← List.filter_append, ← List.range'_append_1]
theorem ag_tp_none {h r : Nat → Int} {H : Int} {x k : Nat} (hn : ∀ i, x ≤ i → i < x + k → h i ≠ H) : ag_tp h r H x k = [] := by
  unfold ag_tp
  rw [List.filter_eq_nil_iff.mpr (fun i hi => by
    have := List.mem_range'_1.mp hi
    simpa using hn i this.1 this.2)]
  rfl
theorem ag_tp_one {h r : Nat → Int} {H : Int} {x : Nat} (hx : h x = H) : ag_tp h r H x 1 = [r x] := by
  unfold ag_tp
  simp [hx]
theorem ag_tp_mem {h r : Nat → Int} {H : Int} {x k : Nat} {c : Int} : c ∈ ag_tp h r H x k ↔ ∃ i, x ≤ i ∧ i < x + k ∧ h i = H ∧ r i = c := by
  unfold ag_tp
  rw [List.mem_map]
  constructor
  · rintro ⟨i, hi, rfl⟩
    have h1 := List.mem_filter.mp hi
    have h2 := List.mem_range'_1.mp h1.1
    exact ⟨i, h2.1, h2.2, by simpa using h1.2, rfl⟩
  · rintro ⟨i, h1, h2, h3, rfl⟩
    exact ⟨i, List.mem_filter.mpr ⟨List.mem_range'_1.mpr ⟨h1, h2⟩, by simpa using h3⟩, rfl⟩
theorem ag_po_next {h u r : Nat → Int} {n x : Nat} (hp : ag_po h u r n) (hx : x + 1 < n) (hg : h x < h (x + 1)) : h (x + 1) = h x + 1 := by
  obtain ⟨a, b, c⟩ := hp (x + 1) hx
  have h0 := (hp x (by omega)).1
  rcases c with ⟨c1, -⟩ | ⟨j, j1, -, j3, j4⟩
  · omega
  · by_cases e : j = x
    · subst e; omega
    · have := j4 x (by omega) (by omega)
      omega
section AGTR
variable {h u r : Nat → Int} {n : Nat} {kd : Nat → List Int}
theorem ag_rd_tp (hp : ag_po h u r n) (hkd : ∀ i e, i < n → ag_blk h n i e → kd (r i).toNat = ag_tp h r (h i + 1) (i + 1) (e - (i + 1))) :
    ∀ (lev : Nat) (H : Int) (k x : Nat), 0 ≤ H → 4 ≤ H + lev → x + k ≤ n → (∀ i, x ≤ i → i < x + k → H ≤ h i) → (0 < k → h x = H) → (x + k < n → h (x + k) ≤ H) → ag_rdl kd lev (ag_tp h r H x k) = (List.range' x k).map r := by
  intro lev
  induction lev with
  | zero =>
    intro H k x h0 h4 hk hge hx hend
    have hk0 : k = 0 := by
      rcases Nat.eq_zero_or_pos k with q | q
      · exact q
      · have a := hx q
        have b := (hp x (by omega)).2.1
        omega
    subst hk0
    rfl
  | succ lev ih =>
    intro H k
    induction k using Nat.strongRecOn with
    | _ k ihk =>
      intro x h0 h4 hk hge hx hend
      rcases Nat.eq_zero_or_pos k with q | q
      · subst q
        rfl
      · have hxH := hx q
        obtain ⟨e, hb⟩ := ag_blk_ex (h := h) (n := n) (p := x) (by omega)
        obtain ⟨b1, b2, b3, b4⟩ := hb
        have he : e ≤ x + k := by
          rcases Nat.lt_or_ge (x + k) e with w | w
          · have a := b3 (x + k) (by omega) w
            have := hend (by omega)
            omega
          · exact w
        have hkd1 := hkd x e (by omega) ⟨b1, b2, b3, b4⟩
        rw [hxH] at hkd1
        have e1 : k = 1 + ((e - (x + 1)) + (x + k - e)) := by omega
        have hx1 : x + 1 + (e - (x + 1)) = e := by omega
        rw [e1, ag_tp_app, ag_tp_one hxH, ag_tp_app, ag_tp_none (x := x + 1) (k := e - (x + 1)) (fun i i1 i2 => by have := b3 i (by omega) (by omega); omega), hx1, List.nil_append]
        have i1 : ag_rdl kd lev (ag_tp h r (H + 1) (x + 1) (e - (x + 1))) = (List.range' (x + 1) (e - (x + 1))).map r := by
          refine ih (H + 1) (e - (x + 1)) (x + 1) (by omega) (by omega) (by omega) (fun i a b => ?_) (fun a => ?_) (fun a => ?_)
          · have := b3 i (by omega) (by omega)
            omega
          · have := b3 (x + 1) (by omega) (by omega)
            have := ag_po_next hp (by omega) this
            omega
          · rw [hx1] at a ⊢
            have := b4 a
            omega
        have i2 : ag_rdl kd (lev + 1) (ag_tp h r H e (x + k - e)) = (List.range' e (x + k - e)).map r := by
          refine ihk (x + k - e) (by omega) e h0 h4 (by omega) (fun i a b => hge i (by omega) (by omega)) (fun a => ?_) (fun a => ?_)
          · have c1 := hge e (by omega) (by omega)
            have c2 := b4 (by omega)
            omega
          · rw [show e + (x + k - e) = x + k by omega] at a ⊢
            exact hend a
        rw [List.singleton_append]
        unfold ag_rdl at i2 ⊢
        rw [List.flatMap_cons, i2, hkd1, i1, ← List.range'_append_1, ← List.range'_append_1, hx1, List.map_append, List.map_append]
        rfl
theorem ag_ok_tp (hp : ag_po h u r n) (hr : ∀ i, i < n → 0 ≤ r i ∧ r i < 40) (hkd : ∀ i e, i < n → ag_blk h n i e → kd (r i).toNat = ag_tp h r (h i + 1) (i + 1) (e - (i + 1))) :
    ∀ (lev : Nat) (H : Int) (k x : Nat), 0 ≤ H → 4 ≤ H + lev → x + k ≤ n → (∀ i, x ≤ i → i < x + k → H ≤ h i) → (0 < k → h x = H) → ag_rok kd lev (ag_tp h r H x k) := by
  intro lev
  induction lev with
  | zero =>
    intro H k x h0 h4 hk hge hx
    have hk0 : k = 0 := by
      rcases Nat.eq_zero_or_pos k with q | q
      · exact q
      · have a := hx q
        have b := (hp x (by omega)).2.1
        omega
    subst hk0
    rfl
  | succ lev ih =>
    intro H k x h0 h4 hk hge hx
    intro c hc
    obtain ⟨i, i1, i2, i3, rfl⟩ := ag_tp_mem.mp hc
    have hri := hr i (by omega)
    obtain ⟨e, hb⟩ := ag_blk_ex (h := h) (n := n) (p := i) (by omega)
    have hk9 := hkd i e (by omega) hb
    obtain ⟨b1, b2, b3, b4⟩ := hb
    refine ⟨(r i).toNat, by omega, by omega, ?_⟩
    rw [hk9, i3]
    refine ih (H + 1) _ _ (by omega) (by omega) (by omega) (fun j a b => ?_) (fun a => ?_)
    · have := b3 j (by omega) (by omega)
      omega
    · have := ag_po_next hp (by omega) (b3 (i + 1) (by omega) (by omega))
      omega
end AGTR
/-- clause and parent, in the order of reading -/
def ag_prl (gb : Nat → Nat → Int) (n : Nat) : List (Int × Int) := (List.range n).map (fun i => (gb 6 i, ag_pg gb i))
/-- the children of p -/
def ag_kid (P : List (Int × Int)) (p : Int) : List Int := (P.filter (fun q => decide (q.2 = p))).map Prod.fst
theorem ag_kid_app (A C : List (Int × Int)) (p : Int) : ag_kid (A ++ C) p = ag_kid A p ++ ag_kid C p := by
  unfold ag_kid
  rw [List.filter_append, List.map_append]
theorem ag_kid_nil (p : Int) : ag_kid [] p = [] := rfl
theorem ag_kid_cons (c u : Int) (C : List (Int × Int)) (p : Int) : ag_kid ((c, u) :: C) p = if u = p then c :: ag_kid C p else ag_kid C p := by
  unfold ag_kid
  by_cases h : u = p
  · rw [if_pos h, List.filter_cons_of_pos (by simpa using h)]
    rfl
  · rw [if_neg h, List.filter_cons_of_neg (by simpa using h)]
theorem ag_kid_none {A : List (Int × Int)} {p : Int} (h : ∀ q ∈ A, q.2 ≠ p) : ag_kid A p = [] := by
  unfold ag_kid
  rw [List.filter_eq_nil_iff.mpr (fun q hq => by simpa using h q hq)]
  rfl
theorem ag_kid_mem {A : List (Int × Int)} {p c : Int} : c ∈ ag_kid A p ↔ (c, p) ∈ A := by
  unfold ag_kid
  rw [List.mem_map]
  constructor
  · rintro ⟨⟨a, b⟩, h1, rfl⟩
    have h2 := List.mem_filter.mp h1
    have h3 : b = p := by simpa using h2.2
    rw [← h3]
    exact h2.1
  · intro h
    exact ⟨(c, p), List.mem_filter.mpr ⟨h, by simp⟩, rfl⟩
theorem ag_kid_rg (r u : Nat → Int) (p : Int) (x k : Nat) : ag_kid ((List.range' x k).map (fun i => (r i, u i))) p = ((List.range' x k).filter (fun i => decide (u i = p))).map r := by
  unfold ag_kid
  rw [List.filter_map, List.map_map]
  rfl
theorem ag_prl_len (gb : Nat → Nat → Int) (n : Nat) : (ag_prl gb n).length = n := by simp [ag_prl]
theorem ag_prl_get {gb : Nat → Nat → Int} {n i : Nat} (h : i < n) : (ag_prl gb n)[i]? = some (gb 6 i, ag_pg gb i) := by
  unfold ag_prl
  rw [List.getElem?_map, List.getElem?_range h]
  rfl
theorem ag_prl_mem {gb : Nat → Nat → Int} {n : Nat} {q : Int × Int} : q ∈ ag_prl gb n ↔ ∃ i, i < n ∧ q = (gb 6 i, ag_pg gb i) := by
  unfold ag_prl
  rw [List.mem_map]
  constructor
  · rintro ⟨i, hi, rfl⟩
    exact ⟨i, List.mem_range.mp hi, rfl⟩
  · rintro ⟨i, hi, rfl⟩
    exact ⟨i, List.mem_range.mpr hi, rfl⟩
theorem ag_prl_seg {gb : Nat → Nat → Int} {n a b : Nat} (hab : a ≤ b) (hb : b ≤ n) : ((ag_prl gb n).take b).drop a = (List.range' a (b - a)).map (fun i => (gb 6 i, ag_pg gb i)) := by
  apply List.ext_getElem?
  intro i
  rw [List.getElem?_drop, List.getElem?_map]
  by_cases h : i < b - a
  · rw [List.getElem?_take_of_lt (by omega), ag_prl_get (by omega), List.getElem?_range' h]
    simp
  · rw [List.getElem?_eq_none (by rw [List.length_take, ag_prl_len]; omega), List.getElem?_eq_none (by rw [List.length_range']; omega)]
    rfl
theorem ag_prl_split {gb : Nat → Nat → Int} {n a b : Nat} (hab : a ≤ b) (hb : b ≤ n) : ag_prl gb n = (ag_prl gb n).take a ++ ((List.range' a (b - a)).map (fun i => (gb 6 i, ag_pg gb i)) ++ (ag_prl gb n).drop b) := by
  have e : (ag_prl gb n).take b = (ag_prl gb n).take a ++ (List.range' a (b - a)).map (fun i => (gb 6 i, ag_pg gb i)) := by
    have h1 := List.take_append_drop a ((ag_prl gb n).take b)
    rw [ag_prl_seg hab hb, List.take_take, Nat.min_eq_left hab] at h1
    exact h1.symm
  rw [← List.append_assoc, ← e, List.take_append_drop]
theorem ag_prl_tk {gb : Nat → Nat → Int} {n a : Nat} {q : Int × Int} : q ∈ (ag_prl gb n).take a → ∃ i, i < a ∧ i < n ∧ q = (gb 6 i, ag_pg gb i) := by
  intro h
  obtain ⟨i, hi⟩ := List.mem_iff_getElem?.mp h
  have hl : i < ((ag_prl gb n).take a).length := (List.getElem?_eq_some_iff.mp hi).1
  rw [List.length_take, ag_prl_len] at hl
  rw [List.getElem?_take_of_lt (by omega), ag_prl_get (by omega)] at hi
  exact ⟨i, by omega, by omega, (Option.some.inj hi).symm⟩
theorem ag_prl_dr {gb : Nat → Nat → Int} {n a : Nat} {q : Int × Int} : q ∈ (ag_prl gb n).drop a → ∃ i, a ≤ i ∧ i < n ∧ q = (gb 6 i, ag_pg gb i) := by
  intro h
  obtain ⟨i, hi⟩ := List.mem_iff_getElem?.mp h
  have hl : i < ((ag_prl gb n).drop a).length := (List.getElem?_eq_some_iff.mp hi).1
  rw [List.length_drop, ag_prl_len] at hl
  rw [List.getElem?_drop, ag_prl_get (by omega)] at hi
  exact ⟨a + i, by omega, by omega, (Option.some.inj hi).symm⟩
section AGTB
variable {gb : Nat → Nat → Int} {w n : Nat}
/-- the children of one at p lie in its block -/
theorem ag_par_in (hB : ag_IB gb w n) {p e i : Nat} (hp : p < n) (hb : ag_blk (ag_hg gb) n p e) (hi : i < n) (hu : ag_pg gb i = gb 6 p) : p < i ∧ i < e ∧ ag_hg gb i = ag_hg gb p + 1 := by
  have hrp := hB.2.1 p hp
  rcases (hB.2.2.2 i hi).2.2 with ⟨-, c2⟩ | ⟨j, j1, j2, j3, j4⟩
  · omega
  · have hj : j = p := ag_IB_inj hB (by omega) hp (by rw [← j2, hu])
    subst hj
    refine ⟨j1, ?_, by omega⟩
    rcases Nat.lt_or_ge i e with q | q
    · exact q
    · have h4 := hb.2.2.2 (by omega)
      by_cases e9 : i = e
      · subst e9; omega
      · have := j4 e hb.1 (by omega)
        omega
theorem ag_par_of (hB : ag_IB gb w n) {p e i : Nat} (hb : ag_blk (ag_hg gb) n p e) (h1 : p < i) (h2 : i < e) (h3 : ag_hg gb i = ag_hg gb p + 1) : ag_pg gb i = gb 6 p := by
  have hen := hb.2.1
  rcases (hB.2.2.2 i (by omega)).2.2 with ⟨c1, -⟩ | ⟨j, j1, j2, j3, j4⟩
  · have := (hB.2.2.2 p (by omega)).1
    omega
  · have hj : j = p := by
      rcases Nat.lt_trichotomy j p with q | q | q
      · have := j4 p q h1
        omega
      · exact q
      · have := hb.2.2.1 j q (by omega)
        omega
    rw [j2, hj]
theorem ag_kid_root (hB : ag_IB gb w n) : ag_kid (ag_prl gb n) (-1) = ag_tp (ag_hg gb) (gb 6) 0 0 n := by
  unfold ag_prl ag_tp
  rw [List.range_eq_range', ag_kid_rg]
  congr 1
  apply List.filter_congr
  intro i hi
  have hi := (List.mem_range'_1.mp hi).2
  have hc := (hB.2.2.2 i (by omega)).2.2
  have h0 := (hB.2.2.2 i (by omega)).1
  simp only [decide_eq_decide]
  rcases hc with ⟨c1, c2⟩ | ⟨j, j1, j2, j3, j4⟩
  · exact ⟨fun _ => c1, fun _ => c2⟩
  · have hrj := hB.2.1 j (by omega)
    have hhj := (hB.2.2.2 j (by omega)).1
    constructor
    · intro q; omega
    · intro q; omega
theorem ag_kid_at (hB : ag_IB gb w n) {p e : Nat} (hp : p < n) (hb : ag_blk (ag_hg gb) n p e) : ag_kid (ag_prl gb n) (gb 6 p) = ag_tp (ag_hg gb) (gb 6) (ag_hg gb p + 1) (p + 1) (e - (p + 1)) := by
  obtain ⟨b1, b2, b3, b4⟩ := hb
  rw [ag_prl_split (gb := gb) (n := n) (a := p + 1) (b := e) (by omega) b2, ag_kid_app, ag_kid_app, ag_kid_none (A := (ag_prl gb n).take (p + 1)) (fun q hq => ?_), ag_kid_none (A := (ag_prl gb n).drop e) (fun q hq => ?_), List.nil_append, List.append_nil, ag_kid_rg]
  · unfold ag_tp
    congr 1
    apply List.filter_congr
    intro i hi
    have hi := List.mem_range'_1.mp hi
    simp only [decide_eq_decide]
    exact ⟨fun q => (ag_par_in hB hp ⟨b1, b2, b3, b4⟩ (by omega) q).2.2, fun q => ag_par_of hB ⟨b1, b2, b3, b4⟩ (by omega) (by omega) q⟩
  · obtain ⟨i, i1, i2, rfl⟩ := ag_prl_dr hq
    intro q
    have := ag_par_in hB hp ⟨b1, b2, b3, b4⟩ i2 q
    omega
  · obtain ⟨i, i1, i2, rfl⟩ := ag_prl_tk hq
    intro q
    have := ag_par_in hB hp ⟨b1, b2, b3, b4⟩ i2 q
    omega
/-- the rows of kids are those of the bill -/
def ag_kdo (gb : Nat → Nat → Int) (n : Nat) (kd : Nat → List Int) : Prop := kd 40 = ag_kid (ag_prl gb n) (-1) ∧ ∀ k, k < 40 → kd k = ag_kid (ag_prl gb n) (k : Int)
theorem ag_kdo_tp (hB : ag_IB gb w n) {kd : Nat → List Int} (hk : ag_kdo gb n kd) : ∀ i e, i < n → ag_blk (ag_hg gb) n i e → kd (gb 6 i).toNat = ag_tp (ag_hg gb) (gb 6) (ag_hg gb i + 1) (i + 1) (e - (i + 1)) := by
  intro i e hi hb
  have hr := hB.2.1 i hi
  have hw := hB.1.2.2.2
  rw [hk.2 _ (by omega), show (((gb 6 i).toNat : Nat) : Int) = gb 6 i by omega]
  exact ag_kid_at hB hi hb
theorem ag_IB_r40 (hB : ag_IB gb w n) : ∀ i, i < n → 0 ≤ gb 6 i ∧ gb 6 i < 40 := fun i hi => by
  have hr := hB.2.1 i hi
  have hw := hB.1.2.2.2
  omega
/-- all that is read -/
theorem ag_read_all (hB : ag_IB gb w n) {kd : Nat → List Int} (hk : ag_kdo gb n kd) : ag_rdl kd 4 (kd 40) = ag_ls n (gb 6) ∧ ag_rok kd 4 (kd 40) := by
  have hkd := ag_kdo_tp hB hk
  have h0 : ∀ i, 0 ≤ i → i < 0 + n → (0 : Int) ≤ ag_hg gb i := fun i _ hi => (hB.2.2.2 i (by omega)).1
  have hx : 0 < n → ag_hg gb 0 = 0 := fun q => by
    rcases (hB.2.2.2 0 q).2.2 with ⟨c1, -⟩ | ⟨j, j1, -⟩
    · exact c1
    · omega
  rw [hk.1, ag_kid_root hB]
  refine ⟨?_, ag_ok_tp hB.2.2.2 (ag_IB_r40 hB) hkd 4 0 n 0 (by decide) (by decide) (by omega) h0 hx⟩
  rw [ag_rd_tp hB.2.2.2 hkd 4 0 n 0 (by decide) (by decide) (by omega) h0 hx (fun q => by omega)]
  unfold ag_ls
  rw [List.range_eq_range']
/-- all that is read below one -/
theorem ag_read_below (hB : ag_IB gb w n) {kd : Nat → List Int} (hk : ag_kdo gb n kd) {p e : Nat} (hp : p < n) (hb : ag_blk (ag_hg gb) n p e) : ag_rdl kd 4 (kd (gb 6 p).toNat) = (List.range' (p + 1) (e - (p + 1))).map (gb 6) ∧ ag_rok kd 4 (kd (gb 6 p).toNat) := by
  have hkd := ag_kdo_tp hB hk
  obtain ⟨b1, b2, b3, b4⟩ := hb
  have hh := hB.2.2.2 p hp
  have h0 : ∀ i, p + 1 ≤ i → i < p + 1 + (e - (p + 1)) → ag_hg gb p + 1 ≤ ag_hg gb i := fun i i1 i2 => by
    have := b3 i (by omega) (by omega)
    omega
  have hx : 0 < e - (p + 1) → ag_hg gb (p + 1) = ag_hg gb p + 1 := fun q => ag_po_next hB.2.2.2 (by omega) (b3 (p + 1) (by omega) (by omega))
  rw [hkd p e hp ⟨b1, b2, b3, b4⟩]
  refine ⟨?_, ag_ok_tp hB.2.2.2 (ag_IB_r40 hB) hkd 4 _ _ _ (by omega) (by omega) (by omega) h0 hx⟩
  exact ag_rd_tp hB.2.2.2 hkd 4 _ _ _ (by omega) (by omega) (by omega) h0 hx (fun q => by
    rw [show p + 1 + (e - (p + 1)) = e by omega] at q ⊢
    have := b4 q
    omega)
end AGTB
