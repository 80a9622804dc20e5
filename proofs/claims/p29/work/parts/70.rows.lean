/-! ROWS OF THE LAW's OWN: plus, with, place; what a run leaves alone (ag_fr); a new cell (ag_nw). -/
/-- a new cell c of s slots -/
def ag_n9 (σ : ag_S) (c : ag_C) (s : Nat) : ag_S := (ag_up σ.1 (σ.2.1 + 1) c, (σ.2.1 + 1, σ.2.2 + s))
/-- a run that has left the names up to now as they were, and made at most so many cells and slots -/
def ag_fr (σ σ' : ag_S) (dc ds : Nat) : Prop := (∀ z, z ≤ σ.2.1 → σ'.1 z = σ.1 z) ∧ σ.2.1 ≤ σ'.2.1 ∧ σ'.2.1 ≤ σ.2.1 + dc ∧ σ'.2.2 ≤ σ.2.2 + ds
theorem ag_fr_refl (σ : ag_S) : ag_fr σ σ 0 0 := ⟨fun _ _ => rfl, Nat.le_refl _, Nat.le_refl _, Nat.le_refl _⟩
theorem ag_fr_trans {σ σ' σ'' : ag_S} {a b c d : Nat} (h1 : ag_fr σ σ' a b) (h2 : ag_fr σ' σ'' c d) : ag_fr σ σ'' (a + c) (b + d) := by
  obtain ⟨a1, a2, a3, a4⟩ := h1
  obtain ⟨b1, b2, b3, b4⟩ := h2
  exact ⟨fun z hz => (b1 z (by omega)).trans (a1 z hz), by omega, by omega, by omega⟩
theorem ag_fr_le {σ σ' : ag_S} {a b c d : Nat} (h : ag_fr σ σ' a b) (h1 : a ≤ c) (h2 : b ≤ d) : ag_fr σ σ' c d := ⟨h.1, h.2.1, by have := h.2.2.1; omega, by have := h.2.2.2; omega⟩
theorem ag_fr_n9 (σ : ag_S) (c : ag_C) (s : Nat) : ag_fr σ (ag_n9 σ c s) 1 s := ⟨fun z hz => if_neg (by omega), Nat.le_succ _, Nat.le_refl _, Nat.le_refl _⟩
theorem ag_n9_at (σ : ag_S) (c : ag_C) (s : Nat) : (ag_n9 σ c s).1 (σ.2.1 + 1) = some c := if_pos rfl
theorem ag_n9_ne {σ : ag_S} {c : ag_C} {s z : Nat} (h : z ≠ σ.2.1 + 1) : (ag_n9 σ c s).1 z = σ.1 z := if_neg h
theorem ag_up_a9 (h : Nat → Option ag_C) (n : Nat) (c : ag_C) : ag_up h n c n = some c := if_pos rfl
theorem ag_up_ne {h : Nat → Option ag_C} {n z : Nat} {c : ag_C} (q : z ≠ n) : ag_up h n c z = h z := if_neg q
/-- f with x put at place k, l long before -/
def ag_pls (f : Nat → Int) (k l : Nat) (x : Int) : Nat → Int := fun i => if i < k then f i else if i = k then x else if i < l + 1 then f (i - 1) else 0
/-- rows of rows, one more -/
def ag_wth (f : Nat → Option Nat) (l q : Nat) : Nat → Option Nat := fun i => if i < l then f i else if i = l then some q else none
def ag_inb (n : Nat) (i : Int) : Prop := 0 ≤ ag_nm i ∧ ag_nm i < n
theorem ag_inb_nat {n i : Nat} (h : i < n) (hn : n ≤ 1000000) : ag_inb n (i : Int) := by
  unfold ag_inb
  rw [ag_nm_nat (by omega)]
  omega
theorem ag_al_at {σ : ag_S} {z n : Nat} {f : Nat → Int} (h : σ.1 z = some (Sum.inl (n, f))) (K : Int → Prop) : ag_al9 σ z K = K n := by
  unfold ag_al9
  rw [h]
theorem ag_ia_at {σ : ag_S} {z n k : Nat} {f : Nat → Int} (h : σ.1 z = some (Sum.inl (n, f))) (hk : k < n) (hn : n ≤ 1000000) (K : Int → Prop) : ag_ia σ z (k : Int) K = K (f k) := by
  unfold ag_ia
  rw [h]
  dsimp only
  rw [ag_nm_nat (by omega), Int.toNat_natCast]
  simp only [show (0 ≤ (k : Int) ∧ (k : Int) < n) = True from by simp; omega, true_and]
theorem ag_is_at {σ : ag_S} {z n k : Nat} {f : Nat → Int} (h : σ.1 z = some (Sum.inl (n, f))) (hz : 1 ≤ z) (hk : k < n) (hn : n ≤ 1000000) (x : Int) (K : ag_S → Prop) : ag_is σ z (k : Int) x K = K (ag_up σ.1 z (Sum.inl (n, ag_ui f k x)), σ.2) := by
  unfold ag_is
  rw [h]
  dsimp only
  rw [ag_nm_nat (by omega), Int.toNat_natCast]
  simp only [show (0 ≤ (k : Int) ∧ (k : Int) < n ∧ 1 ≤ z) = True from by simp; omega, true_and]
theorem ag_cp_at {σ : ag_S} {z d n0 n1 : Nat} {f g : Nat → Int} (h1 : σ.1 z = some (Sum.inl (n0, f))) (h2 : σ.1 d = some (Sum.inl (n1, g))) {x y k : Int} {sp dp n : Nat} (hx : ag_nm x = sp) (hy : ag_nm y = dp) (hk : ag_nm k = n) (b1 : sp + n ≤ n0) (b2 : dp + n ≤ n1) (b3 : 1 ≤ z) (b4 : 1 ≤ d) (K : ag_S → Prop) :
    ag_cp σ z x d y k K = K (ag_up σ.1 d (Sum.inl (n1, va_cpy f g sp dp n)), σ.2) := by
  unfold ag_cp
  rw [h1]
  dsimp only
  rw [h2]
  dsimp only
  rw [hx, hy, hk]
  simp only [Int.toNat_natCast]
  simp only [show (0 ≤ (sp : Int) ∧ 0 ≤ (dp : Int) ∧ 0 ≤ (n : Int) ∧ (sp : Int) + n ≤ n0 ∧ (dp : Int) + n ≤ n1 ∧ 1 ≤ d ∧ 1 ≤ z) = True from by simp; omega, true_and]
theorem ag_cpq_at {σ : ag_S} {z d n0 n1 : Nat} {f g : Nat → Option Nat} (h1 : σ.1 z = some (Sum.inr (Sum.inr (Sum.inl (n0, f))))) (h2 : σ.1 d = some (Sum.inr (Sum.inr (Sum.inl (n1, g))))) {x y k : Int} {sp dp n : Nat} (hx : ag_nm x = sp) (hy : ag_nm y = dp) (hk : ag_nm k = n) (b1 : sp + n ≤ n0) (b2 : dp + n ≤ n1) (b3 : 1 ≤ z) (b4 : 1 ≤ d) (hc : ag_cpk σ f sp n = true) (K : ag_S → Prop) :
    ag_cp σ z x d y k K = K (ag_up σ.1 d (Sum.inr (Sum.inr (Sum.inl (n1, va_cpy f g sp dp n)))), σ.2) := by
  unfold ag_cp
  rw [h1]
  dsimp only
  rw [h2]
  dsimp only
  rw [hx, hy, hk]
  simp only [Int.toNat_natCast]
  simp only [show (0 ≤ (sp : Int) ∧ 0 ≤ (dp : Int) ∧ 0 ≤ (n : Int) ∧ (sp : Int) + n ≤ n0 ∧ (dp : Int) + n ≤ n1 ∧ 1 ≤ d ∧ 1 ≤ z ∧ ag_cpk σ f sp n = true) = True from by simp [hc]; omega, true_and]
theorem ag_pls_eq (f : Nat → Int) {k l : Nat} (x : Int) (hk : k ≤ l) : va_cpy f (ag_ui (va_cpy f (fun _ => 0) 0 0 k) k x) k (k + 1) (l - k) = ag_pls f k l x := by
  funext i
  show (if k + 1 ≤ i ∧ i < k + 1 + (l - k) then f (k + (i - (k + 1))) else if i = k then x else if 0 ≤ i ∧ i < 0 + k then f (0 + (i - 0)) else 0) = (if i < k then f i else if i = k then x else if i < l + 1 then f (i - 1) else 0)
  by_cases h1 : i < k
  · rw [if_pos h1, if_neg (by omega), if_neg (by omega), if_pos (by omega)]
    congr 1
    omega
  · rw [if_neg h1]
    by_cases h2 : i = k
    · rw [if_pos h2, if_neg (by omega), if_pos h2]
    · rw [if_neg h2]
      by_cases h3 : i < l + 1
      · rw [if_pos h3, if_pos (by omega)]
        rw [show k + (i - (k + 1)) = i - 1 by omega, if_neg h2]
      · rw [if_neg h3, if_neg (by omega), if_neg h2, if_neg (by omega)]
theorem ag_wth_eq (f : Nat → Option Nat) (l q : Nat) : ag_uq (va_cpy f (fun _ => none) 0 0 l) l (some q) = ag_wth f l q := by
  funext i
  unfold ag_wth ag_uq va_cpy
  by_cases h1 : i < l
  · rw [if_pos h1, if_neg (by omega), if_pos (by omega)]
    congr 1
    omega
  · rw [if_neg h1]
    by_cases h2 : i = l
    · rw [if_pos h2, if_pos h2]
    · rw [if_neg h2, if_neg h2, if_neg (by omega)]
theorem ag_h_plus {σ : ag_S} {b l k : Nat} {f : Nat → Int} (h : σ.1 b = some (Sum.inl (l, f))) (hb : 1 ≤ b) (hbn : b ≤ σ.2.1) (hl : l ≤ 1000) (hk : k ≤ l) (x : Int) (K : ag_Rs → ag_S → Prop) :
    ag_cl9 97 [ag_R b, ag_I (k : Int), ag_I x] σ K = K (Sum.inl (some (ag_R (σ.2.1 + 1)))) (ag_n9 σ (Sum.inl (l + 1, ag_pls f k l x)) (l + 1)) := by
  have hne : b ≠ σ.2.1 + 1 := by omega
  have e1 : ag_nm ((l : Int) + 1) = ((l + 1 : Nat) : Int) := ag_nm_of (by omega) (by omega)
  have e2 : ag_nm ((k : Int) + 1) = ((k + 1 : Nat) : Int) := ag_nm_of (by omega) (by omega)
  have e3 : ag_nm ((l : Int) - k) = ((l - k : Nat) : Int) := by rw [ag_nm_of (by omega) (by omega)]; omega
  have eN := ag_nm_nat (n := k) (by omega)
  simp only [ag_i97_0, ag_i97_1, ag_e97, ag_al_at h, ag_i97_2, ag_i97_3, ag_i97_4, ag_i97_6_n, ag_i97_6_i, ag_i97_6_r, ag_i97_7, ag_i97_8, ag_i97_9, ag_i97_10, ag_i97_11, e1, Int.toNat_natCast]
  rw [show (0 ≤ ((l + 1 : Nat) : Int) ∧ ((l + 1 : Nat) : Int) ≤ 1000000) = True from by simp; omega, true_and, ag_i97_12]
  rw [ag_cp_at (n0 := l) (n1 := l + 1) (f := f) (g := fun _ => 0) ((ag_up_ne hne).trans h) (ag_up_a9 _ _ _) (sp := 0) (dp := 0) (n := k) ag_nm_z ag_nm_z eN (by omega) (by omega) hb (by omega)]
  simp only [ag_i97_15, ag_i97_16, ag_i97_17, ag_i97_18]
  rw [ag_is_at (n := l + 1) (ag_up_a9 _ _ _) (by omega) (by omega) (by omega)]
  have hat : (ag_up (ag_up (ag_up σ.1 (σ.2.1 + 1) (Sum.inl (l + 1, fun _ => 0))) (σ.2.1 + 1) (Sum.inl (l + 1, va_cpy f (fun _ => 0) 0 0 k))) (σ.2.1 + 1) (Sum.inl (l + 1, ag_ui (va_cpy f (fun _ => 0) 0 0 k) k x))) b = some (Sum.inl (l, f)) := by
    rw [ag_up_ne hne, ag_up_ne hne, ag_up_ne hne, h]
  have ea := ag_al_at (σ := (ag_up (ag_up (ag_up σ.1 (σ.2.1 + 1) (Sum.inl (l + 1, fun _ => 0))) (σ.2.1 + 1) (Sum.inl (l + 1, va_cpy f (fun _ => 0) 0 0 k))) (σ.2.1 + 1) (Sum.inl (l + 1, ag_ui (va_cpy f (fun _ => 0) 0 0 k) k x)), (σ.2.1 + 1, σ.2.2 + (l + 1)))) hat
  simp only [ag_i97_19, ag_i97_20, ag_i97_21, ag_i97_22, ag_i97_23, ag_i97_24, ag_i97_25, ag_i97_26, ag_i97_27, ag_i97_28, ag_i97_29, ea]
  rw [ag_cp_at (n0 := l) (n1 := l + 1) (f := f) (g := ag_ui (va_cpy f (fun _ => 0) 0 0 k) k x) hat (ag_up_a9 _ _ _) (sp := k) (dp := k + 1) (n := l - k) eN e2 e3 (by omega) (by omega) hb (by omega)]
  simp only [ag_i97_32, ag_i97_33, ag_up_2, ag_pls_eq f x hk]
  rfl
theorem ag_alq_at {σ : ag_S} {z n : Nat} {f : Nat → Option Nat} (h : σ.1 z = some (Sum.inr (Sum.inr (Sum.inl (n, f))))) (K : Int → Prop) : ag_al9 σ z K = K n := by
  unfold ag_al9
  rw [h]
theorem ag_h_with {σ : ag_S} {b l q : Nat} {f : Nat → Option Nat} (h : σ.1 b = some (Sum.inr (Sum.inr (Sum.inl (l, f))))) (hb : 1 ≤ b) (hbn : b ≤ σ.2.1) (hl : l ≤ 1000) (hq1 : 1 ≤ q) (hqn : q ≤ σ.2.1) (hq : ∃ w, σ.1 q = some (Sum.inl w)) (hf : ∀ i, i < l → ∃ z w, f i = some z ∧ 1 ≤ z ∧ z ≤ σ.2.1 ∧ σ.1 z = some (Sum.inl w)) (K : ag_Rs → ag_S → Prop) :
    ag_cl9 98 [ag_R b, ag_R q] σ K = K (Sum.inl (some (ag_R (σ.2.1 + 1)))) (ag_n9 σ (Sum.inr (Sum.inr (Sum.inl (l + 1, ag_wth f l q)))) (l + 1)) := by
  have hne : b ≠ σ.2.1 + 1 := by omega
  have hqne : q ≠ σ.2.1 + 1 := by omega
  have e1 : ag_nm ((l : Int) + 1) = ((l + 1 : Nat) : Int) := ag_nm_of (by omega) (by omega)
  have eN := ag_nm_nat (n := l) (by omega)
  simp only [ag_i98_0, ag_i98_1, ag_e98, ag_alq_at h, ag_i98_2, ag_i98_3, ag_i98_4, e1, Int.toNat_natCast]
  rw [show (0 ≤ ((l + 1 : Nat) : Int) ∧ ((l + 1 : Nat) : Int) ≤ 1000000) = True from by simp; omega, true_and]
  have h1 : (ag_up σ.1 (σ.2.1 + 1) (Sum.inr (Sum.inr (Sum.inl (l + 1, fun _ => none))))) b = some (Sum.inr (Sum.inr (Sum.inl (l, f)))) := (ag_up_ne hne).trans h
  have ea := ag_alq_at (σ := (ag_up σ.1 (σ.2.1 + 1) (Sum.inr (Sum.inr (Sum.inl (l + 1, fun _ => none)))), (σ.2.1 + 1, σ.2.2 + (l + 1)))) h1
  simp only [ag_i98_7_n, ag_i98_7_i, ag_i98_7_r, ag_i98_8, ag_i98_9, ag_i98_10, ag_i98_11, ag_i98_12, ag_i98_13, ea, ag_i98_14]
  have hck : ag_cpk (ag_up σ.1 (σ.2.1 + 1) (Sum.inr (Sum.inr (Sum.inl (l + 1, fun _ => none)))), (σ.2.1 + 1, σ.2.2 + (l + 1))) f 0 l = true := by
    unfold ag_cpk
    rw [List.all_eq_true]
    intro i hi
    obtain ⟨z, w, z1, z2, z3, z4⟩ := hf i (List.mem_range.mp hi)
    rw [Nat.zero_add, z1]
    dsimp only
    rw [ag_up_ne (show z ≠ σ.2.1 + 1 by omega), z4]
    simp only [Bool.and_true, decide_eq_true_eq]
    exact z2
  rw [ag_cpq_at (n0 := l) (n1 := l + 1) (f := f) (g := fun _ => none) h1 (ag_up_a9 _ _ _) (sp := 0) (dp := 0) (n := l) ag_nm_z ag_nm_z eN (by omega) (by omega) hb (by omega) hck]
  have h2 : (ag_up (ag_up σ.1 (σ.2.1 + 1) (Sum.inr (Sum.inr (Sum.inl (l + 1, fun _ => none))))) (σ.2.1 + 1) (Sum.inr (Sum.inr (Sum.inl (l + 1, va_cpy f (fun _ => none) 0 0 l))))) b = some (Sum.inr (Sum.inr (Sum.inl (l, f)))) := (ag_up_ne hne).trans h1
  have ea2 := ag_alq_at (σ := (ag_up (ag_up σ.1 (σ.2.1 + 1) (Sum.inr (Sum.inr (Sum.inl (l + 1, fun _ => none))))) (σ.2.1 + 1) (Sum.inr (Sum.inr (Sum.inl (l + 1, va_cpy f (fun _ => none) 0 0 l)))), (σ.2.1 + 1, σ.2.2 + (l + 1)))) h2
  simp only [ag_i98_17, ag_i98_18, ag_i98_19, ea2, ag_i98_20, ag_i98_21]
  obtain ⟨w, hw⟩ := hq
  have hqs : ∀ (K : ag_S → Prop), ag_qs (ag_up (ag_up σ.1 (σ.2.1 + 1) (Sum.inr (Sum.inr (Sum.inl (l + 1, fun _ => none))))) (σ.2.1 + 1) (Sum.inr (Sum.inr (Sum.inl (l + 1, va_cpy f (fun _ => none) 0 0 l)))), (σ.2.1 + 1, σ.2.2 + (l + 1))) (σ.2.1 + 1) (l : Int) q K = K (ag_n9 σ (Sum.inr (Sum.inr (Sum.inl (l + 1, ag_wth f l q)))) (l + 1)) := by
    intro K
    unfold ag_qs
    dsimp only
    rw [ag_up_a9]
    dsimp only
    rw [ag_up_ne hqne, ag_up_ne hqne, hw]
    dsimp only
    rw [eN, Int.toNat_natCast, ag_up_2, ag_up_2, ag_wth_eq]
    simp only [show (0 ≤ (l : Int) ∧ (l : Int) < ((l + 1 : Nat) : Int) ∧ 1 ≤ σ.2.1 + 1 ∧ 1 ≤ q) = True from by simp; omega, true_and]
    rfl
  rw [hqs]
  simp only [ag_i98_22, ag_i98_23]
theorem ag_h_place {σ : ag_S} {b l p : Nat} {f : Nat → Int} (h : σ.1 b = some (Sum.inl (l, f))) (hl : l ≤ 1000) {x : Int} (hp : p < l) (hx : f p = x) (hno : ∀ i, i < p → ag_nm (f i) ≠ ag_nm x) (K : ag_Rs → ag_S → Prop) :
    ag_cl9 99 [ag_R b, ag_I x] σ K = K (Sum.inl (some (ag_I (p : Int)))) σ := by
  have loop : ∀ (d i : Nat), i + d = p → ag_wp 99 2 [some (ag_R b), some (ag_I x), some (ag_I i)] [] σ K = K (Sum.inl (some (ag_I (p : Int)))) σ := by
    intro d
    induction d with
    | zero =>
      intro i hi
      have hip : i = p := by omega
      subst hip
      rw [ag_i99_2]
      simp only [ag_i99_3, ag_i99_4, ag_i99_5, ag_al_at h, ag_nm_nat (show i ≤ 1000000 by omega), ag_nm_nat (show l ≤ 1000000 by omega)]
      rw [if_neg (by omega)]
      simp only [ag_i99_8, ag_i99_9, ag_i99_10, ag_ia_at h hp (show l ≤ 1000000 by omega), ag_i99_11, ag_i99_12, hx]
      rw [if_neg (by simp)]
      simp only [ag_i99_15, ag_i99_16]
    | succ d ih =>
      intro i hi
      have h1 := hno i (by omega)
      rw [ag_i99_2]
      simp only [ag_i99_3, ag_i99_4, ag_i99_5, ag_al_at h, ag_nm_nat (show i ≤ 1000000 by omega), ag_nm_nat (show l ≤ 1000000 by omega)]
      rw [if_neg (by omega)]
      simp only [ag_i99_8, ag_i99_9, ag_i99_10, ag_ia_at h (show i < l by omega) (show l ≤ 1000000 by omega), ag_i99_11, ag_i99_12]
      rw [if_pos h1]
      simp only [ag_i99_17_n, ag_i99_17_i, ag_i99_17_r, ag_i99_20]
      exact ih (i + 1) (by omega)
  rw [← loop p 0 (by omega)]
  simp only [ag_e99, ag_i99_0, ag_i99_1_n, ag_i99_1_i, ag_i99_1_r, ag_i99_3, ag_i99_4, ag_i99_5, ag_i99_8, ag_i99_9, ag_i99_10, ag_i99_11, ag_i99_12, ag_i99_15, ag_i99_16, ag_i99_17_n, ag_i99_17_i, ag_i99_17_r, ag_i99_20, ag_i99_23, ag_i99_24]
  rfl
