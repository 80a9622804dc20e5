/-! THE REFERENCE's object at a: arrays at the names ρ k (0 text, 1 parent, 2 height, 3 came, 4 row, 5 kind, 6 to, 7 other, 8 state, 9 by, 10 made, 11 tied, 12 signatures, 13 seats, 14 share, 15 spoke, 16 votes), numbers v (0 thrown, 1 clauses, 2 size, 3 amendments, 4 petitions, 5 parties, 6 quorum, 7 minutes) (by program, wip/whole/gen_model.py). -/
def ag_mL (k : Nat) : Nat := if k < 5 then 40 else if k < 11 then 20 else if k < 13 then 12 else if k < 16 then 5 else 100
def ag_mO (ρ : Nat → Nat) (v : Nat → Int) : ag_C := Sum.inr (Sum.inr (Sum.inr (6, [ag_I (v 0), ag_I (v 1), ag_I (v 2), ag_I (v 3), ag_R (ρ 0), ag_R (ρ 1), ag_R (ρ 2), ag_R (ρ 3), ag_R (ρ 4), ag_R (ρ 5), ag_R (ρ 6), ag_R (ρ 7), ag_R (ρ 8), ag_R (ρ 9), ag_R (ρ 10), ag_R (ρ 11), ag_I (v 4), ag_R (ρ 12), ag_I (v 5), ag_I (v 6), ag_R (ρ 13), ag_R (ρ 14), ag_R (ρ 15), ag_R (ρ 16), ag_I (v 7)])))
def ag_mF (ρ : Nat → Nat) (z : Nat) : Option Nat := (List.range 17).find? (fun k => ρ k == z)
def ag_SM (σ : ag_S) (a : Nat) (ρ : Nat → Nat) (g : Nat → Nat → Int) (v : Nat → Int) : ag_S := (fun z => if z = a then some (ag_mO ρ v) else match ag_mF ρ z with
  | some k => some (Sum.inl (ag_mL k, g k))
  | none => σ.1 z, σ.2)
/-- the names are apart, and none is beyond N -/
def ag_mi (a : Nat) (ρ : Nat → Nat) (N : Nat) : Prop := (∀ k, k < 17 → ρ k ≠ a ∧ 1 ≤ ρ k ∧ ρ k ≤ N) ∧ (∀ j k, j < 17 → k < 17 → ρ j = ρ k → j = k) ∧ 1 ≤ a ∧ a ≤ N
theorem ag_mi_le {a : Nat} {ρ : Nat → Nat} {N M : Nat} (h : ag_mi a ρ N) (hl : N ≤ M) : ag_mi a ρ M := ⟨fun k hk => ⟨(h.1 k hk).1, (h.1 k hk).2.1, Nat.le_trans (h.1 k hk).2.2 hl⟩, h.2.1, h.2.2.1, Nat.le_trans h.2.2.2 hl⟩
theorem ag_mF_is {a N : Nat} {ρ : Nat → Nat} (h : ag_mi a ρ N) {k : Nat} (hk : k < 17) : ag_mF ρ (ρ k) = some k := by
  unfold ag_mF
  cases hf : (List.range 17).find? (fun j => ρ j == ρ k) with
  | none =>
    have := List.find?_eq_none.mp hf k (List.mem_range.mpr hk)
    simp at this
  | some j =>
    have h1 := List.find?_some hf
    have h2 := List.mem_of_find?_eq_some hf
    rw [h.2.1 j k (List.mem_range.mp h2) hk (by simpa using h1)]
theorem ag_mF_no {ρ : Nat → Nat} {z : Nat} (h : ∀ k, k < 17 → ρ k ≠ z) : ag_mF ρ z = none := by
  unfold ag_mF
  refine List.find?_eq_none.mpr (fun k hk => ?_)
  have := h k (List.mem_range.mp hk)
  simpa using this
theorem ag_SM_2 (σ : ag_S) (a : Nat) (ρ : Nat → Nat) (g : Nat → Nat → Int) (v : Nat → Int) : (ag_SM σ a ρ g v).2 = σ.2 := rfl
theorem ag_SM_o (σ : ag_S) (a : Nat) (ρ : Nat → Nat) (g : Nat → Nat → Int) (v : Nat → Int) : (ag_SM σ a ρ g v).1 a = some (ag_mO ρ v) := if_pos rfl
theorem ag_SM_r {σ : ag_S} {a N : Nat} {ρ : Nat → Nat} (h : ag_mi a ρ N) (g : Nat → Nat → Int) (v : Nat → Int) {k : Nat} (hk : k < 17) : (ag_SM σ a ρ g v).1 (ρ k) = some (Sum.inl (ag_mL k, g k)) := by
  unfold ag_SM
  dsimp only
  rw [if_neg (h.1 k hk).1, ag_mF_is h hk]
theorem ag_SM_b {σ : ag_S} {a : Nat} {ρ : Nat → Nat} (g : Nat → Nat → Int) (v : Nat → Int) {z : Nat} (ha : z ≠ a) (hz : ∀ k, k < 17 → ρ k ≠ z) : (ag_SM σ a ρ g v).1 z = σ.1 z := by
  unfold ag_SM
  dsimp only
  rw [if_neg ha, ag_mF_no hz]
/-- beyond the names -/
theorem ag_SM_f {σ : ag_S} {a N : Nat} {ρ : Nat → Nat} (h : ag_mi a ρ N) (g : Nat → Nat → Int) (v : Nat → Int) {z : Nat} (hz : N < z) : (ag_SM σ a ρ g v).1 z = σ.1 z :=
  ag_SM_b g v (by have := h.2.2.2; omega) (fun k hk => by have := (h.1 k hk).2.2; omega)
theorem ag_SM_new {σ : ag_S} {a N : Nat} {ρ : Nat → Nat} (h : ag_mi a ρ N) (g : Nat → Nat → Int) (v : Nat → Int) {z : Nat} (hz : N < z) (c : ag_C) (q : Nat × Nat) : ((ag_up (ag_SM σ a ρ g v).1 z c, q) : ag_S) = ag_SM (ag_up σ.1 z c, q) a ρ g v := by
  refine Prod.ext (funext fun y => ?_) rfl
  have e1 : z ≠ a := by have := h.2.2.2; omega
  have e2 : ∀ k, k < 17 → ρ k ≠ z := fun k hk => by have := (h.1 k hk).2.2; omega
  by_cases hy : y = z
  · subst hy
    rw [ag_SM_b g v e1 e2]
    show (if y = y then _ else _) = (if y = y then _ else _)
    rw [if_pos rfl, if_pos rfl]
  · show (if y = z then _ else (ag_SM σ a ρ g v).1 y) = (ag_SM (ag_up σ.1 z c, q) a ρ g v).1 y
    rw [if_neg hy]
    unfold ag_SM ag_up
    dsimp only
    rw [if_neg hy]
def ag_inb (n : Nat) (i : Int) : Prop := 0 ≤ ag_nm i ∧ ag_nm i < n
theorem ag_inb_nat {n i : Nat} (h : i < n) (hn : n ≤ 1000000) : ag_inb n (i : Int) := by
  unfold ag_inb
  rw [ag_nm_nat (by omega)]
  omega
theorem ag_inb_i {n : Nat} {i : Int} (h0 : 0 ≤ i) (h1 : i < n) (hn : n ≤ 1000000) : ag_inb n i := by
  unfold ag_inb
  rw [ag_nm_of (by omega) (by omega)]
  omega
theorem ag_ia_at {σ : ag_S} {z n : Nat} {f : Nat → Int} (h : σ.1 z = some (Sum.inl (n, f))) (i : Int) (K : Int → Prop) : ag_ia σ z i K = (ag_inb n i ∧ K (ag_rd n f i)) := by
  unfold ag_ia ag_inb ag_rd
  rw [h]
  dsimp only
  by_cases q : 0 ≤ ag_nm i ∧ ag_nm i < n
  · rw [if_pos q]
  · exact propext ⟨fun h => absurd h.1 q, fun h => absurd h.1 q⟩
theorem ag_al_at {σ : ag_S} {z n : Nat} {f : Nat → Int} (h : σ.1 z = some (Sum.inl (n, f))) (K : Int → Prop) : ag_al9 σ z K = K n := by
  unfold ag_al9
  rw [h]
theorem ag_is_at {σ : ag_S} {z n : Nat} {f : Nat → Int} (h : σ.1 z = some (Sum.inl (n, f))) (hz : 1 ≤ z) (i x : Int) (K : ag_S → Prop) : ag_is σ z i x K = (ag_inb n i ∧ K (ag_up σ.1 z (Sum.inl (n, ag_wr n f i x)), σ.2)) := by
  unfold ag_is ag_inb ag_wr
  rw [h]
  dsimp only
  by_cases q : 0 ≤ ag_nm i ∧ ag_nm i < n
  · rw [if_pos q]
    exact propext ⟨fun h => ⟨q, h.2⟩, fun h => ⟨⟨q.1, q.2, hz⟩, h.2⟩⟩
  · exact propext ⟨fun h => absurd ⟨h.1.1, h.1.2.1⟩ q, fun h => absurd h.1 q⟩
theorem ag_SM_u {σ : ag_S} {a N : Nat} {ρ : Nat → Nat} (h : ag_mi a ρ N) (g : Nat → Nat → Int) (v : Nat → Int) {k : Nat} (hk : k < 17) (x : Nat → Int) : ((ag_up (ag_SM σ a ρ g v).1 (ρ k) (Sum.inl (ag_mL k, x)), (ag_SM σ a ρ g v).2) : ag_S) = ag_SM σ a ρ (ag_ug g k x) v := by
  refine Prod.ext (funext fun y => ?_) rfl
  show (if y = ρ k then _ else (ag_SM σ a ρ g v).1 y) = (ag_SM σ a ρ (ag_ug g k x) v).1 y
  by_cases hy : y = ρ k
  · rw [if_pos hy, hy, ag_SM_r h _ v hk, ag_ug_same]
  · rw [if_neg hy]
    unfold ag_SM
    dsimp only
    by_cases ha : y = a
    · rw [if_pos ha, if_pos ha]
    · rw [if_neg ha, if_neg ha]
      cases hf : ag_mF ρ y with
      | none => rfl
      | some j =>
        have h1 := List.find?_some hf
        have h1 : ρ j = y := by simpa using h1
        dsimp only
        rw [ag_ug_ne]
        intro q
        rw [q] at h1
        exact hy h1.symm
def ag_mg (gb : Nat → Nat → Int) (r : Nat → Int) (gp : Nat → Nat → Int) (t sg : Nat → Int) (gh : Nat → Nat → Int) : Nat → Nat → Int := fun k => match k with
  | 0 => gb 0 | 1 => gb 1 | 2 => gb 2 | 3 => gb 3 | 4 => r | 5 => gp 0 | 6 => gp 1 | 7 => gp 2 | 8 => gp 3 | 9 => gp 4 | 10 => gp 5 | 11 => t | 12 => sg | 13 => gh 0 | 14 => gh 1 | 15 => gh 2 | 16 => gh 3 | _ => fun _ => 0
def ag_mv (th w n m q np qu mi : Int) : Nat → Int := fun k => match k with
  | 0 => th | 1 => w | 2 => n | 3 => m | 4 => q | 5 => np | 6 => qu | 7 => mi | _ => 0
theorem ag_mv_0 (th w n m q np qu mi : Int) : ag_mv th w n m q np qu mi 0 = th := rfl
theorem ag_mv_u0 (th w n m q np qu mi x : Int) : ag_ui (ag_mv th w n m q np qu mi) 0 x = ag_mv x w n m q np qu mi := by
  funext k
  match k with
  | 0 => rfl
  | 1 => rfl
  | 2 => rfl
  | 3 => rfl
  | 4 => rfl
  | 5 => rfl
  | 6 => rfl
  | 7 => rfl
  | j + 8 => simp [ag_ui, ag_mv]
theorem ag_mv_1 (th w n m q np qu mi : Int) : ag_mv th w n m q np qu mi 1 = w := rfl
theorem ag_mv_u1 (th w n m q np qu mi x : Int) : ag_ui (ag_mv th w n m q np qu mi) 1 x = ag_mv th x n m q np qu mi := by
  funext k
  match k with
  | 0 => rfl
  | 1 => rfl
  | 2 => rfl
  | 3 => rfl
  | 4 => rfl
  | 5 => rfl
  | 6 => rfl
  | 7 => rfl
  | j + 8 => simp [ag_ui, ag_mv]
theorem ag_mv_2 (th w n m q np qu mi : Int) : ag_mv th w n m q np qu mi 2 = n := rfl
theorem ag_mv_u2 (th w n m q np qu mi x : Int) : ag_ui (ag_mv th w n m q np qu mi) 2 x = ag_mv th w x m q np qu mi := by
  funext k
  match k with
  | 0 => rfl
  | 1 => rfl
  | 2 => rfl
  | 3 => rfl
  | 4 => rfl
  | 5 => rfl
  | 6 => rfl
  | 7 => rfl
  | j + 8 => simp [ag_ui, ag_mv]
theorem ag_mv_3 (th w n m q np qu mi : Int) : ag_mv th w n m q np qu mi 3 = m := rfl
theorem ag_mv_u3 (th w n m q np qu mi x : Int) : ag_ui (ag_mv th w n m q np qu mi) 3 x = ag_mv th w n x q np qu mi := by
  funext k
  match k with
  | 0 => rfl
  | 1 => rfl
  | 2 => rfl
  | 3 => rfl
  | 4 => rfl
  | 5 => rfl
  | 6 => rfl
  | 7 => rfl
  | j + 8 => simp [ag_ui, ag_mv]
theorem ag_mv_4 (th w n m q np qu mi : Int) : ag_mv th w n m q np qu mi 4 = q := rfl
theorem ag_mv_u4 (th w n m q np qu mi x : Int) : ag_ui (ag_mv th w n m q np qu mi) 4 x = ag_mv th w n m x np qu mi := by
  funext k
  match k with
  | 0 => rfl
  | 1 => rfl
  | 2 => rfl
  | 3 => rfl
  | 4 => rfl
  | 5 => rfl
  | 6 => rfl
  | 7 => rfl
  | j + 8 => simp [ag_ui, ag_mv]
theorem ag_mv_5 (th w n m q np qu mi : Int) : ag_mv th w n m q np qu mi 5 = np := rfl
theorem ag_mv_u5 (th w n m q np qu mi x : Int) : ag_ui (ag_mv th w n m q np qu mi) 5 x = ag_mv th w n m q x qu mi := by
  funext k
  match k with
  | 0 => rfl
  | 1 => rfl
  | 2 => rfl
  | 3 => rfl
  | 4 => rfl
  | 5 => rfl
  | 6 => rfl
  | 7 => rfl
  | j + 8 => simp [ag_ui, ag_mv]
theorem ag_mv_6 (th w n m q np qu mi : Int) : ag_mv th w n m q np qu mi 6 = qu := rfl
theorem ag_mv_u6 (th w n m q np qu mi x : Int) : ag_ui (ag_mv th w n m q np qu mi) 6 x = ag_mv th w n m q np x mi := by
  funext k
  match k with
  | 0 => rfl
  | 1 => rfl
  | 2 => rfl
  | 3 => rfl
  | 4 => rfl
  | 5 => rfl
  | 6 => rfl
  | 7 => rfl
  | j + 8 => simp [ag_ui, ag_mv]
theorem ag_mv_7 (th w n m q np qu mi : Int) : ag_mv th w n m q np qu mi 7 = mi := rfl
theorem ag_mv_u7 (th w n m q np qu mi x : Int) : ag_ui (ag_mv th w n m q np qu mi) 7 x = ag_mv th w n m q np qu x := by
  funext k
  match k with
  | 0 => rfl
  | 1 => rfl
  | 2 => rfl
  | 3 => rfl
  | 4 => rfl
  | 5 => rfl
  | 6 => rfl
  | 7 => rfl
  | j + 8 => simp [ag_ui, ag_mv]
theorem ag_mg_0 (gb : Nat → Nat → Int) (r : Nat → Int) (gp : Nat → Nat → Int) (t sg : Nat → Int) (gh : Nat → Nat → Int) : ag_mg gb r gp t sg gh 0 = gb 0 := rfl
theorem ag_mg_u0 (gb : Nat → Nat → Int) (r : Nat → Int) (gp : Nat → Nat → Int) (t sg : Nat → Int) (gh : Nat → Nat → Int) (x : Nat → Int) : ag_ug (ag_mg gb r gp t sg gh) 0 x = ag_mg (ag_ug gb 0 x) r gp t sg gh := by
  funext k
  match k with
  | 0 => simp [ag_ug, ag_mg]
  | 1 => simp [ag_ug, ag_mg]
  | 2 => simp [ag_ug, ag_mg]
  | 3 => simp [ag_ug, ag_mg]
  | 4 => simp [ag_ug, ag_mg]
  | 5 => simp [ag_ug, ag_mg]
  | 6 => simp [ag_ug, ag_mg]
  | 7 => simp [ag_ug, ag_mg]
  | 8 => simp [ag_ug, ag_mg]
  | 9 => simp [ag_ug, ag_mg]
  | 10 => simp [ag_ug, ag_mg]
  | 11 => simp [ag_ug, ag_mg]
  | 12 => simp [ag_ug, ag_mg]
  | 13 => simp [ag_ug, ag_mg]
  | 14 => simp [ag_ug, ag_mg]
  | 15 => simp [ag_ug, ag_mg]
  | 16 => simp [ag_ug, ag_mg]
  | j + 17 => simp [ag_ug, ag_mg]
theorem ag_mg_1 (gb : Nat → Nat → Int) (r : Nat → Int) (gp : Nat → Nat → Int) (t sg : Nat → Int) (gh : Nat → Nat → Int) : ag_mg gb r gp t sg gh 1 = gb 1 := rfl
theorem ag_mg_u1 (gb : Nat → Nat → Int) (r : Nat → Int) (gp : Nat → Nat → Int) (t sg : Nat → Int) (gh : Nat → Nat → Int) (x : Nat → Int) : ag_ug (ag_mg gb r gp t sg gh) 1 x = ag_mg (ag_ug gb 1 x) r gp t sg gh := by
  funext k
  match k with
  | 0 => simp [ag_ug, ag_mg]
  | 1 => simp [ag_ug, ag_mg]
  | 2 => simp [ag_ug, ag_mg]
  | 3 => simp [ag_ug, ag_mg]
  | 4 => simp [ag_ug, ag_mg]
  | 5 => simp [ag_ug, ag_mg]
  | 6 => simp [ag_ug, ag_mg]
  | 7 => simp [ag_ug, ag_mg]
  | 8 => simp [ag_ug, ag_mg]
  | 9 => simp [ag_ug, ag_mg]
  | 10 => simp [ag_ug, ag_mg]
  | 11 => simp [ag_ug, ag_mg]
  | 12 => simp [ag_ug, ag_mg]
  | 13 => simp [ag_ug, ag_mg]
  | 14 => simp [ag_ug, ag_mg]
  | 15 => simp [ag_ug, ag_mg]
  | 16 => simp [ag_ug, ag_mg]
  | j + 17 => simp [ag_ug, ag_mg]
theorem ag_mg_2 (gb : Nat → Nat → Int) (r : Nat → Int) (gp : Nat → Nat → Int) (t sg : Nat → Int) (gh : Nat → Nat → Int) : ag_mg gb r gp t sg gh 2 = gb 2 := rfl
theorem ag_mg_u2 (gb : Nat → Nat → Int) (r : Nat → Int) (gp : Nat → Nat → Int) (t sg : Nat → Int) (gh : Nat → Nat → Int) (x : Nat → Int) : ag_ug (ag_mg gb r gp t sg gh) 2 x = ag_mg (ag_ug gb 2 x) r gp t sg gh := by
  funext k
  match k with
  | 0 => simp [ag_ug, ag_mg]
  | 1 => simp [ag_ug, ag_mg]
  | 2 => simp [ag_ug, ag_mg]
  | 3 => simp [ag_ug, ag_mg]
  | 4 => simp [ag_ug, ag_mg]
  | 5 => simp [ag_ug, ag_mg]
  | 6 => simp [ag_ug, ag_mg]
  | 7 => simp [ag_ug, ag_mg]
  | 8 => simp [ag_ug, ag_mg]
  | 9 => simp [ag_ug, ag_mg]
  | 10 => simp [ag_ug, ag_mg]
  | 11 => simp [ag_ug, ag_mg]
  | 12 => simp [ag_ug, ag_mg]
  | 13 => simp [ag_ug, ag_mg]
  | 14 => simp [ag_ug, ag_mg]
  | 15 => simp [ag_ug, ag_mg]
  | 16 => simp [ag_ug, ag_mg]
  | j + 17 => simp [ag_ug, ag_mg]
theorem ag_mg_3 (gb : Nat → Nat → Int) (r : Nat → Int) (gp : Nat → Nat → Int) (t sg : Nat → Int) (gh : Nat → Nat → Int) : ag_mg gb r gp t sg gh 3 = gb 3 := rfl
theorem ag_mg_u3 (gb : Nat → Nat → Int) (r : Nat → Int) (gp : Nat → Nat → Int) (t sg : Nat → Int) (gh : Nat → Nat → Int) (x : Nat → Int) : ag_ug (ag_mg gb r gp t sg gh) 3 x = ag_mg (ag_ug gb 3 x) r gp t sg gh := by
  funext k
  match k with
  | 0 => simp [ag_ug, ag_mg]
  | 1 => simp [ag_ug, ag_mg]
  | 2 => simp [ag_ug, ag_mg]
  | 3 => simp [ag_ug, ag_mg]
  | 4 => simp [ag_ug, ag_mg]
  | 5 => simp [ag_ug, ag_mg]
  | 6 => simp [ag_ug, ag_mg]
  | 7 => simp [ag_ug, ag_mg]
  | 8 => simp [ag_ug, ag_mg]
  | 9 => simp [ag_ug, ag_mg]
  | 10 => simp [ag_ug, ag_mg]
  | 11 => simp [ag_ug, ag_mg]
  | 12 => simp [ag_ug, ag_mg]
  | 13 => simp [ag_ug, ag_mg]
  | 14 => simp [ag_ug, ag_mg]
  | 15 => simp [ag_ug, ag_mg]
  | 16 => simp [ag_ug, ag_mg]
  | j + 17 => simp [ag_ug, ag_mg]
theorem ag_mg_4 (gb : Nat → Nat → Int) (r : Nat → Int) (gp : Nat → Nat → Int) (t sg : Nat → Int) (gh : Nat → Nat → Int) : ag_mg gb r gp t sg gh 4 = r := rfl
theorem ag_mg_u4 (gb : Nat → Nat → Int) (r : Nat → Int) (gp : Nat → Nat → Int) (t sg : Nat → Int) (gh : Nat → Nat → Int) (x : Nat → Int) : ag_ug (ag_mg gb r gp t sg gh) 4 x = ag_mg gb x gp t sg gh := by
  funext k
  match k with
  | 0 => simp [ag_ug, ag_mg]
  | 1 => simp [ag_ug, ag_mg]
  | 2 => simp [ag_ug, ag_mg]
  | 3 => simp [ag_ug, ag_mg]
  | 4 => simp [ag_ug, ag_mg]
  | 5 => simp [ag_ug, ag_mg]
  | 6 => simp [ag_ug, ag_mg]
  | 7 => simp [ag_ug, ag_mg]
  | 8 => simp [ag_ug, ag_mg]
  | 9 => simp [ag_ug, ag_mg]
  | 10 => simp [ag_ug, ag_mg]
  | 11 => simp [ag_ug, ag_mg]
  | 12 => simp [ag_ug, ag_mg]
  | 13 => simp [ag_ug, ag_mg]
  | 14 => simp [ag_ug, ag_mg]
  | 15 => simp [ag_ug, ag_mg]
  | 16 => simp [ag_ug, ag_mg]
  | j + 17 => simp [ag_ug, ag_mg]
theorem ag_mg_5 (gb : Nat → Nat → Int) (r : Nat → Int) (gp : Nat → Nat → Int) (t sg : Nat → Int) (gh : Nat → Nat → Int) : ag_mg gb r gp t sg gh 5 = gp 0 := rfl
theorem ag_mg_u5 (gb : Nat → Nat → Int) (r : Nat → Int) (gp : Nat → Nat → Int) (t sg : Nat → Int) (gh : Nat → Nat → Int) (x : Nat → Int) : ag_ug (ag_mg gb r gp t sg gh) 5 x = ag_mg gb r (ag_ug gp 0 x) t sg gh := by
  funext k
  match k with
  | 0 => simp [ag_ug, ag_mg]
  | 1 => simp [ag_ug, ag_mg]
  | 2 => simp [ag_ug, ag_mg]
  | 3 => simp [ag_ug, ag_mg]
  | 4 => simp [ag_ug, ag_mg]
  | 5 => simp [ag_ug, ag_mg]
  | 6 => simp [ag_ug, ag_mg]
  | 7 => simp [ag_ug, ag_mg]
  | 8 => simp [ag_ug, ag_mg]
  | 9 => simp [ag_ug, ag_mg]
  | 10 => simp [ag_ug, ag_mg]
  | 11 => simp [ag_ug, ag_mg]
  | 12 => simp [ag_ug, ag_mg]
  | 13 => simp [ag_ug, ag_mg]
  | 14 => simp [ag_ug, ag_mg]
  | 15 => simp [ag_ug, ag_mg]
  | 16 => simp [ag_ug, ag_mg]
  | j + 17 => simp [ag_ug, ag_mg]
theorem ag_mg_6 (gb : Nat → Nat → Int) (r : Nat → Int) (gp : Nat → Nat → Int) (t sg : Nat → Int) (gh : Nat → Nat → Int) : ag_mg gb r gp t sg gh 6 = gp 1 := rfl
theorem ag_mg_u6 (gb : Nat → Nat → Int) (r : Nat → Int) (gp : Nat → Nat → Int) (t sg : Nat → Int) (gh : Nat → Nat → Int) (x : Nat → Int) : ag_ug (ag_mg gb r gp t sg gh) 6 x = ag_mg gb r (ag_ug gp 1 x) t sg gh := by
  funext k
  match k with
  | 0 => simp [ag_ug, ag_mg]
  | 1 => simp [ag_ug, ag_mg]
  | 2 => simp [ag_ug, ag_mg]
  | 3 => simp [ag_ug, ag_mg]
  | 4 => simp [ag_ug, ag_mg]
  | 5 => simp [ag_ug, ag_mg]
  | 6 => simp [ag_ug, ag_mg]
  | 7 => simp [ag_ug, ag_mg]
  | 8 => simp [ag_ug, ag_mg]
  | 9 => simp [ag_ug, ag_mg]
  | 10 => simp [ag_ug, ag_mg]
  | 11 => simp [ag_ug, ag_mg]
  | 12 => simp [ag_ug, ag_mg]
  | 13 => simp [ag_ug, ag_mg]
  | 14 => simp [ag_ug, ag_mg]
  | 15 => simp [ag_ug, ag_mg]
  | 16 => simp [ag_ug, ag_mg]
  | j + 17 => simp [ag_ug, ag_mg]
theorem ag_mg_7 (gb : Nat → Nat → Int) (r : Nat → Int) (gp : Nat → Nat → Int) (t sg : Nat → Int) (gh : Nat → Nat → Int) : ag_mg gb r gp t sg gh 7 = gp 2 := rfl
theorem ag_mg_u7 (gb : Nat → Nat → Int) (r : Nat → Int) (gp : Nat → Nat → Int) (t sg : Nat → Int) (gh : Nat → Nat → Int) (x : Nat → Int) : ag_ug (ag_mg gb r gp t sg gh) 7 x = ag_mg gb r (ag_ug gp 2 x) t sg gh := by
  funext k
  match k with
  | 0 => simp [ag_ug, ag_mg]
  | 1 => simp [ag_ug, ag_mg]
  | 2 => simp [ag_ug, ag_mg]
  | 3 => simp [ag_ug, ag_mg]
  | 4 => simp [ag_ug, ag_mg]
  | 5 => simp [ag_ug, ag_mg]
  | 6 => simp [ag_ug, ag_mg]
  | 7 => simp [ag_ug, ag_mg]
  | 8 => simp [ag_ug, ag_mg]
  | 9 => simp [ag_ug, ag_mg]
  | 10 => simp [ag_ug, ag_mg]
  | 11 => simp [ag_ug, ag_mg]
  | 12 => simp [ag_ug, ag_mg]
  | 13 => simp [ag_ug, ag_mg]
  | 14 => simp [ag_ug, ag_mg]
  | 15 => simp [ag_ug, ag_mg]
  | 16 => simp [ag_ug, ag_mg]
  | j + 17 => simp [ag_ug, ag_mg]
theorem ag_mg_8 (gb : Nat → Nat → Int) (r : Nat → Int) (gp : Nat → Nat → Int) (t sg : Nat → Int) (gh : Nat → Nat → Int) : ag_mg gb r gp t sg gh 8 = gp 3 := rfl
theorem ag_mg_u8 (gb : Nat → Nat → Int) (r : Nat → Int) (gp : Nat → Nat → Int) (t sg : Nat → Int) (gh : Nat → Nat → Int) (x : Nat → Int) : ag_ug (ag_mg gb r gp t sg gh) 8 x = ag_mg gb r (ag_ug gp 3 x) t sg gh := by
  funext k
  match k with
  | 0 => simp [ag_ug, ag_mg]
  | 1 => simp [ag_ug, ag_mg]
  | 2 => simp [ag_ug, ag_mg]
  | 3 => simp [ag_ug, ag_mg]
  | 4 => simp [ag_ug, ag_mg]
  | 5 => simp [ag_ug, ag_mg]
  | 6 => simp [ag_ug, ag_mg]
  | 7 => simp [ag_ug, ag_mg]
  | 8 => simp [ag_ug, ag_mg]
  | 9 => simp [ag_ug, ag_mg]
  | 10 => simp [ag_ug, ag_mg]
  | 11 => simp [ag_ug, ag_mg]
  | 12 => simp [ag_ug, ag_mg]
  | 13 => simp [ag_ug, ag_mg]
  | 14 => simp [ag_ug, ag_mg]
  | 15 => simp [ag_ug, ag_mg]
  | 16 => simp [ag_ug, ag_mg]
  | j + 17 => simp [ag_ug, ag_mg]
theorem ag_mg_9 (gb : Nat → Nat → Int) (r : Nat → Int) (gp : Nat → Nat → Int) (t sg : Nat → Int) (gh : Nat → Nat → Int) : ag_mg gb r gp t sg gh 9 = gp 4 := rfl
theorem ag_mg_u9 (gb : Nat → Nat → Int) (r : Nat → Int) (gp : Nat → Nat → Int) (t sg : Nat → Int) (gh : Nat → Nat → Int) (x : Nat → Int) : ag_ug (ag_mg gb r gp t sg gh) 9 x = ag_mg gb r (ag_ug gp 4 x) t sg gh := by
  funext k
  match k with
  | 0 => simp [ag_ug, ag_mg]
  | 1 => simp [ag_ug, ag_mg]
  | 2 => simp [ag_ug, ag_mg]
  | 3 => simp [ag_ug, ag_mg]
  | 4 => simp [ag_ug, ag_mg]
  | 5 => simp [ag_ug, ag_mg]
  | 6 => simp [ag_ug, ag_mg]
  | 7 => simp [ag_ug, ag_mg]
  | 8 => simp [ag_ug, ag_mg]
  | 9 => simp [ag_ug, ag_mg]
  | 10 => simp [ag_ug, ag_mg]
  | 11 => simp [ag_ug, ag_mg]
  | 12 => simp [ag_ug, ag_mg]
  | 13 => simp [ag_ug, ag_mg]
  | 14 => simp [ag_ug, ag_mg]
  | 15 => simp [ag_ug, ag_mg]
  | 16 => simp [ag_ug, ag_mg]
  | j + 17 => simp [ag_ug, ag_mg]
theorem ag_mg_10 (gb : Nat → Nat → Int) (r : Nat → Int) (gp : Nat → Nat → Int) (t sg : Nat → Int) (gh : Nat → Nat → Int) : ag_mg gb r gp t sg gh 10 = gp 5 := rfl
theorem ag_mg_u10 (gb : Nat → Nat → Int) (r : Nat → Int) (gp : Nat → Nat → Int) (t sg : Nat → Int) (gh : Nat → Nat → Int) (x : Nat → Int) : ag_ug (ag_mg gb r gp t sg gh) 10 x = ag_mg gb r (ag_ug gp 5 x) t sg gh := by
  funext k
  match k with
  | 0 => simp [ag_ug, ag_mg]
  | 1 => simp [ag_ug, ag_mg]
  | 2 => simp [ag_ug, ag_mg]
  | 3 => simp [ag_ug, ag_mg]
  | 4 => simp [ag_ug, ag_mg]
  | 5 => simp [ag_ug, ag_mg]
  | 6 => simp [ag_ug, ag_mg]
  | 7 => simp [ag_ug, ag_mg]
  | 8 => simp [ag_ug, ag_mg]
  | 9 => simp [ag_ug, ag_mg]
  | 10 => simp [ag_ug, ag_mg]
  | 11 => simp [ag_ug, ag_mg]
  | 12 => simp [ag_ug, ag_mg]
  | 13 => simp [ag_ug, ag_mg]
  | 14 => simp [ag_ug, ag_mg]
  | 15 => simp [ag_ug, ag_mg]
  | 16 => simp [ag_ug, ag_mg]
  | j + 17 => simp [ag_ug, ag_mg]
theorem ag_mg_11 (gb : Nat → Nat → Int) (r : Nat → Int) (gp : Nat → Nat → Int) (t sg : Nat → Int) (gh : Nat → Nat → Int) : ag_mg gb r gp t sg gh 11 = t := rfl
theorem ag_mg_u11 (gb : Nat → Nat → Int) (r : Nat → Int) (gp : Nat → Nat → Int) (t sg : Nat → Int) (gh : Nat → Nat → Int) (x : Nat → Int) : ag_ug (ag_mg gb r gp t sg gh) 11 x = ag_mg gb r gp x sg gh := by
  funext k
  match k with
  | 0 => simp [ag_ug, ag_mg]
  | 1 => simp [ag_ug, ag_mg]
  | 2 => simp [ag_ug, ag_mg]
  | 3 => simp [ag_ug, ag_mg]
  | 4 => simp [ag_ug, ag_mg]
  | 5 => simp [ag_ug, ag_mg]
  | 6 => simp [ag_ug, ag_mg]
  | 7 => simp [ag_ug, ag_mg]
  | 8 => simp [ag_ug, ag_mg]
  | 9 => simp [ag_ug, ag_mg]
  | 10 => simp [ag_ug, ag_mg]
  | 11 => simp [ag_ug, ag_mg]
  | 12 => simp [ag_ug, ag_mg]
  | 13 => simp [ag_ug, ag_mg]
  | 14 => simp [ag_ug, ag_mg]
  | 15 => simp [ag_ug, ag_mg]
  | 16 => simp [ag_ug, ag_mg]
  | j + 17 => simp [ag_ug, ag_mg]
theorem ag_mg_12 (gb : Nat → Nat → Int) (r : Nat → Int) (gp : Nat → Nat → Int) (t sg : Nat → Int) (gh : Nat → Nat → Int) : ag_mg gb r gp t sg gh 12 = sg := rfl
theorem ag_mg_u12 (gb : Nat → Nat → Int) (r : Nat → Int) (gp : Nat → Nat → Int) (t sg : Nat → Int) (gh : Nat → Nat → Int) (x : Nat → Int) : ag_ug (ag_mg gb r gp t sg gh) 12 x = ag_mg gb r gp t x gh := by
  funext k
  match k with
  | 0 => simp [ag_ug, ag_mg]
  | 1 => simp [ag_ug, ag_mg]
  | 2 => simp [ag_ug, ag_mg]
  | 3 => simp [ag_ug, ag_mg]
  | 4 => simp [ag_ug, ag_mg]
  | 5 => simp [ag_ug, ag_mg]
  | 6 => simp [ag_ug, ag_mg]
  | 7 => simp [ag_ug, ag_mg]
  | 8 => simp [ag_ug, ag_mg]
  | 9 => simp [ag_ug, ag_mg]
  | 10 => simp [ag_ug, ag_mg]
  | 11 => simp [ag_ug, ag_mg]
  | 12 => simp [ag_ug, ag_mg]
  | 13 => simp [ag_ug, ag_mg]
  | 14 => simp [ag_ug, ag_mg]
  | 15 => simp [ag_ug, ag_mg]
  | 16 => simp [ag_ug, ag_mg]
  | j + 17 => simp [ag_ug, ag_mg]
theorem ag_mg_13 (gb : Nat → Nat → Int) (r : Nat → Int) (gp : Nat → Nat → Int) (t sg : Nat → Int) (gh : Nat → Nat → Int) : ag_mg gb r gp t sg gh 13 = gh 0 := rfl
theorem ag_mg_u13 (gb : Nat → Nat → Int) (r : Nat → Int) (gp : Nat → Nat → Int) (t sg : Nat → Int) (gh : Nat → Nat → Int) (x : Nat → Int) : ag_ug (ag_mg gb r gp t sg gh) 13 x = ag_mg gb r gp t sg (ag_ug gh 0 x) := by
  funext k
  match k with
  | 0 => simp [ag_ug, ag_mg]
  | 1 => simp [ag_ug, ag_mg]
  | 2 => simp [ag_ug, ag_mg]
  | 3 => simp [ag_ug, ag_mg]
  | 4 => simp [ag_ug, ag_mg]
  | 5 => simp [ag_ug, ag_mg]
  | 6 => simp [ag_ug, ag_mg]
  | 7 => simp [ag_ug, ag_mg]
  | 8 => simp [ag_ug, ag_mg]
  | 9 => simp [ag_ug, ag_mg]
  | 10 => simp [ag_ug, ag_mg]
  | 11 => simp [ag_ug, ag_mg]
  | 12 => simp [ag_ug, ag_mg]
  | 13 => simp [ag_ug, ag_mg]
  | 14 => simp [ag_ug, ag_mg]
  | 15 => simp [ag_ug, ag_mg]
  | 16 => simp [ag_ug, ag_mg]
  | j + 17 => simp [ag_ug, ag_mg]
theorem ag_mg_14 (gb : Nat → Nat → Int) (r : Nat → Int) (gp : Nat → Nat → Int) (t sg : Nat → Int) (gh : Nat → Nat → Int) : ag_mg gb r gp t sg gh 14 = gh 1 := rfl
theorem ag_mg_u14 (gb : Nat → Nat → Int) (r : Nat → Int) (gp : Nat → Nat → Int) (t sg : Nat → Int) (gh : Nat → Nat → Int) (x : Nat → Int) : ag_ug (ag_mg gb r gp t sg gh) 14 x = ag_mg gb r gp t sg (ag_ug gh 1 x) := by
  funext k
  match k with
  | 0 => simp [ag_ug, ag_mg]
  | 1 => simp [ag_ug, ag_mg]
  | 2 => simp [ag_ug, ag_mg]
  | 3 => simp [ag_ug, ag_mg]
  | 4 => simp [ag_ug, ag_mg]
  | 5 => simp [ag_ug, ag_mg]
  | 6 => simp [ag_ug, ag_mg]
  | 7 => simp [ag_ug, ag_mg]
  | 8 => simp [ag_ug, ag_mg]
  | 9 => simp [ag_ug, ag_mg]
  | 10 => simp [ag_ug, ag_mg]
  | 11 => simp [ag_ug, ag_mg]
  | 12 => simp [ag_ug, ag_mg]
  | 13 => simp [ag_ug, ag_mg]
  | 14 => simp [ag_ug, ag_mg]
  | 15 => simp [ag_ug, ag_mg]
  | 16 => simp [ag_ug, ag_mg]
  | j + 17 => simp [ag_ug, ag_mg]
theorem ag_mg_15 (gb : Nat → Nat → Int) (r : Nat → Int) (gp : Nat → Nat → Int) (t sg : Nat → Int) (gh : Nat → Nat → Int) : ag_mg gb r gp t sg gh 15 = gh 2 := rfl
theorem ag_mg_u15 (gb : Nat → Nat → Int) (r : Nat → Int) (gp : Nat → Nat → Int) (t sg : Nat → Int) (gh : Nat → Nat → Int) (x : Nat → Int) : ag_ug (ag_mg gb r gp t sg gh) 15 x = ag_mg gb r gp t sg (ag_ug gh 2 x) := by
  funext k
  match k with
  | 0 => simp [ag_ug, ag_mg]
  | 1 => simp [ag_ug, ag_mg]
  | 2 => simp [ag_ug, ag_mg]
  | 3 => simp [ag_ug, ag_mg]
  | 4 => simp [ag_ug, ag_mg]
  | 5 => simp [ag_ug, ag_mg]
  | 6 => simp [ag_ug, ag_mg]
  | 7 => simp [ag_ug, ag_mg]
  | 8 => simp [ag_ug, ag_mg]
  | 9 => simp [ag_ug, ag_mg]
  | 10 => simp [ag_ug, ag_mg]
  | 11 => simp [ag_ug, ag_mg]
  | 12 => simp [ag_ug, ag_mg]
  | 13 => simp [ag_ug, ag_mg]
  | 14 => simp [ag_ug, ag_mg]
  | 15 => simp [ag_ug, ag_mg]
  | 16 => simp [ag_ug, ag_mg]
  | j + 17 => simp [ag_ug, ag_mg]
theorem ag_mg_16 (gb : Nat → Nat → Int) (r : Nat → Int) (gp : Nat → Nat → Int) (t sg : Nat → Int) (gh : Nat → Nat → Int) : ag_mg gb r gp t sg gh 16 = gh 3 := rfl
theorem ag_mg_u16 (gb : Nat → Nat → Int) (r : Nat → Int) (gp : Nat → Nat → Int) (t sg : Nat → Int) (gh : Nat → Nat → Int) (x : Nat → Int) : ag_ug (ag_mg gb r gp t sg gh) 16 x = ag_mg gb r gp t sg (ag_ug gh 3 x) := by
  funext k
  match k with
  | 0 => simp [ag_ug, ag_mg]
  | 1 => simp [ag_ug, ag_mg]
  | 2 => simp [ag_ug, ag_mg]
  | 3 => simp [ag_ug, ag_mg]
  | 4 => simp [ag_ug, ag_mg]
  | 5 => simp [ag_ug, ag_mg]
  | 6 => simp [ag_ug, ag_mg]
  | 7 => simp [ag_ug, ag_mg]
  | 8 => simp [ag_ug, ag_mg]
  | 9 => simp [ag_ug, ag_mg]
  | 10 => simp [ag_ug, ag_mg]
  | 11 => simp [ag_ug, ag_mg]
  | 12 => simp [ag_ug, ag_mg]
  | 13 => simp [ag_ug, ag_mg]
  | 14 => simp [ag_ug, ag_mg]
  | 15 => simp [ag_ug, ag_mg]
  | 16 => simp [ag_ug, ag_mg]
  | j + 17 => simp [ag_ug, ag_mg]
theorem ag_M_g0 {σ : ag_S} {a : Nat} {ρ : Nat → Nat} (g : Nat → Nat → Int) (v : Nat → Int) (K : ag_V → Prop) : ag_gf (ag_SM σ a ρ g v) a 6 0 K = K (ag_I (v 0)) := ag_gf_at (ag_SM_o σ a ρ g v) rfl K
theorem ag_M_p0 {σ : ag_S} {a N : Nat} {ρ : Nat → Nat} (h : ag_mi a ρ N) (g : Nat → Nat → Int) (v : Nat → Int) (x : Int) (K : ag_S → Prop) : ag_pf (ag_SM σ a ρ g v) a 6 0 (ag_I x) K = K (ag_SM σ a ρ g (ag_ui v 0 x)) := by
  have e : (ag_up (ag_SM σ a ρ g v).1 a (Sum.inr (Sum.inr (Sum.inr (6, ([ag_I (v 0), ag_I (v 1), ag_I (v 2), ag_I (v 3), ag_R (ρ 0), ag_R (ρ 1), ag_R (ρ 2), ag_R (ρ 3), ag_R (ρ 4), ag_R (ρ 5), ag_R (ρ 6), ag_R (ρ 7), ag_R (ρ 8), ag_R (ρ 9), ag_R (ρ 10), ag_R (ρ 11), ag_I (v 4), ag_R (ρ 12), ag_I (v 5), ag_I (v 6), ag_R (ρ 13), ag_R (ρ 14), ag_R (ρ 15), ag_R (ρ 16), ag_I (v 7)] : List ag_V).set 0 (ag_I x))))), (ag_SM σ a ρ g v).2) = ag_SM σ a ρ g (ag_ui v 0 x) := by
    refine Prod.ext (funext fun z => ?_) rfl
    unfold ag_up ag_SM
    dsimp only
    by_cases hz : z = a
    · rw [if_pos hz, if_pos hz]
      simp [ag_ui, ag_mO]
    · rw [if_neg hz, if_neg hz, if_neg hz]
  unfold ag_pf
  rw [ag_SM_o, ← e]
  unfold ag_mO
  have h1 := h.2.2.1
  simp [h1]
theorem ag_M_g1 {σ : ag_S} {a : Nat} {ρ : Nat → Nat} (g : Nat → Nat → Int) (v : Nat → Int) (K : ag_V → Prop) : ag_gf (ag_SM σ a ρ g v) a 6 1 K = K (ag_I (v 1)) := ag_gf_at (ag_SM_o σ a ρ g v) rfl K
theorem ag_M_p1 {σ : ag_S} {a N : Nat} {ρ : Nat → Nat} (h : ag_mi a ρ N) (g : Nat → Nat → Int) (v : Nat → Int) (x : Int) (K : ag_S → Prop) : ag_pf (ag_SM σ a ρ g v) a 6 1 (ag_I x) K = K (ag_SM σ a ρ g (ag_ui v 1 x)) := by
  have e : (ag_up (ag_SM σ a ρ g v).1 a (Sum.inr (Sum.inr (Sum.inr (6, ([ag_I (v 0), ag_I (v 1), ag_I (v 2), ag_I (v 3), ag_R (ρ 0), ag_R (ρ 1), ag_R (ρ 2), ag_R (ρ 3), ag_R (ρ 4), ag_R (ρ 5), ag_R (ρ 6), ag_R (ρ 7), ag_R (ρ 8), ag_R (ρ 9), ag_R (ρ 10), ag_R (ρ 11), ag_I (v 4), ag_R (ρ 12), ag_I (v 5), ag_I (v 6), ag_R (ρ 13), ag_R (ρ 14), ag_R (ρ 15), ag_R (ρ 16), ag_I (v 7)] : List ag_V).set 1 (ag_I x))))), (ag_SM σ a ρ g v).2) = ag_SM σ a ρ g (ag_ui v 1 x) := by
    refine Prod.ext (funext fun z => ?_) rfl
    unfold ag_up ag_SM
    dsimp only
    by_cases hz : z = a
    · rw [if_pos hz, if_pos hz]
      simp [ag_ui, ag_mO]
    · rw [if_neg hz, if_neg hz, if_neg hz]
  unfold ag_pf
  rw [ag_SM_o, ← e]
  unfold ag_mO
  have h1 := h.2.2.1
  simp [h1]
theorem ag_M_g2 {σ : ag_S} {a : Nat} {ρ : Nat → Nat} (g : Nat → Nat → Int) (v : Nat → Int) (K : ag_V → Prop) : ag_gf (ag_SM σ a ρ g v) a 6 2 K = K (ag_I (v 2)) := ag_gf_at (ag_SM_o σ a ρ g v) rfl K
theorem ag_M_p2 {σ : ag_S} {a N : Nat} {ρ : Nat → Nat} (h : ag_mi a ρ N) (g : Nat → Nat → Int) (v : Nat → Int) (x : Int) (K : ag_S → Prop) : ag_pf (ag_SM σ a ρ g v) a 6 2 (ag_I x) K = K (ag_SM σ a ρ g (ag_ui v 2 x)) := by
  have e : (ag_up (ag_SM σ a ρ g v).1 a (Sum.inr (Sum.inr (Sum.inr (6, ([ag_I (v 0), ag_I (v 1), ag_I (v 2), ag_I (v 3), ag_R (ρ 0), ag_R (ρ 1), ag_R (ρ 2), ag_R (ρ 3), ag_R (ρ 4), ag_R (ρ 5), ag_R (ρ 6), ag_R (ρ 7), ag_R (ρ 8), ag_R (ρ 9), ag_R (ρ 10), ag_R (ρ 11), ag_I (v 4), ag_R (ρ 12), ag_I (v 5), ag_I (v 6), ag_R (ρ 13), ag_R (ρ 14), ag_R (ρ 15), ag_R (ρ 16), ag_I (v 7)] : List ag_V).set 2 (ag_I x))))), (ag_SM σ a ρ g v).2) = ag_SM σ a ρ g (ag_ui v 2 x) := by
    refine Prod.ext (funext fun z => ?_) rfl
    unfold ag_up ag_SM
    dsimp only
    by_cases hz : z = a
    · rw [if_pos hz, if_pos hz]
      simp [ag_ui, ag_mO]
    · rw [if_neg hz, if_neg hz, if_neg hz]
  unfold ag_pf
  rw [ag_SM_o, ← e]
  unfold ag_mO
  have h1 := h.2.2.1
  simp [h1]
theorem ag_M_g3 {σ : ag_S} {a : Nat} {ρ : Nat → Nat} (g : Nat → Nat → Int) (v : Nat → Int) (K : ag_V → Prop) : ag_gf (ag_SM σ a ρ g v) a 6 3 K = K (ag_I (v 3)) := ag_gf_at (ag_SM_o σ a ρ g v) rfl K
theorem ag_M_p3 {σ : ag_S} {a N : Nat} {ρ : Nat → Nat} (h : ag_mi a ρ N) (g : Nat → Nat → Int) (v : Nat → Int) (x : Int) (K : ag_S → Prop) : ag_pf (ag_SM σ a ρ g v) a 6 3 (ag_I x) K = K (ag_SM σ a ρ g (ag_ui v 3 x)) := by
  have e : (ag_up (ag_SM σ a ρ g v).1 a (Sum.inr (Sum.inr (Sum.inr (6, ([ag_I (v 0), ag_I (v 1), ag_I (v 2), ag_I (v 3), ag_R (ρ 0), ag_R (ρ 1), ag_R (ρ 2), ag_R (ρ 3), ag_R (ρ 4), ag_R (ρ 5), ag_R (ρ 6), ag_R (ρ 7), ag_R (ρ 8), ag_R (ρ 9), ag_R (ρ 10), ag_R (ρ 11), ag_I (v 4), ag_R (ρ 12), ag_I (v 5), ag_I (v 6), ag_R (ρ 13), ag_R (ρ 14), ag_R (ρ 15), ag_R (ρ 16), ag_I (v 7)] : List ag_V).set 3 (ag_I x))))), (ag_SM σ a ρ g v).2) = ag_SM σ a ρ g (ag_ui v 3 x) := by
    refine Prod.ext (funext fun z => ?_) rfl
    unfold ag_up ag_SM
    dsimp only
    by_cases hz : z = a
    · rw [if_pos hz, if_pos hz]
      simp [ag_ui, ag_mO]
    · rw [if_neg hz, if_neg hz, if_neg hz]
  unfold ag_pf
  rw [ag_SM_o, ← e]
  unfold ag_mO
  have h1 := h.2.2.1
  simp [h1]
theorem ag_M_g4 {σ : ag_S} {a : Nat} {ρ : Nat → Nat} (g : Nat → Nat → Int) (v : Nat → Int) (K : ag_V → Prop) : ag_gf (ag_SM σ a ρ g v) a 6 4 K = K (ag_R (ρ 0)) := ag_gf_at (ag_SM_o σ a ρ g v) rfl K
theorem ag_M_g5 {σ : ag_S} {a : Nat} {ρ : Nat → Nat} (g : Nat → Nat → Int) (v : Nat → Int) (K : ag_V → Prop) : ag_gf (ag_SM σ a ρ g v) a 6 5 K = K (ag_R (ρ 1)) := ag_gf_at (ag_SM_o σ a ρ g v) rfl K
theorem ag_M_g6 {σ : ag_S} {a : Nat} {ρ : Nat → Nat} (g : Nat → Nat → Int) (v : Nat → Int) (K : ag_V → Prop) : ag_gf (ag_SM σ a ρ g v) a 6 6 K = K (ag_R (ρ 2)) := ag_gf_at (ag_SM_o σ a ρ g v) rfl K
theorem ag_M_g7 {σ : ag_S} {a : Nat} {ρ : Nat → Nat} (g : Nat → Nat → Int) (v : Nat → Int) (K : ag_V → Prop) : ag_gf (ag_SM σ a ρ g v) a 6 7 K = K (ag_R (ρ 3)) := ag_gf_at (ag_SM_o σ a ρ g v) rfl K
theorem ag_M_g8 {σ : ag_S} {a : Nat} {ρ : Nat → Nat} (g : Nat → Nat → Int) (v : Nat → Int) (K : ag_V → Prop) : ag_gf (ag_SM σ a ρ g v) a 6 8 K = K (ag_R (ρ 4)) := ag_gf_at (ag_SM_o σ a ρ g v) rfl K
theorem ag_M_g9 {σ : ag_S} {a : Nat} {ρ : Nat → Nat} (g : Nat → Nat → Int) (v : Nat → Int) (K : ag_V → Prop) : ag_gf (ag_SM σ a ρ g v) a 6 9 K = K (ag_R (ρ 5)) := ag_gf_at (ag_SM_o σ a ρ g v) rfl K
theorem ag_M_g10 {σ : ag_S} {a : Nat} {ρ : Nat → Nat} (g : Nat → Nat → Int) (v : Nat → Int) (K : ag_V → Prop) : ag_gf (ag_SM σ a ρ g v) a 6 10 K = K (ag_R (ρ 6)) := ag_gf_at (ag_SM_o σ a ρ g v) rfl K
theorem ag_M_g11 {σ : ag_S} {a : Nat} {ρ : Nat → Nat} (g : Nat → Nat → Int) (v : Nat → Int) (K : ag_V → Prop) : ag_gf (ag_SM σ a ρ g v) a 6 11 K = K (ag_R (ρ 7)) := ag_gf_at (ag_SM_o σ a ρ g v) rfl K
theorem ag_M_g12 {σ : ag_S} {a : Nat} {ρ : Nat → Nat} (g : Nat → Nat → Int) (v : Nat → Int) (K : ag_V → Prop) : ag_gf (ag_SM σ a ρ g v) a 6 12 K = K (ag_R (ρ 8)) := ag_gf_at (ag_SM_o σ a ρ g v) rfl K
theorem ag_M_g13 {σ : ag_S} {a : Nat} {ρ : Nat → Nat} (g : Nat → Nat → Int) (v : Nat → Int) (K : ag_V → Prop) : ag_gf (ag_SM σ a ρ g v) a 6 13 K = K (ag_R (ρ 9)) := ag_gf_at (ag_SM_o σ a ρ g v) rfl K
theorem ag_M_g14 {σ : ag_S} {a : Nat} {ρ : Nat → Nat} (g : Nat → Nat → Int) (v : Nat → Int) (K : ag_V → Prop) : ag_gf (ag_SM σ a ρ g v) a 6 14 K = K (ag_R (ρ 10)) := ag_gf_at (ag_SM_o σ a ρ g v) rfl K
theorem ag_M_g15 {σ : ag_S} {a : Nat} {ρ : Nat → Nat} (g : Nat → Nat → Int) (v : Nat → Int) (K : ag_V → Prop) : ag_gf (ag_SM σ a ρ g v) a 6 15 K = K (ag_R (ρ 11)) := ag_gf_at (ag_SM_o σ a ρ g v) rfl K
theorem ag_M_g16 {σ : ag_S} {a : Nat} {ρ : Nat → Nat} (g : Nat → Nat → Int) (v : Nat → Int) (K : ag_V → Prop) : ag_gf (ag_SM σ a ρ g v) a 6 16 K = K (ag_I (v 4)) := ag_gf_at (ag_SM_o σ a ρ g v) rfl K
theorem ag_M_p16 {σ : ag_S} {a N : Nat} {ρ : Nat → Nat} (h : ag_mi a ρ N) (g : Nat → Nat → Int) (v : Nat → Int) (x : Int) (K : ag_S → Prop) : ag_pf (ag_SM σ a ρ g v) a 6 16 (ag_I x) K = K (ag_SM σ a ρ g (ag_ui v 4 x)) := by
  have e : (ag_up (ag_SM σ a ρ g v).1 a (Sum.inr (Sum.inr (Sum.inr (6, ([ag_I (v 0), ag_I (v 1), ag_I (v 2), ag_I (v 3), ag_R (ρ 0), ag_R (ρ 1), ag_R (ρ 2), ag_R (ρ 3), ag_R (ρ 4), ag_R (ρ 5), ag_R (ρ 6), ag_R (ρ 7), ag_R (ρ 8), ag_R (ρ 9), ag_R (ρ 10), ag_R (ρ 11), ag_I (v 4), ag_R (ρ 12), ag_I (v 5), ag_I (v 6), ag_R (ρ 13), ag_R (ρ 14), ag_R (ρ 15), ag_R (ρ 16), ag_I (v 7)] : List ag_V).set 16 (ag_I x))))), (ag_SM σ a ρ g v).2) = ag_SM σ a ρ g (ag_ui v 4 x) := by
    refine Prod.ext (funext fun z => ?_) rfl
    unfold ag_up ag_SM
    dsimp only
    by_cases hz : z = a
    · rw [if_pos hz, if_pos hz]
      simp [ag_ui, ag_mO]
    · rw [if_neg hz, if_neg hz, if_neg hz]
  unfold ag_pf
  rw [ag_SM_o, ← e]
  unfold ag_mO
  have h1 := h.2.2.1
  simp [h1]
theorem ag_M_g17 {σ : ag_S} {a : Nat} {ρ : Nat → Nat} (g : Nat → Nat → Int) (v : Nat → Int) (K : ag_V → Prop) : ag_gf (ag_SM σ a ρ g v) a 6 17 K = K (ag_R (ρ 12)) := ag_gf_at (ag_SM_o σ a ρ g v) rfl K
theorem ag_M_g18 {σ : ag_S} {a : Nat} {ρ : Nat → Nat} (g : Nat → Nat → Int) (v : Nat → Int) (K : ag_V → Prop) : ag_gf (ag_SM σ a ρ g v) a 6 18 K = K (ag_I (v 5)) := ag_gf_at (ag_SM_o σ a ρ g v) rfl K
theorem ag_M_p18 {σ : ag_S} {a N : Nat} {ρ : Nat → Nat} (h : ag_mi a ρ N) (g : Nat → Nat → Int) (v : Nat → Int) (x : Int) (K : ag_S → Prop) : ag_pf (ag_SM σ a ρ g v) a 6 18 (ag_I x) K = K (ag_SM σ a ρ g (ag_ui v 5 x)) := by
  have e : (ag_up (ag_SM σ a ρ g v).1 a (Sum.inr (Sum.inr (Sum.inr (6, ([ag_I (v 0), ag_I (v 1), ag_I (v 2), ag_I (v 3), ag_R (ρ 0), ag_R (ρ 1), ag_R (ρ 2), ag_R (ρ 3), ag_R (ρ 4), ag_R (ρ 5), ag_R (ρ 6), ag_R (ρ 7), ag_R (ρ 8), ag_R (ρ 9), ag_R (ρ 10), ag_R (ρ 11), ag_I (v 4), ag_R (ρ 12), ag_I (v 5), ag_I (v 6), ag_R (ρ 13), ag_R (ρ 14), ag_R (ρ 15), ag_R (ρ 16), ag_I (v 7)] : List ag_V).set 18 (ag_I x))))), (ag_SM σ a ρ g v).2) = ag_SM σ a ρ g (ag_ui v 5 x) := by
    refine Prod.ext (funext fun z => ?_) rfl
    unfold ag_up ag_SM
    dsimp only
    by_cases hz : z = a
    · rw [if_pos hz, if_pos hz]
      simp [ag_ui, ag_mO]
    · rw [if_neg hz, if_neg hz, if_neg hz]
  unfold ag_pf
  rw [ag_SM_o, ← e]
  unfold ag_mO
  have h1 := h.2.2.1
  simp [h1]
theorem ag_M_g19 {σ : ag_S} {a : Nat} {ρ : Nat → Nat} (g : Nat → Nat → Int) (v : Nat → Int) (K : ag_V → Prop) : ag_gf (ag_SM σ a ρ g v) a 6 19 K = K (ag_I (v 6)) := ag_gf_at (ag_SM_o σ a ρ g v) rfl K
theorem ag_M_p19 {σ : ag_S} {a N : Nat} {ρ : Nat → Nat} (h : ag_mi a ρ N) (g : Nat → Nat → Int) (v : Nat → Int) (x : Int) (K : ag_S → Prop) : ag_pf (ag_SM σ a ρ g v) a 6 19 (ag_I x) K = K (ag_SM σ a ρ g (ag_ui v 6 x)) := by
  have e : (ag_up (ag_SM σ a ρ g v).1 a (Sum.inr (Sum.inr (Sum.inr (6, ([ag_I (v 0), ag_I (v 1), ag_I (v 2), ag_I (v 3), ag_R (ρ 0), ag_R (ρ 1), ag_R (ρ 2), ag_R (ρ 3), ag_R (ρ 4), ag_R (ρ 5), ag_R (ρ 6), ag_R (ρ 7), ag_R (ρ 8), ag_R (ρ 9), ag_R (ρ 10), ag_R (ρ 11), ag_I (v 4), ag_R (ρ 12), ag_I (v 5), ag_I (v 6), ag_R (ρ 13), ag_R (ρ 14), ag_R (ρ 15), ag_R (ρ 16), ag_I (v 7)] : List ag_V).set 19 (ag_I x))))), (ag_SM σ a ρ g v).2) = ag_SM σ a ρ g (ag_ui v 6 x) := by
    refine Prod.ext (funext fun z => ?_) rfl
    unfold ag_up ag_SM
    dsimp only
    by_cases hz : z = a
    · rw [if_pos hz, if_pos hz]
      simp [ag_ui, ag_mO]
    · rw [if_neg hz, if_neg hz, if_neg hz]
  unfold ag_pf
  rw [ag_SM_o, ← e]
  unfold ag_mO
  have h1 := h.2.2.1
  simp [h1]
theorem ag_M_g20 {σ : ag_S} {a : Nat} {ρ : Nat → Nat} (g : Nat → Nat → Int) (v : Nat → Int) (K : ag_V → Prop) : ag_gf (ag_SM σ a ρ g v) a 6 20 K = K (ag_R (ρ 13)) := ag_gf_at (ag_SM_o σ a ρ g v) rfl K
theorem ag_M_g21 {σ : ag_S} {a : Nat} {ρ : Nat → Nat} (g : Nat → Nat → Int) (v : Nat → Int) (K : ag_V → Prop) : ag_gf (ag_SM σ a ρ g v) a 6 21 K = K (ag_R (ρ 14)) := ag_gf_at (ag_SM_o σ a ρ g v) rfl K
theorem ag_M_g22 {σ : ag_S} {a : Nat} {ρ : Nat → Nat} (g : Nat → Nat → Int) (v : Nat → Int) (K : ag_V → Prop) : ag_gf (ag_SM σ a ρ g v) a 6 22 K = K (ag_R (ρ 15)) := ag_gf_at (ag_SM_o σ a ρ g v) rfl K
theorem ag_M_g23 {σ : ag_S} {a : Nat} {ρ : Nat → Nat} (g : Nat → Nat → Int) (v : Nat → Int) (K : ag_V → Prop) : ag_gf (ag_SM σ a ρ g v) a 6 23 K = K (ag_R (ρ 16)) := ag_gf_at (ag_SM_o σ a ρ g v) rfl K
theorem ag_M_g24 {σ : ag_S} {a : Nat} {ρ : Nat → Nat} (g : Nat → Nat → Int) (v : Nat → Int) (K : ag_V → Prop) : ag_gf (ag_SM σ a ρ g v) a 6 24 K = K (ag_I (v 7)) := ag_gf_at (ag_SM_o σ a ρ g v) rfl K
theorem ag_M_p24 {σ : ag_S} {a N : Nat} {ρ : Nat → Nat} (h : ag_mi a ρ N) (g : Nat → Nat → Int) (v : Nat → Int) (x : Int) (K : ag_S → Prop) : ag_pf (ag_SM σ a ρ g v) a 6 24 (ag_I x) K = K (ag_SM σ a ρ g (ag_ui v 7 x)) := by
  have e : (ag_up (ag_SM σ a ρ g v).1 a (Sum.inr (Sum.inr (Sum.inr (6, ([ag_I (v 0), ag_I (v 1), ag_I (v 2), ag_I (v 3), ag_R (ρ 0), ag_R (ρ 1), ag_R (ρ 2), ag_R (ρ 3), ag_R (ρ 4), ag_R (ρ 5), ag_R (ρ 6), ag_R (ρ 7), ag_R (ρ 8), ag_R (ρ 9), ag_R (ρ 10), ag_R (ρ 11), ag_I (v 4), ag_R (ρ 12), ag_I (v 5), ag_I (v 6), ag_R (ρ 13), ag_R (ρ 14), ag_R (ρ 15), ag_R (ρ 16), ag_I (v 7)] : List ag_V).set 24 (ag_I x))))), (ag_SM σ a ρ g v).2) = ag_SM σ a ρ g (ag_ui v 7 x) := by
    refine Prod.ext (funext fun z => ?_) rfl
    unfold ag_up ag_SM
    dsimp only
    by_cases hz : z = a
    · rw [if_pos hz, if_pos hz]
      simp [ag_ui, ag_mO]
    · rw [if_neg hz, if_neg hz, if_neg hz]
  unfold ag_pf
  rw [ag_SM_o, ← e]
  unfold ag_mO
  have h1 := h.2.2.1
  simp [h1]
theorem ag_M_ck (σ : ag_S) (a : Nat) (ρ : Nat → Nat) (g : Nat → Nat → Int) (v : Nat → Int) (P : Prop) : ag_ck (ag_SM σ a ρ g v) a 6 P = P := ag_ck_at (ag_SM_o σ a ρ g v) P
theorem ag_M_ia0 {σ : ag_S} {a N : Nat} {ρ : Nat → Nat} (h : ag_mi a ρ N) (g : Nat → Nat → Int) (v : Nat → Int) (i : Int) (K : Int → Prop) : ag_ia (ag_SM σ a ρ g v) (ρ 0) i K = (ag_inb 40 i ∧ K (ag_rd 40 (g 0) i)) := ag_ia_at (ag_SM_r h g v (by decide)) i K
theorem ag_M_is0 {σ : ag_S} {a N : Nat} {ρ : Nat → Nat} (h : ag_mi a ρ N) (g : Nat → Nat → Int) (v : Nat → Int) (i x : Int) (K : ag_S → Prop) : ag_is (ag_SM σ a ρ g v) (ρ 0) i x K = (ag_inb 40 i ∧ K (ag_SM σ a ρ (ag_ug g 0 (ag_wr 40 (g 0) i x)) v)) := by
  rw [ag_is_at (ag_SM_r h g v (show 0 < 17 by decide)) (h.1 0 (by decide)).2.1 i x K]
  have e : ag_mL 0 = 40 := by decide
  rw [ag_SM_u h g v (by decide), e]
theorem ag_M_al0 {σ : ag_S} {a N : Nat} {ρ : Nat → Nat} (h : ag_mi a ρ N) (g : Nat → Nat → Int) (v : Nat → Int) (K : Int → Prop) : ag_al9 (ag_SM σ a ρ g v) (ρ 0) K = K 40 := ag_al_at (ag_SM_r h g v (by decide)) K
theorem ag_M_ia1 {σ : ag_S} {a N : Nat} {ρ : Nat → Nat} (h : ag_mi a ρ N) (g : Nat → Nat → Int) (v : Nat → Int) (i : Int) (K : Int → Prop) : ag_ia (ag_SM σ a ρ g v) (ρ 1) i K = (ag_inb 40 i ∧ K (ag_rd 40 (g 1) i)) := ag_ia_at (ag_SM_r h g v (by decide)) i K
theorem ag_M_is1 {σ : ag_S} {a N : Nat} {ρ : Nat → Nat} (h : ag_mi a ρ N) (g : Nat → Nat → Int) (v : Nat → Int) (i x : Int) (K : ag_S → Prop) : ag_is (ag_SM σ a ρ g v) (ρ 1) i x K = (ag_inb 40 i ∧ K (ag_SM σ a ρ (ag_ug g 1 (ag_wr 40 (g 1) i x)) v)) := by
  rw [ag_is_at (ag_SM_r h g v (show 1 < 17 by decide)) (h.1 1 (by decide)).2.1 i x K]
  have e : ag_mL 1 = 40 := by decide
  rw [ag_SM_u h g v (by decide), e]
theorem ag_M_al1 {σ : ag_S} {a N : Nat} {ρ : Nat → Nat} (h : ag_mi a ρ N) (g : Nat → Nat → Int) (v : Nat → Int) (K : Int → Prop) : ag_al9 (ag_SM σ a ρ g v) (ρ 1) K = K 40 := ag_al_at (ag_SM_r h g v (by decide)) K
theorem ag_M_ia2 {σ : ag_S} {a N : Nat} {ρ : Nat → Nat} (h : ag_mi a ρ N) (g : Nat → Nat → Int) (v : Nat → Int) (i : Int) (K : Int → Prop) : ag_ia (ag_SM σ a ρ g v) (ρ 2) i K = (ag_inb 40 i ∧ K (ag_rd 40 (g 2) i)) := ag_ia_at (ag_SM_r h g v (by decide)) i K
theorem ag_M_is2 {σ : ag_S} {a N : Nat} {ρ : Nat → Nat} (h : ag_mi a ρ N) (g : Nat → Nat → Int) (v : Nat → Int) (i x : Int) (K : ag_S → Prop) : ag_is (ag_SM σ a ρ g v) (ρ 2) i x K = (ag_inb 40 i ∧ K (ag_SM σ a ρ (ag_ug g 2 (ag_wr 40 (g 2) i x)) v)) := by
  rw [ag_is_at (ag_SM_r h g v (show 2 < 17 by decide)) (h.1 2 (by decide)).2.1 i x K]
  have e : ag_mL 2 = 40 := by decide
  rw [ag_SM_u h g v (by decide), e]
theorem ag_M_al2 {σ : ag_S} {a N : Nat} {ρ : Nat → Nat} (h : ag_mi a ρ N) (g : Nat → Nat → Int) (v : Nat → Int) (K : Int → Prop) : ag_al9 (ag_SM σ a ρ g v) (ρ 2) K = K 40 := ag_al_at (ag_SM_r h g v (by decide)) K
theorem ag_M_ia3 {σ : ag_S} {a N : Nat} {ρ : Nat → Nat} (h : ag_mi a ρ N) (g : Nat → Nat → Int) (v : Nat → Int) (i : Int) (K : Int → Prop) : ag_ia (ag_SM σ a ρ g v) (ρ 3) i K = (ag_inb 40 i ∧ K (ag_rd 40 (g 3) i)) := ag_ia_at (ag_SM_r h g v (by decide)) i K
theorem ag_M_is3 {σ : ag_S} {a N : Nat} {ρ : Nat → Nat} (h : ag_mi a ρ N) (g : Nat → Nat → Int) (v : Nat → Int) (i x : Int) (K : ag_S → Prop) : ag_is (ag_SM σ a ρ g v) (ρ 3) i x K = (ag_inb 40 i ∧ K (ag_SM σ a ρ (ag_ug g 3 (ag_wr 40 (g 3) i x)) v)) := by
  rw [ag_is_at (ag_SM_r h g v (show 3 < 17 by decide)) (h.1 3 (by decide)).2.1 i x K]
  have e : ag_mL 3 = 40 := by decide
  rw [ag_SM_u h g v (by decide), e]
theorem ag_M_al3 {σ : ag_S} {a N : Nat} {ρ : Nat → Nat} (h : ag_mi a ρ N) (g : Nat → Nat → Int) (v : Nat → Int) (K : Int → Prop) : ag_al9 (ag_SM σ a ρ g v) (ρ 3) K = K 40 := ag_al_at (ag_SM_r h g v (by decide)) K
theorem ag_M_ia4 {σ : ag_S} {a N : Nat} {ρ : Nat → Nat} (h : ag_mi a ρ N) (g : Nat → Nat → Int) (v : Nat → Int) (i : Int) (K : Int → Prop) : ag_ia (ag_SM σ a ρ g v) (ρ 4) i K = (ag_inb 40 i ∧ K (ag_rd 40 (g 4) i)) := ag_ia_at (ag_SM_r h g v (by decide)) i K
theorem ag_M_is4 {σ : ag_S} {a N : Nat} {ρ : Nat → Nat} (h : ag_mi a ρ N) (g : Nat → Nat → Int) (v : Nat → Int) (i x : Int) (K : ag_S → Prop) : ag_is (ag_SM σ a ρ g v) (ρ 4) i x K = (ag_inb 40 i ∧ K (ag_SM σ a ρ (ag_ug g 4 (ag_wr 40 (g 4) i x)) v)) := by
  rw [ag_is_at (ag_SM_r h g v (show 4 < 17 by decide)) (h.1 4 (by decide)).2.1 i x K]
  have e : ag_mL 4 = 40 := by decide
  rw [ag_SM_u h g v (by decide), e]
theorem ag_M_al4 {σ : ag_S} {a N : Nat} {ρ : Nat → Nat} (h : ag_mi a ρ N) (g : Nat → Nat → Int) (v : Nat → Int) (K : Int → Prop) : ag_al9 (ag_SM σ a ρ g v) (ρ 4) K = K 40 := ag_al_at (ag_SM_r h g v (by decide)) K
theorem ag_M_ia5 {σ : ag_S} {a N : Nat} {ρ : Nat → Nat} (h : ag_mi a ρ N) (g : Nat → Nat → Int) (v : Nat → Int) (i : Int) (K : Int → Prop) : ag_ia (ag_SM σ a ρ g v) (ρ 5) i K = (ag_inb 20 i ∧ K (ag_rd 20 (g 5) i)) := ag_ia_at (ag_SM_r h g v (by decide)) i K
theorem ag_M_is5 {σ : ag_S} {a N : Nat} {ρ : Nat → Nat} (h : ag_mi a ρ N) (g : Nat → Nat → Int) (v : Nat → Int) (i x : Int) (K : ag_S → Prop) : ag_is (ag_SM σ a ρ g v) (ρ 5) i x K = (ag_inb 20 i ∧ K (ag_SM σ a ρ (ag_ug g 5 (ag_wr 20 (g 5) i x)) v)) := by
  rw [ag_is_at (ag_SM_r h g v (show 5 < 17 by decide)) (h.1 5 (by decide)).2.1 i x K]
  have e : ag_mL 5 = 20 := by decide
  rw [ag_SM_u h g v (by decide), e]
theorem ag_M_al5 {σ : ag_S} {a N : Nat} {ρ : Nat → Nat} (h : ag_mi a ρ N) (g : Nat → Nat → Int) (v : Nat → Int) (K : Int → Prop) : ag_al9 (ag_SM σ a ρ g v) (ρ 5) K = K 20 := ag_al_at (ag_SM_r h g v (by decide)) K
theorem ag_M_ia6 {σ : ag_S} {a N : Nat} {ρ : Nat → Nat} (h : ag_mi a ρ N) (g : Nat → Nat → Int) (v : Nat → Int) (i : Int) (K : Int → Prop) : ag_ia (ag_SM σ a ρ g v) (ρ 6) i K = (ag_inb 20 i ∧ K (ag_rd 20 (g 6) i)) := ag_ia_at (ag_SM_r h g v (by decide)) i K
theorem ag_M_is6 {σ : ag_S} {a N : Nat} {ρ : Nat → Nat} (h : ag_mi a ρ N) (g : Nat → Nat → Int) (v : Nat → Int) (i x : Int) (K : ag_S → Prop) : ag_is (ag_SM σ a ρ g v) (ρ 6) i x K = (ag_inb 20 i ∧ K (ag_SM σ a ρ (ag_ug g 6 (ag_wr 20 (g 6) i x)) v)) := by
  rw [ag_is_at (ag_SM_r h g v (show 6 < 17 by decide)) (h.1 6 (by decide)).2.1 i x K]
  have e : ag_mL 6 = 20 := by decide
  rw [ag_SM_u h g v (by decide), e]
theorem ag_M_al6 {σ : ag_S} {a N : Nat} {ρ : Nat → Nat} (h : ag_mi a ρ N) (g : Nat → Nat → Int) (v : Nat → Int) (K : Int → Prop) : ag_al9 (ag_SM σ a ρ g v) (ρ 6) K = K 20 := ag_al_at (ag_SM_r h g v (by decide)) K
theorem ag_M_ia7 {σ : ag_S} {a N : Nat} {ρ : Nat → Nat} (h : ag_mi a ρ N) (g : Nat → Nat → Int) (v : Nat → Int) (i : Int) (K : Int → Prop) : ag_ia (ag_SM σ a ρ g v) (ρ 7) i K = (ag_inb 20 i ∧ K (ag_rd 20 (g 7) i)) := ag_ia_at (ag_SM_r h g v (by decide)) i K
theorem ag_M_is7 {σ : ag_S} {a N : Nat} {ρ : Nat → Nat} (h : ag_mi a ρ N) (g : Nat → Nat → Int) (v : Nat → Int) (i x : Int) (K : ag_S → Prop) : ag_is (ag_SM σ a ρ g v) (ρ 7) i x K = (ag_inb 20 i ∧ K (ag_SM σ a ρ (ag_ug g 7 (ag_wr 20 (g 7) i x)) v)) := by
  rw [ag_is_at (ag_SM_r h g v (show 7 < 17 by decide)) (h.1 7 (by decide)).2.1 i x K]
  have e : ag_mL 7 = 20 := by decide
  rw [ag_SM_u h g v (by decide), e]
theorem ag_M_al7 {σ : ag_S} {a N : Nat} {ρ : Nat → Nat} (h : ag_mi a ρ N) (g : Nat → Nat → Int) (v : Nat → Int) (K : Int → Prop) : ag_al9 (ag_SM σ a ρ g v) (ρ 7) K = K 20 := ag_al_at (ag_SM_r h g v (by decide)) K
theorem ag_M_ia8 {σ : ag_S} {a N : Nat} {ρ : Nat → Nat} (h : ag_mi a ρ N) (g : Nat → Nat → Int) (v : Nat → Int) (i : Int) (K : Int → Prop) : ag_ia (ag_SM σ a ρ g v) (ρ 8) i K = (ag_inb 20 i ∧ K (ag_rd 20 (g 8) i)) := ag_ia_at (ag_SM_r h g v (by decide)) i K
theorem ag_M_is8 {σ : ag_S} {a N : Nat} {ρ : Nat → Nat} (h : ag_mi a ρ N) (g : Nat → Nat → Int) (v : Nat → Int) (i x : Int) (K : ag_S → Prop) : ag_is (ag_SM σ a ρ g v) (ρ 8) i x K = (ag_inb 20 i ∧ K (ag_SM σ a ρ (ag_ug g 8 (ag_wr 20 (g 8) i x)) v)) := by
  rw [ag_is_at (ag_SM_r h g v (show 8 < 17 by decide)) (h.1 8 (by decide)).2.1 i x K]
  have e : ag_mL 8 = 20 := by decide
  rw [ag_SM_u h g v (by decide), e]
theorem ag_M_al8 {σ : ag_S} {a N : Nat} {ρ : Nat → Nat} (h : ag_mi a ρ N) (g : Nat → Nat → Int) (v : Nat → Int) (K : Int → Prop) : ag_al9 (ag_SM σ a ρ g v) (ρ 8) K = K 20 := ag_al_at (ag_SM_r h g v (by decide)) K
theorem ag_M_ia9 {σ : ag_S} {a N : Nat} {ρ : Nat → Nat} (h : ag_mi a ρ N) (g : Nat → Nat → Int) (v : Nat → Int) (i : Int) (K : Int → Prop) : ag_ia (ag_SM σ a ρ g v) (ρ 9) i K = (ag_inb 20 i ∧ K (ag_rd 20 (g 9) i)) := ag_ia_at (ag_SM_r h g v (by decide)) i K
theorem ag_M_is9 {σ : ag_S} {a N : Nat} {ρ : Nat → Nat} (h : ag_mi a ρ N) (g : Nat → Nat → Int) (v : Nat → Int) (i x : Int) (K : ag_S → Prop) : ag_is (ag_SM σ a ρ g v) (ρ 9) i x K = (ag_inb 20 i ∧ K (ag_SM σ a ρ (ag_ug g 9 (ag_wr 20 (g 9) i x)) v)) := by
  rw [ag_is_at (ag_SM_r h g v (show 9 < 17 by decide)) (h.1 9 (by decide)).2.1 i x K]
  have e : ag_mL 9 = 20 := by decide
  rw [ag_SM_u h g v (by decide), e]
theorem ag_M_al9 {σ : ag_S} {a N : Nat} {ρ : Nat → Nat} (h : ag_mi a ρ N) (g : Nat → Nat → Int) (v : Nat → Int) (K : Int → Prop) : ag_al9 (ag_SM σ a ρ g v) (ρ 9) K = K 20 := ag_al_at (ag_SM_r h g v (by decide)) K
theorem ag_M_ia10 {σ : ag_S} {a N : Nat} {ρ : Nat → Nat} (h : ag_mi a ρ N) (g : Nat → Nat → Int) (v : Nat → Int) (i : Int) (K : Int → Prop) : ag_ia (ag_SM σ a ρ g v) (ρ 10) i K = (ag_inb 20 i ∧ K (ag_rd 20 (g 10) i)) := ag_ia_at (ag_SM_r h g v (by decide)) i K
theorem ag_M_is10 {σ : ag_S} {a N : Nat} {ρ : Nat → Nat} (h : ag_mi a ρ N) (g : Nat → Nat → Int) (v : Nat → Int) (i x : Int) (K : ag_S → Prop) : ag_is (ag_SM σ a ρ g v) (ρ 10) i x K = (ag_inb 20 i ∧ K (ag_SM σ a ρ (ag_ug g 10 (ag_wr 20 (g 10) i x)) v)) := by
  rw [ag_is_at (ag_SM_r h g v (show 10 < 17 by decide)) (h.1 10 (by decide)).2.1 i x K]
  have e : ag_mL 10 = 20 := by decide
  rw [ag_SM_u h g v (by decide), e]
theorem ag_M_al10 {σ : ag_S} {a N : Nat} {ρ : Nat → Nat} (h : ag_mi a ρ N) (g : Nat → Nat → Int) (v : Nat → Int) (K : Int → Prop) : ag_al9 (ag_SM σ a ρ g v) (ρ 10) K = K 20 := ag_al_at (ag_SM_r h g v (by decide)) K
theorem ag_M_ia11 {σ : ag_S} {a N : Nat} {ρ : Nat → Nat} (h : ag_mi a ρ N) (g : Nat → Nat → Int) (v : Nat → Int) (i : Int) (K : Int → Prop) : ag_ia (ag_SM σ a ρ g v) (ρ 11) i K = (ag_inb 12 i ∧ K (ag_rd 12 (g 11) i)) := ag_ia_at (ag_SM_r h g v (by decide)) i K
theorem ag_M_is11 {σ : ag_S} {a N : Nat} {ρ : Nat → Nat} (h : ag_mi a ρ N) (g : Nat → Nat → Int) (v : Nat → Int) (i x : Int) (K : ag_S → Prop) : ag_is (ag_SM σ a ρ g v) (ρ 11) i x K = (ag_inb 12 i ∧ K (ag_SM σ a ρ (ag_ug g 11 (ag_wr 12 (g 11) i x)) v)) := by
  rw [ag_is_at (ag_SM_r h g v (show 11 < 17 by decide)) (h.1 11 (by decide)).2.1 i x K]
  have e : ag_mL 11 = 12 := by decide
  rw [ag_SM_u h g v (by decide), e]
theorem ag_M_al11 {σ : ag_S} {a N : Nat} {ρ : Nat → Nat} (h : ag_mi a ρ N) (g : Nat → Nat → Int) (v : Nat → Int) (K : Int → Prop) : ag_al9 (ag_SM σ a ρ g v) (ρ 11) K = K 12 := ag_al_at (ag_SM_r h g v (by decide)) K
theorem ag_M_ia12 {σ : ag_S} {a N : Nat} {ρ : Nat → Nat} (h : ag_mi a ρ N) (g : Nat → Nat → Int) (v : Nat → Int) (i : Int) (K : Int → Prop) : ag_ia (ag_SM σ a ρ g v) (ρ 12) i K = (ag_inb 12 i ∧ K (ag_rd 12 (g 12) i)) := ag_ia_at (ag_SM_r h g v (by decide)) i K
theorem ag_M_is12 {σ : ag_S} {a N : Nat} {ρ : Nat → Nat} (h : ag_mi a ρ N) (g : Nat → Nat → Int) (v : Nat → Int) (i x : Int) (K : ag_S → Prop) : ag_is (ag_SM σ a ρ g v) (ρ 12) i x K = (ag_inb 12 i ∧ K (ag_SM σ a ρ (ag_ug g 12 (ag_wr 12 (g 12) i x)) v)) := by
  rw [ag_is_at (ag_SM_r h g v (show 12 < 17 by decide)) (h.1 12 (by decide)).2.1 i x K]
  have e : ag_mL 12 = 12 := by decide
  rw [ag_SM_u h g v (by decide), e]
theorem ag_M_al12 {σ : ag_S} {a N : Nat} {ρ : Nat → Nat} (h : ag_mi a ρ N) (g : Nat → Nat → Int) (v : Nat → Int) (K : Int → Prop) : ag_al9 (ag_SM σ a ρ g v) (ρ 12) K = K 12 := ag_al_at (ag_SM_r h g v (by decide)) K
theorem ag_M_ia13 {σ : ag_S} {a N : Nat} {ρ : Nat → Nat} (h : ag_mi a ρ N) (g : Nat → Nat → Int) (v : Nat → Int) (i : Int) (K : Int → Prop) : ag_ia (ag_SM σ a ρ g v) (ρ 13) i K = (ag_inb 5 i ∧ K (ag_rd 5 (g 13) i)) := ag_ia_at (ag_SM_r h g v (by decide)) i K
theorem ag_M_is13 {σ : ag_S} {a N : Nat} {ρ : Nat → Nat} (h : ag_mi a ρ N) (g : Nat → Nat → Int) (v : Nat → Int) (i x : Int) (K : ag_S → Prop) : ag_is (ag_SM σ a ρ g v) (ρ 13) i x K = (ag_inb 5 i ∧ K (ag_SM σ a ρ (ag_ug g 13 (ag_wr 5 (g 13) i x)) v)) := by
  rw [ag_is_at (ag_SM_r h g v (show 13 < 17 by decide)) (h.1 13 (by decide)).2.1 i x K]
  have e : ag_mL 13 = 5 := by decide
  rw [ag_SM_u h g v (by decide), e]
theorem ag_M_al13 {σ : ag_S} {a N : Nat} {ρ : Nat → Nat} (h : ag_mi a ρ N) (g : Nat → Nat → Int) (v : Nat → Int) (K : Int → Prop) : ag_al9 (ag_SM σ a ρ g v) (ρ 13) K = K 5 := ag_al_at (ag_SM_r h g v (by decide)) K
theorem ag_M_ia14 {σ : ag_S} {a N : Nat} {ρ : Nat → Nat} (h : ag_mi a ρ N) (g : Nat → Nat → Int) (v : Nat → Int) (i : Int) (K : Int → Prop) : ag_ia (ag_SM σ a ρ g v) (ρ 14) i K = (ag_inb 5 i ∧ K (ag_rd 5 (g 14) i)) := ag_ia_at (ag_SM_r h g v (by decide)) i K
theorem ag_M_is14 {σ : ag_S} {a N : Nat} {ρ : Nat → Nat} (h : ag_mi a ρ N) (g : Nat → Nat → Int) (v : Nat → Int) (i x : Int) (K : ag_S → Prop) : ag_is (ag_SM σ a ρ g v) (ρ 14) i x K = (ag_inb 5 i ∧ K (ag_SM σ a ρ (ag_ug g 14 (ag_wr 5 (g 14) i x)) v)) := by
  rw [ag_is_at (ag_SM_r h g v (show 14 < 17 by decide)) (h.1 14 (by decide)).2.1 i x K]
  have e : ag_mL 14 = 5 := by decide
  rw [ag_SM_u h g v (by decide), e]
theorem ag_M_al14 {σ : ag_S} {a N : Nat} {ρ : Nat → Nat} (h : ag_mi a ρ N) (g : Nat → Nat → Int) (v : Nat → Int) (K : Int → Prop) : ag_al9 (ag_SM σ a ρ g v) (ρ 14) K = K 5 := ag_al_at (ag_SM_r h g v (by decide)) K
theorem ag_M_ia15 {σ : ag_S} {a N : Nat} {ρ : Nat → Nat} (h : ag_mi a ρ N) (g : Nat → Nat → Int) (v : Nat → Int) (i : Int) (K : Int → Prop) : ag_ia (ag_SM σ a ρ g v) (ρ 15) i K = (ag_inb 5 i ∧ K (ag_rd 5 (g 15) i)) := ag_ia_at (ag_SM_r h g v (by decide)) i K
theorem ag_M_is15 {σ : ag_S} {a N : Nat} {ρ : Nat → Nat} (h : ag_mi a ρ N) (g : Nat → Nat → Int) (v : Nat → Int) (i x : Int) (K : ag_S → Prop) : ag_is (ag_SM σ a ρ g v) (ρ 15) i x K = (ag_inb 5 i ∧ K (ag_SM σ a ρ (ag_ug g 15 (ag_wr 5 (g 15) i x)) v)) := by
  rw [ag_is_at (ag_SM_r h g v (show 15 < 17 by decide)) (h.1 15 (by decide)).2.1 i x K]
  have e : ag_mL 15 = 5 := by decide
  rw [ag_SM_u h g v (by decide), e]
theorem ag_M_al15 {σ : ag_S} {a N : Nat} {ρ : Nat → Nat} (h : ag_mi a ρ N) (g : Nat → Nat → Int) (v : Nat → Int) (K : Int → Prop) : ag_al9 (ag_SM σ a ρ g v) (ρ 15) K = K 5 := ag_al_at (ag_SM_r h g v (by decide)) K
theorem ag_M_ia16 {σ : ag_S} {a N : Nat} {ρ : Nat → Nat} (h : ag_mi a ρ N) (g : Nat → Nat → Int) (v : Nat → Int) (i : Int) (K : Int → Prop) : ag_ia (ag_SM σ a ρ g v) (ρ 16) i K = (ag_inb 100 i ∧ K (ag_rd 100 (g 16) i)) := ag_ia_at (ag_SM_r h g v (by decide)) i K
theorem ag_M_is16 {σ : ag_S} {a N : Nat} {ρ : Nat → Nat} (h : ag_mi a ρ N) (g : Nat → Nat → Int) (v : Nat → Int) (i x : Int) (K : ag_S → Prop) : ag_is (ag_SM σ a ρ g v) (ρ 16) i x K = (ag_inb 100 i ∧ K (ag_SM σ a ρ (ag_ug g 16 (ag_wr 100 (g 16) i x)) v)) := by
  rw [ag_is_at (ag_SM_r h g v (show 16 < 17 by decide)) (h.1 16 (by decide)).2.1 i x K]
  have e : ag_mL 16 = 100 := by decide
  rw [ag_SM_u h g v (by decide), e]
theorem ag_M_al16 {σ : ag_S} {a N : Nat} {ρ : Nat → Nat} (h : ag_mi a ρ N) (g : Nat → Nat → Int) (v : Nat → Int) (K : Int → Prop) : ag_al9 (ag_SM σ a ρ g v) (ρ 16) K = K 100 := ag_al_at (ag_SM_r h g v (by decide)) K
