/-! HANDLERS; the locals at an entry; runs make stores no smaller. -/
/-- the handler of E in method y: its row of the table, the rows ahead of it, the local that takes what was thrown -/
def ag_HW (y E pc' k : Nat) : Prop := E < 3 ∧ ag_hx y ∧ k < ag_mx y ∧ ∃ (pre : List ExceptionTableEntry) (x : ExceptionTableEntry) (suf : List ExceptionTableEntry), tableOf (ag_hh y) = pre ++ x :: suf ∧ (∀ z ∈ pre, z.catchType ≠ 0 ∧ ∃ j, j < 3 ∧ j ≠ 1 ∧ E ≠ j ∧ Cond.classLink (ag_on (ag_ow y)) z.catchType (ag_xn j) ∈ lw_tbl ∧ goodWord (Cond.classLink (ag_on (ag_ow y)) z.catchType (ag_xn j)) = true) ∧
  covers x (ag_hp y) = true ∧ x.catchType ≠ 0 ∧ Cond.classLink (ag_on (ag_ow y)) x.catchType (ag_xn E) ∈ lw_tbl ∧ goodWord (Cond.classLink (ag_on (ag_ow y)) x.catchType (ag_xn E)) = true ∧ ((decode (ag_by y) x.handlerPc = .ok (.astore k, 2) ∧ pc' = x.handlerPc + 2) ∨ (∃ k4 : Fin 4, decode (ag_by y) x.handlerPc = .ok (.astore_n k4, 1) ∧ (k4 : Nat) = k ∧ pc' = x.handlerPc + 1))
theorem ag_hl_6_112 : Cond.classLink (ag_on 6) 112 (ag_xn 2) ∈ lw_tbl := List.mem_of_getElem? (i := 699) (by decide +kernel)
theorem ag_hw_109_2 : ag_HW 109 2 123 4 := ⟨by decide, by unfold ag_hx; decide, by decide, [], { startPc := 77, endPc := 120, handlerPc := 121, catchType := 112 }, [], rfl, fun _ h => absurd h List.not_mem_nil, rfl, by decide, ag_hl_6_112, rfl, Or.inl ⟨by decide +kernel, rfl⟩⟩
theorem ag_hws_109 : ∀ q ∈ ag_hd_l.getD 109 [], ag_HW 109 q.1 q.2.1 q.2.2 := List.forall_mem_cons.mpr ⟨ag_hw_109_2, fun _ h => absurd h List.not_mem_nil⟩
theorem ag_hw_112_2 : ag_HW 112 2 200 5 := ⟨by decide, by unfold ag_hx; decide, by decide, [], { startPc := 98, endPc := 197, handlerPc := 198, catchType := 112 }, [], rfl, fun _ h => absurd h List.not_mem_nil, rfl, by decide, ag_hl_6_112, rfl, Or.inl ⟨by decide +kernel, rfl⟩⟩
theorem ag_hws_112 : ∀ q ∈ ag_hd_l.getD 112 [], ag_HW 112 q.1 q.2.1 q.2.2 := List.forall_mem_cons.mpr ⟨ag_hw_112_2, fun _ h => absurd h List.not_mem_nil⟩
theorem ag_hw_113_2 : ag_HW 113 2 170 4 := ⟨by decide, by unfold ag_hx; decide, by decide, [], { startPc := 78, endPc := 167, handlerPc := 168, catchType := 112 }, [], rfl, fun _ h => absurd h List.not_mem_nil, rfl, by decide, ag_hl_6_112, rfl, Or.inl ⟨by decide +kernel, rfl⟩⟩
theorem ag_hws_113 : ∀ q ∈ ag_hd_l.getD 113 [], ag_HW 113 q.1 q.2.1 q.2.2 := List.forall_mem_cons.mpr ⟨ag_hw_113_2, fun _ h => absurd h List.not_mem_nil⟩
theorem ag_hw_116_2 : ag_HW 116 2 68 3 := ⟨by decide, by unfold ag_hx; decide, by decide, [], { startPc := 37, endPc := 66, handlerPc := 67, catchType := 112 }, [], rfl, fun _ h => absurd h List.not_mem_nil, rfl, by decide, ag_hl_6_112, rfl, Or.inr ⟨3, by decide +kernel, rfl, rfl⟩⟩
theorem ag_hws_116 : ∀ q ∈ ag_hd_l.getD 116 [], ag_HW 116 q.1 q.2.1 q.2.2 := List.forall_mem_cons.mpr ⟨ag_hw_116_2, fun _ h => absurd h List.not_mem_nil⟩
theorem ag_hw_127_2 : ag_HW 127 2 127 4 := ⟨by decide, by unfold ag_hx; decide, by decide, [], { startPc := 63, endPc := 124, handlerPc := 125, catchType := 112 }, [], rfl, fun _ h => absurd h List.not_mem_nil, rfl, by decide, ag_hl_6_112, rfl, Or.inl ⟨by decide +kernel, rfl⟩⟩
theorem ag_hws_127 : ∀ q ∈ ag_hd_l.getD 127 [], ag_HW 127 q.1 q.2.1 q.2.2 := List.forall_mem_cons.mpr ⟨ag_hw_127_2, fun _ h => absurd h List.not_mem_nil⟩
theorem ag_hw_128_2 : ag_HW 128 2 72 3 := ⟨by decide, by unfold ag_hx; decide, by decide, [], { startPc := 23, endPc := 36, handlerPc := 71, catchType := 112 }, [{ startPc := 37, endPc := 70, handlerPc := 71, catchType := 112 }], rfl, fun _ h => absurd h List.not_mem_nil, rfl, by decide, ag_hl_6_112, rfl, Or.inr ⟨3, by decide +kernel, rfl, rfl⟩⟩
theorem ag_hws_128 : ∀ q ∈ ag_hd_l.getD 128 [], ag_HW 128 q.1 q.2.1 q.2.2 := List.forall_mem_cons.mpr ⟨ag_hw_128_2, fun _ h => absurd h List.not_mem_nil⟩
theorem ag_hl_7_114 : Cond.classLink (ag_on 7) 114 (ag_xn 0) ∈ lw_tbl := List.mem_of_getElem? (i := 906) (by decide +kernel)
theorem ag_hw_135_0 : ag_HW 135 0 15 2 := ⟨by decide, by unfold ag_hx; decide, by decide, [], { startPc := 0, endPc := 13, handlerPc := 14, catchType := 114 }, [], rfl, fun _ h => absurd h List.not_mem_nil, rfl, by decide, ag_hl_7_114, rfl, Or.inr ⟨2, by decide +kernel, rfl, rfl⟩⟩
theorem ag_hws_135 : ∀ q ∈ ag_hd_l.getD 135 [], ag_HW 135 q.1 q.2.1 q.2.2 := List.forall_mem_cons.mpr ⟨ag_hw_135_0, fun _ h => absurd h List.not_mem_nil⟩
theorem ag_hw_go_g0 (k : Nat) (h : k < 20) : ∀ q ∈ ag_hd_l.getD (0 + k) [], ag_HW (0 + k) q.1 q.2.1 q.2.2 := by
  match k, h with
  | 0, _ => exact (fun q h => absurd h List.not_mem_nil)
  | 1, _ => exact (fun q h => absurd h List.not_mem_nil)
  | 2, _ => exact (fun q h => absurd h List.not_mem_nil)
  | 3, _ => exact (fun q h => absurd h List.not_mem_nil)
  | 4, _ => exact (fun q h => absurd h List.not_mem_nil)
  | 5, _ => exact (fun q h => absurd h List.not_mem_nil)
  | 6, _ => exact (fun q h => absurd h List.not_mem_nil)
  | 7, _ => exact (fun q h => absurd h List.not_mem_nil)
  | 8, _ => exact (fun q h => absurd h List.not_mem_nil)
  | 9, _ => exact (fun q h => absurd h List.not_mem_nil)
  | 10, _ => exact (fun q h => absurd h List.not_mem_nil)
  | 11, _ => exact (fun q h => absurd h List.not_mem_nil)
  | 12, _ => exact (fun q h => absurd h List.not_mem_nil)
  | 13, _ => exact (fun q h => absurd h List.not_mem_nil)
  | 14, _ => exact (fun q h => absurd h List.not_mem_nil)
  | 15, _ => exact (fun q h => absurd h List.not_mem_nil)
  | 16, _ => exact (fun q h => absurd h List.not_mem_nil)
  | 17, _ => exact (fun q h => absurd h List.not_mem_nil)
  | 18, _ => exact (fun q h => absurd h List.not_mem_nil)
  | 19, _ => exact (fun q h => absurd h List.not_mem_nil)
  | n + 20, h => exact absurd h (by omega)
theorem ag_hw_go_g20 (k : Nat) (h : k < 20) : ∀ q ∈ ag_hd_l.getD (20 + k) [], ag_HW (20 + k) q.1 q.2.1 q.2.2 := by
  match k, h with
  | 0, _ => exact (fun q h => absurd h List.not_mem_nil)
  | 1, _ => exact (fun q h => absurd h List.not_mem_nil)
  | 2, _ => exact (fun q h => absurd h List.not_mem_nil)
  | 3, _ => exact (fun q h => absurd h List.not_mem_nil)
  | 4, _ => exact (fun q h => absurd h List.not_mem_nil)
  | 5, _ => exact (fun q h => absurd h List.not_mem_nil)
  | 6, _ => exact (fun q h => absurd h List.not_mem_nil)
  | 7, _ => exact (fun q h => absurd h List.not_mem_nil)
  | 8, _ => exact (fun q h => absurd h List.not_mem_nil)
  | 9, _ => exact (fun q h => absurd h List.not_mem_nil)
  | 10, _ => exact (fun q h => absurd h List.not_mem_nil)
  | 11, _ => exact (fun q h => absurd h List.not_mem_nil)
  | 12, _ => exact (fun q h => absurd h List.not_mem_nil)
  | 13, _ => exact (fun q h => absurd h List.not_mem_nil)
  | 14, _ => exact (fun q h => absurd h List.not_mem_nil)
  | 15, _ => exact (fun q h => absurd h List.not_mem_nil)
  | 16, _ => exact (fun q h => absurd h List.not_mem_nil)
  | 17, _ => exact (fun q h => absurd h List.not_mem_nil)
  | 18, _ => exact (fun q h => absurd h List.not_mem_nil)
  | 19, _ => exact (fun q h => absurd h List.not_mem_nil)
  | n + 20, h => exact absurd h (by omega)
theorem ag_hw_go_g40 (k : Nat) (h : k < 20) : ∀ q ∈ ag_hd_l.getD (40 + k) [], ag_HW (40 + k) q.1 q.2.1 q.2.2 := by
  match k, h with
  | 0, _ => exact (fun q h => absurd h List.not_mem_nil)
  | 1, _ => exact (fun q h => absurd h List.not_mem_nil)
  | 2, _ => exact (fun q h => absurd h List.not_mem_nil)
  | 3, _ => exact (fun q h => absurd h List.not_mem_nil)
  | 4, _ => exact (fun q h => absurd h List.not_mem_nil)
  | 5, _ => exact (fun q h => absurd h List.not_mem_nil)
  | 6, _ => exact (fun q h => absurd h List.not_mem_nil)
  | 7, _ => exact (fun q h => absurd h List.not_mem_nil)
  | 8, _ => exact (fun q h => absurd h List.not_mem_nil)
  | 9, _ => exact (fun q h => absurd h List.not_mem_nil)
  | 10, _ => exact (fun q h => absurd h List.not_mem_nil)
  | 11, _ => exact (fun q h => absurd h List.not_mem_nil)
  | 12, _ => exact (fun q h => absurd h List.not_mem_nil)
  | 13, _ => exact (fun q h => absurd h List.not_mem_nil)
  | 14, _ => exact (fun q h => absurd h List.not_mem_nil)
  | 15, _ => exact (fun q h => absurd h List.not_mem_nil)
  | 16, _ => exact (fun q h => absurd h List.not_mem_nil)
  | 17, _ => exact (fun q h => absurd h List.not_mem_nil)
  | 18, _ => exact (fun q h => absurd h List.not_mem_nil)
  | 19, _ => exact (fun q h => absurd h List.not_mem_nil)
  | n + 20, h => exact absurd h (by omega)
theorem ag_hw_go_g60 (k : Nat) (h : k < 20) : ∀ q ∈ ag_hd_l.getD (60 + k) [], ag_HW (60 + k) q.1 q.2.1 q.2.2 := by
  match k, h with
  | 0, _ => exact (fun q h => absurd h List.not_mem_nil)
  | 1, _ => exact (fun q h => absurd h List.not_mem_nil)
  | 2, _ => exact (fun q h => absurd h List.not_mem_nil)
  | 3, _ => exact (fun q h => absurd h List.not_mem_nil)
  | 4, _ => exact (fun q h => absurd h List.not_mem_nil)
  | 5, _ => exact (fun q h => absurd h List.not_mem_nil)
  | 6, _ => exact (fun q h => absurd h List.not_mem_nil)
  | 7, _ => exact (fun q h => absurd h List.not_mem_nil)
  | 8, _ => exact (fun q h => absurd h List.not_mem_nil)
  | 9, _ => exact (fun q h => absurd h List.not_mem_nil)
  | 10, _ => exact (fun q h => absurd h List.not_mem_nil)
  | 11, _ => exact (fun q h => absurd h List.not_mem_nil)
  | 12, _ => exact (fun q h => absurd h List.not_mem_nil)
  | 13, _ => exact (fun q h => absurd h List.not_mem_nil)
  | 14, _ => exact (fun q h => absurd h List.not_mem_nil)
  | 15, _ => exact (fun q h => absurd h List.not_mem_nil)
  | 16, _ => exact (fun q h => absurd h List.not_mem_nil)
  | 17, _ => exact (fun q h => absurd h List.not_mem_nil)
  | 18, _ => exact (fun q h => absurd h List.not_mem_nil)
  | 19, _ => exact (fun q h => absurd h List.not_mem_nil)
  | n + 20, h => exact absurd h (by omega)
theorem ag_hw_go_g80 (k : Nat) (h : k < 20) : ∀ q ∈ ag_hd_l.getD (80 + k) [], ag_HW (80 + k) q.1 q.2.1 q.2.2 := by
  match k, h with
  | 0, _ => exact (fun q h => absurd h List.not_mem_nil)
  | 1, _ => exact (fun q h => absurd h List.not_mem_nil)
  | 2, _ => exact (fun q h => absurd h List.not_mem_nil)
  | 3, _ => exact (fun q h => absurd h List.not_mem_nil)
  | 4, _ => exact (fun q h => absurd h List.not_mem_nil)
  | 5, _ => exact (fun q h => absurd h List.not_mem_nil)
  | 6, _ => exact (fun q h => absurd h List.not_mem_nil)
  | 7, _ => exact (fun q h => absurd h List.not_mem_nil)
  | 8, _ => exact (fun q h => absurd h List.not_mem_nil)
  | 9, _ => exact (fun q h => absurd h List.not_mem_nil)
  | 10, _ => exact (fun q h => absurd h List.not_mem_nil)
  | 11, _ => exact (fun q h => absurd h List.not_mem_nil)
  | 12, _ => exact (fun q h => absurd h List.not_mem_nil)
  | 13, _ => exact (fun q h => absurd h List.not_mem_nil)
  | 14, _ => exact (fun q h => absurd h List.not_mem_nil)
  | 15, _ => exact (fun q h => absurd h List.not_mem_nil)
  | 16, _ => exact (fun q h => absurd h List.not_mem_nil)
  | 17, _ => exact (fun q h => absurd h List.not_mem_nil)
  | 18, _ => exact (fun q h => absurd h List.not_mem_nil)
  | 19, _ => exact (fun q h => absurd h List.not_mem_nil)
  | n + 20, h => exact absurd h (by omega)
theorem ag_hw_go_g100 (k : Nat) (h : k < 20) : ∀ q ∈ ag_hd_l.getD (100 + k) [], ag_HW (100 + k) q.1 q.2.1 q.2.2 := by
  match k, h with
  | 0, _ => exact (fun q h => absurd h List.not_mem_nil)
  | 1, _ => exact (fun q h => absurd h List.not_mem_nil)
  | 2, _ => exact (fun q h => absurd h List.not_mem_nil)
  | 3, _ => exact (fun q h => absurd h List.not_mem_nil)
  | 4, _ => exact (fun q h => absurd h List.not_mem_nil)
  | 5, _ => exact (fun q h => absurd h List.not_mem_nil)
  | 6, _ => exact (fun q h => absurd h List.not_mem_nil)
  | 7, _ => exact (fun q h => absurd h List.not_mem_nil)
  | 8, _ => exact (fun q h => absurd h List.not_mem_nil)
  | 9, _ => exact ag_hws_109
  | 10, _ => exact (fun q h => absurd h List.not_mem_nil)
  | 11, _ => exact (fun q h => absurd h List.not_mem_nil)
  | 12, _ => exact ag_hws_112
  | 13, _ => exact ag_hws_113
  | 14, _ => exact (fun q h => absurd h List.not_mem_nil)
  | 15, _ => exact (fun q h => absurd h List.not_mem_nil)
  | 16, _ => exact ag_hws_116
  | 17, _ => exact (fun q h => absurd h List.not_mem_nil)
  | 18, _ => exact (fun q h => absurd h List.not_mem_nil)
  | 19, _ => exact (fun q h => absurd h List.not_mem_nil)
  | n + 20, h => exact absurd h (by omega)
theorem ag_hw_go_g120 (k : Nat) (h : k < 17) : ∀ q ∈ ag_hd_l.getD (120 + k) [], ag_HW (120 + k) q.1 q.2.1 q.2.2 := by
  match k, h with
  | 0, _ => exact (fun q h => absurd h List.not_mem_nil)
  | 1, _ => exact (fun q h => absurd h List.not_mem_nil)
  | 2, _ => exact (fun q h => absurd h List.not_mem_nil)
  | 3, _ => exact (fun q h => absurd h List.not_mem_nil)
  | 4, _ => exact (fun q h => absurd h List.not_mem_nil)
  | 5, _ => exact (fun q h => absurd h List.not_mem_nil)
  | 6, _ => exact (fun q h => absurd h List.not_mem_nil)
  | 7, _ => exact ag_hws_127
  | 8, _ => exact ag_hws_128
  | 9, _ => exact (fun q h => absurd h List.not_mem_nil)
  | 10, _ => exact (fun q h => absurd h List.not_mem_nil)
  | 11, _ => exact (fun q h => absurd h List.not_mem_nil)
  | 12, _ => exact (fun q h => absurd h List.not_mem_nil)
  | 13, _ => exact (fun q h => absurd h List.not_mem_nil)
  | 14, _ => exact (fun q h => absurd h List.not_mem_nil)
  | 15, _ => exact ag_hws_135
  | 16, _ => exact (fun q h => absurd h List.not_mem_nil)
  | n + 17, h => exact absurd h (by omega)
theorem ag_hw_go (y : Nat) : ∀ q ∈ ag_hd_l.getD y [], ag_HW y q.1 q.2.1 q.2.2 := by
  rcases Nat.lt_or_ge y 20 with h20 | h20
  · have hy : y = 0 + (y - 0) := by omega
    rw [hy]
    exact ag_hw_go_g0 (y - 0) (by omega)
  rcases Nat.lt_or_ge y 40 with h40 | h40
  · have hy : y = 20 + (y - 20) := by omega
    rw [hy]
    exact ag_hw_go_g20 (y - 20) (by omega)
  rcases Nat.lt_or_ge y 60 with h60 | h60
  · have hy : y = 40 + (y - 40) := by omega
    rw [hy]
    exact ag_hw_go_g40 (y - 40) (by omega)
  rcases Nat.lt_or_ge y 80 with h80 | h80
  · have hy : y = 60 + (y - 60) := by omega
    rw [hy]
    exact ag_hw_go_g60 (y - 60) (by omega)
  rcases Nat.lt_or_ge y 100 with h100 | h100
  · have hy : y = 80 + (y - 80) := by omega
    rw [hy]
    exact ag_hw_go_g80 (y - 80) (by omega)
  rcases Nat.lt_or_ge y 120 with h120 | h120
  · have hy : y = 100 + (y - 100) := by omega
    rw [hy]
    exact ag_hw_go_g100 (y - 100) (by omega)
  rcases Nat.lt_or_ge y 137 with h137 | h137
  · have hy : y = 120 + (y - 120) := by omega
    rw [hy]
    exact ag_hw_go_g120 (y - 120) (by omega)
  exact (fun q h => by rw [List.getD_eq_getElem?_getD, List.getElem?_eq_none (by show 137 ≤ y; omega)] at h; exact absurd h List.not_mem_nil)
theorem ag_hwf {y E pc' k : Nat} (h : ag_hd y E = some (pc', k)) : ag_HW y E pc' k := by
  unfold ag_hd at h
  cases hf : (ag_hd_l.getD y []).find? (fun q => q.1 == E) with
  | none => rw [hf] at h; cases h
  | some q =>
    rw [hf] at h
    have hm := List.mem_of_find?_eq_some hf
    have he := List.find?_some hf
    simp only [beq_iff_eq] at he
    have hq : q.2 = (pc', k) := Option.some.inj h
    have key := ag_hw_go y q hm
    rw [he, hq] at key
    exact key
theorem ag_hc_0 : Cond.castable (ag_xn 0) (ag_xn 0) ∈ lw_tbl := List.mem_of_getElem? (i := 43) (by decide +kernel)
theorem ag_hc_1 : Cond.castable (ag_xn 1) (ag_xn 1) ∈ lw_tbl := List.mem_of_getElem? (i := 113) (by decide +kernel)
theorem ag_hc_2 : Cond.castable (ag_xn 2) (ag_xn 2) ∈ lw_tbl := List.mem_of_getElem? (i := 254) (by decide +kernel)
theorem ag_hc {E : Nat} (h : E < 3) : Cond.castable (ag_xn E) (ag_xn E) ∈ lw_tbl := by
  match E, h with
  | 0, _ => exact ag_hc_0
  | 1, _ => exact ag_hc_1
  | 2, _ => exact ag_hc_2
  | n + 3, h => exact absurd h (by omega)
theorem ag_npx : ∀ y, y < 137 → (if ag_mk y = 0 ∨ ag_mk y = 2 ∨ ag_mk y = 5 then ag_np y + 1 else ag_np y) ≤ ag_mx y ∨ y < 3 := by decide +kernel
theorem ag_cl_on {ci : Nat} {r : vw_C} (h : ag_cl[ci]? = some r) : r.1 = ag_on ci := by
  match ci, h with
  | 0, h => cases h; rfl
  | 1, h => cases h; rfl
  | 2, h => cases h; rfl
  | 3, h => cases h; rfl
  | 4, h => cases h; rfl
  | 5, h => cases h; rfl
  | 6, h => cases h; rfl
  | n + 7, h => cases h
theorem ag_en_args {f : Nat → Nat} : ∀ (as : List ag_V) (i k : Nat) (v : ag_V), (∀ w ∈ as, ag_c2 w = false) → as[k]? = some v → (i + k, ag_v f v) ∈ lv_args i (as.map (ag_v f)) := by
  intro as
  induction as with
  | nil => intro i k v _ h; simp at h
  | cons a as ih =>
    intro i k v hc h
    have hca : (ag_v f a).category = 1 := by rw [ag_v_cat, hc a List.mem_cons_self]; rfl
    rw [List.map_cons, lv_args, hca]
    cases k with
    | zero =>
      rw [List.getElem?_cons_zero] at h
      cases h
      exact List.mem_cons_self
    | succ k =>
      rw [List.getElem?_cons_succ] at h
      have h1 := ih (i + 1) k v (fun w hw => hc w (List.mem_cons_of_mem _ hw)) h
      rw [show i + 1 + k = i + (k + 1) by omega] at h1
      exact List.mem_cons_of_mem _ h1
theorem ag_sl_len {f : Nat → Nat} : ∀ (as : List ag_V), (∀ w ∈ as, ag_c2 w = false) → (lg_sl (as.map (ag_v f))).length = as.length := by
  intro as
  induction as with
  | nil => intro _; rfl
  | cons a as ih =>
    intro hc
    have hca : (ag_v f a).category = 1 := by rw [ag_v_cat, hc a List.mem_cons_self]; rfl
    have h1 := ih (fun w hw => hc w (List.mem_cons_of_mem _ hw))
    unfold lg_sl at h1 ⊢
    rw [List.map_cons, List.flatMap_cons, hca, List.length_append, h1]
    simp
    omega
/-- the locals with which a method begins -/
theorem ag_lr_entry {f : Nat → Nat} {y n : Nat} {as : List ag_V} (hn : ag_mx y = n) (hc : ∀ w ∈ as, ag_c2 w = false) (hl : as.length ≤ n) : ag_lr f (ag_en y as) n ((lg_sl (as.map (ag_v f)) ++ List.replicate (n - (lg_sl (as.map (ag_v f))).length) Slot.unset).toArray) := by
  have h0 := lv_entry (as.map (ag_v f)) (n := n) (by rw [ag_sl_len as hc]; exact hl)
  refine ⟨h0.1, ?_, h0.2.1, fun k v hk => ?_⟩
  · unfold ag_en
    rw [List.length_append, List.length_map, List.length_replicate, hn]
    omega
  · have hka : as[k]? = some v := by
      unfold ag_en at hk
      rcases Nat.lt_or_ge k (as.map some).length with q | q
      · rw [List.getElem?_append_left q, List.getElem?_map] at hk
        cases h9 : as[k]? with
        | none => rw [h9] at hk; cases hk
        | some w => rw [h9] at hk; cases hk; rfl
      · rw [List.getElem?_append_right q] at hk
        exact absurd (List.eq_of_mem_replicate (List.mem_of_getElem? hk)) (by intro q; cases q)
    have h1 := ag_en_args (f := f) as 0 k v hc hka
    rw [Nat.zero_add] at h1
    exact h0.2.2 _ h1
theorem ag_run_le : ∀ (F y pc : Nat) (ls : ag_Ls) (st : List ag_V) (σ : ag_S) (r : ag_Rs) (σ' : ag_S), ag_run F y pc ls st σ = some (r, σ') → σ.2.1 ≤ σ'.2.1 ∧ σ.2.2 ≤ σ'.2.2 := by
  intro F
  induction F with
  | zero => intro y pc ls st σ r σ' h; cases h
  | succ F ih =>
    intro y pc ls st σ r σ' h
    rw [ag_run] at h
    cases hs : ag_sp y pc ls st σ with
    | none => rw [hs] at h; cases h
    | some x =>
      rw [hs] at h
      rcases x with ⟨pc1, ls1, st1, σ1⟩ | ⟨r1, σ1⟩ | ⟨y1, as, rest⟩
      · have h1 := ag_sp_mono hs
        have h2 := ih _ _ _ _ _ _ _ h
        omega
      · cases h
        unfold ag_sp at hs
        split at hs
        · split at hs
          · cases hs
            exact ⟨Nat.le_succ _, Nat.le_add_right _ _⟩
          · cases hs
        · split at hs
          · split at hs
            · rename_i i len hd hlen
              have hi := ag_ex_inr hs
              cases i <;> first
                | (cases hi; done)
                | (simp only [ag_ex, ag_dn] at hs; repeat' split at hs
                   all_goals first | (cases hs; done) | (cases hs; exact ⟨Nat.le_refl _, Nat.le_refl _⟩))
                | (simp only [ag_ex] at hs; exact (ag_iv_ne hs).elim)
            · cases hs
          · cases hs
      · dsimp only at h
        cases hc : ag_run F y1 0 (ag_en y1 as) [] σ with
        | none => rw [hc] at h; cases h
        | some q =>
          rw [hc] at h
          obtain ⟨v | E, σ1⟩ := q
          · have h1 := ih _ _ _ _ _ _ _ hc
            have h2 := ih _ _ _ _ _ _ _ h
            omega
          · have h1 := ih _ _ _ _ _ _ _ hc
            dsimp only at h
            cases hh : ag_hd y E with
            | none => rw [hh] at h; cases h
            | some z =>
              rw [hh] at h
              dsimp only at h
              split at h
              · have h2 := ih _ _ _ _ _ _ _ h
                omega
              · cases h
