/-! THE SMALL MACHINE'S STEPS ARE THE MACHINE'S, 6: cells that are made. -/
theorem ag_w_ai : Cond.arrayClass .int ∈ lw_tbl := List.mem_of_getElem? (i := 474) (by decide +kernel)
theorem ag_w_ao : Cond.arrayOver (.array .int) ∈ lw_tbl := List.mem_of_getElem? (i := 614) (by decide +kernel)
theorem ag_w_ak {o idx : Nat} (h : ag_al o idx = true) : Cond.classLink (ag_on o) idx (FieldType.array .int).toString ∈ lw_tbl := by
  unfold ag_al at h
  simp only [Bool.and_eq_true, beq_iff_eq] at h
  obtain ⟨rfl, rfl⟩ := h
  exact List.mem_of_getElem? (i := 613) (by decide +kernel)
theorem ag_w_mk {o idx : Nat} (h : ag_mu o idx = true) : Cond.classLink (ag_on o) idx ("[" ++ (FieldType.array .int).toString) ∈ lw_tbl := by
  unfold ag_mu at h
  simp only [Bool.and_eq_true, beq_iff_eq] at h
  obtain ⟨rfl, rfl⟩ := h
  exact List.mem_of_getElem? (i := 615) (by decide +kernel)
/-- an entry of a pool that is a class to be made -/
def ag_NW (o idx ci : Nat) : Prop := ∃ r : vw_C, ag_cl[ci]? = some r ∧ Cond.classLink (ag_on o) idx r.1 ∈ lw_tbl ∧ Cond.instantiable r.1 r.2.2 ∈ lw_tbl ∧ Cond.initialized r.1 ∈ lw_tbl
def ag_KL (o idx : Nat) (v : Int) : Prop := Cond.constantLong (ag_on o) idx (Int64.ofInt v) ∈ lw_tbl
def ag_KI9 (o idx : Nat) (v : Int) : Prop := Cond.constant (ag_on o) idx (Int32.ofInt v) ∈ lw_tbl
def ag_KD9 (o idx : Nat) (v : UInt64) : Prop := Cond.constantDouble (ag_on o) idx v ∈ lw_tbl
theorem ag_nws_0 : ∀ q ∈ ag_nw_l.getD 0 [], ag_NW 0 q.1 q.2 := fun _ h => absurd h List.not_mem_nil
theorem ag_ki9s_0 : ∀ q ∈ ag_ki9_l.getD 0 [], ag_KI9 0 q.1 q.2 := fun _ h => absurd h List.not_mem_nil
theorem ag_kd9s_0 : ∀ q ∈ ag_kd9_l.getD 0 [], ag_KD9 0 q.1 q.2 := fun _ h => absurd h List.not_mem_nil
theorem ag_kls_0 : ∀ q ∈ ag_kl_l.getD 0 [], ag_KL 0 q.1 q.2 := fun _ h => absurd h List.not_mem_nil
theorem ag_nw_1_9 : ag_NW 1 9 0 := ⟨_, rfl, List.mem_of_getElem? (i := 498) (by decide +kernel), List.mem_of_getElem? (i := 355) (by decide +kernel), List.mem_of_getElem? (i := 22) (by decide +kernel)⟩
theorem ag_nw_1_18 : ag_NW 1 18 3 := ⟨_, rfl, List.mem_of_getElem? (i := 549) (by decide +kernel), List.mem_of_getElem? (i := 550) (by decide +kernel), List.mem_of_getElem? (i := 23) (by decide +kernel)⟩
theorem ag_nws_1 : ∀ q ∈ ag_nw_l.getD 1 [], ag_NW 1 q.1 q.2 := List.forall_mem_cons.mpr ⟨ag_nw_1_9, List.forall_mem_cons.mpr ⟨ag_nw_1_18, fun _ h => absurd h List.not_mem_nil⟩⟩
theorem ag_ki9s_1 : ∀ q ∈ ag_ki9_l.getD 1 [], ag_KI9 1 q.1 q.2 := fun _ h => absurd h List.not_mem_nil
theorem ag_kd9s_1 : ∀ q ∈ ag_kd9_l.getD 1 [], ag_KD9 1 q.1 q.2 := fun _ h => absurd h List.not_mem_nil
theorem ag_kls_1 : ∀ q ∈ ag_kl_l.getD 1 [], ag_KL 1 q.1 q.2 := fun _ h => absurd h List.not_mem_nil
theorem ag_nws_2 : ∀ q ∈ ag_nw_l.getD 2 [], ag_NW 2 q.1 q.2 := fun _ h => absurd h List.not_mem_nil
theorem ag_ki9s_2 : ∀ q ∈ ag_ki9_l.getD 2 [], ag_KI9 2 q.1 q.2 := fun _ h => absurd h List.not_mem_nil
theorem ag_kd9s_2 : ∀ q ∈ ag_kd9_l.getD 2 [], ag_KD9 2 q.1 q.2 := fun _ h => absurd h List.not_mem_nil
theorem ag_kls_2 : ∀ q ∈ ag_kl_l.getD 2 [], ag_KL 2 q.1 q.2 := fun _ h => absurd h List.not_mem_nil
theorem ag_nws_3 : ∀ q ∈ ag_nw_l.getD 3 [], ag_NW 3 q.1 q.2 := fun _ h => absurd h List.not_mem_nil
theorem ag_ki9s_3 : ∀ q ∈ ag_ki9_l.getD 3 [], ag_KI9 3 q.1 q.2 := fun _ h => absurd h List.not_mem_nil
theorem ag_kd9s_3 : ∀ q ∈ ag_kd9_l.getD 3 [], ag_KD9 3 q.1 q.2 := fun _ h => absurd h List.not_mem_nil
theorem ag_kls_3 : ∀ q ∈ ag_kl_l.getD 3 [], ag_KL 3 q.1 q.2 := fun _ h => absurd h List.not_mem_nil
theorem ag_nws_4 : ∀ q ∈ ag_nw_l.getD 4 [], ag_NW 4 q.1 q.2 := fun _ h => absurd h List.not_mem_nil
theorem ag_ki9s_4 : ∀ q ∈ ag_ki9_l.getD 4 [], ag_KI9 4 q.1 q.2 := fun _ h => absurd h List.not_mem_nil
theorem ag_kd9s_4 : ∀ q ∈ ag_kd9_l.getD 4 [], ag_KD9 4 q.1 q.2 := fun _ h => absurd h List.not_mem_nil
theorem ag_kls_4 : ∀ q ∈ ag_kl_l.getD 4 [], ag_KL 4 q.1 q.2 := fun _ h => absurd h List.not_mem_nil
theorem ag_nw_5_7 : ag_NW 5 7 2 := ⟨_, rfl, List.mem_of_getElem? (i := 440) (by decide +kernel), List.mem_of_getElem? (i := 441) (by decide +kernel), List.mem_of_getElem? (i := 19) (by decide +kernel)⟩
theorem ag_nw_5_16 : ag_NW 5 16 4 := ⟨_, rfl, List.mem_of_getElem? (i := 475) (by decide +kernel), List.mem_of_getElem? (i := 476) (by decide +kernel), List.mem_of_getElem? (i := 20) (by decide +kernel)⟩
theorem ag_nw_5_23 : ag_NW 5 23 1 := ⟨_, rfl, List.mem_of_getElem? (i := 493) (by decide +kernel), List.mem_of_getElem? (i := 203) (by decide +kernel), List.mem_of_getElem? (i := 21) (by decide +kernel)⟩
theorem ag_nws_5 : ∀ q ∈ ag_nw_l.getD 5 [], ag_NW 5 q.1 q.2 := List.forall_mem_cons.mpr ⟨ag_nw_5_7, List.forall_mem_cons.mpr ⟨ag_nw_5_16, List.forall_mem_cons.mpr ⟨ag_nw_5_23, fun _ h => absurd h List.not_mem_nil⟩⟩⟩
theorem ag_kl_5_265 : ag_KL 5 265 5754 := List.mem_of_getElem? (i := 427) (by decide +kernel)
theorem ag_kl_5_267 : ag_KL 5 267 31 := List.mem_of_getElem? (i := 428) (by decide +kernel)
theorem ag_ki9s_5 : ∀ q ∈ ag_ki9_l.getD 5 [], ag_KI9 5 q.1 q.2 := fun _ h => absurd h List.not_mem_nil
theorem ag_kd9s_5 : ∀ q ∈ ag_kd9_l.getD 5 [], ag_KD9 5 q.1 q.2 := fun _ h => absurd h List.not_mem_nil
theorem ag_kls_5 : ∀ q ∈ ag_kl_l.getD 5 [], ag_KL 5 q.1 q.2 := List.forall_mem_cons.mpr ⟨ag_kl_5_265, List.forall_mem_cons.mpr ⟨ag_kl_5_267, fun _ h => absurd h List.not_mem_nil⟩⟩
theorem ag_nw_6_7 : ag_NW 6 7 5 := ⟨_, rfl, List.mem_of_getElem? (i := 435) (by decide +kernel), List.mem_of_getElem? (i := 130) (by decide +kernel), List.mem_of_getElem? (i := 18) (by decide +kernel)⟩
theorem ag_nws_6 : ∀ q ∈ ag_nw_l.getD 6 [], ag_NW 6 q.1 q.2 := List.forall_mem_cons.mpr ⟨ag_nw_6_7, fun _ h => absurd h List.not_mem_nil⟩
theorem ag_ki9s_6 : ∀ q ∈ ag_ki9_l.getD 6 [], ag_KI9 6 q.1 q.2 := fun _ h => absurd h List.not_mem_nil
theorem ag_kd9s_6 : ∀ q ∈ ag_kd9_l.getD 6 [], ag_KD9 6 q.1 q.2 := fun _ h => absurd h List.not_mem_nil
theorem ag_kls_6 : ∀ q ∈ ag_kl_l.getD 6 [], ag_KL 6 q.1 q.2 := fun _ h => absurd h List.not_mem_nil
theorem ag_nw_7_9 : ag_NW 7 9 6 := ⟨_, rfl, List.mem_of_getElem? (i := 429) (by decide +kernel), List.mem_of_getElem? (i := 430) (by decide +kernel), List.mem_of_getElem? (i := 17) (by decide +kernel)⟩
theorem ag_nws_7 : ∀ q ∈ ag_nw_l.getD 7 [], ag_NW 7 q.1 q.2 := List.forall_mem_cons.mpr ⟨ag_nw_7_9, fun _ h => absurd h List.not_mem_nil⟩
theorem ag_ki9_7_7 : ag_KI9 7 7 2147483647 := List.mem_of_getElem? (i := 681) (by decide +kernel)
theorem ag_ki9_7_8 : ag_KI9 7 8 790386105 := List.mem_of_getElem? (i := 677) (by decide +kernel)
theorem ag_ki9s_7 : ∀ q ∈ ag_ki9_l.getD 7 [], ag_KI9 7 q.1 q.2 := List.forall_mem_cons.mpr ⟨ag_ki9_7_7, List.forall_mem_cons.mpr ⟨ag_ki9_7_8, fun _ h => absurd h List.not_mem_nil⟩⟩
theorem ag_kd9_7_76 : ag_KD9 7 76 4562254508917369340 := List.mem_of_getElem? (i := 926) (by decide +kernel)
theorem ag_kd9s_7 : ∀ q ∈ ag_kd9_l.getD 7 [], ag_KD9 7 q.1 q.2 := List.forall_mem_cons.mpr ⟨ag_kd9_7_76, fun _ h => absurd h List.not_mem_nil⟩
theorem ag_kls_7 : ∀ q ∈ ag_kl_l.getD 7 [], ag_KL 7 q.1 q.2 := fun _ h => absurd h List.not_mem_nil
theorem ag_nw_of {o idx : Nat} {v : Nat} (h : ag_nw o idx = some v) : ag_NW o idx v := by
  unfold ag_nw at h
  cases hf : (ag_nw_l.getD o []).find? (fun q => q.1 == idx) with
  | none => rw [hf] at h; cases h
  | some q =>
    rw [hf] at h
    have hm := List.mem_of_find?_eq_some hf
    have he := List.find?_some hf
    simp only [beq_iff_eq] at he
    have hq : q.2 = v := Option.some.inj h
    have key : ag_NW o q.1 q.2 := by
      match o, hm with
      | 0, hm => exact ag_nws_0 q hm
      | 1, hm => exact ag_nws_1 q hm
      | 2, hm => exact ag_nws_2 q hm
      | 3, hm => exact ag_nws_3 q hm
      | 4, hm => exact ag_nws_4 q hm
      | 5, hm => exact ag_nws_5 q hm
      | 6, hm => exact ag_nws_6 q hm
      | 7, hm => exact ag_nws_7 q hm
      | n + 8, hm => exact absurd hm List.not_mem_nil
    rw [he, hq] at key
    exact key
theorem ag_kl_of {o idx : Nat} {v : Int} (h : ag_kl o idx = some v) : ag_KL o idx v := by
  unfold ag_kl at h
  cases hf : (ag_kl_l.getD o []).find? (fun q => q.1 == idx) with
  | none => rw [hf] at h; cases h
  | some q =>
    rw [hf] at h
    have hm := List.mem_of_find?_eq_some hf
    have he := List.find?_some hf
    simp only [beq_iff_eq] at he
    have hq : q.2 = v := Option.some.inj h
    have key : ag_KL o q.1 q.2 := by
      match o, hm with
      | 0, hm => exact ag_kls_0 q hm
      | 1, hm => exact ag_kls_1 q hm
      | 2, hm => exact ag_kls_2 q hm
      | 3, hm => exact ag_kls_3 q hm
      | 4, hm => exact ag_kls_4 q hm
      | 5, hm => exact ag_kls_5 q hm
      | 6, hm => exact ag_kls_6 q hm
      | 7, hm => exact ag_kls_7 q hm
      | n + 8, hm => exact absurd hm List.not_mem_nil
    rw [he, hq] at key
    exact key
theorem ag_ki9_of {o idx : Nat} {v : Int} (h : ag_ki9 o idx = some v) : ag_KI9 o idx v := by
  unfold ag_ki9 at h
  cases hf : (ag_ki9_l.getD o []).find? (fun q => q.1 == idx) with
  | none => rw [hf] at h; cases h
  | some q =>
    rw [hf] at h
    have hm := List.mem_of_find?_eq_some hf
    have he := List.find?_some hf
    simp only [beq_iff_eq] at he
    have hq : q.2 = v := Option.some.inj h
    have key : ag_KI9 o q.1 q.2 := by
      match o, hm with
      | 0, hm => exact ag_ki9s_0 q hm
      | 1, hm => exact ag_ki9s_1 q hm
      | 2, hm => exact ag_ki9s_2 q hm
      | 3, hm => exact ag_ki9s_3 q hm
      | 4, hm => exact ag_ki9s_4 q hm
      | 5, hm => exact ag_ki9s_5 q hm
      | 6, hm => exact ag_ki9s_6 q hm
      | 7, hm => exact ag_ki9s_7 q hm
      | n + 8, hm => exact absurd hm List.not_mem_nil
    rw [he, hq] at key
    exact key
theorem ag_kd9_of {o idx : Nat} {v : UInt64} (h : ag_kd9 o idx = some v) : ag_KD9 o idx v := by
  unfold ag_kd9 at h
  cases hf : (ag_kd9_l.getD o []).find? (fun q => q.1 == idx) with
  | none => rw [hf] at h; cases h
  | some q =>
    rw [hf] at h
    have hm := List.mem_of_find?_eq_some hf
    have he := List.find?_some hf
    simp only [beq_iff_eq] at he
    have hq : q.2 = v := Option.some.inj h
    have key : ag_KD9 o q.1 q.2 := by
      match o, hm with
      | 0, hm => exact ag_kd9s_0 q hm
      | 1, hm => exact ag_kd9s_1 q hm
      | 2, hm => exact ag_kd9s_2 q hm
      | 3, hm => exact ag_kd9s_3 q hm
      | 4, hm => exact ag_kd9s_4 q hm
      | 5, hm => exact ag_kd9s_5 q hm
      | 6, hm => exact ag_kd9s_6 q hm
      | 7, hm => exact ag_kd9s_7 q hm
      | n + 8, hm => exact absurd hm List.not_mem_nil
    rw [he, hq] at key
    exact key
theorem ag_dfl_0 : (ag_fds.getD 0 []).length = 10 := rfl
theorem ag_dfl_1 : (ag_fds.getD 1 []).length = 3 := rfl
theorem ag_dfl_2 : (ag_fds.getD 2 []).length = 7 := rfl
theorem ag_dfl_3 : (ag_fds.getD 3 []).length = 7 := rfl
theorem ag_dfl_4 : (ag_fds.getD 4 []).length = 3 := rfl
theorem ag_dfl_5 : (ag_fds.getD 5 []).length = 5 := rfl
theorem ag_dfl_6 : (ag_fds.getD 6 []).length = 14 := rfl
theorem ag_dfl {ci : Nat} {r : vw_C} (h : ag_cl[ci]? = some r) : (ag_fds.getD ci []).length = r.2.2 := by
  match ci, h with
  | 0, h => cases h; exact ag_dfl_0
  | 1, h => cases h; exact ag_dfl_1
  | 2, h => cases h; exact ag_dfl_2
  | 3, h => cases h; exact ag_dfl_3
  | 4, h => cases h; exact ag_dfl_4
  | 5, h => cases h; exact ag_dfl_5
  | 6, h => cases h; exact ag_dfl_6
  | n + 7, h => cases h
section AGZ3
variable {p : Program} {l : Launch} {e : Env} {R : Room} {s : State} {m : MethodId} {args : Array Value} {below : List Frame} {meth : Method} {c : Code} {H : Heap} {locs : List Loc} {cells slots : Nat} {Q : State → Prop} {G : ag_G} {y pc : Nat} {A : Array Slot} {ls ls' : ag_Ls} {st st' : List ag_V} {σ σ' : ag_S} {pc' : Nat}

theorem ag_s_newarray (C : ag_cx G y p l R s m meth c) (hI : ag_in G s σ H locs) (hL : ag_lr (ag_f G) ls (ag_mx y) A) {t : ArrayType} (hd : decode (ag_by y) pc = .ok (.newarray t, 2)) (h : ag_ex y (.newarray t) 2 pc ls st σ = some (Sum.inl (pc', (ls', (st', σ'))))) (hc1 : cells + (σ'.2.1 - σ.2.1) ≤ R.cells) (hc2 : slots + (σ'.2.2 - σ.2.2) ≤ R.slots) (kk : ag_Go p l e R s m args below meth c cells slots Q G y σ pc' ls' st' σ') : ag_At p l e R s m args below meth c H locs cells slots Q G pc A st := by
  obtain ⟨hG, hx, hb, hml, hr, hown, hlk, hnm, hW, hs0, hRf, hRl⟩ := C
  unfold ag_ex at h
  dsimp only at h
  split at h
  · rename_i n st1
    split at h
    · rename_i hn
      have hn0 : ¬ Int32.ofInt n < 0 := fun q => by
        have q2 : Int32.ofInt n < Int32.ofInt 0 := q
        rw [ag_lt_i, ag_nm_z] at q2
        omega
      have hKy := ag_K hG hW
      cases t with
      | int =>
        obtain ⟨rfl, rfl, rfl, rfl⟩ := ag_go_inj h
        dsimp only at hc1 hc2
        rw [Nat.add_sub_cancel_left] at hc1 hc2
        refine va_newaK (N := (ag_nm n).toNat) hx hb (atype := .int) (ag_word hG hW ag_w_ai rfl args) rfl hd rfl hn0 rfl (by show _ * 4 ≤ _; omega) hc1 hc2 rfl fun H1 cA e1 z1 o1 hAr hNm => ?_
        have hcA : cA = G.2.2.2 0 := Option.some.inj (hNm.symm.trans (hKy.2 0 _ rfl).2)
        subst hcA
        obtain ⟨h7, h8⟩ := ag_in_new (n := σ.2.2 + (ag_nm n).toNat) (c1 := Sum.inl ((ag_nm n).toNat, fun _ => 0)) hI z1 o1 e1 trivial
        have h9 := kk H1 locs A h7 hL
        dsimp only at h9
        rw [Nat.add_sub_cancel_left, Nat.add_sub_cancel_left, List.map_cons, show ag_v (ag_f G) (ag_R (σ.2.1 + 1)) = .ref H.size from congrArg Value.ref h8] at h9
        exact h9
      | _ => cases h
    · cases h
  · cases h

theorem ag_s_anewarray (C : ag_cx G y p l R s m meth c) (hI : ag_in G s σ H locs) (hL : ag_lr (ag_f G) ls (ag_mx y) A) {idx : Nat} (hd : decode (ag_by y) pc = .ok (.anewarray idx, 3)) (h : ag_ex y (.anewarray idx) 3 pc ls st σ = some (Sum.inl (pc', (ls', (st', σ'))))) (hc1 : cells + (σ'.2.1 - σ.2.1) ≤ R.cells) (hc2 : slots + (σ'.2.2 - σ.2.2) ≤ R.slots) (kk : ag_Go p l e R s m args below meth c cells slots Q G y σ pc' ls' st' σ') : ag_At p l e R s m args below meth c H locs cells slots Q G pc A st := by
  obtain ⟨hG, hx, hb, hml, hr, hown, hlk, hnm, hW, hs0, hRf, hRl⟩ := C
  unfold ag_ex at h
  dsimp only at h
  split at h
  · rename_i n st1
    split at h
    · rename_i hn
      obtain ⟨hn1, hn2, hal⟩ := hn
      have hn0 : ¬ Int32.ofInt n < 0 := fun q => by
        have q2 : Int32.ofInt n < Int32.ofInt 0 := q
        rw [ag_lt_i, ag_nm_z] at q2
        omega
      have hKy := ag_K hG hW
      obtain ⟨rfl, rfl, rfl, rfl⟩ := ag_go_inj h
      dsimp only at hc1 hc2
      rw [Nat.add_sub_cancel_left] at hc1 hc2
      have hown9 : s.vm.findClass (ag_on (ag_ow y)) = some m.cls := by rw [ag_on_ok]; exact hown
      refine W.anewA hx hb hown9 (t := .int) (ag_word hG hW (ag_w_ak hal) rfl args) (over_moved hW.alike (hG.1 _ ag_w_ao)) rfl hd rfl hn0 (by show (ag_nm n).toNat * 4 ≤ _; omega) hc1 hc2 fun cA kA comp f1 f2 f3 f4 => ?_
      generalize hH1 : H.push ({ cls := cA, slots := Array.replicate (Int32.ofInt n).toNatClampNeg .null, vm := .none } : Cell) = H1
      have z1 : H1.size = H.size + 1 := by rw [← hH1, Array.size_push]
      have e1 : H1[H.size]? = some (arrV cA (ag_nm n).toNat (fun _ => .null)) := by rw [← hH1, Array.getElem?_push_size, ← arrV_new]; rfl
      have o1 : ∀ q : Nat, q < H.size → H1[q]? = H[q]? := fun q hq => by rw [← hH1, Array.getElem?_push, if_neg (Nat.ne_of_lt hq)]
      have hcA : cA = G.2.2.2 2 := Option.some.inj (f1.symm.trans (hKy.2 1 _ rfl).2)
      subst hcA
      obtain ⟨h7, h8⟩ := ag_in_new (n := σ.2.2 + (ag_nm n).toNat) (c1 := Sum.inr (Sum.inr (Sum.inl ((ag_nm n).toNat, fun _ => none)))) hI z1 o1 e1 trivial
      have h9 := kk H1 locs A h7 hL
      dsimp only at h9
      rw [Nat.add_sub_cancel_left, Nat.add_sub_cancel_left, List.map_cons, show ag_v (ag_f G) (ag_R (σ.2.1 + 1)) = .ref H.size from congrArg Value.ref h8] at h9
      exact h9
    · cases h
  · cases h

theorem ag_s_new (C : ag_cx G y p l R s m meth c) (hI : ag_in G s σ H locs) (hL : ag_lr (ag_f G) ls (ag_mx y) A) {idx : Nat} (hd : decode (ag_by y) pc = .ok (.new idx, 3)) (h : ag_ex y (.new idx) 3 pc ls st σ = some (Sum.inl (pc', (ls', (st', σ'))))) (hc1 : cells + (σ'.2.1 - σ.2.1) ≤ R.cells) (hc2 : slots + (σ'.2.2 - σ.2.2) ≤ R.slots) (kk : ag_Go p l e R s m args below meth c cells slots Q G y σ pc' ls' st' σ') : ag_At p l e R s m args below meth c H locs cells slots Q G pc A st := by
  obtain ⟨hG, hx, hb, hml, hr, hown, hlk, hnm, hW, hs0, hRf, hRl⟩ := C
  unfold ag_ex at h
  dsimp only at h
  split at h
  · rename_i ci hci
    obtain ⟨rfl, rfl, rfl, rfl⟩ := ag_go_inj h
    dsimp only at hc1 hc2
    rw [Nat.add_sub_cancel_left] at hc1 hc2
    have hown9 : s.vm.findClass (ag_on (ag_ow y)) = some m.cls := by rw [ag_on_ok]; exact hown
    obtain ⟨⟨C0, T0, N0⟩, hr0, hw1, hw2, hw3⟩ := ag_nw_of hci
    obtain ⟨hlay, ty0, hty0, hnm0⟩ := ag_lay hr0
    have hts0 : ∀ w ∈ u_ws C0 T0 N0, w.before args s = true := fun w hw => ag_word hG hW (hlay w hw).1 (hlay w hw).2 args
    have hKy := ag_K hG hW
    have hKn := hKy.1 ci _ hr0
    have hlen : (ag_df ci).length = N0 := by unfold ag_df; rw [List.length_map]; exact ag_dfl hr0
    rw [hlen] at hc2
    refine W.newcK hx hb hown9 (ag_word hG hW hw1 rfl args) (ag_word hG hW hw2 rfl args) (ag_word hG hW hw3 rfl args) rfl hd hc1 hc2 hKn.2.1 rfl fun H1 kC hkC e1 z1 o1 => ?_
    have hfs : ∀ j, j < N0 → defaultValue (ty0 j) = vp_V ((ag_df ci).map (ag_v (ag_f G))) j := by
      intro j hj
      have h1 := ag_fck_all hr0 hj
      unfold ag_fck at h1
      rw [hr0] at h1
      have hjl : j < (ag_fds.getD ci []).length := by rw [ag_dfl hr0]; exact hj
      rw [List.getElem?_eq_getElem hjl] at h1
      generalize hq : (ag_fds.getD ci [])[j] = q at h1
      obtain ⟨isI, fin⟩ := q
      dsimp only at h1
      simp only [Bool.and_eq_true] at h1
      have h2 := h1.2
      rw [hty0 j hj] at h2
      show defaultValue (ty0 j) = (((ag_df ci).map (ag_v (ag_f G))).getD j .null)
      unfold ag_df
      rw [List.getD_eq_getElem?_getD, List.getElem?_map, List.getElem?_map, List.getElem?_eq_getElem hjl, hq]
      generalize ty0 j = t at h2
      cases t with
      | int => dsimp only at h2; rw [h2]; rfl
      | object C => dsimp only at h2; rw [Bool.not_eq_true'] at h2; rw [h2]; rfl
      | array C => dsimp only at h2; rw [Bool.not_eq_true'] at h2; rw [h2]; rfl
      | _ => cases h2
    obtain ⟨h7, h8⟩ := ag_in_new (n := σ.2.2 + (ag_df ci).length) (c1 := Sum.inr (Sum.inr (Sum.inr (ci, ag_df ci)))) hI z1 o1 ⟨_, hr0, (u_born ty0 hts0 (fun _ h => h) hKn hkC e1 hty0).to hfs⟩ ⟨_, hr0, hlen⟩
    have h9 := kk H1 locs A h7 hL
    dsimp only at h9
    rw [Nat.add_sub_cancel_left, Nat.add_sub_cancel_left, List.map_cons, show ag_v (ag_f G) (ag_R (σ.2.1 + 1)) = .ref H.size from congrArg Value.ref h8, hlen] at h9
    exact h9
  · cases h

theorem ag_s_ldc (C : ag_cx G y p l R s m meth c) (hI : ag_in G s σ H locs) (hL : ag_lr (ag_f G) ls (ag_mx y) A) {idx : Nat} (hd : decode (ag_by y) pc = .ok (.ldc idx, 2)) (h : ag_ex y (.ldc idx) 2 pc ls st σ = some (Sum.inl (pc', (ls', (st', σ'))))) (kk : ag_Go p l e R s m args below meth c cells slots Q G y σ pc' ls' st' σ') : ag_At p l e R s m args below meth c H locs cells slots Q G pc A st := by
  obtain ⟨hG, hx, hb, hml, hr, hown, hlk, hnm, hW, hs0, hRf, hRl⟩ := C
  unfold ag_ex at h
  dsimp only at h
  split at h
  · rename_i v hv
    obtain ⟨rfl, rfl, rfl, rfl⟩ := ag_go_inj h
    have hown9 : s.vm.findClass (ag_on (ag_ow y)) = some m.cls := by rw [ag_on_ok]; exact hown
    exact lv_ldc hx hb hown9 (ag_word hG hW (ag_ki9_of hv) rfl args) hd (kk.same hI hL)
  · cases h

theorem ag_s_ldc2 (C : ag_cx G y p l R s m meth c) (hI : ag_in G s σ H locs) (hL : ag_lr (ag_f G) ls (ag_mx y) A) {idx : Nat} (hd : decode (ag_by y) pc = .ok (.ldc2_w idx, 3)) (h : ag_ex y (.ldc2_w idx) 3 pc ls st σ = some (Sum.inl (pc', (ls', (st', σ'))))) (kk : ag_Go p l e R s m args below meth c cells slots Q G y σ pc' ls' st' σ') : ag_At p l e R s m args below meth c H locs cells slots Q G pc A st := by
  obtain ⟨hG, hx, hb, hml, hr, hown, hlk, hnm, hW, hs0, hRf, hRl⟩ := C
  unfold ag_ex at h
  dsimp only at h
  have hown9 : s.vm.findClass (ag_on (ag_ow y)) = some m.cls := by rw [ag_on_ok]; exact hown
  split at h
  · rename_i v hv
    obtain ⟨rfl, rfl, rfl, rfl⟩ := ag_go_inj h
    exact lv_ldc2 hx hb hown9 (ag_word hG hW (ag_kl_of hv) rfl args) hd (kk.same hI hL)
  · split at h
    · rename_i v hv
      obtain ⟨rfl, rfl, rfl, rfl⟩ := ag_go_inj h
      exact lv_ldc2d hx hb hown9 (ag_word hG hW (ag_kd9_of hv) rfl args) hd (kk.same hI hL)
    · cases h

theorem ag_s_multi (C : ag_cx G y p l R s m meth c) (hI : ag_in G s σ H locs) (hL : ag_lr (ag_f G) ls (ag_mx y) A) {idx dims : Nat} (hd : decode (ag_by y) pc = .ok (.multianewarray idx dims, 4)) (h : ag_ex y (.multianewarray idx dims) 4 pc ls st σ = some (Sum.inl (pc', (ls', (st', σ'))))) (hc1 : cells + (σ'.2.1 - σ.2.1) ≤ R.cells) (hc2 : slots + (σ'.2.2 - σ.2.2) ≤ R.slots) (kk : ag_Go p l e R s m args below meth c cells slots Q G y σ pc' ls' st' σ') : ag_At p l e R s m args below meth c H locs cells slots Q G pc A st := by
  obtain ⟨hG, hx, hb, hml, hr, hown, hlk, hnm, hW, hs0, hRf, hRl⟩ := C
  unfold ag_ex at h
  dsimp only at h
  split at h
  · rename_i k n st1
    split at h
    · rename_i hn
      obtain ⟨rfl, hn1, hn2, hk1, hk2, hmu⟩ := hn
      have hneg : ∀ z : Int, 0 ≤ ag_nm z → ¬ Int32.ofInt z < 0 := fun z hz9 q => by
        have q2 : Int32.ofInt z < Int32.ofInt 0 := q
        rw [ag_lt_i, ag_nm_z] at q2
        omega
      have hKy := ag_K hG hW
      obtain ⟨rfl, rfl, rfl, rfl⟩ := ag_go_inj h
      dsimp only at hc1 hc2
      have hown9 : s.vm.findClass (ag_on (ag_ow y)) = some m.cls := by rw [ag_on_ok]; exact hown
      intro T hT Xs
      obtain ⟨vm₁, cA, comp, -, fA, fC, -, -, X', step⟩ := Xs.multianewarray2F (ty := .int) hx hown9 (ag_word hG hW (ag_w_mk hmu) rfl args) (over_moved hW.alike (hG.1 _ ag_w_ao)) (ag_word hG hW ag_w_ai rfl args) (g := F0 m pc A (.int (Int32.ofInt k) :: .int (Int32.ofInt n) :: st1.map (ag_v (ag_f G)))) rfl (by rw [hb]; exact hd) rfl (hneg n hn1) (hneg k hk1) (by show (ag_nm n).toNat * 4 ≤ _; omega) (by show (ag_nm k).toNat * 4 ≤ _; omega) (by show (ag_nm k).toNat ≤ _; omega) rfl rfl (by show cells + (1 + (ag_nm n).toNat) ≤ _; omega) (by show slots + ((ag_nm n).toNat + (ag_nm n).toNat * (ag_nm k).toNat) ≤ _; omega)
      have hcA : cA = G.2.2.2 2 := Option.some.inj (fA.symm.trans (hKy.2 1 _ rfl).2)
      have hcI : comp = G.2.2.2 0 := Option.some.inj (fC.symm.trans (hKy.2 0 _ rfl).2)
      subst hcA
      subst hcI
      have X' : Stand p l e R s m args below meth c (Jvm.Free.Multi.fill (T.setVm vm₁) (G.2.2.2 2) (G.2.2.2 0) (ag_nm n).toNat (ag_nm k).toNat (defaultValue .int) (ag_nm n).toNat) locs (cells + 1 + (ag_nm n).toNat) (slots + (ag_nm n).toNat + (ag_nm n).toNat * (ag_nm k).toNat) := X'
      have step : ∀ target, Steps p.tables e below ((Jvm.Free.Multi.fill (T.setVm vm₁) (G.2.2.2 2) (G.2.2.2 0) (ag_nm n).toNat (ag_nm k).toNat (defaultValue .int) (ag_nm n).toNat).setTop { (F0 m pc A (.int (Int32.ofInt k) :: .int (Int32.ofInt n) :: st1.map (ag_v (ag_f G)))) with pc := pc + 4, stack := .ref T.heap.size :: st1.map (ag_v (ag_f G)) }) target → Steps p.tables e below (T.setTop (F0 m pc A (.int (Int32.ofInt k) :: .int (Int32.ofInt n) :: st1.map (ag_v (ag_f G))))) target := step
      generalize hN : (ag_nm n).toNat = N at *
      generalize hM : (ag_nm k).toNat = M at *
      have hTh : (T.setVm vm₁).heap = H := hT
      obtain ⟨f1, f2, -, -⟩ := Jvm.Free.Multi.fill_facts (T.setVm vm₁) (G.2.2.2 2) (G.2.2.2 0) N M (defaultValue .int) N
      have hold : ∀ x : Nat, x < H.size → (Jvm.Free.Multi.fill (T.setVm vm₁) (G.2.2.2 2) (G.2.2.2 0) N M (defaultValue .int) N).heap[x]? = H[x]? := fun x hx => by
        have := Jvm.Free.Multi.fill_old (T.setVm vm₁) (G.2.2.2 2) (G.2.2.2 0) N M (defaultValue .int) (a := x) (by rw [hTh]; exact hx) N
        rw [hTh] at this
        exact this
      have hrow : ∀ j : Nat, j < N → (Jvm.Free.Multi.fill (T.setVm vm₁) (G.2.2.2 2) (G.2.2.2 0) N M (defaultValue .int) N).heap[H.size + 1 + j]? = some (Jvm.Free.Multi.innerC (G.2.2.2 0) M (defaultValue .int)) := fun j hj => by
        have := Jvm.Free.Multi.fill_inner (T.setVm vm₁) (G.2.2.2 2) (G.2.2.2 0) N M (defaultValue .int) N j hj
        rw [hTh] at this
        exact this
      generalize Jvm.Free.Multi.fill (T.setVm vm₁) (G.2.2.2 2) (G.2.2.2 0) N M (defaultValue .int) N = F at X' step f1 f2 hold hrow
      rw [hTh] at f1 f2
      have hHs : H.size = G.1.heap.size + σ.2.1 := hI.1.1
      have h7 : ag_in G s (ag_mn σ.1 (σ.2.1 + 1) N M, (σ.2.1 + 1 + N, σ.2.2 + (N + N * M))) F.heap locs := by
        refine ⟨⟨?_, fun q hq => (hold q (by omega)).trans (hI.1.2.1 q hq), fun z cl hz => ?_⟩, ?_, hI.2.2⟩
        · show F.heap.size = G.1.heap.size + (σ.2.1 + 1 + N)
          rw [f1]; omega
        · unfold ag_mn at hz
          dsimp only at hz
          split at hz
          · rename_i hzq
            cases hz
            subst hzq
            refine Or.inr ⟨by omega, ?_, trivial⟩
            show F.heap[G.1.heap.size + σ.2.1]? = some (vp_cell _ _)
            rw [← hHs, f2, vr_outer, vp_cell_q]
            congr 2
            funext i
            by_cases hi : i < N
            · simp only [hi, if_true, Option.map_some]
              show va_rf (some (H.size + 1 + i)) = va_rf (some (ag_f G (σ.2.1 + 1 + 1 + i)))
              rw [hHs, ag_f_pos (by omega)]
              congr 2
              omega
            · simp only [hi, if_false, Option.map_none]
          · split at hz
            · rename_i hz1 hz2
              cases hz
              refine Or.inr ⟨by omega, ?_, trivial⟩
              show F.heap[ag_f G z]? = some (vp_cell _ _)
              rw [ag_f_pos (by omega), show G.1.heap.size + (z - 1) = H.size + 1 + (z - (σ.2.1 + 2)) by omega, hrow _ (by omega)]
              exact congrArg some (arrV_new (G.2.2.2 0) M (.int 0))
            · rcases hI.1.2.2 z cl hz with ⟨hz0, kk9, g, hcl, hX⟩ | ⟨hz0, hat, hwf⟩
              · obtain ⟨scr, q1, q2⟩ := hX
                exact Or.inl ⟨hz0, kk9, g, hcl, ⟨scr, by rw [hold _ (Array.getElem?_eq_some_iff.mp q1).1]; exact q1, q2⟩⟩
              · exact Or.inr ⟨hz0, hat.kept (hold _ hat.lt), hwf⟩
        · rw [f1]; have := hI.2.1; omega
      have h9 := kk F.heap locs A h7 hL
      dsimp only at h9
      rw [show σ.2.1 + 1 + N - σ.2.1 = 1 + N by omega, Nat.add_sub_cancel_left, List.map_cons, show ag_v (ag_f G) (ag_R (σ.2.1 + 1)) = .ref T.heap.size from congrArg Value.ref (by rw [hT, hHs]; rfl), ← Nat.add_assoc, ← Nat.add_assoc] at h9
      obtain ⟨t, a1, b1⟩ := h9 F rfl X'
      exact ⟨t, step t a1, b1⟩
    · cases h
  · cases h

end AGZ3
