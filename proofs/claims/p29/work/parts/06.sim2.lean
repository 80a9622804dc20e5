/-! THE SMALL MACHINE'S STEPS ARE THE MACHINE'S, 2: the steps that touch no cell. -/
section AGX
variable {p : Program} {l : Launch} {e : Env} {R : Room} {s : State} {m : MethodId} {args : Array Value} {below : List Frame} {meth : Method} {c : Code} {H : Heap} {locs : List Loc} {cells slots : Nat} {Q : State → Prop} {G : ag_G} {y pc : Nat} {A : Array Slot} {ls ls' : ag_Ls} {st st' : List ag_V} {σ σ' : ag_S} {pc' : Nat}
theorem ag_s_iconst (C : ag_cx G y p l R s m meth c) (hI : ag_in G s σ H locs) (hL : ag_lr (ag_f G) ls (ag_mx y) A) {n : Int} (hd : decode (ag_by y) pc = .ok (.iconst n, 1)) (h : ag_ex y (.iconst n) 1 pc ls st σ = some (Sum.inl (pc', (ls', (st', σ'))))) (kk : ag_Go p l e R s m args below meth c cells slots Q G y σ pc' ls' st' σ') : ag_At p l e R s m args below meth c H locs cells slots Q G pc A st := by
  obtain ⟨-, hx, hb, -⟩ := C
  obtain ⟨rfl, rfl, rfl, rfl⟩ := ag_go_inj h
  exact lv_iconst hx hb hd rfl (kk.same hI hL)
theorem ag_s_bipush (C : ag_cx G y p l R s m meth c) (hI : ag_in G s σ H locs) (hL : ag_lr (ag_f G) ls (ag_mx y) A) {n : Int} (hd : decode (ag_by y) pc = .ok (.bipush n, 2)) (h : ag_ex y (.bipush n) 2 pc ls st σ = some (Sum.inl (pc', (ls', (st', σ'))))) (kk : ag_Go p l e R s m args below meth c cells slots Q G y σ pc' ls' st' σ') : ag_At p l e R s m args below meth c H locs cells slots Q G pc A st := by
  obtain ⟨-, hx, hb, -⟩ := C
  unfold ag_ex at h
  dsimp only at h
  split at h
  · rename_i hn
    obtain ⟨rfl, rfl, rfl, rfl⟩ := ag_go_inj h
    refine lv_bipush hx hb hd ?_ (kk.same hI hL)
    apply Int32.toInt_inj.mp
    rw [Int8.toInt_toInt32, Int8.toInt_ofInt_of_le (by omega) (by omega), Int32.toInt_ofInt_of_le (by omega) (by omega)]
  · cases h
theorem ag_s_sipush (C : ag_cx G y p l R s m meth c) (hI : ag_in G s σ H locs) (hL : ag_lr (ag_f G) ls (ag_mx y) A) {n : Int} (hd : decode (ag_by y) pc = .ok (.sipush n, 3)) (h : ag_ex y (.sipush n) 3 pc ls st σ = some (Sum.inl (pc', (ls', (st', σ'))))) (kk : ag_Go p l e R s m args below meth c cells slots Q G y σ pc' ls' st' σ') : ag_At p l e R s m args below meth c H locs cells slots Q G pc A st := by
  obtain ⟨-, hx, hb, -⟩ := C
  unfold ag_ex at h
  dsimp only at h
  split at h
  · rename_i hn
    obtain ⟨rfl, rfl, rfl, rfl⟩ := ag_go_inj h
    refine lv_sipush hx hb hd ?_ (kk.same hI hL)
    apply Int32.toInt_inj.mp
    rw [Int16.toInt_toInt32, Int16.toInt_ofInt_of_le (by omega) (by omega), Int32.toInt_ofInt_of_le (by omega) (by omega)]
  · cases h
theorem ag_s_lconst (C : ag_cx G y p l R s m meth c) (hI : ag_in G s σ H locs) (hL : ag_lr (ag_f G) ls (ag_mx y) A) {n : Fin 2} (hd : decode (ag_by y) pc = .ok (.lconst n, 1)) (h : ag_ex y (.lconst n) 1 pc ls st σ = some (Sum.inl (pc', (ls', (st', σ'))))) (kk : ag_Go p l e R s m args below meth c cells slots Q G y σ pc' ls' st' σ') : ag_At p l e R s m args below meth c H locs cells slots Q G pc A st := by
  obtain ⟨-, hx, hb, -⟩ := C
  obtain ⟨rfl, rfl, rfl, rfl⟩ := ag_go_inj h
  exact lv_lconst hx hb hd (Int64.ofInt_eq_ofNat).symm (kk.same hI hL)
theorem ag_s_dconst (C : ag_cx G y p l R s m meth c) (hI : ag_in G s σ H locs) (hL : ag_lr (ag_f G) ls (ag_mx y) A) {n : Fin 2} (hd : decode (ag_by y) pc = .ok (.dconst n, 1)) (h : ag_ex y (.dconst n) 1 pc ls st σ = some (Sum.inl (pc', (ls', (st', σ'))))) (kk : ag_Go p l e R s m args below meth c cells slots Q G y σ pc' ls' st' σ') : ag_At p l e R s m args below meth c H locs cells slots Q G pc A st := by
  obtain ⟨-, hx, hb, -⟩ := C
  unfold ag_ex at h
  dsimp only at h
  split at h
  · rename_i hn
    subst hn
    obtain ⟨rfl, rfl, rfl, rfl⟩ := ag_go_inj h
    exact lv_dconst0 hx hb hd (kk.same hI hL)
  · cases h
/-- a load: the local is there, and of its kind -/
theorem ag_ld_of {q k len : Nat} (h : ag_ld q k len pc ls st σ = some (Sum.inl (pc', (ls', (st', σ'))))) : ∃ v, ls[k]? = some (some v) ∧ ag_ki q v = true ∧ pc' = pc + len ∧ ls' = ls ∧ st' = v :: st ∧ σ' = σ := by
  unfold ag_ld at h
  split at h
  · rename_i v hv
    split at h
    · rename_i hk
      obtain ⟨rfl, rfl, rfl, rfl⟩ := ag_go_inj h
      exact ⟨v, hv, hk, rfl, rfl, rfl, rfl⟩
    · cases h
  · cases h
theorem ag_ki0 {v : ag_V} (h : ag_ki 0 v = true) : ∃ x, v = ag_I x := by
  rcases v with x | x | x | _ | x <;> first | exact ⟨x, rfl⟩ | cases h
theorem ag_ki1 {v : ag_V} (h : ag_ki 1 v = true) : ∃ x, v = ag_L x := by
  rcases v with x | x | x | _ | x <;> first | exact ⟨x, rfl⟩ | cases h
theorem ag_ki2 {v : ag_V} (h : ag_ki 2 v = true) : ∃ x, v = ag_F x := by
  rcases v with x | x | x | _ | x <;> first | exact ⟨x, rfl⟩ | cases h
theorem ag_ki3 {v : ag_V} (h : ag_ki 3 v = true) : ∃ x, v = ag_R x := by
  rcases v with x | x | x | _ | x <;> first | exact ⟨x, rfl⟩ | cases h
theorem ag_s_iload_n (C : ag_cx G y p l R s m meth c) (hI : ag_in G s σ H locs) (hL : ag_lr (ag_f G) ls (ag_mx y) A) {k : Fin 4} (hd : decode (ag_by y) pc = .ok (.iload_n k, 1)) (h : ag_ex y (.iload_n k) 1 pc ls st σ = some (Sum.inl (pc', (ls', (st', σ'))))) (kk : ag_Go p l e R s m args below meth c cells slots Q G y σ pc' ls' st' σ') : ag_At p l e R s m args below meth c H locs cells slots Q G pc A st := by
  obtain ⟨-, hx, hb, -⟩ := C
  obtain ⟨v, hv, hk, rfl, rfl, rfl, rfl⟩ := ag_ld_of h
  obtain ⟨x, rfl⟩ := ag_ki0 hk
  exact lv_iload_n hx hb hd rfl (hL.2.2.2 _ _ hv) (kk.same hI hL)
theorem ag_s_iload (C : ag_cx G y p l R s m meth c) (hI : ag_in G s σ H locs) (hL : ag_lr (ag_f G) ls (ag_mx y) A) {k : Nat} (hd : decode (ag_by y) pc = .ok (.iload k, 2)) (h : ag_ex y (.iload k) 2 pc ls st σ = some (Sum.inl (pc', (ls', (st', σ'))))) (kk : ag_Go p l e R s m args below meth c cells slots Q G y σ pc' ls' st' σ') : ag_At p l e R s m args below meth c H locs cells slots Q G pc A st := by
  obtain ⟨-, hx, hb, -⟩ := C
  obtain ⟨v, hv, hk, rfl, rfl, rfl, rfl⟩ := ag_ld_of h
  obtain ⟨x, rfl⟩ := ag_ki0 hk
  exact lv_iload hx hb hd (hL.2.2.2 _ _ hv) (kk.same hI hL)
theorem ag_s_lload_n (C : ag_cx G y p l R s m meth c) (hI : ag_in G s σ H locs) (hL : ag_lr (ag_f G) ls (ag_mx y) A) {k : Fin 4} (hd : decode (ag_by y) pc = .ok (.lload_n k, 1)) (h : ag_ex y (.lload_n k) 1 pc ls st σ = some (Sum.inl (pc', (ls', (st', σ'))))) (kk : ag_Go p l e R s m args below meth c cells slots Q G y σ pc' ls' st' σ') : ag_At p l e R s m args below meth c H locs cells slots Q G pc A st := by
  obtain ⟨-, hx, hb, -⟩ := C
  obtain ⟨v, hv, hk, rfl, rfl, rfl, rfl⟩ := ag_ld_of h
  obtain ⟨x, rfl⟩ := ag_ki1 hk
  exact lv_lload_n hx hb hd rfl (hL.2.2.2 _ _ hv) (kk.same hI hL)
theorem ag_s_lload (C : ag_cx G y p l R s m meth c) (hI : ag_in G s σ H locs) (hL : ag_lr (ag_f G) ls (ag_mx y) A) {k : Nat} (hd : decode (ag_by y) pc = .ok (.lload k, 2)) (h : ag_ex y (.lload k) 2 pc ls st σ = some (Sum.inl (pc', (ls', (st', σ'))))) (kk : ag_Go p l e R s m args below meth c cells slots Q G y σ pc' ls' st' σ') : ag_At p l e R s m args below meth c H locs cells slots Q G pc A st := by
  obtain ⟨-, hx, hb, -⟩ := C
  obtain ⟨v, hv, hk, rfl, rfl, rfl, rfl⟩ := ag_ld_of h
  obtain ⟨x, rfl⟩ := ag_ki1 hk
  exact lv_lload hx hb hd (hL.2.2.2 _ _ hv) (kk.same hI hL)
theorem ag_s_dload (C : ag_cx G y p l R s m meth c) (hI : ag_in G s σ H locs) (hL : ag_lr (ag_f G) ls (ag_mx y) A) {k : Nat} (hd : decode (ag_by y) pc = .ok (.dload k, 2)) (h : ag_ex y (.dload k) 2 pc ls st σ = some (Sum.inl (pc', (ls', (st', σ'))))) (kk : ag_Go p l e R s m args below meth c cells slots Q G y σ pc' ls' st' σ') : ag_At p l e R s m args below meth c H locs cells slots Q G pc A st := by
  obtain ⟨-, hx, hb, -⟩ := C
  obtain ⟨v, hv, hk, rfl, rfl, rfl, rfl⟩ := ag_ld_of h
  obtain ⟨x, rfl⟩ := ag_ki2 hk
  exact lv_dload hx hb hd (hL.2.2.2 _ _ hv) (kk.same hI hL)
theorem ag_s_aload_n (C : ag_cx G y p l R s m meth c) (hI : ag_in G s σ H locs) (hL : ag_lr (ag_f G) ls (ag_mx y) A) {k : Fin 4} (hd : decode (ag_by y) pc = .ok (.aload_n k, 1)) (h : ag_ex y (.aload_n k) 1 pc ls st σ = some (Sum.inl (pc', (ls', (st', σ'))))) (kk : ag_Go p l e R s m args below meth c cells slots Q G y σ pc' ls' st' σ') : ag_At p l e R s m args below meth c H locs cells slots Q G pc A st := by
  obtain ⟨-, hx, hb, -⟩ := C
  obtain ⟨v, hv, hk, rfl, rfl, rfl, rfl⟩ := ag_ld_of h
  obtain ⟨x, rfl⟩ := ag_ki3 hk
  exact lv_aload_n hx hb hd rfl (hL.2.2.2 _ _ hv) (kk.same hI hL)
theorem ag_s_aload (C : ag_cx G y p l R s m meth c) (hI : ag_in G s σ H locs) (hL : ag_lr (ag_f G) ls (ag_mx y) A) {k : Nat} (hd : decode (ag_by y) pc = .ok (.aload k, 2)) (h : ag_ex y (.aload k) 2 pc ls st σ = some (Sum.inl (pc', (ls', (st', σ'))))) (kk : ag_Go p l e R s m args below meth c cells slots Q G y σ pc' ls' st' σ') : ag_At p l e R s m args below meth c H locs cells slots Q G pc A st := by
  obtain ⟨-, hx, hb, -⟩ := C
  obtain ⟨v, hv, hk, rfl, rfl, rfl, rfl⟩ := ag_ld_of h
  obtain ⟨x, rfl⟩ := ag_ki3 hk
  exact lv_aload hx hb hd (hL.2.2.2 _ _ hv) (kk.same hI hL)
/-- a store of a value of one slot, and of two -/
theorem ag_sr_of {q k len : Nat} (hq : q = 0 ∨ q = 3) (h : ag_sr q k len pc ls st σ = some (Sum.inl (pc', (ls', (st', σ'))))) : ∃ v, st = v :: st' ∧ ag_ki q v = true ∧ ag_ok ls k = true ∧ k < ls.length ∧ pc' = pc + len ∧ ls' = ls.set k (some v) ∧ σ' = σ := by
  unfold ag_sr at h
  split at h
  · rename_i v st1
    split at h
    · rename_i hk
      have hc : ¬ ag_c2 v = true := by
        rcases hq with rfl | rfl
        · obtain ⟨x, rfl⟩ := ag_ki0 hk.1
          intro h; cases h
        · obtain ⟨x, rfl⟩ := ag_ki3 hk.1
          intro h; cases h
      rw [if_neg hc] at h
      split at h
      · rename_i hlt
        obtain ⟨rfl, rfl, rfl, rfl⟩ := ag_go_inj h
        exact ⟨v, rfl, hk.1, hk.2, hlt, rfl, rfl, rfl⟩
      · cases h
    · cases h
  · cases h
theorem ag_sr2_of {q k len : Nat} (hq : q = 1 ∨ q = 2) (h : ag_sr q k len pc ls st σ = some (Sum.inl (pc', (ls', (st', σ'))))) : ∃ v, st = v :: st' ∧ ag_ki q v = true ∧ ag_ok ls k = true ∧ k + 1 < ls.length ∧ pc' = pc + len ∧ ls' = (ls.set k (some v)).set (k + 1) none ∧ σ' = σ := by
  unfold ag_sr at h
  split at h
  · rename_i v st1
    split at h
    · rename_i hk
      have hc : ag_c2 v = true := by
        rcases hq with rfl | rfl
        · obtain ⟨x, rfl⟩ := ag_ki1 hk.1
          rfl
        · obtain ⟨x, rfl⟩ := ag_ki2 hk.1
          rfl
      rw [if_pos hc] at h
      split at h
      · rename_i hlt
        obtain ⟨rfl, rfl, rfl, rfl⟩ := ag_go_inj h
        exact ⟨v, rfl, hk.1, hk.2, hlt, rfl, rfl, rfl⟩
      · cases h
    · cases h
  · cases h
theorem ag_s_istore_n (C : ag_cx G y p l R s m meth c) (hI : ag_in G s σ H locs) (hL : ag_lr (ag_f G) ls (ag_mx y) A) {k : Fin 4} (hd : decode (ag_by y) pc = .ok (.istore_n k, 1)) (h : ag_ex y (.istore_n k) 1 pc ls st σ = some (Sum.inl (pc', (ls', (st', σ'))))) (kk : ag_Go p l e R s m args below meth c cells slots Q G y σ pc' ls' st' σ') : ag_At p l e R s m args below meth c H locs cells slots Q G pc A st := by
  obtain ⟨-, hx, hb, -⟩ := C
  obtain ⟨v, rfl, hk, ho, hlt, rfl, rfl, rfl⟩ := ag_sr_of (Or.inl rfl) h
  obtain ⟨x, rfl⟩ := ag_ki0 hk
  exact lv_istore_n hx hb hd rfl (ag_lr_has hL) (by rw [← hL.2.1]; exact hlt) rfl (fun A' hA => kk.same hI (ag_lr_st1 (v := ag_I x) hL ho hA))
theorem ag_s_istore (C : ag_cx G y p l R s m meth c) (hI : ag_in G s σ H locs) (hL : ag_lr (ag_f G) ls (ag_mx y) A) {k : Nat} (hd : decode (ag_by y) pc = .ok (.istore k, 2)) (h : ag_ex y (.istore k) 2 pc ls st σ = some (Sum.inl (pc', (ls', (st', σ'))))) (kk : ag_Go p l e R s m args below meth c cells slots Q G y σ pc' ls' st' σ') : ag_At p l e R s m args below meth c H locs cells slots Q G pc A st := by
  obtain ⟨-, hx, hb, -⟩ := C
  obtain ⟨v, rfl, hk, ho, hlt, rfl, rfl, rfl⟩ := ag_sr_of (Or.inl rfl) h
  obtain ⟨x, rfl⟩ := ag_ki0 hk
  exact lv_istore hx hb hd (ag_lr_has hL) (by rw [← hL.2.1]; exact hlt) rfl (fun A' hA => kk.same hI (ag_lr_st1 (v := ag_I x) hL ho hA))
theorem ag_s_astore_n (C : ag_cx G y p l R s m meth c) (hI : ag_in G s σ H locs) (hL : ag_lr (ag_f G) ls (ag_mx y) A) {k : Fin 4} (hd : decode (ag_by y) pc = .ok (.astore_n k, 1)) (h : ag_ex y (.astore_n k) 1 pc ls st σ = some (Sum.inl (pc', (ls', (st', σ'))))) (kk : ag_Go p l e R s m args below meth c cells slots Q G y σ pc' ls' st' σ') : ag_At p l e R s m args below meth c H locs cells slots Q G pc A st := by
  obtain ⟨-, hx, hb, -⟩ := C
  obtain ⟨v, rfl, hk, ho, hlt, rfl, rfl, rfl⟩ := ag_sr_of (Or.inr rfl) h
  obtain ⟨x, rfl⟩ := ag_ki3 hk
  exact lv_astore_n hx hb hd rfl (ag_lr_has hL) (by rw [← hL.2.1]; exact hlt) rfl (fun A' hA => kk.same hI (ag_lr_st1 (v := ag_R x) hL ho hA))
theorem ag_s_astore (C : ag_cx G y p l R s m meth c) (hI : ag_in G s σ H locs) (hL : ag_lr (ag_f G) ls (ag_mx y) A) {k : Nat} (hd : decode (ag_by y) pc = .ok (.astore k, 2)) (h : ag_ex y (.astore k) 2 pc ls st σ = some (Sum.inl (pc', (ls', (st', σ'))))) (kk : ag_Go p l e R s m args below meth c cells slots Q G y σ pc' ls' st' σ') : ag_At p l e R s m args below meth c H locs cells slots Q G pc A st := by
  obtain ⟨-, hx, hb, -⟩ := C
  obtain ⟨v, rfl, hk, ho, hlt, rfl, rfl, rfl⟩ := ag_sr_of (Or.inr rfl) h
  obtain ⟨x, rfl⟩ := ag_ki3 hk
  exact lv_astore hx hb hd (ag_lr_has hL) (by rw [← hL.2.1]; exact hlt) rfl (fun A' hA => kk.same hI (ag_lr_st1 (v := ag_R x) hL ho hA))
theorem ag_s_lstore_n (C : ag_cx G y p l R s m meth c) (hI : ag_in G s σ H locs) (hL : ag_lr (ag_f G) ls (ag_mx y) A) {k : Fin 4} (hd : decode (ag_by y) pc = .ok (.lstore_n k, 1)) (h : ag_ex y (.lstore_n k) 1 pc ls st σ = some (Sum.inl (pc', (ls', (st', σ'))))) (kk : ag_Go p l e R s m args below meth c cells slots Q G y σ pc' ls' st' σ') : ag_At p l e R s m args below meth c H locs cells slots Q G pc A st := by
  obtain ⟨-, hx, hb, -⟩ := C
  obtain ⟨v, rfl, hk, ho, hlt, rfl, rfl, rfl⟩ := ag_sr2_of (Or.inl rfl) h
  obtain ⟨x, rfl⟩ := ag_ki1 hk
  exact lv_lstore_n hx hb hd rfl (ag_lr_has hL) (by rw [← hL.2.1]; exact hlt) rfl (fun A' hA => kk.same hI (ag_lr_st2 (v := ag_L x) hL ho hA))
theorem ag_s_lstore (C : ag_cx G y p l R s m meth c) (hI : ag_in G s σ H locs) (hL : ag_lr (ag_f G) ls (ag_mx y) A) {k : Nat} (hd : decode (ag_by y) pc = .ok (.lstore k, 2)) (h : ag_ex y (.lstore k) 2 pc ls st σ = some (Sum.inl (pc', (ls', (st', σ'))))) (kk : ag_Go p l e R s m args below meth c cells slots Q G y σ pc' ls' st' σ') : ag_At p l e R s m args below meth c H locs cells slots Q G pc A st := by
  obtain ⟨-, hx, hb, -⟩ := C
  obtain ⟨v, rfl, hk, ho, hlt, rfl, rfl, rfl⟩ := ag_sr2_of (Or.inl rfl) h
  obtain ⟨x, rfl⟩ := ag_ki1 hk
  exact lv_lstore hx hb hd (ag_lr_has hL) (by rw [← hL.2.1]; exact hlt) rfl (fun A' hA => kk.same hI (ag_lr_st2 (v := ag_L x) hL ho hA))
theorem ag_s_dstore (C : ag_cx G y p l R s m meth c) (hI : ag_in G s σ H locs) (hL : ag_lr (ag_f G) ls (ag_mx y) A) {k : Nat} (hd : decode (ag_by y) pc = .ok (.dstore k, 2)) (h : ag_ex y (.dstore k) 2 pc ls st σ = some (Sum.inl (pc', (ls', (st', σ'))))) (kk : ag_Go p l e R s m args below meth c cells slots Q G y σ pc' ls' st' σ') : ag_At p l e R s m args below meth c H locs cells slots Q G pc A st := by
  obtain ⟨-, hx, hb, -⟩ := C
  obtain ⟨v, rfl, hk, ho, hlt, rfl, rfl, rfl⟩ := ag_sr2_of (Or.inr rfl) h
  obtain ⟨x, rfl⟩ := ag_ki2 hk
  exact lv_dstore hx hb hd (ag_lr_has hL) (by rw [← hL.2.1]; exact hlt) rfl (fun A' hA => kk.same hI (ag_lr_st2 (v := ag_F x) hL ho hA))
theorem ag_s_iinc (C : ag_cx G y p l R s m meth c) (hI : ag_in G s σ H locs) (hL : ag_lr (ag_f G) ls (ag_mx y) A) {k : Nat} {n : Int} (hd : decode (ag_by y) pc = .ok (.iinc k n, 3)) (h : ag_ex y (.iinc k n) 3 pc ls st σ = some (Sum.inl (pc', (ls', (st', σ'))))) (kk : ag_Go p l e R s m args below meth c cells slots Q G y σ pc' ls' st' σ') : ag_At p l e R s m args below meth c H locs cells slots Q G pc A st := by
  obtain ⟨-, hx, hb, -⟩ := C
  unfold ag_ex at h
  dsimp only at h
  split at h
  · rename_i x hv
    split at h
    · rename_i ho
      obtain ⟨rfl, rfl, rfl, rfl⟩ := ag_go_inj h
      obtain ⟨i, hi⟩ := List.getElem?_of_mem (ag_lv_mem (f := ag_f G) hv)
      exact lv_iinc hx hb hd (ag_lr_has hL) (k := i) hi (by rw [← Int32.ofInt_add]) (by rw [← hL.2.1]; exact ho.2) rfl (fun A' hA => kk.same hI (ag_lr_st1 (v := ag_I (x + n)) hL ho.1 hA))
    · cases h
  · cases h
theorem ag_s_iadd (C : ag_cx G y p l R s m meth c) (hI : ag_in G s σ H locs) (hL : ag_lr (ag_f G) ls (ag_mx y) A) (hd : decode (ag_by y) pc = .ok (.iadd, 1)) (h : ag_ex y .iadd 1 pc ls st σ = some (Sum.inl (pc', (ls', (st', σ'))))) (kk : ag_Go p l e R s m args below meth c cells slots Q G y σ pc' ls' st' σ') : ag_At p l e R s m args below meth c H locs cells slots Q G pc A st := by
  obtain ⟨-, hx, hb, -⟩ := C
  unfold ag_ex at h
  dsimp only at h
  split at h
  · obtain ⟨rfl, rfl, rfl, rfl⟩ := ag_go_inj h
    refine lv_iadd hx hb hd ?_
    rw [← Int32.ofInt_add]
    exact kk.same hI hL
  · cases h
theorem ag_s_isub (C : ag_cx G y p l R s m meth c) (hI : ag_in G s σ H locs) (hL : ag_lr (ag_f G) ls (ag_mx y) A) (hd : decode (ag_by y) pc = .ok (.isub, 1)) (h : ag_ex y .isub 1 pc ls st σ = some (Sum.inl (pc', (ls', (st', σ'))))) (kk : ag_Go p l e R s m args below meth c cells slots Q G y σ pc' ls' st' σ') : ag_At p l e R s m args below meth c H locs cells slots Q G pc A st := by
  obtain ⟨-, hx, hb, -⟩ := C
  unfold ag_ex at h
  dsimp only at h
  split at h
  · obtain ⟨rfl, rfl, rfl, rfl⟩ := ag_go_inj h
    refine lv_isub hx hb hd ?_
    rw [← Int32.ofInt_sub]
    exact kk.same hI hL
  · cases h
theorem ag_s_imul (C : ag_cx G y p l R s m meth c) (hI : ag_in G s σ H locs) (hL : ag_lr (ag_f G) ls (ag_mx y) A) (hd : decode (ag_by y) pc = .ok (.imul, 1)) (h : ag_ex y .imul 1 pc ls st σ = some (Sum.inl (pc', (ls', (st', σ'))))) (kk : ag_Go p l e R s m args below meth c cells slots Q G y σ pc' ls' st' σ') : ag_At p l e R s m args below meth c H locs cells slots Q G pc A st := by
  obtain ⟨-, hx, hb, -⟩ := C
  unfold ag_ex at h
  dsimp only at h
  split at h
  · obtain ⟨rfl, rfl, rfl, rfl⟩ := ag_go_inj h
    refine lv_imul hx hb hd ?_
    rw [← Int32.ofInt_mul]
    exact kk.same hI hL
  · cases h
theorem ag_s_idiv (C : ag_cx G y p l R s m meth c) (hI : ag_in G s σ H locs) (hL : ag_lr (ag_f G) ls (ag_mx y) A) (hd : decode (ag_by y) pc = .ok (.idiv, 1)) (h : ag_ex y .idiv 1 pc ls st σ = some (Sum.inl (pc', (ls', (st', σ'))))) (kk : ag_Go p l e R s m args below meth c cells slots Q G y σ pc' ls' st' σ') : ag_At p l e R s m args below meth c H locs cells slots Q G pc A st := by
  obtain ⟨-, hx, hb, -⟩ := C
  unfold ag_ex at h
  dsimp only at h
  split at h
  · rename_i b a st1
    split at h
    · cases h
    · rename_i hz
      obtain ⟨rfl, rfl, rfl, rfl⟩ := ag_go_inj h
      refine lv_idiv hx hb hd (fun q => hz ?_) ?_
      · have q2 : Int32.ofInt b = Int32.ofInt 0 := q
        rw [ag_eq_i, ag_nm_z] at q2
        exact q2
      · have h9 := kk.same hI hL
        rw [List.map_cons, show ag_v (ag_f G) (ag_I (Int32.ofInt a / Int32.ofInt b).toInt) = .int (Int32.ofInt a / Int32.ofInt b) from congrArg Value.int (Int32.ofInt_toInt _)] at h9
        exact h9
  · cases h
theorem ag_s_irem (C : ag_cx G y p l R s m meth c) (hI : ag_in G s σ H locs) (hL : ag_lr (ag_f G) ls (ag_mx y) A) (hd : decode (ag_by y) pc = .ok (.irem, 1)) (h : ag_ex y .irem 1 pc ls st σ = some (Sum.inl (pc', (ls', (st', σ'))))) (kk : ag_Go p l e R s m args below meth c cells slots Q G y σ pc' ls' st' σ') : ag_At p l e R s m args below meth c H locs cells slots Q G pc A st := by
  obtain ⟨-, hx, hb, -⟩ := C
  unfold ag_ex at h
  dsimp only at h
  split at h
  · rename_i b a st1
    split at h
    · cases h
    · rename_i hz
      obtain ⟨rfl, rfl, rfl, rfl⟩ := ag_go_inj h
      refine lv_irem hx hb hd (fun q => hz ?_) ?_
      · have q2 : Int32.ofInt b = Int32.ofInt 0 := q
        rw [ag_eq_i, ag_nm_z] at q2
        exact q2
      · have h9 := kk.same hI hL
        rw [List.map_cons, show ag_v (ag_f G) (ag_I (Int32.ofInt a - Int32.ofInt a / Int32.ofInt b * Int32.ofInt b).toInt) = .int (Int32.ofInt a - Int32.ofInt a / Int32.ofInt b * Int32.ofInt b) from congrArg Value.int (Int32.ofInt_toInt _)] at h9
        exact h9
  · cases h
theorem ag_s_ishr (C : ag_cx G y p l R s m meth c) (hI : ag_in G s σ H locs) (hL : ag_lr (ag_f G) ls (ag_mx y) A) (hd : decode (ag_by y) pc = .ok (.ishr, 1)) (h : ag_ex y .ishr 1 pc ls st σ = some (Sum.inl (pc', (ls', (st', σ'))))) (kk : ag_Go p l e R s m args below meth c cells slots Q G y σ pc' ls' st' σ') : ag_At p l e R s m args below meth c H locs cells slots Q G pc A st := by
  obtain ⟨-, hx, hb, -⟩ := C
  unfold ag_ex at h
  dsimp only at h
  split at h
  · rename_i b a st1
    obtain ⟨rfl, rfl, rfl, rfl⟩ := ag_go_inj h
    refine lv_ishr hx hb hd ?_
    have h9 := kk.same hI hL
    rw [List.map_cons, show ag_v (ag_f G) (ag_I (Int32.ofInt a >>> (Int32.ofInt b &&& 31)).toInt) = .int (Int32.ofInt a >>> (Int32.ofInt b &&& 31)) from congrArg Value.int (Int32.ofInt_toInt _)] at h9
    exact h9
  · cases h
theorem ag_s_iand (C : ag_cx G y p l R s m meth c) (hI : ag_in G s σ H locs) (hL : ag_lr (ag_f G) ls (ag_mx y) A) (hd : decode (ag_by y) pc = .ok (.iand, 1)) (h : ag_ex y .iand 1 pc ls st σ = some (Sum.inl (pc', (ls', (st', σ'))))) (kk : ag_Go p l e R s m args below meth c cells slots Q G y σ pc' ls' st' σ') : ag_At p l e R s m args below meth c H locs cells slots Q G pc A st := by
  obtain ⟨-, hx, hb, -⟩ := C
  unfold ag_ex at h
  dsimp only at h
  split at h
  · rename_i b a st1
    obtain ⟨rfl, rfl, rfl, rfl⟩ := ag_go_inj h
    refine lv_iand hx hb hd ?_
    have h9 := kk.same hI hL
    rw [List.map_cons, show ag_v (ag_f G) (ag_I (Int32.ofInt a &&& Int32.ofInt b).toInt) = .int (Int32.ofInt a &&& Int32.ofInt b) from congrArg Value.int (Int32.ofInt_toInt _)] at h9
    exact h9
  · cases h
theorem ag_s_i2l (C : ag_cx G y p l R s m meth c) (hI : ag_in G s σ H locs) (hL : ag_lr (ag_f G) ls (ag_mx y) A) (hd : decode (ag_by y) pc = .ok (.i2l, 1)) (h : ag_ex y .i2l 1 pc ls st σ = some (Sum.inl (pc', (ls', (st', σ'))))) (kk : ag_Go p l e R s m args below meth c cells slots Q G y σ pc' ls' st' σ') : ag_At p l e R s m args below meth c H locs cells slots Q G pc A st := by
  obtain ⟨-, hx, hb, -⟩ := C
  unfold ag_ex at h
  dsimp only at h
  split at h
  · rename_i a st1
    obtain ⟨rfl, rfl, rfl, rfl⟩ := ag_go_inj h
    refine lv_i2l hx hb hd (v := Int64.ofInt (ag_nm a)) ?_ (kk.same hI hL)
    apply Int64.toInt_inj.mp
    rw [Int32.toInt_toInt64, Int64.toInt_ofInt_of_le]
    · rfl
    · have := Int32.le_toInt (Int32.ofInt a); show _ ≤ (Int32.ofInt a).toInt; omega
    · have := Int32.toInt_lt (Int32.ofInt a); show (Int32.ofInt a).toInt < _; omega
  · cases h
theorem ag_s_ladd (C : ag_cx G y p l R s m meth c) (hI : ag_in G s σ H locs) (hL : ag_lr (ag_f G) ls (ag_mx y) A) (hd : decode (ag_by y) pc = .ok (.ladd, 1)) (h : ag_ex y .ladd 1 pc ls st σ = some (Sum.inl (pc', (ls', (st', σ'))))) (kk : ag_Go p l e R s m args below meth c cells slots Q G y σ pc' ls' st' σ') : ag_At p l e R s m args below meth c H locs cells slots Q G pc A st := by
  obtain ⟨-, hx, hb, -⟩ := C
  unfold ag_ex at h
  dsimp only at h
  split at h
  · obtain ⟨rfl, rfl, rfl, rfl⟩ := ag_go_inj h
    refine lv_ladd hx hb hd ?_
    rw [← Int64.ofInt_add]
    exact kk.same hI hL
  · cases h
theorem ag_s_lmul (C : ag_cx G y p l R s m meth c) (hI : ag_in G s σ H locs) (hL : ag_lr (ag_f G) ls (ag_mx y) A) (hd : decode (ag_by y) pc = .ok (.lmul, 1)) (h : ag_ex y .lmul 1 pc ls st σ = some (Sum.inl (pc', (ls', (st', σ'))))) (kk : ag_Go p l e R s m args below meth c cells slots Q G y σ pc' ls' st' σ') : ag_At p l e R s m args below meth c H locs cells slots Q G pc A st := by
  obtain ⟨-, hx, hb, -⟩ := C
  unfold ag_ex at h
  dsimp only at h
  split at h
  · obtain ⟨rfl, rfl, rfl, rfl⟩ := ag_go_inj h
    refine lv_lmul hx hb hd ?_
    rw [← Int64.ofInt_mul]
    exact kk.same hI hL
  · cases h
end AGX
