/-! THE SMALL MACHINE'S STEPS ARE THE MACHINE'S, 3: compares, doubles, the stack, branches. -/
section AGY
variable {p : Program} {l : Launch} {e : Env} {R : Room} {s : State} {m : MethodId} {args : Array Value} {below : List Frame} {meth : Method} {c : Code} {H : Heap} {locs : List Loc} {cells slots : Nat} {Q : State → Prop} {G : ag_G} {y pc : Nat} {A : Array Slot} {ls ls' : ag_Ls} {st st' : List ag_V} {σ σ' : ag_S} {pc' : Nat}

theorem ag_s_lcmp (C : ag_cx G y p l R s m meth c) (hI : ag_in G s σ H locs) (hL : ag_lr (ag_f G) ls (ag_mx y) A) (hd : decode (ag_by y) pc = .ok (.lcmp, 1)) (h : ag_ex y (.lcmp) 1 pc ls st σ = some (Sum.inl (pc', (ls', (st', σ'))))) (kk : ag_Go p l e R s m args below meth c cells slots Q G y σ pc' ls' st' σ') : ag_At p l e R s m args below meth c H locs cells slots Q G pc A st := by
  obtain ⟨hG, hx, hb, hml, hr, hown, hlk, hnm, hW, hs0, hRf, hRl⟩ := C
  unfold ag_ex at h
  dsimp only at h
  split at h
  · rename_i b a st1
    obtain ⟨rfl, rfl, rfl, rfl⟩ := ag_go_inj h
    refine W.lcmp hx hb hd ?_
    have h9 := kk.same hI hL
    have e9 : lg_cmp (Int64.ofInt a) (Int64.ofInt b) = Int32.ofInt (if ag_nl a < ag_nl b then -1 else if ag_nl a = ag_nl b then 0 else 1) := by
      unfold lg_cmp
      simp only [gt_iff_lt, ag_lt_l, ag_eq_l]
      by_cases h1 : ag_nl a < ag_nl b
      · rw [if_neg (show ¬ ag_nl b < ag_nl a by omega), if_neg (show ¬ ag_nl a = ag_nl b by omega), if_pos h1]
        rfl
      · by_cases h2 : ag_nl a = ag_nl b
        · rw [if_neg (show ¬ ag_nl b < ag_nl a by omega), if_pos h2, if_neg h1, if_pos h2]
          rfl
        · rw [if_pos (show ag_nl b < ag_nl a by omega), if_neg h1, if_neg h2]
          rfl
    rw [e9]
    exact h9
  · cases h

theorem ag_s_i2d (C : ag_cx G y p l R s m meth c) (hI : ag_in G s σ H locs) (hL : ag_lr (ag_f G) ls (ag_mx y) A) (hd : decode (ag_by y) pc = .ok (.i2d, 1)) (h : ag_ex y (.i2d) 1 pc ls st σ = some (Sum.inl (pc', (ls', (st', σ'))))) (kk : ag_Go p l e R s m args below meth c cells slots Q G y σ pc' ls' st' σ') : ag_At p l e R s m args below meth c H locs cells slots Q G pc A st := by
  obtain ⟨hG, hx, hb, hml, hr, hown, hlk, hnm, hW, hs0, hRf, hRl⟩ := C
  unfold ag_ex at h
  dsimp only at h
  split at h
  · obtain ⟨rfl, rfl, rfl, rfl⟩ := ag_go_inj h
    exact lv_i2d hx hb hd (kk.same hI hL)
  · cases h

theorem ag_s_ddiv (C : ag_cx G y p l R s m meth c) (hI : ag_in G s σ H locs) (hL : ag_lr (ag_f G) ls (ag_mx y) A) (hd : decode (ag_by y) pc = .ok (.ddiv, 1)) (h : ag_ex y (.ddiv) 1 pc ls st σ = some (Sum.inl (pc', (ls', (st', σ'))))) (kk : ag_Go p l e R s m args below meth c cells slots Q G y σ pc' ls' st' σ') : ag_At p l e R s m args below meth c H locs cells slots Q G pc A st := by
  obtain ⟨hG, hx, hb, hml, hr, hown, hlk, hnm, hW, hs0, hRf, hRl⟩ := C
  unfold ag_ex at h
  dsimp only at h
  split at h
  · split at h
    · rename_i hn
      obtain ⟨rfl, rfl, rfl, rfl⟩ := ag_go_inj h
      have hn9 : vf_n64 _ := of_decide_eq_true (p := _ ≤ _) hn
      exact lv_ddiv hx hb hd hn9 (kk.same hI hL)
    · cases h
  · cases h

theorem ag_s_dsub (C : ag_cx G y p l R s m meth c) (hI : ag_in G s σ H locs) (hL : ag_lr (ag_f G) ls (ag_mx y) A) (hd : decode (ag_by y) pc = .ok (.dsub, 1)) (h : ag_ex y (.dsub) 1 pc ls st σ = some (Sum.inl (pc', (ls', (st', σ'))))) (kk : ag_Go p l e R s m args below meth c cells slots Q G y σ pc' ls' st' σ') : ag_At p l e R s m args below meth c H locs cells slots Q G pc A st := by
  obtain ⟨hG, hx, hb, hml, hr, hown, hlk, hnm, hW, hs0, hRf, hRl⟩ := C
  unfold ag_ex at h
  dsimp only at h
  split at h
  · split at h
    · rename_i hn
      obtain ⟨rfl, rfl, rfl, rfl⟩ := ag_go_inj h
      have hn9 : vf_n64 _ := of_decide_eq_true (p := _ ≤ _) hn
      exact lv_dsub hx hb hd hn9 (kk.same hI hL)
    · cases h
  · cases h

theorem ag_s_dmul (C : ag_cx G y p l R s m meth c) (hI : ag_in G s σ H locs) (hL : ag_lr (ag_f G) ls (ag_mx y) A) (hd : decode (ag_by y) pc = .ok (.dmul, 1)) (h : ag_ex y (.dmul) 1 pc ls st σ = some (Sum.inl (pc', (ls', (st', σ'))))) (kk : ag_Go p l e R s m args below meth c cells slots Q G y σ pc' ls' st' σ') : ag_At p l e R s m args below meth c H locs cells slots Q G pc A st := by
  obtain ⟨hG, hx, hb, hml, hr, hown, hlk, hnm, hW, hs0, hRf, hRl⟩ := C
  unfold ag_ex at h
  dsimp only at h
  split at h
  · split at h
    · rename_i hn
      obtain ⟨rfl, rfl, rfl, rfl⟩ := ag_go_inj h
      have hn9 : vf_n64 _ := of_decide_eq_true (p := _ ≤ _) hn
      exact lv_dmul hx hb hd hn9 (kk.same hI hL)
    · cases h
  · cases h

theorem ag_s_dcmp (C : ag_cx G y p l R s m meth c) (hI : ag_in G s σ H locs) (hL : ag_lr (ag_f G) ls (ag_mx y) A) {op : CmpOp} (hd : decode (ag_by y) pc = .ok (.dcmp op, 1)) (h : ag_ex y (.dcmp op) 1 pc ls st σ = some (Sum.inl (pc', (ls', (st', σ'))))) (kk : ag_Go p l e R s m args below meth c cells slots Q G y σ pc' ls' st' σ') : ag_At p l e R s m args below meth c H locs cells slots Q G pc A st := by
  obtain ⟨hG, hx, hb, hml, hr, hown, hlk, hnm, hW, hs0, hRf, hRl⟩ := C
  unfold ag_ex at h
  dsimp only at h
  split at h
  · rename_i b a st1
    obtain ⟨rfl, rfl, rfl, rfl⟩ := ag_go_inj h
    refine lv_dcmp hx hb hd ?_
    have h9 := kk.same hI hL
    rw [List.map_cons, show ag_v (ag_f G) (ag_I (Op.cmpValue (FP.dcmp a b) op).toInt) = .int (Op.cmpValue (FP.dcmp a b) op) from congrArg Value.int (Int32.ofInt_toInt _)] at h9
    exact h9
  · cases h

theorem ag_s_dup (C : ag_cx G y p l R s m meth c) (hI : ag_in G s σ H locs) (hL : ag_lr (ag_f G) ls (ag_mx y) A) (hd : decode (ag_by y) pc = .ok (.dup, 1)) (h : ag_ex y (.dup) 1 pc ls st σ = some (Sum.inl (pc', (ls', (st', σ'))))) (kk : ag_Go p l e R s m args below meth c cells slots Q G y σ pc' ls' st' σ') : ag_At p l e R s m args below meth c H locs cells slots Q G pc A st := by
  obtain ⟨hG, hx, hb, hml, hr, hown, hlk, hnm, hW, hs0, hRf, hRl⟩ := C
  unfold ag_ex at h
  dsimp only at h
  split at h
  · split at h
    · cases h
    · rename_i hn
      obtain ⟨rfl, rfl, rfl, rfl⟩ := ag_go_inj h
      exact lv_dup hx hb hd (by rw [ag_v_cat, if_neg hn]) (kk.same hI hL)
  · cases h

theorem ag_s_pop (C : ag_cx G y p l R s m meth c) (hI : ag_in G s σ H locs) (hL : ag_lr (ag_f G) ls (ag_mx y) A) (hd : decode (ag_by y) pc = .ok (.pop, 1)) (h : ag_ex y (.pop) 1 pc ls st σ = some (Sum.inl (pc', (ls', (st', σ'))))) (kk : ag_Go p l e R s m args below meth c cells slots Q G y σ pc' ls' st' σ') : ag_At p l e R s m args below meth c H locs cells slots Q G pc A st := by
  obtain ⟨hG, hx, hb, hml, hr, hown, hlk, hnm, hW, hs0, hRf, hRl⟩ := C
  unfold ag_ex at h
  dsimp only at h
  split at h
  · split at h
    · cases h
    · rename_i hn
      obtain ⟨rfl, rfl, rfl, rfl⟩ := ag_go_inj h
      exact lv_pop hx hb hd (by rw [ag_v_cat, if_neg hn]) (kk.same hI hL)
  · cases h

theorem ag_s_dup_x1 (C : ag_cx G y p l R s m meth c) (hI : ag_in G s σ H locs) (hL : ag_lr (ag_f G) ls (ag_mx y) A) (hd : decode (ag_by y) pc = .ok (.dup_x1, 1)) (h : ag_ex y (.dup_x1) 1 pc ls st σ = some (Sum.inl (pc', (ls', (st', σ'))))) (kk : ag_Go p l e R s m args below meth c cells slots Q G y σ pc' ls' st' σ') : ag_At p l e R s m args below meth c H locs cells slots Q G pc A st := by
  obtain ⟨hG, hx, hb, hml, hr, hown, hlk, hnm, hW, hs0, hRf, hRl⟩ := C
  unfold ag_ex at h
  dsimp only at h
  split at h
  · split at h
    · cases h
    · rename_i hn
      obtain ⟨rfl, rfl, rfl, rfl⟩ := ag_go_inj h
      exact lv_dup_x1 hx hb hd (by rw [ag_v_cat, if_neg (fun q => hn (Or.inl q))]) (by rw [ag_v_cat, if_neg (fun q => hn (Or.inr q))]) (kk.same hI hL)
  · cases h

theorem ag_s_dup2 (C : ag_cx G y p l R s m meth c) (hI : ag_in G s σ H locs) (hL : ag_lr (ag_f G) ls (ag_mx y) A) (hd : decode (ag_by y) pc = .ok (.dup2, 1)) (h : ag_ex y (.dup2) 1 pc ls st σ = some (Sum.inl (pc', (ls', (st', σ'))))) (kk : ag_Go p l e R s m args below meth c cells slots Q G y σ pc' ls' st' σ') : ag_At p l e R s m args below meth c H locs cells slots Q G pc A st := by
  obtain ⟨hG, hx, hb, hml, hr, hown, hlk, hnm, hW, hs0, hRf, hRl⟩ := C
  unfold ag_ex at h
  dsimp only at h
  split at h
  · split at h
    · cases h
    · rename_i hn
      obtain ⟨rfl, rfl, rfl, rfl⟩ := ag_go_inj h
      exact lv_dup2_11 hx hb hd (by rw [ag_v_cat, if_neg (fun q => hn (Or.inl q))]) (by rw [ag_v_cat, if_neg (fun q => hn (Or.inr q))]) (kk.same hI hL)
  · cases h

theorem ag_tg_of {off : Int} (h : ag_tg pc off ls st σ = some (Sum.inl (pc', (ls', (st', σ'))))) : (pc : Int) + off = (pc' : Int) ∧ ls' = ls ∧ st' = st ∧ σ' = σ := by
  unfold ag_tg at h
  split at h
  · obtain ⟨rfl, rfl, rfl, rfl⟩ := ag_go_inj h
    exact ⟨by omega, rfl, rfl, rfl⟩
  · cases h
theorem ag_br_of {cd : Prop} [Decidable cd] {off : Int} (h : ag_br cd pc off ls st σ = some (Sum.inl (pc', (ls', (st', σ'))))) : (pc : Int) + off = (((pc : Int) + off).toNat : Int) ∧ (cd ∧ pc' = ((pc : Int) + off).toNat ∨ ¬ cd ∧ pc' = pc + 3) ∧ ls' = ls ∧ st' = st ∧ σ' = σ := by
  unfold ag_br at h
  split at h
  · rename_i h0
    refine ⟨by omega, ?_⟩
    split at h
    · rename_i hc
      obtain ⟨rfl, rfl, rfl, rfl⟩ := ag_go_inj h
      exact ⟨Or.inl ⟨hc, rfl⟩, rfl, rfl, rfl⟩
    · rename_i hc
      obtain ⟨rfl, rfl, rfl, rfl⟩ := ag_go_inj h
      exact ⟨Or.inr ⟨hc, rfl⟩, rfl, rfl, rfl⟩
  · cases h
theorem ag_s_goto (C : ag_cx G y p l R s m meth c) (hI : ag_in G s σ H locs) (hL : ag_lr (ag_f G) ls (ag_mx y) A) {off : Int} (hd : decode (ag_by y) pc = .ok (.goto off, 3)) (h : ag_ex y (.goto off) 3 pc ls st σ = some (Sum.inl (pc', (ls', (st', σ'))))) (kk : ag_Go p l e R s m args below meth c cells slots Q G y σ pc' ls' st' σ') : ag_At p l e R s m args below meth c H locs cells slots Q G pc A st := by
  obtain ⟨hG, hx, hb, hml, hr, hown, hlk, hnm, hW, hs0, hRf, hRl⟩ := C
  obtain ⟨h1, rfl, rfl, rfl⟩ := ag_tg_of h
  exact lv_goto hx hb hd h1 (kk.same hI hL)

theorem ag_s_ifc (C : ag_cx G y p l R s m meth c) (hI : ag_in G s σ H locs) (hL : ag_lr (ag_f G) ls (ag_mx y) A) {cd : _root_.Jvm.ClassFile.Cond} {off : Int} (hd : decode (ag_by y) pc = .ok (.ifCond cd off, 3)) (h : ag_ex y (.ifCond cd off) 3 pc ls st σ = some (Sum.inl (pc', (ls', (st', σ'))))) (kk : ag_Go p l e R s m args below meth c cells slots Q G y σ pc' ls' st' σ') : ag_At p l e R s m args below meth c H locs cells slots Q G pc A st := by
  obtain ⟨hG, hx, hb, hml, hr, hown, hlk, hnm, hW, hs0, hRf, hRl⟩ := C
  unfold ag_ex at h
  dsimp only at h
  split at h
  · rename_i a st1
    cases cd with
    | eq =>
      obtain ⟨h0, h1, rfl, rfl, rfl⟩ := ag_br_of h
      refine lv_if_eq (tgt := ((pc : Int) + off).toNat) hx hb hd h0 (fun hc => ?_) (fun hc => ?_)
      · rcases h1 with ⟨-, rfl⟩ | ⟨h1, rfl⟩
        · exact kk.same hI hL
        · exact absurd ((ag_eq_i a 0).mp hc) h1
      · rcases h1 with ⟨h1, rfl⟩ | ⟨-, rfl⟩
        · exact absurd ((ag_eq_i a 0).mpr h1) hc
        · exact kk.same hI hL
    | ne =>
      obtain ⟨h0, h1, rfl, rfl, rfl⟩ := ag_br_of h
      refine lv_if_ne (tgt := ((pc : Int) + off).toNat) hx hb hd h0 (fun hc => ?_) (fun hc => ?_)
      · rcases h1 with ⟨-, rfl⟩ | ⟨h1, rfl⟩
        · exact kk.same hI hL
        · exact (h1 (fun hq => hc ((ag_eq_i a 0).mpr hq))).elim
      · rcases h1 with ⟨h1, rfl⟩ | ⟨-, rfl⟩
        · exact absurd ((ag_eq_i a 0).mp hc) h1
        · exact kk.same hI hL
    | lt =>
      obtain ⟨h0, h1, rfl, rfl, rfl⟩ := ag_br_of h
      refine lv_if_lt (tgt := ((pc : Int) + off).toNat) hx hb hd h0 (fun hc => ?_) (fun hc => ?_)
      · rcases h1 with ⟨-, rfl⟩ | ⟨h1, rfl⟩
        · exact kk.same hI hL
        · exact absurd ((ag_lt_i a 0).mp hc) h1
      · rcases h1 with ⟨h1, rfl⟩ | ⟨-, rfl⟩
        · exact absurd ((ag_lt_i a 0).mpr h1) hc
        · exact kk.same hI hL
    | ge =>
      obtain ⟨h0, h1, rfl, rfl, rfl⟩ := ag_br_of h
      refine lv_if_ge (tgt := ((pc : Int) + off).toNat) hx hb hd h0 (fun hc => ?_) (fun hc => ?_)
      · rcases h1 with ⟨-, rfl⟩ | ⟨h1, rfl⟩
        · exact kk.same hI hL
        · exact absurd ((ag_le_i 0 a).mp hc) h1
      · rcases h1 with ⟨h1, rfl⟩ | ⟨-, rfl⟩
        · exact absurd ((ag_le_i 0 a).mpr h1) hc
        · exact kk.same hI hL
    | gt =>
      obtain ⟨h0, h1, rfl, rfl, rfl⟩ := ag_br_of h
      refine lv_if_gt (tgt := ((pc : Int) + off).toNat) hx hb hd h0 (fun hc => ?_) (fun hc => ?_)
      · rcases h1 with ⟨-, rfl⟩ | ⟨h1, rfl⟩
        · exact kk.same hI hL
        · exact absurd ((ag_lt_i 0 a).mp hc) h1
      · rcases h1 with ⟨h1, rfl⟩ | ⟨-, rfl⟩
        · exact absurd ((ag_lt_i 0 a).mpr h1) hc
        · exact kk.same hI hL
    | le =>
      obtain ⟨h0, h1, rfl, rfl, rfl⟩ := ag_br_of h
      refine lv_if_le (tgt := ((pc : Int) + off).toNat) hx hb hd h0 (fun hc => ?_) (fun hc => ?_)
      · rcases h1 with ⟨-, rfl⟩ | ⟨h1, rfl⟩
        · exact kk.same hI hL
        · exact absurd ((ag_le_i a 0).mp hc) h1
      · rcases h1 with ⟨h1, rfl⟩ | ⟨-, rfl⟩
        · exact absurd ((ag_le_i a 0).mpr h1) hc
        · exact kk.same hI hL
  · cases h

theorem ag_s_icmp (C : ag_cx G y p l R s m meth c) (hI : ag_in G s σ H locs) (hL : ag_lr (ag_f G) ls (ag_mx y) A) {cd : _root_.Jvm.ClassFile.Cond} {off : Int} (hd : decode (ag_by y) pc = .ok (.if_icmp cd off, 3)) (h : ag_ex y (.if_icmp cd off) 3 pc ls st σ = some (Sum.inl (pc', (ls', (st', σ'))))) (kk : ag_Go p l e R s m args below meth c cells slots Q G y σ pc' ls' st' σ') : ag_At p l e R s m args below meth c H locs cells slots Q G pc A st := by
  obtain ⟨hG, hx, hb, hml, hr, hown, hlk, hnm, hW, hs0, hRf, hRl⟩ := C
  unfold ag_ex at h
  dsimp only at h
  split at h
  · rename_i b a st1
    cases cd with
    | eq =>
      obtain ⟨h0, h1, rfl, rfl, rfl⟩ := ag_br_of h
      refine lv_icmp_eq (tgt := ((pc : Int) + off).toNat) hx hb hd h0 (fun hc => ?_) (fun hc => ?_)
      · rcases h1 with ⟨-, rfl⟩ | ⟨h1, rfl⟩
        · exact kk.same hI hL
        · exact absurd ((ag_eq_i a b).mp hc) h1
      · rcases h1 with ⟨h1, rfl⟩ | ⟨-, rfl⟩
        · exact absurd ((ag_eq_i a b).mpr h1) hc
        · exact kk.same hI hL
    | ne =>
      obtain ⟨h0, h1, rfl, rfl, rfl⟩ := ag_br_of h
      refine lv_icmp_ne (tgt := ((pc : Int) + off).toNat) hx hb hd h0 (fun hc => ?_) (fun hc => ?_)
      · rcases h1 with ⟨-, rfl⟩ | ⟨h1, rfl⟩
        · exact kk.same hI hL
        · exact (h1 (fun hq => hc ((ag_eq_i a b).mpr hq))).elim
      · rcases h1 with ⟨h1, rfl⟩ | ⟨-, rfl⟩
        · exact absurd ((ag_eq_i a b).mp hc) h1
        · exact kk.same hI hL
    | lt =>
      obtain ⟨h0, h1, rfl, rfl, rfl⟩ := ag_br_of h
      refine lv_icmp_lt (tgt := ((pc : Int) + off).toNat) hx hb hd h0 (fun hc => ?_) (fun hc => ?_)
      · rcases h1 with ⟨-, rfl⟩ | ⟨h1, rfl⟩
        · exact kk.same hI hL
        · exact absurd ((ag_lt_i a b).mp hc) h1
      · rcases h1 with ⟨h1, rfl⟩ | ⟨-, rfl⟩
        · exact absurd ((ag_lt_i a b).mpr h1) hc
        · exact kk.same hI hL
    | ge =>
      obtain ⟨h0, h1, rfl, rfl, rfl⟩ := ag_br_of h
      refine lv_icmp_ge (tgt := ((pc : Int) + off).toNat) hx hb hd h0 (fun hc => ?_) (fun hc => ?_)
      · rcases h1 with ⟨-, rfl⟩ | ⟨h1, rfl⟩
        · exact kk.same hI hL
        · exact absurd ((ag_le_i b a).mp hc) h1
      · rcases h1 with ⟨h1, rfl⟩ | ⟨-, rfl⟩
        · exact absurd ((ag_le_i b a).mpr h1) hc
        · exact kk.same hI hL
    | gt =>
      obtain ⟨h0, h1, rfl, rfl, rfl⟩ := ag_br_of h
      refine lv_icmp_gt (tgt := ((pc : Int) + off).toNat) hx hb hd h0 (fun hc => ?_) (fun hc => ?_)
      · rcases h1 with ⟨-, rfl⟩ | ⟨h1, rfl⟩
        · exact kk.same hI hL
        · exact absurd ((ag_lt_i b a).mp hc) h1
      · rcases h1 with ⟨h1, rfl⟩ | ⟨-, rfl⟩
        · exact absurd ((ag_lt_i b a).mpr h1) hc
        · exact kk.same hI hL
    | le =>
      obtain ⟨h0, h1, rfl, rfl, rfl⟩ := ag_br_of h
      refine lv_icmp_le (tgt := ((pc : Int) + off).toNat) hx hb hd h0 (fun hc => ?_) (fun hc => ?_)
      · rcases h1 with ⟨-, rfl⟩ | ⟨h1, rfl⟩
        · exact kk.same hI hL
        · exact absurd ((ag_le_i a b).mp hc) h1
      · rcases h1 with ⟨h1, rfl⟩ | ⟨-, rfl⟩
        · exact absurd ((ag_le_i a b).mpr h1) hc
        · exact kk.same hI hL
  · cases h

theorem ag_s_table (C : ag_cx G y p l R s m meth c) (hI : ag_in G s σ H locs) (hL : ag_lr (ag_f G) ls (ag_mx y) A) {df lo hi : Int} {offs : Array Int} {len : Nat} (hd : decode (ag_by y) pc = .ok (.tableswitch df lo hi offs, len)) (h : ag_ex y (.tableswitch df lo hi offs) len pc ls st σ = some (Sum.inl (pc', (ls', (st', σ'))))) (kk : ag_Go p l e R s m args below meth c cells slots Q G y σ pc' ls' st' σ') : ag_At p l e R s m args below meth c H locs cells slots Q G pc A st := by
  obtain ⟨hG, hx, hb, hml, hr, hown, hlk, hnm, hW, hs0, hRf, hRl⟩ := C
  unfold ag_ex at h
  dsimp only at h
  split at h
  · rename_i a st1
    split at h
    · rename_i hc
      obtain ⟨h1, rfl, rfl, rfl⟩ := ag_tg_of h
      exact lv_tableOut hx hb hd hc h1 (kk.same hI hL)
    · rename_i hc
      split at h
      · rename_i off ho
        obtain ⟨h1, rfl, rfl, rfl⟩ := ag_tg_of h
        exact lv_tableIn hx hb hd (fun q => hc (Or.inl q)) (fun q => hc (Or.inr q)) ho h1 (kk.same hI hL)
      · cases h
  · cases h

end AGY
