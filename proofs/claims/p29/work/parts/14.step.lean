/-! ONE STEP; ENDS. -/
def ag_isr (i : Instr) : Bool := match i with
  | .ireturn => true
  | .lreturn => true
  | .dreturn => true
  | .areturn => true
  | .return_ => true
  | .invokevirtual _ => true
  | .invokestatic _ => true
  | .invokespecial _ => true
  | _ => false
set_option maxHeartbeats 4000000 in
theorem ag_ex_inr {y len pc : Nat} {i : Instr} {ls : ag_Ls} {st : List ag_V} {σ : ag_S} {x : (ag_Rs × ag_S) ⊕ (Nat × (List ag_V × List ag_V))} (h : ag_ex y i len pc ls st σ = some (Sum.inr x)) : ag_isr i = true := by
  cases i <;> first
    | rfl
    | (exfalso; cases h; done)
    | (exfalso; simp only [ag_ex, ag_ld, ag_sr, ag_tg, ag_bc, ag_br, ag_go] at h; repeat' split at h
       all_goals (first | cases h | (simp at h; done)))
section AGE
variable {p : Program} {l : Launch} {e : Env} {R : Room} {s : State} {m : MethodId} {args : Array Value} {below : List Frame} {meth : Method} {c : Code} {H : Heap} {locs : List Loc} {cells slots : Nat} {Q : State → Prop} {G : ag_G} {y pc : Nat} {A : Array Slot} {ls ls' : ag_Ls} {st st' : List ag_V} {σ σ' : ag_S} {pc' : Nat}

set_option maxHeartbeats 4000000 in
/-- ONE STEP of the small machine that isn't an end or a call of a method of its own is the machine's -/
theorem ag_step (C : ag_cx G y p l R s m meth c) (hI : ag_in G s σ H locs) (hL : ag_lr (ag_f G) ls (ag_mx y) A) (h : ag_sp y pc ls st σ = some (Sum.inl (pc', (ls', (st', σ'))))) (hc0 : cells ≤ R.cells) (hs0 : slots ≤ R.slots) (hc1 : cells + (σ'.2.1 - σ.2.1) ≤ R.cells) (hc2 : slots + (σ'.2.2 - σ.2.2) ≤ R.slots)
    (kk : ag_Go p l e R s m args below meth c cells slots Q G y σ pc' ls' st' σ') : ag_At p l e R s m args below meth c H locs cells slots Q G pc A st := by
  unfold ag_sp at h
  split at h
  · split at h <;> cases h
  · split at h
    · rename_i i len hd
      split at h
      · rename_i hlen
        cases i with
        | iconst n =>
          have hlen : len = 1 := hlen
          subst hlen
          exact ag_s_iconst C hI hL hd h kk
        | bipush n =>
          have hlen : len = 2 := hlen
          subst hlen
          exact ag_s_bipush C hI hL hd h kk
        | sipush n =>
          have hlen : len = 3 := hlen
          subst hlen
          exact ag_s_sipush C hI hL hd h kk
        | lconst n =>
          have hlen : len = 1 := hlen
          subst hlen
          exact ag_s_lconst C hI hL hd h kk
        | dconst n =>
          have hlen : len = 1 := hlen
          subst hlen
          exact ag_s_dconst C hI hL hd h kk
        | ldc2_w n =>
          have hlen : len = 3 := hlen
          subst hlen
          exact ag_s_ldc2 C hI hL hd h kk
        | iload_n n =>
          have hlen : len = 1 := hlen
          subst hlen
          exact ag_s_iload_n C hI hL hd h kk
        | iload n =>
          have hlen : len = 2 := hlen
          subst hlen
          exact ag_s_iload C hI hL hd h kk
        | lload_n n =>
          have hlen : len = 1 := hlen
          subst hlen
          exact ag_s_lload_n C hI hL hd h kk
        | lload n =>
          have hlen : len = 2 := hlen
          subst hlen
          exact ag_s_lload C hI hL hd h kk
        | dload n =>
          have hlen : len = 2 := hlen
          subst hlen
          exact ag_s_dload C hI hL hd h kk
        | aload_n n =>
          have hlen : len = 1 := hlen
          subst hlen
          exact ag_s_aload_n C hI hL hd h kk
        | aload n =>
          have hlen : len = 2 := hlen
          subst hlen
          exact ag_s_aload C hI hL hd h kk
        | istore_n n =>
          have hlen : len = 1 := hlen
          subst hlen
          exact ag_s_istore_n C hI hL hd h kk
        | istore n =>
          have hlen : len = 2 := hlen
          subst hlen
          exact ag_s_istore C hI hL hd h kk
        | lstore_n n =>
          have hlen : len = 1 := hlen
          subst hlen
          exact ag_s_lstore_n C hI hL hd h kk
        | lstore n =>
          have hlen : len = 2 := hlen
          subst hlen
          exact ag_s_lstore C hI hL hd h kk
        | dstore n =>
          have hlen : len = 2 := hlen
          subst hlen
          exact ag_s_dstore C hI hL hd h kk
        | astore_n n =>
          have hlen : len = 1 := hlen
          subst hlen
          exact ag_s_astore_n C hI hL hd h kk
        | astore n =>
          have hlen : len = 2 := hlen
          subst hlen
          exact ag_s_astore C hI hL hd h kk
        | iinc n k =>
          have hlen : len = 3 := hlen
          subst hlen
          exact ag_s_iinc C hI hL hd h kk
        | iadd  =>
          have hlen : len = 1 := hlen
          subst hlen
          exact ag_s_iadd C hI hL hd h kk
        | isub  =>
          have hlen : len = 1 := hlen
          subst hlen
          exact ag_s_isub C hI hL hd h kk
        | imul  =>
          have hlen : len = 1 := hlen
          subst hlen
          exact ag_s_imul C hI hL hd h kk
        | idiv  =>
          have hlen : len = 1 := hlen
          subst hlen
          exact ag_s_idiv C hI hL hd h kk
        | iand  =>
          have hlen : len = 1 := hlen
          subst hlen
          exact ag_s_iand C hI hL hd h kk
        | irem  =>
          have hlen : len = 1 := hlen
          subst hlen
          exact ag_s_irem C hI hL hd h kk
        | ishr  =>
          have hlen : len = 1 := hlen
          subst hlen
          exact ag_s_ishr C hI hL hd h kk
        | dsub  =>
          have hlen : len = 1 := hlen
          subst hlen
          exact ag_s_dsub C hI hL hd h kk
        | dmul  =>
          have hlen : len = 1 := hlen
          subst hlen
          exact ag_s_dmul C hI hL hd h kk
        | ldc n =>
          have hlen : len = 2 := hlen
          subst hlen
          exact ag_s_ldc C hI hL hd h kk
        | multianewarray n d =>
          have hlen : len = 4 := hlen
          subst hlen
          exact ag_s_multi C hI hL hd h hc1 hc2 kk
        | i2l  =>
          have hlen : len = 1 := hlen
          subst hlen
          exact ag_s_i2l C hI hL hd h kk
        | ladd  =>
          have hlen : len = 1 := hlen
          subst hlen
          exact ag_s_ladd C hI hL hd h kk
        | lmul  =>
          have hlen : len = 1 := hlen
          subst hlen
          exact ag_s_lmul C hI hL hd h kk
        | lcmp  =>
          have hlen : len = 1 := hlen
          subst hlen
          exact ag_s_lcmp C hI hL hd h kk
        | i2d  =>
          have hlen : len = 1 := hlen
          subst hlen
          exact ag_s_i2d C hI hL hd h kk
        | ddiv  =>
          have hlen : len = 1 := hlen
          subst hlen
          exact ag_s_ddiv C hI hL hd h kk
        | dcmp n =>
          have hlen : len = 1 := hlen
          subst hlen
          exact ag_s_dcmp C hI hL hd h kk
        | dup  =>
          have hlen : len = 1 := hlen
          subst hlen
          exact ag_s_dup C hI hL hd h kk
        | pop  =>
          have hlen : len = 1 := hlen
          subst hlen
          exact ag_s_pop C hI hL hd h kk
        | dup_x1  =>
          have hlen : len = 1 := hlen
          subst hlen
          exact ag_s_dup_x1 C hI hL hd h kk
        | dup2  =>
          have hlen : len = 1 := hlen
          subst hlen
          exact ag_s_dup2 C hI hL hd h kk
        | goto n =>
          have hlen : len = 3 := hlen
          subst hlen
          exact ag_s_goto C hI hL hd h kk
        | ifCond cd n =>
          have hlen : len = 3 := hlen
          subst hlen
          exact ag_s_ifc C hI hL hd h kk
        | if_icmp cd n =>
          have hlen : len = 3 := hlen
          subst hlen
          exact ag_s_icmp C hI hL hd h kk
        | getfield n =>
          have hlen : len = 3 := hlen
          subst hlen
          exact ag_s_getfield C hI hL hd h kk
        | putfield n =>
          have hlen : len = 3 := hlen
          subst hlen
          exact ag_s_putfield C hI hL hd h kk
        | arraylength  =>
          have hlen : len = 1 := hlen
          subst hlen
          exact ag_s_alen C hI hL hd h kk
        | iaload  =>
          have hlen : len = 1 := hlen
          subst hlen
          exact ag_s_iaload C hI hL hd h kk
        | iastore  =>
          have hlen : len = 1 := hlen
          subst hlen
          exact ag_s_iastore C hI hL hd h kk
        | aaload  =>
          have hlen : len = 1 := hlen
          subst hlen
          exact ag_s_aaload C hI hL hd h kk
        | aastore  =>
          have hlen : len = 1 := hlen
          subst hlen
          exact ag_s_aastore C hI hL hd h kk
        | newarray n =>
          have hlen : len = 2 := hlen
          subst hlen
          exact ag_s_newarray C hI hL hd h hc1 hc2 kk
        | anewarray n =>
          have hlen : len = 3 := hlen
          subst hlen
          exact ag_s_anewarray C hI hL hd h hc1 hc2 kk
        | new n =>
          have hlen : len = 3 := hlen
          subst hlen
          exact ag_s_new C hI hL hd h hc1 hc2 kk
        | invokespecial n =>
          have hlen : len = 3 := hlen
          subst hlen
          exact ag_s_special C hI hL hd h kk
        | invokestatic n =>
          have hlen : len = 3 := hlen
          subst hlen
          exact ag_s_static C hI hL hd h hc0 hs0 kk
        | tableswitch df lo hi offs => exact ag_s_table C hI hL hd h kk
        | ireturn => exfalso; simp only [ag_ex, ag_dn] at h; repeat' split at h
                     all_goals cases h
        | lreturn => exfalso; simp only [ag_ex, ag_dn] at h; repeat' split at h
                     all_goals cases h
        | dreturn => exfalso; simp only [ag_ex, ag_dn] at h; repeat' split at h
                     all_goals cases h
        | areturn => exfalso; simp only [ag_ex, ag_dn] at h; repeat' split at h
                     all_goals cases h
        | return_ => exfalso; simp only [ag_ex, ag_dn] at h; repeat' split at h
                     all_goals cases h
        | invokevirtual n =>
          exfalso
          have h : ag_iv y n 0 pc ls st σ = some (Sum.inl (pc', (ls', (st', σ')))) := h
          obtain ⟨-, -, h1⟩ := ag_iv_go h
          rcases h1 with ⟨h1, -⟩ | ⟨h1, -⟩ | ⟨h1, -⟩ | ⟨h1, -⟩ | ⟨h1, -⟩ <;> cases h1
        | _ => cases h
      · cases h
    · cases h
set_option maxHeartbeats 8000000 in
/-- a step makes the store no smaller -/
theorem ag_sp_mono (h : ag_sp y pc ls st σ = some (Sum.inl (pc', (ls', (st', σ'))))) : σ.2.1 ≤ σ'.2.1 ∧ σ.2.2 ≤ σ'.2.2 := by
  unfold ag_sp at h
  split at h
  · split at h <;> cases h
  · split at h
    · rename_i i len hd
      split at h
      · cases i <;> first
          | (cases h; done)
          | (cases h; exact ⟨Nat.le_refl _, Nat.le_refl _⟩)
          | (simp only [ag_ex, ag_ld, ag_sr, ag_tg, ag_bc, ag_br, ag_go, ag_dn] at h
             repeat' split at h
             all_goals first | (cases h; done) | (cases h; exact ⟨Nat.le_refl _, Nat.le_refl _⟩) | (cases h; exact ⟨Nat.le_succ _, Nat.le_add_right _ _⟩) | (cases h; exact ⟨by show σ.2.1 ≤ σ.2.1 + 1 + _; omega, Nat.le_add_right _ _⟩))
          | (have h9 := h
             simp only [ag_ex] at h9
             obtain ⟨-, -, h1⟩ := ag_iv_go h9
             rcases h1 with ⟨-, _, _, _, -, -, -, rfl⟩ | ⟨-, _, _, _, _, _, -, -, -, -, rfl⟩ | ⟨-, _, _, _, _, _, _, _, _, _, _, _, -, -, -, -, -, rfl⟩ | ⟨-, _, _, _, _, -, -, -, -, rfl⟩ | ⟨-, _, _, _, _, _, _, _, _, _, _, _, -, -, -, -, -, rfl⟩ <;> exact ⟨Nat.le_refl _, Nat.le_refl _⟩)
      · cases h
    · cases h

/-- a call of a method of its own -/
theorem ag_iv_call {idx op y' : Nat} {as rest : List ag_V} (h : ag_iv y idx op pc ls st σ = some (Sum.inr (Sum.inr (y', (as, rest))))) : ∃ n kd, ag_ml y idx = some (y', (n, kd)) ∧ 3 ≤ y' ∧ st = as.reverse ++ rest ∧ as.length = n ∧ ag_wt rest ≤ 8 ∧ (∀ v ∈ as, ag_c2 v = false) ∧
    (((kd = 0 ∨ kd = 9) ∧ op = 0 ∧ ∃ a tl fs, as = ag_R a :: tl ∧ σ.1 a = some (Sum.inr (Sum.inr (Sum.inr (ag_ow y', fs))))) ∨ ((kd = 3 ∨ kd = 4) ∧ op = 2 ∧ ∃ a tl, as = ag_R a :: tl) ∨ (kd ≠ 0 ∧ kd ≠ 9 ∧ kd ≠ 3 ∧ kd ≠ 4 ∧ op = 1)) := by
  unfold ag_iv at h
  split at h
  · cases h
  · exfalso
    repeat' split at h
    all_goals cases h
  · exfalso
    repeat' split at h
    all_goals cases h
  · exfalso
    repeat' split at h
    all_goals cases h
  · rename_i y1 n1 kd1 g0 g1 g2 hml
    have hy3 : 3 ≤ y1 := by
      rcases Nat.lt_or_ge y1 3 with q | q
      · exfalso
        match y1, q with
        | 0, _ => exact g0 rfl
        | 1, _ => exact g1 rfl
        | 2, _ => exact g2 rfl
      · exact q
    split at h
    · rename_i hn
      obtain ⟨hn1, hn2, hn3⟩ := hn
      have hrev : st = (st.take n1).reverse.reverse ++ st.drop n1 := by rw [List.reverse_reverse, List.take_append_drop]
      have hlen : (st.take n1).reverse.length = n1 := by rw [List.length_reverse, List.length_take]; omega
      have hc2 : ∀ v ∈ (st.take n1).reverse, ag_c2 v = false := fun v hv => by
        have := List.all_eq_true.mp hn3 v (List.mem_reverse.mp hv)
        simpa using this
      split at h
      · rename_i hk
        split at h
        · rename_i hop
          split at h
          · rename_i a tl htk
            split at h
            · rename_i ci fs hsc
              split at h
              · rename_i hci
                subst hci
                cases h
                exact ⟨_, _, hml, hy3, hrev, hlen, hn2, hc2, Or.inl ⟨hk, hop, a, tl, fs, htk, hsc⟩⟩
              · cases h
            · cases h
          · cases h
        · cases h
      · rename_i hk
        split at h
        · rename_i hk2
          split at h
          · rename_i hop
            split at h
            · rename_i a tl htk
              cases h
              exact ⟨_, _, hml, hy3, hrev, hlen, hn2, hc2, Or.inr (Or.inl ⟨hk2, hop, a, tl, htk⟩)⟩
            · cases h
          · cases h
        · rename_i hk2
          split at h
          · rename_i hop
            cases h
            exact ⟨_, _, hml, hy3, hrev, hlen, hn2, hc2, Or.inr (Or.inr ⟨fun q => hk (Or.inl q), fun q => hk (Or.inr q), fun q => hk2 (Or.inl q), fun q => hk2 (Or.inr q), hop⟩)⟩
          · cases h
    · cases h
theorem ag_iv_ne {idx op : Nat} {q : ag_Rs × ag_S} (h : ag_iv y idx op pc ls st σ = some (Sum.inr (Sum.inl q))) : False := by
  unfold ag_iv at h
  repeat' split at h
  all_goals cases h
/-- a method's end by a return -/
theorem ag_s_end {r : ag_Rs} (C : ag_cx G y p l R s m meth c) (hI : ag_in G s σ H locs) {i : Instr} {len : Nat} (hd : decode (ag_by y) pc = .ok (i, len)) (hlen : len = ag_ln i len) (h : ag_ex y i len pc ls st σ = some (Sum.inr (Sum.inl (r, σ')))) : σ' = σ ∧ ∃ v, r = Sum.inl v ∧ (∀ x, v = some (ag_I x) → decode (ag_by y) pc = .ok (.ireturn, 1) ∧ st = [ag_I x]) ∧
    W p l e R s m args below meth c H locs cells slots (MQ below (ag_Qc G r σ') args s cells slots (fun q => G.1.heap.size ≤ q)) (F0 m pc A (st.map (ag_v (ag_f G)))) := by
  obtain ⟨hG, hx, hb, hml, hr, hown, hlk, hnm, hW, hs0, hRf, hRl⟩ := C
  have hq : ∀ (v : Option ag_V) (t : State), t.heap = H → ag_Qc G (Sum.inl v) σ args s (.returned (v.map (ag_v (ag_f G)))) t := fun v t ht => ⟨v, rfl, rfl, by rw [ht]; exact hI.1⟩
  have hnar : ∀ x : Int, ag_nm x = 0 ∨ ag_nm x = 1 → narrow .boolean (.int (Int32.ofInt x)) = .int (Int32.ofInt x) := by
    intro x hx9
    rcases hx9 with h9 | h9
    · rw [← ag_nm_i x, h9]; decide +kernel
    · rw [← ag_nm_i x, h9]; decide +kernel
  cases i with
  | ireturn =>
    have hlen : len = 1 := hlen
    subst hlen
    unfold ag_ex at h
    dsimp only at h
    split at h
    · rename_i x
      split at h
      · rename_i hrt
        cases h
        exact ⟨rfl, _, rfl, fun z hz => by cases hz; exact ⟨hd, rfl⟩, W.iret hx hb (hr.trans hrt) (fun t ht _ => hq _ t ht) (fun z hz => hI.2.2 z hz) hd hlk⟩
      · rename_i hrt
        split at h
        · rename_i h01
          cases h
          exact ⟨rfl, _, rfl, fun z hz => by cases hz; exact ⟨hd, rfl⟩, W.zret hx hb (hr.trans hrt) (hnar x h01) (fun t ht _ => hq _ t ht) (fun z hz => hI.2.2 z hz) hd hlk⟩
        · cases h
      · cases h
    · cases h
  | lreturn =>
    have hlen : len = 1 := hlen
    subst hlen
    unfold ag_ex at h
    dsimp only at h
    split at h
    · split at h
      · rename_i hrt
        cases h
        exact ⟨rfl, _, rfl, fun z hz => (by cases hz), W.lret hx hb (hr.trans hrt) (fun t ht _ => hq _ t ht) (fun z hz => hI.2.2 z hz) hd hlk⟩
      · cases h
    · cases h
  | dreturn =>
    have hlen : len = 1 := hlen
    subst hlen
    unfold ag_ex at h
    dsimp only at h
    split at h
    · split at h
      · rename_i hrt
        cases h
        exact ⟨rfl, _, rfl, fun z hz => (by cases hz), W.dret hx hb (hr.trans hrt) (fun t ht _ => hq _ t ht) (fun z hz => hI.2.2 z hz) hd hlk⟩
      · cases h
    · cases h
  | areturn =>
    have hlen : len = 1 := hlen
    subst hlen
    unfold ag_ex at h
    dsimp only at h
    split at h
    · split at h
      · rename_i t9 hrt
        cases h
        exact ⟨rfl, _, rfl, fun z hz => (by cases hz), W.aret hx hb (hr.trans hrt) (Or.inr ⟨_, rfl⟩) (Or.inr ⟨_, rfl⟩) (fun t ht _ => hq _ t ht) (fun z hz => hI.2.2 z hz) hd hlk⟩
      · cases h
    · cases h
  | return_ =>
    have hlen : len = 1 := hlen
    subst hlen
    unfold ag_ex at h
    dsimp only at h
    split at h
    · split at h
      · rename_i hrt
        cases h
        exact ⟨rfl, _, rfl, fun z hz => (by cases hz), W.vret hx hb (hr.trans hrt) (fun t ht _ => hq _ t ht) (fun z hz => hI.2.2 z hz) hd hlk⟩
      · cases h
    · cases h
  | invokevirtual n => exact (ag_iv_ne (show ag_iv y n 0 pc ls st σ = some (Sum.inr (Sum.inl (r, σ'))) from h)).elim
  | invokestatic n => exact (ag_iv_ne (show ag_iv y n 1 pc ls st σ = some (Sum.inr (Sum.inl (r, σ'))) from h)).elim
  | invokespecial n => exact (ag_iv_ne (show ag_iv y n 2 pc ls st σ = some (Sum.inr (Sum.inl (r, σ'))) from h)).elim
  | _ => exact absurd (ag_ex_inr h) (by intro q; cases q)
end AGE
