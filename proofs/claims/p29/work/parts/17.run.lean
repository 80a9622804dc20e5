/-! THE SMALL MACHINE'S RUNS ARE THE MACHINE'S: every run, by its fuel. -/
/-- what is shown of a run of F steps: the machine, standing there, comes to the same end -/
def ag_Bd (G : ag_G) (l : Launch) (F : Nat) : Prop := ∀ (y pc : Nat) (ls : ag_Ls) (st : List ag_V) (σ : ag_S) (r : ag_Rs) (σ' : ag_S), ag_run F y pc ls st σ = some (r, σ') →
  ∀ (p : Program) (e : Env) (R : Room) (s : State) (m : MethodId) (args : Array Value) (below : List Frame) (meth : Method) (c : Code) (H : Heap) (locs : List Loc) (cells slots : Nat) (A : Array Slot) (mc ms : Nat) (Tg : State → Prop),
    ag_cx G y p l R s m meth c → R.cells = mc → R.slots = ms → (ag_hx y → c.exceptionTable.toList = tableOf (ag_hh y)) → ag_in G s σ H locs → ag_lr (ag_f G) ls (ag_mx y) A →
    cells + (σ'.2.1 - σ.2.1) = mc → slots + (σ'.2.2 - σ.2.2) = ms →
    (∀ (pc : Nat) (st : List ag_V) (H : Heap) (locs : List Loc) (A : Array Slot) (v : Option ag_V), ag_in G s σ' H locs → r = Sum.inl v → (∀ x, v = some (ag_I x) → decode (ag_by y) pc = .ok (.ireturn, 1) ∧ st = [ag_I x]) →
      W p l e R s m args below meth c H locs mc ms (MQ below (ag_Qc G r σ') args s mc ms (fun q => G.1.heap.size ≤ q)) (F0 m pc A (st.map (ag_v (ag_f G)))) → W p l e R s m args below meth c H locs mc ms Tg (F0 m pc A (st.map (ag_v (ag_f G))))) →
    (∀ (pc : Nat) (H : Heap) (locs : List Loc) (A : Array Slot) (cells slots : Nat) (σ1 : ag_S) (E : Nat) (ls : ag_Ls), ag_th y pc = some E → r = Sum.inr E → σ' = (σ1.1, (σ1.2.1 + 1, σ1.2.2 + 6)) → ag_in G s σ1 H locs → ag_lr (ag_f G) ls (ag_mx y) A → cells + 1 = mc → slots + 6 = ms →
      W p l e R s m args below meth c H locs cells slots Tg (F0 m pc A (([] : List ag_V).map (ag_v (ag_f G))))) →
    W p l e R s m args below meth c H locs cells slots Tg (F0 m pc A (st.map (ag_v (ag_f G))))
/-- a run of a method's body is its contract -/
theorem ag_contract {G : ag_G} {l : Launch} (hG : ag_gl G) (hG2 : ag_g2 G) (hfl : l.stackTraces = false) {F : Nat} (ih : ag_Bd G l F) {y : Nat} {as : List ag_V} {σ σ' : ag_S} {r : ag_Rs} (hy : 3 ≤ y) (hy2 : y < 136) (hrun : ag_run F y 0 (ag_en y as) [] σ = some (r, σ'))
    (hcat : ∀ w ∈ as, ag_c2 w = false) (hlen : as.length ≤ ag_mx y) : ag_Ct G l y as σ r σ' := by
  have hMW := ag_mw_go y hy hy2
  by_cases hk : ag_mk y = 3 ∨ ag_mk y = 5
  · have hcw9 : ag_cw y = Cond.codeWith (ag_ny y) (ag_by y) (ag_mx y) (ag_rt y) (ag_hh y) := by unfold ag_cw; rw [if_pos hk]
    refine vx_ofWH (cc := ag_by y) (maxL := ag_mx y) (ret := ag_rt y) (hh := ag_hh y) (ws' := []) hMW.2.2.2.1 (by rw [hcw9]) ?_
    intro p e s m args below meth c s₁ B hml hPc
    obtain ⟨rfl, hrep, hW⟩ := hPc
    rw [lg_entry_eq]
    have htab : c.exceptionTable.toList = tableOf (ag_hh y) := vx_table (x := ag_ny y) (bytes := ag_by y) (maxL' := ag_mx y) (ret' := ag_rt y) B (by
      have h1 := atoms_spec (ws := [ag_cw y]) B.pre _ List.mem_cons_self
      rw [hcw9] at h1
      exact h1)
    refine ih y 0 _ [] σ r σ' hrun p e _ s m _ below meth c s.heap [] 0 0 _ _ _ _ ⟨hG, B.exec, B.bytes, hml, B.returns, findClass_of_methodNamed B.named, B.notSynchronized, fun q => (name_of_methodNamed B.named B.method).1.trans q, hW, ⟨by rw [hrep.1]; omega, hrep.2.1⟩, Nat.le_refl _, Nat.le_refl _⟩ rfl rfl (fun _ => htab) ⟨hrep, Nat.le_refl _, fun _ h => absurd h List.not_mem_nil⟩ (ag_lr_entry rfl hcat hlen) (Nat.zero_add _) (Nat.zero_add _) (fun pc st H locs A v _ _ _ hw => vx_ret hw) (fun pc H locs A cells slots σ1 E ls hth _ _ _ _ _ _ => absurd hk (ag_twf hth).2.2.1)
  · have hcw9 : ag_cw y = Cond.code (ag_ny y) (ag_by y) (ag_mx y) (ag_rt y) := by unfold ag_cw; rw [if_neg hk]
    refine vx_ofW (cc := ag_by y) (maxL := ag_mx y) (ret := ag_rt y) (ws' := []) hMW.2.2.2.1 (by rw [hcw9]) ?_
    intro p e s m args below meth c s₁ B hml htab hPc
    obtain ⟨rfl, hrep, hW⟩ := hPc
    rw [lg_entry_eq]
    have C : ag_cx G y p l (headSpec [ag_cw y] (ag_rm y (σ'.2.1 - σ.2.1) (σ'.2.2 - σ.2.2))).room s m meth c := ⟨hG, B.exec, B.bytes, hml, B.returns, findClass_of_methodNamed B.named, B.notSynchronized, fun q => (name_of_methodNamed B.named B.method).1.trans q, hW, ⟨by rw [hrep.1]; omega, hrep.2.1⟩, Nat.le_refl _, Nat.le_refl _⟩
    refine ih y 0 _ [] σ r σ' hrun p e _ s m _ below meth c s.heap [] 0 0 _ _ _ _ C rfl rfl (fun q => absurd q hk) ⟨hrep, Nat.le_refl _, fun _ h => absurd h List.not_mem_nil⟩ (ag_lr_entry rfl hcat hlen) (Nat.zero_add _) (Nat.zero_add _) (fun pc st H locs A v _ _ _ hw => vx_ret hw) ?_
    intro pc H locs A cells slots σ1 E ls hth hr hσ hI hL hc hs
    have hσ9 := hσ
    subst hr
    rw [hσ9]
    rw [hσ9] at hc hs
    have htab9 : c.exceptionTable.toList = [] := by
      cases hq : c.exceptionTable.toList with
      | nil => rfl
      | cons x t => exact (htab x (by rw [hq]; exact List.mem_cons_self)).elim
    have h9 := ag_s_throw (cells := cells) (slots := slots) (st := []) (e := e) (below := below) (args := (as.map (ag_v (ag_f G))).toArray) C hG2 hfl hI hL hth rfl htab9 (by rw [hσ9]; show cells + 1 ≤ _; rw [hc]; exact Nat.le_refl _) (by rw [hσ9]; show slots + 6 ≤ _; rw [hs]; exact Nat.le_refl _)
    rw [hc, hs] at h9
    rw [hσ9] at h9
    exact h9
theorem ag_cw_len {y idx y' n kd : Nat} (h : ag_CW y idx y' n kd) (h3 : 3 ≤ y') : n ≤ ag_mx y' ∧ y' < 136 := by
  unfold ag_CW at h
  split at h
  · omega
  · omega
  · omega
  · omega
  · obtain ⟨g1, g2, g3, g4, g5, -⟩ := h
    have h9 := (ag_npx y' (by omega)).resolve_right (by omega)
    rw [if_pos (Or.inl g5)] at h9
    exact ⟨by omega, g2⟩
  · obtain ⟨g1, g2, g3, g4, g5, -⟩ := h
    have h9 := (ag_npx y' (by omega)).resolve_right (by omega)
    rw [if_pos (Or.inr (Or.inr g5))] at h9
    exact ⟨by omega, g2⟩
  · obtain ⟨g1, g2, g3, g4, g5, -⟩ := h
    have h9 := (ag_npx y' (by omega)).resolve_right (by omega)
    rw [if_neg (by omega)] at h9
    exact ⟨by omega, g2⟩
  · obtain ⟨g1, g2, g3, g4, g5, -⟩ := h
    have h9 := (ag_npx y' (by omega)).resolve_right (by omega)
    rw [if_neg (by omega)] at h9
    exact ⟨by omega, g2⟩
  · obtain ⟨g1, g2, g3, g4, g5, -⟩ := h
    have h9 := (ag_npx y' (by omega)).resolve_right (by omega)
    rw [if_neg (by omega)] at h9
    exact ⟨by omega, g2⟩
  · obtain ⟨g1, g2, g3, g4, g5, -⟩ := h
    have h9 := (ag_npx y' (by omega)).resolve_right (by omega)
    rw [if_pos (Or.inr (Or.inl g5))] at h9
    exact ⟨by omega, g2⟩
  · obtain ⟨g1, g2, g3, g4, g5, -⟩ := h
    have h9 := (ag_npx y' (by omega)).resolve_right (by omega)
    rw [if_pos (Or.inr (Or.inl g5))] at h9
    exact ⟨by omega, g2⟩
  · exact h.elim
theorem ag_sp_call {y pc y' : Nat} {ls : ag_Ls} {st as rest : List ag_V} {σ : ag_S} (h : ag_sp y pc ls st σ = some (Sum.inr (Sum.inr (y', (as, rest))))) : ∃ idx op, ((op = 0 ∧ decode (ag_by y) pc = .ok (.invokevirtual idx, 3)) ∨ (op = 1 ∧ decode (ag_by y) pc = .ok (.invokestatic idx, 3)) ∨ (op = 2 ∧ decode (ag_by y) pc = .ok (.invokespecial idx, 3))) ∧ ag_iv y idx op pc ls st σ = some (Sum.inr (Sum.inr (y', (as, rest)))) := by
  unfold ag_sp at h
  split at h
  · split at h <;> cases h
  · split at h
    · rename_i i len hd
      split at h
      · rename_i hlen
        have hi := ag_ex_inr h
        cases i with
        | invokevirtual n =>
          have hlen : len = 3 := hlen
          subst hlen
          exact ⟨n, 0, Or.inl ⟨rfl, hd⟩, h⟩
        | invokestatic n =>
          have hlen : len = 3 := hlen
          subst hlen
          exact ⟨n, 1, Or.inr (Or.inl ⟨rfl, hd⟩), h⟩
        | invokespecial n =>
          have hlen : len = 3 := hlen
          subst hlen
          exact ⟨n, 2, Or.inr (Or.inr ⟨rfl, hd⟩), h⟩
        | ireturn => exfalso; simp only [ag_ex, ag_dn] at h; repeat' split at h
                     all_goals cases h
        | lreturn => exfalso; simp only [ag_ex, ag_dn] at h; repeat' split at h
                     all_goals cases h
        | dreturn => exfalso; simp only [ag_ex, ag_dn] at h; repeat' split at h
                     all_goals cases h
        | areturn => exfalso; simp only [ag_ex, ag_dn] at h; repeat' split at h
                     all_goals cases h
        | return_ => exfalso; simp only [ag_ex, ag_dn] at h; repeat' split at h
                     all_goals cases h
        | _ => cases hi
      · cases h
    · cases h
theorem ag_lr_none {f : Nat → Nat} {ls : ag_Ls} {nL k : Nat} {w : Value} {A A' : Array Slot} (h : ag_lr f ls nL A) (ho : ag_ok ls k = true)
    (hA : lv_has A' nL ((k, w) :: (ag_lv f ls).filter (fun q => !(q.1 == k) && !(q.1 + 1 == k && q.2.category == 2)))) : ag_lr f (ls.set k none) nL A' := by
  refine ⟨hA.1, by rw [List.length_set]; exact h.2.1, hA.2.1, fun j v hj => ?_⟩
  by_cases hjk : k = j
  · subst hjk
    have hk : k < ls.length := by
      have := (List.getElem?_eq_some_iff.mp hj).1
      rwa [List.length_set] at this
    rw [List.getElem?_set_self hk] at hj
    cases hj
  · rw [List.getElem?_set_ne hjk] at hj
    refine hA.2.2 (j, ag_v f v) (List.mem_cons_of_mem _ (List.mem_filter.mpr ⟨ag_lv_mem hj, ?_⟩))
    have h1 : (j == k) = false := by simp [Ne.symm hjk]
    dsimp only
    rw [h1]
    simp only [Bool.not_false, Bool.true_and, Bool.not_eq_true', Bool.and_eq_false_iff, beq_eq_false_iff_ne, ne_eq]
    by_cases h2 : j + 1 = k
    · right
      subst h2
      have ho2 : (!ag_c2 v) = true := by
        have : ag_ok ls (j + 1) = (match ls[j]? with
          | some (some v) => !ag_c2 v
          | _ => true) := rfl
        rw [this, hj] at ho
        exact ho
      rw [ag_v_cat, if_neg (by simpa using ho2)]
      decide
    · left
      exact h2
set_option maxHeartbeats 4000000 in
/-- EVERY RUN of the small machine is the machine's -/
theorem ag_main {G : ag_G} {l : Launch} (hG : ag_gl G) (hG2 : ag_g2 G) (hfl : l.stackTraces = false) : ∀ F, ag_Bd G l F := by
  intro F
  induction F with
  | zero => intro y pc ls st σ r σ' h; cases h
  | succ F ih =>
    intro y pc ls st σ r σ' h p e R s m args below meth c H locs cells slots A mc ms Tg C hRc hRs hTab hI hL hmc hms hE hT
    have hle := ag_run_le _ _ _ _ _ _ _ _ h
    rw [ag_run] at h
    cases hs : ag_sp y pc ls st σ with
    | none => rw [hs] at h; cases h
    | some x =>
      rw [hs] at h
      rcases x with ⟨pc1, ls1, st1, σ1⟩ | ⟨r1, σ1⟩ | ⟨y1, as, rest⟩
      · -- a step
        dsimp only at h
        have h1 := ag_sp_mono hs
        have h2 := ag_run_le _ _ _ _ _ _ _ _ h
        refine ag_step C hI hL hs (by omega) (by omega) (by omega) (by omega) fun H' locs' A' hI' hL' => ?_
        exact ih y pc1 ls1 st1 σ1 r σ' h p e R s m args below meth c H' locs' _ _ A' mc ms Tg C hRc hRs hTab hI' hL' (by omega) (by omega) hE hT
      · -- an end
        cases h
        unfold ag_sp at hs
        split at hs
        · rename_i E hth
          split at hs
          · cases hs
            refine hT pc H locs A cells slots σ E ls hth rfl rfl hI hL ?_ ?_
            · rw [← hmc]; show cells + 1 = cells + (σ.2.1 + 1 - σ.2.1); omega
            · rw [← hms]; show slots + 6 = slots + (σ.2.2 + 6 - σ.2.2); omega
          · cases hs
        · split at hs
          · rename_i i len hd
            split at hs
            · rename_i hlen
              obtain ⟨rfl, v, rfl, hv, hw⟩ := ag_s_end (l := l) (e := e) (R := R) (args := args) (below := below) (A := A) (cells := cells) (slots := slots) C hI hd hlen hs
              rw [Nat.sub_self, Nat.add_zero] at hmc hms
              subst hmc; subst hms
              exact hE pc st H locs A v hI rfl hv hw
            · cases hs
          · cases hs
      · -- a call
        dsimp only at h
        cases hc : ag_run F y1 0 (ag_en y1 as) [] σ with
        | none => rw [hc] at h; cases h
        | some q =>
          rw [hc] at h
          obtain ⟨r1, σ1⟩ := q
          have h1 := ag_run_le _ _ _ _ _ _ _ _ hc
          obtain ⟨idx, op, hop, hiv⟩ := ag_sp_call hs
          obtain ⟨n, kd, hm9, hy3, -, hn, -, hcat, -⟩ := ag_iv_call hiv
          obtain ⟨hlen, hy2⟩ := ag_cw_len (ag_cwf hm9) hy3
          have hM := ag_contract hG hG2 hfl ih hy3 hy2 hc hcat (by omega)
          rcases r1 with v | E
          · dsimp only at h
            have h2 := ag_run_le _ _ _ _ _ _ _ _ h
            refine ag_call C hI hL hop hiv hM h1.1 (Or.inl ⟨v, rfl⟩) (by omega) (by omega) (fun v9 H' locs' hv hI' => ?_) (fun E9 H' locs' q ce hq => by cases hq)
            cases hv
            exact ih y (pc + 3) ls (v.toList ++ rest) σ1 r σ' h p e R s m args below meth c H' locs' _ _ A mc ms Tg C hRc hRs hTab hI' hL (by omega) (by omega) hE hT
          · dsimp only at h
            cases hh : ag_hd y E with
            | none => rw [hh] at h; cases h
            | some z =>
              rw [hh] at h
              obtain ⟨pc9, k9⟩ := z
              dsimp only at h
              split at h
              · rename_i hpc
                obtain ⟨hpc, hok⟩ := hpc
                have h2 := ag_run_le _ _ _ _ _ _ _ _ h
                obtain ⟨hE3, hk3, hkm, pre, x, suf, hsplit, hpre, hcov, hct, hlk, hlg, hast⟩ := ag_hwf hh
                refine ag_call C hI hL hop hiv hM h1.1 (Or.inr hk3) (by omega) (by omega) (fun v9 H' locs' hv hI' => by cases hv) (fun E9 H' locs' q ce hq hE9 hI' hce hcv hcl => ?_)
                cases hq
                have C' := C
                obtain ⟨-, hx, hb, hml, hr, hown, hlk9, hnm, hW, hs0, hRf, hRl⟩ := C'
                have hownL : s.vm.findClass (ag_on (ag_ow y)) = some m.cls := by rw [ag_on_ok]; exact hown
                refine vx_catch hownL pre x suf ((hTab hk3).trans hsplit) (fun z hz => ?_) (by rw [hpc]; exact hcov) hct (ag_word hG hW hlk hlg args) (va_Nw.use rfl (va_Nw.warmC hW (va_Nw.of rfl (hG.1 _ (ag_hc hE3))))) hce hcv hcl ?_
                · obtain ⟨g1, j, gj, gj1, gne, g2, g3⟩ := hpre z hz
                  exact Or.inr ⟨g1, ag_xn j, ag_word hG hW g2 g3 args, va_Nc.moved hW.alike (hG2.2.2 E j hE3 gj gj1 gne)⟩
                · rcases hast with ⟨hd9, rfl⟩ | ⟨k4, hd9, rfl, rfl⟩
                  · refine lv_astore hx hb hd9 (ag_lr_has hL) hkm rfl (fun A' hA => ?_)
                    exact ih y _ _ [] σ1 r σ' h p e R s m args below meth c H' locs' _ _ A' mc ms Tg C hRc hRs hTab hI' (ag_lr_none hL hok hA) (by omega) (by omega) hE hT
                  · refine lv_astore_n hx hb hd9 rfl (ag_lr_has hL) hkm rfl (fun A' hA => ?_)
                    exact ih y _ _ [] σ1 r σ' h p e R s m args below meth c H' locs' _ _ A' mc ms Tg C hRc hRs hTab hI' (ag_lr_none hL hok hA) (by omega) (by omega) hE hT
              · cases h
