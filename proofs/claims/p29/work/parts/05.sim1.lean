/-! THE SMALL MACHINE'S STEPS ARE THE MACHINE'S, 1: what a store says of a heap; locals; steps that touch no cell. -/
/-- what is fixed: the law's start, the script's cell, the numbers of classes and slots, the classes of the arrays -/
abbrev ag_G : Type := State × (Nat × (va_G × (Nat → ClassId)))
def ag_f (G : ag_G) (n : Nat) : Nat := match n with
  | 0 => G.2.1
  | k + 1 => G.1.heap.size + k
def ag_v (f : Nat → Nat) (v : ag_V) : Value := match v with
  | .inl x => .int (Int32.ofInt x)
  | .inr (.inl x) => .long (Int64.ofInt x)
  | .inr (.inr (.inl d)) => .double d
  | .inr (.inr (.inr none)) => .null
  | .inr (.inr (.inr (some n))) => .ref (f n)
def ag_e (G : ag_G) (c : ag_C) : va_E := match c with
  | .inl (n, g) => .inl (G.2.2.2 0, (n, .inl (fun i => Int32.ofInt (g i))))
  | .inr (.inl (n, g)) => .inl (G.2.2.2 1, (n, .inr (.inl (fun i => Int64.ofInt (g i)))))
  | .inr (.inr (.inl (n, g))) => .inl (G.2.2.2 2, (n, .inr (.inr (.inr (.inr (fun i => (g i).map (ag_f G)))))))
  | .inr (.inr (.inr (ci, fs))) => .inr (ci, fs.map (ag_v (ag_f G)))
def ag_wf (c : ag_C) : Prop := match c with
  | .inr (.inr (.inr (ci, fs))) => ∃ r : vw_C, ag_cl[ci]? = some r ∧ fs.length = r.2.2
  | _ => True
def ag_at (G : ag_G) (n : Nat) (c : ag_C) (H : Heap) : Prop :=
  (n = 0 ∧ ∃ (k : Nat) (g : Nat → Int), c = Sum.inl (k, g) ∧ va_X G.2.1 k (fun i => Int32.ofInt (g i)) G.1 H) ∨
  (n ≠ 0 ∧ va_at G.2.2.1 ag_cl (ag_f G n, ag_e G c) H ∧ ag_wf c)
def ag_rep (G : ag_G) (σ : ag_S) (H : Heap) : Prop := H.size = G.1.heap.size + σ.2.1 ∧ (∀ q : Nat, q < G.1.heap.size → H[q]? = G.1.heap[q]?) ∧ ∀ (n : Nat) (c : ag_C), σ.1 n = some c → ag_at G n c H
def ag_in (G : ag_G) (s : State) (σ : ag_S) (H : Heap) (locs : List Loc) : Prop := ag_rep G σ H ∧ s.heap.size ≤ H.size ∧ ∀ z ∈ locs, G.1.heap.size ≤ z.base
def ag_lr (f : Nat → Nat) (ls : ag_Ls) (nL : Nat) (A : Array Slot) : Prop := A.size = nL ∧ ls.length = nL ∧ lv_wf A ∧ ∀ (k : Nat) (v : ag_V), ls[k]? = some (some v) → A[k]? = some (.val (ag_v f v))
def ag_tys (G : ag_G) : List (ClassId × FieldType) := [(G.2.2.2 0, .int), (G.2.2.2 2, .array .int)]
/-- what the law's start gives -/
def ag_gl (G : ag_G) : Prop := (∀ w ∈ lw_tbl, w.before #[Value.ref G.2.1] G.1 = true) ∧ va_K G.2.2.1 ag_cl (ag_tys G) G.1 ∧ G.2.1 < G.1.heap.size ∧ ∃ kA : Class, G.1.vm.classes[G.2.2.2 2]? = some kA ∧ kA.kind = .array (G.2.2.2 0) (.array .int)
/-- where a method stands -/
def ag_cx (G : ag_G) (y : Nat) (p : Program) (l : Launch) (R : Room) (s : State) (m : MethodId) (meth : Method) (c : Code) : Prop :=
  ag_gl G ∧ p.tables.exec = Jvm.exec ∧ c.code = ag_by y ∧ c.maxLocals = ag_mx y ∧ meth.sig.returnType = ag_rt y ∧ s.vm.findClass (ag_ny y).cls = some m.cls ∧ meth.locks = false ∧ ((ag_ny y).name = "<init>" → meth.name = "<init>") ∧ G.1.WarmedH s.vm ∧
  (G.1.heap.size ≤ s.heap.size ∧ ∀ q : Nat, q < G.1.heap.size → s.heap[q]? = G.1.heap[q]?) ∧ ag_rk y + 10 ≤ R.frames ∧ 100 + 60 * ag_rk y ≤ R.locals
theorem ag_f_pos {G : ag_G} {n : Nat} (h : n ≠ 0) : ag_f G n = G.1.heap.size + (n - 1) := by
  cases n with
  | zero => exact absurd rfl h
  | succ k => rfl
theorem ag_v_cat (f : Nat → Nat) (v : ag_V) : (ag_v f v).category = if ag_c2 v = true then 2 else 1 := by
  rcases v with x | x | x | _ | x <;> rfl
theorem ag_wt_map (f : Nat → Nat) (st : List ag_V) : ((st.map (ag_v f)).map fun v => v.category).sum = ag_wt st := by
  unfold ag_wt
  rw [List.map_map]
  congr 1
  apply List.map_congr_left
  intro v _
  exact ag_v_cat f v
theorem ag_nm_i (a : Int) : Int32.ofInt (ag_nm a) = Int32.ofInt a := by unfold ag_nm; exact Int32.ofInt_toInt _
theorem ag_nl_i (a : Int) : Int64.ofInt (ag_nl a) = Int64.ofInt a := by unfold ag_nl; exact Int64.ofInt_toInt _
theorem ag_lt_i (a b : Int) : (Int32.ofInt a < Int32.ofInt b) ↔ ag_nm a < ag_nm b := Int32.lt_iff_toInt_lt
theorem ag_le_i (a b : Int) : (Int32.ofInt a ≤ Int32.ofInt b) ↔ ag_nm a ≤ ag_nm b := Int32.le_iff_toInt_le
theorem ag_eq_i (a b : Int) : (Int32.ofInt a = Int32.ofInt b) ↔ ag_nm a = ag_nm b := Int32.toInt_inj.symm
theorem ag_nm_z : ag_nm 0 = 0 := by decide +kernel
theorem ag_lt_l (a b : Int) : (Int64.ofInt a < Int64.ofInt b) ↔ ag_nl a < ag_nl b := Int64.lt_iff_toInt_lt
theorem ag_eq_l (a b : Int) : (Int64.ofInt a = Int64.ofInt b) ↔ ag_nl a = ag_nl b := Int64.toInt_inj.symm
/-- the locals as a list of what is known -/
def ag_lv (f : Nat → Nat) (ls : ag_Ls) : List (Nat × Value) := (List.range ls.length).filterMap (fun k => match ls[k]? with
  | some (some v) => some (k, ag_v f v)
  | _ => none)
theorem ag_lv_mem {f : Nat → Nat} {ls : ag_Ls} {k : Nat} {v : ag_V} (h : ls[k]? = some (some v)) : (k, ag_v f v) ∈ ag_lv f ls := by
  refine List.mem_filterMap.mpr ⟨k, List.mem_range.mpr (List.getElem?_eq_some_iff.mp h).1, ?_⟩
  rw [h]
theorem ag_lv_of {f : Nat → Nat} {ls : ag_Ls} {q : Nat × Value} (h : q ∈ ag_lv f ls) : ∃ v, ls[q.1]? = some (some v) ∧ q.2 = ag_v f v := by
  obtain ⟨k, -, hk⟩ := List.mem_filterMap.mp h
  cases hl : ls[k]? with
  | none => rw [hl] at hk; cases hk
  | some o =>
    cases o with
    | none => rw [hl] at hk; cases hk
    | some v =>
      rw [hl] at hk
      cases hk
      exact ⟨v, hl, rfl⟩
theorem ag_lr_has {f : Nat → Nat} {ls : ag_Ls} {nL : Nat} {A : Array Slot} (h : ag_lr f ls nL A) : lv_has A nL (ag_lv f ls) := by
  refine ⟨h.1, h.2.2.1, fun q hq => ?_⟩
  obtain ⟨v, h1, h2⟩ := ag_lv_of hq
  rw [h2]
  exact h.2.2.2 _ _ h1
theorem ag_lr_st1 {f : Nat → Nat} {ls : ag_Ls} {nL k : Nat} {v : ag_V} {A A' : Array Slot} (h : ag_lr f ls nL A) (ho : ag_ok ls k = true)
    (hA : lv_has A' nL ((k, ag_v f v) :: (ag_lv f ls).filter (fun q => !(q.1 == k) && !(q.1 + 1 == k && q.2.category == 2)))) : ag_lr f (ls.set k (some v)) nL A' := by
  refine ⟨hA.1, by rw [List.length_set]; exact h.2.1, hA.2.1, fun j w hj => ?_⟩
  by_cases hjk : k = j
  · subst hjk
    have hk : k < ls.length := by
      have := (List.getElem?_eq_some_iff.mp hj).1
      rwa [List.length_set] at this
    rw [List.getElem?_set_self hk] at hj
    cases hj
    exact hA.2.2 _ List.mem_cons_self
  · rw [List.getElem?_set_ne hjk] at hj
    refine hA.2.2 (j, ag_v f w) (List.mem_cons_of_mem _ (List.mem_filter.mpr ⟨ag_lv_mem hj, ?_⟩))
    have h1 : (j == k) = false := by simp [Ne.symm hjk]
    dsimp only
    rw [h1]
    simp only [Bool.not_false, Bool.true_and, Bool.not_eq_true', Bool.and_eq_false_iff, beq_eq_false_iff_ne, ne_eq]
    by_cases h2 : j + 1 = k
    · right
      subst h2
      have ho2 : (!ag_c2 w) = true := by
        have : ag_ok ls (j + 1) = (match ls[j]? with
          | some (some v) => !ag_c2 v
          | _ => true) := rfl
        rw [this, hj] at ho
        exact ho
      rw [ag_v_cat, if_neg (by simpa using ho2)]
      decide
    · left
      exact h2
theorem ag_lr_st2 {f : Nat → Nat} {ls : ag_Ls} {nL k : Nat} {v : ag_V} {A A' : Array Slot} (h : ag_lr f ls nL A) (ho : ag_ok ls k = true)
    (hA : lv_has A' nL ((k, ag_v f v) :: (ag_lv f ls).filter (fun q => !(q.1 == k) && (!(q.1 == k + 1) && !(q.1 + 1 == k && q.2.category == 2))))) : ag_lr f ((ls.set k (some v)).set (k + 1) none) nL A' := by
  refine ⟨hA.1, by rw [List.length_set, List.length_set]; exact h.2.1, hA.2.1, fun j w hj => ?_⟩
  by_cases hjk1 : k + 1 = j
  · subst hjk1
    have hk : k + 1 < (ls.set k (some v)).length := by
      have := (List.getElem?_eq_some_iff.mp hj).1
      rwa [List.length_set] at this
    rw [List.getElem?_set_self hk] at hj
    cases hj
  · rw [List.getElem?_set_ne hjk1] at hj
    by_cases hjk : k = j
    · subst hjk
      have hk : k < ls.length := by
        have := (List.getElem?_eq_some_iff.mp hj).1
        rwa [List.length_set] at this
      rw [List.getElem?_set_self hk] at hj
      cases hj
      exact hA.2.2 _ List.mem_cons_self
    · rw [List.getElem?_set_ne hjk] at hj
      refine hA.2.2 (j, ag_v f w) (List.mem_cons_of_mem _ (List.mem_filter.mpr ⟨ag_lv_mem hj, ?_⟩))
      have h1 : (j == k) = false := by simp [Ne.symm hjk]
      have h3 : (j == k + 1) = false := by simp; exact fun q => hjk1 q.symm
      dsimp only
      rw [h1, h3]
      simp only [Bool.not_false, Bool.true_and, Bool.not_eq_true', Bool.and_eq_false_iff, beq_eq_false_iff_ne, ne_eq]
      by_cases h2 : j + 1 = k
      · right
        subst h2
        have ho2 : (!ag_c2 w) = true := by
          have : ag_ok ls (j + 1) = (match ls[j]? with
            | some (some v) => !ag_c2 v
            | _ => true) := rfl
          rw [this, hj] at ho
          exact ho
        rw [ag_v_cat, if_neg (by simpa using ho2)]
        decide
      · left
        exact h2
section AGW
variable {p : Program} {l : Launch} {e : Env} {R : Room} {s : State} {m : MethodId} {args : Array Value} {below : List Frame} {meth : Method} {c : Code} {H : Heap} {locs : List Loc} {cells slots : Nat} {Q : State → Prop} {G : ag_G} {y pc len : Nat} {A : Array Slot} {ls ls' : ag_Ls} {st st' : List ag_V} {σ σ' : ag_S} {pc' : Nat}
/-- a step, as it goes on -/
abbrev ag_Go (p : Program) (l : Launch) (e : Env) (R : Room) (s : State) (m : MethodId) (args : Array Value) (below : List Frame) (meth : Method) (c : Code) (cells slots : Nat) (Q : State → Prop) (G : ag_G) (y : Nat) (σ : ag_S) (pc' : Nat) (ls' : ag_Ls) (st' : List ag_V) (σ' : ag_S) : Prop :=
  ∀ (H' : Heap) (locs' : List Loc) (A' : Array Slot), ag_in G s σ' H' locs' → ag_lr (ag_f G) ls' (ag_mx y) A' → W p l e R s m args below meth c H' locs' (cells + (σ'.2.1 - σ.2.1)) (slots + (σ'.2.2 - σ.2.2)) Q (F0 m pc' A' (st'.map (ag_v (ag_f G))))
abbrev ag_At (p : Program) (l : Launch) (e : Env) (R : Room) (s : State) (m : MethodId) (args : Array Value) (below : List Frame) (meth : Method) (c : Code) (H : Heap) (locs : List Loc) (cells slots : Nat) (Q : State → Prop) (G : ag_G) (pc : Nat) (A : Array Slot) (st : List ag_V) : Prop :=
  W p l e R s m args below meth c H locs cells slots Q (F0 m pc A (st.map (ag_v (ag_f G))))
theorem ag_Go.same {A' : Array Slot} (kk : ag_Go p l e R s m args below meth c cells slots Q G y σ pc' ls' st' σ) (hI : ag_in G s σ H locs) (hL : ag_lr (ag_f G) ls' (ag_mx y) A') : W p l e R s m args below meth c H locs cells slots Q (F0 m pc' A' (st'.map (ag_v (ag_f G)))) := by
  have h := kk H locs A' hI hL
  rw [Nat.sub_self, Nat.sub_self, Nat.add_zero, Nat.add_zero] at h
  exact h
theorem ag_go_inj {pc pc' : Nat} {ls ls' : ag_Ls} {st st' : List ag_V} {σ σ' : ag_S} (h : ag_go pc ls st σ = some (Sum.inl (pc', (ls', (st', σ'))))) : pc = pc' ∧ ls = ls' ∧ st = st' ∧ σ = σ' := by
  unfold ag_go at h
  cases h
  exact ⟨rfl, rfl, rfl, rfl⟩
end AGW
