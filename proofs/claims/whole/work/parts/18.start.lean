/-! THE CLAIM OUT OF ONE WALK OF THE LAW'S BODY. Your part is whole_start (and what it stands on); all else here is the same for every law, but numbers. -/
def R_law : String := "AgendumOfficeLaw"
def lw_P (b : Addr) (xs : List Int32) (args : Array Value) (s : State) : Prop := args = #[.ref b] ∧ s.IntsAt b xs ∧ xs.length ≤ 2048 ∧ (Jvm.Cond.and given_1 narrow_1).before args s = true
/-- what a walk over the start with the record d0 says of its end, said of the start itself -/
theorem lw_closed {s t : State} {o : Outcome} {d0 : Drawn} {L : List Loc} {k n : Nat} (hd0 : s.drawn.sameBut d0 lw_cs) (hv : ∃ v, o = .returned v) (hW : (s.setDrawn d0).WarmedH t.vm) (hs : (s.setDrawn d0).sameButNew ({ t with vm := s.vm } : State) L k n) : State.butDraws s t lw_cs (fun t1 => Framed s o t1 L k n) := by
  have h2 : t.drawn = d0 := congrArg State.drawn hs.1
  refine ⟨⟨hv, hW, State.sameButNew.setDrawn hs s.drawn⟩, ?_, by decide⟩
  rw [h2]
  exact hd0
def lw_Q (_ : Array Value) (s : State) (o : Outcome) (t : State) : Prop := o = .returned (some (.int 1)) ∧ State.butDraws s t lw_cs (fun t1 => Framed s o t1 [] room_1.cells room_1.slots)
def lw_Z (below : List Frame) (a : Array Value) (s : State) : State → Prop := fun t => ∃ o, t.status = .running ∧ Ended t below o ∧ lw_Q a s o t
/-- the law's own end, with 1 on the stack, nothing written that was there before, its room as the claim has it; d0: the record of draws at this point (at the entry s.drawn: begin with 'refine W.base ?_' and 'have hd0 := Drawn.sameBut.refl s.drawn lw_cs') -/
theorem lw_ret {p : Program} {l : Launch} {e : Env} {s : State} {m : MethodId} {below : List Frame} {meth : Method} {c : Code} {b : Nat} {d0 : Drawn} (hd0 : s.drawn.sameBut d0 lw_cs) (hx : p.tables.exec = Jvm.exec) (hb : c.code = code) (hr : meth.sig.returnType = ret) (hlocks : meth.locks = false) {pc : Nat} {H : Heap} {ls : Array Slot} (hdg : decode code pc = .ok (.ireturn, 1)) : W p l e room_1 (s.setDrawn d0) m #[Value.ref b] below meth c H [] room_1.cells room_1.slots (lw_Z below #[Value.ref b] s) (F0 m pc ls [.int 1]) := by
  intro T hT X
  obtain ⟨fs, hret, hrun, hended, hW, hframe⟩ := X.leave (v := some (.int 1)) (hlocks := hlocks) (fun h => by rw [hr] at h; cases h)
  have hmeth' : T.vm.method? m = some meth := X.method'
  refine ⟨T.setFrames fs, ?_, .returned (some (.int 1)), hrun, hended, rfl, lw_closed hd0 ⟨_, rfl⟩ hW hframe⟩
  jvm_step X.here [X.here.top, hx, hb, hdg, hmeth', hr, ret, narrow_b1]
  (try refine ⟨rfl, ?_⟩); (try refine ⟨rfl, ?_⟩)
  first | (intro acts; rw [hret _ acts rfl rfl rfl]) | rw [hret _ _ rfl rfl rfl]
  exact Steps.refl _
/-- what holds at the law's entry: the machine, the code, the tables' words (any of lw_tbl by 'hts w (by decide +kernel)'), the script of L ints xs at the cell b, what the Statement gives of the start (any of its parts by flat_of_before) -/
def lw_At (p : Program) (s : State) (m : MethodId) (meth : Method) (c : Code) (b L : Nat) (xs : Nat → Int32) : Prop :=
  p.tables.exec = Jvm.exec ∧ c.code = code ∧ meth.sig.returnType = ret ∧ c.maxLocals = 9 ∧ s.vm.findClass R_law = some m.cls ∧ (∀ w ∈ lw_tbl, w.before #[Value.ref b] s = true) ∧ va_X b L xs s s.heap ∧ b < s.heap.size ∧ meth.locks = false ∧ (Jvm.Cond.and given_1 narrow_1).before #[Value.ref b] s = true
def ag_S0 (L : Nat) (xs : Nat → Int) : ag_S := (fun n => if n = 0 then some (Sum.inl (L, xs)) else none, (0, 0))
/-- how the law must end, on the small machine -/
def ag_fin (r : ag_Rs) (σ' : ag_S) : Prop := r = Sum.inl (some (ag_I 1)) ∧ σ'.2.1 ≤ 340000 ∧ σ'.2.2 ≤ 7266765
theorem ag_w_lu : Cond.laysStatic Bundle.tN "UNASSIGNED_STACK" Bundle.steD ∈ lw_tbl := List.mem_of_getElem? (i := 512) (by decide +kernel)
theorem ag_w_ls : Cond.laysStatic Bundle.tN "SUPPRESSED_SENTINEL" Bundle.listD ∈ lw_tbl := List.mem_of_getElem? (i := 514) (by decide +kernel)
theorem ag_w_ti : Cond.initialized Bundle.tN ∈ lw_tbl := List.mem_of_getElem? (i := 60) (by decide +kernel)
theorem ag_f_u : Cond.isRef (.static Bundle.tN "UNASSIGNED_STACK" Bundle.steD) ∈ flatC (Jvm.Cond.and given_1 narrow_1) := by decide +kernel
theorem ag_f_s : Cond.isRef (.static Bundle.tN "SUPPRESSED_SENTINEL" Bundle.listD) ∈ flatC (Jvm.Cond.and given_1 narrow_1) := by decide +kernel
theorem ag_f_c : ∀ i, i < 3 → ∀ j, j < 3 → i ≠ j → Cond.not (.castable (ag_xn i) (ag_xn j)) ∈ flatC (Jvm.Cond.and given_1 narrow_1) := by decide +kernel
theorem ag_known {s : State} {b : Nat} (hts : ∀ w ∈ lw_tbl, w.before #[Value.ref b] s = true) (k : Nat) : ∃ (cC : ClassId) (iS : Nat → Nat), ∀ q : vw_C, ag_cl[k]? = some q → u_Kn s q.1 q.2.1 q.2.2 cC iS := by
  match k with
  | 0 =>
    obtain ⟨cC, iS, h⟩ := u_known (C := RX0) (T := TX0) (N := 10) (n := 10) hts (fun w hw => (ag_lay_0 w hw).1) (hts (.instantiable RX0 10) (List.mem_of_getElem? (i := 136) (by decide +kernel)))
    exact ⟨cC, iS, fun q hq => by cases hq; exact h⟩
  | 1 =>
    obtain ⟨cC, iS, h⟩ := u_known (C := RX1) (T := TX1) (N := 3) (n := 3) hts (fun w hw => (ag_lay_1 w hw).1) (hts (.instantiable RX1 3) (List.mem_of_getElem? (i := 130) (by decide +kernel)))
    exact ⟨cC, iS, fun q hq => by cases hq; exact h⟩
  | 2 =>
    obtain ⟨cC, iS, h⟩ := u_known (C := RX2) (T := TX2) (N := 7) (n := 7) hts (fun w hw => (ag_lay_2 w hw).1) (hts (.instantiable RX2 7) (List.mem_of_getElem? (i := 77) (by decide +kernel)))
    exact ⟨cC, iS, fun q hq => by cases hq; exact h⟩
  | 3 =>
    obtain ⟨cC, iS, h⟩ := u_known (C := RX3) (T := TX3) (N := 7) (n := 7) hts (fun w hw => (ag_lay_3 w hw).1) (hts (.instantiable RX3 7) (List.mem_of_getElem? (i := 188) (by decide +kernel)))
    exact ⟨cC, iS, fun q hq => by cases hq; exact h⟩
  | 4 =>
    obtain ⟨cC, iS, h⟩ := u_known (C := RX4) (T := TX4) (N := 3) (n := 3) hts (fun w hw => (ag_lay_4 w hw).1) (hts (.instantiable RX4 3) (List.mem_of_getElem? (i := 112) (by decide +kernel)))
    exact ⟨cC, iS, fun q hq => by cases hq; exact h⟩
  | 5 =>
    obtain ⟨cC, iS, h⟩ := u_known (C := RX5) (T := TX5) (N := 5) (n := 5) hts (fun w hw => (ag_lay_5 w hw).1) (hts (.instantiable RX5 5) (List.mem_of_getElem? (i := 69) (by decide +kernel)))
    exact ⟨cC, iS, fun q hq => by cases hq; exact h⟩
  | 6 =>
    obtain ⟨cC, iS, h⟩ := u_known (C := RX6) (T := TX6) (N := 25) (n := 25) hts (fun w hw => (ag_lay_6 w hw).1) (hts (.instantiable RX6 25) (List.mem_of_getElem? (i := 831) (by decide +kernel)))
    exact ⟨cC, iS, fun q hq => by cases hq; exact h⟩
  | n + 7 => exact ⟨0, fun _ => 0, fun q hq => by cases hq⟩
/-- the law's start, as the small machine has it -/
theorem ag_world {s : State} {b : Nat} (hbl : b < s.heap.size) (hts : ∀ w ∈ lw_tbl, w.before #[Value.ref b] s = true) : ∃ G : ag_G, G.1 = s ∧ G.2.1 = b ∧ ag_gl G := by
  obtain ⟨ci, ki, compi, i1, i2, i3⟩ := Cond.arrayClass_spec (hts _ ag_w_ai)
  obtain ⟨cl, kl, compl, l1, l2, l3⟩ := Cond.arrayClass_spec (hts _ ag_w_al)
  obtain ⟨cp, cq, kq, q1, -, q3, q4, q5⟩ := arrayOverA_spec (hts _ ag_w_ao)
  have hcp : cp = ci := by
    have h1 : s.vm.findClass ("[" ++ FieldType.int.toString) = some cp := q1
    exact Option.some.inj (h1.symm.trans i1)
  subst hcp
  have hc : ∃ f : Nat → ClassId × (Nat → Nat), ∀ k q, ag_cl[k]? = some q → u_Kn s q.1 q.2.1 q.2.2 (f k).1 (f k).2 := by
    refine ⟨fun k => ((ag_known hts k).choose, (ag_known hts k).choose_spec.choose), fun k q hq => (ag_known hts k).choose_spec.choose_spec q hq⟩
  obtain ⟨f, hf⟩ := hc
  refine ⟨(s, (b, ((fun k => (f k).1, fun k => (f k).2), fun k => match k with
    | 0 => cp
    | 1 => cl
    | _ => cq))), rfl, rfl, hts, ⟨fun k q hq => hf k q hq, fun k q hq => ?_⟩, hbl, kq, q3, q4⟩
  match k, hq with
  | 0, hq => cases hq; exact ⟨fun n z => ⟨fun k h => (by cases h), ki, i2, compi, i3⟩, i1⟩
  | 1, hq => cases hq; exact ⟨fun n z => ⟨fun k h => (by cases h), kl, l2, compl, l3⟩, l1⟩
  | 2, hq => cases hq; exact ⟨fun n z => ⟨fun k h => (by cases h), kq, q3, cp, q4⟩, q5⟩
  | n + 3, hq => simp [ag_tys] at hq
theorem ag_world2 {s : State} {b : Nat} {G : ag_G} (h1 : G.1 = s) (h2 : G.2.1 = b) (hts : ∀ w ∈ lw_tbl, w.before #[Value.ref b] s = true) (hgv : (Jvm.Cond.and given_1 narrow_1).before #[Value.ref b] s = true) : ag_g2 G := by
  have hfl := flat_of_before _ hgv
  subst h1
  have hA : ∀ a : Nat, a < G.1.heap.size → ¬ (G.1.heap.size ≤ a) := fun a h => Nat.not_le.mpr h
  exact ⟨vx_Zqof (hts _ ag_w_lu) (hts _ ag_w_ti) (hfl _ ag_f_u) hA, vx_Zqof (hts _ ag_w_ls) (hts _ ag_w_ti) (hfl _ ag_f_s) hA, fun i j hi hj hij => va_Nc.of (hfl _ (ag_f_c i hi j hj hij))⟩
/-- THE LAW'S WALK out of its run on the small machine -/
theorem ag_start (hw : ∀ (L : Nat) (xs : Nat → Int), L ≤ 2048 → (∀ i, -2147483648 ≤ xs i ∧ xs i < 2147483648) → ag_wp 189 0 (ag_en 189 [ag_R 0]) [] (ag_S0 L xs) ag_fin) {p : Program} {e : Env} {s : State} {m : MethodId} {below : List Frame} {meth : Method} {c : Code} (l : Launch) (hflags : l.flags = flags0) {b L : Nat} {xs : Nat → Int32} (hL : L ≤ 2048) (C0 : lw_At p s m meth c b L xs) : W p l e room_1 s m #[Value.ref b] below meth c s.heap [] 0 0 (lw_Z below #[Value.ref b] s) (entryFrame m ([Value.ref b] : List Value).toArray 9) := by
  obtain ⟨hx, hb, hr, hml, hown, hts, hX, hbl, hlocks, hgv⟩ := C0
  obtain ⟨G, h1, h2, hG⟩ := ag_world hbl hts
  have hG2 := ag_world2 h1 h2 hts hgv
  have hfl : l.stackTraces = false := by
    unfold Launch.stackTraces
    rw [hflags]
    decide +kernel
  obtain ⟨F, ⟨r, σ'⟩, hrun, hr1, hc, hs⟩ := hw L (fun i => (xs i).toInt) hL (fun i => ⟨Int32.le_toInt _, Int32.toInt_lt _⟩)
  have hc : σ'.2.1 ≤ room_1.cells := Nat.le_trans hc (by decide +kernel)
  have hs : σ'.2.2 ≤ room_1.slots := Nat.le_trans hs (by decide +kernel)
  have hr1 : r = Sum.inl (some (ag_I 1)) := hr1
  subst h1
  have C : ag_cx G 189 p l room_1 G.1 m meth c := ⟨hG, hx, hb, hml, hr, hown, hlocks, fun q => absurd q (by decide +kernel), State.WarmedH.refl _, ⟨Nat.le_refl _, fun _ _ => rfl⟩, by decide +kernel, by decide +kernel⟩
  have hI : ag_in G G.1 (ag_S0 L (fun i => (xs i).toInt)) G.1.heap [] := by
    refine ⟨⟨rfl, fun _ _ => rfl, fun n cl hn => ?_⟩, Nat.le_refl _, fun _ h => absurd h List.not_mem_nil⟩
    unfold ag_S0 at hn
    dsimp only at hn
    split at hn
    · rename_i h0
      cases hn
      refine Or.inl ⟨h0, L, _, rfl, ?_⟩
      have e9 : (fun i => Int32.ofInt (xs i).toInt) = xs := by funext i; exact Int32.ofInt_toInt _
      rw [h2]
      show va_X b L (fun i => Int32.ofInt (xs i).toInt) G.1 G.1.heap
      rw [e9]
      exact hX
    · cases hn
  have hargs : ([Value.ref b] : List Value) = ([ag_R 0] : List ag_V).map (ag_v (ag_f G)) := by
    show [Value.ref b] = [Value.ref G.2.1]
    rw [h2]
  have hent : entryFrame m ([Value.ref b] : List Value).toArray 9 = F0 m 0 ((lg_sl (([ag_R 0] : List ag_V).map (ag_v (ag_f G))) ++ List.replicate (9 - (lg_sl (([ag_R 0] : List ag_V).map (ag_v (ag_f G)))).length) Slot.unset).toArray) [] := by
    rw [hargs]
    exact lg_entry_eq _ _ _
  rw [hent]
  have hLr : ag_lr (ag_f G) (ag_en 189 [ag_R 0]) 9 ((lg_sl (([ag_R 0] : List ag_V).map (ag_v (ag_f G))) ++ List.replicate (9 - (lg_sl (([ag_R 0] : List ag_V).map (ag_v (ag_f G)))).length) Slot.unset).toArray) := ag_lr_entry (by decide +kernel) (fun w hw => by rw [List.mem_singleton] at hw; subst hw; rfl) (by decide)
  refine W.widen (k := room_1.cells - σ'.2.1) (n := room_1.slots - σ'.2.2) (Nat.zero_le _) (Nat.zero_le _) ?_
  refine ag_main hG hG2 hfl F 189 0 _ [] _ r σ' hrun p e room_1 G.1 m #[Value.ref b] below meth c G.1.heap [] _ _ _ room_1.cells room_1.slots (lw_Z below #[Value.ref b] G.1) C rfl rfl (fun q => absurd q (by decide)) hI hLr ?_ ?_ (fun pc st H locs A v hin hv hst _ => ?_) (fun pc H locs A cells slots σ1 E ls hth _ _ _ _ _ _ => absurd (ag_twf hth).2.1 (by decide))
  · show room_1.cells - σ'.2.1 + (σ'.2.1 - 0) = room_1.cells
    omega
  · show room_1.slots - σ'.2.2 + (σ'.2.2 - 0) = room_1.slots
    omega
  · rw [hr1] at hv
    cases hv
    obtain ⟨hd, rfl⟩ := hst 1 rfl
    refine va_forget (fun q hq => hin.2.2 q hq) ?_
    refine W.base ?_
    exact lw_ret (Drawn.sameBut.refl _ lw_cs) hx hb hr hlocks hd
