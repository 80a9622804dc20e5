/-! THROWS: throw new E("text"), with what the heap's size is behind it. The first two theorems are the kit's vx_throwS and vx_throwSW with one case more (the size). -/
section AGT1
variable {p : Program} {l : Launch} {e : Env} {R : Room} {s : State} {m : MethodId} {args : Array Value} {below : List Frame} {meth : Method} {c : Code} {H : Heap} {locs : List Loc} {cells slots : Nat} {Q : State → Prop} {free : Addr → Prop} {ls : Array Slot} {rest : List Value} {Qc : Array Value → State → Outcome → State → Prop} {XC : String → State → State → Prop}
theorem ag_throwS {cc : ByteArray} {pc : Nat} (hexec : p.tables.exec = Jvm.exec) (hb : c.code = cc) (hl : l.stackTraces = false) {own cls text : String} {names : List String} {ik is ic mc ms sa : Nat} {A : Nat → Prop}
    (hown : s.vm.findClass own = some m.cls) (hcls : Bundle.fit cls = true) (hnames : ∀ n ∈ names, Bundle.fit n = true)
    (hk : (Cond.classLink own ik cls).before args s = true) (hini : (Cond.initialized cls).before args s = true) (hstr : vk_R own is text sa s) (hat : ∀ w ∈ vx_atS own ic cls names, w.before args s = true)
    (hgood : ∀ w ∈ Cond.classLink own ik cls :: Cond.initialized cls :: vx_atS own ic cls names, vx_ot w = true)
    (hU : vx_Zq Bundle.tN "UNASSIGNED_STACK" Bundle.steD A s s.heap) (hN : vx_Zq Bundle.tN "SUPPRESSED_SENTINEL" Bundle.listD A s s.heap) (hS : va_S A s.heap H locs) (hsize : ls.size = c.maxLocals)
    (d0 : decode cc pc = .ok (.new ik, 3)) (d3 : decode cc (pc + 3) = .ok (.dup, 1)) (d4 : decode cc (pc + 4) = .ok (.ldc is, 2)) (d6 : decode cc (pc + 6) = .ok (.invokespecial ic, 3)) (d9 : decode cc (pc + 9) = .ok (.athrow, 1))
    (hout : ∀ x ∈ c.exceptionTable.toList, covers x (pc + 9) = false)
    (hRframes : names.length + 3 < R.frames) (hRlocals : (rest.map fun v => v.category).sum + (13 * (names.length + 1) + 43) ≤ R.locals) (hRcells : cells + 1 ≤ R.cells) (hRslots : slots + 6 ≤ R.slots) (hlocks : meth.locks = false)
    (hx : ∀ t : State, s.vm.Alike t.vm → t.heap.size = H.size + 1 → (∀ q : Nat, q < H.size → t.heap[q]? = H[q]?) → XC cls s t)
    (hf : ∀ z ∈ locs, free z.base) (hc : cells + 1 ≤ mc) (hs : slots + 6 ≤ ms) :
    W p l e R s m args below meth c H locs cells slots (vx_MQ below Qc XC args s mc ms free) (F0 m pc ls rest) := by
  intro T hT X
  have htr : e.platform.stackTraces = false := (show e.platform.stackTraces = l.stackTraces by rw [X.admits.platform]).trans hl
  have Y := vx_rebase X (R' := { frames := R.frames, locals := R.locals, cells := 1, slots := 6 }) (Nat.le_refl _) (Nat.le_refl _) hRcells hRslots
  obtain ⟨s', hA⟩ : ∃ z, z = (T.setVm s.vm).setFrames (.invoking m args :: below) := ⟨_, rfl⟩
  rw [← hA] at Y
  have hvm : s'.vm = s.vm := by rw [hA]; rfl
  have hhp : s'.heap = H := by rw [hA]; exact hT
  have hW0 : s.WarmedH s'.vm := by rw [hvm]; exact State.WarmedH.refl s
  have hat' : ∀ w ∈ vx_atS own ic cls names, w.before args s' = true := fun w hw => vx_ot_at hW0 hvm.symm (hgood w (List.mem_cons_of_mem _ (List.mem_cons_of_mem _ hw))) (hat w hw)
  have hk' : (Cond.classLink own ik cls).before args s' = true := vx_ot_at hW0 hvm.symm (hgood _ List.mem_cons_self) hk
  have hini' : (Cond.initialized cls).before args s' = true := vx_ot_at hW0 hvm.symm (hgood _ (List.mem_cons_of_mem _ List.mem_cons_self)) hini
  have hU' : vx_Zq Bundle.tN "UNASSIGNED_STACK" Bundle.steD A s' s'.heap := by rw [hhp]; exact vx_Zq.moved hW0.alike (hU.kept hS.2.1)
  have hN' : vx_Zq Bundle.tN "SUPPRESSED_SENTINEL" Bundle.listD A s' s'.heap := by rw [hhp]; exact vx_Zq.moved hW0.alike (hN.kept hS.2.1)
  have h : ∀ w ∈ Bundle.ownAtoms own ic cls names, w.before args s' = true := vx_own hat' (vx_isRefq hU'.1) (vx_isRefq hN'.1) hU'.2.word hN'.2.word
  have hown' : s'.vm.findClass own = some m.cls := by rw [hvm]; exact hown
  have hins : (Cond.instantiable cls 6).before args s' = true := h _ (by simp [Bundle.ownAtoms])
  obtain ⟨vm₁, cX, kX, hfX, hkX, -, -, X₁, st1⟩ := Y.newCold hexec (own := own) (C := cls) (index := ik) (n := 6) hown' hk' hins hini'
    (g := F0 m pc ls rest) rfl (by rw [hb]; exact d0) (Nat.le_refl _) (Nat.le_refl _)
  generalize hT1 : (T.setVm vm₁).pushCell { cls := cX, slots := kX.instanceTypes.map defaultValue, vm := .none } = T1 at X₁ st1
  have hcat : (Value.ref T.heap.size).category = 1 := rfl
  have hcellA : T1.heap[T.heap.size]? = some (freshCell cX kX) := by rw [← hT1]; exact State.heap_pushCell_size _ _
  have d3' : decode c.code (pc + 3) = .ok (.dup, 1) := by rw [hb]; exact d3
  have d4' : decode c.code (pc + 4) = .ok (.ldc is, 2) := by rw [hb]; exact d4
  have hstr' : vk_R own is text sa s' := vk_R.warm hW0 hstr
  obtain ⟨U, hsteps, hrun, hend, hW, hsame, ce, hce, hO⟩ := X₁.ctorThrowS hexec htr (own := own) (cls := cls) (names := names) (ic := ic) hown' hcls hnames h (fun x hx => nomatch hx) hfX hkX hcellA (by rw [hhp, hT]; exact Nat.le_refl _) (msg := .ref sa) rfl
    (g := { method := m, pc := pc + 6, locals := ls, stack := .ref sa :: .ref T.heap.size :: .ref T.heap.size :: rest, locked := none }) rfl hsize rfl rfl (rest := rest) rfl
    (by rw [hb]; exact d6) (by rw [hb]; exact d9) hout hRframes (by simp only [List.map_cons, List.sum_cons, hcat]; omega) hlocks
  obtain ⟨f1, f2⟩ := vx_frame hsame
  rw [hhp] at f1 f2
  have hWs : s.WarmedH U.vm := State.WarmedH.trans hW0 hW
  have hcl : s.vm.findClass cls = some ce.cls := by
    have h9 := hO.cls
    rw [hvm] at h9
    exact h9
  have hall : s.sameButNew ({ U with vm := s.vm } : State) locs mc ms := by
    subst hA
    obtain ⟨e1, e2⟩ := hsame
    rw [State.setFrames_setFrames] at e1
    have h2 : (T.setVm s.vm).sameButNew ({ U with vm := s.vm } : State) [] (0 + 1) (0 + 6) := ⟨e1, e2⟩
    have h3 := X.same.trans h2
    rw [List.append_nil] at h3
    exact h3.mono hc hs
  have hsz9 : U.heap.size = H.size + 1 := by
    obtain ⟨-, -, z1, -⟩ := hsame
    have z2 : T.heap.size < U.heap.size := (Array.getElem?_eq_some_iff.mp hce).1
    have z1 : U.heap.size ≤ s'.heap.size + (0 + 1) := z1
    rw [hhp] at z1
    rw [hT] at z2
    omega
  refine ⟨U, ?_, .threw T.heap.size, hrun, hend, Or.inr ⟨T.heap.size, rfl, cls, ce, locs, hx U hWs.alike hsz9 (fun q hq => f2 q hq (fun z hz => nomatch hz)), hce, hO.vm, hcl, hWs, hall, hf⟩⟩
  refine st1 _ ?_
  show Steps p.tables e below (T1.setTop { method := m, pc := pc + 3, locals := ls, stack := .ref T.heap.size :: rest, locked := none }) _
  jvm_step X₁.here [X₁.here.top, hexec, d3', Value.category]
  exact X₁.ldcString hexec (own := own) (text := text) (index := is) (a := sa) hown' hstr'.1 hstr'.2
    (g := { method := m, pc := pc + 4, locals := ls, stack := .ref T.heap.size :: .ref T.heap.size :: rest, locked := none }) rfl d4' _ hsteps
theorem ag_throwSW {cc : ByteArray} {pc : Nat} (hexec : p.tables.exec = Jvm.exec) (hb : c.code = cc) (hl : l.stackTraces = false) {own cls text : String} {names : List String} {ik is ic mc ms sa : Nat} {A : Nat → Prop}
    (hown : s.vm.findClass own = some m.cls) (hcls : Bundle.fit cls = true) (hnames : ∀ n ∈ names, Bundle.fit n = true)
    (hk : (Cond.classLink own ik cls).before args s = true) (hini : (Cond.initialized cls).before args s = true) (hstr : vk_R own is text sa s) (hat : ∀ w ∈ vx_atS own ic cls names, w.before args s = true)
    (hgood : ∀ w ∈ Cond.classLink own ik cls :: Cond.initialized cls :: vx_atS own ic cls names, vx_ot w = true)
    (hU : vx_Zq Bundle.tN "UNASSIGNED_STACK" Bundle.steD A s s.heap) (hN : vx_Zq Bundle.tN "SUPPRESSED_SENTINEL" Bundle.listD A s s.heap) (hS : va_S A s.heap H locs) (hsize : ls.size = c.maxLocals)
    (d0 : decode cc pc = .ok (.new ik, 3)) (d3 : decode cc (pc + 3) = .ok (.dup, 1)) (d4 : decode cc (pc + 4) = .ok (.ldc_w is, 3)) (d7 : decode cc (pc + 7) = .ok (.invokespecial ic, 3)) (d10 : decode cc (pc + 10) = .ok (.athrow, 1))
    (hout : ∀ x ∈ c.exceptionTable.toList, covers x (pc + 10) = false)
    (hRframes : names.length + 3 < R.frames) (hRlocals : (rest.map fun v => v.category).sum + (13 * (names.length + 1) + 43) ≤ R.locals) (hRcells : cells + 1 ≤ R.cells) (hRslots : slots + 6 ≤ R.slots) (hlocks : meth.locks = false)
    (hx : ∀ t : State, s.vm.Alike t.vm → t.heap.size = H.size + 1 → (∀ q : Nat, q < H.size → t.heap[q]? = H[q]?) → XC cls s t)
    (hf : ∀ z ∈ locs, free z.base) (hc : cells + 1 ≤ mc) (hs : slots + 6 ≤ ms) :
    W p l e R s m args below meth c H locs cells slots (vx_MQ below Qc XC args s mc ms free) (F0 m pc ls rest) := by
  intro T hT X
  have htr : e.platform.stackTraces = false := (show e.platform.stackTraces = l.stackTraces by rw [X.admits.platform]).trans hl
  have Y := vx_rebase X (R' := { frames := R.frames, locals := R.locals, cells := 1, slots := 6 }) (Nat.le_refl _) (Nat.le_refl _) hRcells hRslots
  obtain ⟨s', hA⟩ : ∃ z, z = (T.setVm s.vm).setFrames (.invoking m args :: below) := ⟨_, rfl⟩
  rw [← hA] at Y
  have hvm : s'.vm = s.vm := by rw [hA]; rfl
  have hhp : s'.heap = H := by rw [hA]; exact hT
  have hW0 : s.WarmedH s'.vm := by rw [hvm]; exact State.WarmedH.refl s
  have hat' : ∀ w ∈ vx_atS own ic cls names, w.before args s' = true := fun w hw => vx_ot_at hW0 hvm.symm (hgood w (List.mem_cons_of_mem _ (List.mem_cons_of_mem _ hw))) (hat w hw)
  have hk' : (Cond.classLink own ik cls).before args s' = true := vx_ot_at hW0 hvm.symm (hgood _ List.mem_cons_self) hk
  have hini' : (Cond.initialized cls).before args s' = true := vx_ot_at hW0 hvm.symm (hgood _ (List.mem_cons_of_mem _ List.mem_cons_self)) hini
  have hU' : vx_Zq Bundle.tN "UNASSIGNED_STACK" Bundle.steD A s' s'.heap := by rw [hhp]; exact vx_Zq.moved hW0.alike (hU.kept hS.2.1)
  have hN' : vx_Zq Bundle.tN "SUPPRESSED_SENTINEL" Bundle.listD A s' s'.heap := by rw [hhp]; exact vx_Zq.moved hW0.alike (hN.kept hS.2.1)
  have h : ∀ w ∈ Bundle.ownAtoms own ic cls names, w.before args s' = true := vx_own hat' (vx_isRefq hU'.1) (vx_isRefq hN'.1) hU'.2.word hN'.2.word
  have hown' : s'.vm.findClass own = some m.cls := by rw [hvm]; exact hown
  have hins : (Cond.instantiable cls 6).before args s' = true := h _ (by simp [Bundle.ownAtoms])
  obtain ⟨vm₁, cX, kX, hfX, hkX, -, -, X₁, st1⟩ := Y.newCold hexec (own := own) (C := cls) (index := ik) (n := 6) hown' hk' hins hini'
    (g := F0 m pc ls rest) rfl (by rw [hb]; exact d0) (Nat.le_refl _) (Nat.le_refl _)
  generalize hT1 : (T.setVm vm₁).pushCell { cls := cX, slots := kX.instanceTypes.map defaultValue, vm := .none } = T1 at X₁ st1
  have hcat : (Value.ref T.heap.size).category = 1 := rfl
  have hcellA : T1.heap[T.heap.size]? = some (freshCell cX kX) := by rw [← hT1]; exact State.heap_pushCell_size _ _
  have d3' : decode c.code (pc + 3) = .ok (.dup, 1) := by rw [hb]; exact d3
  have d4' : decode c.code (pc + 4) = .ok (.ldc_w is, 3) := by rw [hb]; exact d4
  have hstr' : vk_R own is text sa s' := vk_R.warm hW0 hstr
  obtain ⟨U, hsteps, hrun, hend, hW, hsame, ce, hce, hO⟩ := X₁.ctorThrowS hexec htr (own := own) (cls := cls) (names := names) (ic := ic) hown' hcls hnames h (fun x hx => nomatch hx) hfX hkX hcellA (by rw [hhp, hT]; exact Nat.le_refl _) (msg := .ref sa) rfl
    (g := { method := m, pc := pc + 7, locals := ls, stack := .ref sa :: .ref T.heap.size :: .ref T.heap.size :: rest, locked := none }) rfl hsize rfl rfl (rest := rest) rfl
    (by rw [hb]; exact d7) (by rw [hb]; exact d10) hout hRframes (by simp only [List.map_cons, List.sum_cons, hcat]; omega) hlocks
  obtain ⟨f1, f2⟩ := vx_frame hsame
  rw [hhp] at f1 f2
  have hWs : s.WarmedH U.vm := State.WarmedH.trans hW0 hW
  have hcl : s.vm.findClass cls = some ce.cls := by
    have h9 := hO.cls
    rw [hvm] at h9
    exact h9
  have hall : s.sameButNew ({ U with vm := s.vm } : State) locs mc ms := by
    subst hA
    obtain ⟨e1, e2⟩ := hsame
    rw [State.setFrames_setFrames] at e1
    have h2 : (T.setVm s.vm).sameButNew ({ U with vm := s.vm } : State) [] (0 + 1) (0 + 6) := ⟨e1, e2⟩
    have h3 := X.same.trans h2
    rw [List.append_nil] at h3
    exact h3.mono hc hs
  have hsz9 : U.heap.size = H.size + 1 := by
    obtain ⟨-, -, z1, -⟩ := hsame
    have z2 : T.heap.size < U.heap.size := (Array.getElem?_eq_some_iff.mp hce).1
    have z1 : U.heap.size ≤ s'.heap.size + (0 + 1) := z1
    rw [hhp] at z1
    rw [hT] at z2
    omega
  refine ⟨U, ?_, .threw T.heap.size, hrun, hend, Or.inr ⟨T.heap.size, rfl, cls, ce, locs, hx U hWs.alike hsz9 (fun q hq => f2 q hq (fun z hz => nomatch hz)), hce, hO.vm, hcl, hWs, hall, hf⟩⟩
  refine st1 _ ?_
  show Steps p.tables e below (T1.setTop { method := m, pc := pc + 3, locals := ls, stack := .ref T.heap.size :: rest, locked := none }) _
  jvm_step X₁.here [X₁.here.top, hexec, d3', Value.category]
  exact X₁.ldcStringW hexec (own := own) (text := text) (index := is) (a := sa) hown' hstr'.1 hstr'.2
    (g := { method := m, pc := pc + 4, locals := ls, stack := .ref T.heap.size :: .ref T.heap.size :: rest, locked := none }) rfl d4' _ hsteps
end AGT1
def ag_xn (E : Nat) : String := match E with
  | 0 => "java/lang/IndexOutOfBoundsException"
  | 1 => "java/lang/IllegalArgumentException"
  | _ => "java/lang/IllegalStateException"
def ag_gd (w : Cond) : Bool := goodWord w || (match w with
  | .declares _ => true
  | .castable _ _ => true
  | _ => false)
/-- what the law's start gives, further: the statics of Throwable, and which classes aren't cast to which -/
def ag_g2 (G : ag_G) : Prop := vx_Zq Bundle.tN "UNASSIGNED_STACK" Bundle.steD (fun q => G.1.heap.size ≤ q) G.1 G.1.heap ∧ vx_Zq Bundle.tN "SUPPRESSED_SENTINEL" Bundle.listD (fun q => G.1.heap.size ≤ q) G.1 G.1.heap ∧ ∀ i j : Nat, i < 3 → j < 3 → j ≠ 1 → i ≠ j → va_Nc (ag_xn i) (ag_xn j) G.1
theorem ag_gd_at {G : ag_G} {s : State} {w : Cond} (hG : ag_gl G) (hW : G.1.WarmedH s.vm) (hm : w ∈ lw_tbl) (hg : ag_gd w = true) (a' : Array Value) : w.before a' s = true := by
  unfold ag_gd at hg
  rw [Bool.or_eq_true] at hg
  rcases hg with hg | hg
  · exact ag_word hG hW hm hg a'
  · cases w with
    | declares x => exact va_Nw.use rfl (va_Nw.warmD hW (va_Nw.of rfl (hG.1 _ hm)))
    | castable C T => exact va_Nw.use rfl (va_Nw.warmC hW (va_Nw.of rfl (hG.1 _ hm)))
    | _ => cases hg
theorem ag_at_0 : ∀ w ∈ vx_atS RX5 53 (ag_xn 0) ["java/lang/RuntimeException", "java/lang/Exception"], w ∈ lw_tbl ∧ ag_gd w = true := by decide +kernel
theorem ag_ao_0 : ∀ w ∈ Cond.classLink RX5 49 (ag_xn 0) :: Cond.initialized (ag_xn 0) :: vx_atS RX5 53 (ag_xn 0) ["java/lang/RuntimeException", "java/lang/Exception"], vx_ot w = true := by decide +kernel
theorem ag_ak_0 : Cond.classLink RX5 49 (ag_xn 0) ∈ lw_tbl := List.mem_of_getElem? (i := 41) (by decide +kernel)
theorem ag_an_0 : Cond.initialized (ag_xn 0) ∈ lw_tbl := List.mem_of_getElem? (i := 27) (by decide +kernel)
theorem ag_af_0 : Bundle.fit (ag_xn 0) = true := by decide +kernel
theorem ag_at_1 : ∀ w ∈ vx_atS RX5 63 (ag_xn 1) ["java/lang/RuntimeException", "java/lang/Exception"], w ∈ lw_tbl ∧ ag_gd w = true := by decide +kernel
theorem ag_ao_1 : ∀ w ∈ Cond.classLink RX5 59 (ag_xn 1) :: Cond.initialized (ag_xn 1) :: vx_atS RX5 63 (ag_xn 1) ["java/lang/RuntimeException", "java/lang/Exception"], vx_ot w = true := by decide +kernel
theorem ag_ak_1 : Cond.classLink RX5 59 (ag_xn 1) ∈ lw_tbl := List.mem_of_getElem? (i := 111) (by decide +kernel)
theorem ag_an_1 : Cond.initialized (ag_xn 1) ∈ lw_tbl := List.mem_of_getElem? (i := 28) (by decide +kernel)
theorem ag_af_1 : Bundle.fit (ag_xn 1) = true := by decide +kernel
theorem ag_at_2 : ∀ w ∈ vx_atS RX5 86 (ag_xn 2) ["java/lang/RuntimeException", "java/lang/Exception"], w ∈ lw_tbl ∧ ag_gd w = true := by decide +kernel
theorem ag_ao_2 : ∀ w ∈ Cond.classLink RX5 82 (ag_xn 2) :: Cond.initialized (ag_xn 2) :: vx_atS RX5 86 (ag_xn 2) ["java/lang/RuntimeException", "java/lang/Exception"], vx_ot w = true := by decide +kernel
theorem ag_ak_2 : Cond.classLink RX5 82 (ag_xn 2) ∈ lw_tbl := List.mem_of_getElem? (i := 252) (by decide +kernel)
theorem ag_an_2 : Cond.initialized (ag_xn 2) ∈ lw_tbl := List.mem_of_getElem? (i := 29) (by decide +kernel)
theorem ag_af_2 : Bundle.fit (ag_xn 2) = true := by decide +kernel
def ag_ic (E : Nat) : Nat := match E with
  | 0 => 53
  | 1 => 63
  | _ => 86
def ag_ik (E : Nat) : Nat := match E with
  | 0 => 49
  | 1 => 59
  | _ => 82
/-- where method y throws -/
def ag_TW (y pc E : Nat) : Prop := E < 3 ∧ ag_ow y = 5 ∧ ¬ ag_hx y ∧ decode (ag_by y) pc = .ok (.new (ag_ik E), 3) ∧ decode (ag_by y) (pc + 3) = .ok (.dup, 1) ∧ ∃ (is : Nat) (text : String), Cond.stringRef RX5 is text ∈ lw_tbl ∧
  ((decode (ag_by y) (pc + 4) = .ok (.ldc is, 2) ∧ decode (ag_by y) (pc + 6) = .ok (.invokespecial (ag_ic E), 3) ∧ decode (ag_by y) (pc + 9) = .ok (.athrow, 1)) ∨ (decode (ag_by y) (pc + 4) = .ok (.ldc_w is, 3) ∧ decode (ag_by y) (pc + 7) = .ok (.invokespecial (ag_ic E), 3) ∧ decode (ag_by y) (pc + 10) = .ok (.athrow, 1)))
theorem ag_str_51 : Cond.stringRef RX5 51 "no such CLAUSE in the BILL" ∈ lw_tbl := List.mem_of_getElem? (i := 792) (by decide +kernel)
theorem ag_tw_59_19 : ag_TW 59 19 0 := ⟨by decide, rfl, by unfold ag_hx; decide, by decide +kernel, by decide +kernel, 51, _, ag_str_51, Or.inl ⟨by decide +kernel, by decide +kernel, by decide +kernel⟩⟩
theorem ag_str_61 : Cond.stringRef RX5 61 "a TEXT is 0 to 999" ∈ lw_tbl := List.mem_of_getElem? (i := 796) (by decide +kernel)
theorem ag_tw_59_36 : ag_TW 59 36 1 := ⟨by decide, rfl, by unfold ag_hx; decide, by decide +kernel, by decide +kernel, 61, _, ag_str_61, Or.inl ⟨by decide +kernel, by decide +kernel, by decide +kernel⟩⟩
theorem ag_str_84 : Cond.stringRef RX5 84 "no CLAUSE can be written here now" ∈ lw_tbl := List.mem_of_getElem? (i := 799) (by decide +kernel)
theorem ag_tw_59_87 : ag_TW 59 87 2 := ⟨by decide, rfl, by unfold ag_hx; decide, by decide +kernel, by decide +kernel, 84, _, ag_str_84, Or.inl ⟨by decide +kernel, by decide +kernel, by decide +kernel⟩⟩
theorem ag_tws_59 : ∀ q ∈ ag_th_l.getD 59 [], ag_TW 59 q.1 q.2 := List.forall_mem_cons.mpr ⟨ag_tw_59_19, List.forall_mem_cons.mpr ⟨ag_tw_59_36, List.forall_mem_cons.mpr ⟨ag_tw_59_87, fun _ h => absurd h List.not_mem_nil⟩⟩⟩
theorem ag_str_100 : Cond.stringRef RX5 100 "no such CLAUSE" ∈ lw_tbl := List.mem_of_getElem? (i := 84) (by decide +kernel)
theorem ag_tw_60_14 : ag_TW 60 14 0 := ⟨by decide, rfl, by unfold ag_hx; decide, by decide +kernel, by decide +kernel, 100, _, ag_str_100, Or.inl ⟨by decide +kernel, by decide +kernel, by decide +kernel⟩⟩
theorem ag_str_102 : Cond.stringRef RX5 102 "what is 0 to 7" ∈ lw_tbl := List.mem_of_getElem? (i := 120) (by decide +kernel)
theorem ag_tw_60_34 : ag_TW 60 34 1 := ⟨by decide, rfl, by unfold ag_hx; decide, by decide +kernel, by decide +kernel, 102, _, ag_str_102, Or.inl ⟨by decide +kernel, by decide +kernel, by decide +kernel⟩⟩
theorem ag_tws_60 : ∀ q ∈ ag_th_l.getD 60 [], ag_TW 60 q.1 q.2 := List.forall_mem_cons.mpr ⟨ag_tw_60_14, List.forall_mem_cons.mpr ⟨ag_tw_60_34, fun _ h => absurd h List.not_mem_nil⟩⟩
theorem ag_str_117 : Cond.stringRef RX5 117 "what is 0 to 11" ∈ lw_tbl := List.mem_of_getElem? (i := 158) (by decide +kernel)
theorem ag_tw_61_10 : ag_TW 61 10 1 := ⟨by decide, rfl, by unfold ag_hx; decide, by decide +kernel, by decide +kernel, 117, _, ag_str_117, Or.inl ⟨by decide +kernel, by decide +kernel, by decide +kernel⟩⟩
theorem ag_tws_61 : ∀ q ∈ ag_th_l.getD 61 [], ag_TW 61 q.1 q.2 := List.forall_mem_cons.mpr ⟨ag_tw_61_10, fun _ h => absurd h List.not_mem_nil⟩
theorem ag_str_122 : Cond.stringRef RX5 122 "a KIND is 0 to 4, a TEXT 0 to 999" ∈ lw_tbl := List.mem_of_getElem? (i := 838) (by decide +kernel)
theorem ag_tw_62_21 : ag_TW 62 21 1 := ⟨by decide, rfl, by unfold ag_hx; decide, by decide +kernel, by decide +kernel, 122, _, ag_str_122, Or.inl ⟨by decide +kernel, by decide +kernel, by decide +kernel⟩⟩
theorem ag_tw_62_64 : ag_TW 62 64 0 := ⟨by decide, rfl, by unfold ag_hx; decide, by decide +kernel, by decide +kernel, 51, _, ag_str_51, Or.inl ⟨by decide +kernel, by decide +kernel, by decide +kernel⟩⟩
theorem ag_str_129 : Cond.stringRef RX5 129 "too many, or it cannot be DONE" ∈ lw_tbl := List.mem_of_getElem? (i := 844) (by decide +kernel)
theorem ag_tw_62_100 : ag_TW 62 100 2 := ⟨by decide, rfl, by unfold ag_hx; decide, by decide +kernel, by decide +kernel, 129, _, ag_str_129, Or.inl ⟨by decide +kernel, by decide +kernel, by decide +kernel⟩⟩
theorem ag_tws_62 : ∀ q ∈ ag_th_l.getD 62 [], ag_TW 62 q.1 q.2 := List.forall_mem_cons.mpr ⟨ag_tw_62_21, List.forall_mem_cons.mpr ⟨ag_tw_62_64, List.forall_mem_cons.mpr ⟨ag_tw_62_100, fun _ h => absurd h List.not_mem_nil⟩⟩⟩
theorem ag_str_135 : Cond.stringRef RX5 135 "no such AMENDMENT" ∈ lw_tbl := List.mem_of_getElem? (i := 185) (by decide +kernel)
theorem ag_tw_63_14 : ag_TW 63 14 0 := ⟨by decide, rfl, by unfold ag_hx; decide, by decide +kernel, by decide +kernel, 135, _, ag_str_135, Or.inl ⟨by decide +kernel, by decide +kernel, by decide +kernel⟩⟩
theorem ag_tw_63_31 : ag_TW 63 31 1 := ⟨by decide, rfl, by unfold ag_hx; decide, by decide +kernel, by decide +kernel, 61, _, ag_str_61, Or.inl ⟨by decide +kernel, by decide +kernel, by decide +kernel⟩⟩
theorem ag_str_143 : Cond.stringRef RX5 143 "too many, or that AMENDMENT takes no CHANGE" ∈ lw_tbl := List.mem_of_getElem? (i := 866) (by decide +kernel)
theorem ag_tw_63_82 : ag_TW 63 82 2 := ⟨by decide, rfl, by unfold ag_hx; decide, by decide +kernel, by decide +kernel, 143, _, ag_str_143, Or.inl ⟨by decide +kernel, by decide +kernel, by decide +kernel⟩⟩
theorem ag_tws_63 : ∀ q ∈ ag_th_l.getD 63 [], ag_TW 63 q.1 q.2 := List.forall_mem_cons.mpr ⟨ag_tw_63_14, List.forall_mem_cons.mpr ⟨ag_tw_63_31, List.forall_mem_cons.mpr ⟨ag_tw_63_82, fun _ h => absurd h List.not_mem_nil⟩⟩⟩
theorem ag_tw_64_14 : ag_TW 64 14 0 := ⟨by decide, rfl, by unfold ag_hx; decide, by decide +kernel, by decide +kernel, 135, _, ag_str_135, Or.inl ⟨by decide +kernel, by decide +kernel, by decide +kernel⟩⟩
theorem ag_str_145 : Cond.stringRef RX5 145 "it is not LAID" ∈ lw_tbl := List.mem_of_getElem? (i := 261) (by decide +kernel)
theorem ag_tw_64_38 : ag_TW 64 38 2 := ⟨by decide, rfl, by unfold ag_hx; decide, by decide +kernel, by decide +kernel, 145, _, ag_str_145, Or.inl ⟨by decide +kernel, by decide +kernel, by decide +kernel⟩⟩
theorem ag_tws_64 : ∀ q ∈ ag_th_l.getD 64 [], ag_TW 64 q.1 q.2 := List.forall_mem_cons.mpr ⟨ag_tw_64_14, List.forall_mem_cons.mpr ⟨ag_tw_64_38, fun _ h => absurd h List.not_mem_nil⟩⟩
theorem ag_tw_65_14 : ag_TW 65 14 0 := ⟨by decide, rfl, by unfold ag_hx; decide, by decide +kernel, by decide +kernel, 135, _, ag_str_135, Or.inl ⟨by decide +kernel, by decide +kernel, by decide +kernel⟩⟩
theorem ag_str_154 : Cond.stringRef RX5 154 "what is 0 to 5" ∈ lw_tbl := List.mem_of_getElem? (i := 186) (by decide +kernel)
theorem ag_tw_65_33 : ag_TW 65 33 1 := ⟨by decide, rfl, by unfold ag_hx; decide, by decide +kernel, by decide +kernel, 154, _, ag_str_154, Or.inl ⟨by decide +kernel, by decide +kernel, by decide +kernel⟩⟩
theorem ag_tws_65 : ∀ q ∈ ag_th_l.getD 65 [], ag_TW 65 q.1 q.2 := List.forall_mem_cons.mpr ⟨ag_tw_65_14, List.forall_mem_cons.mpr ⟨ag_tw_65_33, fun _ h => absurd h List.not_mem_nil⟩⟩
theorem ag_tw_67_14 : ag_TW 67 14 0 := ⟨by decide, rfl, by unfold ag_hx; decide, by decide +kernel, by decide +kernel, 135, _, ag_str_135, Or.inl ⟨by decide +kernel, by decide +kernel, by decide +kernel⟩⟩
theorem ag_tws_67 : ∀ q ∈ ag_th_l.getD 67 [], ag_TW 67 q.1 q.2 := List.forall_mem_cons.mpr ⟨ag_tw_67_14, fun _ h => absurd h List.not_mem_nil⟩
theorem ag_str_166 : Cond.stringRef RX5 166 "SEATS are 1 to 99" ∈ lw_tbl := List.mem_of_getElem? (i := 810) (by decide +kernel)
theorem ag_tw_68_11 : ag_TW 68 11 1 := ⟨by decide, rfl, by unfold ag_hx; decide, by decide +kernel, by decide +kernel, 166, _, ag_str_166, Or.inl ⟨by decide +kernel, by decide +kernel, by decide +kernel⟩⟩
theorem ag_str_171 : Cond.stringRef RX5 171 "there are 5 PARTIES" ∈ lw_tbl := List.mem_of_getElem? (i := 811) (by decide +kernel)
theorem ag_tw_68_32 : ag_TW 68 32 2 := ⟨by decide, rfl, by unfold ag_hx; decide, by decide +kernel, by decide +kernel, 171, _, ag_str_171, Or.inl ⟨by decide +kernel, by decide +kernel, by decide +kernel⟩⟩
theorem ag_tws_68 : ∀ q ∈ ag_th_l.getD 68 [], ag_TW 68 q.1 q.2 := List.forall_mem_cons.mpr ⟨ag_tw_68_11, List.forall_mem_cons.mpr ⟨ag_tw_68_32, fun _ h => absurd h List.not_mem_nil⟩⟩
theorem ag_str_176 : Cond.stringRef RX5 176 "no such PARTY, or AMENDMENT" ∈ lw_tbl := List.mem_of_getElem? (i := 249) (by decide +kernel)
theorem ag_tw_69_25 : ag_TW 69 25 0 := ⟨by decide, rfl, by unfold ag_hx; decide, by decide +kernel, by decide +kernel, 176, _, ag_str_176, Or.inl ⟨by decide +kernel, by decide +kernel, by decide +kernel⟩⟩
theorem ag_str_178 : Cond.stringRef RX5 178 "a vote is -1 to 1" ∈ lw_tbl := List.mem_of_getElem? (i := 250) (by decide +kernel)
theorem ag_tw_69_45 : ag_TW 69 45 1 := ⟨by decide, rfl, by unfold ag_hx; decide, by decide +kernel, by decide +kernel, 178, _, ag_str_178, Or.inl ⟨by decide +kernel, by decide +kernel, by decide +kernel⟩⟩
theorem ag_tw_69_69 : ag_TW 69 69 2 := ⟨by decide, rfl, by unfold ag_hx; decide, by decide +kernel, by decide +kernel, 145, _, ag_str_145, Or.inl ⟨by decide +kernel, by decide +kernel, by decide +kernel⟩⟩
theorem ag_tws_69 : ∀ q ∈ ag_th_l.getD 69 [], ag_TW 69 q.1 q.2 := List.forall_mem_cons.mpr ⟨ag_tw_69_25, List.forall_mem_cons.mpr ⟨ag_tw_69_45, List.forall_mem_cons.mpr ⟨ag_tw_69_69, fun _ h => absurd h List.not_mem_nil⟩⟩⟩
theorem ag_str_183 : Cond.stringRef RX5 183 "QUORUM is 0 to 100" ∈ lw_tbl := List.mem_of_getElem? (i := 279) (by decide +kernel)
theorem ag_tw_70_10 : ag_TW 70 10 1 := ⟨by decide, rfl, by unfold ag_hx; decide, by decide +kernel, by decide +kernel, 183, _, ag_str_183, Or.inl ⟨by decide +kernel, by decide +kernel, by decide +kernel⟩⟩
theorem ag_tws_70 : ∀ q ∈ ag_th_l.getD 70 [], ag_TW 70 q.1 q.2 := List.forall_mem_cons.mpr ⟨ag_tw_70_10, fun _ h => absurd h List.not_mem_nil⟩
theorem ag_str_188 : Cond.stringRef RX5 188 "MINUTES are 0 to 300" ∈ lw_tbl := List.mem_of_getElem? (i := 688) (by decide +kernel)
theorem ag_tw_71_11 : ag_TW 71 11 1 := ⟨by decide, rfl, by unfold ag_hx; decide, by decide +kernel, by decide +kernel, 188, _, ag_str_188, Or.inl ⟨by decide +kernel, by decide +kernel, by decide +kernel⟩⟩
theorem ag_str_190 : Cond.stringRef RX5 190 "there is no PARTY" ∈ lw_tbl := List.mem_of_getElem? (i := 689) (by decide +kernel)
theorem ag_tw_71_31 : ag_TW 71 31 2 := ⟨by decide, rfl, by unfold ag_hx; decide, by decide +kernel, by decide +kernel, 190, _, ag_str_190, Or.inl ⟨by decide +kernel, by decide +kernel, by decide +kernel⟩⟩
theorem ag_tws_71 : ∀ q ∈ ag_th_l.getD 71 [], ag_TW 71 q.1 q.2 := List.forall_mem_cons.mpr ⟨ag_tw_71_11, List.forall_mem_cons.mpr ⟨ag_tw_71_31, fun _ h => absurd h List.not_mem_nil⟩⟩
theorem ag_str_202 : Cond.stringRef RX5 202 "no such PARTY" ∈ lw_tbl := List.mem_of_getElem? (i := 284) (by decide +kernel)
theorem ag_tw_72_11 : ag_TW 72 11 0 := ⟨by decide, rfl, by unfold ag_hx; decide, by decide +kernel, by decide +kernel, 202, _, ag_str_202, Or.inl ⟨by decide +kernel, by decide +kernel, by decide +kernel⟩⟩
theorem ag_str_204 : Cond.stringRef RX5 204 "one SPEAKS for at least 1" ∈ lw_tbl := List.mem_of_getElem? (i := 889) (by decide +kernel)
theorem ag_tw_72_26 : ag_TW 72 26 1 := ⟨by decide, rfl, by unfold ag_hx; decide, by decide +kernel, by decide +kernel, 204, _, ag_str_204, Or.inl ⟨by decide +kernel, by decide +kernel, by decide +kernel⟩⟩
theorem ag_str_210 : Cond.stringRef RX5 210 "nothing to SPEAK to, or no time left" ∈ lw_tbl := List.mem_of_getElem? (i := 894) (by decide +kernel)
theorem ag_tw_72_69 : ag_TW 72 69 2 := ⟨by decide, rfl, by unfold ag_hx; decide, by decide +kernel, by decide +kernel, 210, _, ag_str_210, Or.inl ⟨by decide +kernel, by decide +kernel, by decide +kernel⟩⟩
theorem ag_tws_72 : ∀ q ∈ ag_th_l.getD 72 [], ag_TW 72 q.1 q.2 := List.forall_mem_cons.mpr ⟨ag_tw_72_11, List.forall_mem_cons.mpr ⟨ag_tw_72_26, List.forall_mem_cons.mpr ⟨ag_tw_72_69, fun _ h => absurd h List.not_mem_nil⟩⟩⟩
theorem ag_str_215 : Cond.stringRef RX5 215 "nothing to call, or no time left" ∈ lw_tbl := List.mem_of_getElem? (i := 722) (by decide +kernel)
theorem ag_tw_73_34 : ag_TW 73 34 2 := ⟨by decide, rfl, by unfold ag_hx; decide, by decide +kernel, by decide +kernel, 215, _, ag_str_215, Or.inl ⟨by decide +kernel, by decide +kernel, by decide +kernel⟩⟩
theorem ag_tws_73 : ∀ q ∈ ag_th_l.getD 73 [], ag_TW 73 q.1 q.2 := List.forall_mem_cons.mpr ⟨ag_tw_73_34, fun _ h => absurd h List.not_mem_nil⟩
theorem ag_tw_74_11 : ag_TW 74 11 0 := ⟨by decide, rfl, by unfold ag_hx; decide, by decide +kernel, by decide +kernel, 202, _, ag_str_202, Or.inl ⟨by decide +kernel, by decide +kernel, by decide +kernel⟩⟩
theorem ag_str_228 : Cond.stringRef RX5 228 "what is 0 to 3" ∈ lw_tbl := List.mem_of_getElem? (i := 285) (by decide +kernel)
theorem ag_tw_74_30 : ag_TW 74 30 1 := ⟨by decide, rfl, by unfold ag_hx; decide, by decide +kernel, by decide +kernel, 228, _, ag_str_228, Or.inl ⟨by decide +kernel, by decide +kernel, by decide +kernel⟩⟩
theorem ag_tws_74 : ∀ q ∈ ag_th_l.getD 74 [], ag_TW 74 q.1 q.2 := List.forall_mem_cons.mpr ⟨ag_tw_74_11, List.forall_mem_cons.mpr ⟨ag_tw_74_30, fun _ h => absurd h List.not_mem_nil⟩⟩
theorem ag_tw_75_14 : ag_TW 75 14 0 := ⟨by decide, rfl, by unfold ag_hx; decide, by decide +kernel, by decide +kernel, 51, _, ag_str_51, Or.inl ⟨by decide +kernel, by decide +kernel, by decide +kernel⟩⟩
theorem ag_str_233 : Cond.stringRef RX5 233 "SIGNATURES are 1 to 9999" ∈ lw_tbl := List.mem_of_getElem? (i := 824) (by decide +kernel)
theorem ag_tw_75_36 : ag_TW 75 36 1 := ⟨by decide, rfl, by unfold ag_hx; decide, by decide +kernel, by decide +kernel, 233, _, ag_str_233, Or.inl ⟨by decide +kernel, by decide +kernel, by decide +kernel⟩⟩
theorem ag_str_236 : Cond.stringRef RX5 236 "there are 12 PETITIONS" ∈ lw_tbl := List.mem_of_getElem? (i := 825) (by decide +kernel)
theorem ag_tw_75_58 : ag_TW 75 58 2 := ⟨by decide, rfl, by unfold ag_hx; decide, by decide +kernel, by decide +kernel, 236, _, ag_str_236, Or.inl ⟨by decide +kernel, by decide +kernel, by decide +kernel⟩⟩
theorem ag_tws_75 : ∀ q ∈ ag_th_l.getD 75 [], ag_TW 75 q.1 q.2 := List.forall_mem_cons.mpr ⟨ag_tw_75_14, List.forall_mem_cons.mpr ⟨ag_tw_75_36, List.forall_mem_cons.mpr ⟨ag_tw_75_58, fun _ h => absurd h List.not_mem_nil⟩⟩⟩
theorem ag_tw_77_14 : ag_TW 77 14 0 := ⟨by decide, rfl, by unfold ag_hx; decide, by decide +kernel, by decide +kernel, 135, _, ag_str_135, Or.inl ⟨by decide +kernel, by decide +kernel, by decide +kernel⟩⟩
theorem ag_tws_77 : ∀ q ∈ ag_th_l.getD 77 [], ag_TW 77 q.1 q.2 := List.forall_mem_cons.mpr ⟨ag_tw_77_14, fun _ h => absurd h List.not_mem_nil⟩
theorem ag_tw_78_14 : ag_TW 78 14 0 := ⟨by decide, rfl, by unfold ag_hx; decide, by decide +kernel, by decide +kernel, 135, _, ag_str_135, Or.inl ⟨by decide +kernel, by decide +kernel, by decide +kernel⟩⟩
theorem ag_tws_78 : ∀ q ∈ ag_th_l.getD 78 [], ag_TW 78 q.1 q.2 := List.forall_mem_cons.mpr ⟨ag_tw_78_14, fun _ h => absurd h List.not_mem_nil⟩
theorem ag_tw_80_11 : ag_TW 80 11 0 := ⟨by decide, rfl, by unfold ag_hx; decide, by decide +kernel, by decide +kernel, 202, _, ag_str_202, Or.inl ⟨by decide +kernel, by decide +kernel, by decide +kernel⟩⟩
theorem ag_tws_80 : ∀ q ∈ ag_th_l.getD 80 [], ag_TW 80 q.1 q.2 := List.forall_mem_cons.mpr ⟨ag_tw_80_11, fun _ h => absurd h List.not_mem_nil⟩
theorem ag_str_263 : Cond.stringRef RX5 263 "none would be PUT then" ∈ lw_tbl := List.mem_of_getElem? (i := 915) (by decide +kernel)
theorem ag_tw_81_11 : ag_TW 81 11 0 := ⟨by decide, rfl, by unfold ag_hx; decide, by decide +kernel, by decide +kernel, 263, _, ag_str_263, Or.inr ⟨by decide +kernel, by decide +kernel, by decide +kernel⟩⟩
theorem ag_tws_81 : ∀ q ∈ ag_th_l.getD 81 [], ag_TW 81 q.1 q.2 := List.forall_mem_cons.mpr ⟨ag_tw_81_11, fun _ h => absurd h List.not_mem_nil⟩
theorem ag_tw_go_g0 (k : Nat) (h : k < 20) : ∀ q ∈ ag_th_l.getD (0 + k) [], ag_TW (0 + k) q.1 q.2 := by
  match k, h with
  | 0, _ => exact (fun q h => absurd h List.not_mem_nil)
  | 1, _ => exact (fun q h => absurd h List.not_mem_nil)
  | 2, _ => exact (fun q h => absurd h List.not_mem_nil)
  | 3, _ => exact (fun q h => absurd h List.not_mem_nil)
  | 4, _ => exact (fun q h => absurd h List.not_mem_nil)
  | 5, _ => exact (fun q h => absurd h List.not_mem_nil)
  | 6, _ => exact (fun q h => absurd h List.not_mem_nil)
  | 7, _ => exact (fun q h => absurd h List.not_mem_nil)
  | 8, _ => exact (fun q h => absurd h List.not_mem_nil)
  | 9, _ => exact (fun q h => absurd h List.not_mem_nil)
  | 10, _ => exact (fun q h => absurd h List.not_mem_nil)
  | 11, _ => exact (fun q h => absurd h List.not_mem_nil)
  | 12, _ => exact (fun q h => absurd h List.not_mem_nil)
  | 13, _ => exact (fun q h => absurd h List.not_mem_nil)
  | 14, _ => exact (fun q h => absurd h List.not_mem_nil)
  | 15, _ => exact (fun q h => absurd h List.not_mem_nil)
  | 16, _ => exact (fun q h => absurd h List.not_mem_nil)
  | 17, _ => exact (fun q h => absurd h List.not_mem_nil)
  | 18, _ => exact (fun q h => absurd h List.not_mem_nil)
  | 19, _ => exact (fun q h => absurd h List.not_mem_nil)
  | n + 20, h => exact absurd h (by omega)
theorem ag_tw_go_g20 (k : Nat) (h : k < 20) : ∀ q ∈ ag_th_l.getD (20 + k) [], ag_TW (20 + k) q.1 q.2 := by
  match k, h with
  | 0, _ => exact (fun q h => absurd h List.not_mem_nil)
  | 1, _ => exact (fun q h => absurd h List.not_mem_nil)
  | 2, _ => exact (fun q h => absurd h List.not_mem_nil)
  | 3, _ => exact (fun q h => absurd h List.not_mem_nil)
  | 4, _ => exact (fun q h => absurd h List.not_mem_nil)
  | 5, _ => exact (fun q h => absurd h List.not_mem_nil)
  | 6, _ => exact (fun q h => absurd h List.not_mem_nil)
  | 7, _ => exact (fun q h => absurd h List.not_mem_nil)
  | 8, _ => exact (fun q h => absurd h List.not_mem_nil)
  | 9, _ => exact (fun q h => absurd h List.not_mem_nil)
  | 10, _ => exact (fun q h => absurd h List.not_mem_nil)
  | 11, _ => exact (fun q h => absurd h List.not_mem_nil)
  | 12, _ => exact (fun q h => absurd h List.not_mem_nil)
  | 13, _ => exact (fun q h => absurd h List.not_mem_nil)
  | 14, _ => exact (fun q h => absurd h List.not_mem_nil)
  | 15, _ => exact (fun q h => absurd h List.not_mem_nil)
  | 16, _ => exact (fun q h => absurd h List.not_mem_nil)
  | 17, _ => exact (fun q h => absurd h List.not_mem_nil)
  | 18, _ => exact (fun q h => absurd h List.not_mem_nil)
  | 19, _ => exact (fun q h => absurd h List.not_mem_nil)
  | n + 20, h => exact absurd h (by omega)
theorem ag_tw_go_g40 (k : Nat) (h : k < 20) : ∀ q ∈ ag_th_l.getD (40 + k) [], ag_TW (40 + k) q.1 q.2 := by
  match k, h with
  | 0, _ => exact (fun q h => absurd h List.not_mem_nil)
  | 1, _ => exact (fun q h => absurd h List.not_mem_nil)
  | 2, _ => exact (fun q h => absurd h List.not_mem_nil)
  | 3, _ => exact (fun q h => absurd h List.not_mem_nil)
  | 4, _ => exact (fun q h => absurd h List.not_mem_nil)
  | 5, _ => exact (fun q h => absurd h List.not_mem_nil)
  | 6, _ => exact (fun q h => absurd h List.not_mem_nil)
  | 7, _ => exact (fun q h => absurd h List.not_mem_nil)
  | 8, _ => exact (fun q h => absurd h List.not_mem_nil)
  | 9, _ => exact (fun q h => absurd h List.not_mem_nil)
  | 10, _ => exact (fun q h => absurd h List.not_mem_nil)
  | 11, _ => exact (fun q h => absurd h List.not_mem_nil)
  | 12, _ => exact (fun q h => absurd h List.not_mem_nil)
  | 13, _ => exact (fun q h => absurd h List.not_mem_nil)
  | 14, _ => exact (fun q h => absurd h List.not_mem_nil)
  | 15, _ => exact (fun q h => absurd h List.not_mem_nil)
  | 16, _ => exact (fun q h => absurd h List.not_mem_nil)
  | 17, _ => exact (fun q h => absurd h List.not_mem_nil)
  | 18, _ => exact (fun q h => absurd h List.not_mem_nil)
  | 19, _ => exact ag_tws_59
  | n + 20, h => exact absurd h (by omega)
theorem ag_tw_go_g60 (k : Nat) (h : k < 20) : ∀ q ∈ ag_th_l.getD (60 + k) [], ag_TW (60 + k) q.1 q.2 := by
  match k, h with
  | 0, _ => exact ag_tws_60
  | 1, _ => exact ag_tws_61
  | 2, _ => exact ag_tws_62
  | 3, _ => exact ag_tws_63
  | 4, _ => exact ag_tws_64
  | 5, _ => exact ag_tws_65
  | 6, _ => exact (fun q h => absurd h List.not_mem_nil)
  | 7, _ => exact ag_tws_67
  | 8, _ => exact ag_tws_68
  | 9, _ => exact ag_tws_69
  | 10, _ => exact ag_tws_70
  | 11, _ => exact ag_tws_71
  | 12, _ => exact ag_tws_72
  | 13, _ => exact ag_tws_73
  | 14, _ => exact ag_tws_74
  | 15, _ => exact ag_tws_75
  | 16, _ => exact (fun q h => absurd h List.not_mem_nil)
  | 17, _ => exact ag_tws_77
  | 18, _ => exact ag_tws_78
  | 19, _ => exact (fun q h => absurd h List.not_mem_nil)
  | n + 20, h => exact absurd h (by omega)
theorem ag_tw_go_g80 (k : Nat) (h : k < 20) : ∀ q ∈ ag_th_l.getD (80 + k) [], ag_TW (80 + k) q.1 q.2 := by
  match k, h with
  | 0, _ => exact ag_tws_80
  | 1, _ => exact ag_tws_81
  | 2, _ => exact (fun q h => absurd h List.not_mem_nil)
  | 3, _ => exact (fun q h => absurd h List.not_mem_nil)
  | 4, _ => exact (fun q h => absurd h List.not_mem_nil)
  | 5, _ => exact (fun q h => absurd h List.not_mem_nil)
  | 6, _ => exact (fun q h => absurd h List.not_mem_nil)
  | 7, _ => exact (fun q h => absurd h List.not_mem_nil)
  | 8, _ => exact (fun q h => absurd h List.not_mem_nil)
  | 9, _ => exact (fun q h => absurd h List.not_mem_nil)
  | 10, _ => exact (fun q h => absurd h List.not_mem_nil)
  | 11, _ => exact (fun q h => absurd h List.not_mem_nil)
  | 12, _ => exact (fun q h => absurd h List.not_mem_nil)
  | 13, _ => exact (fun q h => absurd h List.not_mem_nil)
  | 14, _ => exact (fun q h => absurd h List.not_mem_nil)
  | 15, _ => exact (fun q h => absurd h List.not_mem_nil)
  | 16, _ => exact (fun q h => absurd h List.not_mem_nil)
  | 17, _ => exact (fun q h => absurd h List.not_mem_nil)
  | 18, _ => exact (fun q h => absurd h List.not_mem_nil)
  | 19, _ => exact (fun q h => absurd h List.not_mem_nil)
  | n + 20, h => exact absurd h (by omega)
theorem ag_tw_go_g100 (k : Nat) (h : k < 20) : ∀ q ∈ ag_th_l.getD (100 + k) [], ag_TW (100 + k) q.1 q.2 := by
  match k, h with
  | 0, _ => exact (fun q h => absurd h List.not_mem_nil)
  | 1, _ => exact (fun q h => absurd h List.not_mem_nil)
  | 2, _ => exact (fun q h => absurd h List.not_mem_nil)
  | 3, _ => exact (fun q h => absurd h List.not_mem_nil)
  | 4, _ => exact (fun q h => absurd h List.not_mem_nil)
  | 5, _ => exact (fun q h => absurd h List.not_mem_nil)
  | 6, _ => exact (fun q h => absurd h List.not_mem_nil)
  | 7, _ => exact (fun q h => absurd h List.not_mem_nil)
  | 8, _ => exact (fun q h => absurd h List.not_mem_nil)
  | 9, _ => exact (fun q h => absurd h List.not_mem_nil)
  | 10, _ => exact (fun q h => absurd h List.not_mem_nil)
  | 11, _ => exact (fun q h => absurd h List.not_mem_nil)
  | 12, _ => exact (fun q h => absurd h List.not_mem_nil)
  | 13, _ => exact (fun q h => absurd h List.not_mem_nil)
  | 14, _ => exact (fun q h => absurd h List.not_mem_nil)
  | 15, _ => exact (fun q h => absurd h List.not_mem_nil)
  | 16, _ => exact (fun q h => absurd h List.not_mem_nil)
  | 17, _ => exact (fun q h => absurd h List.not_mem_nil)
  | 18, _ => exact (fun q h => absurd h List.not_mem_nil)
  | 19, _ => exact (fun q h => absurd h List.not_mem_nil)
  | n + 20, h => exact absurd h (by omega)
theorem ag_tw_go_g120 (k : Nat) (h : k < 17) : ∀ q ∈ ag_th_l.getD (120 + k) [], ag_TW (120 + k) q.1 q.2 := by
  match k, h with
  | 0, _ => exact (fun q h => absurd h List.not_mem_nil)
  | 1, _ => exact (fun q h => absurd h List.not_mem_nil)
  | 2, _ => exact (fun q h => absurd h List.not_mem_nil)
  | 3, _ => exact (fun q h => absurd h List.not_mem_nil)
  | 4, _ => exact (fun q h => absurd h List.not_mem_nil)
  | 5, _ => exact (fun q h => absurd h List.not_mem_nil)
  | 6, _ => exact (fun q h => absurd h List.not_mem_nil)
  | 7, _ => exact (fun q h => absurd h List.not_mem_nil)
  | 8, _ => exact (fun q h => absurd h List.not_mem_nil)
  | 9, _ => exact (fun q h => absurd h List.not_mem_nil)
  | 10, _ => exact (fun q h => absurd h List.not_mem_nil)
  | 11, _ => exact (fun q h => absurd h List.not_mem_nil)
  | 12, _ => exact (fun q h => absurd h List.not_mem_nil)
  | 13, _ => exact (fun q h => absurd h List.not_mem_nil)
  | 14, _ => exact (fun q h => absurd h List.not_mem_nil)
  | 15, _ => exact (fun q h => absurd h List.not_mem_nil)
  | 16, _ => exact (fun q h => absurd h List.not_mem_nil)
  | n + 17, h => exact absurd h (by omega)
theorem ag_tw_go (y : Nat) : ∀ q ∈ ag_th_l.getD y [], ag_TW y q.1 q.2 := by
  rcases Nat.lt_or_ge y 20 with h20 | h20
  · have hy : y = 0 + (y - 0) := by omega
    rw [hy]
    exact ag_tw_go_g0 (y - 0) (by omega)
  rcases Nat.lt_or_ge y 40 with h40 | h40
  · have hy : y = 20 + (y - 20) := by omega
    rw [hy]
    exact ag_tw_go_g20 (y - 20) (by omega)
  rcases Nat.lt_or_ge y 60 with h60 | h60
  · have hy : y = 40 + (y - 40) := by omega
    rw [hy]
    exact ag_tw_go_g40 (y - 40) (by omega)
  rcases Nat.lt_or_ge y 80 with h80 | h80
  · have hy : y = 60 + (y - 60) := by omega
    rw [hy]
    exact ag_tw_go_g60 (y - 60) (by omega)
  rcases Nat.lt_or_ge y 100 with h100 | h100
  · have hy : y = 80 + (y - 80) := by omega
    rw [hy]
    exact ag_tw_go_g80 (y - 80) (by omega)
  rcases Nat.lt_or_ge y 120 with h120 | h120
  · have hy : y = 100 + (y - 100) := by omega
    rw [hy]
    exact ag_tw_go_g100 (y - 100) (by omega)
  rcases Nat.lt_or_ge y 137 with h137 | h137
  · have hy : y = 120 + (y - 120) := by omega
    rw [hy]
    exact ag_tw_go_g120 (y - 120) (by omega)
  exact (fun q h => by rw [List.getD_eq_getElem?_getD, List.getElem?_eq_none (by show 137 ≤ y; omega)] at h; exact absurd h List.not_mem_nil)
theorem ag_twf {y pc E : Nat} (h : ag_th y pc = some E) : ag_TW y pc E := by
  unfold ag_th at h
  cases hf : (ag_th_l.getD y []).find? (fun q => q.1 == pc) with
  | none => rw [hf] at h; cases h
  | some q =>
    rw [hf] at h
    have hm := List.mem_of_find?_eq_some hf
    have he := List.find?_some hf
    simp only [beq_iff_eq] at he
    have hq : q.2 = E := Option.some.inj h
    have key := ag_tw_go y q hm
    rw [he, hq] at key
    exact key
section AGT2
variable {p : Program} {l : Launch} {e : Env} {R : Room} {s : State} {m : MethodId} {args : Array Value} {below : List Frame} {meth : Method} {c : Code} {H : Heap} {locs : List Loc} {cells slots : Nat} {Q : State → Prop} {G : ag_G} {y pc : Nat} {A : Array Slot} {ls ls' : ag_Ls} {st st' : List ag_V} {σ σ' : ag_S} {pc' : Nat}

/-- a method's end, of the machine: what it answers or throws, and the store behind it -/
def ag_Qc (G : ag_G) (r : ag_Rs) (σ' : ag_S) : Array Value → State → Outcome → State → Prop := fun _ _ o t => ∃ v, r = Sum.inl v ∧ o = .returned (v.map (ag_v (ag_f G))) ∧ ag_rep G σ' t.heap
def ag_XC (G : ag_G) (r : ag_Rs) (σ' : ag_S) : String → State → State → Prop := fun E _ t => ∃ k, k < 3 ∧ r = Sum.inr k ∧ E = ag_xn k ∧ ag_rep G σ' t.heap
theorem ag_s_throw {E : Nat} (C : ag_cx G y p l R s m meth c) (hG2 : ag_g2 G) (hfl : l.stackTraces = false) (hI : ag_in G s σ H locs) (hL : ag_lr (ag_f G) ls (ag_mx y) A) (h : ag_th y pc = some E) (hw : st = []) (htab : c.exceptionTable.toList = [])
    (hc1 : cells + 1 ≤ R.cells) (hc2 : slots + 6 ≤ R.slots) : W p l e R s m args below meth c H locs cells slots (vx_MQ below (ag_Qc G (Sum.inr E) (σ.1, (σ.2.1 + 1, σ.2.2 + 6))) (ag_XC G (Sum.inr E) (σ.1, (σ.2.1 + 1, σ.2.2 + 6))) args s (cells + 1) (slots + 6) (fun q => G.1.heap.size ≤ q)) (F0 m pc A (st.map (ag_v (ag_f G)))) := by
  obtain ⟨hG, hx, hb, hml, hr, hown, hlk, hnm, hW, hs0, hRf, hRl⟩ := C
  obtain ⟨hE, ho, -, d0, d3, is, text, hsm, hdd⟩ := ag_twf h
  have hown5 : s.vm.findClass RX5 = some m.cls := by
    have h1 := ag_on_ok y
    rw [ho] at h1
    have h2 : RX5 = (ag_ny y).cls := h1
    rw [h2]
    exact hown
  have hown0 : G.1.vm.findClass RX5 = some m.cls := by
    rw [← hW.alike.findClass]
    exact hown5
  have hsw := hG.1 _ hsm
  obtain ⟨_, _, _, sa, -, -, -, -, -, hev⟩ := Cond.stringRef_spec hown0 hsw
  have hstr : vk_R RX5 is text sa s := vk_R.warm hW (vk_R.of hsw hev)
  have hw : ag_wt st ≤ 8 := by rw [hw]; decide
  have hz := ag_wt_map (ag_f G) st
  have hS : va_S (fun q => G.1.heap.size ≤ q) s.heap H locs := ⟨hI.2.1, fun q hq hn => by
    have hn' : q < G.1.heap.size := Nat.not_le.mp hn
    rw [hI.1.2.1 q hn', hs0.2 q hn'], hI.2.2⟩
  have hkp : ∀ a : Nat, a < G.1.heap.size → ¬ (G.1.heap.size ≤ a) → s.heap[a]? = G.1.heap[a]? := fun a ha _ => hs0.2 a ha
  have hU : vx_Zq Bundle.tN "UNASSIGNED_STACK" Bundle.steD (fun q => G.1.heap.size ≤ q) s s.heap := vx_Zq.moved hW.alike (hG2.1.kept hkp)
  have hN : vx_Zq Bundle.tN "SUPPRESSED_SENTINEL" Bundle.listD (fun q => G.1.heap.size ≤ q) s s.heap := vx_Zq.moved hW.alike (hG2.2.1.kept hkp)
  have hsize : A.size = c.maxLocals := by rw [hml]; exact hL.1
  have hxx : ∀ t : State, s.vm.Alike t.vm → t.heap.size = H.size + 1 → (∀ q : Nat, q < H.size → t.heap[q]? = H[q]?) → ag_XC G (Sum.inr E) (σ.1, (σ.2.1 + 1, σ.2.2 + 6)) (ag_xn E) s t := by
    intro t _ z1 oq
    obtain ⟨h1, h2, h3⟩ := hI.1
    refine ⟨E, hE, rfl, rfl, by rw [z1, h1]; show _ = _ + (σ.2.1 + 1); omega, fun q hq => ?_, fun n cl hn => ?_⟩
    · rw [oq q (by omega)]
      exact h2 q hq
    · rcases h3 n cl hn with ⟨hz, kk, g, hc, hX⟩ | ⟨hz, hat, hwf⟩
      · obtain ⟨scr, q1, q2⟩ := hX
        exact Or.inl ⟨hz, kk, g, hc, ⟨scr, by rw [oq _ (Array.getElem?_eq_some_iff.mp q1).1]; exact q1, q2⟩⟩
      · exact Or.inr ⟨hz, hat.kept (oq _ hat.lt), hwf⟩
  have hno : ∀ z : Nat, ∀ x ∈ c.exceptionTable.toList, covers x z = false := fun z x hx => by rw [htab] at hx; exact absurd hx List.not_mem_nil
  have hfits : ∀ n ∈ (["java/lang/RuntimeException", "java/lang/Exception"] : List String), Bundle.fit n = true := by decide +kernel
  have key : ∀ (E' : Nat), E' = E → Bundle.fit (ag_xn E') = true → Cond.classLink RX5 (ag_ik E') (ag_xn E') ∈ lw_tbl → Cond.initialized (ag_xn E') ∈ lw_tbl → (∀ w ∈ vx_atS RX5 (ag_ic E') (ag_xn E') ["java/lang/RuntimeException", "java/lang/Exception"], w ∈ lw_tbl ∧ ag_gd w = true) →
      (∀ w ∈ Cond.classLink RX5 (ag_ik E') (ag_xn E') :: Cond.initialized (ag_xn E') :: vx_atS RX5 (ag_ic E') (ag_xn E') ["java/lang/RuntimeException", "java/lang/Exception"], vx_ot w = true) →
      W p l e R s m args below meth c H locs cells slots (vx_MQ below (ag_Qc G (Sum.inr E) (σ.1, (σ.2.1 + 1, σ.2.2 + 6))) (ag_XC G (Sum.inr E) (σ.1, (σ.2.1 + 1, σ.2.2 + 6))) args s (cells + 1) (slots + 6) (fun q => G.1.heap.size ≤ q)) (F0 m pc A (st.map (ag_v (ag_f G)))) := by
    rintro E' rfl k1 k2 k3 k4 k5
    have kat : ∀ w ∈ vx_atS RX5 (ag_ic E') (ag_xn E') ["java/lang/RuntimeException", "java/lang/Exception"], w.before args s = true := fun w hw => ag_gd_at hG hW (k4 w hw).1 (k4 w hw).2 args
    rcases hdd with ⟨d4, d6, d9⟩ | ⟨d4, d7, d10⟩
    · exact ag_throwS (A := fun q => G.1.heap.size ≤ q) hx hb hfl hown5 k1 hfits (ag_word hG hW k2 rfl args) (ag_word hG hW k3 rfl args) hstr kat k5 hU hN hS hsize d0 d3 d4 d6 d9 (hno _) (by show 2 + 3 < _; omega) (by rw [hz]; show _ + (13 * 3 + 43) ≤ _; omega) hc1 hc2 hlk hxx (fun z hz => hI.2.2 z hz) (Nat.le_refl _) (Nat.le_refl _)
    · exact ag_throwSW (A := fun q => G.1.heap.size ≤ q) hx hb hfl hown5 k1 hfits (ag_word hG hW k2 rfl args) (ag_word hG hW k3 rfl args) hstr kat k5 hU hN hS hsize d0 d3 d4 d7 d10 (hno _) (by show 2 + 3 < _; omega) (by rw [hz]; show _ + (13 * 3 + 43) ≤ _; omega) hc1 hc2 hlk hxx (fun z hz => hI.2.2 z hz) (Nat.le_refl _) (Nat.le_refl _)
  match E, hE, key with
  | 0, _, key => exact key 0 rfl ag_af_0 ag_ak_0 ag_an_0 ag_at_0 ag_ao_0
  | 1, _, key => exact key 1 rfl ag_af_1 ag_ak_1 ag_an_1 ag_at_1 ag_ao_1
  | 2, _, key => exact key 2 rfl ag_af_2 ag_ak_2 ag_an_2 ag_at_2 ag_ao_2
  | n + 3, h, _ => exact absurd h (by omega)
end AGT2
