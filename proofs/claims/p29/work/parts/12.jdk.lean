/-! CALLS of the JDK's own: Object(), Math.max, System.arraycopy. -/
theorem ag_w_oi : Cond.instanceMethod objectInit ∈ lw_tbl := List.mem_of_getElem? (i := 67) (by decide +kernel)
theorem ag_w_oc : Cond.code objectInit ⟨#[0xb1]⟩ 1 none ∈ lw_tbl := List.mem_of_getElem? (i := 68) (by decide +kernel)
theorem ag_w_ms : Cond.static Lib.Math.max.name ∈ lw_tbl := List.mem_of_getElem? (i := 231) (by decide +kernel)
theorem ag_w_mi : Cond.initialized "java/lang/Math" ∈ lw_tbl := List.mem_of_getElem? (i := 31) (by decide +kernel)
theorem ag_w_mc : Cond.code Lib.Math.max.name Lib.Math.max.code 2 (some .int) ∈ lw_tbl := List.mem_of_getElem? (i := 232) (by decide +kernel)
theorem ag_w_cs : Cond.static arraycopyName ∈ lw_tbl := List.mem_of_getElem? (i := 716) (by decide +kernel)
theorem ag_w_cn : Cond.native arraycopyName ∈ lw_tbl := List.mem_of_getElem? (i := 717) (by decide +kernel)
theorem ag_w_ci : Cond.initialized "java/lang/System" ∈ lw_tbl := List.mem_of_getElem? (i := 30) (by decide +kernel)
theorem ag_cw0 {y idx n kd : Nat} (h : ag_CW y idx 0 n kd) : Cond.methodLink (ag_on (ag_ow y)) idx objectInit ∈ lw_tbl := by
  unfold ag_CW at h
  split at h <;> first | exact h.2 | (obtain ⟨h1, -⟩ := h; omega) | exact h.elim
theorem ag_cw1 {y idx n kd : Nat} (h : ag_CW y idx 1 n kd) (hn : n = 2) : Cond.methodLink (ag_on (ag_ow y)) idx Lib.Math.max.name ∈ lw_tbl := by
  unfold ag_CW at h
  split at h <;> first | exact h.2.2 | (exfalso; obtain ⟨h1, h2, -⟩ := h; omega) | (exfalso; obtain ⟨h1, -⟩ := h; omega) | exact h.elim
theorem ag_cw3 {y idx n kd : Nat} (h : ag_CW y idx 1 n kd) (hn : n = 1) : Cond.methodLink (ag_on (ag_ow y)) idx Jvm.Free.Fl.Abs.absDN ∈ lw_tbl := by
  unfold ag_CW at h
  split at h <;> first | exact h.2.2 | (exfalso; obtain ⟨h1, h2, -⟩ := h; omega) | (exfalso; obtain ⟨h1, -⟩ := h; omega) | exact h.elim
theorem ag_w_as : Cond.static Jvm.Free.Fl.Abs.absDN ∈ lw_tbl := List.mem_of_getElem? (i := 917) (by decide +kernel)
theorem ag_w_ab : Cond.code Jvm.Free.Fl.Abs.absDN Jvm.Free.Fl.Abs.absDCode 2 (some .double) ∈ lw_tbl := List.mem_of_getElem? (i := 918) (by decide +kernel)
theorem ag_cw2 {y idx n kd : Nat} (h : ag_CW y idx 2 n kd) : Cond.methodLink (ag_on (ag_ow y)) idx arraycopyName ∈ lw_tbl := by
  unfold ag_CW at h
  split at h <;> first | exact h.2 | (obtain ⟨h1, -⟩ := h; omega) | exact h.elim
theorem ag_cpy_i (f g : Nat → Int) (sp dp n : Nat) : va_cpy (fun i => Int32.ofInt (f i)) (fun i => Int32.ofInt (g i)) sp dp n = fun i => Int32.ofInt (va_cpy f g sp dp n i) := by
  funext i
  unfold va_cpy
  split <;> rfl
theorem ag_cpy_q (F : Nat → Nat) (f g : Nat → Option Nat) (sp dp n : Nat) : va_cpy (fun i => (f i).map F) (fun i => (g i).map F) sp dp n = fun i => (va_cpy f g sp dp n i).map F := by
  funext i
  unfold va_cpy
  split <;> rfl
section AGZ4
variable {p : Program} {l : Launch} {e : Env} {R : Room} {s : State} {m : MethodId} {args : Array Value} {below : List Frame} {meth : Method} {c : Code} {H : Heap} {locs : List Loc} {cells slots : Nat} {Q : State → Prop} {G : ag_G} {y pc : Nat} {A : Array Slot} {ls ls' : ag_Ls} {st st' : List ag_V} {σ σ' : ag_S} {pc' : Nat}

/-- arraycopy of ints, what is changed said outright -/
theorem ag_copy {cc : ByteArray} (hexec : p.tables.exec = Jvm.exec) (hb : c.code = cc) (hml : c.maxLocals = A.size) {own : String} {index : Nat} (hown : s.vm.findClass own = some m.cls) (hlink : (Cond.methodLink own index arraycopyName).before args s = true) (hnat : (Cond.native arraycopyName).before args s = true) (hstat : (Cond.static arraycopyName).before args s = true) (hini : (Cond.initialized "java/lang/System").before args s = true)
    {a0 a : Nat} {cA : ClassId} {n0 n1 : Nat} {f g : Nat → Int32} (hAr : ArrOfT s cA .int) (hc0 : H[a0]? = some (vp_cell cA (n0, .inl f))) (hc1 : H[a]? = some (vp_cell cA (n1, .inl g)))
    {sp dp n : Int32} {rest : List Value} (h1 : ¬ sp < 0) (h2 : ¬ dp < 0) (h3 : ¬ n < 0) (h4 : sp.toNatClampNeg + n.toNatClampNeg ≤ n0) (h5 : dp.toNatClampNeg + n.toNatClampNeg ≤ n1)
    (hframes : 1 ≤ R.frames) (hlocals : (rest.map fun v => v.category).sum + (nativeFrameWords "java/lang/System" "arraycopy" 5 + 11) ≤ R.locals) (hdg : decode cc pc = .ok (.invokestatic index, 3))
    (kk : ∀ (H1 : Heap) (locs1 : List Loc), H1[a]? = some (vp_cell cA (n1, .inl (va_cpy f g sp.toNatClampNeg dp.toNatClampNeg n.toNatClampNeg))) → H1.size = H.size → (∀ q : Nat, q ≠ a → H1[q]? = H[q]?) → (∀ z ∈ locs1, z ∈ locs ∨ z.base = a) → W p l e R s m args below meth c H1 locs1 cells slots Q (F0 m (pc + 3) A rest)) : W p l e R s m args below meth c H locs cells slots Q (F0 m pc A (.int n :: .int dp :: .ref a :: .int sp :: .ref a0 :: rest)) := by
  have nn : ∀ z : Int32, ¬ z < 0 → z.toInt = (z.toNatClampNeg : Int) := by
    intro z hz
    have hz0 : (0 : Int) ≤ z.toInt := by
      have := Int32.not_lt.mp hz
      simpa using Int32.le_iff_toInt_le.mp this
    show z.toInt = ((z.toInt.toNat : Nat) : Int)
    omega
  intro T hT X
  obtain ⟨-, k0, hk0, cm0, hkk0⟩ := hAr n0 (fun j => .int (f j))
  obtain ⟨-, k1, hk1, cm1, hkk1⟩ := hAr n1 (fun j => .int (g j))
  obtain ⟨vm', X', step⟩ := X.arraycopy hexec hown hlink hnat hstat hini (src := a0) (dst := a) (cs := vp_cell cA (n0, .inl f)) (cd := vp_cell cA (n1, .inl g)) (srcPos := sp) (destPos := dp) (n := n) (by rw [hT]; exact hc0) (by rw [hT]; exact hc1)
    (fun _ h => by cases h) (fun _ h => by cases h) (fun h => by cases h) (fun h => by cases h) hk0 hk1 hkk0 hkk1 (by rfl) h1 h2 h3
    (by rw [nn sp h1, nn n h3]; show ¬ _ > ((arrV cA n0 (fun j => .int (f j))).slots.size : Int); rw [arrV_size]; omega)
    (by rw [nn dp h2, nn n h3]; show ¬ _ > ((arrV cA n1 (fun j => .int (g j))).slots.size : Int); rw [arrV_size]; omega)
    (fun vm₁ _ i hi => by
      have e : (vp_cell cA (n0, .inl f)).slots.getD (sp.toNatClampNeg + i) .null = .int (f (sp.toNatClampNeg + i)) := by
        show (arrV cA n0 (fun j => .int (f j))).slots.getD _ _ = _
        rw [Array.getD_eq_getD_getElem?, arrV_read _ _ (by omega)]
        rfl
      refine ⟨?_, ?_⟩
      · rw [e]
        rfl
      · rw [e]
        exact trivial)
    (g := F0 m pc A (.int n :: .int dp :: .ref a :: .int sp :: .ref a0 :: rest)) rfl (by rw [hml]) (rest := rest) rfl (by rw [hb]; exact hdg) hframes (by show 2 * 0 + _ + _ ≤ _; omega)
  have e1 : copied (vp_cell cA (n0, .inl f)) (vp_cell cA (n1, .inl g)) sp dp n = vp_cell cA (n1, .inl (va_cpy f g sp.toNatClampNeg dp.toNatClampNeg n.toNatClampNeg)) := va_copied (fun z => .int z) cA cA f g h4
  rw [e1] at X' step
  have hl : a < H.size := (Array.getElem?_eq_some_iff.mp hc1).1
  have hheap : ((T.setVm vm').setCell a (vp_cell cA (n1, .inl (va_cpy f g sp.toNatClampNeg dp.toNatClampNeg n.toNatClampNeg)))).heap = H.setIfInBounds a (vp_cell cA (n1, .inl (va_cpy f g sp.toNatClampNeg dp.toNatClampNeg n.toNatClampNeg))) := by rw [← hT]; rfl
  have oq : ∀ q : Nat, q ≠ a → (H.setIfInBounds a (vp_cell cA (n1, .inl (va_cpy f g sp.toNatClampNeg dp.toNatClampNeg n.toNatClampNeg))))[q]? = H[q]? := fun q hq => by simp [Array.getElem?_setIfInBounds, Ne.symm hq]
  obtain ⟨t, a1, b1⟩ := kk _ _ (by simp [Array.getElem?_setIfInBounds, hl]) (by simp) oq (fun q hq => by
      rcases List.mem_append.mp hq with h | h
      · exact Or.inl h
      · obtain ⟨z, -, hz⟩ := List.mem_map.mp h
        rw [← hz]
        exact Or.inr rfl) _ hheap X'
  exact ⟨t, step t a1, b1⟩
/-- arraycopy of rows of ints, what is changed said outright -/
theorem ag_copyq {cc : ByteArray} (hexec : p.tables.exec = Jvm.exec) (hb : c.code = cc) (hml : c.maxLocals = A.size) {own : String} {index : Nat} (hown : s.vm.findClass own = some m.cls) (hlink : (Cond.methodLink own index arraycopyName).before args s = true) (hnat : (Cond.native arraycopyName).before args s = true) (hstat : (Cond.static arraycopyName).before args s = true) (hini : (Cond.initialized "java/lang/System").before args s = true)
    {a0 a : Nat} {cA : ClassId} {n0 n1 : Nat} {f g : Nat → Option Nat} {cI : ClassId} {kA : Class} (hAr : ArrOfT s cA (.array .int)) (hkA : s.vm.classes[cA]? = some kA) (hkindA : kA.kind = .array cI (.array .int)) (hkI : ∃ kI, s.vm.classes[cI]? = some kI) (hc0 : H[a0]? = some (vp_cell cA (n0, .inr (.inr (.inr (.inr f)))))) (hc1 : H[a]? = some (vp_cell cA (n1, .inr (.inr (.inr (.inr g))))))
    {sp dp n : Int32} {rest : List Value} (h1 : ¬ sp < 0) (h2 : ¬ dp < 0) (h3 : ¬ n < 0) (h4 : sp.toNatClampNeg + n.toNatClampNeg ≤ n0) (h5 : dp.toNatClampNeg + n.toNatClampNeg ≤ n1)
    (hel : ∀ i : Nat, i < n.toNatClampNeg → ∃ (y : Nat) (cellV : Cell), f (sp.toNatClampNeg + i) = some y ∧ H[y]? = some cellV ∧ cellV.vm.isStatics = false ∧ cellV.cls = cI)
    (hframes : 1 ≤ R.frames) (hlocals : (rest.map fun v => v.category).sum + (nativeFrameWords "java/lang/System" "arraycopy" 5 + 11) ≤ R.locals) (hdg : decode cc pc = .ok (.invokestatic index, 3))
    (kk : ∀ (H1 : Heap) (locs1 : List Loc), H1[a]? = some (vp_cell cA (n1, .inr (.inr (.inr (.inr (va_cpy f g sp.toNatClampNeg dp.toNatClampNeg n.toNatClampNeg)))))) → H1.size = H.size → (∀ q : Nat, q ≠ a → H1[q]? = H[q]?) → (∀ z ∈ locs1, z ∈ locs ∨ z.base = a) → W p l e R s m args below meth c H1 locs1 cells slots Q (F0 m (pc + 3) A rest)) : W p l e R s m args below meth c H locs cells slots Q (F0 m pc A (.int n :: .int dp :: .ref a :: .int sp :: .ref a0 :: rest)) := by
  have nn : ∀ z : Int32, ¬ z < 0 → z.toInt = (z.toNatClampNeg : Int) := by
    intro z hz
    have hz0 : (0 : Int) ≤ z.toInt := by
      have := Int32.not_lt.mp hz
      simpa using Int32.le_iff_toInt_le.mp this
    show z.toInt = ((z.toInt.toNat : Nat) : Int)
    omega
  intro T hT X
  obtain ⟨-, k0, hk0, cm0, hkk0⟩ := hAr n0 (fun j => va_rf (f j))
  obtain ⟨-, k1, hk1, cm1, hkk1⟩ := hAr n1 (fun j => va_rf (g j))
  obtain ⟨vm', X', step⟩ := X.arraycopy hexec hown hlink hnat hstat hini (src := a0) (dst := a) (cs := vp_cell cA (n0, .inr (.inr (.inr (.inr f))))) (cd := vp_cell cA (n1, .inr (.inr (.inr (.inr g))))) (srcPos := sp) (destPos := dp) (n := n) (by rw [hT]; exact hc0) (by rw [hT]; exact hc1)
    (fun _ h => by cases h) (fun _ h => by cases h) (fun h => by cases h) (fun h => by cases h) hk0 hk1 hkk0 hkk1 (by rfl) h1 h2 h3
    (by rw [nn sp h1, nn n h3]; show ¬ _ > ((arrV cA n0 (fun j => va_rf (f j))).slots.size : Int); rw [arrV_size]; omega)
    (by rw [nn dp h2, nn n h3]; show ¬ _ > ((arrV cA n1 (fun j => va_rf (g j))).slots.size : Int); rw [arrV_size]; omega)
    (fun vm₁ hal i hi => by
      have e : (vp_cell cA (n0, .inr (.inr (.inr (.inr f))))).slots.getD (sp.toNatClampNeg + i) .null = va_rf (f (sp.toNatClampNeg + i)) := by
        show (arrV cA n0 (fun j => va_rf (f j))).slots.getD _ _ = _
        rw [Array.getD_eq_getD_getElem?, arrV_read _ _ (by omega)]
        rfl
      rw [e]
      obtain ⟨y9, cellV, g0, g1, g2, g3⟩ := hel i hi
      rw [g0]
      cases hk1.symm.trans hkA
      obtain ⟨kI, hkI⟩ := hkI
      obtain ⟨kI', hkI', -⟩ := hal.2.2 _ _ hkI
      have hcm : cm1 = cI := by
        rw [hkk1] at hkindA
        cases hkindA
        rfl
      subst hcm
      rw [← g3] at hkI hkI'
      refine ⟨rfl, cellV, (show T.heap[y9]? = some cellV by rw [hT]; exact g1), (fun q h => by rw [h] at g2; cases g2), ⟨kI', hkI'⟩, ?_, ?_⟩
      · rw [← g3]
        exact ⟨kI', hkI'⟩
      · show vm₁.assignable _ _ = true
        rw [g3]
        exact va_asg _ _)
    (g := F0 m pc A (.int n :: .int dp :: .ref a :: .int sp :: .ref a0 :: rest)) rfl (by rw [hml]) (rest := rest) rfl (by rw [hb]; exact hdg) hframes (by show 2 * 0 + _ + _ ≤ _; omega)
  have e1 : copied (vp_cell cA (n0, .inr (.inr (.inr (.inr f))))) (vp_cell cA (n1, .inr (.inr (.inr (.inr g))))) sp dp n = vp_cell cA (n1, .inr (.inr (.inr (.inr (va_cpy f g sp.toNatClampNeg dp.toNatClampNeg n.toNatClampNeg))))) := va_copied va_rf cA cA f g h4
  rw [e1] at X' step
  have hl : a < H.size := (Array.getElem?_eq_some_iff.mp hc1).1
  have hheap : ((T.setVm vm').setCell a (vp_cell cA (n1, .inr (.inr (.inr (.inr (va_cpy f g sp.toNatClampNeg dp.toNatClampNeg n.toNatClampNeg))))))).heap = H.setIfInBounds a (vp_cell cA (n1, .inr (.inr (.inr (.inr (va_cpy f g sp.toNatClampNeg dp.toNatClampNeg n.toNatClampNeg)))))) := by rw [← hT]; rfl
  have oq : ∀ q : Nat, q ≠ a → (H.setIfInBounds a (vp_cell cA (n1, .inr (.inr (.inr (.inr (va_cpy f g sp.toNatClampNeg dp.toNatClampNeg n.toNatClampNeg)))))))[q]? = H[q]? := fun q hq => by simp [Array.getElem?_setIfInBounds, Ne.symm hq]
  obtain ⟨t, a1, b1⟩ := kk _ _ (by simp [Array.getElem?_setIfInBounds, hl]) (by simp) oq (fun q hq => by
      rcases List.mem_append.mp hq with h | h
      · exact Or.inl h
      · obtain ⟨z, -, hz⟩ := List.mem_map.mp h
        rw [← hz]
        exact Or.inr rfl) _ hheap X'
  exact ⟨t, step t a1, b1⟩
/-- Math.abs of a double that is no NaN -/
theorem ag_absd {cc : ByteArray} (hexec : p.tables.exec = Jvm.exec) (hb : c.code = cc) (hml : c.maxLocals = A.size) {own : String} {index : Nat} (hown : s.vm.findClass own = some m.cls) (hlink : (Cond.methodLink own index Jvm.Free.Fl.Abs.absDN).before args s = true) (hstat : (Cond.static Jvm.Free.Fl.Abs.absDN).before args s = true) (hini : (Cond.initialized "java/lang/Math").before args s = true) (hcode : (Cond.code Jvm.Free.Fl.Abs.absDN Jvm.Free.Fl.Abs.absDCode 2 (some .double)).before args s = true)
    (hframes : 1 ≤ R.frames) {rest : List Value} (hlocals : (rest.map fun v => v.category).sum + 13 ≤ R.locals) (hc : cells ≤ R.cells) (hs : slots ≤ R.slots) {a : UInt64} (hn : vf_n64 a) (hdg : decode cc pc = .ok (.invokestatic index, 3))
    (kk : W p l e R s m args below meth c H locs cells slots Q (F0 m (pc + 3) A (.double (a &&& 0x7fffffffffffffff) :: rest))) : W p l e R s m args below meth c H locs cells slots Q (F0 m pc A (.double a :: rest)) := by
  intro T hT X
  obtain ⟨mk, hnamed⟩ := Cond.code_named hcode
  obtain ⟨methM, cM, hmethM, -, -, -, -, -, -, hsigM⟩ := Cond.code_spec hnamed hcode
  obtain ⟨r2, vm2, ⟨T2, L2, c2, n2⟩, hW2, X2, ⟨hr2, hB2⟩, come⟩ := X.staticBack hexec (own := own) (index := index) (y := Jvm.Free.Fl.Abs.absDN) hown hlink hstat hini hnamed hmethM hsigM (by decide)
    (Jvm.Free.Fl.Abs.absD_pays (l := l) (R := R) (W := (rest.map fun v => v.category).sum) a hcode hframes hlocals) (g := F0 m pc A (.double a :: rest)) rfl (by rw [hml]) (Steps.refl _) (argsL := [.double a]) (rest := rest)
    (fun sig hs => by rw [show parseMethodDescriptor Jvm.Free.Fl.Abs.absDN.desc = some ⟨[.double], some .double⟩ from by decide +kernel] at hs; rw [← Option.some.inj hs]; rfl) rfl (by show 2 * 0 + _ ≤ _; omega) (by rw [hb]; exact hdg)
    (fun vmx hWx => ⟨hc, hs, rfl, hn⟩)
  simp only [Prod.mk.injEq] at hB2
  obtain ⟨rfl, rfl, rfl, rfl⟩ := hB2
  subst hr2
  obtain ⟨t, a1, b1⟩ := kk (T.setVm vm2) hT X2
  exact ⟨t, come.trans a1, b1⟩
/-- a call that goes on at once is of the JDK's own -/
theorem ag_iv_go {idx op : Nat} (h : ag_iv y idx op pc ls st σ = some (Sum.inl (pc', (ls', (st', σ'))))) : pc' = pc + 3 ∧ ls' = ls ∧
    ((op = 2 ∧ ∃ (n kd a : Nat), ag_ml y idx = some (0, (n, kd)) ∧ st = ag_R a :: st' ∧ ag_wt st' ≤ 8 ∧ σ' = σ) ∨
     (op = 1 ∧ ∃ (n kd : Nat) (a b : Int) (st1 : List ag_V), ag_ml y idx = some (1, (n, kd)) ∧ st = ag_I b :: ag_I a :: st1 ∧ (n = 2 ∧ ag_wt st1 ≤ 8) ∧ st' = ag_I (if ag_nm a < ag_nm b then b else a) :: st1 ∧ σ' = σ) ∨
     (op = 1 ∧ ∃ (w kd d a n0 n1 : Nat) (n dp sp : Int) (f g : Nat → Int), ag_ml y idx = some (2, (w, kd)) ∧ st = ag_I n :: ag_I dp :: ag_R d :: ag_I sp :: ag_R a :: st' ∧ σ.1 a = some (Sum.inl (n0, f)) ∧ σ.1 d = some (Sum.inl (n1, g)) ∧
      (0 ≤ ag_nm sp ∧ 0 ≤ ag_nm dp ∧ 0 ≤ ag_nm n ∧ ag_nm sp + ag_nm n ≤ n0 ∧ ag_nm dp + ag_nm n ≤ n1 ∧ 1 ≤ d ∧ 1 ≤ a ∧ ag_wt st' ≤ 8) ∧ σ' = (ag_up σ.1 d (Sum.inl (n1, va_cpy f g (ag_nm sp).toNat (ag_nm dp).toNat (ag_nm n).toNat)), σ.2)) ∨
     (op = 1 ∧ ∃ (n kd : Nat) (a : UInt64) (st1 : List ag_V), ag_ml y idx = some (1, (n, kd)) ∧ st = ag_F a :: st1 ∧ (n = 1 ∧ ag_wt st1 ≤ 8 ∧ ag_nn a = true) ∧ st' = ag_F (a &&& 0x7fffffffffffffff) :: st1 ∧ σ' = σ) ∨
     (op = 1 ∧ ∃ (w kd d a n0 n1 : Nat) (n dp sp : Int) (f g : Nat → Option Nat), ag_ml y idx = some (2, (w, kd)) ∧ st = ag_I n :: ag_I dp :: ag_R d :: ag_I sp :: ag_R a :: st' ∧ σ.1 a = some (Sum.inr (Sum.inr (Sum.inl (n0, f)))) ∧ σ.1 d = some (Sum.inr (Sum.inr (Sum.inl (n1, g)))) ∧
      (0 ≤ ag_nm sp ∧ 0 ≤ ag_nm dp ∧ 0 ≤ ag_nm n ∧ ag_nm sp + ag_nm n ≤ n0 ∧ ag_nm dp + ag_nm n ≤ n1 ∧ 1 ≤ d ∧ 1 ≤ a ∧ ag_wt st' ≤ 8 ∧ ag_cpk σ f (ag_nm sp).toNat (ag_nm n).toNat = true) ∧ σ' = (ag_up σ.1 d (Sum.inr (Sum.inr (Sum.inl (n1, va_cpy f g (ag_nm sp).toNat (ag_nm dp).toNat (ag_nm n).toNat)))), σ.2))) := by
  unfold ag_iv at h
  split at h
  · cases h
  · rename_i q hml
    split at h
    · split at h
      · rename_i hw
        obtain ⟨rfl, rfl, rfl, rfl⟩ := ag_go_inj h
        exact ⟨rfl, rfl, Or.inl ⟨rfl, _, _, _, hml, rfl, hw, rfl⟩⟩
      · cases h
    · cases h
  · rename_i q hml
    split at h
    · split at h
      · rename_i hw
        obtain ⟨rfl, rfl, rfl, rfl⟩ := ag_go_inj h
        exact ⟨rfl, rfl, Or.inr (Or.inl ⟨rfl, _, _, _, _, _, hml, rfl, hw, rfl, rfl⟩)⟩
      · cases h
    · split at h
      · rename_i hw
        obtain ⟨rfl, rfl, rfl, rfl⟩ := ag_go_inj h
        exact ⟨rfl, rfl, Or.inr (Or.inr (Or.inr (Or.inl ⟨rfl, _, _, _, _, hml, rfl, hw, rfl, rfl⟩)))⟩
      · cases h
    · cases h
  · rename_i q hml
    split at h
    · split at h
      · rename_i hca hcd
        split at h
        · rename_i hw
          obtain ⟨rfl, rfl, rfl, rfl⟩ := ag_go_inj h
          exact ⟨rfl, rfl, Or.inr (Or.inr (Or.inl ⟨rfl, _, _, _, _, _, _, _, _, _, _, _, hml, rfl, hca, hcd, hw, rfl⟩))⟩
        · cases h
      · rename_i hca hcd
        split at h
        · rename_i hw
          obtain ⟨rfl, rfl, rfl, rfl⟩ := ag_go_inj h
          exact ⟨rfl, rfl, Or.inr (Or.inr (Or.inr (Or.inr ⟨rfl, _, _, _, _, _, _, _, _, _, _, _, hml, rfl, hca, hcd, hw, rfl⟩)))⟩
        · cases h
      · cases h
    · cases h
  · exfalso
    split at h
    · split at h
      · split at h
        · split at h
          · split at h
            · split at h
              · cases h
              · cases h
            · cases h
          · cases h
        · cases h
      · split at h
        · split at h
          · split at h
            · cases h
            · cases h
          · cases h
        · split at h
          · cases h
          · cases h
    · cases h

theorem ag_s_special (C : ag_cx G y p l R s m meth c) (hI : ag_in G s σ H locs) (hL : ag_lr (ag_f G) ls (ag_mx y) A) {idx : Nat} (hd : decode (ag_by y) pc = .ok (.invokespecial idx, 3)) (h : ag_ex y (.invokespecial idx) 3 pc ls st σ = some (Sum.inl (pc', (ls', (st', σ'))))) (kk : ag_Go p l e R s m args below meth c cells slots Q G y σ pc' ls' st' σ') : ag_At p l e R s m args below meth c H locs cells slots Q G pc A st := by
  obtain ⟨hG, hx, hb, hml, hr, hown, hlk, hnm, hW, hs0, hRf, hRl⟩ := C
  have h : ag_iv y idx 2 pc ls st σ = some (Sum.inl (pc', (ls', (st', σ')))) := h
  obtain ⟨rfl, rfl, h1⟩ := ag_iv_go h
  have hown9 : s.vm.findClass (ag_on (ag_ow y)) = some m.cls := by rw [ag_on_ok]; exact hown
  rcases h1 with ⟨-, n, kd, a, hm, rfl, hw, rfl⟩ | ⟨h1, -⟩ | ⟨h1, -⟩ | ⟨h1, -⟩ | ⟨h1, -⟩
  · have hz := ag_wt_map (ag_f G) st'
    exact W.objInit hx hb hown9 (ag_word hG hW (ag_cw0 (ag_cwf hm)) rfl args) (ag_word hG hW ag_w_oi rfl args) (ag_word hG hW ag_w_oc rfl args) rfl (by rw [hml]; exact hL.1) rfl hd (by omega) (by show 2 * 0 + _ + 12 ≤ _; rw [hz]; omega) (kk.same hI hL)
  · cases h1
  · cases h1
  · cases h1
  · cases h1

theorem ag_s_static (C : ag_cx G y p l R s m meth c) (hI : ag_in G s σ H locs) (hL : ag_lr (ag_f G) ls (ag_mx y) A) {idx : Nat} (hd : decode (ag_by y) pc = .ok (.invokestatic idx, 3)) (h : ag_ex y (.invokestatic idx) 3 pc ls st σ = some (Sum.inl (pc', (ls', (st', σ'))))) (hc1 : cells ≤ R.cells) (hc2 : slots ≤ R.slots) (kk : ag_Go p l e R s m args below meth c cells slots Q G y σ pc' ls' st' σ') : ag_At p l e R s m args below meth c H locs cells slots Q G pc A st := by
  obtain ⟨hG, hx, hb, hml, hr, hown, hlk, hnm, hW, hs0, hRf, hRl⟩ := C
  have h : ag_iv y idx 1 pc ls st σ = some (Sum.inl (pc', (ls', (st', σ')))) := h
  obtain ⟨rfl, rfl, h1⟩ := ag_iv_go h
  have hown9 : s.vm.findClass (ag_on (ag_ow y)) = some m.cls := by rw [ag_on_ok]; exact hown
  rcases h1 with ⟨h1, -⟩ | ⟨-, n, kd, a, b, st1, hm, rfl, ⟨hn2, hw⟩, rfl, rfl⟩ | ⟨-, w, kd, d, a, n0, n1, n, dp, sp, f, g, hm, rfl, hca, hcd, ⟨h1, h2, h3, h4, h5, h6, h7, h8⟩, rfl⟩ | ⟨-, n, kd, a, st1, hm, rfl, ⟨hn1, hw, hnn⟩, rfl, rfl⟩ | ⟨-, w, kd, d, a, n0, n1, n, dp, sp, f, g, hm, rfl, hca, hcd, ⟨h1, h2, h3, h4, h5, h6, h7, h8, hck⟩, rfl⟩
  · cases h1
  · have hz := ag_wt_map (ag_f G) st1
    refine va_mmax hx hb (by rw [hml]; exact hL.1.symm) hown9 (ag_word hG hW (ag_cw1 (ag_cwf hm) hn2) rfl args) (ag_word hG hW ag_w_ms rfl args) (ag_word hG hW ag_w_mi rfl args) (ag_word hG hW ag_w_mc rfl args) (by omega) (by rw [hz]; omega) ?_ ?_ hd ?_
    · exact hc1
    · exact hc2
    · have e9 : (if Int32.ofInt a < Int32.ofInt b then Int32.ofInt b else Int32.ofInt a) = Int32.ofInt (if ag_nm a < ag_nm b then b else a) := by
        by_cases hab : ag_nm a < ag_nm b
        · rw [if_pos hab, if_pos ((ag_lt_i a b).mpr hab)]
        · rw [if_neg hab, if_neg (fun q => hab ((ag_lt_i a b).mp q))]
      rw [e9]
      exact kk.same hI hL
  · have hz := ag_wt_map (ag_f G) st'
    have hneg : ∀ z : Int, 0 ≤ ag_nm z → ¬ Int32.ofInt z < 0 := fun z hz9 q => by
      have q2 : Int32.ofInt z < Int32.ofInt 0 := q
      rw [ag_lt_i, ag_nm_z] at q2
      omega
    have hda : d ≠ 0 := by omega
    have hnw : nativeFrameWords "java/lang/System" "arraycopy" 5 ≤ 60 := by decide +kernel
    have hP0 := (ag_at_pos (hI.1.2.2 _ _ hca) (show a ≠ 0 by omega)).1 0 _ rfl
    have hP1 := (ag_at_pos (hI.1.2.2 _ _ hcd) hda).1 0 _ rfl
    refine ag_copy hx hb (by rw [hml]; exact hL.1.symm) hown9 (ag_word hG hW (ag_cw2 (ag_cwf hm)) rfl args) (ag_word hG hW ag_w_cn rfl args) (ag_word hG hW ag_w_cs rfl args) (ag_word hG hW ag_w_ci rfl args) (((ag_K hG hW).2 0 _ rfl).1) hP0 hP1 (hneg _ h1) (hneg _ h2) (hneg _ h3)
      (by show (ag_nm sp).toNat + (ag_nm n).toNat ≤ n0; omega) (by show (ag_nm dp).toNat + (ag_nm n).toNat ≤ n1; omega) (by omega) (by rw [hz]; omega) hd fun H1 locs1 e1 z1 o1 hl1 => ?_
    have h9 := ag_in_set (k := 0) (c1 := Sum.inl (n1, va_cpy f g (ag_nm sp).toNat (ag_nm dp).toNat (ag_nm n).toNat)) hG.2.2.1 hI hda hcd z1 o1 ?_ trivial
    · have h10 := kk H1 locs1 A ⟨h9.1, h9.2.1, fun z hz9 => ?_⟩ hL
      · dsimp only at h10
        rw [Nat.sub_self, Nat.sub_self, Nat.add_zero, Nat.add_zero] at h10
        exact h10
      · rcases hl1 z hz9 with q | q
        · exact hI.2.2 z q
        · rw [q, ag_f_pos hda]; omega
    · show H1[ag_f G d]? = some (vp_cell _ _)
      rw [e1]
      show some (vp_cell _ (n1, .inl (va_cpy (fun i => Int32.ofInt (f i)) (fun i => Int32.ofInt (g i)) (ag_nm sp).toNat (ag_nm dp).toNat (ag_nm n).toNat))) = _
      rw [ag_cpy_i]
  · have hz := ag_wt_map (ag_f G) st1
    exact ag_absd hx hb (by rw [hml]; exact hL.1.symm) hown9 (ag_word hG hW (ag_cw3 (ag_cwf hm) hn1) rfl args) (ag_word hG hW ag_w_as rfl args) (ag_word hG hW ag_w_mi rfl args) (ag_word hG hW ag_w_ab rfl args) (by omega) (by rw [hz]; omega) hc1 hc2 (of_decide_eq_true (p := _ ≤ _) hnn) hd (kk.same hI hL)
  · have hz := ag_wt_map (ag_f G) st'
    have hneg : ∀ z : Int, 0 ≤ ag_nm z → ¬ Int32.ofInt z < 0 := fun z hz9 q => by
      have q2 : Int32.ofInt z < Int32.ofInt 0 := q
      rw [ag_lt_i, ag_nm_z] at q2
      omega
    have hda : d ≠ 0 := by omega
    have hnw : nativeFrameWords "java/lang/System" "arraycopy" 5 ≤ 60 := by decide +kernel
    have hP0 := (ag_at_pos (hI.1.2.2 _ _ hca) (show a ≠ 0 by omega)).1 0 _ rfl
    have hP1 := (ag_at_pos (hI.1.2.2 _ _ hcd) hda).1 0 _ rfl
    obtain ⟨kA, hkA, hkind⟩ := hG.2.2.2
    obtain ⟨k', hk', he'⟩ := hW.alike.2.2 _ _ hkA
    have hci : s.vm.findClass ("[" ++ FieldType.int.toString) = some (G.2.2.2 0) := ((ag_K hG hW).2 0 _ rfl).2
    obtain ⟨kI, hkI, -⟩ := Vm.findClass_spec hci
    have hkind' : k'.kind = .array (G.2.2.2 0) (.array .int) := by rw [he']; exact hkind
    have hel : ∀ i : Nat, i < (Int32.ofInt n).toNatClampNeg → ∃ (y : Nat) (cellV : Cell), (f ((Int32.ofInt sp).toNatClampNeg + i)).map (ag_f G) = some y ∧ H[y]? = some cellV ∧ cellV.vm.isStatics = false ∧ cellV.cls = G.2.2.2 0 := by
      intro i hi
      have h9 := List.all_eq_true.mp hck i (List.mem_range.mpr hi)
      have h9 : (match f ((Int32.ofInt sp).toNatClampNeg + i) with
        | none => false
        | some b => decide (1 ≤ b) && (match σ.1 b with
          | some (.inl _) => true
          | _ => false)) = true := h9
      cases hf : f ((Int32.ofInt sp).toNatClampNeg + i) with
      | none => rw [hf] at h9; cases h9
      | some b =>
        rw [hf] at h9
        simp only [Bool.and_eq_true, decide_eq_true_eq] at h9
        obtain ⟨hb1, h9⟩ := h9
        split at h9
        · rename_i w hw9
          obtain ⟨nv, gv⟩ := w
          exact ⟨ag_f G b, arrV (G.2.2.2 0) nv (fun j => .int (Int32.ofInt (gv j))), rfl, (ag_at_pos (hI.1.2.2 _ _ hw9) (show b ≠ 0 by omega)).1 0 _ rfl, rfl, rfl⟩
        · cases h9
    refine ag_copyq (cI := G.2.2.2 0) hx hb (by rw [hml]; exact hL.1.symm) hown9 (ag_word hG hW (ag_cw2 (ag_cwf hm)) rfl args) (ag_word hG hW ag_w_cn rfl args) (ag_word hG hW ag_w_cs rfl args) (ag_word hG hW ag_w_ci rfl args) (((ag_K hG hW).2 1 _ rfl).1) hk' hkind' ⟨kI, hkI⟩ hP0 hP1 (hneg _ h1) (hneg _ h2) (hneg _ h3)
      (by show (ag_nm sp).toNat + (ag_nm n).toNat ≤ n0; omega) (by show (ag_nm dp).toNat + (ag_nm n).toNat ≤ n1; omega) hel (by omega) (by rw [hz]; omega) hd fun H1 locs1 e1 z1 o1 hl1 => ?_
    have h9 := ag_in_set (k := 0) (c1 := Sum.inr (Sum.inr (Sum.inl (n1, va_cpy f g (ag_nm sp).toNat (ag_nm dp).toNat (ag_nm n).toNat)))) hG.2.2.1 hI hda hcd z1 o1 ?_ trivial
    · have h10 := kk H1 locs1 A ⟨h9.1, h9.2.1, fun z hz9 => ?_⟩ hL
      · dsimp only at h10
        rw [Nat.sub_self, Nat.sub_self, Nat.add_zero, Nat.add_zero] at h10
        exact h10
      · rcases hl1 z hz9 with q | q
        · exact hI.2.2 z q
        · rw [q, ag_f_pos hda]; omega
    · show H1[ag_f G d]? = some (vp_cell _ _)
      rw [e1]
      show some (vp_cell _ (n1, .inr (.inr (.inr (.inr (va_cpy (fun i => (f i).map (ag_f G)) (fun i => (g i).map (ag_f G)) (ag_nm sp).toNat (ag_nm dp).toNat (ag_nm n).toNat)))))) = _
      rw [ag_cpy_q]

end AGZ4
