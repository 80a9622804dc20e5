/-! THE SMALL MACHINE, AN INSTRUCTION AT A TIME: what 'ag_wp' is at an instruction. -/
def ag_cl9 (y : Nat) (as : List ag_V) (σ : ag_S) (K : ag_Rs → ag_S → Prop) : Prop := ag_wp y 0 (ag_en y as) [] σ K
def ag_gf (σ : ag_S) (a ci k : Nat) (K : ag_V → Prop) : Prop := match σ.1 a with
  | some (.inr (.inr (.inr (c, fs)))) => c = ci ∧ (match fs[k]? with
    | some v => K v
    | none => False)
  | _ => False
def ag_pf (σ : ag_S) (a ci k : Nat) (v : ag_V) (K : ag_S → Prop) : Prop := match σ.1 a with
  | some (.inr (.inr (.inr (c, fs)))) => (c = ci ∧ k < fs.length ∧ 1 ≤ a) ∧ K (ag_up σ.1 a (Sum.inr (Sum.inr (Sum.inr (ci, fs.set k v)))), σ.2)
  | _ => False
def ag_al9 (σ : ag_S) (a : Nat) (K : Int → Prop) : Prop := match σ.1 a with
  | some (.inl (n, _)) => K n
  | some (.inr (.inr (.inl (n, _)))) => K n
  | _ => False
def ag_ia (σ : ag_S) (a : Nat) (i : Int) (K : Int → Prop) : Prop := match σ.1 a with
  | some (.inl (n, g)) => (0 ≤ ag_nm i ∧ ag_nm i < n) ∧ K (g (ag_nm i).toNat)
  | _ => False
def ag_qa (σ : ag_S) (a : Nat) (i : Int) (K : Nat → Prop) : Prop := match σ.1 a with
  | some (.inr (.inr (.inl (n, g)))) => (0 ≤ ag_nm i ∧ ag_nm i < n) ∧ (match g (ag_nm i).toNat with
    | some b => K b
    | none => False)
  | _ => False
def ag_is (σ : ag_S) (a : Nat) (i x : Int) (K : ag_S → Prop) : Prop := match σ.1 a with
  | some (.inl (n, g)) => (0 ≤ ag_nm i ∧ ag_nm i < n ∧ 1 ≤ a) ∧ K (ag_up σ.1 a (Sum.inl (n, ag_ui g (ag_nm i).toNat x)), σ.2)
  | _ => False
def ag_qs (σ : ag_S) (a : Nat) (i : Int) (v : Nat) (K : ag_S → Prop) : Prop := match σ.1 a with
  | some (.inr (.inr (.inl (n, g)))) => (match σ.1 v with
    | some (.inl _) => (0 ≤ ag_nm i ∧ ag_nm i < n ∧ 1 ≤ a ∧ 1 ≤ v) ∧ K (ag_up σ.1 a (Sum.inr (Sum.inr (Sum.inl (n, ag_uq g (ag_nm i).toNat (some v))))), σ.2)
    | _ => False)
  | _ => False
def ag_cp (σ : ag_S) (a : Nat) (sp : Int) (d : Nat) (dp n : Int) (K : ag_S → Prop) : Prop := match σ.1 a with
  | some (.inl (n0, f)) => (match σ.1 d with
    | some (.inl (n1, g)) => (0 ≤ ag_nm sp ∧ 0 ≤ ag_nm dp ∧ 0 ≤ ag_nm n ∧ ag_nm sp + ag_nm n ≤ n0 ∧ ag_nm dp + ag_nm n ≤ n1 ∧ 1 ≤ d ∧ 1 ≤ a) ∧ K (ag_up σ.1 d (Sum.inl (n1, va_cpy f g (ag_nm sp).toNat (ag_nm dp).toNat (ag_nm n).toNat)), σ.2)
    | _ => False)
  | some (.inr (.inr (.inl (n0, f)))) => (match σ.1 d with
    | some (.inr (.inr (.inl (n1, g)))) => (0 ≤ ag_nm sp ∧ 0 ≤ ag_nm dp ∧ 0 ≤ ag_nm n ∧ ag_nm sp + ag_nm n ≤ n0 ∧ ag_nm dp + ag_nm n ≤ n1 ∧ 1 ≤ d ∧ 1 ≤ a ∧ ag_cpk σ f (ag_nm sp).toNat (ag_nm n).toNat = true) ∧ K (ag_up σ.1 d (Sum.inr (Sum.inr (Sum.inl (n1, va_cpy f g (ag_nm sp).toNat (ag_nm dp).toNat (ag_nm n).toNat)))), σ.2)
    | _ => False)
  | _ => False
def ag_ck (σ : ag_S) (a ci : Nat) (P : Prop) : Prop := match σ.1 a with
  | some (.inr (.inr (.inr (c, _)))) => c = ci ∧ P
  | _ => False
theorem ag_kk_v (y pc : Nat) (ls : ag_Ls) (rest : List ag_V) (Q : ag_Rs → ag_S → Prop) (v : ag_V) (σ : ag_S) : ag_kk y pc ls rest Q (Sum.inl (some v)) σ = ag_wp y (pc + 3) ls (v :: rest) σ Q := rfl
theorem ag_kk_n (y pc : Nat) (ls : ag_Ls) (rest : List ag_V) (Q : ag_Rs → ag_S → Prop) (σ : ag_S) : ag_kk y pc ls rest Q (Sum.inl none) σ = ag_wp y (pc + 3) ls rest σ Q := rfl
theorem ag_kk_x {y pc E pc' k : Nat} {ls : ag_Ls} {rest : List ag_V} {Q : ag_Rs → ag_S → Prop} {σ : ag_S} (h : ag_hd y E = some (pc', k)) (hp : pc = ag_hp y) (ho : ag_ok ls k = true) : ag_kk y pc ls rest Q (Sum.inr E) σ = ag_wp y pc' (ls.set k none) [] σ Q := by
  unfold ag_kk
  dsimp only
  rw [h]
  exact propext ⟨fun q => q.2, fun q => ⟨⟨hp, ho⟩, q⟩⟩
section AGI
variable {y pc len : Nat} {i : Instr} {ls ls' : ag_Ls} {st st' : List ag_V} {σ σ' : ag_S} {Q : ag_Rs → ag_S → Prop} {pc' : Nat}
theorem ag_x_sp (hth : ag_th y pc = none) (hd : decode (ag_by y) pc = .ok (i, len)) (hl : len = ag_ln i len) : ag_sp y pc ls st σ = ag_ex y i len pc ls st σ := by
  unfold ag_sp
  rw [hth, hd]
  dsimp only
  rw [if_pos hl]
theorem ag_x_go (hth : ag_th y pc = none) (hd : decode (ag_by y) pc = .ok (i, len)) (hl : len = ag_ln i len) (he : ag_ex y i len pc ls st σ = ag_go pc' ls' st' σ') : ag_wp y pc ls st σ Q = ag_wp y pc' ls' st' σ' Q := ag_wp_go ((ag_x_sp hth hd hl).trans he)
theorem ag_x_dn {r : ag_Rs} (hth : ag_th y pc = none) (hd : decode (ag_by y) pc = .ok (i, len)) (hl : len = ag_ln i len) (he : ag_ex y i len pc ls st σ = ag_dn r σ') : ag_wp y pc ls st σ Q = Q r σ' := ag_wp_dn ((ag_x_sp hth hd hl).trans he)
theorem ag_x_th {E : Nat} (hth : ag_th y pc = some E) : ag_sp y pc ls [] σ = ag_dn (Sum.inr E) (σ.1, (σ.2.1 + 1, σ.2.2 + 6)) := by
  unfold ag_sp
  rw [hth]
theorem ag_x_br {c : Prop} [Decidable c] {off : Int} {t : Nat} (hth : ag_th y pc = none) (hd : decode (ag_by y) pc = .ok (i, len)) (hl : len = ag_ln i len) (he : ag_ex y i len pc ls st σ = ag_br c pc off ls st' σ) (h0 : 0 ≤ (pc : Int) + off) (ht : ((pc : Int) + off).toNat = t) :
    ag_wp y pc ls st σ Q = if c then ag_wp y t ls st' σ Q else ag_wp y (pc + 3) ls st' σ Q := by
  have h1 := (ag_x_sp (ls := ls) (st := st) (σ := σ) hth hd hl).trans he
  unfold ag_br at h1
  rw [if_pos h0] at h1
  subst ht
  by_cases hc : c
  · rw [if_pos hc] at h1 ⊢
    exact ag_wp_go h1
  · rw [if_neg hc] at h1 ⊢
    exact ag_wp_go h1
theorem ag_x_cg {c : Prop} [Decidable c] (hth : ag_th y pc = none) (hd : decode (ag_by y) pc = .ok (i, len)) (hl : len = ag_ln i len) (he : ag_ex y i len pc ls st σ = if c then ag_go pc' ls' st' σ' else none) : ag_wp y pc ls st σ Q = (c ∧ ag_wp y pc' ls' st' σ' Q) := by
  have h1 := (ag_x_sp (ls := ls) (st := st) (σ := σ) hth hd hl).trans he
  by_cases hc : c
  · rw [if_pos hc] at h1
    rw [ag_wp_go h1]
    exact propext ⟨fun h => ⟨hc, h⟩, fun h => h.2⟩
  · rw [if_neg hc] at h1
    rw [ag_wp_no h1]
    exact propext ⟨fun h => h.elim, fun h => hc h.1⟩
theorem ag_x_cn {c : Prop} [Decidable c] (hth : ag_th y pc = none) (hd : decode (ag_by y) pc = .ok (i, len)) (hl : len = ag_ln i len) (he : ag_ex y i len pc ls st σ = if c then none else ag_go pc' ls' st' σ') : ag_wp y pc ls st σ Q = (¬ c ∧ ag_wp y pc' ls' st' σ' Q) := by
  have h1 := (ag_x_sp (ls := ls) (st := st) (σ := σ) hth hd hl).trans he
  by_cases hc : c
  · rw [if_pos hc] at h1
    rw [ag_wp_no h1]
    exact propext ⟨fun h => h.elim, fun h => h.1 hc⟩
  · rw [if_neg hc] at h1
    rw [ag_wp_go h1]
    exact propext ⟨fun h => ⟨hc, h⟩, fun h => h.2⟩
theorem ag_x_rz {c : Prop} [Decidable c] {r : ag_Rs} (hth : ag_th y pc = none) (hd : decode (ag_by y) pc = .ok (i, len)) (hl : len = ag_ln i len) (he : ag_ex y i len pc ls st σ = if c then ag_dn r σ' else none) : ag_wp y pc ls st σ Q = (c ∧ Q r σ') := by
  have h1 := (ag_x_sp (ls := ls) (st := st) (σ := σ) hth hd hl).trans he
  by_cases hc : c
  · rw [if_pos hc] at h1
    rw [ag_wp_dn h1]
    exact propext ⟨fun h => ⟨hc, h⟩, fun h => h.2⟩
  · rw [if_neg hc] at h1
    rw [ag_wp_no h1]
    exact propext ⟨fun h => h.elim, fun h => hc h.1⟩
theorem ag_x_td {df lo hi : Int} {offs : Array Int} {x : Int} {t : Nat} (hth : ag_th y pc = none) (hd : decode (ag_by y) pc = .ok (i, len)) (hl : len = ag_ln i len) (he : i = .tableswitch df lo hi offs) (h : ag_nm x < lo ∨ hi < ag_nm x) (h0 : 0 ≤ (pc : Int) + df) (ht : ((pc : Int) + df).toNat = t) : ag_wp y pc ls (ag_I x :: st) σ Q = ag_wp y t ls st σ Q := by
  subst he
  refine ag_wp_go ((ag_x_sp hth hd hl).trans ?_)
  show (if ag_nm x < lo ∨ hi < ag_nm x then ag_tg pc df ls st σ else _) = _
  rw [if_pos h]
  unfold ag_tg
  rw [if_pos h0, ht]
theorem ag_x_ti {df lo hi off v : Int} {offs : Array Int} {x : Int} {t : Nat} (hth : ag_th y pc = none) (hd : decode (ag_by y) pc = .ok (i, len)) (hl : len = ag_ln i len) (he : i = .tableswitch df lo hi offs) (h : ag_nm x = v) (hv : ¬ (v < lo ∨ hi < v)) (ho : offs[(v - lo).toNat]? = some off) (h0 : 0 ≤ (pc : Int) + off) (ht : ((pc : Int) + off).toNat = t) : ag_wp y pc ls (ag_I x :: st) σ Q = ag_wp y t ls st σ Q := by
  subst he
  refine ag_wp_go ((ag_x_sp hth hd hl).trans ?_)
  show (if ag_nm x < lo ∨ hi < ag_nm x then ag_tg pc df ls st σ else (match offs[(ag_nm x - lo).toNat]? with
    | some off => ag_tg pc off ls st σ
    | none => none)) = _
  rw [h, if_neg hv, ho]
  dsimp only
  unfold ag_tg
  rw [if_pos h0, ht]
theorem ag_x_gf {idx a ci k : Nat} (hth : ag_th y pc = none) (hd : decode (ag_by y) pc = .ok (i, len)) (hl : len = ag_ln i len) (he : i = .getfield idx) (hf : ag_fl (ag_ow y) idx = some (ci, k)) : ag_wp y pc ls (ag_R a :: st) σ Q = ag_gf σ a ci k (fun v => ag_wp y (pc + 3) ls (v :: st) σ Q) := by
  subst he
  have hl : len = 3 := hl
  subst hl
  have h1 := ag_x_sp (ls := ls) (st := ag_R a :: st) (σ := σ) hth hd rfl
  unfold ag_ex at h1
  dsimp only at h1
  rw [hf] at h1
  unfold ag_gf
  cases hc : σ.1 a with
  | none => rw [hc] at h1; exact ag_wp_no h1
  | some c =>
    rw [hc] at h1
    rcases c with c | c | c | ⟨c, fs⟩
    · exact ag_wp_no h1
    · exact ag_wp_no h1
    · exact ag_wp_no h1
    · dsimp only at h1 ⊢
      by_cases h2 : c = ci
      · rw [if_pos h2] at h1
        cases hk : fs[k]? with
        | none => rw [hk] at h1; rw [ag_wp_no h1]; exact propext ⟨fun h => h.elim, fun h => h.2⟩
        | some v =>
          rw [hk] at h1
          rw [ag_wp_go h1]
          exact propext ⟨fun h => ⟨h2, h⟩, fun h => h.2⟩
      · rw [if_neg h2] at h1
        rw [ag_wp_no h1]
        exact propext ⟨fun h => h.elim, fun h => h2 h.1⟩
theorem ag_x_pf {idx a ci k : Nat} {v : ag_V} (hth : ag_th y pc = none) (hd : decode (ag_by y) pc = .ok (i, len)) (hl : len = ag_ln i len) (he : i = .putfield idx) (hf : ag_fl (ag_ow y) idx = some (ci, k)) (hp : ag_fp y ci k v = true) : ag_wp y pc ls (v :: ag_R a :: st) σ Q = ag_pf σ a ci k v (fun σ => ag_wp y (pc + 3) ls st σ Q) := by
  subst he
  have hl : len = 3 := hl
  subst hl
  have h1 := ag_x_sp (ls := ls) (st := v :: ag_R a :: st) (σ := σ) hth hd rfl
  unfold ag_ex at h1
  dsimp only at h1
  rw [hf] at h1
  unfold ag_pf
  cases hc : σ.1 a with
  | none => rw [hc] at h1; exact ag_wp_no h1
  | some c =>
    rw [hc] at h1
    rcases c with c | c | c | ⟨c, fs⟩
    · exact ag_wp_no h1
    · exact ag_wp_no h1
    · exact ag_wp_no h1
    · dsimp only at h1 ⊢
      by_cases h2 : c = ci ∧ k < fs.length ∧ 1 ≤ a
      · rw [if_pos ⟨h2.1, h2.2.1, h2.2.2, hp⟩] at h1
        rw [ag_wp_go h1]
        exact propext ⟨fun h => ⟨h2, h⟩, fun h => h.2⟩
      · rw [if_neg (fun q => h2 ⟨q.1, q.2.1, q.2.2.1⟩)] at h1
        rw [ag_wp_no h1]
        exact propext ⟨fun h => h.elim, fun h => h2 h.1⟩
theorem ag_x_al {a : Nat} (hth : ag_th y pc = none) (hd : decode (ag_by y) pc = .ok (i, len)) (hl : len = ag_ln i len) (he : i = .arraylength) : ag_wp y pc ls (ag_R a :: st) σ Q = ag_al9 σ a (fun x => ag_wp y (pc + 1) ls (ag_I x :: st) σ Q) := by
  subst he
  have hl : len = 1 := hl
  subst hl
  have h1 := ag_x_sp (ls := ls) (st := ag_R a :: st) (σ := σ) hth hd rfl
  unfold ag_ex at h1
  dsimp only at h1
  unfold ag_al9
  cases hc : σ.1 a with
  | none => rw [hc] at h1; exact ag_wp_no h1
  | some c =>
    rw [hc] at h1
    rcases c with c | c | c | c
    · exact ag_wp_go h1
    · exact ag_wp_no h1
    · exact ag_wp_go h1
    · exact ag_wp_no h1
theorem ag_x_ia {a : Nat} {x : Int} (hth : ag_th y pc = none) (hd : decode (ag_by y) pc = .ok (i, len)) (hl : len = ag_ln i len) (he : i = .iaload) : ag_wp y pc ls (ag_I x :: ag_R a :: st) σ Q = ag_ia σ a x (fun x => ag_wp y (pc + 1) ls (ag_I x :: st) σ Q) := by
  subst he
  have hl : len = 1 := hl
  subst hl
  have h1 := ag_x_sp (ls := ls) (st := ag_I x :: ag_R a :: st) (σ := σ) hth hd rfl
  unfold ag_ex at h1
  dsimp only at h1
  unfold ag_ia
  cases hc : σ.1 a with
  | none => rw [hc] at h1; exact ag_wp_no h1
  | some c =>
    rw [hc] at h1
    rcases c with ⟨n, g⟩ | c | c | c
    · dsimp only at h1 ⊢
      by_cases h2 : 0 ≤ ag_nm x ∧ ag_nm x < n
      · rw [if_pos h2] at h1
        rw [ag_wp_go h1]
        exact propext ⟨fun h => ⟨h2, h⟩, fun h => h.2⟩
      · rw [if_neg h2] at h1
        rw [ag_wp_no h1]
        exact propext ⟨fun h => h.elim, fun h => h2 h.1⟩
    · exact ag_wp_no h1
    · exact ag_wp_no h1
    · exact ag_wp_no h1
theorem ag_x_qa {a : Nat} {x : Int} (hth : ag_th y pc = none) (hd : decode (ag_by y) pc = .ok (i, len)) (hl : len = ag_ln i len) (he : i = .aaload) : ag_wp y pc ls (ag_I x :: ag_R a :: st) σ Q = ag_qa σ a x (fun b => ag_wp y (pc + 1) ls (ag_R b :: st) σ Q) := by
  subst he
  have hl : len = 1 := hl
  subst hl
  have h1 := ag_x_sp (ls := ls) (st := ag_I x :: ag_R a :: st) (σ := σ) hth hd rfl
  unfold ag_ex at h1
  dsimp only at h1
  unfold ag_qa
  cases hc : σ.1 a with
  | none => rw [hc] at h1; exact ag_wp_no h1
  | some c =>
    rw [hc] at h1
    rcases c with c | c | ⟨n, g⟩ | c
    · exact ag_wp_no h1
    · exact ag_wp_no h1
    · dsimp only at h1 ⊢
      by_cases h2 : 0 ≤ ag_nm x ∧ ag_nm x < n
      · rw [if_pos h2] at h1
        cases hg : g (ag_nm x).toNat with
        | none => rw [hg] at h1; rw [ag_wp_no h1]; exact propext ⟨fun h => h.elim, fun h => h.2⟩
        | some b =>
          rw [hg] at h1
          rw [ag_wp_go h1]
          exact propext ⟨fun h => ⟨h2, h⟩, fun h => h.2⟩
      · rw [if_neg h2] at h1
        rw [ag_wp_no h1]
        exact propext ⟨fun h => h.elim, fun h => h2 h.1⟩
    · exact ag_wp_no h1
theorem ag_x_is {a : Nat} {x v : Int} (hth : ag_th y pc = none) (hd : decode (ag_by y) pc = .ok (i, len)) (hl : len = ag_ln i len) (he : i = .iastore) : ag_wp y pc ls (ag_I v :: ag_I x :: ag_R a :: st) σ Q = ag_is σ a x v (fun σ => ag_wp y (pc + 1) ls st σ Q) := by
  subst he
  have hl : len = 1 := hl
  subst hl
  have h1 := ag_x_sp (ls := ls) (st := ag_I v :: ag_I x :: ag_R a :: st) (σ := σ) hth hd rfl
  unfold ag_ex at h1
  dsimp only at h1
  unfold ag_is
  cases hc : σ.1 a with
  | none => rw [hc] at h1; exact ag_wp_no h1
  | some c =>
    rw [hc] at h1
    rcases c with ⟨n, g⟩ | c | c | c
    · dsimp only at h1 ⊢
      by_cases h2 : 0 ≤ ag_nm x ∧ ag_nm x < n ∧ 1 ≤ a
      · rw [if_pos h2] at h1
        rw [ag_wp_go h1]
        exact propext ⟨fun h => ⟨h2, h⟩, fun h => h.2⟩
      · rw [if_neg h2] at h1
        rw [ag_wp_no h1]
        exact propext ⟨fun h => h.elim, fun h => h2 h.1⟩
    · exact ag_wp_no h1
    · exact ag_wp_no h1
    · exact ag_wp_no h1
theorem ag_x_qs {a v : Nat} {x : Int} (hth : ag_th y pc = none) (hd : decode (ag_by y) pc = .ok (i, len)) (hl : len = ag_ln i len) (he : i = .aastore) : ag_wp y pc ls (ag_R v :: ag_I x :: ag_R a :: st) σ Q = ag_qs σ a x v (fun σ => ag_wp y (pc + 1) ls st σ Q) := by
  subst he
  have hl : len = 1 := hl
  subst hl
  have h1 := ag_x_sp (ls := ls) (st := ag_R v :: ag_I x :: ag_R a :: st) (σ := σ) hth hd rfl
  unfold ag_ex at h1
  dsimp only at h1
  unfold ag_qs
  cases hc : σ.1 a with
  | none => rw [hc] at h1; exact ag_wp_no h1
  | some c =>
    rw [hc] at h1
    rcases c with c | c | ⟨n, g⟩ | c
    · exact ag_wp_no h1
    · exact ag_wp_no h1
    · dsimp only at h1 ⊢
      cases hv : σ.1 v with
      | none => rw [hv] at h1; exact ag_wp_no h1
      | some w =>
        rw [hv] at h1
        rcases w with w | w | w | w
        · dsimp only at h1 ⊢
          by_cases h2 : 0 ≤ ag_nm x ∧ ag_nm x < n ∧ 1 ≤ a ∧ 1 ≤ v
          · rw [if_pos h2] at h1
            rw [ag_wp_go h1]
            exact propext ⟨fun h => ⟨h2, h⟩, fun h => h.2⟩
          · rw [if_neg h2] at h1
            rw [ag_wp_no h1]
            exact propext ⟨fun h => h.elim, fun h => h2 h.1⟩
        · exact ag_wp_no h1
        · exact ag_wp_no h1
        · exact ag_wp_no h1
    · exact ag_wp_no h1
theorem ag_x_an {idx : Nat} {x : Int} (hth : ag_th y pc = none) (hd : decode (ag_by y) pc = .ok (i, len)) (hl : len = ag_ln i len) (he : i = .anewarray idx) (ha : ag_al (ag_ow y) idx = true) : ag_wp y pc ls (ag_I x :: st) σ Q = ((0 ≤ ag_nm x ∧ ag_nm x ≤ 1000000) ∧ ag_wp y (pc + 3) ls (ag_R (σ.2.1 + 1) :: st) (ag_up σ.1 (σ.2.1 + 1) (Sum.inr (Sum.inr (Sum.inl ((ag_nm x).toNat, fun _ => none)))), (σ.2.1 + 1, σ.2.2 + (ag_nm x).toNat)) Q) := by
  subst he
  have hl : len = 3 := hl
  subst hl
  have h1 := ag_x_sp (ls := ls) (st := ag_I x :: st) (σ := σ) hth hd rfl
  unfold ag_ex at h1
  dsimp only at h1
  by_cases h2 : 0 ≤ ag_nm x ∧ ag_nm x ≤ 1000000
  · rw [if_pos ⟨h2.1, h2.2, ha⟩] at h1
    rw [ag_wp_go h1]
    exact propext ⟨fun h => ⟨h2, h⟩, fun h => h.2⟩
  · rw [if_neg (fun q => h2 ⟨q.1, q.2.1⟩)] at h1
    rw [ag_wp_no h1]
    exact propext ⟨fun h => h.elim, fun h => h2 h.1⟩
theorem ag_iv_cp {idx : Nat} {a d : Nat} {sp dp n : Int} (hm : ag_ml y idx = some (2, (5, 7))) : ag_iv y idx 1 pc ls (ag_I n :: ag_I dp :: ag_R d :: ag_I sp :: ag_R a :: st) σ = match σ.1 a, σ.1 d with
      | some (.inl (n0, f)), some (.inl (n1, g)) =>
        if 0 ≤ ag_nm sp ∧ 0 ≤ ag_nm dp ∧ 0 ≤ ag_nm n ∧ ag_nm sp + ag_nm n ≤ n0 ∧ ag_nm dp + ag_nm n ≤ n1 ∧ 1 ≤ d ∧ 1 ≤ a ∧ ag_wt st ≤ 8 then
          ag_go (pc + 3) ls st (ag_up σ.1 d (Sum.inl (n1, va_cpy f g (ag_nm sp).toNat (ag_nm dp).toNat (ag_nm n).toNat)), σ.2)
        else none
      | some (.inr (.inr (.inl (n0, f)))), some (.inr (.inr (.inl (n1, g)))) =>
        if 0 ≤ ag_nm sp ∧ 0 ≤ ag_nm dp ∧ 0 ≤ ag_nm n ∧ ag_nm sp + ag_nm n ≤ n0 ∧ ag_nm dp + ag_nm n ≤ n1 ∧ 1 ≤ d ∧ 1 ≤ a ∧ ag_wt st ≤ 8 ∧ ag_cpk σ f (ag_nm sp).toNat (ag_nm n).toNat = true then
          ag_go (pc + 3) ls st (ag_up σ.1 d (Sum.inr (Sum.inr (Sum.inl (n1, va_cpy f g (ag_nm sp).toNat (ag_nm dp).toNat (ag_nm n).toNat)))), σ.2)
        else none
      | _, _ => none := by
  unfold ag_iv
  rw [hm]
  rfl
theorem ag_x_cp {idx : Nat} {a d : Nat} {sp dp n : Int} (hth : ag_th y pc = none) (hd : decode (ag_by y) pc = .ok (i, len)) (hl : len = ag_ln i len) (he : i = .invokestatic idx ∧ ag_ml y idx = some (2, (5, 7)) ∧ ag_wt st ≤ 8) : ag_wp y pc ls (ag_I n :: ag_I dp :: ag_R d :: ag_I sp :: ag_R a :: st) σ Q = ag_cp σ a sp d dp n (fun σ => ag_wp y (pc + 3) ls st σ Q) := by
  obtain ⟨he, hm, hw⟩ := he
  subst he
  have hl : len = 3 := hl
  subst hl
  have h1 : ag_sp y pc ls (ag_I n :: ag_I dp :: ag_R d :: ag_I sp :: ag_R a :: st) σ = ag_iv y idx 1 pc ls (ag_I n :: ag_I dp :: ag_R d :: ag_I sp :: ag_R a :: st) σ := ag_x_sp hth hd rfl
  rw [ag_iv_cp hm] at h1
  unfold ag_cp
  cases hc : σ.1 a with
  | none => rw [hc] at h1; exact ag_wp_no h1
  | some c =>
    rw [hc] at h1
    rcases c with ⟨n0, f⟩ | c | c | c
    · dsimp only at h1 ⊢
      cases hv : σ.1 d with
      | none => rw [hv] at h1; exact ag_wp_no h1
      | some w =>
        rw [hv] at h1
        rcases w with ⟨n1, g⟩ | w | w | w
        · dsimp only at h1 ⊢
          by_cases h2 : 0 ≤ ag_nm sp ∧ 0 ≤ ag_nm dp ∧ 0 ≤ ag_nm n ∧ ag_nm sp + ag_nm n ≤ n0 ∧ ag_nm dp + ag_nm n ≤ n1 ∧ 1 ≤ d ∧ 1 ≤ a
          · rw [if_pos ⟨h2.1, h2.2.1, h2.2.2.1, h2.2.2.2.1, h2.2.2.2.2.1, h2.2.2.2.2.2.1, h2.2.2.2.2.2.2, hw⟩] at h1
            rw [ag_wp_go h1]
            exact propext ⟨fun h => ⟨h2, h⟩, fun h => h.2⟩
          · rw [if_neg (fun q => h2 ⟨q.1, q.2.1, q.2.2.1, q.2.2.2.1, q.2.2.2.2.1, q.2.2.2.2.2.1, q.2.2.2.2.2.2.1⟩)] at h1
            rw [ag_wp_no h1]
            exact propext ⟨fun h => h.elim, fun h => h2 h.1⟩
        · exact ag_wp_no h1
        · exact ag_wp_no h1
        · exact ag_wp_no h1
    · exact ag_wp_no h1
    · obtain ⟨n0, f⟩ := c
      dsimp only at h1 ⊢
      cases hv : σ.1 d with
      | none => rw [hv] at h1; exact ag_wp_no h1
      | some w =>
        rw [hv] at h1
        rcases w with w | w | ⟨n1, g⟩ | w
        · exact ag_wp_no h1
        · exact ag_wp_no h1
        · dsimp only at h1 ⊢
          by_cases h2 : 0 ≤ ag_nm sp ∧ 0 ≤ ag_nm dp ∧ 0 ≤ ag_nm n ∧ ag_nm sp + ag_nm n ≤ n0 ∧ ag_nm dp + ag_nm n ≤ n1 ∧ 1 ≤ d ∧ 1 ≤ a ∧ ag_cpk σ f (ag_nm sp).toNat (ag_nm n).toNat = true
          · rw [if_pos ⟨h2.1, h2.2.1, h2.2.2.1, h2.2.2.2.1, h2.2.2.2.2.1, h2.2.2.2.2.2.1, h2.2.2.2.2.2.2.1, hw, h2.2.2.2.2.2.2.2⟩] at h1
            rw [ag_wp_go h1]
            exact propext ⟨fun h => ⟨h2, h⟩, fun h => h.2⟩
          · rw [if_neg (fun q => h2 ⟨q.1, q.2.1, q.2.2.1, q.2.2.2.1, q.2.2.2.2.1, q.2.2.2.2.2.1, q.2.2.2.2.2.2.1, q.2.2.2.2.2.2.2.2⟩)] at h1
            rw [ag_wp_no h1]
            exact propext ⟨fun h => h.elim, fun h => h2 h.1⟩
        · exact ag_wp_no h1
    · exact ag_wp_no h1
theorem ag_iv_eq {idx op t na kd : Nat} (hm : ag_ml y idx = some (t, (na, kd))) (h3 : 3 ≤ t) (hg : na ≤ st.length ∧ ag_wt (st.drop na) ≤ 8 ∧ ((st.take na).all (fun v => !ag_c2 v)) = true) : ag_iv y idx op pc ls st σ =
      (if kd = 0 ∨ kd = 9 then (if op = 0 then (match (st.take na).reverse with
          | .inr (.inr (.inr (some a))) :: _ => (match σ.1 a with
            | some (.inr (.inr (.inr (ci, _)))) => if ci = ag_ow t then some (Sum.inr (Sum.inr (t, ((st.take na).reverse, st.drop na)))) else none
            | _ => none)
          | _ => none) else none)
       else if kd = 3 ∨ kd = 4 then (if op = 2 then (match (st.take na).reverse with
          | .inr (.inr (.inr (some _))) :: _ => some (Sum.inr (Sum.inr (t, ((st.take na).reverse, st.drop na))))
          | _ => none) else none)
       else (if op = 1 then some (Sum.inr (Sum.inr (t, ((st.take na).reverse, st.drop na)))) else none)) := by
  unfold ag_iv
  rw [hm]
  split
  · rename_i h; cases h
  · rename_i h; cases h; omega
  · rename_i h; cases h; omega
  · rename_i h; cases h; omega
  · rename_i h
    cases h
    rw [if_pos hg]
    rfl
theorem ag_x_iv0 {idx t na kd a ci : Nat} {tl rest : List ag_V} (hth : ag_th y pc = none) (hd : decode (ag_by y) pc = .ok (i, len)) (hl : len = ag_ln i len) (he : i = .invokevirtual idx) (hm : ag_ml y idx = some (t, (na, kd))) (h3 : 3 ≤ t) (hk : kd = 0 ∨ kd = 9) (hg : na ≤ st.length ∧ ag_wt (st.drop na) ≤ 8 ∧ ((st.take na).all (fun v => !ag_c2 v)) = true)
    (hr : (st.take na).reverse = ag_R a :: tl) (hdr : st.drop na = rest) (ho : ag_ow t = ci) : ag_wp y pc ls st σ Q = ag_ck σ a ci (ag_cl9 t (ag_R a :: tl) σ (ag_kk y pc ls rest Q)) := by
  subst he
  have hl : len = 3 := hl
  subst hl
  have h1 : ag_sp y pc ls st σ = ag_iv y idx 0 pc ls st σ := ag_x_sp hth hd rfl
  rw [ag_iv_eq hm h3 hg, if_pos hk, if_pos rfl, hr, hdr] at h1
  dsimp only at h1
  unfold ag_ck
  cases hc : σ.1 a with
  | none => rw [hc] at h1; exact ag_wp_no h1
  | some c =>
    rw [hc] at h1
    rcases c with c | c | c | ⟨c, fs⟩
    · exact ag_wp_no h1
    · exact ag_wp_no h1
    · exact ag_wp_no h1
    · dsimp only at h1 ⊢
      rw [ho] at h1
      by_cases h2 : c = ci
      · rw [if_pos h2] at h1
        rw [ag_wp_iv h1]
        exact propext ⟨fun h => ⟨h2, h⟩, fun h => h.2⟩
      · rw [if_neg h2] at h1
        rw [ag_wp_no h1]
        exact propext ⟨fun h => h.elim, fun h => h2 h.1⟩
theorem ag_x_iv1 {idx t na kd : Nat} {as rest : List ag_V} (hth : ag_th y pc = none) (hd : decode (ag_by y) pc = .ok (i, len)) (hl : len = ag_ln i len) (he : i = .invokestatic idx) (hm : ag_ml y idx = some (t, (na, kd))) (h3 : 3 ≤ t) (hk : ¬ (kd = 0 ∨ kd = 9) ∧ ¬ (kd = 3 ∨ kd = 4)) (hg : na ≤ st.length ∧ ag_wt (st.drop na) ≤ 8 ∧ ((st.take na).all (fun v => !ag_c2 v)) = true)
    (hr : (st.take na).reverse = as) (hdr : st.drop na = rest) : ag_wp y pc ls st σ Q = ag_cl9 t as σ (ag_kk y pc ls rest Q) := by
  subst he
  have hl : len = 3 := hl
  subst hl
  have h1 : ag_sp y pc ls st σ = ag_iv y idx 1 pc ls st σ := ag_x_sp hth hd rfl
  rw [ag_iv_eq hm h3 hg, if_neg hk.1, if_neg hk.2, if_pos rfl, hr, hdr] at h1
  exact ag_wp_iv h1
theorem ag_x_iv2 {idx t na kd a : Nat} {tl rest : List ag_V} (hth : ag_th y pc = none) (hd : decode (ag_by y) pc = .ok (i, len)) (hl : len = ag_ln i len) (he : i = .invokespecial idx) (hm : ag_ml y idx = some (t, (na, kd))) (h3 : 3 ≤ t) (hk : ¬ (kd = 0 ∨ kd = 9) ∧ (kd = 3 ∨ kd = 4)) (hg : na ≤ st.length ∧ ag_wt (st.drop na) ≤ 8 ∧ ((st.take na).all (fun v => !ag_c2 v)) = true)
    (hr : (st.take na).reverse = ag_R a :: tl) (hdr : st.drop na = rest) : ag_wp y pc ls st σ Q = ag_cl9 t (ag_R a :: tl) σ (ag_kk y pc ls rest Q) := by
  subst he
  have hl : len = 3 := hl
  subst hl
  have h1 : ag_sp y pc ls st σ = ag_iv y idx 2 pc ls st σ := ag_x_sp hth hd rfl
  rw [ag_iv_eq hm h3 hg, if_neg hk.1, if_pos hk.2, if_pos rfl, hr, hdr] at h1
  exact ag_wp_iv h1
end AGI
