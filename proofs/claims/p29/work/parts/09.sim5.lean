/-! THE SMALL MACHINE'S STEPS ARE THE MACHINE'S, 5: cells, further. -/
/-- what the tables say of a field: whether an int, whether final -/
def ag_fck (ci k : Nat) : Bool := match ag_cl[ci]?, (ag_fds.getD ci [])[k]? with
  | some r, some (isI, fin) => (r.2.1 k).2.2.2 == fin && (r.2.1 k).1 == r.1 && r.1 == ag_on ci && (match parseFieldDescriptor (r.2.1 k).2.2.1 with
    | some .int => isI
    | some (.object _) => !isI
    | some (.array _) => !isI
    | _ => false)
  | _, _ => false
theorem ag_fck_0 : ∀ k, k < 10 → ag_fck 0 k = true := by decide +kernel
theorem ag_fck_1 : ∀ k, k < 3 → ag_fck 1 k = true := by decide +kernel
theorem ag_fck_2 : ∀ k, k < 7 → ag_fck 2 k = true := by decide +kernel
theorem ag_fck_3 : ∀ k, k < 7 → ag_fck 3 k = true := by decide +kernel
theorem ag_fck_4 : ∀ k, k < 3 → ag_fck 4 k = true := by decide +kernel
theorem ag_fck_5 : ∀ k, k < 5 → ag_fck 5 k = true := by decide +kernel
theorem ag_fck_6 : ∀ k, k < 14 → ag_fck 6 k = true := by decide +kernel
theorem ag_fck_all {ci k : Nat} {r : vw_C} (h : ag_cl[ci]? = some r) (hk : k < r.2.2) : ag_fck ci k = true := by
  match ci, h with
  | 0, h => cases h; exact ag_fck_0 k hk
  | 1, h => cases h; exact ag_fck_1 k hk
  | 2, h => cases h; exact ag_fck_2 k hk
  | 3, h => cases h; exact ag_fck_3 k hk
  | 4, h => cases h; exact ag_fck_4 k hk
  | 5, h => cases h; exact ag_fck_5 k hk
  | 6, h => cases h; exact ag_fck_6 k hk
  | n + 7, h => cases h
section AGZ2
variable {p : Program} {l : Launch} {e : Env} {R : Room} {s : State} {m : MethodId} {args : Array Value} {below : List Frame} {meth : Method} {c : Code} {H : Heap} {locs : List Loc} {cells slots : Nat} {Q : State → Prop} {G : ag_G} {y pc : Nat} {A : Array Slot} {ls ls' : ag_Ls} {st st' : List ag_V} {σ σ' : ag_S} {pc' : Nat}

/-- a value that may be put there -/
theorem ag_fp_of {ci k : Nat} {v : ag_V} {r : vw_C} (hr : ag_cl[ci]? = some r) (hk : k < r.2.2) (h : ag_fp y ci k v = true) :
    (r.2.1 k).1 = r.1 ∧ r.1 = ag_on ci ∧ ∃ ty, parseFieldDescriptor (r.2.1 k).2.2.1 = some ty ∧ narrow ty (ag_v (ag_f G) v) = ag_v (ag_f G) v ∧ fits ty (ag_v (ag_f G) v) = true ∧ ((r.2.1 k).2.2.2 = true → (ag_ny y).name = "<init>" ∧ ag_ow y = ci) := by
  have h1 := ag_fck_all hr hk
  unfold ag_fck at h1
  unfold ag_fp at h
  rw [hr] at h1
  cases hf : (ag_fds.getD ci [])[k]? with
  | none => rw [hf] at h; cases h
  | some q =>
    obtain ⟨isI, fin⟩ := q
    rw [hf] at h h1
    dsimp only at h h1
    simp only [Bool.and_eq_true, beq_iff_eq, Bool.or_eq_true, Bool.not_eq_true'] at h h1
    obtain ⟨⟨⟨e1, e2⟩, e3⟩, e4⟩ := h1
    obtain ⟨f1, f2⟩ := h
    refine ⟨e2, e3, ?_⟩
    cases hp : parseFieldDescriptor (r.2.1 k).2.2.1 with
    | none => rw [hp] at e4; cases e4
    | some ty =>
      rw [hp] at e4
      refine ⟨ty, rfl, ?_⟩
      have hfin : (r.2.1 k).2.2.2 = true → (ag_ny y).name = "<init>" ∧ ag_ow y = ci := by
        rw [e1]
        intro hq
        rcases f1 with f1 | f1
        · rw [hq] at f1; cases f1
        · exact f1
      cases ty with
      | int =>
        rcases v with x | x | x | _ | x
        · exact ⟨rfl, rfl, hfin⟩
        · cases f2
        · cases f2
        · cases f2
        · dsimp only at f2 e4; rw [e4] at f2; cases f2
      | object C =>
        rcases v with x | x | x | _ | x
        · dsimp only at f2 e4; rw [f2] at e4; cases e4
        · cases f2
        · cases f2
        · cases f2
        · exact ⟨rfl, rfl, hfin⟩
      | array t =>
        rcases v with x | x | x | _ | x
        · dsimp only at f2 e4; rw [f2] at e4; cases e4
        · cases f2
        · cases f2
        · cases f2
        · exact ⟨rfl, rfl, hfin⟩
      | _ => cases e4
theorem ag_s_putfield (C : ag_cx G y p l R s m meth c) (hI : ag_in G s σ H locs) (hL : ag_lr (ag_f G) ls (ag_mx y) A) {idx : Nat} (hd : decode (ag_by y) pc = .ok (.putfield idx, 3)) (h : ag_ex y (.putfield idx) 3 pc ls st σ = some (Sum.inl (pc', (ls', (st', σ'))))) (kk : ag_Go p l e R s m args below meth c cells slots Q G y σ pc' ls' st' σ') : ag_At p l e R s m args below meth c H locs cells slots Q G pc A st := by
  obtain ⟨hG, hx, hb, hml, hr, hown, hlk, hnm, hW, hs0, hRf, hRl⟩ := C
  unfold ag_ex at h
  dsimp only at h
  split at h
  · rename_i v a st1
    split at h
    · rename_i ci k ci' fs hf hc
      split at h
      · rename_i hci
        obtain ⟨rfl, hkl, hap1, hfp⟩ := hci
        obtain ⟨rfl, rfl, rfl, rfl⟩ := ag_go_inj h
        have ha : a ≠ 0 := by omega
        obtain ⟨hP, hwf⟩ := ag_at_pos (hI.1.2.2 _ _ hc) ha
        obtain ⟨⟨C0, T0, N0⟩, hr0, hk0, hl0⟩ := ag_fw hf
        obtain ⟨hlay, ty0, hty0, hnm0⟩ := ag_lay hr0
        obtain ⟨hdecl, hcon, ty, hd0, hn0, hft0, hfin0⟩ := ag_fp_of (G := G) hr0 hk0 hfp
        have hts0 : ∀ w ∈ u_ws C0 T0 N0, w.before args s = true := fun w hw => ag_word hG hW (hlay w hw).1 (hlay w hw).2 args
        have hon : ag_on (ag_ow y) = (ag_ny y).cls := ag_on_ok y
        have hown9 : s.vm.findClass (ag_on (ag_ow y)) = some m.cls := by rw [hon]; exact hown
        have hK := ag_K hG hW
        have hap := va_apart (own := ag_on (ag_ow y)) hts0 (fun _ h => h) ty0 hty0 hnm0 hK hr0
        obtain ⟨r, h1, cell, q1, q2, q3, q4⟩ := hP 0 _ rfl
        have hr9 : r = (C0, T0, N0) := Option.some.inj (h1.symm.trans hr0)
        subst hr9
        obtain ⟨hS, hfc, kC, hkC, hkind⟩ := hK.1 ci' _ hr0
        obtain ⟨cf, kf, fi, f, hi, hsl⟩ := hS k hk0
        have hlay9 := hts0 _ (u_in_lay hk0)
        unfold u_lay at hlay9
        have hst := (u_facts hfc hkC (u_lays hts0 (fun _ h => h) hk0) hi).1
        have hfin9 : ∀ (H' : Heap), H'[ag_f G a]? = some (cell.setSlot f.slot (ag_v (ag_f G) v)) → H'.size = H.size → (∀ q : Nat, q ≠ ag_f G a → H'[q]? = H[q]?) →
            W p l e R s m args below meth c H' (locs ++ [⟨ag_f G a, f.slot⟩]) cells slots Q (F0 m (pc + 3) A (st1.map (ag_v (ag_f G)))) := by
          intro H' e1 e2 e3
          have h9 := kk H' (locs ++ [⟨ag_f G a, f.slot⟩]) A (ag_in_set (c1 := Sum.inr (Sum.inr (Sum.inr (ci', fs.set k v)))) hG.2.2.1 hI ha hc e2 e3 ?_ ?_) hL
          · rw [Nat.sub_self, Nat.sub_self, Nat.add_zero, Nat.add_zero] at h9
            exact h9
          · refine ⟨_, hr0, ?_⟩
            rw [hsl] at e1
            show t_OB _ _ _ _ _ (vp_V ((fs.set k v).map (ag_v (ag_f G))))
            rw [← ag_put_field (G := G) (v := v) hkl]
            exact t_OB.to (V := updV (vp_V (fs.map (ag_v (ag_f G)))) k (ag_v (ag_f G) v)) ⟨_, e1, q2, q3, t_set q4 hap hk0 _⟩ (fun j _ => vp_updV_set (by rw [List.length_map]; exact hkl) _ j)
          · obtain ⟨r2, hr2, hl2⟩ := hwf
            exact ⟨r2, hr2, by rw [List.length_set]; exact hl2⟩
        by_cases hfin : (T0 k).2.2.2 = true
        · obtain ⟨hin2, how⟩ := hfin0 hfin
          rw [if_pos hfin] at hlay9
          have h6 := u_fits hfc hkC hkind (Or.inr hlay9) hi hd0 hn0 hft0
          rcases hl0 with ⟨hl1, hl2⟩ | ⟨hne, hl1⟩
          · have hcf : m.cls = cf := by
              obtain ⟨_, _, c', _, _, _, -, -, hf', -, -, -, hown2, -⟩ := Cond.laysFinal_spec hlay9
              have e1 : c' = cf := by have := hi.symm.trans hf'; simp at this; exact this.1.symm
              have e2 : s.vm.findClass (T0 k).1 = some c' := hown2
              rw [hdecl, hcon, ← how, hown9] at e2
              rw [← e1]; exact Option.some.inj e2
            exact W.putFinK hx hb hown9 (ag_word hG hW hl1 hl2 args) hi hst hcf (hnm hin2) (by rw [q2]; exact h6) q1 q3 (by rw [hsl]; exact k2_hasslot (q4 k hk0)) rfl rfl hd hfin9
          · exact absurd how hne
        · rw [if_neg hfin] at hlay9
          have h6 := u_store hfc hkC hkind hlay9 hi hd0 hn0 hft0
          rcases hl0 with ⟨hl1, hl2⟩ | ⟨-, hl1⟩
          · exact W.putK hx hb (f := f) ⟨hown9, ag_word hG hW hl1 hl2 args, ⟨_, _, _, hi⟩, hst⟩ (by rw [q2]; exact h6) q1 q3 (by rw [hsl]; exact k2_hasslot (q4 k hk0)) rfl rfl hd hfin9
          · exact va_WputK hx hb (f := f) hown9 (va_Nw.use rfl (va_Nw.warmF hW (va_Nw.of rfl (hG.1 _ hl1)))) hi hst (by rw [q2]; exact h6) q1 q3 (by rw [hsl]; exact k2_hasslot (q4 k hk0)) rfl rfl hd hfin9
      · cases h
    · cases h
  · cases h

theorem ag_s_alen (C : ag_cx G y p l R s m meth c) (hI : ag_in G s σ H locs) (hL : ag_lr (ag_f G) ls (ag_mx y) A) (hd : decode (ag_by y) pc = .ok (.arraylength, 1)) (h : ag_ex y (.arraylength) 1 pc ls st σ = some (Sum.inl (pc', (ls', (st', σ'))))) (kk : ag_Go p l e R s m args below meth c cells slots Q G y σ pc' ls' st' σ') : ag_At p l e R s m args below meth c H locs cells slots Q G pc A st := by
  obtain ⟨hG, hx, hb, hml, hr, hown, hlk, hnm, hW, hs0, hRf, hRl⟩ := C
  unfold ag_ex at h
  dsimp only at h
  split at h
  · rename_i a st1
    split at h
    · rename_i n g hc
      obtain ⟨rfl, rfl, rfl, rfl⟩ := ag_go_inj h
      by_cases ha : a = 0
      · subst ha
        rcases hI.1.2.2 _ _ hc with ⟨-, k9, g9, h9, hX⟩ | ⟨h9, -⟩
        · cases h9
          obtain ⟨scr, h1, h2, h3, h4, h5⟩ := va_X.moved hW.alike hX
          have e9 : (ag_v (ag_f G) (ag_I (n : Int))) = .int (Int32.ofNat n) := congrArg Value.int (Int32.ofInt_eq_ofNat)
          have h9 := kk.same hI hL
          rw [List.map_cons, e9] at h9
          exact W.alen (n := Int32.ofNat n) hx hb h1 h2 (by rw [h4] <;> rfl) rfl rfl hd h9
        · exact absurd rfl h9
      · obtain ⟨hP, -⟩ := ag_at_pos (hI.1.2.2 _ _ hc) ha
        have e9 : (ag_v (ag_f G) (ag_I (n : Int))) = .int (Int32.ofNat n) := congrArg Value.int (Int32.ofInt_eq_ofNat)
        have h9 := kk.same hI hL
        rw [List.map_cons, e9] at h9
        exact va_alen hx hb (ag_K hG hW) hP 0 0 rfl rfl rfl hd h9
    · rename_i n g hc
      obtain ⟨rfl, rfl, rfl, rfl⟩ := ag_go_inj h
      have ha : a ≠ 0 := by
        intro ha
        subst ha
        rcases hI.1.2.2 _ _ hc with ⟨-, k9, g9, h9, hX⟩ | ⟨h9, -⟩
        · cases h9
        · exact absurd rfl h9
      obtain ⟨hP, -⟩ := ag_at_pos (hI.1.2.2 _ _ hc) ha
      have e9 : (ag_v (ag_f G) (ag_I (n : Int))) = .int (Int32.ofNat n) := congrArg Value.int (Int32.ofInt_eq_ofNat)
      have h9 := kk.same hI hL
      rw [List.map_cons, e9] at h9
      exact va_alen hx hb (ag_K hG hW) hP 0 1 rfl rfl rfl hd h9
    · cases h
  · cases h

theorem ag_s_iaload (C : ag_cx G y p l R s m meth c) (hI : ag_in G s σ H locs) (hL : ag_lr (ag_f G) ls (ag_mx y) A) (hd : decode (ag_by y) pc = .ok (.iaload, 1)) (h : ag_ex y (.iaload) 1 pc ls st σ = some (Sum.inl (pc', (ls', (st', σ'))))) (kk : ag_Go p l e R s m args below meth c cells slots Q G y σ pc' ls' st' σ') : ag_At p l e R s m args below meth c H locs cells slots Q G pc A st := by
  obtain ⟨hG, hx, hb, hml, hr, hown, hlk, hnm, hW, hs0, hRf, hRl⟩ := C
  unfold ag_ex at h
  dsimp only at h
  split at h
  · rename_i i a st1
    split at h
    · rename_i n g hc
      split at h
      · rename_i hin
        obtain ⟨rfl, rfl, rfl, rfl⟩ := ag_go_inj h
        by_cases ha : a = 0
        · subst ha
          rcases hI.1.2.2 _ _ hc with ⟨-, k9, g9, h9, hX⟩ | ⟨h9, -⟩
          · cases h9
            obtain ⟨scr, h1, h2, h3, h4, h5⟩ := va_X.moved hW.alike hX
            exact W.iald (v := .int (Int32.ofInt (g (ag_nm i).toNat))) hx hb h1 h2 h3 (by rw [h4]; exact ag_vin hin.1 hin.2) (h5 _ (by show (ag_nm i).toNat < n; omega)) rfl rfl hd (kk.same hI hL)
          · exact absurd rfl h9
        · obtain ⟨hP, -⟩ := ag_at_pos (hI.1.2.2 _ _ hc) ha
          exact va_iald hx hb (ag_K hG hW) hP 0 0 rfl rfl (ag_vin hin.1 hin.2) hd (kk.same hI hL)
      · cases h
    · cases h
  · cases h

theorem ag_s_iastore (C : ag_cx G y p l R s m meth c) (hI : ag_in G s σ H locs) (hL : ag_lr (ag_f G) ls (ag_mx y) A) (hd : decode (ag_by y) pc = .ok (.iastore, 1)) (h : ag_ex y (.iastore) 1 pc ls st σ = some (Sum.inl (pc', (ls', (st', σ'))))) (kk : ag_Go p l e R s m args below meth c cells slots Q G y σ pc' ls' st' σ') : ag_At p l e R s m args below meth c H locs cells slots Q G pc A st := by
  obtain ⟨hG, hx, hb, hml, hr, hown, hlk, hnm, hW, hs0, hRf, hRl⟩ := C
  unfold ag_ex at h
  dsimp only at h
  split at h
  · rename_i x i a st1
    split at h
    · rename_i n g hc
      split at h
      · rename_i hin
        obtain ⟨rfl, rfl, rfl, rfl⟩ := ag_go_inj h
        have ha : a ≠ 0 := by omega
        obtain ⟨hP, hwf⟩ := ag_at_pos (hI.1.2.2 _ _ hc) ha
        have hcell : H[ag_f G a]? = some (arrV (G.2.2.2 0) n (fun j => .int (Int32.ofInt (g j)))) := hP 0 _ rfl
        refine W.iast hx hb hcell (((ag_K hG hW).2 0 _ rfl).1 n (fun j => .int (Int32.ofInt (g j)))) (fun q => by cases q) (by rw [arrV_size]; exact ag_vin hin.1 hin.2.1) rfl rfl hd fun H1 e z oq => ?_
        have h9 := kk H1 (locs ++ [⟨ag_f G a, (Int32.ofInt i).toNatClampNeg⟩]) A (ag_in_set (c1 := Sum.inl (n, ag_ui g (ag_nm i).toNat x)) hG.2.2.1 hI ha hc z oq ?_ trivial) hL
        · rw [Nat.sub_self, Nat.sub_self, Nat.add_zero, Nat.add_zero] at h9
          exact h9
        · show H1[ag_f G a]? = some (vp_cell _ _)
          rw [e, arrV_store, vp_cell_i]
          congr 2
          funext q
          by_cases hq : q = (ag_nm i).toNat
          · subst hq
            simp [updV, ag_ui, show (Int32.ofInt i).toNatClampNeg = (ag_nm i).toNat from rfl]
          · simp [updV, ag_ui, hq, show (Int32.ofInt i).toNatClampNeg = (ag_nm i).toNat from rfl]
      · cases h
    · cases h
  · cases h

theorem ag_s_aaload (C : ag_cx G y p l R s m meth c) (hI : ag_in G s σ H locs) (hL : ag_lr (ag_f G) ls (ag_mx y) A) (hd : decode (ag_by y) pc = .ok (.aaload, 1)) (h : ag_ex y (.aaload) 1 pc ls st σ = some (Sum.inl (pc', (ls', (st', σ'))))) (kk : ag_Go p l e R s m args below meth c cells slots Q G y σ pc' ls' st' σ') : ag_At p l e R s m args below meth c H locs cells slots Q G pc A st := by
  obtain ⟨hG, hx, hb, hml, hr, hown, hlk, hnm, hW, hs0, hRf, hRl⟩ := C
  unfold ag_ex at h
  dsimp only at h
  split at h
  · rename_i i a st1
    split at h
    · rename_i n g hc
      split at h
      · rename_i hin
        split at h
        · rename_i b hb9
          obtain ⟨rfl, rfl, rfl, rfl⟩ := ag_go_inj h
          obtain ⟨hP, -⟩ := ag_at_pos (hI.1.2.2 _ _ hc) (ag_a_ne hI hc)
          have hcell : H[ag_f G a]? = some (arrV (G.2.2.2 2) n (fun j => va_rf ((g j).map (ag_f G)))) := hP 0 _ rfl
          refine W.aald (v := .ref (ag_f G b)) (ty := .array .int) hx hb hcell (((ag_K hG hW).2 1 _ rfl).1 n _) rfl (fun q => by cases q) (by rw [arrV_size]; exact ag_vin hin.1 hin.2) ?_ rfl rfl hd (kk.same hI hL)
          rw [arrV_read _ _ (show (Int32.ofInt i).toNatClampNeg < n by show (ag_nm i).toNat < n; omega)]
          show some (va_rf ((g (ag_nm i).toNat).map (ag_f G))) = _
          rw [hb9]
          rfl
        · cases h
      · cases h
    · cases h
  · cases h

theorem ag_s_aastore (C : ag_cx G y p l R s m meth c) (hI : ag_in G s σ H locs) (hL : ag_lr (ag_f G) ls (ag_mx y) A) (hd : decode (ag_by y) pc = .ok (.aastore, 1)) (h : ag_ex y (.aastore) 1 pc ls st σ = some (Sum.inl (pc', (ls', (st', σ'))))) (kk : ag_Go p l e R s m args below meth c cells slots Q G y σ pc' ls' st' σ') : ag_At p l e R s m args below meth c H locs cells slots Q G pc A st := by
  obtain ⟨hG, hx, hb, hml, hr, hown, hlk, hnm, hW, hs0, hRf, hRl⟩ := C
  unfold ag_ex at h
  dsimp only at h
  split at h
  · rename_i v i a st1
    split at h
    · rename_i n g wv hc hv
      obtain ⟨nv, gv⟩ := wv
      split at h
      · rename_i hin
        obtain ⟨rfl, rfl, rfl, rfl⟩ := ag_go_inj h
        have ha : a ≠ 0 := by omega
        obtain ⟨hP, hwf⟩ := ag_at_pos (hI.1.2.2 _ _ hc) ha
        obtain ⟨hPv, -⟩ := ag_at_pos (hI.1.2.2 _ _ hv) (show v ≠ 0 by omega)
        have hcell : H[ag_f G a]? = some (arrV (G.2.2.2 2) n (fun j => va_rf ((g j).map (ag_f G)))) := hP 0 _ rfl
        have hcv : H[ag_f G v]? = some (arrV (G.2.2.2 0) nv (fun j => .int (Int32.ofInt (gv j)))) := hPv 0 _ rfl
        obtain ⟨kA, hkA, hkind⟩ := hG.2.2.2
        obtain ⟨k', hk', he'⟩ := hW.alike.2.2 _ _ hkA
        have hci : s.vm.findClass ("[" ++ FieldType.int.toString) = some (G.2.2.2 0) := ((ag_K hG hW).2 0 _ rfl).2
        obtain ⟨kI, hkI, -⟩ := Vm.findClass_spec hci
        have hkind' : k'.kind = .array (G.2.2.2 0) (.array .int) := by rw [he']; exact hkind
        refine W.aast hx hb hcell (fun q h => by cases h) (fun h => by cases h) hk' hkind' rfl hkI ⟨fun q => ?_, by rw [arrV_size]; show (ag_nm i).toNat < n; omega⟩ hcv (fun q h => by cases h) hkI (va_asg _ _) rfl rfl hd fun H1 e z oq => ?_
        · have q2 : Int32.ofInt i < Int32.ofInt 0 := q
          rw [ag_lt_i, ag_nm_z] at q2
          omega
        · have h9 := kk H1 (locs ++ [⟨ag_f G a, (Int32.ofInt i).toNatClampNeg⟩]) A (ag_in_set (c1 := Sum.inr (Sum.inr (Sum.inl (n, ag_uq g (ag_nm i).toNat (some v))))) hG.2.2.1 hI ha hc z oq ?_ trivial) hL
          · rw [Nat.sub_self, Nat.sub_self, Nat.add_zero, Nat.add_zero] at h9
            exact h9
          · show H1[ag_f G a]? = some (vp_cell _ _)
            rw [e, arrV_store, vp_cell_q]
            congr 2
            funext q
            by_cases hq : q = (ag_nm i).toNat
            · subst hq
              simp [updV, ag_uq, va_rf, show (Int32.ofInt i).toNatClampNeg = (ag_nm i).toNat from rfl]
            · simp [updV, ag_uq, hq, show (Int32.ofInt i).toNatClampNeg = (ag_nm i).toNat from rfl]
      · cases h
    · cases h
  · cases h

end AGZ2
