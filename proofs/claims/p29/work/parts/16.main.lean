/-! THE SMALL MACHINE'S RUNS ARE THE MACHINE'S. -/
def ag_rm (y mc ms : Nat) : Room := { frames := ag_rk y + 10, cells := mc, slots := ms, locals := 100 + 60 * ag_rk y }
def ag_Pc (G : ag_G) (as : List ag_V) (σ : ag_S) : Array Value → State → Prop := fun a U => a = (as.map (ag_v (ag_f G))).toArray ∧ ag_rep G σ U.heap ∧ G.1.WarmedH U.vm
/-- what a method keeps: called with these arguments on this store, it comes to that end and that store -/
def ag_Ct (G : ag_G) (l : Launch) (y : Nat) (as : List ag_V) (σ : ag_S) (r : ag_Rs) (σ' : ag_S) : Prop :=
  vx_Met l (ag_ny y) [ag_cw y] (ag_rm y (σ'.2.1 - σ.2.1) (σ'.2.2 - σ.2.2)) (ag_Pc G as σ) (ag_Qc G r σ') (ag_XC G r σ') (σ'.2.1 - σ.2.1) (σ'.2.2 - σ.2.2) (fun q => G.1.heap.size ≤ q)
theorem ag_Pc_blind (G : ag_G) (as : List ag_V) (σ : ag_S) : FrameBlind (ag_Pc G as σ) := fun _ _ _ _ h => h
theorem ag_Ct_met {G : ag_G} {l : Launch} {y : Nat} {as : List ag_V} {σ σ' : ag_S} {v : Option ag_V} (h : ag_Ct G l y as σ (Sum.inl v) σ') :
    Met l (ag_ny y) [ag_cw y] (ag_rm y (σ'.2.1 - σ.2.1) (σ'.2.2 - σ.2.2)) (ag_Pc G as σ) (ag_Qc G (Sum.inl v) σ') (σ'.2.1 - σ.2.1) (σ'.2.2 - σ.2.2) (fun q => G.1.heap.size ≤ q) := by
  intro p e h1 h2 h3 s m args below h4 h5 h6 h7
  obtain ⟨n, o, k1, k2, k3, k4⟩ := h p e h1 h2 h3 s m args below h4 h5 h6 h7
  refine ⟨n, o, k1, k2, k3, ?_⟩
  rcases k4 with k4 | ⟨q, -, E, ce, L, ⟨k, -, hk, -⟩, -⟩
  · exact k4
  · cases hk
section AGM
variable {p : Program} {l : Launch} {e : Env} {R : Room} {s : State} {m : MethodId} {args : Array Value} {below : List Frame} {meth : Method} {c : Code} {H : Heap} {locs : List Loc} {cells slots : Nat} {Q : State → Prop} {G : ag_G} {y pc : Nat} {A : Array Slot} {ls ls' : ag_Ls} {st st' : List ag_V} {σ σ' : ag_S} {pc' : Nat}
theorem ag_in_after {t : Heap} {σ1 : ag_S} {L : List Loc} (hI : ag_in G s σ H locs) (hr : ag_rep G σ1 t) (hle : σ.2.1 ≤ σ1.2.1) (hL : ∀ z ∈ L, G.1.heap.size ≤ z.base) : ag_in G s σ1 t (locs ++ L) := by
  refine ⟨hr, ?_, fun z hz => ?_⟩
  · have h1 := hI.1.1
    have h2 := hr.1
    have h3 := hI.2.1
    omega
  · rcases List.mem_append.mp hz with h | h
    · exact hI.2.2 z h
    · exact hL z h
theorem ag_after {mc ms : Nat} {v : Option ag_V} {σ1 : ag_S} {rest : List ag_V} {st0 : List Value} {a : Array Value} (hI : ag_in G s σ H locs) (hle : σ.2.1 ≤ σ1.2.1)
    (hr : va_Run p l e R s m args below meth c H locs cells slots mc ms (F0 m pc A st0) (rest.map (ag_v (ag_f G))) (ag_Qc G (Sum.inl v) σ1 a) (fun q => G.1.heap.size ≤ q))
    (kv : ∀ (H' : Heap) (locs' : List Loc), ag_in G s σ1 H' locs' → W p l e R s m args below meth c H' locs' (cells + mc) (slots + ms) Q (F0 m (pc + 3) A ((v.toList ++ rest).map (ag_v (ag_f G))))) : W p l e R s m args below meth c H locs cells slots Q (F0 m pc A st0) := by
  intro T hT X
  obtain ⟨v0, st₀, t, T', L, h0, X', hL, e1, e2, ⟨v1, hv, ho, hrep⟩, go⟩ := hr T hT X
  cases hv
  cases ho
  obtain ⟨t2, a1, b1⟩ := kv T'.heap (locs ++ L) (ag_in_after hI (by rw [e1]; exact hrep) hle hL) T' rfl X'
  refine ⟨t2, go t2 ?_, b1⟩
  have e9 : (v.map (ag_v (ag_f G))).toList ++ rest.map (ag_v (ag_f G)) = (v.toList ++ rest).map (ag_v (ag_f G)) := by cases v <;> simp
  rw [e9]
  exact a1
theorem ag_afterx {mc ms : Nat} {r : ag_Rs} {σ1 : ag_S} {rest : List ag_V} {st0 : List Value} {a : Array Value} (hI : ag_in G s σ H locs) (hle : σ.2.1 ≤ σ1.2.1)
    (hr : vx_Run p l e R s m args below meth c H locs cells slots mc ms (F0 m pc A st0) (rest.map (ag_v (ag_f G))) (ag_Qc G r σ1 a) (ag_XC G r σ1) (fun q => G.1.heap.size ≤ q))
    (kv : ∀ (v : Option ag_V) (H' : Heap) (locs' : List Loc), r = Sum.inl v → ag_in G s σ1 H' locs' → W p l e R s m args below meth c H' locs' (cells + mc) (slots + ms) Q (F0 m (pc + 3) A ((v.toList ++ rest).map (ag_v (ag_f G)))))
    (kx : ∀ (E : Nat) (H' : Heap) (locs' : List Loc) (q : Addr) (ce : Cell), r = Sum.inr E → E < 3 → ag_in G s σ1 H' locs' → H'[q]? = some ce → ce.vm = .none → s.vm.findClass (ag_xn E) = some ce.cls → vx_W p l e R s m args below meth c H' locs' (cells + mc) (slots + ms) Q (F0 m pc A (rest.map (ag_v (ag_f G)))) q) : W p l e R s m args below meth c H locs cells slots Q (F0 m pc A st0) := by
  intro T hT X
  rcases hr T hT X with ⟨v0, st₀, t, T', L, h0, X', hL, e1, e2, ⟨v1, hv, ho, hrep⟩, go⟩ | ⟨q, st₀, t, T', L, E, ce, h0, X', hL, e1, e2, ⟨k, hk3, hk, hE, hrep⟩, hce, hcv, hcl, go⟩
  · cases ho
    obtain ⟨t2, a1, b1⟩ := kv v1 T'.heap (locs ++ L) hv (ag_in_after hI (by rw [e1]; exact hrep) hle hL) T' rfl X'
    refine ⟨t2, go t2 ?_, b1⟩
    have e9 : (v1.map (ag_v (ag_f G))).toList ++ rest.map (ag_v (ag_f G)) = (v1.toList ++ rest).map (ag_v (ag_f G)) := by cases v1 <;> simp
    rw [e9]
    exact a1
  · subst hE
    obtain ⟨t2, a1, b1⟩ := kx k T'.heap (locs ++ L) q ce hk hk3 (ag_in_after hI (by rw [e1]; exact hrep) hle hL) (by rw [e1]; exact hce) hcv hcl T' rfl X'
    exact ⟨t2, go.trans a1, b1⟩
/-- A CALL of a method of its own -/
theorem ag_call {y' idx op : Nat} {as rest : List ag_V} {r1 : ag_Rs} {σ1 : ag_S} (C : ag_cx G y p l R s m meth c) (hI : ag_in G s σ H locs) (hL : ag_lr (ag_f G) ls (ag_mx y) A)
    (hop : (op = 0 ∧ decode (ag_by y) pc = .ok (.invokevirtual idx, 3)) ∨ (op = 1 ∧ decode (ag_by y) pc = .ok (.invokestatic idx, 3)) ∨ (op = 2 ∧ decode (ag_by y) pc = .ok (.invokespecial idx, 3)))
    (h : ag_iv y idx op pc ls st σ = some (Sum.inr (Sum.inr (y', (as, rest))))) (hM : ag_Ct G l y' as σ r1 σ1) (hle : σ.2.1 ≤ σ1.2.1) (hr1 : (∃ v, r1 = Sum.inl v) ∨ ag_hx y)
    (hc1 : cells + (σ1.2.1 - σ.2.1) ≤ R.cells) (hc2 : slots + (σ1.2.2 - σ.2.2) ≤ R.slots)
    (kv : ∀ (v : Option ag_V) (H' : Heap) (locs' : List Loc), r1 = Sum.inl v → ag_in G s σ1 H' locs' → W p l e R s m args below meth c H' locs' (cells + (σ1.2.1 - σ.2.1)) (slots + (σ1.2.2 - σ.2.2)) Q (F0 m (pc + 3) A ((v.toList ++ rest).map (ag_v (ag_f G)))))
    (kx : ∀ (E : Nat) (H' : Heap) (locs' : List Loc) (q : Addr) (ce : Cell), r1 = Sum.inr E → E < 3 → ag_in G s σ1 H' locs' → H'[q]? = some ce → ce.vm = .none → s.vm.findClass (ag_xn E) = some ce.cls → vx_W p l e R s m args below meth c H' locs' (cells + (σ1.2.1 - σ.2.1)) (slots + (σ1.2.2 - σ.2.2)) Q (F0 m pc A (rest.map (ag_v (ag_f G)))) q) :
    ag_At p l e R s m args below meth c H locs cells slots Q G pc A st := by
  obtain ⟨hG, hx, hb, hml, hr, hown, hlk, hnm, hW, hs0, hRf, hRl⟩ := C
  have hown9 : s.vm.findClass (ag_on (ag_ow y)) = some m.cls := by rw [ag_on_ok]; exact hown
  obtain ⟨n, kd, hm9, hy3, rfl, hn, hw, hcat, hkd⟩ := ag_iv_call h
  have hcw := ag_cwf hm9
  have hz := ag_wt_map (ag_f G) rest
  have hstk : ((as.reverse ++ rest).map (ag_v (ag_f G))) = (as.map (ag_v (ag_f G))).reverse ++ rest.map (ag_v (ag_f G)) := by rw [List.map_append, List.map_reverse]
  have fix : CallFix p m c (ag_by y) (ag_mx y) s args [] (ag_on (ag_ow y)) := ⟨hx, hb, hml, hown9, fun w hw => absurd hw List.not_mem_nil⟩
  have hbl := ag_Pc_blind G as σ
  have hpre : ∀ U : State, U.heap = H → s.WarmedH U.vm → ag_Pc G as σ (as.map (ag_v (ag_f G))).toArray U := fun U hU hWU => ⟨rfl, by rw [hU]; exact hI.1, State.WarmedH.trans hW hWU⟩
  have hroom : 2 * (F0 m pc A ((as.reverse ++ rest).map (ag_v (ag_f G)))).monitorRoom + ((rest.map (ag_v (ag_f G))).map fun v => v.category).sum ≤ 8 := lv_room (by rw [hz]; exact hw)
  have hgood : ∀ {y9 : Nat}, ag_MW y9 → ∀ w ∈ [ag_cw y9], ∀ (a' : Array Value) (U : State), s.WarmedH U.vm → w.before a' U = true := fun hMW w hw9 a' U hWU => by
    rw [List.mem_singleton] at hw9
    subst hw9
    exact ag_word hG (State.WarmedH.trans hW hWU) hMW.1 hMW.2.1 a'
  -- what every kind of call asks
  have common : ∀ {n9 : Nat}, 3 ≤ y' → y' < 136 → ag_rk y' < ag_rk y → n9 = ag_np y' → ag_MW y' ∧ (ag_rm y' (σ1.2.1 - σ.2.1) (σ1.2.2 - σ.2.2)).frames + 1 ≤ R.frames ∧ 8 + (ag_mx y' + 11) + (ag_rm y' (σ1.2.1 - σ.2.1) (σ1.2.2 - σ.2.2)).locals ≤ R.locals ∧ (∀ sig, parseMethodDescriptor (ag_ny y').desc = some sig → n9 = sig.parameters.length) := by
    intro n9 g1 g2 g3 g4
    have hMW := ag_mw_go y' g1 g2
    refine ⟨hMW, by show ag_rk y' + 10 + 1 ≤ _; omega, ?_, fun sig hsig => ?_⟩
    · have := hMW.2.2.2.2.2.2.1
      show 8 + (ag_mx y' + 11) + (100 + 60 * ag_rk y') ≤ _
      omega
    · have h9 := hMW.2.2.2.2.2.1
      rw [hsig] at h9
      rw [g4]
      exact (Option.some.inj h9).symm
  unfold ag_CW at hcw
  split at hcw
  · omega
  · omega
  · omega
  · omega
  · -- virtual
    obtain ⟨g1, g2, g3, g4, g5, g6⟩ := hcw
    obtain ⟨hMW, f1, f2, f3⟩ := common g1 g2 g3 rfl
    rcases hkd with ⟨-, hop0, a, tl, fs, rfl, hsc⟩ | ⟨q, -⟩ | ⟨q, -⟩
    · subst hop0
      have hd : decode (ag_by y) pc = .ok (.invokevirtual idx, 3) := by
        rcases hop with ⟨-, q⟩ | ⟨q, -⟩ | ⟨q, -⟩
        · exact q
        · cases q
        · cases q
      have hcw9 : ag_cw y' = Cond.code (ag_ny y') (ag_by y') (ag_mx y') (ag_rt y') := by unfold ag_cw; rw [if_neg (by omega)]
      have hin := hMW.2.2.2.2.2.2.2.1 (Or.inl g5)
      obtain ⟨hP, hwf⟩ := ag_at_pos (hI.1.2.2 _ _ hsc) (ag_a_ne hI hsc)
      obtain ⟨rr, hrr, -⟩ := hwf
      have hrecv := va_recv (ag_K (s := s) hG hW) hP (ci := ag_ow y') (q0 := 0) hrr rfl
      rw [ag_cl_on hrr, ag_on_ok y'] at hrecv
      refine ag_afterx (a := (Value.ref (ag_f G a) :: tl.map (ag_v (ag_f G))).toArray) (rest := rest) hI hle ?_ kv kx
      refine vx_runV (n := ag_np y') (bytes := ag_by y') (maxL := ag_mx y') (ret := ag_rt y') fix (As := tl.map (ag_v (ag_f G))) (b := ag_f G a) (C := (ag_ny y').cls) hM ⟨⟨rfl, rfl, f1, f2, hgood hMW, by rw [← hcw9]; exact List.mem_cons_self, by rw [← hcw9]; exact ag_word hG hW hMW.1 hMW.2.1 args, ag_word hG hW hMW.2.2.1 rfl args, hMW.2.2.2.2.1, f3, ag_word hG hW g6 rfl args⟩, ag_word hG hW hin.1 rfl args, ag_word hG hW hin.2 rfl args⟩ ⟨hbl, hrecv, hpre⟩ rfl ?_ hL.1 ?_ hroom hd ⟨hc1, hc2⟩
      · rw [List.length_map]
        rw [List.length_cons] at hn
        omega
      · show (((ag_R a :: tl).reverse ++ rest).map (ag_v (ag_f G))) = _
        rw [hstk, List.map_cons, List.reverse_cons, List.append_assoc]
        rfl
    · omega
    · exact absurd rfl q
  · -- virtual, with handlers
    obtain ⟨g1, g2, g3, g4, g5, g6⟩ := hcw
    obtain ⟨hMW, f1, f2, f3⟩ := common g1 g2 g3 rfl
    rcases hkd with ⟨-, hop0, a, tl, fs, rfl, hsc⟩ | ⟨q, -⟩ | ⟨-, q, -⟩
    · subst hop0
      have hd : decode (ag_by y) pc = .ok (.invokevirtual idx, 3) := by
        rcases hop with ⟨-, q⟩ | ⟨q, -⟩ | ⟨q, -⟩
        · exact q
        · cases q
        · cases q
      have hcw9 : ag_cw y' = Cond.codeWith (ag_ny y') (ag_by y') (ag_mx y') (ag_rt y') (ag_hh y') := by unfold ag_cw; rw [if_pos (Or.inr g5)]
      have hin := hMW.2.2.2.2.2.2.2.1 (Or.inr g5)
      obtain ⟨hP, hwf⟩ := ag_at_pos (hI.1.2.2 _ _ hsc) (ag_a_ne hI hsc)
      obtain ⟨rr, hrr, -⟩ := hwf
      have hrecv := va_recv (ag_K (s := s) hG hW) hP (ci := ag_ow y') (q0 := 0) hrr rfl
      rw [ag_cl_on hrr, ag_on_ok y'] at hrecv
      refine ag_afterx (a := (Value.ref (ag_f G a) :: tl.map (ag_v (ag_f G))).toArray) (rest := rest) hI hle ?_ kv kx
      refine vx_runVX (hh := ag_hh y') (n := ag_np y') (bytes := ag_by y') (maxL := ag_mx y') (ret := ag_rt y') fix (As := tl.map (ag_v (ag_f G))) (b := ag_f G a) (C := (ag_ny y').cls) hM ⟨⟨rfl, rfl, f1, f2, hgood hMW, by rw [← hcw9]; exact List.mem_cons_self⟩, by rw [← hcw9]; exact ag_word hG hW hMW.1 hMW.2.1 args, ag_word hG hW hMW.2.2.1 rfl args, hMW.2.2.2.2.1, f3, ag_word hG hW g6 rfl args, ag_word hG hW hin.1 rfl args, ag_word hG hW hin.2 rfl args⟩ ⟨hbl, hrecv, hpre⟩ rfl ?_ hL.1 ?_ hroom hd ⟨hc1, hc2⟩
      · rw [List.length_map]
        rw [List.length_cons] at hn
        omega
      · show (((ag_R a :: tl).reverse ++ rest).map (ag_v (ag_f G))) = _
        rw [hstk, List.map_cons, List.reverse_cons, List.append_assoc]
        rfl
    · omega
    · exact absurd rfl q
  · -- static, of its own class
    obtain ⟨g1, g2, g3, g4, g5, g7, g8⟩ := hcw
    obtain ⟨hMW, f1, f2, f3⟩ := common g1 g2 g3 rfl
    rcases hkd with ⟨q, -⟩ | ⟨q, -⟩ | ⟨-, -, -, -, hop1⟩
    · omega
    · omega
    · subst hop1
      have hd : decode (ag_by y) pc = .ok (.invokestatic idx, 3) := by
        rcases hop with ⟨q, -⟩ | ⟨-, q⟩ | ⟨q, -⟩
        · cases q
        · exact q
        · cases q
      have hcw9 : ag_cw y' = Cond.code (ag_ny y') (ag_by y') (ag_mx y') (ag_rt y') := by unfold ag_cw; rw [if_neg (by omega)]
      refine ag_afterx (a := (as.map (ag_v (ag_f G))).toArray) (rest := rest) hI hle ?_ kv kx
      exact vx_runS (n := ag_np y') (bytes := ag_by y') (maxL := ag_mx y') (ret := ag_rt y') fix (As := as.map (ag_v (ag_f G))) hM ⟨⟨rfl, rfl, f1, f2, hgood hMW, by rw [← hcw9]; exact List.mem_cons_self, by rw [← hcw9]; exact ag_word hG hW hMW.1 hMW.2.1 args, ag_word hG hW hMW.2.2.1 rfl args, hMW.2.2.2.2.1, f3, ag_word hG hW g8 rfl args⟩, ag_word hG hW (hMW.2.2.2.2.2.2.2.2.1 (Or.inl g5)) rfl args⟩ ⟨hbl, hpre⟩ rfl (by rw [List.length_map]; omega) hL.1 hstk hroom hd ⟨hc1, hc2⟩
  · -- static, with handlers
    obtain ⟨g1, g2, g3, g4, g5, g7⟩ := hcw
    obtain ⟨hMW, f1, f2, f3⟩ := common g1 g2 g3 rfl
    rcases hkd with ⟨q, -⟩ | ⟨q, -⟩ | ⟨-, -, -, -, hop1⟩
    · omega
    · omega
    · subst hop1
      have hd : decode (ag_by y) pc = .ok (.invokestatic idx, 3) := by
        rcases hop with ⟨q, -⟩ | ⟨-, q⟩ | ⟨q, -⟩
        · cases q
        · exact q
        · cases q
      have hcw9 : ag_cw y' = Cond.codeWith (ag_ny y') (ag_by y') (ag_mx y') (ag_rt y') (ag_hh y') := by unfold ag_cw; rw [if_pos (Or.inl g5)]
      refine ag_afterx (a := (as.map (ag_v (ag_f G))).toArray) (rest := rest) hI hle ?_ kv kx
      exact vx_runSX (n := ag_np y') (bytes := ag_by y') (maxL := ag_mx y') (ret := ag_rt y') (hh := ag_hh y') fix (As := as.map (ag_v (ag_f G))) hM ⟨⟨rfl, rfl, f1, f2, hgood hMW, by rw [← hcw9]; exact List.mem_cons_self⟩, by rw [← hcw9]; exact ag_word hG hW hMW.1 hMW.2.1 args, ag_word hG hW hMW.2.2.1 rfl args, hMW.2.2.2.2.1, f3, ag_word hG hW g7 rfl args, ag_word hG hW (hMW.2.2.2.2.2.2.2.2.1 (Or.inr g5)) rfl args⟩ ⟨hbl, hpre⟩ rfl (by rw [List.length_map]; omega) hL.1 hstk hroom hd ⟨hc1, hc2⟩
  · -- static, of a nest mate
    obtain ⟨g1, g2, g3, g4, g5, g6, g7⟩ := hcw
    obtain ⟨hMW, f1, f2, f3⟩ := common g1 g2 g3 rfl
    obtain ⟨v, rfl⟩ : ∃ v, r1 = Sum.inl v := hr1.resolve_right g6
    rcases hkd with ⟨q, -⟩ | ⟨q, -⟩ | ⟨-, -, -, -, hop1⟩
    · omega
    · omega
    · subst hop1
      have hd : decode (ag_by y) pc = .ok (.invokestatic idx, 3) := by
        rcases hop with ⟨q, -⟩ | ⟨-, q⟩ | ⟨q, -⟩
        · cases q
        · exact q
        · cases q
      have hcw9 : ag_cw y' = Cond.code (ag_ny y') (ag_by y') (ag_mx y') (ag_rt y') := by unfold ag_cw; rw [if_neg (by omega)]
      refine ag_after (a := (as.map (ag_v (ag_f G))).toArray) (rest := rest) hI hle ?_ (fun H' locs' q => kv v H' locs' rfl q)
      exact va_runSN (n := ag_np y') (bytes := ag_by y') (maxL := ag_mx y') (ret := ag_rt y') (host := ag_host (ag_ow y)) fix (As := as.map (ag_v (ag_f G))) (ag_Ct_met hM) ⟨⟨⟨rfl, rfl, f1, f2, hgood hMW, by rw [← hcw9]; exact List.mem_cons_self⟩, by rw [← hcw9]; exact ag_word hG hW hMW.1 hMW.2.1 args, ag_word hG hW hMW.2.2.1 rfl args, hMW.2.2.2.2.1, f3, va_Nw.use rfl (va_Nw.warmM hW (va_Nw.of rfl (hG.1 _ g7)))⟩, ag_word hG hW (hMW.2.2.2.2.2.2.2.2.1 (Or.inl g5)) rfl args, trivial⟩ ⟨hbl, hpre⟩ rfl (by rw [List.length_map]; omega) hL.1 hstk hroom hd ⟨hc1, hc2⟩
  · -- a constructor
    obtain ⟨g1, g2, g3, g4, g5, g6, g7⟩ := hcw
    obtain ⟨hMW, f1, f2, f3⟩ := common g1 g2 g3 rfl
    obtain ⟨v, rfl⟩ : ∃ v, r1 = Sum.inl v := hr1.resolve_right g6
    rcases hkd with ⟨q, -⟩ | ⟨-, hop2, a, tl, rfl⟩ | ⟨-, -, q, -⟩
    · omega
    · subst hop2
      have hd : decode (ag_by y) pc = .ok (.invokespecial idx, 3) := by
        rcases hop with ⟨q, -⟩ | ⟨q, -⟩ | ⟨-, q⟩
        · cases q
        · cases q
        · exact q
      have hin := hMW.2.2.2.2.2.2.2.2.2 g5
      have hcw9 : ag_cw y' = Cond.code (ag_ny y') (ag_by y') (ag_mx y') none := by unfold ag_cw; rw [if_neg (by omega), hin.2.2]
      refine ag_after (a := (Value.ref (ag_f G a) :: tl.map (ag_v (ag_f G))).toArray) (rest := rest) hI hle ?_ (fun H' locs' q => kv v H' locs' rfl q)
      refine va_runI (n := ag_np y') (bytes := ag_by y') (maxL := ag_mx y') fix (As := tl.map (ag_v (ag_f G))) (b := ag_f G a) (ag_Ct_met hM) ⟨⟨rfl, rfl, f1, f2, hgood hMW, by rw [← hcw9]; exact List.mem_cons_self, by rw [← hcw9]; exact ag_word hG hW hMW.1 hMW.2.1 args, ag_word hG hW hMW.2.2.1 rfl args, hMW.2.2.2.2.1, f3, ag_word hG hW g7 rfl args⟩, hin.2.1, ag_word hG hW hin.1 rfl args⟩ ⟨hbl, hpre⟩ rfl ?_ hL.1 ?_ hroom hd ⟨hc1, hc2⟩
      · rw [List.length_map]
        rw [List.length_cons] at hn
        omega
      · show (((ag_R a :: tl).reverse ++ rest).map (ag_v (ag_f G))) = _
        rw [hstk, List.map_cons, List.reverse_cons, List.append_assoc]
        rfl
    · exact absurd rfl q
  · -- a constructor of a nest mate
    obtain ⟨g1, g2, g3, g4, g5, g6, g7⟩ := hcw
    obtain ⟨hMW, f1, f2, f3⟩ := common g1 g2 g3 rfl
    obtain ⟨v, rfl⟩ : ∃ v, r1 = Sum.inl v := hr1.resolve_right g6
    rcases hkd with ⟨q, -⟩ | ⟨-, hop2, a, tl, rfl⟩ | ⟨-, -, -, q, -⟩
    · omega
    · subst hop2
      have hd : decode (ag_by y) pc = .ok (.invokespecial idx, 3) := by
        rcases hop with ⟨q, -⟩ | ⟨q, -⟩ | ⟨-, q⟩
        · cases q
        · cases q
        · exact q
      have hin := hMW.2.2.2.2.2.2.2.2.2 g5
      have hcw9 : ag_cw y' = Cond.code (ag_ny y') (ag_by y') (ag_mx y') none := by unfold ag_cw; rw [if_neg (by omega), hin.2.2]
      refine ag_after (a := (Value.ref (ag_f G a) :: tl.map (ag_v (ag_f G))).toArray) (rest := rest) hI hle ?_ (fun H' locs' q => kv v H' locs' rfl q)
      refine va_runIN (n := ag_np y') (bytes := ag_by y') (maxL := ag_mx y') (host := ag_host (ag_ow y)) fix (As := tl.map (ag_v (ag_f G))) (b := ag_f G a) (ag_Ct_met hM) ⟨⟨⟨rfl, rfl, f1, f2, hgood hMW, by rw [← hcw9]; exact List.mem_cons_self⟩, by rw [← hcw9]; exact ag_word hG hW hMW.1 hMW.2.1 args, ag_word hG hW hMW.2.2.1 rfl args, hMW.2.2.2.2.1, f3, va_Nw.use rfl (va_Nw.warmM hW (va_Nw.of rfl (hG.1 _ g7)))⟩, hin.2.1, ag_word hG hW hin.1 rfl args⟩ ⟨hbl, hpre⟩ rfl ?_ hL.1 ?_ hroom hd ⟨hc1, hc2⟩
      · rw [List.length_map]
        rw [List.length_cons] at hn
        omega
      · show (((ag_R a :: tl).reverse ++ rest).map (ag_v (ag_f G))) = _
        rw [hstk, List.map_cons, List.reverse_cons, List.append_assoc]
        rfl
    · exact absurd rfl q
  · exact hcw.elim
end AGM
