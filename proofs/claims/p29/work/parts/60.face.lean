/-! THE OFFICE in a store (by program, wip/whole/gen_face.py): the object 1, the House 2, the Petitions 7, the Course now 10 (Bill 11, Papers 20), the Course trial 27 (Bill 28, Papers 37), the row ends 44. -/
variable {B : Nat}
abbrev ag_O : Type := (Nat → Nat → Int) × (Nat → Int)
def ag_CX (B : Nat) (τ : ag_S) (H Q : ag_O) (S : ag_T) (m : Nat) (T : ag_T) (mt : Nat) (en : Nat → Int) : Prop :=
  τ.1 (B + 1) = some (Sum.inr (Sum.inr (Sum.inr (5, [ag_R (B + 2), ag_R (B + 7), ag_R (B + 10), ag_R (B + 27), ag_R (B + 44)])))) ∧ ag_CH τ (B + 2) H.1 H.2 ∧ ag_CQ τ (B + 7) Q.1 Q.2 ∧
  τ.1 (B + 10) = some (Sum.inr (Sum.inr (Sum.inr (1, [ag_R (B + 11), ag_R (B + 20), ag_R (B + 2)])))) ∧ ag_CB τ (B + 11) S.1 (ag_vB S.2.1 S.2.2.1) ∧ ag_CP τ (B + 20) S.2.2.2 (ag_vP m) ∧
  τ.1 (B + 27) = some (Sum.inr (Sum.inr (Sum.inr (1, [ag_R (B + 28), ag_R (B + 37), ag_R (B + 2)])))) ∧ ag_CB τ (B + 28) T.1 (ag_vB T.2.1 T.2.2.1) ∧ ag_CP τ (B + 37) T.2.2.2 (ag_vP mt) ∧ τ.1 (B + 44) = some (Sum.inl (20, en))
/-- beyond the office nothing has changed -/
def ag_Fr (B : Nat) (τ τ' : ag_S) : Prop := ∀ z, z ≤ B ∨ B + 45 ≤ z → τ'.1 z = τ.1 z
theorem ag_Fr_refl (τ : ag_S) : ag_Fr B τ τ := fun _ _ => rfl
theorem ag_Fr_trans {a b c : ag_S} (h1 : ag_Fr B a b) (h2 : ag_Fr B b c) : ag_Fr B a c := fun z hz => (h2 z hz).trans (h1 z hz)
/-- an exception made -/
def ag_bp (τ : ag_S) : ag_S := (τ.1, (τ.2.1 + 1, τ.2.2 + 6))
theorem ag_bp_eq (τ : ag_S) : ((τ.1, (τ.2.1 + 1, τ.2.2 + 6)) : ag_S) = ag_bp τ := rfl
theorem ag_CB_fr {σ τ : ag_S} {a : Nat} {g : Nat → Nat → Int} {v : Nat → Int} (h : ag_CB σ a g v) (hf : ∀ z, a ≤ z → z ≤ a + 8 → τ.1 z = σ.1 z) : ag_CB τ a g v := by
  obtain ⟨h0, h1, h2, h3, h4, h5, h6, h7, h8⟩ := h
  exact ⟨(hf _ (by omega) (by omega)).trans h0, (hf _ (by omega) (by omega)).trans h1, (hf _ (by omega) (by omega)).trans h2, (hf _ (by omega) (by omega)).trans h3, (hf _ (by omega) (by omega)).trans h4, (hf _ (by omega) (by omega)).trans h5, (hf _ (by omega) (by omega)).trans h6, (hf _ (by omega) (by omega)).trans h7, (hf _ (by omega) (by omega)).trans h8⟩
theorem ag_CB_ro {τ : ag_S} {a y : Nat} {g : Nat → Nat → Int} {v : Nat → Int} {as : List ag_V} {r : ag_Rs} (hC : ag_CB τ a g v) (h : ∀ σ K, ag_cl9 y as (ag_SB σ a g v) K = K r (ag_SB σ a g v)) (K : ag_Rs → ag_S → Prop) : ag_cl9 y as τ K = K r τ := by
  have := h τ K
  rwa [ag_SB_of hC] at this
theorem ag_CB_rw {τ : ag_S} {a y : Nat} {g g' : Nat → Nat → Int} {v v' : Nat → Int} {as : List ag_V} {r : ag_Rs} (hC : ag_CB τ a g v) (h : ∀ σ K, ag_cl9 y as (ag_SB σ a g v) K = K r (ag_SB σ a g' v')) (K : ag_Rs → ag_S → Prop) : ag_cl9 y as τ K = K r (ag_SB τ a g' v') := by
  have := h τ K
  rwa [ag_SB_of hC] at this
theorem ag_CP_fr {σ τ : ag_S} {a : Nat} {g : Nat → Nat → Int} {v : Nat → Int} (h : ag_CP σ a g v) (hf : ∀ z, a ≤ z → z ≤ a + 6 → τ.1 z = σ.1 z) : ag_CP τ a g v := by
  obtain ⟨h0, h1, h2, h3, h4, h5, h6⟩ := h
  exact ⟨(hf _ (by omega) (by omega)).trans h0, (hf _ (by omega) (by omega)).trans h1, (hf _ (by omega) (by omega)).trans h2, (hf _ (by omega) (by omega)).trans h3, (hf _ (by omega) (by omega)).trans h4, (hf _ (by omega) (by omega)).trans h5, (hf _ (by omega) (by omega)).trans h6⟩
theorem ag_CP_ro {τ : ag_S} {a y : Nat} {g : Nat → Nat → Int} {v : Nat → Int} {as : List ag_V} {r : ag_Rs} (hC : ag_CP τ a g v) (h : ∀ σ K, ag_cl9 y as (ag_SP σ a g v) K = K r (ag_SP σ a g v)) (K : ag_Rs → ag_S → Prop) : ag_cl9 y as τ K = K r τ := by
  have := h τ K
  rwa [ag_SP_of hC] at this
theorem ag_CP_rw {τ : ag_S} {a y : Nat} {g g' : Nat → Nat → Int} {v v' : Nat → Int} {as : List ag_V} {r : ag_Rs} (hC : ag_CP τ a g v) (h : ∀ σ K, ag_cl9 y as (ag_SP σ a g v) K = K r (ag_SP σ a g' v')) (K : ag_Rs → ag_S → Prop) : ag_cl9 y as τ K = K r (ag_SP τ a g' v') := by
  have := h τ K
  rwa [ag_SP_of hC] at this
theorem ag_CH_fr {σ τ : ag_S} {a : Nat} {g : Nat → Nat → Int} {v : Nat → Int} (h : ag_CH σ a g v) (hf : ∀ z, a ≤ z → z ≤ a + 4 → τ.1 z = σ.1 z) : ag_CH τ a g v := by
  obtain ⟨h0, h1, h2, h3, h4⟩ := h
  exact ⟨(hf _ (by omega) (by omega)).trans h0, (hf _ (by omega) (by omega)).trans h1, (hf _ (by omega) (by omega)).trans h2, (hf _ (by omega) (by omega)).trans h3, (hf _ (by omega) (by omega)).trans h4⟩
theorem ag_CH_ro {τ : ag_S} {a y : Nat} {g : Nat → Nat → Int} {v : Nat → Int} {as : List ag_V} {r : ag_Rs} (hC : ag_CH τ a g v) (h : ∀ σ K, ag_cl9 y as (ag_SH σ a g v) K = K r (ag_SH σ a g v)) (K : ag_Rs → ag_S → Prop) : ag_cl9 y as τ K = K r τ := by
  have := h τ K
  rwa [ag_SH_of hC] at this
theorem ag_CH_rw {τ : ag_S} {a y : Nat} {g g' : Nat → Nat → Int} {v v' : Nat → Int} {as : List ag_V} {r : ag_Rs} (hC : ag_CH τ a g v) (h : ∀ σ K, ag_cl9 y as (ag_SH σ a g v) K = K r (ag_SH σ a g' v')) (K : ag_Rs → ag_S → Prop) : ag_cl9 y as τ K = K r (ag_SH τ a g' v') := by
  have := h τ K
  rwa [ag_SH_of hC] at this
theorem ag_CQ_fr {σ τ : ag_S} {a : Nat} {g : Nat → Nat → Int} {v : Nat → Int} (h : ag_CQ σ a g v) (hf : ∀ z, a ≤ z → z ≤ a + 2 → τ.1 z = σ.1 z) : ag_CQ τ a g v := by
  obtain ⟨h0, h1, h2⟩ := h
  exact ⟨(hf _ (by omega) (by omega)).trans h0, (hf _ (by omega) (by omega)).trans h1, (hf _ (by omega) (by omega)).trans h2⟩
theorem ag_CQ_ro {τ : ag_S} {a y : Nat} {g : Nat → Nat → Int} {v : Nat → Int} {as : List ag_V} {r : ag_Rs} (hC : ag_CQ τ a g v) (h : ∀ σ K, ag_cl9 y as (ag_SQ σ a g v) K = K r (ag_SQ σ a g v)) (K : ag_Rs → ag_S → Prop) : ag_cl9 y as τ K = K r τ := by
  have := h τ K
  rwa [ag_SQ_of hC] at this
theorem ag_CQ_rw {τ : ag_S} {a y : Nat} {g g' : Nat → Nat → Int} {v v' : Nat → Int} {as : List ag_V} {r : ag_Rs} (hC : ag_CQ τ a g v) (h : ∀ σ K, ag_cl9 y as (ag_SQ σ a g v) K = K r (ag_SQ σ a g' v')) (K : ag_Rs → ag_S → Prop) : ag_cl9 y as τ K = K r (ag_SQ τ a g' v') := by
  have := h τ K
  rwa [ag_SQ_of hC] at this
theorem ag_CX_B {τ : ag_S} {H Q : ag_O} {S : ag_T} {m : Nat} {T : ag_T} {mt : Nat} {en : Nat → Int} {g : Nat → Nat → Int} {w n : Nat} (h : ag_CX B τ H Q S m T mt en) : ag_CX B (ag_SB τ (B + 11) g (ag_vB w n)) H Q (g, (w, (n, S.2.2.2))) m T mt en := by
  obtain ⟨h1, h2, h3, h4, h5, h6, h7, h8, h9, h10⟩ := h
  exact ⟨(ag_SB_fr _ _ _ _ (by omega)).trans h1, ag_CH_fr h2 (fun z _ _ => ag_SB_fr _ _ _ _ (by omega)), ag_CQ_fr h3 (fun z _ _ => ag_SB_fr _ _ _ _ (by omega)), (ag_SB_fr _ _ _ _ (by omega)).trans h4, ag_SB_c _ _ _ _, ag_CP_fr h6 (fun z _ _ => ag_SB_fr _ _ _ _ (by omega)), (ag_SB_fr _ _ _ _ (by omega)).trans h7, ag_CB_fr h8 (fun z _ _ => ag_SB_fr _ _ _ _ (by omega)), ag_CP_fr h9 (fun z _ _ => ag_SB_fr _ _ _ _ (by omega)), (ag_SB_fr _ _ _ _ (by omega)).trans h10⟩
theorem ag_Fr_B (τ : ag_S) {g : Nat → Nat → Int} {w n : Nat} : ag_Fr B τ (ag_SB τ (B + 11) g (ag_vB w n)) := fun z hz => ag_SB_fr _ _ _ _ (by omega)
theorem ag_CX_P {τ : ag_S} {H Q : ag_O} {S : ag_T} {m : Nat} {T : ag_T} {mt : Nat} {en : Nat → Int} {g : Nat → Nat → Int} {k : Nat} (h : ag_CX B τ H Q S m T mt en) : ag_CX B (ag_SP τ (B + 20) g (ag_vP k)) H Q (S.1, (S.2.1, (S.2.2.1, g))) k T mt en := by
  obtain ⟨h1, h2, h3, h4, h5, h6, h7, h8, h9, h10⟩ := h
  exact ⟨(ag_SP_fr _ _ _ _ (by omega)).trans h1, ag_CH_fr h2 (fun z _ _ => ag_SP_fr _ _ _ _ (by omega)), ag_CQ_fr h3 (fun z _ _ => ag_SP_fr _ _ _ _ (by omega)), (ag_SP_fr _ _ _ _ (by omega)).trans h4, ag_CB_fr h5 (fun z _ _ => ag_SP_fr _ _ _ _ (by omega)), ag_SP_c _ _ _ _, (ag_SP_fr _ _ _ _ (by omega)).trans h7, ag_CB_fr h8 (fun z _ _ => ag_SP_fr _ _ _ _ (by omega)), ag_CP_fr h9 (fun z _ _ => ag_SP_fr _ _ _ _ (by omega)), (ag_SP_fr _ _ _ _ (by omega)).trans h10⟩
theorem ag_Fr_P (τ : ag_S) {g : Nat → Nat → Int} {k : Nat} : ag_Fr B τ (ag_SP τ (B + 20) g (ag_vP k)) := fun z hz => ag_SP_fr _ _ _ _ (by omega)
theorem ag_CX_H {τ : ag_S} {H Q : ag_O} {S : ag_T} {m : Nat} {T : ag_T} {mt : Nat} {en : Nat → Int} {g : Nat → Nat → Int} {v : Nat → Int} (h : ag_CX B τ H Q S m T mt en) : ag_CX B (ag_SH τ (B + 2) g v) (g, v) Q S m T mt en := by
  obtain ⟨h1, h2, h3, h4, h5, h6, h7, h8, h9, h10⟩ := h
  exact ⟨(ag_SH_fr _ _ _ _ (by omega)).trans h1, ag_SH_c _ _ _ _, ag_CQ_fr h3 (fun z _ _ => ag_SH_fr _ _ _ _ (by omega)), (ag_SH_fr _ _ _ _ (by omega)).trans h4, ag_CB_fr h5 (fun z _ _ => ag_SH_fr _ _ _ _ (by omega)), ag_CP_fr h6 (fun z _ _ => ag_SH_fr _ _ _ _ (by omega)), (ag_SH_fr _ _ _ _ (by omega)).trans h7, ag_CB_fr h8 (fun z _ _ => ag_SH_fr _ _ _ _ (by omega)), ag_CP_fr h9 (fun z _ _ => ag_SH_fr _ _ _ _ (by omega)), (ag_SH_fr _ _ _ _ (by omega)).trans h10⟩
theorem ag_Fr_H (τ : ag_S) {g : Nat → Nat → Int} {v : Nat → Int} : ag_Fr B τ (ag_SH τ (B + 2) g v) := fun z hz => ag_SH_fr _ _ _ _ (by omega)
theorem ag_CX_Q {τ : ag_S} {H Q : ag_O} {S : ag_T} {m : Nat} {T : ag_T} {mt : Nat} {en : Nat → Int} {g : Nat → Nat → Int} {v : Nat → Int} (h : ag_CX B τ H Q S m T mt en) : ag_CX B (ag_SQ τ (B + 7) g v) H (g, v) S m T mt en := by
  obtain ⟨h1, h2, h3, h4, h5, h6, h7, h8, h9, h10⟩ := h
  exact ⟨(ag_SQ_fr _ _ _ _ (by omega)).trans h1, ag_CH_fr h2 (fun z _ _ => ag_SQ_fr _ _ _ _ (by omega)), ag_SQ_c _ _ _ _, (ag_SQ_fr _ _ _ _ (by omega)).trans h4, ag_CB_fr h5 (fun z _ _ => ag_SQ_fr _ _ _ _ (by omega)), ag_CP_fr h6 (fun z _ _ => ag_SQ_fr _ _ _ _ (by omega)), (ag_SQ_fr _ _ _ _ (by omega)).trans h7, ag_CB_fr h8 (fun z _ _ => ag_SQ_fr _ _ _ _ (by omega)), ag_CP_fr h9 (fun z _ _ => ag_SQ_fr _ _ _ _ (by omega)), (ag_SQ_fr _ _ _ _ (by omega)).trans h10⟩
theorem ag_Fr_Q (τ : ag_S) {g : Nat → Nat → Int} {v : Nat → Int} : ag_Fr B τ (ag_SQ τ (B + 7) g v) := fun z hz => ag_SQ_fr _ _ _ _ (by omega)
theorem ag_CX_V {τ : ag_S} {H Q : ag_O} {S : ag_T} {m : Nat} {T : ag_T} {mt : Nat} {en : Nat → Int} {g : Nat → Nat → Int} {w n : Nat} (h : ag_CX B τ H Q S m T mt en) : ag_CX B (ag_SB τ (B + 28) g (ag_vB w n)) H Q S m (g, (w, (n, T.2.2.2))) mt en := by
  obtain ⟨h1, h2, h3, h4, h5, h6, h7, h8, h9, h10⟩ := h
  exact ⟨(ag_SB_fr _ _ _ _ (by omega)).trans h1, ag_CH_fr h2 (fun z _ _ => ag_SB_fr _ _ _ _ (by omega)), ag_CQ_fr h3 (fun z _ _ => ag_SB_fr _ _ _ _ (by omega)), (ag_SB_fr _ _ _ _ (by omega)).trans h4, ag_CB_fr h5 (fun z _ _ => ag_SB_fr _ _ _ _ (by omega)), ag_CP_fr h6 (fun z _ _ => ag_SB_fr _ _ _ _ (by omega)), (ag_SB_fr _ _ _ _ (by omega)).trans h7, ag_SB_c _ _ _ _, ag_CP_fr h9 (fun z _ _ => ag_SB_fr _ _ _ _ (by omega)), (ag_SB_fr _ _ _ _ (by omega)).trans h10⟩
theorem ag_Fr_V (τ : ag_S) {g : Nat → Nat → Int} {w n : Nat} : ag_Fr B τ (ag_SB τ (B + 28) g (ag_vB w n)) := fun z hz => ag_SB_fr _ _ _ _ (by omega)
theorem ag_CX_W {τ : ag_S} {H Q : ag_O} {S : ag_T} {m : Nat} {T : ag_T} {mt : Nat} {en : Nat → Int} {g : Nat → Nat → Int} {k : Nat} (h : ag_CX B τ H Q S m T mt en) : ag_CX B (ag_SP τ (B + 37) g (ag_vP k)) H Q S m (T.1, (T.2.1, (T.2.2.1, g))) k en := by
  obtain ⟨h1, h2, h3, h4, h5, h6, h7, h8, h9, h10⟩ := h
  exact ⟨(ag_SP_fr _ _ _ _ (by omega)).trans h1, ag_CH_fr h2 (fun z _ _ => ag_SP_fr _ _ _ _ (by omega)), ag_CQ_fr h3 (fun z _ _ => ag_SP_fr _ _ _ _ (by omega)), (ag_SP_fr _ _ _ _ (by omega)).trans h4, ag_CB_fr h5 (fun z _ _ => ag_SP_fr _ _ _ _ (by omega)), ag_CP_fr h6 (fun z _ _ => ag_SP_fr _ _ _ _ (by omega)), (ag_SP_fr _ _ _ _ (by omega)).trans h7, ag_CB_fr h8 (fun z _ _ => ag_SP_fr _ _ _ _ (by omega)), ag_SP_c _ _ _ _, (ag_SP_fr _ _ _ _ (by omega)).trans h10⟩
theorem ag_Fr_W (τ : ag_S) {g : Nat → Nat → Int} {k : Nat} : ag_Fr B τ (ag_SP τ (B + 37) g (ag_vP k)) := fun z hz => ag_SP_fr _ _ _ _ (by omega)
theorem ag_CX_E {τ : ag_S} {H Q : ag_O} {S : ag_T} {m : Nat} {T : ag_T} {mt : Nat} {en : Nat → Int} {en' : Nat → Int} (h : ag_CX B τ H Q S m T mt en) : ag_CX B (ag_up τ.1 (B + 44) (Sum.inl (20, en')), τ.2) H Q S m T mt en' := by
  obtain ⟨h1, h2, h3, h4, h5, h6, h7, h8, h9, h10⟩ := h
  have f : ∀ z, z ≠ B + 44 → (ag_up τ.1 (B + 44) (Sum.inl (20, en')), τ.2).1 z = τ.1 z := fun z hz => if_neg hz
  exact ⟨(f _ (by omega)).trans h1, ag_CH_fr h2 (fun z _ _ => f z (by omega)), ag_CQ_fr h3 (fun z _ _ => f z (by omega)), (f _ (by omega)).trans h4, ag_CB_fr h5 (fun z _ _ => f z (by omega)), ag_CP_fr h6 (fun z _ _ => f z (by omega)), (f _ (by omega)).trans h7, ag_CB_fr h8 (fun z _ _ => f z (by omega)), ag_CP_fr h9 (fun z _ _ => f z (by omega)), show (if B + 44 = B + 44 then some (Sum.inl (20, en')) else τ.1 (B + 44)) = _ from if_pos rfl⟩
theorem ag_Fr_E (τ : ag_S) {en' : Nat → Int} : ag_Fr B τ (ag_up τ.1 (B + 44) (Sum.inl (20, en')), τ.2) := fun z hz => if_neg (by omega)
theorem ag_CX_bp {τ : ag_S} {H Q : ag_O} {S : ag_T} {m : Nat} {T : ag_T} {mt : Nat} {en : Nat → Int} (h : ag_CX B τ H Q S m T mt en) : ag_CX B (ag_bp τ) H Q S m T mt en := h
theorem ag_CX_fr {τ : ag_S} {H Q : ag_O} {S : ag_T} {m : Nat} {T : ag_T} {mt : Nat} {en : Nat → Int} {τ' : ag_S} (h : ag_CX B τ H Q S m T mt en) (hf : ∀ z, B + 1 ≤ z → z ≤ B + 44 → τ'.1 z = τ.1 z) : ag_CX B τ' H Q S m T mt en := by
  obtain ⟨h1, h2, h3, h4, h5, h6, h7, h8, h9, h10⟩ := h
  exact ⟨(hf _ (by omega) (by omega)).trans h1, ag_CH_fr h2 (fun z _ _ => hf z (by omega) (by omega)), ag_CQ_fr h3 (fun z _ _ => hf z (by omega) (by omega)), (hf _ (by omega) (by omega)).trans h4, ag_CB_fr h5 (fun z _ _ => hf z (by omega) (by omega)), ag_CP_fr h6 (fun z _ _ => hf z (by omega) (by omega)), (hf _ (by omega) (by omega)).trans h7, ag_CB_fr h8 (fun z _ _ => hf z (by omega) (by omega)), ag_CP_fr h9 (fun z _ _ => hf z (by omega) (by omega)), (hf _ (by omega) (by omega)).trans h10⟩
section AGX
variable {τ : ag_S} {H Q : ag_O} {S : ag_T} {m : Nat} {T : ag_T} {mt : Nat} {en : Nat → Int}
theorem ag_gf_at {τ : ag_S} {a ci k : Nat} {fs : List ag_V} {v : ag_V} (h : τ.1 a = some (Sum.inr (Sum.inr (Sum.inr (ci, fs))))) (hk : fs[k]? = some v) (K : ag_V → Prop) : ag_gf τ a ci k K = K v := by
  unfold ag_gf
  rw [h]
  dsimp only
  rw [hk]
  simp
theorem ag_ck_at {τ : ag_S} {a ci : Nat} {fs : List ag_V} (h : τ.1 a = some (Sum.inr (Sum.inr (Sum.inr (ci, fs))))) (P : Prop) : ag_ck τ a ci P = P := by
  unfold ag_ck
  rw [h]
  simp
theorem ag_X_o0 (h : ag_CX B τ H Q S m T mt en) (K : ag_V → Prop) : ag_gf τ (B + 1) 5 0 K = K (ag_R (B + 2)) := ag_gf_at (h.1) rfl K
theorem ag_X_o1 (h : ag_CX B τ H Q S m T mt en) (K : ag_V → Prop) : ag_gf τ (B + 1) 5 1 K = K (ag_R (B + 7)) := ag_gf_at (h.1) rfl K
theorem ag_X_o2 (h : ag_CX B τ H Q S m T mt en) (K : ag_V → Prop) : ag_gf τ (B + 1) 5 2 K = K (ag_R (B + 10)) := ag_gf_at (h.1) rfl K
theorem ag_X_o3 (h : ag_CX B τ H Q S m T mt en) (K : ag_V → Prop) : ag_gf τ (B + 1) 5 3 K = K (ag_R (B + 27)) := ag_gf_at (h.1) rfl K
theorem ag_X_o4 (h : ag_CX B τ H Q S m T mt en) (K : ag_V → Prop) : ag_gf τ (B + 1) 5 4 K = K (ag_R (B + 44)) := ag_gf_at (h.1) rfl K
theorem ag_X_oc (h : ag_CX B τ H Q S m T mt en) (P : Prop) : ag_ck τ (B + 1) 5 P = P := ag_ck_at (h.1) P
theorem ag_X_n0 (h : ag_CX B τ H Q S m T mt en) (K : ag_V → Prop) : ag_gf τ (B + 10) 1 0 K = K (ag_R (B + 11)) := ag_gf_at (h.2.2.2.1) rfl K
theorem ag_X_n1 (h : ag_CX B τ H Q S m T mt en) (K : ag_V → Prop) : ag_gf τ (B + 10) 1 1 K = K (ag_R (B + 20)) := ag_gf_at (h.2.2.2.1) rfl K
theorem ag_X_n2 (h : ag_CX B τ H Q S m T mt en) (K : ag_V → Prop) : ag_gf τ (B + 10) 1 2 K = K (ag_R (B + 2)) := ag_gf_at (h.2.2.2.1) rfl K
theorem ag_X_nc (h : ag_CX B τ H Q S m T mt en) (P : Prop) : ag_ck τ (B + 10) 1 P = P := ag_ck_at (h.2.2.2.1) P
theorem ag_X_t0 (h : ag_CX B τ H Q S m T mt en) (K : ag_V → Prop) : ag_gf τ (B + 27) 1 0 K = K (ag_R (B + 28)) := ag_gf_at (h.2.2.2.2.2.2.1) rfl K
theorem ag_X_t1 (h : ag_CX B τ H Q S m T mt en) (K : ag_V → Prop) : ag_gf τ (B + 27) 1 1 K = K (ag_R (B + 37)) := ag_gf_at (h.2.2.2.2.2.2.1) rfl K
theorem ag_X_t2 (h : ag_CX B τ H Q S m T mt en) (K : ag_V → Prop) : ag_gf τ (B + 27) 1 2 K = K (ag_R (B + 2)) := ag_gf_at (h.2.2.2.2.2.2.1) rfl K
theorem ag_X_tc (h : ag_CX B τ H Q S m T mt en) (P : Prop) : ag_ck τ (B + 27) 1 P = P := ag_ck_at (h.2.2.2.2.2.2.1) P
theorem ag_X_b0 (h : ag_CX B τ H Q S m T mt en) (K : ag_V → Prop) : ag_gf τ (B + 11) 0 0 K = K (ag_R (B + 12)) := ag_gf_at (h.2.2.2.2.1.1) rfl K
theorem ag_X_b1 (h : ag_CX B τ H Q S m T mt en) (K : ag_V → Prop) : ag_gf τ (B + 11) 0 1 K = K (ag_R (B + 13)) := ag_gf_at (h.2.2.2.2.1.1) rfl K
theorem ag_X_b2 (h : ag_CX B τ H Q S m T mt en) (K : ag_V → Prop) : ag_gf τ (B + 11) 0 2 K = K (ag_R (B + 14)) := ag_gf_at (h.2.2.2.2.1.1) rfl K
theorem ag_X_b3 (h : ag_CX B τ H Q S m T mt en) (K : ag_V → Prop) : ag_gf τ (B + 11) 0 3 K = K (ag_R (B + 15)) := ag_gf_at (h.2.2.2.2.1.1) rfl K
theorem ag_X_b4 (h : ag_CX B τ H Q S m T mt en) (K : ag_V → Prop) : ag_gf τ (B + 11) 0 4 K = K (ag_R (B + 16)) := ag_gf_at (h.2.2.2.2.1.1) rfl K
theorem ag_X_b5 (h : ag_CX B τ H Q S m T mt en) (K : ag_V → Prop) : ag_gf τ (B + 11) 0 5 K = K (ag_R (B + 17)) := ag_gf_at (h.2.2.2.2.1.1) rfl K
theorem ag_X_b6 (h : ag_CX B τ H Q S m T mt en) (K : ag_V → Prop) : ag_gf τ (B + 11) 0 6 K = K (ag_R (B + 18)) := ag_gf_at (h.2.2.2.2.1.1) rfl K
theorem ag_X_b7 (h : ag_CX B τ H Q S m T mt en) (K : ag_V → Prop) : ag_gf τ (B + 11) 0 7 K = K (ag_R (B + 19)) := ag_gf_at (h.2.2.2.2.1.1) rfl K
theorem ag_X_b8 (h : ag_CX B τ H Q S m T mt en) (K : ag_V → Prop) : ag_gf τ (B + 11) 0 8 K = K (ag_I S.2.1) := ag_gf_at (h.2.2.2.2.1.1) rfl K
theorem ag_X_b9 (h : ag_CX B τ H Q S m T mt en) (K : ag_V → Prop) : ag_gf τ (B + 11) 0 9 K = K (ag_I S.2.2.1) := ag_gf_at (h.2.2.2.2.1.1) rfl K
theorem ag_X_bc (h : ag_CX B τ H Q S m T mt en) (P : Prop) : ag_ck τ (B + 11) 0 P = P := ag_ck_at (h.2.2.2.2.1.1) P
theorem ag_X_p0 (h : ag_CX B τ H Q S m T mt en) (K : ag_V → Prop) : ag_gf τ (B + 20) 3 0 K = K (ag_R (B + 21)) := ag_gf_at (h.2.2.2.2.2.1.1) rfl K
theorem ag_X_p1 (h : ag_CX B τ H Q S m T mt en) (K : ag_V → Prop) : ag_gf τ (B + 20) 3 1 K = K (ag_R (B + 22)) := ag_gf_at (h.2.2.2.2.2.1.1) rfl K
theorem ag_X_p2 (h : ag_CX B τ H Q S m T mt en) (K : ag_V → Prop) : ag_gf τ (B + 20) 3 2 K = K (ag_R (B + 23)) := ag_gf_at (h.2.2.2.2.2.1.1) rfl K
theorem ag_X_p3 (h : ag_CX B τ H Q S m T mt en) (K : ag_V → Prop) : ag_gf τ (B + 20) 3 3 K = K (ag_R (B + 24)) := ag_gf_at (h.2.2.2.2.2.1.1) rfl K
theorem ag_X_p4 (h : ag_CX B τ H Q S m T mt en) (K : ag_V → Prop) : ag_gf τ (B + 20) 3 4 K = K (ag_R (B + 25)) := ag_gf_at (h.2.2.2.2.2.1.1) rfl K
theorem ag_X_p5 (h : ag_CX B τ H Q S m T mt en) (K : ag_V → Prop) : ag_gf τ (B + 20) 3 5 K = K (ag_R (B + 26)) := ag_gf_at (h.2.2.2.2.2.1.1) rfl K
theorem ag_X_p6 (h : ag_CX B τ H Q S m T mt en) (K : ag_V → Prop) : ag_gf τ (B + 20) 3 6 K = K (ag_I m) := ag_gf_at (h.2.2.2.2.2.1.1) rfl K
theorem ag_X_pc (h : ag_CX B τ H Q S m T mt en) (P : Prop) : ag_ck τ (B + 20) 3 P = P := ag_ck_at (h.2.2.2.2.2.1.1) P
theorem ag_X_h0 (h : ag_CX B τ H Q S m T mt en) (K : ag_V → Prop) : ag_gf τ (B + 2) 2 0 K = K (ag_R (B + 3)) := ag_gf_at (h.2.1.1) rfl K
theorem ag_X_h1 (h : ag_CX B τ H Q S m T mt en) (K : ag_V → Prop) : ag_gf τ (B + 2) 2 1 K = K (ag_R (B + 4)) := ag_gf_at (h.2.1.1) rfl K
theorem ag_X_h2 (h : ag_CX B τ H Q S m T mt en) (K : ag_V → Prop) : ag_gf τ (B + 2) 2 2 K = K (ag_R (B + 5)) := ag_gf_at (h.2.1.1) rfl K
theorem ag_X_h3 (h : ag_CX B τ H Q S m T mt en) (K : ag_V → Prop) : ag_gf τ (B + 2) 2 3 K = K (ag_R (B + 6)) := ag_gf_at (h.2.1.1) rfl K
theorem ag_X_h4 (h : ag_CX B τ H Q S m T mt en) (K : ag_V → Prop) : ag_gf τ (B + 2) 2 4 K = K (ag_I (H.2 0)) := ag_gf_at (h.2.1.1) rfl K
theorem ag_X_h5 (h : ag_CX B τ H Q S m T mt en) (K : ag_V → Prop) : ag_gf τ (B + 2) 2 5 K = K (ag_I (H.2 1)) := ag_gf_at (h.2.1.1) rfl K
theorem ag_X_h6 (h : ag_CX B τ H Q S m T mt en) (K : ag_V → Prop) : ag_gf τ (B + 2) 2 6 K = K (ag_I (H.2 2)) := ag_gf_at (h.2.1.1) rfl K
theorem ag_X_hc (h : ag_CX B τ H Q S m T mt en) (P : Prop) : ag_ck τ (B + 2) 2 P = P := ag_ck_at (h.2.1.1) P
theorem ag_X_q0 (h : ag_CX B τ H Q S m T mt en) (K : ag_V → Prop) : ag_gf τ (B + 7) 4 0 K = K (ag_R (B + 8)) := ag_gf_at (h.2.2.1.1) rfl K
theorem ag_X_q1 (h : ag_CX B τ H Q S m T mt en) (K : ag_V → Prop) : ag_gf τ (B + 7) 4 1 K = K (ag_R (B + 9)) := ag_gf_at (h.2.2.1.1) rfl K
theorem ag_X_q2 (h : ag_CX B τ H Q S m T mt en) (K : ag_V → Prop) : ag_gf τ (B + 7) 4 2 K = K (ag_I (Q.2 0)) := ag_gf_at (h.2.2.1.1) rfl K
theorem ag_X_qc (h : ag_CX B τ H Q S m T mt en) (P : Prop) : ag_ck τ (B + 7) 4 P = P := ag_ck_at (h.2.2.1.1) P
theorem ag_X_tb0 (h : ag_CX B τ H Q S m T mt en) (K : ag_V → Prop) : ag_gf τ (B + 28) 0 0 K = K (ag_R (B + 29)) := ag_gf_at (h.2.2.2.2.2.2.2.1.1) rfl K
theorem ag_X_tb1 (h : ag_CX B τ H Q S m T mt en) (K : ag_V → Prop) : ag_gf τ (B + 28) 0 1 K = K (ag_R (B + 30)) := ag_gf_at (h.2.2.2.2.2.2.2.1.1) rfl K
theorem ag_X_tb2 (h : ag_CX B τ H Q S m T mt en) (K : ag_V → Prop) : ag_gf τ (B + 28) 0 2 K = K (ag_R (B + 31)) := ag_gf_at (h.2.2.2.2.2.2.2.1.1) rfl K
theorem ag_X_tb3 (h : ag_CX B τ H Q S m T mt en) (K : ag_V → Prop) : ag_gf τ (B + 28) 0 3 K = K (ag_R (B + 32)) := ag_gf_at (h.2.2.2.2.2.2.2.1.1) rfl K
theorem ag_X_tb4 (h : ag_CX B τ H Q S m T mt en) (K : ag_V → Prop) : ag_gf τ (B + 28) 0 4 K = K (ag_R (B + 33)) := ag_gf_at (h.2.2.2.2.2.2.2.1.1) rfl K
theorem ag_X_tb5 (h : ag_CX B τ H Q S m T mt en) (K : ag_V → Prop) : ag_gf τ (B + 28) 0 5 K = K (ag_R (B + 34)) := ag_gf_at (h.2.2.2.2.2.2.2.1.1) rfl K
theorem ag_X_tb6 (h : ag_CX B τ H Q S m T mt en) (K : ag_V → Prop) : ag_gf τ (B + 28) 0 6 K = K (ag_R (B + 35)) := ag_gf_at (h.2.2.2.2.2.2.2.1.1) rfl K
theorem ag_X_tb7 (h : ag_CX B τ H Q S m T mt en) (K : ag_V → Prop) : ag_gf τ (B + 28) 0 7 K = K (ag_R (B + 36)) := ag_gf_at (h.2.2.2.2.2.2.2.1.1) rfl K
theorem ag_X_tb8 (h : ag_CX B τ H Q S m T mt en) (K : ag_V → Prop) : ag_gf τ (B + 28) 0 8 K = K (ag_I T.2.1) := ag_gf_at (h.2.2.2.2.2.2.2.1.1) rfl K
theorem ag_X_tb9 (h : ag_CX B τ H Q S m T mt en) (K : ag_V → Prop) : ag_gf τ (B + 28) 0 9 K = K (ag_I T.2.2.1) := ag_gf_at (h.2.2.2.2.2.2.2.1.1) rfl K
theorem ag_X_tbc (h : ag_CX B τ H Q S m T mt en) (P : Prop) : ag_ck τ (B + 28) 0 P = P := ag_ck_at (h.2.2.2.2.2.2.2.1.1) P
theorem ag_X_tp0 (h : ag_CX B τ H Q S m T mt en) (K : ag_V → Prop) : ag_gf τ (B + 37) 3 0 K = K (ag_R (B + 38)) := ag_gf_at (h.2.2.2.2.2.2.2.2.1.1) rfl K
theorem ag_X_tp1 (h : ag_CX B τ H Q S m T mt en) (K : ag_V → Prop) : ag_gf τ (B + 37) 3 1 K = K (ag_R (B + 39)) := ag_gf_at (h.2.2.2.2.2.2.2.2.1.1) rfl K
theorem ag_X_tp2 (h : ag_CX B τ H Q S m T mt en) (K : ag_V → Prop) : ag_gf τ (B + 37) 3 2 K = K (ag_R (B + 40)) := ag_gf_at (h.2.2.2.2.2.2.2.2.1.1) rfl K
theorem ag_X_tp3 (h : ag_CX B τ H Q S m T mt en) (K : ag_V → Prop) : ag_gf τ (B + 37) 3 3 K = K (ag_R (B + 41)) := ag_gf_at (h.2.2.2.2.2.2.2.2.1.1) rfl K
theorem ag_X_tp4 (h : ag_CX B τ H Q S m T mt en) (K : ag_V → Prop) : ag_gf τ (B + 37) 3 4 K = K (ag_R (B + 42)) := ag_gf_at (h.2.2.2.2.2.2.2.2.1.1) rfl K
theorem ag_X_tp5 (h : ag_CX B τ H Q S m T mt en) (K : ag_V → Prop) : ag_gf τ (B + 37) 3 5 K = K (ag_R (B + 43)) := ag_gf_at (h.2.2.2.2.2.2.2.2.1.1) rfl K
theorem ag_X_tp6 (h : ag_CX B τ H Q S m T mt en) (K : ag_V → Prop) : ag_gf τ (B + 37) 3 6 K = K (ag_I mt) := ag_gf_at (h.2.2.2.2.2.2.2.2.1.1) rfl K
theorem ag_X_tpc (h : ag_CX B τ H Q S m T mt en) (P : Prop) : ag_ck τ (B + 37) 3 P = P := ag_ck_at (h.2.2.2.2.2.2.2.2.1.1) P
theorem ag_X_ba0 (h : ag_CX B τ H Q S m T mt en) (i : Int) (K : ag_Rs → ag_S → Prop) : ag_cl9 92 [ag_R (B + 12), ag_I i] τ K = K (Sum.inl (some (ag_I (ag_rd 40 (S.1 0) i)))) τ := ag_at_eq (h.2.2.2.2.1.2.1) (by decide) i K
theorem ag_X_ba1 (h : ag_CX B τ H Q S m T mt en) (i : Int) (K : ag_Rs → ag_S → Prop) : ag_cl9 92 [ag_R (B + 13), ag_I i] τ K = K (Sum.inl (some (ag_I (ag_rd 40 (S.1 1) i)))) τ := ag_at_eq (h.2.2.2.2.1.2.2.1) (by decide) i K
theorem ag_X_ba2 (h : ag_CX B τ H Q S m T mt en) (i : Int) (K : ag_Rs → ag_S → Prop) : ag_cl9 92 [ag_R (B + 14), ag_I i] τ K = K (Sum.inl (some (ag_I (ag_rd 40 (S.1 2) i)))) τ := ag_at_eq (h.2.2.2.2.1.2.2.2.1) (by decide) i K
theorem ag_X_ba3 (h : ag_CX B τ H Q S m T mt en) (i : Int) (K : ag_Rs → ag_S → Prop) : ag_cl9 92 [ag_R (B + 15), ag_I i] τ K = K (Sum.inl (some (ag_I (ag_rd 40 (S.1 3) i)))) τ := ag_at_eq (h.2.2.2.2.1.2.2.2.2.1) (by decide) i K
theorem ag_X_ba4 (h : ag_CX B τ H Q S m T mt en) (i : Int) (K : ag_Rs → ag_S → Prop) : ag_cl9 92 [ag_R (B + 16), ag_I i] τ K = K (Sum.inl (some (ag_I (ag_rd 40 (S.1 4) i)))) τ := ag_at_eq (h.2.2.2.2.1.2.2.2.2.2.1) (by decide) i K
theorem ag_X_ba5 (h : ag_CX B τ H Q S m T mt en) (i : Int) (K : ag_Rs → ag_S → Prop) : ag_cl9 92 [ag_R (B + 17), ag_I i] τ K = K (Sum.inl (some (ag_I (ag_rd 40 (S.1 5) i)))) τ := ag_at_eq (h.2.2.2.2.1.2.2.2.2.2.2.1) (by decide) i K
theorem ag_X_ba6 (h : ag_CX B τ H Q S m T mt en) (i : Int) (K : ag_Rs → ag_S → Prop) : ag_cl9 92 [ag_R (B + 18), ag_I i] τ K = K (Sum.inl (some (ag_I (ag_rd 40 (S.1 6) i)))) τ := ag_at_eq (h.2.2.2.2.1.2.2.2.2.2.2.2.1) (by decide) i K
theorem ag_X_ba7 (h : ag_CX B τ H Q S m T mt en) (i : Int) (K : ag_Rs → ag_S → Prop) : ag_cl9 92 [ag_R (B + 19), ag_I i] τ K = K (Sum.inl (some (ag_I (ag_rd 40 (S.1 7) i)))) τ := ag_at_eq (h.2.2.2.2.1.2.2.2.2.2.2.2.2) (by decide) i K
theorem ag_X_pa0 (h : ag_CX B τ H Q S m T mt en) (i : Int) (K : ag_Rs → ag_S → Prop) : ag_cl9 92 [ag_R (B + 21), ag_I i] τ K = K (Sum.inl (some (ag_I (ag_rd 20 (S.2.2.2 0) i)))) τ := ag_at_eq (h.2.2.2.2.2.1.2.1) (by decide) i K
theorem ag_X_pa1 (h : ag_CX B τ H Q S m T mt en) (i : Int) (K : ag_Rs → ag_S → Prop) : ag_cl9 92 [ag_R (B + 22), ag_I i] τ K = K (Sum.inl (some (ag_I (ag_rd 20 (S.2.2.2 1) i)))) τ := ag_at_eq (h.2.2.2.2.2.1.2.2.1) (by decide) i K
theorem ag_X_pa2 (h : ag_CX B τ H Q S m T mt en) (i : Int) (K : ag_Rs → ag_S → Prop) : ag_cl9 92 [ag_R (B + 23), ag_I i] τ K = K (Sum.inl (some (ag_I (ag_rd 20 (S.2.2.2 2) i)))) τ := ag_at_eq (h.2.2.2.2.2.1.2.2.2.1) (by decide) i K
theorem ag_X_pa3 (h : ag_CX B τ H Q S m T mt en) (i : Int) (K : ag_Rs → ag_S → Prop) : ag_cl9 92 [ag_R (B + 24), ag_I i] τ K = K (Sum.inl (some (ag_I (ag_rd 20 (S.2.2.2 3) i)))) τ := ag_at_eq (h.2.2.2.2.2.1.2.2.2.2.1) (by decide) i K
theorem ag_X_pa4 (h : ag_CX B τ H Q S m T mt en) (i : Int) (K : ag_Rs → ag_S → Prop) : ag_cl9 92 [ag_R (B + 25), ag_I i] τ K = K (Sum.inl (some (ag_I (ag_rd 20 (S.2.2.2 4) i)))) τ := ag_at_eq (h.2.2.2.2.2.1.2.2.2.2.2.1) (by decide) i K
theorem ag_X_pa5 (h : ag_CX B τ H Q S m T mt en) (i : Int) (K : ag_Rs → ag_S → Prop) : ag_cl9 92 [ag_R (B + 26), ag_I i] τ K = K (Sum.inl (some (ag_I (ag_rd 20 (S.2.2.2 5) i)))) τ := ag_at_eq (h.2.2.2.2.2.1.2.2.2.2.2.2) (by decide) i K
theorem ag_X_ha0 (h : ag_CX B τ H Q S m T mt en) (i : Int) (K : ag_Rs → ag_S → Prop) : ag_cl9 92 [ag_R (B + 3), ag_I i] τ K = K (Sum.inl (some (ag_I (ag_rd 5 (H.1 0) i)))) τ := ag_at_eq (h.2.1.2.1) (by decide) i K
theorem ag_X_ha1 (h : ag_CX B τ H Q S m T mt en) (i : Int) (K : ag_Rs → ag_S → Prop) : ag_cl9 92 [ag_R (B + 4), ag_I i] τ K = K (Sum.inl (some (ag_I (ag_rd 5 (H.1 1) i)))) τ := ag_at_eq (h.2.1.2.2.1) (by decide) i K
theorem ag_X_ha2 (h : ag_CX B τ H Q S m T mt en) (i : Int) (K : ag_Rs → ag_S → Prop) : ag_cl9 92 [ag_R (B + 5), ag_I i] τ K = K (Sum.inl (some (ag_I (ag_rd 5 (H.1 2) i)))) τ := ag_at_eq (h.2.1.2.2.2.1) (by decide) i K
theorem ag_X_ha3 (h : ag_CX B τ H Q S m T mt en) (i : Int) (K : ag_Rs → ag_S → Prop) : ag_cl9 92 [ag_R (B + 6), ag_I i] τ K = K (Sum.inl (some (ag_I (ag_rd 100 (H.1 3) i)))) τ := ag_at_eq (h.2.1.2.2.2.2) (by decide) i K
theorem ag_X_qa0 (h : ag_CX B τ H Q S m T mt en) (i : Int) (K : ag_Rs → ag_S → Prop) : ag_cl9 92 [ag_R (B + 8), ag_I i] τ K = K (Sum.inl (some (ag_I (ag_rd 12 (Q.1 0) i)))) τ := ag_at_eq (h.2.2.1.2.1) (by decide) i K
theorem ag_X_qa1 (h : ag_CX B τ H Q S m T mt en) (i : Int) (K : ag_Rs → ag_S → Prop) : ag_cl9 92 [ag_R (B + 9), ag_I i] τ K = K (Sum.inl (some (ag_I (ag_rd 12 (Q.1 1) i)))) τ := ag_at_eq (h.2.2.1.2.2) (by decide) i K
theorem ag_X_tba0 (h : ag_CX B τ H Q S m T mt en) (i : Int) (K : ag_Rs → ag_S → Prop) : ag_cl9 92 [ag_R (B + 29), ag_I i] τ K = K (Sum.inl (some (ag_I (ag_rd 40 (T.1 0) i)))) τ := ag_at_eq (h.2.2.2.2.2.2.2.1.2.1) (by decide) i K
theorem ag_X_tba1 (h : ag_CX B τ H Q S m T mt en) (i : Int) (K : ag_Rs → ag_S → Prop) : ag_cl9 92 [ag_R (B + 30), ag_I i] τ K = K (Sum.inl (some (ag_I (ag_rd 40 (T.1 1) i)))) τ := ag_at_eq (h.2.2.2.2.2.2.2.1.2.2.1) (by decide) i K
theorem ag_X_tba2 (h : ag_CX B τ H Q S m T mt en) (i : Int) (K : ag_Rs → ag_S → Prop) : ag_cl9 92 [ag_R (B + 31), ag_I i] τ K = K (Sum.inl (some (ag_I (ag_rd 40 (T.1 2) i)))) τ := ag_at_eq (h.2.2.2.2.2.2.2.1.2.2.2.1) (by decide) i K
theorem ag_X_tba3 (h : ag_CX B τ H Q S m T mt en) (i : Int) (K : ag_Rs → ag_S → Prop) : ag_cl9 92 [ag_R (B + 32), ag_I i] τ K = K (Sum.inl (some (ag_I (ag_rd 40 (T.1 3) i)))) τ := ag_at_eq (h.2.2.2.2.2.2.2.1.2.2.2.2.1) (by decide) i K
theorem ag_X_tba4 (h : ag_CX B τ H Q S m T mt en) (i : Int) (K : ag_Rs → ag_S → Prop) : ag_cl9 92 [ag_R (B + 33), ag_I i] τ K = K (Sum.inl (some (ag_I (ag_rd 40 (T.1 4) i)))) τ := ag_at_eq (h.2.2.2.2.2.2.2.1.2.2.2.2.2.1) (by decide) i K
theorem ag_X_tba5 (h : ag_CX B τ H Q S m T mt en) (i : Int) (K : ag_Rs → ag_S → Prop) : ag_cl9 92 [ag_R (B + 34), ag_I i] τ K = K (Sum.inl (some (ag_I (ag_rd 40 (T.1 5) i)))) τ := ag_at_eq (h.2.2.2.2.2.2.2.1.2.2.2.2.2.2.1) (by decide) i K
theorem ag_X_tba6 (h : ag_CX B τ H Q S m T mt en) (i : Int) (K : ag_Rs → ag_S → Prop) : ag_cl9 92 [ag_R (B + 35), ag_I i] τ K = K (Sum.inl (some (ag_I (ag_rd 40 (T.1 6) i)))) τ := ag_at_eq (h.2.2.2.2.2.2.2.1.2.2.2.2.2.2.2.1) (by decide) i K
theorem ag_X_tba7 (h : ag_CX B τ H Q S m T mt en) (i : Int) (K : ag_Rs → ag_S → Prop) : ag_cl9 92 [ag_R (B + 36), ag_I i] τ K = K (Sum.inl (some (ag_I (ag_rd 40 (T.1 7) i)))) τ := ag_at_eq (h.2.2.2.2.2.2.2.1.2.2.2.2.2.2.2.2) (by decide) i K
theorem ag_X_tpa0 (h : ag_CX B τ H Q S m T mt en) (i : Int) (K : ag_Rs → ag_S → Prop) : ag_cl9 92 [ag_R (B + 38), ag_I i] τ K = K (Sum.inl (some (ag_I (ag_rd 20 (T.2.2.2 0) i)))) τ := ag_at_eq (h.2.2.2.2.2.2.2.2.1.2.1) (by decide) i K
theorem ag_X_tpa1 (h : ag_CX B τ H Q S m T mt en) (i : Int) (K : ag_Rs → ag_S → Prop) : ag_cl9 92 [ag_R (B + 39), ag_I i] τ K = K (Sum.inl (some (ag_I (ag_rd 20 (T.2.2.2 1) i)))) τ := ag_at_eq (h.2.2.2.2.2.2.2.2.1.2.2.1) (by decide) i K
theorem ag_X_tpa2 (h : ag_CX B τ H Q S m T mt en) (i : Int) (K : ag_Rs → ag_S → Prop) : ag_cl9 92 [ag_R (B + 40), ag_I i] τ K = K (Sum.inl (some (ag_I (ag_rd 20 (T.2.2.2 2) i)))) τ := ag_at_eq (h.2.2.2.2.2.2.2.2.1.2.2.2.1) (by decide) i K
theorem ag_X_tpa3 (h : ag_CX B τ H Q S m T mt en) (i : Int) (K : ag_Rs → ag_S → Prop) : ag_cl9 92 [ag_R (B + 41), ag_I i] τ K = K (Sum.inl (some (ag_I (ag_rd 20 (T.2.2.2 3) i)))) τ := ag_at_eq (h.2.2.2.2.2.2.2.2.1.2.2.2.2.1) (by decide) i K
theorem ag_X_tpa4 (h : ag_CX B τ H Q S m T mt en) (i : Int) (K : ag_Rs → ag_S → Prop) : ag_cl9 92 [ag_R (B + 42), ag_I i] τ K = K (Sum.inl (some (ag_I (ag_rd 20 (T.2.2.2 4) i)))) τ := ag_at_eq (h.2.2.2.2.2.2.2.2.1.2.2.2.2.2.1) (by decide) i K
theorem ag_X_tpa5 (h : ag_CX B τ H Q S m T mt en) (i : Int) (K : ag_Rs → ag_S → Prop) : ag_cl9 92 [ag_R (B + 43), ag_I i] τ K = K (Sum.inl (some (ag_I (ag_rd 20 (T.2.2.2 5) i)))) τ := ag_at_eq (h.2.2.2.2.2.2.2.2.1.2.2.2.2.2.2) (by decide) i K
theorem ag_X_ea (h : ag_CX B τ H Q S m T mt en) (i : Int) (K : ag_Rs → ag_S → Prop) : ag_cl9 92 [ag_R (B + 44), ag_I i] τ K = K (Sum.inl (some (ag_I (ag_rd 20 en i)))) τ := ag_at_eq (h.2.2.2.2.2.2.2.2.2) (by decide) i K
end AGX
theorem ag_SK_fr (σ : ag_S) {c z : Nat} (gh : Nat → Nat → Int) (vh : Nat → Int) (gb : Nat → Nat → Int) (vb : Nat → Int) (gp : Nat → Nat → Int) (vp : Nat → Int) (h1 : z < B + 2 ∨ B + 6 < z) (h2 : z < c ∨ c + 16 < z) : (ag_SK B σ c gh vh gb vb gp vp).1 z = σ.1 z := by
  unfold ag_SK
  rw [ag_SP_fr _ _ gp vp (by omega), ag_SB_fr _ _ gb vb (by omega), ag_SH_fr _ _ gh vh (by omega)]
  unfold ag_SO ag_up
  dsimp only
  rw [if_neg (by omega)]
theorem ag_KT_of {τ : ag_S} {c : Nat} {gh : Nat → Nat → Int} {vh : Nat → Int} {S : ag_T} {m : Nat} (h0 : τ.1 c = some (Sum.inr (Sum.inr (Sum.inr (1, [ag_R (c + 1), ag_R (c + 10), ag_R (B + 2)]))))) (h1 : ag_CH τ (B + 2) gh vh) (h2 : ag_CB τ (c + 1) S.1 (ag_vB S.2.1 S.2.2.1)) (h3 : ag_CP τ (c + 10) S.2.2.2 (ag_vP m)) : ag_KT B τ c gh vh S m = τ := by
  have e : ag_SO B τ c = τ := by
    refine Prod.ext (funext fun z => ?_) rfl
    show (if z = c then _ else τ.1 z) = τ.1 z
    split
    · rename_i q; rw [q, h0]
    · rfl
  unfold ag_KT ag_SK
  rw [e, ag_SH_of h1, ag_SB_of h2, ag_SP_of h3]
theorem ag_CX_now {τ : ag_S} {H Q : ag_O} {S : ag_T} {m : Nat} {T : ag_T} {mt : Nat} {en : Nat → Int} (h : ag_CX B τ H Q S m T mt en) : ag_KT B τ (B + 10) H.1 H.2 S m = τ := ag_KT_of h.2.2.2.1 h.2.1 h.2.2.2.2.1 h.2.2.2.2.2.1
theorem ag_CX_tri {τ : ag_S} {H Q : ag_O} {S : ag_T} {m : Nat} {T : ag_T} {mt : Nat} {en : Nat → Int} (h : ag_CX B τ H Q S m T mt en) : ag_KT B τ (B + 27) H.1 H.2 T mt = τ := ag_KT_of h.2.2.2.2.2.2.1 h.2.1 h.2.2.2.2.2.2.2.1 h.2.2.2.2.2.2.2.2.1
theorem ag_KT_set {τ : ag_S} {c : Nat} {gh : Nat → Nat → Int} {vh : Nat → Int} {S : ag_T} {m : Nat} (hc : B + 7 ≤ c) (h0 : τ.1 c = some (Sum.inr (Sum.inr (Sum.inr (1, [ag_R (c + 1), ag_R (c + 10), ag_R (B + 2)]))))) (h1 : ag_CH τ (B + 2) gh vh) : ag_KT B τ c gh vh S m = ag_SP (ag_SB τ (c + 1) S.1 (ag_vB S.2.1 S.2.2.1)) (c + 10) S.2.2.2 (ag_vP m) := by
  have e : ag_SO B τ c = τ := by
    refine Prod.ext (funext fun z => ?_) rfl
    show (if z = c then _ else τ.1 z) = τ.1 z
    split
    · rename_i q; rw [q, h0]
    · rfl
  unfold ag_KT ag_SK
  rw [e, ag_SH_of h1]
theorem ag_CX_K {τ : ag_S} {H Q : ag_O} {S : ag_T} {m : Nat} {T : ag_T} {mt : Nat} {en : Nat → Int} {S' : ag_T} {m' : Nat} (h : ag_CX B τ H Q S m T mt en) : ag_CX B (ag_KT B τ (B + 10) H.1 H.2 S' m') H Q S' m' T mt en ∧ ag_Fr B τ (ag_KT B τ (B + 10) H.1 H.2 S' m') := by
  rw [ag_KT_set (by omega) h.2.2.2.1 h.2.1]
  have h9 := ag_CX_P (k := m') (g := S'.2.2.2) (ag_CX_B (g := S'.1) (w := S'.2.1) (n := S'.2.2.1) h)
  exact ⟨h9, ag_Fr_trans (ag_Fr_B τ) (ag_Fr_P _)⟩
theorem ag_CX_T {τ : ag_S} {H Q : ag_O} {S : ag_T} {m : Nat} {T : ag_T} {mt : Nat} {en : Nat → Int} {T' : ag_T} {m' : Nat} (h : ag_CX B τ H Q S m T mt en) : ag_CX B (ag_KT B τ (B + 27) H.1 H.2 T' m') H Q S m T' m' en ∧ ag_Fr B τ (ag_KT B τ (B + 27) H.1 H.2 T' m') := by
  rw [ag_KT_set (by omega) h.2.2.2.2.2.2.1 h.2.1]
  have h9 := ag_CX_W (k := m') (g := T'.2.2.2) (ag_CX_V (g := T'.1) (w := T'.2.1) (n := T'.2.2.1) h)
  exact ⟨h9, ag_Fr_trans (ag_Fr_V τ) (ag_Fr_W _)⟩
