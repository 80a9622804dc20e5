/-! calledAt. -/
theorem ag_dal_stop {gh : Nat → Nat → Int} {np m : Nat} {qu x : Int} : ∀ (k : Nat) (S : ag_T), ag_nxt (ag_dal gh np qu x m k S).1 (ag_dal gh np qu x m k S).2.2.2 m = -1 → ∀ j, k ≤ j → ag_nxt (ag_dal gh np qu x m j S).1 (ag_dal gh np qu x m j S).2.2.2 m = -1 := by
  intro k
  induction k with
  | zero =>
    intro S h j _
    rw [ag_dal_z] at h
    rw [ag_dal_no S j h, h]
  | succ k ih =>
    intro S h j hj
    by_cases q : ag_nxt S.1 S.2.2.2 m = -1
    · rw [ag_dal_no S j q, q]
    · obtain ⟨i, rfl⟩ : ∃ i, j = i + 1 := ⟨j - 1, by omega⟩
      rw [ag_dal_s, if_neg q] at h ⊢
      exact ih _ h i (by omega)
theorem ag_vC_key {S : ag_T} {m np k : Nat} {gh : Nat → Nat → Int} {qu : Int} {z : Nat → Int} (hV : ag_IV S m) (hz : ag_zk z) (hH : ag_sm gh) (hp : np ≤ 5) (hk : k < 20) :
    (ag_vC gh np qu S m k z ≠ -1 ∧ ∃ σ3, ∀ K, ag_cl9 165 [ag_R 1, ag_I k] (ag_SM ag_sE 1 (fun k => k + 2) (ag_mg S.1 (S.1 6) S.2.2.2 (fun _ => 0) (fun _ => 0) gh) (ag_mv 0 S.2.1 S.2.2.1 m (0 : Nat) np qu 0)) K = K (Sum.inl (some (ag_I (ag_vC gh np qu S m k z)))) (ag_SM σ3 1 (fun k => k + 2) (ag_mg S.1 (S.1 6) S.2.2.2 (fun _ => 0) (fun _ => 0) gh) (ag_mv 0 S.2.1 S.2.2.1 m (0 : Nat) np qu 0))) ∨
    (ag_vC gh np qu S m k z = -1 ∧ ∃ σ3, ∀ K, ag_cl9 165 [ag_R 1, ag_I k] (ag_SM ag_sE 1 (fun k => k + 2) (ag_mg S.1 (S.1 6) S.2.2.2 (fun _ => 0) (fun _ => 0) gh) (ag_mv 0 S.2.1 S.2.2.1 m (0 : Nat) np qu 0)) K = K (Sum.inl (some (ag_I 0))) (ag_SM σ3 1 (fun k => k + 2) (ag_mg S.1 (S.1 6) S.2.2.2 (fun _ => 0) (fun _ => 0) gh) (ag_mv 1 S.2.1 S.2.2.1 m (0 : Nat) np qu 0))) := by
  obtain ⟨σ3, N, -, n20, n1, n2, n3, n4⟩ := ag_R_cAt (σ := ag_sE) (a := 1) (ρ := fun k => k + 2) (gb := (ag_JT S z).1) (gp := (ag_JT S z).2.2.2) (gh := gh) (r := S.1 6) (t := fun _ => 0) (sg := fun _ => 0) (th := 0) (qu := qu) (mi := 0) (w := (ag_JT S z).2.1) (n := (ag_JT S z).2.2.1) (m := m) (nq := 0) (np := np) ag_miE (ag_JT_IV hV hz) (fun i _ => by rw [ag_JT_6]) hH hp (by decide) (fun _ => ag_nm_z) (k := (k : Int)) (ag_nm_nat (by omega))
  rw [ag_JT_mg] at n3 n4
  by_cases c : k < N
  · refine Or.inl ⟨n2 k c, σ3, ?_⟩
    have := n3 ⟨by omega, by omega⟩
    rw [Int.toNat_natCast] at this
    exact this
  · exact Or.inr ⟨ag_dal_stop N _ n1 k (by omega), σ3, n4 (by omega)⟩
theorem ag_vC_z {S : ag_T} {m np k : Nat} {gh : Nat → Nat → Int} {qu : Int} {z z' : Nat → Int} (hV : ag_IV S m) (hz : ag_zk z) (hz' : ag_zk z') (hH : ag_sm gh) (hp : np ≤ 5) (hk : k < 20) : ag_vC gh np qu S m k z = ag_vC gh np qu S m k z' := by
  have thr : ∀ (s1 s2 : ag_S) (t1 t2 : Int), (ag_SM s1 1 (fun k => k + 2) (ag_mg S.1 (S.1 6) S.2.2.2 (fun _ => 0) (fun _ => 0) gh) (ag_mv t1 S.2.1 S.2.2.1 m (0 : Nat) np qu 0)) = (ag_SM s2 1 (fun k => k + 2) (ag_mg S.1 (S.1 6) S.2.2.2 (fun _ => 0) (fun _ => 0) gh) (ag_mv t2 S.2.1 S.2.2.1 m (0 : Nat) np qu 0)) → t1 = t2 := by
    intro s1 s2 t1 t2 e
    have o1 := ag_SM_o s1 1 (fun k => k + 2) (ag_mg S.1 (S.1 6) S.2.2.2 (fun _ => 0) (fun _ => 0) gh) (ag_mv t1 S.2.1 S.2.2.1 m (0 : Nat) np qu 0)
    have o2 := ag_SM_o s2 1 (fun k => k + 2) (ag_mg S.1 (S.1 6) S.2.2.2 (fun _ => 0) (fun _ => 0) gh) (ag_mv t2 S.2.1 S.2.2.1 m (0 : Nat) np qu 0)
    rw [e, o2] at o1
    injection o1 with h1
    unfold ag_mO at h1
    injection h1 with h2
    injection h2 with h3
    injection h3 with h4
    injection h4 with h5 h6
    injection h6 with h7 h8
    injection h7 with h9
    exact h9.symm
  rcases ag_vC_key (qu := qu) hV hz hH hp hk with ⟨a1, s1, b1⟩ | ⟨a1, s1, b1⟩ <;> rcases ag_vC_key (qu := qu) hV hz' hH hp hk with ⟨a2, s2, b2⟩ | ⟨a2, s2, b2⟩
  · have := ag_K_inj (P := fun K => ag_cl9 165 [ag_R 1, ag_I k] (ag_SM ag_sE 1 (fun k => k + 2) (ag_mg S.1 (S.1 6) S.2.2.2 (fun _ => 0) (fun _ => 0) gh) (ag_mv 0 S.2.1 S.2.2.1 m (0 : Nat) np qu 0)) K) b1 b2
    injection this with h1
    injection h1 with h2
    injection h2 with h3
  · exact absurd (thr _ _ _ _ (ag_K_inj2 (P := fun K => ag_cl9 165 [ag_R 1, ag_I k] (ag_SM ag_sE 1 (fun k => k + 2) (ag_mg S.1 (S.1 6) S.2.2.2 (fun _ => 0) (fun _ => 0) gh) (ag_mv 0 S.2.1 S.2.2.1 m (0 : Nat) np qu 0)) K) b1 b2)) (by decide)
  · exact absurd (thr _ _ _ _ (ag_K_inj2 (P := fun K => ag_cl9 165 [ag_R 1, ag_I k] (ag_SM ag_sE 1 (fun k => k + 2) (ag_mg S.1 (S.1 6) S.2.2.2 (fun _ => 0) (fun _ => 0) gh) (ag_mv 0 S.2.1 S.2.2.1 m (0 : Nat) np qu 0)) K) b1 b2)) (by decide)
  · rw [a1, a2]
section AGQ6
variable {σ : ag_S} {a N : Nat} {ρ : Nat → Nat} {S : ag_T} {gh gq : Nat → Nat → Int} {r : Nat → Int} {th qu li : Int} {m nq np : Nat}
/-- the reference's calledAt -/
theorem ag_P_cA (h : ag_mi a ρ σ.2.1) (hV : ag_IV S m) (hr : ∀ i, i < S.2.2.1 → r i = S.1 6 i) (hH : ag_HI gh np qu li) (hQ : ag_QI gq S.1 S.2.1 nq) {k : Int} (hk : ag_nm k = k) : ∃ σ3, ag_fr σ σ3 34 (325 + 10 * m + 8 * S.2.1) ∧
    ((0 ≤ k ∧ k < 20 ∧ ag_vC gh np qu S m k.toNat (S.1 7) ≠ -1) → ∀ K, ag_cl9 165 [ag_R a, ag_I k] (ag_SM σ a ρ (ag_mg S.1 r S.2.2.2 (gq 0) (gq 1) gh) (ag_mv th S.2.1 S.2.2.1 m nq np qu li)) K = K (Sum.inl (some (ag_I (ag_vC gh np qu S m k.toNat (S.1 7))))) (ag_SM σ3 a ρ (ag_mg S.1 r S.2.2.2 (gq 0) (gq 1) gh) (ag_mv 0 S.2.1 S.2.2.1 m nq np qu li))) ∧
    (¬ (0 ≤ k ∧ k < 20 ∧ ag_vC gh np qu S m k.toNat (S.1 7) ≠ -1) → ∀ K, ag_cl9 165 [ag_R a, ag_I k] (ag_SM σ a ρ (ag_mg S.1 r S.2.2.2 (gq 0) (gq 1) gh) (ag_mv th S.2.1 S.2.2.1 m nq np qu li)) K = K (Sum.inl (some (ag_I 0))) (ag_SM σ3 a ρ (ag_mg S.1 r S.2.2.2 (gq 0) (gq 1) gh) (ag_mv 1 S.2.1 S.2.2.1 m nq np qu li))) := by
  obtain ⟨σ3, N, n0, n20, n1, n2, n3, n4⟩ := ag_R_cAt (σ := σ) (gb := S.1) (gp := S.2.2.2) (gh := gh) (r := r) (t := gq 0) (sg := gq 1) (th := th) (qu := qu) (mi := li) (w := S.2.1) (n := S.2.2.1) (m := m) (nq := nq) (np := np) h hV hr hH.1 hH.2.1 hQ.2.1 (ag_QI_nm hQ 0) hk
  unfold ag_vC
  rw [ag_JT_7]
  refine ⟨σ3, n0, fun c => ?_, fun c => ?_⟩
  · refine n3 ⟨c.1, ?_⟩
    by_cases q : k < N
    · exact q
    · exact absurd (ag_dal_stop N S n1 k.toNat (by omega)) c.2.2
  · refine n4 (fun z => c ⟨z.1, by omega, n2 k.toNat (by omega)⟩)
end AGQ6
