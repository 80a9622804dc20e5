/-! THE TWO OFFICES in one store: the class's in 1 to 44, the reference's in 45 to 62, the law's row of one long in 63, the script in 0. -/
def ag_r0 : Nat → Nat := fun k => k + 46
theorem ag_m0 {N : Nat} (h : 62 ≤ N) : ag_mi 45 ag_r0 N := ⟨fun k hk => ⟨show k + 46 ≠ 45 by omega, show 1 ≤ k + 46 by omega, show k + 46 ≤ N by omega⟩, fun j k _ _ e => by have e2 : j + 46 = k + 46 := e; omega, by decide, by omega⟩
def ag_MX (τ : ag_S) (g : Nat → Nat → Int) (v : Nat → Int) : Prop := τ = ag_SM τ 45 ag_r0 g v
theorem ag_SM_bb {σ : ag_S} (g : Nat → Nat → Int) (v : Nat → Int) {z : Nat} (h : z ≤ 44 ∨ 63 ≤ z) : (ag_SM σ 45 ag_r0 g v).1 z = σ.1 z := ag_SM_b g v (by omega) (fun k hk => show k + 46 ≠ z by omega)
theorem ag_MX_of {τ σ : ag_S} {g : Nat → Nat → Int} {v : Nat → Int} (h : ∀ z, 45 ≤ z → z ≤ 62 → τ.1 z = (ag_SM σ 45 ag_r0 g v).1 z) : ag_MX τ g v := by
  unfold ag_MX
  refine Prod.ext (funext fun z => ?_) rfl
  by_cases c : 45 ≤ z ∧ z ≤ 62
  · by_cases e : z = 45
    · rw [h z c.1 c.2, e, ag_SM_o, ag_SM_o]
    · obtain ⟨j, rfl⟩ : ∃ j, z = j + 46 := ⟨z - 46, by omega⟩
      rw [h _ c.1 c.2]
      show (ag_SM σ 45 ag_r0 g v).1 (ag_r0 j) = (ag_SM τ 45 ag_r0 g v).1 (ag_r0 j)
      rw [ag_SM_r (ag_m0 (Nat.le_refl 62)) g v (by omega), ag_SM_r (ag_m0 (Nat.le_refl 62)) g v (by omega)]
  · rw [ag_SM_bb g v (by omega)]
theorem ag_MX_SM (σ : ag_S) (g : Nat → Nat → Int) (v : Nat → Int) : ag_MX (ag_SM σ 45 ag_r0 g v) g v := ag_MX_of (fun _ _ _ => rfl)
theorem ag_MX_cg {τ τ' : ag_S} {g : Nat → Nat → Int} {v : Nat → Int} (h : ag_MX τ g v) (hf : ∀ z, 45 ≤ z → z ≤ 62 → τ'.1 z = τ.1 z) : ag_MX τ' g v := by
  refine ag_MX_of (σ := τ) (fun z a b => ?_)
  have h2 : τ = ag_SM τ 45 ag_r0 g v := h
  rw [← h2]
  exact hf z a b
theorem ag_CX_cg {τ τ' : ag_S} {H Q : ag_O} {S : ag_T} {m : Nat} {T : ag_T} {mt : Nat} {en : Nat → Int} (h : ag_CX τ H Q S m T mt en) (hf : ∀ z, 1 ≤ z → z ≤ 44 → τ'.1 z = τ.1 z) : ag_CX τ' H Q S m T mt en := by
  obtain ⟨h1, h2, h3, h4, h5, h6, h7, h8, h9, h10⟩ := h
  exact ⟨(hf _ (by omega) (by omega)).trans h1, ag_CH_fr h2 (fun z _ _ => hf _ (by omega) (by omega)), ag_CQ_fr h3 (fun z _ _ => hf _ (by omega) (by omega)), (hf _ (by omega) (by omega)).trans h4, ag_CB_fr h5 (fun z _ _ => hf _ (by omega) (by omega)), ag_CP_fr h6 (fun z _ _ => hf _ (by omega) (by omega)), (hf _ (by omega) (by omega)).trans h7, ag_CB_fr h8 (fun z _ _ => hf _ (by omega) (by omega)), ag_CP_fr h9 (fun z _ _ => hf _ (by omega) (by omega)), (hf _ (by omega) (by omega)).trans h10⟩
/-- the script and the law's row -/
def ag_WA (L : Nat) (xs : Nat → Int) (τ : ag_S) : Prop := τ.1 0 = some (Sum.inl (L, xs)) ∧ (∃ f, τ.1 63 = some (Sum.inr (Sum.inl (1, f)))) ∧ 63 ≤ τ.2.1
/-- what a digest may take -/
def ag_Cw (w m p : Nat) : Nat := 345 * m + (2 * p + 1) * (325 + 10 * m + 8 * w)
/-- the room up to the call k -/
def ag_WR (k w m p : Nat) (q : Nat × Nat) : Prop := w + m + p ≤ k ∧ q.1 ≤ 64 + 650 * k ∧ q.2 ≤ 2000 + (k - (w + m + p)) * ag_Cw w m p + 50 * k
/-- the minutes spoken -/
def ag_sp9 (gh : Nat → Nat → Int) (li : Int) (k : Nat) : Prop := ∀ p, 0 ≤ gh 2 p ∧ 2 * gh 2 p ≤ 300 * k ∧ 2 * gh 2 p + li ≤ 300 * k
/-- how a call may grow -/
def ag_Gr (w m p w1 m1 p1 dc ds : Nat) : Prop := dc ≤ 640 ∧ w ≤ w1 ∧ m ≤ m1 ∧ p ≤ p1 ∧ w1 + m1 + p1 ≤ w + m + p + 1 ∧ (ds ≤ 44 ∨ (w1 = w ∧ m1 = m ∧ p1 = p ∧ ds ≤ ag_Cw w m p))
theorem ag_Gr_0 (w m p : Nat) : ag_Gr w m p w m p 0 0 := ⟨by decide, Nat.le_refl _, Nat.le_refl _, Nat.le_refl _, Nat.le_succ _, Or.inl (by decide)⟩
theorem ag_Cw_le {w m p w1 m1 p1 : Nat} (h1 : w ≤ w1) (h2 : m ≤ m1) (h3 : p ≤ p1) : ag_Cw w m p ≤ ag_Cw w1 m1 p1 := by
  unfold ag_Cw
  have : (2 * p + 1) * (325 + 10 * m + 8 * w) ≤ (2 * p1 + 1) * (325 + 10 * m1 + 8 * w1) := Nat.mul_le_mul (by omega) (by omega)
  omega
theorem ag_WR_s {k w m p w1 m1 p1 dc ds : Nat} {q q' : Nat × Nat} (h : ag_WR k w m p q) (hg : ag_Gr w m p w1 m1 p1 dc ds) (h1 : q'.1 ≤ q.1 + dc + 1) (h2 : q'.2 ≤ q.2 + ds + 6) : ag_WR (k + 1) w1 m1 p1 q' := by
  obtain ⟨a1, a2, a3⟩ := h
  obtain ⟨g1, g2, g3, g4, g5, g6⟩ := hg
  have hC := ag_Cw_le g2 g3 g4
  refine ⟨by omega, by omega, ?_⟩
  rcases g6 with g6 | ⟨rfl, rfl, rfl, g6⟩
  · have : (k - (w + m + p)) * ag_Cw w m p ≤ (k + 1 - (w1 + m1 + p1)) * ag_Cw w1 m1 p1 := Nat.mul_le_mul (by omega) hC
    omega
  · rw [show k + 1 - (w1 + m1 + p1) = (k - (w1 + m1 + p1)) + 1 by omega, Nat.succ_mul]
    omega
def ag_WX (L : Nat) (xs : Nat → Int) (k : Nat) (τ : ag_S) (S : ag_T) (m : Nat) (T : ag_T) (mt : Nat) (en : Nat → Int) (gh gq : Nat → Nat → Int) (np nq : Nat) (qu li : Int) (r : Nat → Int) (th : Int) : Prop :=
  ag_CX τ (gh, ag_vH np qu li) (gq, ag_vP nq) S m T mt en ∧ ag_MX τ (ag_mg S.1 r S.2.2.2 (gq 0) (gq 1) gh) (ag_mv th S.2.1 S.2.2.1 m nq np qu li) ∧ ag_WA L xs τ ∧ ag_IV S m ∧ (∀ i, i < S.2.2.1 → r i = S.1 6 i) ∧ ag_HI gh np qu li ∧ ag_QI gq S.1 S.2.1 nq ∧ ag_TI T ∧ ag_sp9 gh li k ∧ ag_WR k S.2.1 m np τ.2
/-- all is well behind k calls -/
def ag_Wd (L : Nat) (xs : Nat → Int) (k : Nat) (τ : ag_S) : Prop := ∃ (S : ag_T) (m : Nat) (T : ag_T) (mt : Nat) (en : Nat → Int) (gh gq : Nat → Nat → Int) (np nq : Nat) (qu li : Int) (r : Nat → Int) (th : Int), ag_WX L xs k τ S m T mt en gh gq np nq qu li r th
/-- the law's pair of calls: the class's, wrapped, and the reference's -/
def ag_PR (P : Int → Prop) (L : Nat) (xs : Nat → Int) (k : Nat) (τ : ag_S) (yl ym : Nat) (as : List ag_V) : Prop := ∃ (c b : Int) (τ1 τ2 : ag_S),
  (∀ K, ag_cl9 yl (ag_R 1 :: (as ++ [ag_R 63])) τ K = K (Sum.inl (some (ag_I c))) τ1) ∧ (∀ K, ag_cl9 ym (ag_R 45 :: as) τ1 K = K (Sum.inl (some (ag_I b))) τ2) ∧ (∀ K, ag_cl9 98 [ag_R 45] τ2 K = K (Sum.inl (some (ag_I c))) τ2) ∧ (0 ≤ c ∧ c ≤ 3) ∧ (c = 0 → P b ∧ ∃ f, τ2.1 63 = some (Sum.inr (Sum.inl (1, f))) ∧ f 0 = ag_nm b) ∧ (τ1.1 0 = τ.1 0 ∧ τ1.1 45 = τ.1 45) ∧ ag_Wd L xs (k + 1) τ2
/-- a pair of calls that are not wrapped -/
def ag_PD (L : Nat) (xs : Nat → Int) (k : Nat) (τ : ag_S) (yl ym : Nat) (P : ag_V → Prop) : Prop := ∃ (v : ag_V) (τ1 τ2 : ag_S),
  (∀ K, ag_cl9 yl [ag_R 1] τ K = K (Sum.inl (some v)) τ1) ∧ (∀ K, ag_cl9 ym [ag_R 45] τ1 K = K (Sum.inl (some v)) τ2) ∧ P v ∧ τ1.1 45 = τ.1 45 ∧ ag_Wd L xs (k + 1) τ2
section AGGO
variable {L : Nat} {xs : Nat → Int} {k : Nat} {τ : ag_S} {S : ag_T} {m : Nat} {T : ag_T} {mt : Nat} {en : Nat → Int} {gh gq : Nat → Nat → Int} {np nq : Nat} {qu li : Int} {r : Nat → Int} {th : Int}
theorem ag_go_end {k : Nat} {τ τ2 σ' : ag_S} (hW : ag_WX L xs k τ S m T mt en gh gq np nq qu li r th) {S1 : ag_T} {m1 : Nat} {T1 : ag_T} {mt1 : Nat} {en1 : Nat → Int} {gh1 gq1 : Nat → Nat → Int} {np1 nq1 : Nat} {qu1 li1 : Int} {r1 : Nat → Int} {th1 : Int} {dc ds : Nat}
    (hX2 : ag_CX τ2 (gh1, ag_vH np1 qu1 li1) (gq1, ag_vP nq1) S1 m1 T1 mt1 en1) (hA2 : ag_WA L xs τ2) (hq1 : τ2.2.1 ≤ τ.2.1 + 1) (hq2 : τ2.2.2 ≤ τ.2.2 + 6)
    (hf : ag_fr τ2 σ' dc ds) (hr1 : ∀ i, i < S1.2.2.1 → r1 i = S1.1 6 i) (hV : ag_IV S1 m1) (hH : ag_HI gh1 np1 qu1 li1) (hQ : ag_QI gq1 S1.1 S1.2.1 nq1) (hT : ag_TI T1) (hsp : ag_sp9 gh1 li1 (k + 1)) (hG : ag_Gr S.2.1 m np S1.2.1 m1 np1 dc ds) :
    ag_Wd L xs (k + 1) (ag_SM σ' 45 ag_r0 (ag_mg S1.1 r1 S1.2.2.2 (gq1 0) (gq1 1) gh1) (ag_mv th1 S1.2.1 S1.2.2.1 m1 nq1 np1 qu1 li1)) := by
  obtain ⟨w1, w2, w3, w4, w5, w6, w7, w8, w9, w10⟩ := hW
  obtain ⟨a1, a2, a3⟩ := hA2
  obtain ⟨f1, f2, f3, f4⟩ := hf
  have cell : ∀ z, z ≤ 44 ∨ z = 63 → (ag_SM σ' 45 ag_r0 (ag_mg S1.1 r1 S1.2.2.2 (gq1 0) (gq1 1) gh1) (ag_mv th1 S1.2.1 S1.2.2.1 m1 nq1 np1 qu1 li1)).1 z = τ2.1 z := fun z hz => (ag_SM_bb _ _ (by omega)).trans (f1 z (by omega))
  refine ⟨S1, m1, T1, mt1, en1, gh1, gq1, np1, nq1, qu1, li1, r1, th1, ag_CX_cg hX2 (fun z _ hz => cell z (Or.inl hz)), ag_MX_SM _ _ _, ⟨(cell 0 (Or.inl (by decide))).trans a1, ?_, ?_⟩, hV, hr1, hH, hQ, hT, hsp, ?_⟩
  · obtain ⟨f, hf⟩ := a2
    exact ⟨f, (cell 63 (Or.inr rfl)).trans hf⟩
  · show 63 ≤ σ'.2.1
    omega
  · refine ag_WR_s w10 hG ?_ ?_
    · show σ'.2.1 ≤ _
      omega
    · show σ'.2.2 ≤ _
      omega
theorem ag_go_c (P : Int → Prop) (hW : ag_WX L xs k τ S m T mt en gh gq np nq qu li r th) {S1 : ag_T} {m1 : Nat} {T1 : ag_T} {mt1 : Nat} {en1 : Nat → Int} {gh1 gq1 : Nat → Nat → Int} {np1 nq1 : Nat} {qu1 li1 : Int} {τ1 : ag_S} {dc ds : Nat} {yl ym : Nat} {as : List ag_V} {v : Int}
    (hX1 : ag_CX τ1 (gh1, ag_vH np1 qu1 li1) (gq1, ag_vP nq1) S1 m1 T1 mt1 en1) (hF : ag_Fr τ τ1) (h2 : τ1.2 = τ.2)
    (hL : ∀ f, τ1.1 63 = some (Sum.inr (Sum.inl (1, f))) → ∀ K, ag_cl9 yl (ag_R 1 :: (as ++ [ag_R 63])) τ K = K (Sum.inl (some (ag_I 0))) (ag_up τ1.1 63 (Sum.inr (Sum.inl (1, ag_ui f 0 (ag_nm v)))), τ1.2))
    (hP : ∀ σ : ag_S, 62 ≤ σ.2.1 → ∃ σ' r1, ag_fr σ σ' dc ds ∧ (∀ i, i < S1.2.2.1 → r1 i = S1.1 6 i) ∧ ∀ K, ag_cl9 ym (ag_R 45 :: as) (ag_SM σ 45 ag_r0 (ag_mg S.1 r S.2.2.2 (gq 0) (gq 1) gh) (ag_mv th S.2.1 S.2.2.1 m nq np qu li)) K = K (Sum.inl (some (ag_I v))) (ag_SM σ' 45 ag_r0 (ag_mg S1.1 r1 S1.2.2.2 (gq1 0) (gq1 1) gh1) (ag_mv 0 S1.2.1 S1.2.2.1 m1 nq1 np1 qu1 li1)))
    (hV : ag_IV S1 m1) (hH : ag_HI gh1 np1 qu1 li1) (hQ : ag_QI gq1 S1.1 S1.2.1 nq1) (hT : ag_TI T1) (hsp : ag_sp9 gh1 li1 (k + 1)) (hG : ag_Gr S.2.1 m np S1.2.1 m1 np1 dc ds) (hPv : P v) : ag_PR P L xs k τ yl ym as := by
  have hW9 := hW
  obtain ⟨w1, w2, ⟨w30, ⟨f, w31⟩, w32⟩, w4, w5, w6, w7, w8, w9, w10⟩ := hW9
  have h63 : τ1.1 63 = some (Sum.inr (Sum.inl (1, f))) := (hF 63 (Or.inr (by decide))).trans w31
  obtain ⟨τ2, hτ⟩ : ∃ t : ag_S, t = (ag_up τ1.1 63 (Sum.inr (Sum.inl (1, ag_ui f 0 (ag_nm v)))), τ1.2) := ⟨_, rfl⟩
  have hL2 := hL f h63
  rw [← hτ] at hL2
  have c1 : ∀ z, z ≠ 63 → τ2.1 z = τ1.1 z := fun z hz => by
    rw [hτ]
    exact if_neg hz
  have c2 : τ2.1 63 = some (Sum.inr (Sum.inl (1, ag_ui f 0 (ag_nm v)))) := by
    rw [hτ]
    show (if (63 : Nat) = 63 then some (Sum.inr (Sum.inl (1, ag_ui f 0 (ag_nm v)))) else τ1.1 63) = _
    exact if_pos rfl
  have c3 : τ2.2 = τ.2 := by rw [hτ]; exact h2
  have hM2 : ag_MX τ2 (ag_mg S.1 r S.2.2.2 (gq 0) (gq 1) gh) (ag_mv th S.2.1 S.2.2.1 m nq np qu li) := ag_MX_cg w2 (fun z z1 z2 => (c1 z (by omega)).trans (hF z (by omega)))
  obtain ⟨σ', r1, f1, rr, hK⟩ := hP τ2 (by rw [c3]; omega)
  have e : ag_SM τ2 45 ag_r0 (ag_mg S.1 r S.2.2.2 (gq 0) (gq 1) gh) (ag_mv th S.2.1 S.2.2.1 m nq np qu li) = τ2 := Eq.symm hM2
  rw [e] at hK
  refine ⟨0, v, τ2, _, hL2, hK, fun K => ag_R_thrown (ag_m0 (Nat.le_refl 62)) K, by decide, fun _ => ⟨hPv, ag_ui f 0 (ag_nm v), ?_, if_pos rfl⟩, ⟨(c1 0 (by decide)).trans (hF 0 (Or.inl rfl)), (c1 45 (by decide)).trans (hF 45 (Or.inr (by decide)))⟩, ?_⟩
  · rw [ag_SM_bb _ _ (by decide), f1.1 63 (by rw [c3]; exact w32), c2]
  · exact ag_go_end (τ2 := τ2) hW (ag_CX_cg hX1 (fun z z1 z2 => c1 z (by omega))) ⟨(c1 0 (by decide)).trans ((hF 0 (Or.inl rfl)).trans w30), ⟨_, c2⟩, by rw [c3]; exact w32⟩ (by rw [c3]; omega) (by rw [c3]; omega) f1 rr hV hH hQ hT hsp hG
theorem ag_sp9_s {gh : Nat → Nat → Int} {li : Int} {k : Nat} (h : ag_sp9 gh li k) : ag_sp9 gh li (k + 1) := fun p => by
  have := h p
  omega
theorem ag_go_e (P : Int → Prop) (hW : ag_WX L xs k τ S m T mt en gh gq np nq qu li r th) {T1 : ag_T} {mt1 : Nat} {en1 : Nat → Int} {τ1 : ag_S} {dc ds : Nat} {yl ym : Nat} {as : List ag_V} {c : Int} (hc : 1 ≤ c ∧ c ≤ 3)
    (hX1 : ag_CX τ1 (gh, ag_vH np qu li) (gq, ag_vP nq) S m T1 mt1 en1) (hF : ag_Fr τ τ1) (h2 : τ1.2 = τ.2)
    (hL : ∀ K, ag_cl9 yl (ag_R 1 :: (as ++ [ag_R 63])) τ K = K (Sum.inl (some (ag_I c))) (ag_bp τ1))
    (hP : ∀ σ : ag_S, 62 ≤ σ.2.1 → ∃ σ', ag_fr σ σ' dc ds ∧ ∀ K, ag_cl9 ym (ag_R 45 :: as) (ag_SM σ 45 ag_r0 (ag_mg S.1 r S.2.2.2 (gq 0) (gq 1) gh) (ag_mv th S.2.1 S.2.2.1 m nq np qu li)) K = K (Sum.inl (some (ag_I 0))) (ag_SM σ' 45 ag_r0 (ag_mg S.1 r S.2.2.2 (gq 0) (gq 1) gh) (ag_mv c S.2.1 S.2.2.1 m nq np qu li)))
    (hT : ag_TI T1) (hG : dc ≤ 640 ∧ ds ≤ ag_Cw S.2.1 m np) : ag_PR P L xs k τ yl ym as := by
  have hW9 := hW
  obtain ⟨w1, w2, ⟨w30, ⟨f, w31⟩, w32⟩, w4, w5, w6, w7, w8, w9, w10⟩ := hW9
  have h63 : τ1.1 63 = some (Sum.inr (Sum.inl (1, f))) := (hF 63 (Or.inr (by decide))).trans w31
  obtain ⟨τ2, hτ⟩ : ∃ t : ag_S, t = ag_bp τ1 := ⟨_, rfl⟩
  rw [← hτ] at hL
  have c1 : ∀ z, τ2.1 z = τ1.1 z := fun z => by rw [hτ]; rfl
  have c3 : τ2.2 = (τ.2.1 + 1, τ.2.2 + 6) := by rw [hτ, ← h2]; rfl
  have hM2 : ag_MX τ2 (ag_mg S.1 r S.2.2.2 (gq 0) (gq 1) gh) (ag_mv th S.2.1 S.2.2.1 m nq np qu li) := ag_MX_cg w2 (fun z z1 z2 => (c1 z).trans (hF z (by omega)))
  obtain ⟨σ', f1, hK⟩ := hP τ2 (by rw [c3]; show 62 ≤ τ.2.1 + 1; omega)
  have e : ag_SM τ2 45 ag_r0 (ag_mg S.1 r S.2.2.2 (gq 0) (gq 1) gh) (ag_mv th S.2.1 S.2.2.1 m nq np qu li) = τ2 := Eq.symm hM2
  rw [e] at hK
  refine ⟨c, 0, τ2, _, hL, hK, fun K => ag_R_thrown (ag_m0 (Nat.le_refl 62)) K, ⟨by omega, hc.2⟩, fun z => by omega, ⟨(c1 0).trans (hF 0 (Or.inl rfl)), (c1 45).trans (hF 45 (Or.inr (by decide)))⟩, ?_⟩
  exact ag_go_end (τ2 := τ2) hW (ag_CX_cg hX1 (fun z z1 z2 => c1 z)) ⟨(c1 0).trans ((hF 0 (Or.inl rfl)).trans w30), ⟨f, (c1 63).trans h63⟩, by rw [c3]; show 63 ≤ τ.2.1 + 1; omega⟩ (by rw [c3]; exact Nat.le_refl _) (by rw [c3]; exact Nat.le_refl _) f1 w5 w4 w6 w7 hT (ag_sp9_s w9) ⟨hG.1, Nat.le_refl _, Nat.le_refl _, Nat.le_refl _, Nat.le_succ _, Or.inr ⟨rfl, rfl, rfl, hG.2⟩⟩
/-- an exception, nothing changed -/
theorem ag_go_x (P : Int → Prop) (hW : ag_WX L xs k τ S m T mt en gh gq np nq qu li r th) {yl ym : Nat} {as : List ag_V} {c : Int} (hc : 1 ≤ c ∧ c ≤ 3)
    (hL : ∀ K, ag_cl9 yl (ag_R 1 :: (as ++ [ag_R 63])) τ K = K (Sum.inl (some (ag_I c))) (ag_bp τ))
    (hP : ∀ σ : ag_S, 62 ≤ σ.2.1 → ∀ K, ag_cl9 ym (ag_R 45 :: as) (ag_SM σ 45 ag_r0 (ag_mg S.1 r S.2.2.2 (gq 0) (gq 1) gh) (ag_mv th S.2.1 S.2.2.1 m nq np qu li)) K = K (Sum.inl (some (ag_I 0))) (ag_SM σ 45 ag_r0 (ag_mg S.1 r S.2.2.2 (gq 0) (gq 1) gh) (ag_mv c S.2.1 S.2.2.1 m nq np qu li))) : ag_PR P L xs k τ yl ym as :=
  ag_go_e P hW hc hW.1 (ag_Fr_refl τ) rfl hL (fun σ hσ => ⟨σ, ag_fr_refl σ, hP σ hσ⟩) hW.2.2.2.2.2.2.2.1 ⟨Nat.zero_le _, Nat.zero_le _⟩
/-- a value, nothing changed -/
theorem ag_go_v (P : Int → Prop) (hW : ag_WX L xs k τ S m T mt en gh gq np nq qu li r th) {yl ym : Nat} {as : List ag_V} {v : Int}
    (hL : ∀ f, τ.1 63 = some (Sum.inr (Sum.inl (1, f))) → ∀ K, ag_cl9 yl (ag_R 1 :: (as ++ [ag_R 63])) τ K = K (Sum.inl (some (ag_I 0))) (ag_up τ.1 63 (Sum.inr (Sum.inl (1, ag_ui f 0 (ag_nm v)))), τ.2))
    (hP : ∀ σ : ag_S, 62 ≤ σ.2.1 → ∀ K, ag_cl9 ym (ag_R 45 :: as) (ag_SM σ 45 ag_r0 (ag_mg S.1 r S.2.2.2 (gq 0) (gq 1) gh) (ag_mv th S.2.1 S.2.2.1 m nq np qu li)) K = K (Sum.inl (some (ag_I v))) (ag_SM σ 45 ag_r0 (ag_mg S.1 r S.2.2.2 (gq 0) (gq 1) gh) (ag_mv 0 S.2.1 S.2.2.1 m nq np qu li))) (hPv : P v) : ag_PR P L xs k τ yl ym as := by
  obtain ⟨w1, w2, w3, w4, w5, w6, w7, w8, w9, w10⟩ := hW
  exact ag_go_c P ⟨w1, w2, w3, w4, w5, w6, w7, w8, w9, w10⟩ w1 (ag_Fr_refl τ) rfl hL (fun σ hσ => ⟨σ, r, ag_fr_refl σ, w5, hP σ hσ⟩) w4 w6 w7 w8 (ag_sp9_s w9) (ag_Gr_0 _ _ _) hPv
/-- calls that are not wrapped -/
theorem ag_go_d (hW : ag_WX L xs k τ S m T mt en gh gq np nq qu li r th) {T1 : ag_T} {mt1 : Nat} {en1 : Nat → Int} {τ1 : ag_S} {dc ds : Nat} {yl ym : Nat} {v : ag_V} {P : ag_V → Prop} (hPv : P v)
    (hX1 : ag_CX τ1 (gh, ag_vH np qu li) (gq, ag_vP nq) S m T1 mt1 en1) (hF : ag_Fr τ τ1) (h2 : τ1.2 = τ.2) (hT : ag_TI T1)
    (hL : ∀ K, ag_cl9 yl [ag_R 1] τ K = K (Sum.inl (some v)) τ1)
    (hP : ∀ σ : ag_S, 62 ≤ σ.2.1 → ∃ σ', ag_fr σ σ' dc ds ∧ ∀ K, ag_cl9 ym [ag_R 45] (ag_SM σ 45 ag_r0 (ag_mg S.1 r S.2.2.2 (gq 0) (gq 1) gh) (ag_mv th S.2.1 S.2.2.1 m nq np qu li)) K = K (Sum.inl (some v)) (ag_SM σ' 45 ag_r0 (ag_mg S.1 r S.2.2.2 (gq 0) (gq 1) gh) (ag_mv 0 S.2.1 S.2.2.1 m nq np qu li)))
    (hG : dc ≤ 640 ∧ ds ≤ ag_Cw S.2.1 m np) : ag_PD L xs k τ yl ym P := by
  have hW9 := hW
  obtain ⟨w1, w2, ⟨w30, ⟨f, w31⟩, w32⟩, w4, w5, w6, w7, w8, w9, w10⟩ := hW9
  have h63 : τ1.1 63 = some (Sum.inr (Sum.inl (1, f))) := (hF 63 (Or.inr (by decide))).trans w31
  have hM2 : ag_MX τ1 (ag_mg S.1 r S.2.2.2 (gq 0) (gq 1) gh) (ag_mv th S.2.1 S.2.2.1 m nq np qu li) := ag_MX_cg w2 (fun z z1 z2 => hF z (by omega))
  obtain ⟨σ', f1, hK⟩ := hP τ1 (by rw [h2]; omega)
  have e : ag_SM τ1 45 ag_r0 (ag_mg S.1 r S.2.2.2 (gq 0) (gq 1) gh) (ag_mv th S.2.1 S.2.2.1 m nq np qu li) = τ1 := Eq.symm hM2
  rw [e] at hK
  refine ⟨v, τ1, _, hL, hK, hPv, hF 45 (Or.inr (by decide)), ?_⟩
  exact ag_go_end (τ2 := τ1) hW hX1 ⟨(hF 0 (Or.inl rfl)).trans w30, ⟨f, h63⟩, by rw [h2]; exact w32⟩ (by rw [h2]; omega) (by rw [h2]; omega) f1 w5 w4 w6 w7 hT (ag_sp9_s w9) ⟨hG.1, Nat.le_refl _, Nat.le_refl _, Nat.le_refl _, Nat.le_succ _, Or.inr ⟨rfl, rfl, rfl, hG.2⟩⟩
end AGGO
