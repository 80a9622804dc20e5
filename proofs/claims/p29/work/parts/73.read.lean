/-! THE HOUSE: draw, slot, read, bill. -/
variable {B : Nat}
def ag_ls (n : Nat) (f : Nat → Int) : List Int := (List.range n).map f
theorem ag_ls_len (n : Nat) (f : Nat → Int) : (ag_ls n f).length = n := by simp [ag_ls]
theorem ag_ls_s (n : Nat) (f : Nat → Int) : ag_ls (n + 1) f = ag_ls n f ++ [f n] := by simp [ag_ls, List.range_succ]
theorem ag_ls_0 (f : Nat → Int) : ag_ls 0 f = [] := rfl
theorem ag_ls_cg {n : Nat} {f f' : Nat → Int} (h : ∀ i, i < n → f i = f' i) : ag_ls n f = ag_ls n f' := by
  unfold ag_ls
  exact List.map_congr_left (fun i hi => h i (List.mem_range.mp hi))
theorem ag_ls_get {n : Nat} {f : Nat → Int} {i : Nat} (h : i < n) : (ag_ls n f)[i]? = some (f i) := by
  unfold ag_ls
  rw [List.getElem?_map, List.getElem?_range h]
  rfl
theorem ag_ls_mem {n : Nat} {f : Nat → Int} {x : Int} : x ∈ ag_ls n f ↔ ∃ i, i < n ∧ f i = x := by simp [ag_ls]
theorem ag_ls_inj {n n' : Nat} {f f' : Nat → Int} (h : ag_ls n f = ag_ls n' f') : n = n' ∧ ∀ i, i < n → f i = f' i := by
  have h1 : n = n' := by rw [← ag_ls_len n f, h, ag_ls_len]
  refine ⟨h1, fun i hi => ?_⟩
  have a := ag_ls_get (f := f) hi
  rw [h, ag_ls_get (by omega)] at a
  exact (Option.some.inj a).symm
theorem ag_ls_pls {f : Nat → Int} {k l : Nat} {x : Int} (hk : k ≤ l) : ag_ls (l + 1) (ag_pls f k l x) = (ag_ls l f).take k ++ x :: (ag_ls l f).drop k := by
  apply List.ext_getElem?
  intro i
  by_cases h1 : i < l + 1
  · rw [ag_ls_get h1]
    unfold ag_pls
    by_cases h2 : i < k
    · rw [if_pos h2, List.getElem?_append_left (by rw [List.length_take, ag_ls_len]; omega), List.getElem?_take_of_lt h2, ag_ls_get (by omega)]
    · rw [if_neg h2, List.getElem?_append_right (by rw [List.length_take, ag_ls_len]; omega), List.length_take, ag_ls_len, Nat.min_eq_left hk]
      by_cases h3 : i = k
      · rw [if_pos h3, h3, Nat.sub_self]
        rfl
      · obtain ⟨j, hj⟩ : ∃ j, i - k = j + 1 := ⟨i - k - 1, by omega⟩
        rw [if_neg h3, if_pos h1, hj, List.getElem?_cons_succ, List.getElem?_drop, ag_ls_get (by omega)]
        congr 2
        omega
  · rw [List.getElem?_eq_none (by rw [ag_ls_len]; omega), List.getElem?_eq_none (by rw [List.length_append, List.length_cons, List.length_take, List.length_drop, ag_ls_len]; omega)]
theorem ag_ls_end {f : Nat → Int} {l : Nat} {x : Int} : ag_ls (l + 1) (ag_pls f l l x) = ag_ls l f ++ [x] := by
  rw [ag_ls_pls (Nat.le_refl l), List.take_of_length_le (by rw [ag_ls_len]; omega), List.drop_of_length_le (by rw [ag_ls_len]; omega)]
theorem ag_ls_drop {n : Nat} {f : Nat → Int} {i : Nat} (h : i < n) : (ag_ls n f).drop i = f i :: (ag_ls n f).drop (i + 1) := by
  have h1 := ag_ls_get (f := f) h
  rw [List.getElem?_eq_getElem (by rw [ag_ls_len]; omega)] at h1
  rw [List.drop_eq_getElem_cons (i := i) (by rw [ag_ls_len]; omega), Option.some.inj h1]
section AGH3
variable {σ : ag_S} {L ln : Nat → Nat} {g : Nat → Nat → Int} {dr qu mi : Int}
theorem ag_i_and (a : Int) : 0 ≤ (Int32.ofInt a &&& Int32.ofInt 2147483647).toInt := by
  show 0 ≤ (Int32.ofInt a &&& Int32.ofInt 2147483647).toBitVec.toInt
  rw [BitVec.toInt_eq_toNat_of_msb]
  · exact Int.natCast_nonneg _
  · rw [Int32.toBitVec_and, BitVec.msb_and, show (Int32.ofInt 2147483647).toBitVec.msb = false from by decide, Bool.and_false]
theorem ag_i_rem {a b : Int32} (ha : 0 ≤ a.toInt) (hb : 0 < b.toInt) : 0 ≤ (a - a / b * b).toInt ∧ (a - a / b * b).toInt < b.toInt := by
  have hlt := Int32.toInt_lt a
  have hlb := Int32.toInt_lt b
  have hne : a ≠ Int32.minValue := by
    intro e
    rw [e] at ha
    exact absurd ha (by decide)
  have e1 : (a / b).toInt = a.toInt / b.toInt := by
    rw [Int32.toInt_div_of_ne_left _ _ hne, Int.tdiv_eq_ediv_of_nonneg ha]
  have q0 : 0 ≤ a.toInt / b.toInt := Int.ediv_nonneg ha (Int.le_of_lt hb)
  have q1 : a.toInt / b.toInt * b.toInt ≤ a.toInt := Int.ediv_mul_le _ (by omega)
  have q2 := Int.emod_nonneg a.toInt (show b.toInt ≠ 0 by omega)
  have q3 := Int.emod_lt_of_pos a.toInt hb
  have q4 := Int.emod_add_mul_ediv a.toInt b.toInt
  have e2 : (a / b * b).toInt = a.toInt / b.toInt * b.toInt := by
    rw [Int32.toInt_mul, e1]
    have q5 : 0 ≤ a.toInt / b.toInt * b.toInt := Int.mul_nonneg q0 (Int.le_of_lt hb)
    exact Int.bmod_eq_of_le (by omega) (by omega)
  rw [Int.mul_comm] at q4
  have e3 : (a - a / b * b).toInt = a.toInt - a.toInt / b.toInt * b.toInt := by
    rw [Int32.toInt_sub, e2]
    exact Int.bmod_eq_of_le (by omega) (by omega)
  rw [e3]
  omega
theorem ag_h_cell (h : ag_HS B σ L ln g dr qu mi) {k : Int} (k0 : 0 ≤ k) (k1 : k < 24) : ∃ v : Int, ∀ K : ag_Rs → ag_S → Prop, ag_cl9 133 [ag_R 0, ag_I k] σ K = K (Sum.inl (some (ag_I v))) σ := by
  obtain ⟨n, f, hn, h0⟩ := h.2.2.2.2.2.2.2.2.1
  have hk : ag_nm k = k := ag_nm_of (by omega) (by omega)
  obtain ⟨z, rfl⟩ : ∃ z : Nat, k = z := ⟨k.toNat, by omega⟩
  by_cases hc : z < n
  · refine ⟨f z, fun K => ?_⟩
    simp only [ag_i133_0, ag_i133_1, ag_i133_2, ag_e133, ag_al_at h0, ag_i133_3, hk, ag_nm_nat (show n ≤ 1000000 by omega)]
    rw [if_neg (by omega)]
    simp only [ag_i133_6, ag_i133_7, ag_i133_8, ag_ia_at h0 hc (show n ≤ 1000000 by omega), ag_i133_9, ag_i133_18]
  · refine ⟨790386105 * ((z : Int) + 3), fun K => ?_⟩
    simp only [ag_i133_0, ag_i133_1, ag_i133_2, ag_e133, ag_al_at h0, ag_i133_3, hk, ag_nm_nat (show n ≤ 1000000 by omega)]
    rw [if_pos (by omega)]
    simp only [ag_i133_12, ag_i133_14, ag_i133_15, ag_i133_16, ag_i133_17, ag_i133_18]
theorem ag_h_below (v : Int) {n : Nat} (hn : 1 ≤ n) (hn2 : n ≤ 1000) : ∃ w : Nat, w < n ∧ ∀ (σ : ag_S) (K : ag_Rs → ag_S → Prop), ag_cl9 132 [ag_I v, ag_I (n : Int)] σ K = K (Sum.inl (some (ag_I (w : Int)))) σ := by
  have a := ag_i_and v
  have e1 : (Int32.ofInt (Int32.ofInt v &&& Int32.ofInt 2147483647).toInt) = (Int32.ofInt v &&& Int32.ofInt 2147483647) := Int32.ofInt_toInt _
  have e2 : (Int32.ofInt (n : Int)).toInt = n := ag_nm_nat (by omega)
  have b := ag_i_rem a (show 0 < (Int32.ofInt (n : Int)).toInt by rw [e2]; omega)
  rw [e2] at b
  generalize hx : (Int32.ofInt v &&& Int32.ofInt 2147483647) = x at a b e1
  obtain ⟨w, hw⟩ : ∃ w : Nat, (x - x / Int32.ofInt (n : Int) * Int32.ofInt (n : Int)).toInt = w := ⟨(x - x / Int32.ofInt (n : Int) * Int32.ofInt (n : Int)).toInt.toNat, by omega⟩
  refine ⟨w, by omega, fun σ K => ?_⟩
  simp only [ag_i132_0, ag_i132_1, ag_i132_3, ag_i132_4, ag_e132, hx, ag_i132_5, e1, hw, ag_i132_6]
  rw [show (ag_nm (n : Int) ≠ 0) = True from by rw [ag_nm_nat (by omega)]; simp; omega, true_and]
/-- what is drawn -/
theorem ag_h_draw (h : ag_HS B σ L ln g dr qu mi) {k : Nat} (hk : 1 ≤ k) (hk2 : k ≤ 1000) : ∃ v : Nat, v < k ∧ (∀ K : ag_Rs → ag_S → Prop, ag_cl9 96 [ag_R B, ag_I (k : Int)] σ K = K (Sum.inl (some (ag_I (v : Int)))) (ag_up σ.1 B (ag_hob B L (dr + 1) qu mi), σ.2)) := by
  have hdr := h.2.2.2.2.2.2.2.2.2
  have hd9 : (Int32.ofInt dr).toInt = dr := ag_nm_of (by omega) (by omega)
  have e24 : (Int32.ofInt 24).toInt = 24 := by decide
  have b := ag_i_rem (a := Int32.ofInt dr) (b := Int32.ofInt 24) (by omega) (by decide)
  rw [e24] at b
  generalize hx : (Int32.ofInt dr - Int32.ofInt dr / Int32.ofInt 24 * Int32.ofInt 24).toInt = x at b
  obtain ⟨v1, c1⟩ := ag_h_cell h b.1 b.2
  obtain ⟨w, hw, c2⟩ := ag_h_below ((Int32.ofInt v1 >>> (Int32.ofInt (Int32.ofInt (Int32.ofInt dr / Int32.ofInt 24).toInt - Int32.ofInt (Int32.ofInt dr / Int32.ofInt 24).toInt / Int32.ofInt 8 * Int32.ofInt 8).toInt &&& 31)).toInt + 181 * dr) hk hk2
  refine ⟨w, hw, fun K => ?_⟩
  simp only [ag_i96_0, ag_i96_1, ag_i96_4, ag_i96_5, ag_i96_8, ag_i96_10, ag_e96, ag_h_g1 h, ag_h_g2 h, hx]
  rw [show (ag_nm 24 ≠ 0) = True from by decide +kernel, true_and]
  simp only [ag_i96_11, c1, ag_kk_v, ag_kk_n, Nat.reduceAdd, ag_i96_14, ag_i96_15, ag_i96_18, ag_i96_20, ag_h_g2 h]
  rw [show (ag_nm 24 ≠ 0) = True from by decide +kernel, true_and]
  simp only [ag_i96_21, ag_i96_23]
  rw [show (ag_nm 8 ≠ 0) = True from by decide +kernel, true_and]
  simp only [ag_i96_24, ag_i96_25, ag_i96_28, ag_i96_29, ag_i96_32, ag_i96_33, ag_i96_34, ag_i96_35, ag_h_g2 h, c2, ag_kk_v, ag_kk_n, Nat.reduceAdd, ag_i96_38_n, ag_i96_38_i, ag_i96_38_r, ag_i96_39, ag_i96_40, ag_i96_41, ag_i96_44, ag_i96_45, ag_i96_46, ag_h_p2 h, ag_i96_49, ag_i96_50]
theorem ag_h_slot (h : ag_HS B σ L ln g dr qu mi) {p : Int} (hp : ag_nm p = p) (K : ag_Rs → ag_S → Prop) : ag_cl9 106 [ag_R B, ag_I p] σ K = K (Sum.inl (some (ag_I (if p < 0 then 40 else p)))) σ := by
  simp only [ag_e106, ag_i106_0, ag_i106_1, ag_i106_4, ag_i106_6, ag_i106_9, ag_i106_10, hp, ag_nm_z]
  by_cases h1 : p < 0
  · rw [if_pos h1, if_neg (by omega)]
  · rw [if_neg h1, if_pos (by omega)]
/-- kids, by depth, all rows that are come to -/
def ag_rok (kd : Nat → List Int) : Nat → List Int → Prop
  | 0, l => l = []
  | k + 1, l => ∀ c ∈ l, ∃ z : Nat, c = z ∧ z < 40 ∧ ag_rok kd k (kd z)
def ag_rdl (kd : Nat → List Int) : Nat → List Int → List Int
  | 0, _ => []
  | k + 1, l => l.flatMap (fun c => c :: ag_rdl kd k (kd c.toNat))
def ag_kds (ln : Nat → Nat) (g : Nat → Nat → Int) (k : Nat) : List Int := ag_ls (ln (200 + k)) (g (200 + k))
theorem ag_h_read4 (h : ag_HS B σ L ln g dr qu mi) {b l : Nat} {f : Nat → Int} (hb : σ.1 b = some (Sum.inl (l, f))) (hb2 : b ≤ σ.2.1) (hl : l ≤ 40) (hok : ag_rok (ag_kds ln g) 0 (ag_ls l f)) (hN : (ag_rdl (ag_kds ln g) 0 (ag_ls l f)).length ≤ 40) :
    ∃ (q l' : Nat) (f' : Nat → Int) (σ' : ag_S), (∀ K : ag_Rs → ag_S → Prop, ag_cl9 104 [ag_R B, ag_R b] σ K = K (Sum.inl (some (ag_R q))) σ') ∧ σ'.1 q = some (Sum.inl (l', f')) ∧ ag_ls l' f' = ag_rdl (ag_kds ln g) 0 (ag_ls l f) ∧ σ.2.1 < q ∧ q ≤ σ'.2.1 ∧ ag_fr σ σ' (1 + 2 * 0 * l') (40 * 0 * l') ∧ (∀ i, -100000 ≤ f' i ∧ f' i ≤ 100000) := by
  have hl0 : l = 0 := by
    have h1 : (ag_ls l f).length = 0 := by
      have h2 : ag_ls l f = [] := hok
      rw [h2]
      rfl
    rwa [ag_ls_len] at h1
  subst hl0
  have f1 := ag_fr_n9 σ (Sum.inl (0, fun _ => 0)) 0
  refine ⟨σ.2.1 + 1, 0, fun _ => 0, ag_n9 σ (Sum.inl (0, fun _ => 0)) 0, fun K => ?_, ag_n9_at _ _ _, rfl, Nat.lt_succ_self _, Nat.le_refl _, f1, fun _ => ⟨show (-100000 : Int) ≤ 0 by decide, show (0 : Int) ≤ 100000 by decide⟩⟩
  have hat : ag_up σ.1 (σ.2.1 + 1) (Sum.inl (0, fun _ => 0)) b = some (Sum.inl (0, f)) := (ag_up_ne (by omega)).trans hb
  simp only [ag_i104_0, ag_i104_1, ag_e104, ag_nm_z]
  rw [show ((0 : Int) ≤ 0 ∧ (0 : Int) ≤ 1000000) = True from by simp, true_and]
  have ea := ag_al_at (σ := (ag_up σ.1 (σ.2.1 + 1) (Sum.inl (Int.toNat 0, fun _ => 0)), (σ.2.1 + 1, σ.2.2 + Int.toNat 0))) hat
  simp only [ag_i104_3_n, ag_i104_3_i, ag_i104_3_r, ag_i104_4, ag_i104_5_n, ag_i104_5_i, ag_i104_5_r, ag_i104_6, ag_i104_7, ea, ag_i104_8_n, ag_i104_8_i, ag_i104_8_r, ag_i104_10, ag_i104_11_n, ag_i104_11_i, ag_i104_11_r, ag_i104_13, ag_i104_15, ag_i104_17, ag_nm_z]
  rw [if_pos (show ag_nm ((0 : Nat) : Int) ≤ 0 by decide +kernel)]
  simp only [ag_i104_91, ag_i104_92]
  rfl
theorem ag_h_read3 (h : ag_HS B σ L ln g dr qu mi) (h2 : ln 2 = 41) {b l : Nat} {f : Nat → Int} (hb : σ.1 b = some (Sum.inl (l, f))) (hb2 : b ≤ σ.2.1) (hl : l ≤ 40) (hok : ag_rok (ag_kds ln g) 1 (ag_ls l f)) (hN : (ag_rdl (ag_kds ln g) 1 (ag_ls l f)).length ≤ 40) :
    ∃ (q l' : Nat) (f' : Nat → Int) (σ' : ag_S), (∀ K : ag_Rs → ag_S → Prop, ag_cl9 103 [ag_R B, ag_R b] σ K = K (Sum.inl (some (ag_R q))) σ') ∧ σ'.1 q = some (Sum.inl (l', f')) ∧ ag_ls l' f' = ag_rdl (ag_kds ln g) 1 (ag_ls l f) ∧ σ.2.1 < q ∧ q ≤ σ'.2.1 ∧ ag_fr σ σ' (1 + 2 * 1 * l') (40 * 1 * l') ∧ (∀ i, -100000 ≤ f' i ∧ f' i ≤ 100000) := by
  -- the inner loop: what is below is put behind
  have inner : ∀ (s ls9 : Nat) (fs : Nat → Int) (its i5 : Int) (d i : Nat) (σ1 : ag_S) (q1 l1 : Nat) (f1 : Nat → Int) (x10 : Option ag_V), i + d = ls9 → ls9 ≤ 1000 → l1 + d ≤ 40 → σ.2.1 ≤ σ1.2.1 → σ1.1 q1 = some (Sum.inl (l1, f1)) → 1 ≤ q1 → q1 ≤ σ1.2.1 → σ1.1 s = some (Sum.inl (ls9, fs)) → s ≤ σ1.2.1 → (∀ i, -100000 ≤ f1 i ∧ f1 i ≤ 100000) → (∀ i, -100000 ≤ fs i ∧ fs i ≤ 100000) →
      ∃ (q2 : Nat) (f2 : Nat → Int) (σ2 : ag_S) (y10 : Option ag_V), (∀ K : ag_Rs → ag_S → Prop, ag_wp 103 56 [some (ag_R B), some (ag_R b), some (ag_R q1), some (ag_R b), some (ag_I (l : Int)), some (ag_I i5), some (ag_I its), some (ag_R s), some (ag_I (ls9 : Int)), some (ag_I (i : Int)), x10] [] σ1 K = ag_wp 103 85 [some (ag_R B), some (ag_R b), some (ag_R q2), some (ag_R b), some (ag_I (l : Int)), some (ag_I i5), some (ag_I its), some (ag_R s), some (ag_I (ls9 : Int)), some (ag_I (ls9 : Int)), y10] [] σ2 K) ∧
        σ2.1 q2 = some (Sum.inl (l1 + d, f2)) ∧ ag_ls (l1 + d) f2 = ag_ls l1 f1 ++ (ag_ls ls9 fs).drop i ∧ 1 ≤ q2 ∧ q2 ≤ σ2.2.1 ∧ (σ.2.1 < q1 → σ.2.1 < q2) ∧ ag_fr σ1 σ2 d (40 * d) ∧ (∀ i, -100000 ≤ f2 i ∧ f2 i ≤ 100000) := by
    intro s ls9 fs its i5 d
    induction d with
    | zero =>
      intro i σ1 q1 l1 f1 x10 hi hs40 hl1 hs0 hq hq1 hq2 hs hs2 hf1 hfs
      refine ⟨q1, f1, σ1, x10, fun K => ?_, hq, ?_, hq1, hq2, fun q => q, ag_fr_refl σ1, hf1⟩
      · have hil : i = ls9 := by omega
        subst hil
        rw [ag_i103_56]
        simp only [ag_i103_58, ag_i103_60, ag_nm_nat (show i ≤ 1000000 by omega)]
        rw [if_pos (Int.le_refl _)]
      · rw [List.drop_of_length_le (by rw [ag_ls_len]; omega), List.append_nil]
        rfl
    | succ d ih =>
      intro i σ1 q1 l1 f1 x10 hi hs40 hl1 hs0 hq hq1 hq2 hs hs2 hf1 hfs
      have e1 := fun K => ag_h_plus hq hq1 hq2 (by omega) (Nat.le_refl l1) (fs i) K
      have fr1 := ag_fr_n9 σ1 (Sum.inl (l1 + 1, ag_pls f1 l1 l1 (fs i))) (l1 + 1)
      have hat := ag_n9_at σ1 (Sum.inl (l1 + 1, ag_pls f1 l1 l1 (fs i))) (l1 + 1)
      obtain ⟨q2, f2, σ2, y10, a1, a2, a3, a4, a5, a6, a7, a8⟩ := ih (i + 1) _ (σ1.2.1 + 1) (l1 + 1) _ (some (ag_I (fs i))) (by omega) hs40 (by omega) (Nat.le_trans hs0 fr1.2.1) hat (by omega) (Nat.le_refl _) ((fr1.1 s hs2).trans hs) (Nat.le_trans hs2 fr1.2.1) (ag_pls_sm hf1 (hfs i).1 (hfs i).2 _ _) hfs
      refine ⟨q2, f2, σ2, y10, fun K => ?_, by rw [a2]; congr 3; omega, ?_, a4, a5, fun _ => a6 (by omega), ag_fr_le (ag_fr_trans fr1 a7) (by omega) (by omega), a8⟩
      · rw [ag_i103_56]
        simp only [ag_i103_58, ag_i103_60, ag_nm_nat (show i ≤ 1000000 by omega), ag_nm_nat (show ls9 ≤ 1000000 by omega)]
        rw [if_neg (show ¬ (ls9 : Int) ≤ i by omega)]
        simp only [ag_i103_63, ag_i103_65, ag_i103_67, ag_ia_at hs (show i < ls9 by omega) (show ls9 ≤ 1000000 by omega), ag_i103_68_n, ag_i103_68_i, ag_i103_68_r, ag_i103_70, ag_i103_71, ag_i103_72, ag_al_at hq, ag_i103_73, ag_i103_75, e1, ag_kk_v, ag_kk_n, Nat.reduceAdd, ag_i103_78_n, ag_i103_78_i, ag_i103_78_r, ag_i103_79_n, ag_i103_79_i, ag_i103_79_r, ag_i103_82]
        exact a1 K
      · rw [show l1 + (d + 1) = l1 + 1 + d by omega, a3, ag_ls_end, List.append_assoc]
        rw [ag_ls_drop (show i < ls9 by omega)]
        rfl
  -- the outer loop
  have outer : ∀ (d i : Nat) (σ1 : ag_S) (q1 l1 : Nat) (f1 : Nat → Int) (x6 x7 x8 x9 x10 : Option ag_V), i + d = l → l1 + (ag_rdl (ag_kds ln g) 1 ((ag_ls l f).drop i)).length ≤ 40 → ag_fr σ σ1 (σ1.2.1 - σ.2.1) (σ1.2.2 - σ.2.2) → σ1.1 q1 = some (Sum.inl (l1, f1)) → σ.2.1 < q1 → q1 ≤ σ1.2.1 → (∀ i, -100000 ≤ f1 i ∧ f1 i ≤ 100000) →
      ∃ (q2 l2 : Nat) (f2 : Nat → Int) (σ2 : ag_S), (∀ K : ag_Rs → ag_S → Prop, ag_wp 103 13 [some (ag_R B), some (ag_R b), some (ag_R q1), some (ag_R b), some (ag_I (l : Int)), some (ag_I (i : Int)), x6, x7, x8, x9, x10] [] σ1 K = K (Sum.inl (some (ag_R q2))) σ2) ∧
        σ2.1 q2 = some (Sum.inl (l2, f2)) ∧ ag_ls l2 f2 = ag_ls l1 f1 ++ ag_rdl (ag_kds ln g) 1 ((ag_ls l f).drop i) ∧ σ.2.1 < q2 ∧ q2 ≤ σ2.2.1 ∧ ag_fr σ1 σ2 (2 * 1 * (l2 - l1)) (40 * 1 * (l2 - l1)) ∧ (∀ i, -100000 ≤ f2 i ∧ f2 i ≤ 100000) := by
    intro d
    induction d with
    | zero =>
      intro i σ1 q1 l1 f1 x6 x7 x8 x9 x10 hi hN1 hfr hq hq1 hq2 hf1
      have hil : i = l := by omega
      subst hil
      refine ⟨q1, l1, f1, σ1, fun K => ?_, hq, ?_, hq1, hq2, ag_fr_le (ag_fr_refl σ1) (Nat.zero_le _) (Nat.zero_le _), hf1⟩
      · rw [ag_i103_13]
        simp only [ag_i103_15, ag_i103_17, ag_nm_nat (show i ≤ 1000000 by omega)]
        rw [if_pos (Int.le_refl _)]
        simp only [ag_i103_91, ag_i103_92]
      · rw [List.drop_of_length_le (by rw [ag_ls_len]; omega)]
        simp [ag_rdl]
    | succ d ih =>
      intro i σ1 q1 l1 f1 x6 x7 x8 x9 x10 hi hN1 hfr hq hq1 hq2 hf1
      obtain ⟨z, hz1, hz2, hz3⟩ := hok (f i) (ag_ls_mem.mpr ⟨i, by omega, rfl⟩)
      have hb1 := (hfr.1 b hb2).trans hb
      have hH1 := ag_HS_fr h hfr
      have hdrop := ag_ls_drop (f := f) (show i < l by omega)
      have hsplit : ag_rdl (ag_kds ln g) 1 ((ag_ls l f).drop i) = f i :: (ag_rdl (ag_kds ln g) 0 (ag_kds ln g z) ++ ag_rdl (ag_kds ln g) 1 ((ag_ls l f).drop (i + 1))) := by
        rw [hdrop]
        show (List.flatMap (fun c => c :: ag_rdl (ag_kds ln g) 0 (ag_kds ln g c.toNat)) (f i :: _)) = _
        rw [List.flatMap_cons, hz1, Int.toNat_natCast]
        rfl
      rw [hsplit, List.length_cons, List.length_append] at hN1
      -- its own number
      have e1 := fun K => ag_h_plus hq (by omega) hq2 (by omega) (Nat.le_refl l1) (f i) K
      have fr1 := ag_fr_n9 σ1 (Sum.inl (l1 + 1, ag_pls f1 l1 l1 (f i))) (l1 + 1)
      have hat := ag_n9_at σ1 (Sum.inl (l1 + 1, ag_pls f1 l1 l1 (f i))) (l1 + 1)
      have hfi : -100000 ≤ f i ∧ f i ≤ 100000 := by rw [hz1]; omega
      have sm1 := ag_pls_sm hf1 hfi.1 hfi.2 l1 l1
      generalize hσ2 : ag_n9 σ1 (Sum.inl (l1 + 1, ag_pls f1 l1 l1 (f i))) (l1 + 1) = σ2 at e1 fr1 hat
      have hs2 : σ2.2.1 = σ1.2.1 + 1 := by rw [← hσ2]; rfl
      have hs22 : σ2.2.2 = σ1.2.2 + (l1 + 1) := by rw [← hσ2]; rfl
      have hH2 := ag_HS_fr hH1 fr1
      -- those below
      have hkl : ag_hlv ln (200 + z) := Or.inr (Or.inr (Or.inl (by omega)))
      have hkz := hH2.2.2.1 (200 + z) hkl
      have hkL := hH2.2.2.2.2.1 (200 + z) (Or.inr hkl)
      have hlz : ln (200 + z) ≤ 40 := by
        have h9 : (ag_kds ln g z).length = ln (200 + z) := ag_ls_len _ _
        have h8 : (ag_kds ln g z).length ≤ (ag_rdl (ag_kds ln g) 0 (ag_kds ln g z)).length := by rw [show ag_kds ln g z = [] from hz3]; exact Nat.zero_le _
        omega
      obtain ⟨s, ls9, fs, σ3, r1, r2, r3, r4, r5, r6, r7⟩ := ag_h_read4 hH2 hkz hkL.2 hlz hz3 (by show (ag_rdl (ag_kds ln g) 0 (ag_kds ln g z)).length ≤ 40; omega)
      have r3 : ag_ls ls9 fs = ag_rdl (ag_kds ln g) 0 (ag_kds ln g z) := r3
      have hls : ls9 = (ag_rdl (ag_kds ln g) 0 (ag_kds ln g z)).length := by rw [← r3, ag_ls_len]
      obtain ⟨q4, f4, σ4, y10, a1, a2, a3, a4, a5, a6, a7, a8⟩ := inner s ls9 fs (f i) (i : Int) ls9 0 σ3 (σ1.2.1 + 1) (l1 + 1) _ x10 (Nat.zero_add _) (by omega) (by omega) (by have := hfr.2.1; have := r6.2.1; omega) ((r6.1 _ (by omega)).trans hat) (by omega) (by have := r6.2.1; omega) r2 r5 sm1 r7
      have fr13 := ag_fr_trans fr1 r6
      have fr14 := ag_fr_trans fr13 a7
      have hfr4 : ag_fr σ σ4 (σ4.2.1 - σ.2.1) (σ4.2.2 - σ.2.2) := by
        obtain ⟨b1, b2, b3, b4⟩ := ag_fr_trans hfr fr14
        exact ⟨b1, b2, by omega, by omega⟩
      obtain ⟨q5, l5, f5, σ5, b1, b2, b3, b4, b5, b6, b7⟩ := ih (i + 1) σ4 q4 (l1 + 1 + ls9) f4 (some (ag_I (f i))) (some (ag_R s)) (some (ag_I (ls9 : Int))) (some (ag_I (ls9 : Int))) y10 (by omega) (by omega) hfr4 a2 (a6 (by have := hfr.2.1; omega)) a5 a8
      rw [List.drop_zero] at a3
      have hl5 : l1 + 1 + ls9 ≤ l5 := by
        have := congrArg List.length b3
        rw [List.length_append, ag_ls_len, ag_ls_len] at this
        omega
      refine ⟨q5, l5, f5, σ5, fun K => ?_, b2, ?_, b4, b5, ag_fr_le (ag_fr_trans fr14 b6) ?_ ?_, b7⟩
      · rw [ag_i103_13]
        simp only [ag_i103_15, ag_i103_17, ag_nm_nat (show i ≤ 1000000 by omega), ag_nm_nat (show l ≤ 1000000 by omega)]
        rw [if_neg (show ¬ (l : Int) ≤ i by omega)]
        simp only [ag_i103_20, ag_i103_21, ag_i103_23, ag_ia_at hb1 (show i < l by omega) (show l ≤ 1000000 by omega), ag_i103_24_n, ag_i103_24_i, ag_i103_24_r, ag_i103_26, ag_i103_27, ag_i103_28, ag_al_at hq, ag_i103_29, ag_i103_31, e1, ag_kk_v, ag_kk_n, Nat.reduceAdd, ag_i103_34_n, ag_i103_34_i, ag_i103_34_r, ag_i103_35, ag_i103_36, ag_i103_37, ag_h_g4 hH2, ag_i103_40, ag_i103_42, ag_h_qa hH2 (r := 2) (k := z) (by decide) (by decide) (by omega) hz1, Nat.reduceMul, ag_i103_43, ag_h_ck hH2, r1, ag_i103_46_n, ag_i103_46_i, ag_i103_46_r, ag_i103_48, ag_i103_50, ag_al_at r2, ag_i103_51_n, ag_i103_51_i, ag_i103_51_r, ag_i103_53, ag_i103_54_n, ag_i103_54_i, ag_i103_54_r]
        rw [show (0 : Int) = ((0 : Nat) : Int) from rfl, a1]
        simp only [ag_i103_85_n, ag_i103_85_i, ag_i103_85_r, ag_i103_88]
        exact b1 K
      · rw [b3, a3, hsplit, ag_ls_end, r3]
        simp only [List.append_assoc, List.cons_append, List.nil_append]
      · have e9 : l5 - l1 = 1 + ls9 + (l5 - (l1 + 1 + ls9)) := by omega
        rw [e9]
        generalize l5 - (l1 + 1 + ls9) = t
        omega
      · have e9 : l5 - l1 = 1 + ls9 + (l5 - (l1 + 1 + ls9)) := by omega
        rw [e9]
        generalize l5 - (l1 + 1 + ls9) = t
        omega
  have fr1 := ag_fr_n9 σ (Sum.inl (0, fun _ => 0)) 0
  have hat := ag_n9_at σ (Sum.inl (0, fun _ => 0)) 0
  obtain ⟨q2, l2, f2, σ2, a1, a2, a3, a4, a5, a6, a7⟩ := outer l 0 _ (σ.2.1 + 1) 0 (fun _ => 0) none none none none none (Nat.zero_add _) (by rw [List.drop_zero]; omega) ⟨fr1.1, fr1.2.1, by have := fr1.2.2.1; omega, by have := fr1.2.2.2; omega⟩ hat (Nat.lt_succ_self _) (Nat.le_refl _) (fun _ => ⟨show (-100000 : Int) ≤ 0 by decide, show (0 : Int) ≤ 100000 by decide⟩)
  rw [List.drop_zero, ag_ls_0, List.nil_append] at a3
  refine ⟨q2, l2, f2, σ2, fun K => ?_, a2, a3, a4, a5, ag_fr_le (ag_fr_trans fr1 a6) (by omega) (by omega), a7⟩
  rw [← a1 K]
  have hat2 : ag_up σ.1 (σ.2.1 + 1) (Sum.inl (0, fun _ => 0)) b = some (Sum.inl (l, f)) := (ag_up_ne (by omega)).trans hb
  simp only [ag_i103_0, ag_i103_1, ag_e103, ag_nm_z]
  rw [show ((0 : Int) ≤ 0 ∧ (0 : Int) ≤ 1000000) = True from by simp, true_and]
  have ea := ag_al_at (σ := (ag_up σ.1 (σ.2.1 + 1) (Sum.inl (Int.toNat 0, fun _ => 0)), (σ.2.1 + 1, σ.2.2 + Int.toNat 0))) hat2
  simp only [ag_i103_3_n, ag_i103_3_i, ag_i103_3_r, ag_i103_4, ag_i103_5_n, ag_i103_5_i, ag_i103_5_r, ag_i103_6, ag_i103_7, ea, ag_i103_8_n, ag_i103_8_i, ag_i103_8_r, ag_i103_10, ag_i103_11_n, ag_i103_11_i, ag_i103_11_r]
  rfl
theorem ag_h_read2 (h : ag_HS B σ L ln g dr qu mi) (h2 : ln 2 = 41) {b l : Nat} {f : Nat → Int} (hb : σ.1 b = some (Sum.inl (l, f))) (hb2 : b ≤ σ.2.1) (hl : l ≤ 40) (hok : ag_rok (ag_kds ln g) 2 (ag_ls l f)) (hN : (ag_rdl (ag_kds ln g) 2 (ag_ls l f)).length ≤ 40) :
    ∃ (q l' : Nat) (f' : Nat → Int) (σ' : ag_S), (∀ K : ag_Rs → ag_S → Prop, ag_cl9 102 [ag_R B, ag_R b] σ K = K (Sum.inl (some (ag_R q))) σ') ∧ σ'.1 q = some (Sum.inl (l', f')) ∧ ag_ls l' f' = ag_rdl (ag_kds ln g) 2 (ag_ls l f) ∧ σ.2.1 < q ∧ q ≤ σ'.2.1 ∧ ag_fr σ σ' (1 + 2 * 2 * l') (40 * 2 * l') ∧ (∀ i, -100000 ≤ f' i ∧ f' i ≤ 100000) := by
  -- the inner loop: what is below is put behind
  have inner : ∀ (s ls9 : Nat) (fs : Nat → Int) (its i5 : Int) (d i : Nat) (σ1 : ag_S) (q1 l1 : Nat) (f1 : Nat → Int) (x10 : Option ag_V), i + d = ls9 → ls9 ≤ 1000 → l1 + d ≤ 40 → σ.2.1 ≤ σ1.2.1 → σ1.1 q1 = some (Sum.inl (l1, f1)) → 1 ≤ q1 → q1 ≤ σ1.2.1 → σ1.1 s = some (Sum.inl (ls9, fs)) → s ≤ σ1.2.1 → (∀ i, -100000 ≤ f1 i ∧ f1 i ≤ 100000) → (∀ i, -100000 ≤ fs i ∧ fs i ≤ 100000) →
      ∃ (q2 : Nat) (f2 : Nat → Int) (σ2 : ag_S) (y10 : Option ag_V), (∀ K : ag_Rs → ag_S → Prop, ag_wp 102 56 [some (ag_R B), some (ag_R b), some (ag_R q1), some (ag_R b), some (ag_I (l : Int)), some (ag_I i5), some (ag_I its), some (ag_R s), some (ag_I (ls9 : Int)), some (ag_I (i : Int)), x10] [] σ1 K = ag_wp 102 85 [some (ag_R B), some (ag_R b), some (ag_R q2), some (ag_R b), some (ag_I (l : Int)), some (ag_I i5), some (ag_I its), some (ag_R s), some (ag_I (ls9 : Int)), some (ag_I (ls9 : Int)), y10] [] σ2 K) ∧
        σ2.1 q2 = some (Sum.inl (l1 + d, f2)) ∧ ag_ls (l1 + d) f2 = ag_ls l1 f1 ++ (ag_ls ls9 fs).drop i ∧ 1 ≤ q2 ∧ q2 ≤ σ2.2.1 ∧ (σ.2.1 < q1 → σ.2.1 < q2) ∧ ag_fr σ1 σ2 d (40 * d) ∧ (∀ i, -100000 ≤ f2 i ∧ f2 i ≤ 100000) := by
    intro s ls9 fs its i5 d
    induction d with
    | zero =>
      intro i σ1 q1 l1 f1 x10 hi hs40 hl1 hs0 hq hq1 hq2 hs hs2 hf1 hfs
      refine ⟨q1, f1, σ1, x10, fun K => ?_, hq, ?_, hq1, hq2, fun q => q, ag_fr_refl σ1, hf1⟩
      · have hil : i = ls9 := by omega
        subst hil
        rw [ag_i102_56]
        simp only [ag_i102_58, ag_i102_60, ag_nm_nat (show i ≤ 1000000 by omega)]
        rw [if_pos (Int.le_refl _)]
      · rw [List.drop_of_length_le (by rw [ag_ls_len]; omega), List.append_nil]
        rfl
    | succ d ih =>
      intro i σ1 q1 l1 f1 x10 hi hs40 hl1 hs0 hq hq1 hq2 hs hs2 hf1 hfs
      have e1 := fun K => ag_h_plus hq hq1 hq2 (by omega) (Nat.le_refl l1) (fs i) K
      have fr1 := ag_fr_n9 σ1 (Sum.inl (l1 + 1, ag_pls f1 l1 l1 (fs i))) (l1 + 1)
      have hat := ag_n9_at σ1 (Sum.inl (l1 + 1, ag_pls f1 l1 l1 (fs i))) (l1 + 1)
      obtain ⟨q2, f2, σ2, y10, a1, a2, a3, a4, a5, a6, a7, a8⟩ := ih (i + 1) _ (σ1.2.1 + 1) (l1 + 1) _ (some (ag_I (fs i))) (by omega) hs40 (by omega) (Nat.le_trans hs0 fr1.2.1) hat (by omega) (Nat.le_refl _) ((fr1.1 s hs2).trans hs) (Nat.le_trans hs2 fr1.2.1) (ag_pls_sm hf1 (hfs i).1 (hfs i).2 _ _) hfs
      refine ⟨q2, f2, σ2, y10, fun K => ?_, by rw [a2]; congr 3; omega, ?_, a4, a5, fun _ => a6 (by omega), ag_fr_le (ag_fr_trans fr1 a7) (by omega) (by omega), a8⟩
      · rw [ag_i102_56]
        simp only [ag_i102_58, ag_i102_60, ag_nm_nat (show i ≤ 1000000 by omega), ag_nm_nat (show ls9 ≤ 1000000 by omega)]
        rw [if_neg (show ¬ (ls9 : Int) ≤ i by omega)]
        simp only [ag_i102_63, ag_i102_65, ag_i102_67, ag_ia_at hs (show i < ls9 by omega) (show ls9 ≤ 1000000 by omega), ag_i102_68_n, ag_i102_68_i, ag_i102_68_r, ag_i102_70, ag_i102_71, ag_i102_72, ag_al_at hq, ag_i102_73, ag_i102_75, e1, ag_kk_v, ag_kk_n, Nat.reduceAdd, ag_i102_78_n, ag_i102_78_i, ag_i102_78_r, ag_i102_79_n, ag_i102_79_i, ag_i102_79_r, ag_i102_82]
        exact a1 K
      · rw [show l1 + (d + 1) = l1 + 1 + d by omega, a3, ag_ls_end, List.append_assoc]
        rw [ag_ls_drop (show i < ls9 by omega)]
        rfl
  -- the outer loop
  have outer : ∀ (d i : Nat) (σ1 : ag_S) (q1 l1 : Nat) (f1 : Nat → Int) (x6 x7 x8 x9 x10 : Option ag_V), i + d = l → l1 + (ag_rdl (ag_kds ln g) 2 ((ag_ls l f).drop i)).length ≤ 40 → ag_fr σ σ1 (σ1.2.1 - σ.2.1) (σ1.2.2 - σ.2.2) → σ1.1 q1 = some (Sum.inl (l1, f1)) → σ.2.1 < q1 → q1 ≤ σ1.2.1 → (∀ i, -100000 ≤ f1 i ∧ f1 i ≤ 100000) →
      ∃ (q2 l2 : Nat) (f2 : Nat → Int) (σ2 : ag_S), (∀ K : ag_Rs → ag_S → Prop, ag_wp 102 13 [some (ag_R B), some (ag_R b), some (ag_R q1), some (ag_R b), some (ag_I (l : Int)), some (ag_I (i : Int)), x6, x7, x8, x9, x10] [] σ1 K = K (Sum.inl (some (ag_R q2))) σ2) ∧
        σ2.1 q2 = some (Sum.inl (l2, f2)) ∧ ag_ls l2 f2 = ag_ls l1 f1 ++ ag_rdl (ag_kds ln g) 2 ((ag_ls l f).drop i) ∧ σ.2.1 < q2 ∧ q2 ≤ σ2.2.1 ∧ ag_fr σ1 σ2 (2 * 2 * (l2 - l1)) (40 * 2 * (l2 - l1)) ∧ (∀ i, -100000 ≤ f2 i ∧ f2 i ≤ 100000) := by
    intro d
    induction d with
    | zero =>
      intro i σ1 q1 l1 f1 x6 x7 x8 x9 x10 hi hN1 hfr hq hq1 hq2 hf1
      have hil : i = l := by omega
      subst hil
      refine ⟨q1, l1, f1, σ1, fun K => ?_, hq, ?_, hq1, hq2, ag_fr_le (ag_fr_refl σ1) (Nat.zero_le _) (Nat.zero_le _), hf1⟩
      · rw [ag_i102_13]
        simp only [ag_i102_15, ag_i102_17, ag_nm_nat (show i ≤ 1000000 by omega)]
        rw [if_pos (Int.le_refl _)]
        simp only [ag_i102_91, ag_i102_92]
      · rw [List.drop_of_length_le (by rw [ag_ls_len]; omega)]
        simp [ag_rdl]
    | succ d ih =>
      intro i σ1 q1 l1 f1 x6 x7 x8 x9 x10 hi hN1 hfr hq hq1 hq2 hf1
      obtain ⟨z, hz1, hz2, hz3⟩ := hok (f i) (ag_ls_mem.mpr ⟨i, by omega, rfl⟩)
      have hb1 := (hfr.1 b hb2).trans hb
      have hH1 := ag_HS_fr h hfr
      have hdrop := ag_ls_drop (f := f) (show i < l by omega)
      have hsplit : ag_rdl (ag_kds ln g) 2 ((ag_ls l f).drop i) = f i :: (ag_rdl (ag_kds ln g) 1 (ag_kds ln g z) ++ ag_rdl (ag_kds ln g) 2 ((ag_ls l f).drop (i + 1))) := by
        rw [hdrop]
        show (List.flatMap (fun c => c :: ag_rdl (ag_kds ln g) 1 (ag_kds ln g c.toNat)) (f i :: _)) = _
        rw [List.flatMap_cons, hz1, Int.toNat_natCast]
        rfl
      rw [hsplit, List.length_cons, List.length_append] at hN1
      -- its own number
      have e1 := fun K => ag_h_plus hq (by omega) hq2 (by omega) (Nat.le_refl l1) (f i) K
      have fr1 := ag_fr_n9 σ1 (Sum.inl (l1 + 1, ag_pls f1 l1 l1 (f i))) (l1 + 1)
      have hat := ag_n9_at σ1 (Sum.inl (l1 + 1, ag_pls f1 l1 l1 (f i))) (l1 + 1)
      have hfi : -100000 ≤ f i ∧ f i ≤ 100000 := by rw [hz1]; omega
      have sm1 := ag_pls_sm hf1 hfi.1 hfi.2 l1 l1
      generalize hσ2 : ag_n9 σ1 (Sum.inl (l1 + 1, ag_pls f1 l1 l1 (f i))) (l1 + 1) = σ2 at e1 fr1 hat
      have hs2 : σ2.2.1 = σ1.2.1 + 1 := by rw [← hσ2]; rfl
      have hs22 : σ2.2.2 = σ1.2.2 + (l1 + 1) := by rw [← hσ2]; rfl
      have hH2 := ag_HS_fr hH1 fr1
      -- those below
      have hkl : ag_hlv ln (200 + z) := Or.inr (Or.inr (Or.inl (by omega)))
      have hkz := hH2.2.2.1 (200 + z) hkl
      have hkL := hH2.2.2.2.2.1 (200 + z) (Or.inr hkl)
      have hlz : ln (200 + z) ≤ 40 := by
        have h9 : (ag_kds ln g z).length = ln (200 + z) := ag_ls_len _ _
        have h8 : (ag_kds ln g z).length ≤ (ag_rdl (ag_kds ln g) 1 (ag_kds ln g z)).length := by
          unfold ag_rdl
          generalize ag_kds ln g z = w
          induction w with
          | nil => exact Nat.zero_le _
          | cons a w ihw =>
            rw [List.flatMap_cons, List.length_append, List.length_cons, List.length_cons]
            omega
        omega
      obtain ⟨s, ls9, fs, σ3, r1, r2, r3, r4, r5, r6, r7⟩ := ag_h_read3 hH2 h2 hkz hkL.2 hlz hz3 (by show (ag_rdl (ag_kds ln g) 1 (ag_kds ln g z)).length ≤ 40; omega)
      have r3 : ag_ls ls9 fs = ag_rdl (ag_kds ln g) 1 (ag_kds ln g z) := r3
      have hls : ls9 = (ag_rdl (ag_kds ln g) 1 (ag_kds ln g z)).length := by rw [← r3, ag_ls_len]
      obtain ⟨q4, f4, σ4, y10, a1, a2, a3, a4, a5, a6, a7, a8⟩ := inner s ls9 fs (f i) (i : Int) ls9 0 σ3 (σ1.2.1 + 1) (l1 + 1) _ x10 (Nat.zero_add _) (by omega) (by omega) (by have := hfr.2.1; have := r6.2.1; omega) ((r6.1 _ (by omega)).trans hat) (by omega) (by have := r6.2.1; omega) r2 r5 sm1 r7
      have fr13 := ag_fr_trans fr1 r6
      have fr14 := ag_fr_trans fr13 a7
      have hfr4 : ag_fr σ σ4 (σ4.2.1 - σ.2.1) (σ4.2.2 - σ.2.2) := by
        obtain ⟨b1, b2, b3, b4⟩ := ag_fr_trans hfr fr14
        exact ⟨b1, b2, by omega, by omega⟩
      obtain ⟨q5, l5, f5, σ5, b1, b2, b3, b4, b5, b6, b7⟩ := ih (i + 1) σ4 q4 (l1 + 1 + ls9) f4 (some (ag_I (f i))) (some (ag_R s)) (some (ag_I (ls9 : Int))) (some (ag_I (ls9 : Int))) y10 (by omega) (by omega) hfr4 a2 (a6 (by have := hfr.2.1; omega)) a5 a8
      rw [List.drop_zero] at a3
      have hl5 : l1 + 1 + ls9 ≤ l5 := by
        have := congrArg List.length b3
        rw [List.length_append, ag_ls_len, ag_ls_len] at this
        omega
      refine ⟨q5, l5, f5, σ5, fun K => ?_, b2, ?_, b4, b5, ag_fr_le (ag_fr_trans fr14 b6) ?_ ?_, b7⟩
      · rw [ag_i102_13]
        simp only [ag_i102_15, ag_i102_17, ag_nm_nat (show i ≤ 1000000 by omega), ag_nm_nat (show l ≤ 1000000 by omega)]
        rw [if_neg (show ¬ (l : Int) ≤ i by omega)]
        simp only [ag_i102_20, ag_i102_21, ag_i102_23, ag_ia_at hb1 (show i < l by omega) (show l ≤ 1000000 by omega), ag_i102_24_n, ag_i102_24_i, ag_i102_24_r, ag_i102_26, ag_i102_27, ag_i102_28, ag_al_at hq, ag_i102_29, ag_i102_31, e1, ag_kk_v, ag_kk_n, Nat.reduceAdd, ag_i102_34_n, ag_i102_34_i, ag_i102_34_r, ag_i102_35, ag_i102_36, ag_i102_37, ag_h_g4 hH2, ag_i102_40, ag_i102_42, ag_h_qa hH2 (r := 2) (k := z) (by decide) (by decide) (by omega) hz1, Nat.reduceMul, ag_i102_43, ag_h_ck hH2, r1, ag_i102_46_n, ag_i102_46_i, ag_i102_46_r, ag_i102_48, ag_i102_50, ag_al_at r2, ag_i102_51_n, ag_i102_51_i, ag_i102_51_r, ag_i102_53, ag_i102_54_n, ag_i102_54_i, ag_i102_54_r]
        rw [show (0 : Int) = ((0 : Nat) : Int) from rfl, a1]
        simp only [ag_i102_85_n, ag_i102_85_i, ag_i102_85_r, ag_i102_88]
        exact b1 K
      · rw [b3, a3, hsplit, ag_ls_end, r3]
        simp only [List.append_assoc, List.cons_append, List.nil_append]
      · have e9 : l5 - l1 = 1 + ls9 + (l5 - (l1 + 1 + ls9)) := by omega
        rw [e9]
        generalize l5 - (l1 + 1 + ls9) = t
        omega
      · have e9 : l5 - l1 = 1 + ls9 + (l5 - (l1 + 1 + ls9)) := by omega
        rw [e9]
        generalize l5 - (l1 + 1 + ls9) = t
        omega
  have fr1 := ag_fr_n9 σ (Sum.inl (0, fun _ => 0)) 0
  have hat := ag_n9_at σ (Sum.inl (0, fun _ => 0)) 0
  obtain ⟨q2, l2, f2, σ2, a1, a2, a3, a4, a5, a6, a7⟩ := outer l 0 _ (σ.2.1 + 1) 0 (fun _ => 0) none none none none none (Nat.zero_add _) (by rw [List.drop_zero]; omega) ⟨fr1.1, fr1.2.1, by have := fr1.2.2.1; omega, by have := fr1.2.2.2; omega⟩ hat (Nat.lt_succ_self _) (Nat.le_refl _) (fun _ => ⟨show (-100000 : Int) ≤ 0 by decide, show (0 : Int) ≤ 100000 by decide⟩)
  rw [List.drop_zero, ag_ls_0, List.nil_append] at a3
  refine ⟨q2, l2, f2, σ2, fun K => ?_, a2, a3, a4, a5, ag_fr_le (ag_fr_trans fr1 a6) (by omega) (by omega), a7⟩
  rw [← a1 K]
  have hat2 : ag_up σ.1 (σ.2.1 + 1) (Sum.inl (0, fun _ => 0)) b = some (Sum.inl (l, f)) := (ag_up_ne (by omega)).trans hb
  simp only [ag_i102_0, ag_i102_1, ag_e102, ag_nm_z]
  rw [show ((0 : Int) ≤ 0 ∧ (0 : Int) ≤ 1000000) = True from by simp, true_and]
  have ea := ag_al_at (σ := (ag_up σ.1 (σ.2.1 + 1) (Sum.inl (Int.toNat 0, fun _ => 0)), (σ.2.1 + 1, σ.2.2 + Int.toNat 0))) hat2
  simp only [ag_i102_3_n, ag_i102_3_i, ag_i102_3_r, ag_i102_4, ag_i102_5_n, ag_i102_5_i, ag_i102_5_r, ag_i102_6, ag_i102_7, ea, ag_i102_8_n, ag_i102_8_i, ag_i102_8_r, ag_i102_10, ag_i102_11_n, ag_i102_11_i, ag_i102_11_r]
  rfl
theorem ag_h_read1 (h : ag_HS B σ L ln g dr qu mi) (h2 : ln 2 = 41) {b l : Nat} {f : Nat → Int} (hb : σ.1 b = some (Sum.inl (l, f))) (hb2 : b ≤ σ.2.1) (hl : l ≤ 40) (hok : ag_rok (ag_kds ln g) 3 (ag_ls l f)) (hN : (ag_rdl (ag_kds ln g) 3 (ag_ls l f)).length ≤ 40) :
    ∃ (q l' : Nat) (f' : Nat → Int) (σ' : ag_S), (∀ K : ag_Rs → ag_S → Prop, ag_cl9 101 [ag_R B, ag_R b] σ K = K (Sum.inl (some (ag_R q))) σ') ∧ σ'.1 q = some (Sum.inl (l', f')) ∧ ag_ls l' f' = ag_rdl (ag_kds ln g) 3 (ag_ls l f) ∧ σ.2.1 < q ∧ q ≤ σ'.2.1 ∧ ag_fr σ σ' (1 + 2 * 3 * l') (40 * 3 * l') ∧ (∀ i, -100000 ≤ f' i ∧ f' i ≤ 100000) := by
  -- the inner loop: what is below is put behind
  have inner : ∀ (s ls9 : Nat) (fs : Nat → Int) (its i5 : Int) (d i : Nat) (σ1 : ag_S) (q1 l1 : Nat) (f1 : Nat → Int) (x10 : Option ag_V), i + d = ls9 → ls9 ≤ 1000 → l1 + d ≤ 40 → σ.2.1 ≤ σ1.2.1 → σ1.1 q1 = some (Sum.inl (l1, f1)) → 1 ≤ q1 → q1 ≤ σ1.2.1 → σ1.1 s = some (Sum.inl (ls9, fs)) → s ≤ σ1.2.1 → (∀ i, -100000 ≤ f1 i ∧ f1 i ≤ 100000) → (∀ i, -100000 ≤ fs i ∧ fs i ≤ 100000) →
      ∃ (q2 : Nat) (f2 : Nat → Int) (σ2 : ag_S) (y10 : Option ag_V), (∀ K : ag_Rs → ag_S → Prop, ag_wp 101 56 [some (ag_R B), some (ag_R b), some (ag_R q1), some (ag_R b), some (ag_I (l : Int)), some (ag_I i5), some (ag_I its), some (ag_R s), some (ag_I (ls9 : Int)), some (ag_I (i : Int)), x10] [] σ1 K = ag_wp 101 85 [some (ag_R B), some (ag_R b), some (ag_R q2), some (ag_R b), some (ag_I (l : Int)), some (ag_I i5), some (ag_I its), some (ag_R s), some (ag_I (ls9 : Int)), some (ag_I (ls9 : Int)), y10] [] σ2 K) ∧
        σ2.1 q2 = some (Sum.inl (l1 + d, f2)) ∧ ag_ls (l1 + d) f2 = ag_ls l1 f1 ++ (ag_ls ls9 fs).drop i ∧ 1 ≤ q2 ∧ q2 ≤ σ2.2.1 ∧ (σ.2.1 < q1 → σ.2.1 < q2) ∧ ag_fr σ1 σ2 d (40 * d) ∧ (∀ i, -100000 ≤ f2 i ∧ f2 i ≤ 100000) := by
    intro s ls9 fs its i5 d
    induction d with
    | zero =>
      intro i σ1 q1 l1 f1 x10 hi hs40 hl1 hs0 hq hq1 hq2 hs hs2 hf1 hfs
      refine ⟨q1, f1, σ1, x10, fun K => ?_, hq, ?_, hq1, hq2, fun q => q, ag_fr_refl σ1, hf1⟩
      · have hil : i = ls9 := by omega
        subst hil
        rw [ag_i101_56]
        simp only [ag_i101_58, ag_i101_60, ag_nm_nat (show i ≤ 1000000 by omega)]
        rw [if_pos (Int.le_refl _)]
      · rw [List.drop_of_length_le (by rw [ag_ls_len]; omega), List.append_nil]
        rfl
    | succ d ih =>
      intro i σ1 q1 l1 f1 x10 hi hs40 hl1 hs0 hq hq1 hq2 hs hs2 hf1 hfs
      have e1 := fun K => ag_h_plus hq hq1 hq2 (by omega) (Nat.le_refl l1) (fs i) K
      have fr1 := ag_fr_n9 σ1 (Sum.inl (l1 + 1, ag_pls f1 l1 l1 (fs i))) (l1 + 1)
      have hat := ag_n9_at σ1 (Sum.inl (l1 + 1, ag_pls f1 l1 l1 (fs i))) (l1 + 1)
      obtain ⟨q2, f2, σ2, y10, a1, a2, a3, a4, a5, a6, a7, a8⟩ := ih (i + 1) _ (σ1.2.1 + 1) (l1 + 1) _ (some (ag_I (fs i))) (by omega) hs40 (by omega) (Nat.le_trans hs0 fr1.2.1) hat (by omega) (Nat.le_refl _) ((fr1.1 s hs2).trans hs) (Nat.le_trans hs2 fr1.2.1) (ag_pls_sm hf1 (hfs i).1 (hfs i).2 _ _) hfs
      refine ⟨q2, f2, σ2, y10, fun K => ?_, by rw [a2]; congr 3; omega, ?_, a4, a5, fun _ => a6 (by omega), ag_fr_le (ag_fr_trans fr1 a7) (by omega) (by omega), a8⟩
      · rw [ag_i101_56]
        simp only [ag_i101_58, ag_i101_60, ag_nm_nat (show i ≤ 1000000 by omega), ag_nm_nat (show ls9 ≤ 1000000 by omega)]
        rw [if_neg (show ¬ (ls9 : Int) ≤ i by omega)]
        simp only [ag_i101_63, ag_i101_65, ag_i101_67, ag_ia_at hs (show i < ls9 by omega) (show ls9 ≤ 1000000 by omega), ag_i101_68_n, ag_i101_68_i, ag_i101_68_r, ag_i101_70, ag_i101_71, ag_i101_72, ag_al_at hq, ag_i101_73, ag_i101_75, e1, ag_kk_v, ag_kk_n, Nat.reduceAdd, ag_i101_78_n, ag_i101_78_i, ag_i101_78_r, ag_i101_79_n, ag_i101_79_i, ag_i101_79_r, ag_i101_82]
        exact a1 K
      · rw [show l1 + (d + 1) = l1 + 1 + d by omega, a3, ag_ls_end, List.append_assoc]
        rw [ag_ls_drop (show i < ls9 by omega)]
        rfl
  -- the outer loop
  have outer : ∀ (d i : Nat) (σ1 : ag_S) (q1 l1 : Nat) (f1 : Nat → Int) (x6 x7 x8 x9 x10 : Option ag_V), i + d = l → l1 + (ag_rdl (ag_kds ln g) 3 ((ag_ls l f).drop i)).length ≤ 40 → ag_fr σ σ1 (σ1.2.1 - σ.2.1) (σ1.2.2 - σ.2.2) → σ1.1 q1 = some (Sum.inl (l1, f1)) → σ.2.1 < q1 → q1 ≤ σ1.2.1 → (∀ i, -100000 ≤ f1 i ∧ f1 i ≤ 100000) →
      ∃ (q2 l2 : Nat) (f2 : Nat → Int) (σ2 : ag_S), (∀ K : ag_Rs → ag_S → Prop, ag_wp 101 13 [some (ag_R B), some (ag_R b), some (ag_R q1), some (ag_R b), some (ag_I (l : Int)), some (ag_I (i : Int)), x6, x7, x8, x9, x10] [] σ1 K = K (Sum.inl (some (ag_R q2))) σ2) ∧
        σ2.1 q2 = some (Sum.inl (l2, f2)) ∧ ag_ls l2 f2 = ag_ls l1 f1 ++ ag_rdl (ag_kds ln g) 3 ((ag_ls l f).drop i) ∧ σ.2.1 < q2 ∧ q2 ≤ σ2.2.1 ∧ ag_fr σ1 σ2 (2 * 3 * (l2 - l1)) (40 * 3 * (l2 - l1)) ∧ (∀ i, -100000 ≤ f2 i ∧ f2 i ≤ 100000) := by
    intro d
    induction d with
    | zero =>
      intro i σ1 q1 l1 f1 x6 x7 x8 x9 x10 hi hN1 hfr hq hq1 hq2 hf1
      have hil : i = l := by omega
      subst hil
      refine ⟨q1, l1, f1, σ1, fun K => ?_, hq, ?_, hq1, hq2, ag_fr_le (ag_fr_refl σ1) (Nat.zero_le _) (Nat.zero_le _), hf1⟩
      · rw [ag_i101_13]
        simp only [ag_i101_15, ag_i101_17, ag_nm_nat (show i ≤ 1000000 by omega)]
        rw [if_pos (Int.le_refl _)]
        simp only [ag_i101_91, ag_i101_92]
      · rw [List.drop_of_length_le (by rw [ag_ls_len]; omega)]
        simp [ag_rdl]
    | succ d ih =>
      intro i σ1 q1 l1 f1 x6 x7 x8 x9 x10 hi hN1 hfr hq hq1 hq2 hf1
      obtain ⟨z, hz1, hz2, hz3⟩ := hok (f i) (ag_ls_mem.mpr ⟨i, by omega, rfl⟩)
      have hb1 := (hfr.1 b hb2).trans hb
      have hH1 := ag_HS_fr h hfr
      have hdrop := ag_ls_drop (f := f) (show i < l by omega)
      have hsplit : ag_rdl (ag_kds ln g) 3 ((ag_ls l f).drop i) = f i :: (ag_rdl (ag_kds ln g) 2 (ag_kds ln g z) ++ ag_rdl (ag_kds ln g) 3 ((ag_ls l f).drop (i + 1))) := by
        rw [hdrop]
        show (List.flatMap (fun c => c :: ag_rdl (ag_kds ln g) 2 (ag_kds ln g c.toNat)) (f i :: _)) = _
        rw [List.flatMap_cons, hz1, Int.toNat_natCast]
        rfl
      rw [hsplit, List.length_cons, List.length_append] at hN1
      -- its own number
      have e1 := fun K => ag_h_plus hq (by omega) hq2 (by omega) (Nat.le_refl l1) (f i) K
      have fr1 := ag_fr_n9 σ1 (Sum.inl (l1 + 1, ag_pls f1 l1 l1 (f i))) (l1 + 1)
      have hat := ag_n9_at σ1 (Sum.inl (l1 + 1, ag_pls f1 l1 l1 (f i))) (l1 + 1)
      have hfi : -100000 ≤ f i ∧ f i ≤ 100000 := by rw [hz1]; omega
      have sm1 := ag_pls_sm hf1 hfi.1 hfi.2 l1 l1
      generalize hσ2 : ag_n9 σ1 (Sum.inl (l1 + 1, ag_pls f1 l1 l1 (f i))) (l1 + 1) = σ2 at e1 fr1 hat
      have hs2 : σ2.2.1 = σ1.2.1 + 1 := by rw [← hσ2]; rfl
      have hs22 : σ2.2.2 = σ1.2.2 + (l1 + 1) := by rw [← hσ2]; rfl
      have hH2 := ag_HS_fr hH1 fr1
      -- those below
      have hkl : ag_hlv ln (200 + z) := Or.inr (Or.inr (Or.inl (by omega)))
      have hkz := hH2.2.2.1 (200 + z) hkl
      have hkL := hH2.2.2.2.2.1 (200 + z) (Or.inr hkl)
      have hlz : ln (200 + z) ≤ 40 := by
        have h9 : (ag_kds ln g z).length = ln (200 + z) := ag_ls_len _ _
        have h8 : (ag_kds ln g z).length ≤ (ag_rdl (ag_kds ln g) 2 (ag_kds ln g z)).length := by
          unfold ag_rdl
          generalize ag_kds ln g z = w
          induction w with
          | nil => exact Nat.zero_le _
          | cons a w ihw =>
            rw [List.flatMap_cons, List.length_append, List.length_cons, List.length_cons]
            omega
        omega
      obtain ⟨s, ls9, fs, σ3, r1, r2, r3, r4, r5, r6, r7⟩ := ag_h_read2 hH2 h2 hkz hkL.2 hlz hz3 (by show (ag_rdl (ag_kds ln g) 2 (ag_kds ln g z)).length ≤ 40; omega)
      have r3 : ag_ls ls9 fs = ag_rdl (ag_kds ln g) 2 (ag_kds ln g z) := r3
      have hls : ls9 = (ag_rdl (ag_kds ln g) 2 (ag_kds ln g z)).length := by rw [← r3, ag_ls_len]
      obtain ⟨q4, f4, σ4, y10, a1, a2, a3, a4, a5, a6, a7, a8⟩ := inner s ls9 fs (f i) (i : Int) ls9 0 σ3 (σ1.2.1 + 1) (l1 + 1) _ x10 (Nat.zero_add _) (by omega) (by omega) (by have := hfr.2.1; have := r6.2.1; omega) ((r6.1 _ (by omega)).trans hat) (by omega) (by have := r6.2.1; omega) r2 r5 sm1 r7
      have fr13 := ag_fr_trans fr1 r6
      have fr14 := ag_fr_trans fr13 a7
      have hfr4 : ag_fr σ σ4 (σ4.2.1 - σ.2.1) (σ4.2.2 - σ.2.2) := by
        obtain ⟨b1, b2, b3, b4⟩ := ag_fr_trans hfr fr14
        exact ⟨b1, b2, by omega, by omega⟩
      obtain ⟨q5, l5, f5, σ5, b1, b2, b3, b4, b5, b6, b7⟩ := ih (i + 1) σ4 q4 (l1 + 1 + ls9) f4 (some (ag_I (f i))) (some (ag_R s)) (some (ag_I (ls9 : Int))) (some (ag_I (ls9 : Int))) y10 (by omega) (by omega) hfr4 a2 (a6 (by have := hfr.2.1; omega)) a5 a8
      rw [List.drop_zero] at a3
      have hl5 : l1 + 1 + ls9 ≤ l5 := by
        have := congrArg List.length b3
        rw [List.length_append, ag_ls_len, ag_ls_len] at this
        omega
      refine ⟨q5, l5, f5, σ5, fun K => ?_, b2, ?_, b4, b5, ag_fr_le (ag_fr_trans fr14 b6) ?_ ?_, b7⟩
      · rw [ag_i101_13]
        simp only [ag_i101_15, ag_i101_17, ag_nm_nat (show i ≤ 1000000 by omega), ag_nm_nat (show l ≤ 1000000 by omega)]
        rw [if_neg (show ¬ (l : Int) ≤ i by omega)]
        simp only [ag_i101_20, ag_i101_21, ag_i101_23, ag_ia_at hb1 (show i < l by omega) (show l ≤ 1000000 by omega), ag_i101_24_n, ag_i101_24_i, ag_i101_24_r, ag_i101_26, ag_i101_27, ag_i101_28, ag_al_at hq, ag_i101_29, ag_i101_31, e1, ag_kk_v, ag_kk_n, Nat.reduceAdd, ag_i101_34_n, ag_i101_34_i, ag_i101_34_r, ag_i101_35, ag_i101_36, ag_i101_37, ag_h_g4 hH2, ag_i101_40, ag_i101_42, ag_h_qa hH2 (r := 2) (k := z) (by decide) (by decide) (by omega) hz1, Nat.reduceMul, ag_i101_43, ag_h_ck hH2, r1, ag_i101_46_n, ag_i101_46_i, ag_i101_46_r, ag_i101_48, ag_i101_50, ag_al_at r2, ag_i101_51_n, ag_i101_51_i, ag_i101_51_r, ag_i101_53, ag_i101_54_n, ag_i101_54_i, ag_i101_54_r]
        rw [show (0 : Int) = ((0 : Nat) : Int) from rfl, a1]
        simp only [ag_i101_85_n, ag_i101_85_i, ag_i101_85_r, ag_i101_88]
        exact b1 K
      · rw [b3, a3, hsplit, ag_ls_end, r3]
        simp only [List.append_assoc, List.cons_append, List.nil_append]
      · have e9 : l5 - l1 = 1 + ls9 + (l5 - (l1 + 1 + ls9)) := by omega
        rw [e9]
        generalize l5 - (l1 + 1 + ls9) = t
        omega
      · have e9 : l5 - l1 = 1 + ls9 + (l5 - (l1 + 1 + ls9)) := by omega
        rw [e9]
        generalize l5 - (l1 + 1 + ls9) = t
        omega
  have fr1 := ag_fr_n9 σ (Sum.inl (0, fun _ => 0)) 0
  have hat := ag_n9_at σ (Sum.inl (0, fun _ => 0)) 0
  obtain ⟨q2, l2, f2, σ2, a1, a2, a3, a4, a5, a6, a7⟩ := outer l 0 _ (σ.2.1 + 1) 0 (fun _ => 0) none none none none none (Nat.zero_add _) (by rw [List.drop_zero]; omega) ⟨fr1.1, fr1.2.1, by have := fr1.2.2.1; omega, by have := fr1.2.2.2; omega⟩ hat (Nat.lt_succ_self _) (Nat.le_refl _) (fun _ => ⟨show (-100000 : Int) ≤ 0 by decide, show (0 : Int) ≤ 100000 by decide⟩)
  rw [List.drop_zero, ag_ls_0, List.nil_append] at a3
  refine ⟨q2, l2, f2, σ2, fun K => ?_, a2, a3, a4, a5, ag_fr_le (ag_fr_trans fr1 a6) (by omega) (by omega), a7⟩
  rw [← a1 K]
  have hat2 : ag_up σ.1 (σ.2.1 + 1) (Sum.inl (0, fun _ => 0)) b = some (Sum.inl (l, f)) := (ag_up_ne (by omega)).trans hb
  simp only [ag_i101_0, ag_i101_1, ag_e101, ag_nm_z]
  rw [show ((0 : Int) ≤ 0 ∧ (0 : Int) ≤ 1000000) = True from by simp, true_and]
  have ea := ag_al_at (σ := (ag_up σ.1 (σ.2.1 + 1) (Sum.inl (Int.toNat 0, fun _ => 0)), (σ.2.1 + 1, σ.2.2 + Int.toNat 0))) hat2
  simp only [ag_i101_3_n, ag_i101_3_i, ag_i101_3_r, ag_i101_4, ag_i101_5_n, ag_i101_5_i, ag_i101_5_r, ag_i101_6, ag_i101_7, ea, ag_i101_8_n, ag_i101_8_i, ag_i101_8_r, ag_i101_10, ag_i101_11_n, ag_i101_11_i, ag_i101_11_r]
  rfl
theorem ag_h_read0 (h : ag_HS B σ L ln g dr qu mi) (h2 : ln 2 = 41) {b l : Nat} {f : Nat → Int} (hb : σ.1 b = some (Sum.inl (l, f))) (hb2 : b ≤ σ.2.1) (hl : l ≤ 40) (hok : ag_rok (ag_kds ln g) 4 (ag_ls l f)) (hN : (ag_rdl (ag_kds ln g) 4 (ag_ls l f)).length ≤ 40) :
    ∃ (q l' : Nat) (f' : Nat → Int) (σ' : ag_S), (∀ K : ag_Rs → ag_S → Prop, ag_cl9 100 [ag_R B, ag_R b] σ K = K (Sum.inl (some (ag_R q))) σ') ∧ σ'.1 q = some (Sum.inl (l', f')) ∧ ag_ls l' f' = ag_rdl (ag_kds ln g) 4 (ag_ls l f) ∧ σ.2.1 < q ∧ q ≤ σ'.2.1 ∧ ag_fr σ σ' (1 + 2 * 4 * l') (40 * 4 * l') ∧ (∀ i, -100000 ≤ f' i ∧ f' i ≤ 100000) := by
  -- the inner loop: what is below is put behind
  have inner : ∀ (s ls9 : Nat) (fs : Nat → Int) (its i5 : Int) (d i : Nat) (σ1 : ag_S) (q1 l1 : Nat) (f1 : Nat → Int) (x10 : Option ag_V), i + d = ls9 → ls9 ≤ 1000 → l1 + d ≤ 40 → σ.2.1 ≤ σ1.2.1 → σ1.1 q1 = some (Sum.inl (l1, f1)) → 1 ≤ q1 → q1 ≤ σ1.2.1 → σ1.1 s = some (Sum.inl (ls9, fs)) → s ≤ σ1.2.1 → (∀ i, -100000 ≤ f1 i ∧ f1 i ≤ 100000) → (∀ i, -100000 ≤ fs i ∧ fs i ≤ 100000) →
      ∃ (q2 : Nat) (f2 : Nat → Int) (σ2 : ag_S) (y10 : Option ag_V), (∀ K : ag_Rs → ag_S → Prop, ag_wp 100 56 [some (ag_R B), some (ag_R b), some (ag_R q1), some (ag_R b), some (ag_I (l : Int)), some (ag_I i5), some (ag_I its), some (ag_R s), some (ag_I (ls9 : Int)), some (ag_I (i : Int)), x10] [] σ1 K = ag_wp 100 85 [some (ag_R B), some (ag_R b), some (ag_R q2), some (ag_R b), some (ag_I (l : Int)), some (ag_I i5), some (ag_I its), some (ag_R s), some (ag_I (ls9 : Int)), some (ag_I (ls9 : Int)), y10] [] σ2 K) ∧
        σ2.1 q2 = some (Sum.inl (l1 + d, f2)) ∧ ag_ls (l1 + d) f2 = ag_ls l1 f1 ++ (ag_ls ls9 fs).drop i ∧ 1 ≤ q2 ∧ q2 ≤ σ2.2.1 ∧ (σ.2.1 < q1 → σ.2.1 < q2) ∧ ag_fr σ1 σ2 d (40 * d) ∧ (∀ i, -100000 ≤ f2 i ∧ f2 i ≤ 100000) := by
    intro s ls9 fs its i5 d
    induction d with
    | zero =>
      intro i σ1 q1 l1 f1 x10 hi hs40 hl1 hs0 hq hq1 hq2 hs hs2 hf1 hfs
      refine ⟨q1, f1, σ1, x10, fun K => ?_, hq, ?_, hq1, hq2, fun q => q, ag_fr_refl σ1, hf1⟩
      · have hil : i = ls9 := by omega
        subst hil
        rw [ag_i100_56]
        simp only [ag_i100_58, ag_i100_60, ag_nm_nat (show i ≤ 1000000 by omega)]
        rw [if_pos (Int.le_refl _)]
      · rw [List.drop_of_length_le (by rw [ag_ls_len]; omega), List.append_nil]
        rfl
    | succ d ih =>
      intro i σ1 q1 l1 f1 x10 hi hs40 hl1 hs0 hq hq1 hq2 hs hs2 hf1 hfs
      have e1 := fun K => ag_h_plus hq hq1 hq2 (by omega) (Nat.le_refl l1) (fs i) K
      have fr1 := ag_fr_n9 σ1 (Sum.inl (l1 + 1, ag_pls f1 l1 l1 (fs i))) (l1 + 1)
      have hat := ag_n9_at σ1 (Sum.inl (l1 + 1, ag_pls f1 l1 l1 (fs i))) (l1 + 1)
      obtain ⟨q2, f2, σ2, y10, a1, a2, a3, a4, a5, a6, a7, a8⟩ := ih (i + 1) _ (σ1.2.1 + 1) (l1 + 1) _ (some (ag_I (fs i))) (by omega) hs40 (by omega) (Nat.le_trans hs0 fr1.2.1) hat (by omega) (Nat.le_refl _) ((fr1.1 s hs2).trans hs) (Nat.le_trans hs2 fr1.2.1) (ag_pls_sm hf1 (hfs i).1 (hfs i).2 _ _) hfs
      refine ⟨q2, f2, σ2, y10, fun K => ?_, by rw [a2]; congr 3; omega, ?_, a4, a5, fun _ => a6 (by omega), ag_fr_le (ag_fr_trans fr1 a7) (by omega) (by omega), a8⟩
      · rw [ag_i100_56]
        simp only [ag_i100_58, ag_i100_60, ag_nm_nat (show i ≤ 1000000 by omega), ag_nm_nat (show ls9 ≤ 1000000 by omega)]
        rw [if_neg (show ¬ (ls9 : Int) ≤ i by omega)]
        simp only [ag_i100_63, ag_i100_65, ag_i100_67, ag_ia_at hs (show i < ls9 by omega) (show ls9 ≤ 1000000 by omega), ag_i100_68_n, ag_i100_68_i, ag_i100_68_r, ag_i100_70, ag_i100_71, ag_i100_72, ag_al_at hq, ag_i100_73, ag_i100_75, e1, ag_kk_v, ag_kk_n, Nat.reduceAdd, ag_i100_78_n, ag_i100_78_i, ag_i100_78_r, ag_i100_79_n, ag_i100_79_i, ag_i100_79_r, ag_i100_82]
        exact a1 K
      · rw [show l1 + (d + 1) = l1 + 1 + d by omega, a3, ag_ls_end, List.append_assoc]
        rw [ag_ls_drop (show i < ls9 by omega)]
        rfl
  -- the outer loop
  have outer : ∀ (d i : Nat) (σ1 : ag_S) (q1 l1 : Nat) (f1 : Nat → Int) (x6 x7 x8 x9 x10 : Option ag_V), i + d = l → l1 + (ag_rdl (ag_kds ln g) 4 ((ag_ls l f).drop i)).length ≤ 40 → ag_fr σ σ1 (σ1.2.1 - σ.2.1) (σ1.2.2 - σ.2.2) → σ1.1 q1 = some (Sum.inl (l1, f1)) → σ.2.1 < q1 → q1 ≤ σ1.2.1 → (∀ i, -100000 ≤ f1 i ∧ f1 i ≤ 100000) →
      ∃ (q2 l2 : Nat) (f2 : Nat → Int) (σ2 : ag_S), (∀ K : ag_Rs → ag_S → Prop, ag_wp 100 13 [some (ag_R B), some (ag_R b), some (ag_R q1), some (ag_R b), some (ag_I (l : Int)), some (ag_I (i : Int)), x6, x7, x8, x9, x10] [] σ1 K = K (Sum.inl (some (ag_R q2))) σ2) ∧
        σ2.1 q2 = some (Sum.inl (l2, f2)) ∧ ag_ls l2 f2 = ag_ls l1 f1 ++ ag_rdl (ag_kds ln g) 4 ((ag_ls l f).drop i) ∧ σ.2.1 < q2 ∧ q2 ≤ σ2.2.1 ∧ ag_fr σ1 σ2 (2 * 4 * (l2 - l1)) (40 * 4 * (l2 - l1)) ∧ (∀ i, -100000 ≤ f2 i ∧ f2 i ≤ 100000) := by
    intro d
    induction d with
    | zero =>
      intro i σ1 q1 l1 f1 x6 x7 x8 x9 x10 hi hN1 hfr hq hq1 hq2 hf1
      have hil : i = l := by omega
      subst hil
      refine ⟨q1, l1, f1, σ1, fun K => ?_, hq, ?_, hq1, hq2, ag_fr_le (ag_fr_refl σ1) (Nat.zero_le _) (Nat.zero_le _), hf1⟩
      · rw [ag_i100_13]
        simp only [ag_i100_15, ag_i100_17, ag_nm_nat (show i ≤ 1000000 by omega)]
        rw [if_pos (Int.le_refl _)]
        simp only [ag_i100_91, ag_i100_92]
      · rw [List.drop_of_length_le (by rw [ag_ls_len]; omega)]
        simp [ag_rdl]
    | succ d ih =>
      intro i σ1 q1 l1 f1 x6 x7 x8 x9 x10 hi hN1 hfr hq hq1 hq2 hf1
      obtain ⟨z, hz1, hz2, hz3⟩ := hok (f i) (ag_ls_mem.mpr ⟨i, by omega, rfl⟩)
      have hb1 := (hfr.1 b hb2).trans hb
      have hH1 := ag_HS_fr h hfr
      have hdrop := ag_ls_drop (f := f) (show i < l by omega)
      have hsplit : ag_rdl (ag_kds ln g) 4 ((ag_ls l f).drop i) = f i :: (ag_rdl (ag_kds ln g) 3 (ag_kds ln g z) ++ ag_rdl (ag_kds ln g) 4 ((ag_ls l f).drop (i + 1))) := by
        rw [hdrop]
        show (List.flatMap (fun c => c :: ag_rdl (ag_kds ln g) 3 (ag_kds ln g c.toNat)) (f i :: _)) = _
        rw [List.flatMap_cons, hz1, Int.toNat_natCast]
        rfl
      rw [hsplit, List.length_cons, List.length_append] at hN1
      -- its own number
      have e1 := fun K => ag_h_plus hq (by omega) hq2 (by omega) (Nat.le_refl l1) (f i) K
      have fr1 := ag_fr_n9 σ1 (Sum.inl (l1 + 1, ag_pls f1 l1 l1 (f i))) (l1 + 1)
      have hat := ag_n9_at σ1 (Sum.inl (l1 + 1, ag_pls f1 l1 l1 (f i))) (l1 + 1)
      have hfi : -100000 ≤ f i ∧ f i ≤ 100000 := by rw [hz1]; omega
      have sm1 := ag_pls_sm hf1 hfi.1 hfi.2 l1 l1
      generalize hσ2 : ag_n9 σ1 (Sum.inl (l1 + 1, ag_pls f1 l1 l1 (f i))) (l1 + 1) = σ2 at e1 fr1 hat
      have hs2 : σ2.2.1 = σ1.2.1 + 1 := by rw [← hσ2]; rfl
      have hs22 : σ2.2.2 = σ1.2.2 + (l1 + 1) := by rw [← hσ2]; rfl
      have hH2 := ag_HS_fr hH1 fr1
      -- those below
      have hkl : ag_hlv ln (200 + z) := Or.inr (Or.inr (Or.inl (by omega)))
      have hkz := hH2.2.2.1 (200 + z) hkl
      have hkL := hH2.2.2.2.2.1 (200 + z) (Or.inr hkl)
      have hlz : ln (200 + z) ≤ 40 := by
        have h9 : (ag_kds ln g z).length = ln (200 + z) := ag_ls_len _ _
        have h8 : (ag_kds ln g z).length ≤ (ag_rdl (ag_kds ln g) 3 (ag_kds ln g z)).length := by
          unfold ag_rdl
          generalize ag_kds ln g z = w
          induction w with
          | nil => exact Nat.zero_le _
          | cons a w ihw =>
            rw [List.flatMap_cons, List.length_append, List.length_cons, List.length_cons]
            omega
        omega
      obtain ⟨s, ls9, fs, σ3, r1, r2, r3, r4, r5, r6, r7⟩ := ag_h_read1 hH2 h2 hkz hkL.2 hlz hz3 (by show (ag_rdl (ag_kds ln g) 3 (ag_kds ln g z)).length ≤ 40; omega)
      have r3 : ag_ls ls9 fs = ag_rdl (ag_kds ln g) 3 (ag_kds ln g z) := r3
      have hls : ls9 = (ag_rdl (ag_kds ln g) 3 (ag_kds ln g z)).length := by rw [← r3, ag_ls_len]
      obtain ⟨q4, f4, σ4, y10, a1, a2, a3, a4, a5, a6, a7, a8⟩ := inner s ls9 fs (f i) (i : Int) ls9 0 σ3 (σ1.2.1 + 1) (l1 + 1) _ x10 (Nat.zero_add _) (by omega) (by omega) (by have := hfr.2.1; have := r6.2.1; omega) ((r6.1 _ (by omega)).trans hat) (by omega) (by have := r6.2.1; omega) r2 r5 sm1 r7
      have fr13 := ag_fr_trans fr1 r6
      have fr14 := ag_fr_trans fr13 a7
      have hfr4 : ag_fr σ σ4 (σ4.2.1 - σ.2.1) (σ4.2.2 - σ.2.2) := by
        obtain ⟨b1, b2, b3, b4⟩ := ag_fr_trans hfr fr14
        exact ⟨b1, b2, by omega, by omega⟩
      obtain ⟨q5, l5, f5, σ5, b1, b2, b3, b4, b5, b6, b7⟩ := ih (i + 1) σ4 q4 (l1 + 1 + ls9) f4 (some (ag_I (f i))) (some (ag_R s)) (some (ag_I (ls9 : Int))) (some (ag_I (ls9 : Int))) y10 (by omega) (by omega) hfr4 a2 (a6 (by have := hfr.2.1; omega)) a5 a8
      rw [List.drop_zero] at a3
      have hl5 : l1 + 1 + ls9 ≤ l5 := by
        have := congrArg List.length b3
        rw [List.length_append, ag_ls_len, ag_ls_len] at this
        omega
      refine ⟨q5, l5, f5, σ5, fun K => ?_, b2, ?_, b4, b5, ag_fr_le (ag_fr_trans fr14 b6) ?_ ?_, b7⟩
      · rw [ag_i100_13]
        simp only [ag_i100_15, ag_i100_17, ag_nm_nat (show i ≤ 1000000 by omega), ag_nm_nat (show l ≤ 1000000 by omega)]
        rw [if_neg (show ¬ (l : Int) ≤ i by omega)]
        simp only [ag_i100_20, ag_i100_21, ag_i100_23, ag_ia_at hb1 (show i < l by omega) (show l ≤ 1000000 by omega), ag_i100_24_n, ag_i100_24_i, ag_i100_24_r, ag_i100_26, ag_i100_27, ag_i100_28, ag_al_at hq, ag_i100_29, ag_i100_31, e1, ag_kk_v, ag_kk_n, Nat.reduceAdd, ag_i100_34_n, ag_i100_34_i, ag_i100_34_r, ag_i100_35, ag_i100_36, ag_i100_37, ag_h_g4 hH2, ag_i100_40, ag_i100_42, ag_h_qa hH2 (r := 2) (k := z) (by decide) (by decide) (by omega) hz1, Nat.reduceMul, ag_i100_43, ag_h_ck hH2, r1, ag_i100_46_n, ag_i100_46_i, ag_i100_46_r, ag_i100_48, ag_i100_50, ag_al_at r2, ag_i100_51_n, ag_i100_51_i, ag_i100_51_r, ag_i100_53, ag_i100_54_n, ag_i100_54_i, ag_i100_54_r]
        rw [show (0 : Int) = ((0 : Nat) : Int) from rfl, a1]
        simp only [ag_i100_85_n, ag_i100_85_i, ag_i100_85_r, ag_i100_88]
        exact b1 K
      · rw [b3, a3, hsplit, ag_ls_end, r3]
        simp only [List.append_assoc, List.cons_append, List.nil_append]
      · have e9 : l5 - l1 = 1 + ls9 + (l5 - (l1 + 1 + ls9)) := by omega
        rw [e9]
        generalize l5 - (l1 + 1 + ls9) = t
        omega
      · have e9 : l5 - l1 = 1 + ls9 + (l5 - (l1 + 1 + ls9)) := by omega
        rw [e9]
        generalize l5 - (l1 + 1 + ls9) = t
        omega
  have fr1 := ag_fr_n9 σ (Sum.inl (0, fun _ => 0)) 0
  have hat := ag_n9_at σ (Sum.inl (0, fun _ => 0)) 0
  obtain ⟨q2, l2, f2, σ2, a1, a2, a3, a4, a5, a6, a7⟩ := outer l 0 _ (σ.2.1 + 1) 0 (fun _ => 0) none none none none none (Nat.zero_add _) (by rw [List.drop_zero]; omega) ⟨fr1.1, fr1.2.1, by have := fr1.2.2.1; omega, by have := fr1.2.2.2; omega⟩ hat (Nat.lt_succ_self _) (Nat.le_refl _) (fun _ => ⟨show (-100000 : Int) ≤ 0 by decide, show (0 : Int) ≤ 100000 by decide⟩)
  rw [List.drop_zero, ag_ls_0, List.nil_append] at a3
  refine ⟨q2, l2, f2, σ2, fun K => ?_, a2, a3, a4, a5, ag_fr_le (ag_fr_trans fr1 a6) (by omega) (by omega), a7⟩
  rw [← a1 K]
  have hat2 : ag_up σ.1 (σ.2.1 + 1) (Sum.inl (0, fun _ => 0)) b = some (Sum.inl (l, f)) := (ag_up_ne (by omega)).trans hb
  simp only [ag_i100_0, ag_i100_1, ag_e100, ag_nm_z]
  rw [show ((0 : Int) ≤ 0 ∧ (0 : Int) ≤ 1000000) = True from by simp, true_and]
  have ea := ag_al_at (σ := (ag_up σ.1 (σ.2.1 + 1) (Sum.inl (Int.toNat 0, fun _ => 0)), (σ.2.1 + 1, σ.2.2 + Int.toNat 0))) hat2
  simp only [ag_i100_3_n, ag_i100_3_i, ag_i100_3_r, ag_i100_4, ag_i100_5_n, ag_i100_5_i, ag_i100_5_r, ag_i100_6, ag_i100_7, ea, ag_i100_8_n, ag_i100_8_i, ag_i100_8_r, ag_i100_10, ag_i100_11_n, ag_i100_11_i, ag_i100_11_r]
  rfl
end AGH3
