/-! THE SMALL MACHINE: int and long arithmetic in Int, a store of cells by names (0: the script; k + 1: the k-th cell that the run makes), one step, a run with fuel, and 'ag_wp' (it ends, and the end has Q). -/
def ag_nm (x : Int) : Int := (Int32.ofInt x).toInt
def ag_nl (x : Int) : Int := (Int64.ofInt x).toInt
def ag_up (h : Nat → Option ag_C) (n : Nat) (c : ag_C) : Nat → Option ag_C := fun k => if k = n then some c else h k
def ag_ui (g : Nat → Int) (i : Nat) (x : Int) : Nat → Int := fun k => if k = i then x else g k
def ag_uq (g : Nat → Option Nat) (i : Nat) (x : Option Nat) : Nat → Option Nat := fun k => if k = i then x else g k
/-- new int[n][k], the outer row at q, the inner ones behind it -/
def ag_mn (h : Nat → Option ag_C) (q n k : Nat) : Nat → Option ag_C := fun z => if z = q then some (Sum.inr (Sum.inr (Sum.inl (n, fun i => if i < n then some (q + 1 + i) else none)))) else if q < z ∧ z ≤ q + n then some (Sum.inl (k, fun _ => 0)) else h z
def ag_go (pc : Nat) (ls : ag_Ls) (st : List ag_V) (σ : ag_S) : Option ag_X := some (Sum.inl (pc, (ls, (st, σ))))
def ag_dn (r : ag_Rs) (σ : ag_S) : Option ag_X := some (Sum.inr (Sum.inl (r, σ)))
def ag_c2 (v : ag_V) : Bool := match v with
  | .inr (.inl _) => true
  | .inr (.inr (.inl _)) => true
  | _ => false
def ag_ok (ls : ag_Ls) (k : Nat) : Bool := match k with
  | 0 => true
  | j + 1 => match ls[j]? with
    | some (some v) => !ag_c2 v
    | _ => true
/-- load of a kind: 0 int, 1 long, 2 double, 3 reference -/
def ag_ki (q : Nat) (v : ag_V) : Bool := match q, v with
  | 0, .inl _ => true
  | 1, .inr (.inl _) => true
  | 2, .inr (.inr (.inl _)) => true
  | 3, .inr (.inr (.inr (some _))) => true
  | _, _ => false
def ag_ld (q k len pc : Nat) (ls : ag_Ls) (st : List ag_V) (σ : ag_S) : Option ag_X := match ls[k]? with
  | some (some v) => if ag_ki q v = true then ag_go (pc + len) ls (v :: st) σ else none
  | _ => none
def ag_sr (q k len pc : Nat) (ls : ag_Ls) (st : List ag_V) (σ : ag_S) : Option ag_X := match st with
  | v :: st => if ag_ki q v = true ∧ ag_ok ls k = true then
      (if ag_c2 v = true then (if k + 1 < ls.length then ag_go (pc + len) ((ls.set k (some v)).set (k + 1) none) st σ else none)
       else (if k < ls.length then ag_go (pc + len) (ls.set k (some v)) st σ else none)) else none
  | _ => none
def ag_tg (pc : Nat) (off : Int) (ls : ag_Ls) (st : List ag_V) (σ : ag_S) : Option ag_X := if 0 ≤ (pc : Int) + off then ag_go ((pc : Int) + off).toNat ls st σ else none
def ag_br (c : Prop) [Decidable c] (pc : Nat) (off : Int) (ls : ag_Ls) (st : List ag_V) (σ : ag_S) : Option ag_X := if 0 ≤ (pc : Int) + off then (if c then ag_go ((pc : Int) + off).toNat ls st σ else ag_go (pc + 3) ls st σ) else none
def ag_bc (cd : _root_.Jvm.ClassFile.Cond) (a b : Int) (pc : Nat) (off : Int) (ls : ag_Ls) (st : List ag_V) (σ : ag_S) : Option ag_X := match cd with
  | .eq => ag_br (ag_nm a = ag_nm b) pc off ls st σ
  | .ne => ag_br (ag_nm a ≠ ag_nm b) pc off ls st σ
  | .lt => ag_br (ag_nm a < ag_nm b) pc off ls st σ
  | .ge => ag_br (ag_nm b ≤ ag_nm a) pc off ls st σ
  | .gt => ag_br (ag_nm b < ag_nm a) pc off ls st σ
  | .le => ag_br (ag_nm a ≤ ag_nm b) pc off ls st σ
def ag_wt (st : List ag_V) : Nat := (st.map (fun v => if ag_c2 v = true then 2 else 1)).sum
/-- what is copied out of a row of references are rows of ints -/
def ag_cpk (σ : ag_S) (f : Nat → Option Nat) (sp n : Nat) : Bool := (List.range n).all (fun i => match f (sp + i) with
  | none => false
  | some b => decide (1 ≤ b) && (match σ.1 b with
    | some (.inl _) => true
    | _ => false))
/-- a call: the callee, its arguments (the receiver first), what stays; the receiver (kind 0) is an object of the callee's class -/
def ag_iv (y idx op : Nat) (pc : Nat) (ls : ag_Ls) (st : List ag_V) (σ : ag_S) : Option ag_X := match ag_ml y idx with
  | none => none
  | some (0, _) => match op, st with
    | 2, .inr (.inr (.inr (some _))) :: st => if ag_wt st ≤ 8 then ag_go (pc + 3) ls st σ else none
    | _, _ => none
  | some (1, (n, _)) => match op, st with
    | 1, .inl b :: .inl a :: st => if n = 2 ∧ ag_wt st ≤ 8 then ag_go (pc + 3) ls (ag_I (if ag_nm a < ag_nm b then b else a) :: st) σ else none
    | 1, .inr (.inr (.inl a)) :: st => if n = 1 ∧ ag_wt st ≤ 8 ∧ ag_nn a = true then ag_go (pc + 3) ls (ag_F (a &&& 0x7fffffffffffffff) :: st) σ else none
    | _, _ => none
  | some (2, _) => match op, st with
    | 1, .inl n :: .inl dp :: .inr (.inr (.inr (some d))) :: .inl sp :: .inr (.inr (.inr (some a))) :: st => match σ.1 a, σ.1 d with
      | some (.inl (n0, f)), some (.inl (n1, g)) =>
        if 0 ≤ ag_nm sp ∧ 0 ≤ ag_nm dp ∧ 0 ≤ ag_nm n ∧ ag_nm sp + ag_nm n ≤ n0 ∧ ag_nm dp + ag_nm n ≤ n1 ∧ 1 ≤ d ∧ 1 ≤ a ∧ ag_wt st ≤ 8 then
          ag_go (pc + 3) ls st (ag_up σ.1 d (Sum.inl (n1, va_cpy f g (ag_nm sp).toNat (ag_nm dp).toNat (ag_nm n).toNat)), σ.2)
        else none
      | some (.inr (.inr (.inl (n0, f)))), some (.inr (.inr (.inl (n1, g)))) =>
        if 0 ≤ ag_nm sp ∧ 0 ≤ ag_nm dp ∧ 0 ≤ ag_nm n ∧ ag_nm sp + ag_nm n ≤ n0 ∧ ag_nm dp + ag_nm n ≤ n1 ∧ 1 ≤ d ∧ 1 ≤ a ∧ ag_wt st ≤ 8 ∧ ag_cpk σ f (ag_nm sp).toNat (ag_nm n).toNat = true then
          ag_go (pc + 3) ls st (ag_up σ.1 d (Sum.inr (Sum.inr (Sum.inl (n1, va_cpy f g (ag_nm sp).toNat (ag_nm dp).toNat (ag_nm n).toNat)))), σ.2)
        else none
      | _, _ => none
    | _, _ => none
  | some (y', (n, kd)) =>
    if n ≤ st.length ∧ (ag_wt (st.drop n)) ≤ 8 ∧ ((st.take n).all (fun v => !ag_c2 v)) = true then
      (if kd = 0 ∨ kd = 9 then (if op = 0 then (match (st.take n).reverse with
          | .inr (.inr (.inr (some a))) :: _ => (match σ.1 a with
            | some (.inr (.inr (.inr (ci, _)))) => if ci = ag_ow y' then some (Sum.inr (Sum.inr (y', ((st.take n).reverse, st.drop n)))) else none
            | _ => none)
          | _ => none) else none)
       else if kd = 3 ∨ kd = 4 then (if op = 2 then (match (st.take n).reverse with
          | .inr (.inr (.inr (some _))) :: _ => some (Sum.inr (Sum.inr (y', ((st.take n).reverse, st.drop n))))
          | _ => none) else none)
       else (if op = 1 then some (Sum.inr (Sum.inr (y', ((st.take n).reverse, st.drop n)))) else none)) else none
def ag_ex (y : Nat) (i : Instr) (len pc : Nat) (ls : ag_Ls) (st : List ag_V) (σ : ag_S) : Option ag_X := match i with
  | .iconst n => ag_go (pc + len) ls (ag_I n :: st) σ
  | .bipush n => if -128 ≤ n ∧ n < 128 then ag_go (pc + len) ls (ag_I n :: st) σ else none
  | .sipush n => if -32768 ≤ n ∧ n < 32768 then ag_go (pc + len) ls (ag_I n :: st) σ else none
  | .lconst n => ag_go (pc + len) ls (ag_L (n : Nat) :: st) σ
  | .dconst n => if n = 0 then ag_go (pc + len) ls (ag_F FP.dconst0 :: st) σ else none
  | .ldc idx => match ag_ki9 (ag_ow y) idx with
    | some v => ag_go (pc + len) ls (ag_I v :: st) σ
    | none => none
  | .ldc2_w idx => match ag_kl (ag_ow y) idx with
    | some v => ag_go (pc + len) ls (ag_L v :: st) σ
    | none => match ag_kd9 (ag_ow y) idx with
      | some v => ag_go (pc + len) ls (ag_F v :: st) σ
      | none => none
  | .iload_n k => ag_ld 0 k len pc ls st σ
  | .iload k => ag_ld 0 k len pc ls st σ
  | .lload_n k => ag_ld 1 k len pc ls st σ
  | .lload k => ag_ld 1 k len pc ls st σ
  | .dload k => ag_ld 2 k len pc ls st σ
  | .aload_n k => ag_ld 3 k len pc ls st σ
  | .aload k => ag_ld 3 k len pc ls st σ
  | .istore_n k => ag_sr 0 k len pc ls st σ
  | .istore k => ag_sr 0 k len pc ls st σ
  | .lstore_n k => ag_sr 1 k len pc ls st σ
  | .lstore k => ag_sr 1 k len pc ls st σ
  | .dstore k => ag_sr 2 k len pc ls st σ
  | .astore_n k => ag_sr 3 k len pc ls st σ
  | .astore k => ag_sr 3 k len pc ls st σ
  | .iinc k n => match ls[k]? with
    | some (some (.inl x)) => if ag_ok ls k = true ∧ k < ls.length then ag_go (pc + len) (ls.set k (some (ag_I (x + n)))) st σ else none
    | _ => none
  | .iadd => match st with
    | .inl b :: .inl a :: st => ag_go (pc + len) ls (ag_I (a + b) :: st) σ
    | _ => none
  | .isub => match st with
    | .inl b :: .inl a :: st => ag_go (pc + len) ls (ag_I (a - b) :: st) σ
    | _ => none
  | .imul => match st with
    | .inl b :: .inl a :: st => ag_go (pc + len) ls (ag_I (a * b) :: st) σ
    | _ => none
  | .idiv => match st with
    | .inl b :: .inl a :: st => if ag_nm b = 0 then none else ag_go (pc + len) ls (ag_I (Int32.ofInt a / Int32.ofInt b).toInt :: st) σ
    | _ => none
  | .irem => match st with
    | .inl b :: .inl a :: st => if ag_nm b = 0 then none else ag_go (pc + len) ls (ag_I (Int32.ofInt a - Int32.ofInt a / Int32.ofInt b * Int32.ofInt b).toInt :: st) σ
    | _ => none
  | .ishr => match st with
    | .inl b :: .inl a :: st => ag_go (pc + len) ls (ag_I (Int32.ofInt a >>> (Int32.ofInt b &&& 31)).toInt :: st) σ
    | _ => none
  | .iand => match st with
    | .inl b :: .inl a :: st => ag_go (pc + len) ls (ag_I (Int32.ofInt a &&& Int32.ofInt b).toInt :: st) σ
    | _ => none
  | .i2l => match st with
    | .inl a :: st => ag_go (pc + len) ls (ag_L (ag_nm a) :: st) σ
    | _ => none
  | .ladd => match st with
    | .inr (.inl b) :: .inr (.inl a) :: st => ag_go (pc + len) ls (ag_L (a + b) :: st) σ
    | _ => none
  | .lmul => match st with
    | .inr (.inl b) :: .inr (.inl a) :: st => ag_go (pc + len) ls (ag_L (a * b) :: st) σ
    | _ => none
  | .lcmp => match st with
    | .inr (.inl b) :: .inr (.inl a) :: st => ag_go (pc + len) ls (ag_I (if ag_nl a < ag_nl b then -1 else if ag_nl a = ag_nl b then 0 else 1) :: st) σ
    | _ => none
  | .i2d => match st with
    | .inl a :: st => ag_go (pc + len) ls (ag_F (FP.i2d (Int32.ofInt a)) :: st) σ
    | _ => none
  | .ddiv => match st with
    | .inr (.inr (.inl b)) :: .inr (.inr (.inl a)) :: st => if ag_nn (FP.ddiv a b) = true then ag_go (pc + len) ls (ag_F (FP.ddiv a b) :: st) σ else none
    | _ => none
  | .dsub => match st with
    | .inr (.inr (.inl b)) :: .inr (.inr (.inl a)) :: st => if ag_nn (FP.dsub a b) = true then ag_go (pc + len) ls (ag_F (FP.dsub a b) :: st) σ else none
    | _ => none
  | .dmul => match st with
    | .inr (.inr (.inl b)) :: .inr (.inr (.inl a)) :: st => if ag_nn (FP.dmul a b) = true then ag_go (pc + len) ls (ag_F (FP.dmul a b) :: st) σ else none
    | _ => none
  | .dcmp op => match st with
    | .inr (.inr (.inl b)) :: .inr (.inr (.inl a)) :: st => ag_go (pc + len) ls (ag_I (Op.cmpValue (FP.dcmp a b) op).toInt :: st) σ
    | _ => none
  | .dup => match st with
    | a :: st => if ag_c2 a = true then none else ag_go (pc + len) ls (a :: a :: st) σ
    | _ => none
  | .pop => match st with
    | a :: st => if ag_c2 a = true then none else ag_go (pc + len) ls st σ
    | _ => none
  | .dup_x1 => match st with
    | a :: b :: st => if ag_c2 a = true ∨ ag_c2 b = true then none else ag_go (pc + len) ls (a :: b :: a :: st) σ
    | _ => none
  | .dup2 => match st with
    | a :: b :: st => if ag_c2 a = true ∨ ag_c2 b = true then none else ag_go (pc + len) ls (a :: b :: a :: b :: st) σ
    | _ => none
  | .goto off => ag_tg pc off ls st σ
  | .ifCond cd off => match st with
    | .inl a :: st => ag_bc cd a 0 pc off ls st σ
    | _ => none
  | .if_icmp cd off => match st with
    | .inl b :: .inl a :: st => ag_bc cd a b pc off ls st σ
    | _ => none
  | .tableswitch df lo hi offs => match st with
    | .inl a :: st => if ag_nm a < lo ∨ hi < ag_nm a then ag_tg pc df ls st σ else (match offs[(ag_nm a - lo).toNat]? with
      | some off => ag_tg pc off ls st σ
      | none => none)
    | _ => none
  | .getfield idx => match st with
    | .inr (.inr (.inr (some a))) :: st => match ag_fl (ag_ow y) idx, σ.1 a with
      | some (ci, k), some (.inr (.inr (.inr (ci', fs)))) => if ci' = ci then (match fs[k]? with
        | some v => ag_go (pc + len) ls (v :: st) σ
        | none => none) else none
      | _, _ => none
    | _ => none
  | .putfield idx => match st with
    | v :: .inr (.inr (.inr (some a))) :: st => match ag_fl (ag_ow y) idx, σ.1 a with
      | some (ci, k), some (.inr (.inr (.inr (ci', fs)))) => if ci' = ci ∧ k < fs.length ∧ 1 ≤ a ∧ ag_fp y ci k v = true then ag_go (pc + len) ls st (ag_up σ.1 a (Sum.inr (Sum.inr (Sum.inr (ci, fs.set k v)))), σ.2) else none
      | _, _ => none
    | _ => none
  | .arraylength => match st with
    | .inr (.inr (.inr (some a))) :: st => match σ.1 a with
      | some (.inl (n, _)) => ag_go (pc + len) ls (ag_I n :: st) σ
      | some (.inr (.inr (.inl (n, _)))) => ag_go (pc + len) ls (ag_I n :: st) σ
      | _ => none
    | _ => none
  | .iaload => match st with
    | .inl i :: .inr (.inr (.inr (some a))) :: st => match σ.1 a with
      | some (.inl (n, g)) => if 0 ≤ ag_nm i ∧ ag_nm i < n then ag_go (pc + len) ls (ag_I (g (ag_nm i).toNat) :: st) σ else none
      | _ => none
    | _ => none
  | .iastore => match st with
    | .inl x :: .inl i :: .inr (.inr (.inr (some a))) :: st => match σ.1 a with
      | some (.inl (n, g)) => if 0 ≤ ag_nm i ∧ ag_nm i < n ∧ 1 ≤ a then ag_go (pc + len) ls st (ag_up σ.1 a (Sum.inl (n, ag_ui g (ag_nm i).toNat x)), σ.2) else none
      | _ => none
    | _ => none
  | .aaload => match st with
    | .inl i :: .inr (.inr (.inr (some a))) :: st => match σ.1 a with
      | some (.inr (.inr (.inl (n, g)))) => if 0 ≤ ag_nm i ∧ ag_nm i < n then (match g (ag_nm i).toNat with
        | some b => ag_go (pc + len) ls (ag_R b :: st) σ
        | none => none) else none
      | _ => none
    | _ => none
  | .aastore => match st with
    | .inr (.inr (.inr (some v))) :: .inl i :: .inr (.inr (.inr (some a))) :: st => match σ.1 a, σ.1 v with
      | some (.inr (.inr (.inl (n, g)))), some (.inl _) => if 0 ≤ ag_nm i ∧ ag_nm i < n ∧ 1 ≤ a ∧ 1 ≤ v then ag_go (pc + len) ls st (ag_up σ.1 a (Sum.inr (Sum.inr (Sum.inl (n, ag_uq g (ag_nm i).toNat (some v))))), σ.2) else none
      | _, _ => none
    | _ => none
  | .newarray t => match st with
    | .inl n :: st => if 0 ≤ ag_nm n ∧ ag_nm n ≤ 1000000 then (match t with
      | .int => ag_go (pc + len) ls (ag_R (σ.2.1 + 1) :: st) (ag_up σ.1 (σ.2.1 + 1) (Sum.inl ((ag_nm n).toNat, fun _ => 0)), (σ.2.1 + 1, σ.2.2 + (ag_nm n).toNat))
      | _ => none) else none
    | _ => none
  | .anewarray idx => match st with
    | .inl n :: st => if 0 ≤ ag_nm n ∧ ag_nm n ≤ 1000000 ∧ ag_al (ag_ow y) idx = true then
        ag_go (pc + len) ls (ag_R (σ.2.1 + 1) :: st) (ag_up σ.1 (σ.2.1 + 1) (Sum.inr (Sum.inr (Sum.inl ((ag_nm n).toNat, fun _ => none)))), (σ.2.1 + 1, σ.2.2 + (ag_nm n).toNat)) else none
    | _ => none
  | .multianewarray idx dims => match st with
    | .inl k :: .inl n :: st => if dims = 2 ∧ 0 ≤ ag_nm n ∧ ag_nm n ≤ 1000000 ∧ 0 ≤ ag_nm k ∧ ag_nm k ≤ 1000000 ∧ ag_mu (ag_ow y) idx = true then
        ag_go (pc + len) ls (ag_R (σ.2.1 + 1) :: st) (ag_mn σ.1 (σ.2.1 + 1) (ag_nm n).toNat (ag_nm k).toNat, (σ.2.1 + 1 + (ag_nm n).toNat, σ.2.2 + ((ag_nm n).toNat + (ag_nm n).toNat * (ag_nm k).toNat))) else none
    | _ => none
  | .new idx => match ag_nw (ag_ow y) idx with
    | some ci => ag_go (pc + len) ls (ag_R (σ.2.1 + 1) :: st) (ag_up σ.1 (σ.2.1 + 1) (Sum.inr (Sum.inr (Sum.inr (ci, ag_df ci)))), (σ.2.1 + 1, σ.2.2 + (ag_df ci).length))
    | none => none
  | .invokevirtual idx => ag_iv y idx 0 pc ls st σ
  | .invokestatic idx => ag_iv y idx 1 pc ls st σ
  | .invokespecial idx => ag_iv y idx 2 pc ls st σ
  | .ireturn => match st with
    | [.inl x] => (match ag_rt y with
      | some .int => ag_dn (Sum.inl (some (ag_I x))) σ
      | some .boolean => if ag_nm x = 0 ∨ ag_nm x = 1 then ag_dn (Sum.inl (some (ag_I x))) σ else none
      | _ => none)
    | _ => none
  | .lreturn => match st with
    | [.inr (.inl x)] => if ag_rt y = some .long then ag_dn (Sum.inl (some (ag_L x))) σ else none
    | _ => none
  | .dreturn => match st with
    | [.inr (.inr (.inl x))] => if ag_rt y = some .double then ag_dn (Sum.inl (some (ag_F x))) σ else none
    | _ => none
  | .areturn => match st with
    | [.inr (.inr (.inr (some a)))] => (match ag_rt y with
      | some (.array _) => ag_dn (Sum.inl (some (ag_R a))) σ
      | _ => none)
    | _ => none
  | .return_ => match st with
    | [] => if ag_rt y = none then ag_dn (Sum.inl none) σ else none
    | _ => none
  | _ => none
def ag_ln (i : Instr) (len : Nat) : Nat := match i with
  | .bipush _ => 2
  | .iload _ => 2
  | .lload _ => 2
  | .dload _ => 2
  | .aload _ => 2
  | .istore _ => 2
  | .lstore _ => 2
  | .dstore _ => 2
  | .astore _ => 2
  | .newarray _ => 2
  | .ldc _ => 2
  | .multianewarray _ _ => 4
  | .sipush _ => 3
  | .ldc2_w _ => 3
  | .iinc _ _ => 3
  | .goto _ => 3
  | .ifCond _ _ => 3
  | .if_icmp _ _ => 3
  | .getfield _ => 3
  | .putfield _ => 3
  | .anewarray _ => 3
  | .new _ => 3
  | .invokevirtual _ => 3
  | .invokestatic _ => 3
  | .invokespecial _ => 3
  | .tableswitch _ _ _ _ => len
  | _ => 1
def ag_sp (y pc : Nat) (ls : ag_Ls) (st : List ag_V) (σ : ag_S) : Option ag_X := match ag_th y pc with
  | some E => match st with
    | [] => ag_dn (Sum.inr E) (σ.1, (σ.2.1 + 1, σ.2.2 + 6))
    | _ => none
  | none => match decode (ag_by y) pc with
    | .ok (i, len) => if len = ag_ln i len then ag_ex y i len pc ls st σ else none
    | .error _ => none
def ag_en (y : Nat) (as : List ag_V) : ag_Ls := as.map some ++ List.replicate (ag_mx y - as.length) none
def ag_run : Nat → Nat → Nat → ag_Ls → List ag_V → ag_S → Option (ag_Rs × ag_S)
  | 0, _, _, _, _, _ => none
  | F + 1, y, pc, ls, st, σ => match ag_sp y pc ls st σ with
    | none => none
    | some (Sum.inl (pc', (ls', (st', σ')))) => ag_run F y pc' ls' st' σ'
    | some (Sum.inr (Sum.inl r)) => some r
    | some (Sum.inr (Sum.inr (y', (as, rest)))) => match ag_run F y' 0 (ag_en y' as) [] σ with
      | none => none
      | some (Sum.inl v, σ') => ag_run F y (pc + 3) ls (v.toList ++ rest) σ'
      | some (Sum.inr E, σ') => match ag_hd y E with
        | some (pc', k) => if pc = ag_hp y ∧ ag_ok ls k = true then ag_run F y pc' (ls.set k none) [] σ' else none
        | none => none
def ag_wp (y pc : Nat) (ls : ag_Ls) (st : List ag_V) (σ : ag_S) (Q : ag_Rs → ag_S → Prop) : Prop := ∃ (F : Nat) (r : ag_Rs × ag_S), ag_run F y pc ls st σ = some r ∧ Q r.1 r.2
/-- what comes behind a call -/
def ag_kk (y pc : Nat) (ls : ag_Ls) (rest : List ag_V) (Q : ag_Rs → ag_S → Prop) : ag_Rs → ag_S → Prop := fun r σ' => match r with
  | Sum.inl v => ag_wp y (pc + 3) ls (v.toList ++ rest) σ' Q
  | Sum.inr E => match ag_hd y E with
    | some (pc', k) => (pc = ag_hp y ∧ ag_ok ls k = true) ∧ ag_wp y pc' (ls.set k none) [] σ' Q
    | none => False
theorem ag_mono : ∀ (F : Nat) (y pc : Nat) (ls : ag_Ls) (st : List ag_V) (σ : ag_S) (r : ag_Rs × ag_S), ag_run F y pc ls st σ = some r → ag_run (F + 1) y pc ls st σ = some r := by
  intro F
  induction F with
  | zero => intro y pc ls st σ r h; cases h
  | succ F ih =>
    intro y pc ls st σ r h
    rw [ag_run] at h ⊢
    cases hs : ag_sp y pc ls st σ with
    | none => rw [hs] at h; cases h
    | some x =>
      rw [hs] at h
      rcases x with ⟨pc', ls', st', σ'⟩ | r' | ⟨y', as, rest⟩
      · exact ih _ _ _ _ _ _ h
      · exact h
      · dsimp only at h ⊢
        cases hc : ag_run F y' 0 (ag_en y' as) [] σ with
        | none => rw [hc] at h; cases h
        | some q =>
          rw [hc] at h
          rw [ih _ _ _ _ _ _ hc]
          rcases q with ⟨v | E, σ'⟩
          · exact ih _ _ _ _ _ _ h
          · dsimp only at h ⊢
            cases hd : ag_hd y E with
            | none => rw [hd] at h; cases h
            | some z =>
              rw [hd] at h
              dsimp only at h ⊢
              split at h
              · rename_i hz
                rw [if_pos hz]
                exact ih _ _ _ _ _ _ h
              · cases h
theorem ag_mono2 {F y pc : Nat} {ls : ag_Ls} {st : List ag_V} {σ : ag_S} {r : ag_Rs × ag_S} (k : Nat) (h : ag_run F y pc ls st σ = some r) : ag_run (F + k) y pc ls st σ = some r := by
  induction k with
  | zero => exact h
  | succ k ih => exact ag_mono _ _ _ _ _ _ _ ih
theorem ag_wp_go {y pc pc' : Nat} {ls ls' : ag_Ls} {st st' : List ag_V} {σ σ' : ag_S} {Q : ag_Rs → ag_S → Prop} (h : ag_sp y pc ls st σ = ag_go pc' ls' st' σ') : ag_wp y pc ls st σ Q = ag_wp y pc' ls' st' σ' Q := by
  apply propext
  constructor
  · rintro ⟨F, r, h1, h2⟩
    cases F with
    | zero => cases h1
    | succ F =>
      rw [ag_run, h] at h1
      exact ⟨F, r, h1, h2⟩
  · rintro ⟨F, r, h1, h2⟩
    refine ⟨F + 1, r, ?_, h2⟩
    rw [ag_run, h]
    exact h1
theorem ag_wp_dn {y pc : Nat} {ls : ag_Ls} {st : List ag_V} {σ σ' : ag_S} {r : ag_Rs} {Q : ag_Rs → ag_S → Prop} (h : ag_sp y pc ls st σ = ag_dn r σ') : ag_wp y pc ls st σ Q = Q r σ' := by
  apply propext
  constructor
  · rintro ⟨F, q, h1, h2⟩
    cases F with
    | zero => cases h1
    | succ F =>
      rw [ag_run, h] at h1
      cases h1
      exact h2
  · intro hq
    exact ⟨1, (r, σ'), by rw [ag_run, h]; rfl, hq⟩
theorem ag_wp_no {y pc : Nat} {ls : ag_Ls} {st : List ag_V} {σ : ag_S} {Q : ag_Rs → ag_S → Prop} (h : ag_sp y pc ls st σ = none) : ag_wp y pc ls st σ Q = False := by
  apply propext
  refine ⟨?_, fun h => h.elim⟩
  rintro ⟨F, q, h1, h2⟩
  cases F with
  | zero => cases h1
  | succ F => rw [ag_run, h] at h1; cases h1
theorem ag_wp_iv {y pc y' : Nat} {as rest : List ag_V} {ls : ag_Ls} {st : List ag_V} {σ : ag_S} {Q : ag_Rs → ag_S → Prop} (h : ag_sp y pc ls st σ = some (Sum.inr (Sum.inr (y', (as, rest))))) :
    ag_wp y pc ls st σ Q = ag_wp y' 0 (ag_en y' as) [] σ (ag_kk y pc ls rest Q) := by
  apply propext
  constructor
  · rintro ⟨F, r, h1, h2⟩
    cases F with
    | zero => cases h1
    | succ F =>
      rw [ag_run, h] at h1
      dsimp only at h1
      cases hc : ag_run F y' 0 (ag_en y' as) [] σ with
      | none => rw [hc] at h1; cases h1
      | some q =>
        rw [hc] at h1
        refine ⟨F, q, hc, ?_⟩
        rcases q with ⟨v | E, σ'⟩
        · exact ⟨F, r, h1, h2⟩
        · dsimp only at h1
          show ag_kk y pc ls rest Q (Sum.inr E) σ'
          unfold ag_kk
          dsimp only
          cases hd : ag_hd y E with
          | none => rw [hd] at h1; cases h1
          | some z =>
            rw [hd] at h1
            dsimp only at h1 ⊢
            split at h1
            · rename_i hz
              exact ⟨hz, F, r, h1, h2⟩
            · cases h1
  · rintro ⟨F, ⟨q, σ'⟩, h1, h2⟩
    rcases q with v | E
    · obtain ⟨F2, r, h3, h4⟩ := h2
      refine ⟨F + F2 + 1, r, ?_, h4⟩
      rw [ag_run, h]
      dsimp only
      rw [ag_mono2 F2 h1]
      dsimp only
      rw [Nat.add_comm F F2]
      exact ag_mono2 F h3
    · have h2 : ag_kk y pc ls rest Q (Sum.inr E) σ' := h2
      unfold ag_kk at h2
      dsimp only at h2
      cases hd : ag_hd y E with
      | none => rw [hd] at h2; exact h2.elim
      | some z =>
        rw [hd] at h2
        obtain ⟨hz, F2, r, h3, h4⟩ := h2
        refine ⟨F + F2 + 1, r, ?_, h4⟩
        rw [ag_run, h]
        dsimp only
        rw [ag_mono2 F2 h1]
        dsimp only
        rw [hd, Nat.add_comm F F2]
        dsimp only
        rw [if_pos hz]
        exact ag_mono2 F h3
theorem ag_wp_mono {y pc : Nat} {ls : ag_Ls} {st : List ag_V} {σ : ag_S} {Q R : ag_Rs → ag_S → Prop} (h : ag_wp y pc ls st σ Q) (hQ : ∀ r σ', Q r σ' → R r σ') : ag_wp y pc ls st σ R := by
  obtain ⟨F, r, h1, h2⟩ := h
  exact ⟨F, r, h1, hQ _ _ h2⟩
