/-! THE ENGINE, 9: what an instruction asks -/
abbrev pp_Lk : Type := (Nat × Nat × List Nat) ⊕ (pp_MI × Nat × Nat × List Nat) ⊕ (Value × Nat)
abbrev pp_St : Type := List (Nat × Value) → List Value → pp_W → Prop
def pp_i (st : List Value) (k : Int32 → List Value → Prop) : Prop := match st with
  | .int x :: st => k x st
  | _ => False
def pp_j (st : List Value) (k : Int64 → List Value → Prop) : Prop := match st with
  | .long x :: st => k x st
  | _ => False
def pp_r (st : List Value) (k : Nat → List Value → Prop) : Prop := match st with
  | .ref x :: st => k x st
  | _ => False
def pp_q (st : List Value) (k : Option Nat → List Value → Prop) : Prop := match st with
  | .ref x :: st => k (some x) st
  | .null :: st => k none st
  | _ => False
def pp_1 (st : List Value) (k : Value → List Value → Prop) : Prop := match st with
  | v :: st => pp_wide v = false ∧ k v st
  | _ => False
def pp_2 (st : List Value) (k : Value → List Value → Prop) : Prop := match st with
  | v :: st => pp_wide v = true ∧ k v st
  | _ => False
def pp_li (L : List (Nat × Value)) (i : Nat) (k : Int32 → Prop) : Prop := match L.lookup i with
  | some (.int x) => k x
  | _ => False
def pp_lj (L : List (Nat × Value)) (i : Nat) (k : Int64 → Prop) : Prop := match L.lookup i with
  | some (.long x) => k x
  | _ => False
def pp_la (L : List (Nat × Value)) (i : Nat) (k : Value → Prop) : Prop := match L.lookup i with
  | some (.ref x) => k (.ref x)
  | some .null => k .null
  | _ => False
def pp_in (w : pp_W) (a t : Nat) (j : Int32) (k : Prop) : Prop := match w.1[a]? with
  | some q => q.1 = t ∧ vp_in j q.2 ∧ k
  | none => False
def pp_al (w : pp_W) (a : Nat) (k : Nat → Prop) : Prop := match w.1[a]? with
  | some q => (10 ≤ q.1 ∧ q.1 ≤ 14) ∧ k q.2
  | none => False
def pp_args : List Nat → List Value → List Value → (List Value → List Value → Prop) → Prop
  | [], acc, st, k => k acc st
  | _ :: l, acc, v :: st, k => pp_args l (v :: acc) st k
  | _ :: _, _, [], _ => False
def pp_cond (c : ClassFile.Cond) (x y : Int32) : Prop := match c with
  | .eq => x = y
  | .ne => ¬ x = y
  | .lt => x < y
  | .ge => y ≤ x
  | .gt => y < x
  | .le => x ≤ y
def pp_ncond (c : ClassFile.Cond) (x y : Int32) : Prop := match c with
  | .eq => ¬ x = y
  | .ne => x = y
  | .lt => ¬ x < y
  | .ge => ¬ y ≤ x
  | .gt => ¬ y < x
  | .le => ¬ x ≤ y
def pp_sw (X : Nat → Prop) (x : Int32) : Int → List Nat → Prop
  | _, [] => True
  | lo, t :: ts => (x = Int32.ofInt lo → X t) ∧ pp_sw X x (lo + 1) ts
def pp_rok (r : Option FieldType) (x : Int32) : Prop := match r with
  | some .int => True
  | some .boolean => x = 0 ∨ x = 1
  | some t => narrow t (.int x) = .int x
  | none => False
def pp_kr (K : pp_St) (Y : String → pp_W → Prop) (L : List (Nat × Value)) (st : List Value) : pp_R → pp_W → Prop := fun r w => match r with
  | .inl none => K L st w
  | .inl (some v) => K L (v :: st) w
  | .inr E => Y E w
def pp_sp (g : pp_G) (h : Nat) (ret : Option FieldType) (P : pp_R → pp_W → Prop) (Y : String → pp_W → Prop) (X : Nat → pp_St) (i : Instr) (lk : pp_Lk) (L : List (Nat × Value)) (st : List Value) (w : pp_W) (K : pp_St) : Prop := match i with
  | .aconst_null => K L (.null :: st) w
  | .iconst _ | .bipush _ | .sipush _ | .lconst _ | .ldc _ | .ldc_w _ | .ldc2_w _ => match lk with
    | .inr (.inr (v, _)) => K L (v :: st) w
    | _ => False
  | .iload k => pp_li L k (fun x => K L (.int x :: st) w)
  | .iload_n k => pp_li L k.val (fun x => K L (.int x :: st) w)
  | .lload k => pp_lj L k (fun x => K L (.long x :: st) w)
  | .lload_n k => pp_lj L k.val (fun x => K L (.long x :: st) w)
  | .aload k => pp_la L k (fun v => K L (v :: st) w)
  | .aload_n k => pp_la L k.val (fun v => K L (v :: st) w)
  | .istore k => pp_i st (fun x st => K (pp_put1 k (.int x) L) st w)
  | .istore_n k => pp_i st (fun x st => K (pp_put1 k.val (.int x) L) st w)
  | .lstore k => pp_j st (fun x st => K (pp_put2 k (.long x) L) st w)
  | .lstore_n k => pp_j st (fun x st => K (pp_put2 k.val (.long x) L) st w)
  | .astore k => pp_q st (fun x st => K (pp_put1 k (pp_rf x) L) st w)
  | .astore_n k => pp_q st (fun x st => K (pp_put1 k.val (pp_rf x) L) st w)
  | .iinc k _ => match lk with
    | .inr (.inr (.int c, _)) => pp_li L k (fun x => K (pp_put1 k (.int (x + c)) L) st w)
    | _ => False
  | .iadd => pp_i st (fun y st => pp_i st (fun x st => K L (.int (x + y) :: st) w))
  | .isub => pp_i st (fun y st => pp_i st (fun x st => K L (.int (x - y) :: st) w))
  | .imul => pp_i st (fun y st => pp_i st (fun x st => K L (.int (x * y) :: st) w))
  | .iand => pp_i st (fun y st => pp_i st (fun x st => K L (.int (x &&& y) :: st) w))
  | .ior => pp_i st (fun y st => pp_i st (fun x st => K L (.int (x ||| y) :: st) w))
  | .ixor => pp_i st (fun y st => pp_i st (fun x st => K L (.int (x ^^^ y) :: st) w))
  | .ishl => pp_i st (fun y st => pp_i st (fun x st => K L (.int (x <<< (y &&& 31)) :: st) w))
  | .ishr => pp_i st (fun y st => pp_i st (fun x st => K L (.int (x >>> (y &&& 31)) :: st) w))
  | .iushr => pp_i st (fun y st => pp_i st (fun x st => K L (.int (x.toUInt32 >>> (y.toUInt32 &&& Int32.toUInt32 31)).toInt32 :: st) w))
  | .idiv => pp_i st (fun y st => pp_i st (fun x st => ¬ y = 0 ∧ K L (.int (x / y) :: st) w))
  | .ladd => pp_j st (fun y st => pp_j st (fun x st => K L (.long (x + y) :: st) w))
  | .lsub => pp_j st (fun y st => pp_j st (fun x st => K L (.long (x - y) :: st) w))
  | .lmul => pp_j st (fun y st => pp_j st (fun x st => K L (.long (x * y) :: st) w))
  | .land => pp_j st (fun y st => pp_j st (fun x st => K L (.long (x &&& y) :: st) w))
  | .lor => pp_j st (fun y st => pp_j st (fun x st => K L (.long (x ||| y) :: st) w))
  | .lxor => pp_j st (fun y st => pp_j st (fun x st => K L (.long (x ^^^ y) :: st) w))
  | .ldiv => pp_j st (fun y st => pp_j st (fun x st => ¬ y = 0 ∧ K L (.long (x / y) :: st) w))
  | .lrem => pp_j st (fun y st => pp_j st (fun x st => ¬ y = 0 ∧ K L (.long (x - x / y * y) :: st) w))
  | .lcmp => pp_j st (fun y st => pp_j st (fun x st => K L (.int (lg_cmp x y) :: st) w))
  | .lshl => pp_i st (fun y st => pp_j st (fun x st => K L (.long (x <<< (y.toInt64 &&& 63)) :: st) w))
  | .i2l => pp_i st (fun x st => K L (.long x.toInt64 :: st) w)
  | .i2b => pp_i st (fun x st => K L (.int x.toInt8.toInt32 :: st) w)
  | .l2i => pp_j st (fun x st => K L (.int x.toInt32 :: st) w)
  | .dup => pp_1 st (fun v st => K L (v :: v :: st) w)
  | .pop => pp_1 st (fun _ st => K L st w)
  | .pop2 => pp_2 st (fun _ st => K L st w)
  | .dup2 => pp_1 st (fun v st => pp_1 st (fun u st => K L (v :: u :: v :: u :: st) w))
  | .ifCond c _ => match lk with
    | .inl (t, _, _) => pp_i st (fun x st => (pp_cond c x 0 → X t L st w) ∧ (pp_ncond c x 0 → K L st w))
    | _ => False
  | .if_icmp c _ => match lk with
    | .inl (t, _, _) => pp_i st (fun y st => pp_i st (fun x st => (pp_cond c x y → X t L st w) ∧ (pp_ncond c x y → K L st w)))
    | _ => False
  | .goto _ => match lk with
    | .inl (t, _, _) => X t L st w
    | _ => False
  | .ifnull _ => match lk with
    | .inl (t, _, _) => pp_q st (fun x st => match x with
      | none => X t L st w
      | some _ => K L st w)
    | _ => False
  | .ifnonnull _ => match lk with
    | .inl (t, _, _) => pp_q st (fun x st => match x with
      | none => K L st w
      | some _ => X t L st w)
    | _ => False
  | .tableswitch _ lo hi _ => match lk with
    | .inl (d, _, ts) => pp_i st (fun x st => pp_sw (fun t => X t L st w) x lo ts ∧ ((x.toInt < lo ∨ hi < x.toInt) → X d L st w))
    | _ => False
  | .getfield _ => match lk with
    | .inl (ci, k, 0 :: _) => pp_r st (fun a st => w.1[a]? = some (ci, 0) ∧ K L (.int (w.2.1 a k) :: st) w)
    | .inl (ci, k, 1 :: _) => pp_r st (fun a st => w.1[a]? = some (ci, 0) ∧ K L (.long (w.2.2.1 a k) :: st) w)
    | .inl (ci, k, 2 :: _) => pp_r st (fun a st => w.1[a]? = some (ci, 0) ∧ K L (pp_rf (w.2.2.2 a k) :: st) w)
    | .inl (_, _, 3 :: _) => pp_r st (fun a st => (1 ≤ a ∧ a ≤ 15) ∧ K L (.ref (a + 15) :: st) w)
    | .inl (_, _, 4 :: _) => pp_r st (fun a st => (1 ≤ a ∧ a ≤ 15) ∧ K L (.int 0 :: st) w)
    | _ => False
  | .getstatic _ => match lk with
    | .inl (0, _, _) => K L (.int 1 :: st) w
    | .inl (1, _, _) => K L (.null :: st) w ∧ K L (.ref 31 :: st) w
    | _ => False
  | .i2c => pp_i st (fun x st => K L (.int (x.toUInt32 % 65536).toInt32 :: st) w)
  | .putfield _ => match lk with
    | .inl (ci, k, 0 :: _) => pp_i st (fun x st => pp_r st (fun a st => w.1[a]? = some (ci, 0) ∧ K L st (w.1, pp_s w.2.1 a (va_up (w.2.1 a) k x), w.2.2)))
    | .inl (ci, k, 1 :: _) => pp_j st (fun x st => pp_r st (fun a st => w.1[a]? = some (ci, 0) ∧ K L st (w.1, w.2.1, pp_s w.2.2.1 a (va_up (w.2.2.1 a) k x), w.2.2.2)))
    | .inl (ci, k, 2 :: _) => pp_q st (fun x st => pp_r st (fun a st => w.1[a]? = some (ci, 0) ∧ K L st (w.1, w.2.1, w.2.2.1, pp_s w.2.2.2 a (va_up (w.2.2.2 a) k x))))
    | _ => False
  | .arraylength => match lk with
    | .inl (0, _, _) => pp_r st (fun a st => pp_al w a (fun n => K L (.int (Int32.ofNat n) :: st) w))
    | .inl (1, _, _) => pp_r st (fun a st => a = 0 ∧ K L (.int (Int32.ofNat (pp_sL g)) :: st) w)
    | .inl (2, _, _) => pp_r st (fun a st => (16 ≤ a ∧ a ≤ 30) ∧ K L (.int (Int32.ofNat (pp_txt.getD (a - 16) []).length) :: st) w)
    | _ => False
  | .iaload => match lk with
    | .inl (0, _, _) => pp_i st (fun j st => pp_r st (fun a st => pp_in w a 10 j (K L (.int (w.2.1 a j.toNatClampNeg) :: st) w)))
    | .inl (1, _, _) => pp_i st (fun j st => pp_r st (fun a st => a = 0 ∧ vp_in j (pp_sL g) ∧ K L (.int (pp_sx g j.toNatClampNeg) :: st) w))
    | _ => False
  | .baload => match lk with
    | .inl (0, _, _) => pp_i st (fun j st => pp_r st (fun a st => pp_in w a 11 j (K L (.int (w.2.1 a j.toNatClampNeg) :: st) w)))
    | .inl (1, _, _) => pp_i st (fun j st => pp_r st (fun a st => pp_in w a 12 j (K L (.int (w.2.1 a j.toNatClampNeg) :: st) w)))
    | .inl (2, _, _) => pp_i st (fun j st => pp_r st (fun a st => (16 ≤ a ∧ a ≤ 30) ∧ vp_in j (pp_txt.getD (a - 16) []).length ∧ K L (.int ((pp_txt.getD (a - 16) []).getD j.toNatClampNeg 0) :: st) w))
    | _ => False
  | .laload => pp_i st (fun j st => pp_r st (fun a st => pp_in w a 13 j (K L (.long (w.2.2.1 a j.toNatClampNeg) :: st) w)))
  | .aaload => pp_i st (fun j st => pp_r st (fun a st => pp_in w a 14 j (K L (pp_rf (w.2.2.2 a j.toNatClampNeg) :: st) w)))
  | .iastore => pp_i st (fun x st => pp_i st (fun j st => pp_r st (fun a st => pp_in w a 10 j (K L st (w.1, pp_s w.2.1 a (va_up (w.2.1 a) j.toNatClampNeg x), w.2.2)))))
  | .bastore => match lk with
    | .inl (0, _, _) => pp_i st (fun x st => pp_i st (fun j st => pp_r st (fun a st => pp_in w a 11 j (K L st (w.1, pp_s w.2.1 a (va_up (w.2.1 a) j.toNatClampNeg x.toInt8.toInt32), w.2.2)))))
    | .inl (1, _, _) => pp_i st (fun x st => pp_i st (fun j st => pp_r st (fun a st => pp_in w a 12 j ((x = 0 ∨ x = 1) ∧ K L st (w.1, pp_s w.2.1 a (va_up (w.2.1 a) j.toNatClampNeg x), w.2.2)))))
    | _ => False
  | .lastore => pp_j st (fun x st => pp_i st (fun j st => pp_r st (fun a st => pp_in w a 13 j (K L st (w.1, w.2.1, pp_s w.2.2.1 a (va_up (w.2.2.1 a) j.toNatClampNeg x), w.2.2.2)))))
  | .aastore => pp_q st (fun x st => pp_i st (fun j st => pp_r st (fun a st => pp_in w a 14 j ((∀ b, x = some b → w.1[b]? = some (4, 0)) ∧ K L st (w.1, w.2.1, w.2.2.1, pp_s w.2.2.2 a (va_up (w.2.2.2 a) j.toNatClampNeg x))))))
  | .new _ => match lk with
    | .inl (ci, _, _) => K L (.ref w.1.length :: st) (pp_nw w (ci, 0))
    | _ => False
  | .newarray _ => match lk with
    | .inl (t, n, _) => pp_i st (fun x st => x = Int32.ofNat n ∧ K L (.ref w.1.length :: st) (pp_nw w (t, n)))
    | _ => False
  | .anewarray _ => match lk with
    | .inl (_, n, _) => pp_i st (fun x st => x = Int32.ofNat n ∧ K L (.ref w.1.length :: st) (pp_nw w (14, n)))
    | _ => False
  | .invokespecial _ => match lk with
    | .inl _ => pp_r st (fun _ st => st.length ≤ 4 ∧ K L st w)
    | .inr (.inl (mj, _, _, l)) => pp_args l [] st (fun av st => st.length ≤ 4 ∧ pp_r av (fun _ _ => True) ∧ pp_MW g h mj av w (pp_kr K Y L st))
    | _ => False
  | .invokevirtual _ => match lk with
    | .inr (.inl (mj, ci, _, 0 :: l)) => pp_args (0 :: l) [] st (fun av st => st.length ≤ 4 ∧ pp_r av (fun b _ => w.1[b]? = some (ci, 0)) ∧ pp_MW g h mj av w (pp_kr K Y L st))
    | .inr (.inl (mj, _, _, 1 :: l)) => pp_args (1 :: l) [] st (fun av st => st.length ≤ 4 ∧ pp_r av (fun b _ => 1 ≤ b ∧ b ≤ 15) ∧ pp_MW g h mj av w (pp_kr K Y L st))
    | _ => False
  | .invokestatic _ => match lk with
    | .inl (0, _, _) => pp_i st (fun n st => pp_i st (fun dp st => pp_r st (fun b st => pp_i st (fun sp st => pp_r st (fun a st => st.length ≤ 4 ∧ ¬ sp < 0 ∧ ¬ dp < 0 ∧ ¬ n < 0 ∧ pp_al w a (fun n0 => sp.toNatClampNeg + n.toNatClampNeg ≤ n0) ∧ pp_al w b (fun n1 => dp.toNatClampNeg + n.toNatClampNeg ≤ n1) ∧
        w.1[a]?.map Prod.fst = some 10 ∧ w.1[b]?.map Prod.fst = some 10 ∧ K L st (w.1, pp_s w.2.1 b (va_cpy (w.2.1 a) (w.2.1 b) sp.toNatClampNeg dp.toNatClampNeg n.toNatClampNeg), w.2.2))))))
    | .inl (1, _, _) => pp_i st (fun n st => pp_i st (fun dp st => pp_r st (fun b st => pp_i st (fun sp st => pp_r st (fun a st => st.length ≤ 4 ∧ ¬ sp < 0 ∧ ¬ dp < 0 ∧ ¬ n < 0 ∧ pp_al w a (fun n0 => sp.toNatClampNeg + n.toNatClampNeg ≤ n0) ∧ pp_al w b (fun n1 => dp.toNatClampNeg + n.toNatClampNeg ≤ n1) ∧
        w.1[a]?.map Prod.fst = some 13 ∧ w.1[b]?.map Prod.fst = some 13 ∧ K L st (w.1, w.2.1, pp_s w.2.2.1 b (va_cpy (w.2.2.1 a) (w.2.2.1 b) sp.toNatClampNeg dp.toNatClampNeg n.toNatClampNeg), w.2.2.2))))))
    | .inl (2, _, _) => pp_i st (fun y st => pp_i st (fun x st => st.length ≤ 4 ∧ K L (.int (if y < x then y else x) :: st) w))
    | .inl (3, _, _) => pp_i st (fun y st => pp_i st (fun x st => st.length ≤ 4 ∧ K L (.int (if x < y then y else x) :: st) w))
    | .inl (4, _, _) => pp_j st (fun y st => pp_j st (fun x st => st.length ≤ 4 ∧ K L (.long (if y < x then y else x) :: st) w))
    | .inr (.inl (mj, _, _, l)) => pp_args l [] st (fun av st => st.length ≤ 4 ∧ pp_MW g h mj av w (pp_kr K Y L st))
    | _ => False
  | .ireturn => match st with
    | [.int x] => pp_rok ret x ∧ P (.inl (some (.int x))) w
    | _ => False
  | .lreturn => match st with
    | [.long x] => P (.inl (some (.long x))) w
    | _ => False
  | .return_ => match st with
    | [] => P (.inl none) w
    | _ => False
  | .athrow => match lk with
    | .inl (e, _, _) => st.length ≤ 4 ∧ ∀ k : Nat, P (.inr ((pp_exs.getD e ("", 0, 0)).1)) (w.1 ++ List.replicate k (15, 0), w.2)
    | _ => False
  | _ => False
abbrev pp_Seg : Type := List (Instr × pp_Lk)
def pp_wp (g : pp_G) (h : Nat) (ret : Option FieldType) (P : pp_R → pp_W → Prop) (Y : String → pp_W → Prop) (X : Nat → pp_St) (e : Nat) : pp_Seg → pp_St
  | [] => fun L st w => X e L st w
  | q :: s => fun L st w => pp_sp g h ret P Y X q.1 q.2 L st w (pp_wp g h ret P Y X e s)
