/-! what the instructions ask, as equations -/
section Sx
variable (g : pp_G) (h : Nat) (ret : Option FieldType) (P : pp_R → pp_W → Prop) (Y : String → pp_W → Prop) (X : Nat → pp_St)
theorem sx_0 : (∀  (lk : pp_Lk) (L : List (Nat × Value)) (st : List Value) (w : pp_W) (K : pp_St), pp_sp g h ret P Y X (.aconst_null) (lk) L st w K = (K L (.null :: st) w)) := by
  intros
  rfl
theorem sx_1 : (∀ (n9 : Int) (v : Value) (z1 : Nat) (L : List (Nat × Value)) (st : List Value) (w : pp_W) (K : pp_St), pp_sp g h ret P Y X (.iconst n9) (.inr (.inr (v, z1))) L st w K = (K L (v :: st) w)) := by
  intros
  rfl
theorem sx_2 : (∀ (n9 : Int) (v : Value) (z1 : Nat) (L : List (Nat × Value)) (st : List Value) (w : pp_W) (K : pp_St), pp_sp g h ret P Y X (.bipush n9) (.inr (.inr (v, z1))) L st w K = (K L (v :: st) w)) := by
  intros
  rfl
theorem sx_3 : (∀ (n9 : Int) (v : Value) (z1 : Nat) (L : List (Nat × Value)) (st : List Value) (w : pp_W) (K : pp_St), pp_sp g h ret P Y X (.sipush n9) (.inr (.inr (v, z1))) L st w K = (K L (v :: st) w)) := by
  intros
  rfl
theorem sx_4 : (∀ (n9 : Fin 2) (v : Value) (z1 : Nat) (L : List (Nat × Value)) (st : List Value) (w : pp_W) (K : pp_St), pp_sp g h ret P Y X (.lconst n9) (.inr (.inr (v, z1))) L st w K = (K L (v :: st) w)) := by
  intros
  rfl
theorem sx_5 : (∀ (n9 : Nat) (v : Value) (z1 : Nat) (L : List (Nat × Value)) (st : List Value) (w : pp_W) (K : pp_St), pp_sp g h ret P Y X (.ldc n9) (.inr (.inr (v, z1))) L st w K = (K L (v :: st) w)) := by
  intros
  rfl
theorem sx_6 : (∀ (n9 : Nat) (v : Value) (z1 : Nat) (L : List (Nat × Value)) (st : List Value) (w : pp_W) (K : pp_St), pp_sp g h ret P Y X (.ldc_w n9) (.inr (.inr (v, z1))) L st w K = (K L (v :: st) w)) := by
  intros
  rfl
theorem sx_7 : (∀ (n9 : Nat) (v : Value) (z1 : Nat) (L : List (Nat × Value)) (st : List Value) (w : pp_W) (K : pp_St), pp_sp g h ret P Y X (.ldc2_w n9) (.inr (.inr (v, z1))) L st w K = (K L (v :: st) w)) := by
  intros
  rfl
theorem sx_8 : (∀ (k : Nat) (lk : pp_Lk) (L : List (Nat × Value)) (st : List Value) (w : pp_W) (K : pp_St), pp_sp g h ret P Y X (.iload k) (lk) L st w K = (pp_li L k (fun x => K L (.int x :: st) w))) := by
  intros
  rfl
theorem sx_9 : (∀ (k : Fin 4) (lk : pp_Lk) (L : List (Nat × Value)) (st : List Value) (w : pp_W) (K : pp_St), pp_sp g h ret P Y X (.iload_n k) (lk) L st w K = (pp_li L k.val (fun x => K L (.int x :: st) w))) := by
  intros
  rfl
theorem sx_10 : (∀ (k : Nat) (lk : pp_Lk) (L : List (Nat × Value)) (st : List Value) (w : pp_W) (K : pp_St), pp_sp g h ret P Y X (.lload k) (lk) L st w K = (pp_lj L k (fun x => K L (.long x :: st) w))) := by
  intros
  rfl
theorem sx_11 : (∀ (k : Fin 4) (lk : pp_Lk) (L : List (Nat × Value)) (st : List Value) (w : pp_W) (K : pp_St), pp_sp g h ret P Y X (.lload_n k) (lk) L st w K = (pp_lj L k.val (fun x => K L (.long x :: st) w))) := by
  intros
  rfl
theorem sx_12 : (∀ (k : Nat) (lk : pp_Lk) (L : List (Nat × Value)) (st : List Value) (w : pp_W) (K : pp_St), pp_sp g h ret P Y X (.aload k) (lk) L st w K = (pp_la L k (fun v => K L (v :: st) w))) := by
  intros
  rfl
theorem sx_13 : (∀ (k : Fin 4) (lk : pp_Lk) (L : List (Nat × Value)) (st : List Value) (w : pp_W) (K : pp_St), pp_sp g h ret P Y X (.aload_n k) (lk) L st w K = (pp_la L k.val (fun v => K L (v :: st) w))) := by
  intros
  rfl
theorem sx_14 : (∀ (k : Nat) (lk : pp_Lk) (L : List (Nat × Value)) (st : List Value) (w : pp_W) (K : pp_St), pp_sp g h ret P Y X (.istore k) (lk) L st w K = (pp_i st (fun x st => K (pp_put1 k (.int x) L) st w))) := by
  intros
  rfl
theorem sx_15 : (∀ (k : Fin 4) (lk : pp_Lk) (L : List (Nat × Value)) (st : List Value) (w : pp_W) (K : pp_St), pp_sp g h ret P Y X (.istore_n k) (lk) L st w K = (pp_i st (fun x st => K (pp_put1 k.val (.int x) L) st w))) := by
  intros
  rfl
theorem sx_16 : (∀ (k : Nat) (lk : pp_Lk) (L : List (Nat × Value)) (st : List Value) (w : pp_W) (K : pp_St), pp_sp g h ret P Y X (.lstore k) (lk) L st w K = (pp_j st (fun x st => K (pp_put2 k (.long x) L) st w))) := by
  intros
  rfl
theorem sx_17 : (∀ (k : Fin 4) (lk : pp_Lk) (L : List (Nat × Value)) (st : List Value) (w : pp_W) (K : pp_St), pp_sp g h ret P Y X (.lstore_n k) (lk) L st w K = (pp_j st (fun x st => K (pp_put2 k.val (.long x) L) st w))) := by
  intros
  rfl
theorem sx_18 : (∀ (k : Nat) (lk : pp_Lk) (L : List (Nat × Value)) (st : List Value) (w : pp_W) (K : pp_St), pp_sp g h ret P Y X (.astore k) (lk) L st w K = (pp_q st (fun x st => K (pp_put1 k (pp_rf x) L) st w))) := by
  intros
  rfl
theorem sx_19 : (∀ (k : Fin 4) (lk : pp_Lk) (L : List (Nat × Value)) (st : List Value) (w : pp_W) (K : pp_St), pp_sp g h ret P Y X (.astore_n k) (lk) L st w K = (pp_q st (fun x st => K (pp_put1 k.val (pp_rf x) L) st w))) := by
  intros
  rfl
theorem sx_20 : (∀ (k : Nat) (n9 : Int) (c : Int32) (z1 : Nat) (L : List (Nat × Value)) (st : List Value) (w : pp_W) (K : pp_St), pp_sp g h ret P Y X (.iinc k n9) (.inr (.inr (.int c, z1))) L st w K = (pp_li L k (fun x => K (pp_put1 k (.int (x + c)) L) st w))) := by
  intros
  rfl
theorem sx_21 : (∀  (lk : pp_Lk) (L : List (Nat × Value)) (st : List Value) (w : pp_W) (K : pp_St), pp_sp g h ret P Y X (.iadd) (lk) L st w K = (pp_i st (fun y st => pp_i st (fun x st => K L (.int (x + y) :: st) w)))) := by
  intros
  rfl
theorem sx_22 : (∀  (lk : pp_Lk) (L : List (Nat × Value)) (st : List Value) (w : pp_W) (K : pp_St), pp_sp g h ret P Y X (.isub) (lk) L st w K = (pp_i st (fun y st => pp_i st (fun x st => K L (.int (x - y) :: st) w)))) := by
  intros
  rfl
theorem sx_23 : (∀  (lk : pp_Lk) (L : List (Nat × Value)) (st : List Value) (w : pp_W) (K : pp_St), pp_sp g h ret P Y X (.imul) (lk) L st w K = (pp_i st (fun y st => pp_i st (fun x st => K L (.int (x * y) :: st) w)))) := by
  intros
  rfl
theorem sx_24 : (∀  (lk : pp_Lk) (L : List (Nat × Value)) (st : List Value) (w : pp_W) (K : pp_St), pp_sp g h ret P Y X (.iand) (lk) L st w K = (pp_i st (fun y st => pp_i st (fun x st => K L (.int (x &&& y) :: st) w)))) := by
  intros
  rfl
theorem sx_25 : (∀  (lk : pp_Lk) (L : List (Nat × Value)) (st : List Value) (w : pp_W) (K : pp_St), pp_sp g h ret P Y X (.ior) (lk) L st w K = (pp_i st (fun y st => pp_i st (fun x st => K L (.int (x ||| y) :: st) w)))) := by
  intros
  rfl
theorem sx_26 : (∀  (lk : pp_Lk) (L : List (Nat × Value)) (st : List Value) (w : pp_W) (K : pp_St), pp_sp g h ret P Y X (.ixor) (lk) L st w K = (pp_i st (fun y st => pp_i st (fun x st => K L (.int (x ^^^ y) :: st) w)))) := by
  intros
  rfl
theorem sx_27 : (∀  (lk : pp_Lk) (L : List (Nat × Value)) (st : List Value) (w : pp_W) (K : pp_St), pp_sp g h ret P Y X (.ishl) (lk) L st w K = (pp_i st (fun y st => pp_i st (fun x st => K L (.int (x <<< (y &&& 31)) :: st) w)))) := by
  intros
  rfl
theorem sx_28 : (∀  (lk : pp_Lk) (L : List (Nat × Value)) (st : List Value) (w : pp_W) (K : pp_St), pp_sp g h ret P Y X (.ishr) (lk) L st w K = (pp_i st (fun y st => pp_i st (fun x st => K L (.int (x >>> (y &&& 31)) :: st) w)))) := by
  intros
  rfl
theorem sx_29 : (∀  (lk : pp_Lk) (L : List (Nat × Value)) (st : List Value) (w : pp_W) (K : pp_St), pp_sp g h ret P Y X (.iushr) (lk) L st w K = (pp_i st (fun y st => pp_i st (fun x st => K L (.int (x.toUInt32 >>> (y.toUInt32 &&& Int32.toUInt32 31)).toInt32 :: st) w)))) := by
  intros
  rfl
theorem sx_30 : (∀  (lk : pp_Lk) (L : List (Nat × Value)) (st : List Value) (w : pp_W) (K : pp_St), pp_sp g h ret P Y X (.idiv) (lk) L st w K = (pp_i st (fun y st => pp_i st (fun x st => ¬ y = 0 ∧ K L (.int (x / y) :: st) w)))) := by
  intros
  rfl
theorem sx_31 : (∀  (lk : pp_Lk) (L : List (Nat × Value)) (st : List Value) (w : pp_W) (K : pp_St), pp_sp g h ret P Y X (.ladd) (lk) L st w K = (pp_j st (fun y st => pp_j st (fun x st => K L (.long (x + y) :: st) w)))) := by
  intros
  rfl
theorem sx_32 : (∀  (lk : pp_Lk) (L : List (Nat × Value)) (st : List Value) (w : pp_W) (K : pp_St), pp_sp g h ret P Y X (.lsub) (lk) L st w K = (pp_j st (fun y st => pp_j st (fun x st => K L (.long (x - y) :: st) w)))) := by
  intros
  rfl
theorem sx_33 : (∀  (lk : pp_Lk) (L : List (Nat × Value)) (st : List Value) (w : pp_W) (K : pp_St), pp_sp g h ret P Y X (.lmul) (lk) L st w K = (pp_j st (fun y st => pp_j st (fun x st => K L (.long (x * y) :: st) w)))) := by
  intros
  rfl
theorem sx_34 : (∀  (lk : pp_Lk) (L : List (Nat × Value)) (st : List Value) (w : pp_W) (K : pp_St), pp_sp g h ret P Y X (.land) (lk) L st w K = (pp_j st (fun y st => pp_j st (fun x st => K L (.long (x &&& y) :: st) w)))) := by
  intros
  rfl
theorem sx_35 : (∀  (lk : pp_Lk) (L : List (Nat × Value)) (st : List Value) (w : pp_W) (K : pp_St), pp_sp g h ret P Y X (.lor) (lk) L st w K = (pp_j st (fun y st => pp_j st (fun x st => K L (.long (x ||| y) :: st) w)))) := by
  intros
  rfl
theorem sx_36 : (∀  (lk : pp_Lk) (L : List (Nat × Value)) (st : List Value) (w : pp_W) (K : pp_St), pp_sp g h ret P Y X (.lxor) (lk) L st w K = (pp_j st (fun y st => pp_j st (fun x st => K L (.long (x ^^^ y) :: st) w)))) := by
  intros
  rfl
theorem sx_37 : (∀  (lk : pp_Lk) (L : List (Nat × Value)) (st : List Value) (w : pp_W) (K : pp_St), pp_sp g h ret P Y X (.ldiv) (lk) L st w K = (pp_j st (fun y st => pp_j st (fun x st => ¬ y = 0 ∧ K L (.long (x / y) :: st) w)))) := by
  intros
  rfl
theorem sx_38 : (∀  (lk : pp_Lk) (L : List (Nat × Value)) (st : List Value) (w : pp_W) (K : pp_St), pp_sp g h ret P Y X (.lrem) (lk) L st w K = (pp_j st (fun y st => pp_j st (fun x st => ¬ y = 0 ∧ K L (.long (x - x / y * y) :: st) w)))) := by
  intros
  rfl
theorem sx_39 : (∀  (lk : pp_Lk) (L : List (Nat × Value)) (st : List Value) (w : pp_W) (K : pp_St), pp_sp g h ret P Y X (.lcmp) (lk) L st w K = (pp_j st (fun y st => pp_j st (fun x st => K L (.int (lg_cmp x y) :: st) w)))) := by
  intros
  rfl
theorem sx_40 : (∀  (lk : pp_Lk) (L : List (Nat × Value)) (st : List Value) (w : pp_W) (K : pp_St), pp_sp g h ret P Y X (.lshl) (lk) L st w K = (pp_i st (fun y st => pp_j st (fun x st => K L (.long (x <<< (y.toInt64 &&& 63)) :: st) w)))) := by
  intros
  rfl
theorem sx_41 : (∀  (lk : pp_Lk) (L : List (Nat × Value)) (st : List Value) (w : pp_W) (K : pp_St), pp_sp g h ret P Y X (.i2l) (lk) L st w K = (pp_i st (fun x st => K L (.long x.toInt64 :: st) w))) := by
  intros
  rfl
theorem sx_42 : (∀  (lk : pp_Lk) (L : List (Nat × Value)) (st : List Value) (w : pp_W) (K : pp_St), pp_sp g h ret P Y X (.i2b) (lk) L st w K = (pp_i st (fun x st => K L (.int x.toInt8.toInt32 :: st) w))) := by
  intros
  rfl
theorem sx_43 : (∀  (lk : pp_Lk) (L : List (Nat × Value)) (st : List Value) (w : pp_W) (K : pp_St), pp_sp g h ret P Y X (.l2i) (lk) L st w K = (pp_j st (fun x st => K L (.int x.toInt32 :: st) w))) := by
  intros
  rfl
theorem sx_44 : (∀  (lk : pp_Lk) (L : List (Nat × Value)) (st : List Value) (w : pp_W) (K : pp_St), pp_sp g h ret P Y X (.dup) (lk) L st w K = (pp_1 st (fun v st => K L (v :: v :: st) w))) := by
  intros
  rfl
theorem sx_45 : (∀  (lk : pp_Lk) (L : List (Nat × Value)) (st : List Value) (w : pp_W) (K : pp_St), pp_sp g h ret P Y X (.pop) (lk) L st w K = (pp_1 st (fun _ st => K L st w))) := by
  intros
  rfl
theorem sx_46 : (∀  (lk : pp_Lk) (L : List (Nat × Value)) (st : List Value) (w : pp_W) (K : pp_St), pp_sp g h ret P Y X (.pop2) (lk) L st w K = (pp_2 st (fun _ st => K L st w))) := by
  intros
  rfl
theorem sx_47 : (∀  (lk : pp_Lk) (L : List (Nat × Value)) (st : List Value) (w : pp_W) (K : pp_St), pp_sp g h ret P Y X (.dup2) (lk) L st w K = (pp_1 st (fun v st => pp_1 st (fun u st => K L (v :: u :: v :: u :: st) w)))) := by
  intros
  rfl
theorem sx_48 : (∀ (c : ClassFile.Cond) (n9 : Int) (t : Nat) (z1 : Nat) (z2 : List Nat) (L : List (Nat × Value)) (st : List Value) (w : pp_W) (K : pp_St), pp_sp g h ret P Y X (.ifCond c n9) (.inl (t, z1, z2)) L st w K = (pp_i st (fun x st => (pp_cond c x 0 → X t L st w) ∧ (pp_ncond c x 0 → K L st w)))) := by
  intros
  rfl
theorem sx_49 : (∀ (c : ClassFile.Cond) (n9 : Int) (t : Nat) (z1 : Nat) (z2 : List Nat) (L : List (Nat × Value)) (st : List Value) (w : pp_W) (K : pp_St), pp_sp g h ret P Y X (.if_icmp c n9) (.inl (t, z1, z2)) L st w K = (pp_i st (fun y st => pp_i st (fun x st => (pp_cond c x y → X t L st w) ∧ (pp_ncond c x y → K L st w))))) := by
  intros
  rfl
theorem sx_50 : (∀ (n9 : Int) (t : Nat) (z1 : Nat) (z2 : List Nat) (L : List (Nat × Value)) (st : List Value) (w : pp_W) (K : pp_St), pp_sp g h ret P Y X (.goto n9) (.inl (t, z1, z2)) L st w K = (X t L st w)) := by
  intros
  rfl
theorem sx_51 : (∀ (n9 : Int) (t : Nat) (z1 : Nat) (z2 : List Nat) (L : List (Nat × Value)) (st : List Value) (w : pp_W) (K : pp_St), pp_sp g h ret P Y X (.ifnull n9) (.inl (t, z1, z2)) L st w K = (pp_q st (fun x st => match x with
      | none => X t L st w
      | some _ => K L st w))) := by
  intros
  rfl
theorem sx_52 : (∀ (n9 : Int) (t : Nat) (z1 : Nat) (z2 : List Nat) (L : List (Nat × Value)) (st : List Value) (w : pp_W) (K : pp_St), pp_sp g h ret P Y X (.ifnonnull n9) (.inl (t, z1, z2)) L st w K = (pp_q st (fun x st => match x with
      | none => K L st w
      | some _ => X t L st w))) := by
  intros
  rfl
theorem sx_53 : (∀ (n9 lo hi : Int) (offs : Array Int) (d : Nat) (z1 : Nat) (ts : List Nat) (L : List (Nat × Value)) (st : List Value) (w : pp_W) (K : pp_St), pp_sp g h ret P Y X (.tableswitch n9 lo hi offs) (.inl (d, z1, ts)) L st w K = (pp_i st (fun x st => pp_sw (fun t => X t L st w) x lo ts ∧ ((x.toInt < lo ∨ hi < x.toInt) → X d L st w)))) := by
  intros
  rfl
theorem sx_54 : (∀ (n9 : Nat) (ci : Nat) (k : Nat) (z2 : List Nat) (L : List (Nat × Value)) (st : List Value) (w : pp_W) (K : pp_St), pp_sp g h ret P Y X (.getfield n9) (.inl (ci, k, 0 :: z2)) L st w K = (pp_r st (fun a st => w.1[a]? = some (ci, 0) ∧ K L (.int (w.2.1 a k) :: st) w))) := by
  intros
  rfl
theorem sx_55 : (∀ (n9 : Nat) (ci : Nat) (k : Nat) (z2 : List Nat) (L : List (Nat × Value)) (st : List Value) (w : pp_W) (K : pp_St), pp_sp g h ret P Y X (.getfield n9) (.inl (ci, k, 1 :: z2)) L st w K = (pp_r st (fun a st => w.1[a]? = some (ci, 0) ∧ K L (.long (w.2.2.1 a k) :: st) w))) := by
  intros
  rfl
theorem sx_56 : (∀ (n9 : Nat) (ci : Nat) (k : Nat) (z2 : List Nat) (L : List (Nat × Value)) (st : List Value) (w : pp_W) (K : pp_St), pp_sp g h ret P Y X (.getfield n9) (.inl (ci, k, 2 :: z2)) L st w K = (pp_r st (fun a st => w.1[a]? = some (ci, 0) ∧ K L (pp_rf (w.2.2.2 a k) :: st) w))) := by
  intros
  rfl
theorem sx_57 : (∀ (n9 : Nat) (z0 : Nat) (z1 : Nat) (z2 : List Nat) (L : List (Nat × Value)) (st : List Value) (w : pp_W) (K : pp_St), pp_sp g h ret P Y X (.getfield n9) (.inl (z0, z1, 3 :: z2)) L st w K = (pp_r st (fun a st => (1 ≤ a ∧ a ≤ 15) ∧ K L (.ref (a + 15) :: st) w))) := by
  intros
  rfl
theorem sx_58 : (∀ (n9 : Nat) (z0 : Nat) (z1 : Nat) (z2 : List Nat) (L : List (Nat × Value)) (st : List Value) (w : pp_W) (K : pp_St), pp_sp g h ret P Y X (.getfield n9) (.inl (z0, z1, 4 :: z2)) L st w K = (pp_r st (fun a st => (1 ≤ a ∧ a ≤ 15) ∧ K L (.int 0 :: st) w))) := by
  intros
  rfl
theorem sx_59 : (∀ (n9 : Nat) (z1 : Nat) (z2 : List Nat) (L : List (Nat × Value)) (st : List Value) (w : pp_W) (K : pp_St), pp_sp g h ret P Y X (.getstatic n9) (.inl (0, z1, z2)) L st w K = (K L (.int 1 :: st) w)) := by
  intros
  rfl
theorem sx_60 : (∀ (n9 : Nat) (z1 : Nat) (z2 : List Nat) (L : List (Nat × Value)) (st : List Value) (w : pp_W) (K : pp_St), pp_sp g h ret P Y X (.getstatic n9) (.inl (1, z1, z2)) L st w K = (K L (.null :: st) w ∧ K L (.ref 31 :: st) w)) := by
  intros
  rfl
theorem sx_61 : (∀  (lk : pp_Lk) (L : List (Nat × Value)) (st : List Value) (w : pp_W) (K : pp_St), pp_sp g h ret P Y X (.i2c) (lk) L st w K = (pp_i st (fun x st => K L (.int (x.toUInt32 % 65536).toInt32 :: st) w))) := by
  intros
  rfl
theorem sx_62 : (∀ (n9 : Nat) (ci : Nat) (k : Nat) (z2 : List Nat) (L : List (Nat × Value)) (st : List Value) (w : pp_W) (K : pp_St), pp_sp g h ret P Y X (.putfield n9) (.inl (ci, k, 0 :: z2)) L st w K = (pp_i st (fun x st => pp_r st (fun a st => w.1[a]? = some (ci, 0) ∧ K L st (w.1, pp_s w.2.1 a (va_up (w.2.1 a) k x), w.2.2))))) := by
  intros
  rfl
theorem sx_63 : (∀ (n9 : Nat) (ci : Nat) (k : Nat) (z2 : List Nat) (L : List (Nat × Value)) (st : List Value) (w : pp_W) (K : pp_St), pp_sp g h ret P Y X (.putfield n9) (.inl (ci, k, 1 :: z2)) L st w K = (pp_j st (fun x st => pp_r st (fun a st => w.1[a]? = some (ci, 0) ∧ K L st (w.1, w.2.1, pp_s w.2.2.1 a (va_up (w.2.2.1 a) k x), w.2.2.2))))) := by
  intros
  rfl
theorem sx_64 : (∀ (n9 : Nat) (ci : Nat) (k : Nat) (z2 : List Nat) (L : List (Nat × Value)) (st : List Value) (w : pp_W) (K : pp_St), pp_sp g h ret P Y X (.putfield n9) (.inl (ci, k, 2 :: z2)) L st w K = (pp_q st (fun x st => pp_r st (fun a st => w.1[a]? = some (ci, 0) ∧ K L st (w.1, w.2.1, w.2.2.1, pp_s w.2.2.2 a (va_up (w.2.2.2 a) k x)))))) := by
  intros
  rfl
theorem sx_65 : (∀  (z1 : Nat) (z2 : List Nat) (L : List (Nat × Value)) (st : List Value) (w : pp_W) (K : pp_St), pp_sp g h ret P Y X (.arraylength) (.inl (0, z1, z2)) L st w K = (pp_r st (fun a st => pp_al w a (fun n => K L (.int (Int32.ofNat n) :: st) w)))) := by
  intros
  rfl
theorem sx_66 : (∀  (z1 : Nat) (z2 : List Nat) (L : List (Nat × Value)) (st : List Value) (w : pp_W) (K : pp_St), pp_sp g h ret P Y X (.arraylength) (.inl (1, z1, z2)) L st w K = (pp_r st (fun a st => a = 0 ∧ K L (.int (Int32.ofNat (pp_sL g)) :: st) w))) := by
  intros
  rfl
theorem sx_67 : (∀  (z1 : Nat) (z2 : List Nat) (L : List (Nat × Value)) (st : List Value) (w : pp_W) (K : pp_St), pp_sp g h ret P Y X (.arraylength) (.inl (2, z1, z2)) L st w K = (pp_r st (fun a st => (16 ≤ a ∧ a ≤ 30) ∧ K L (.int (Int32.ofNat (pp_txt.getD (a - 16) []).length) :: st) w))) := by
  intros
  rfl
theorem sx_68 : (∀  (z1 : Nat) (z2 : List Nat) (L : List (Nat × Value)) (st : List Value) (w : pp_W) (K : pp_St), pp_sp g h ret P Y X (.iaload) (.inl (0, z1, z2)) L st w K = (pp_i st (fun j st => pp_r st (fun a st => pp_in w a 10 j (K L (.int (w.2.1 a j.toNatClampNeg) :: st) w))))) := by
  intros
  rfl
theorem sx_69 : (∀  (z1 : Nat) (z2 : List Nat) (L : List (Nat × Value)) (st : List Value) (w : pp_W) (K : pp_St), pp_sp g h ret P Y X (.iaload) (.inl (1, z1, z2)) L st w K = (pp_i st (fun j st => pp_r st (fun a st => a = 0 ∧ vp_in j (pp_sL g) ∧ K L (.int (pp_sx g j.toNatClampNeg) :: st) w)))) := by
  intros
  rfl
theorem sx_70 : (∀  (z1 : Nat) (z2 : List Nat) (L : List (Nat × Value)) (st : List Value) (w : pp_W) (K : pp_St), pp_sp g h ret P Y X (.baload) (.inl (0, z1, z2)) L st w K = (pp_i st (fun j st => pp_r st (fun a st => pp_in w a 11 j (K L (.int (w.2.1 a j.toNatClampNeg) :: st) w))))) := by
  intros
  rfl
theorem sx_71 : (∀  (z1 : Nat) (z2 : List Nat) (L : List (Nat × Value)) (st : List Value) (w : pp_W) (K : pp_St), pp_sp g h ret P Y X (.baload) (.inl (1, z1, z2)) L st w K = (pp_i st (fun j st => pp_r st (fun a st => pp_in w a 12 j (K L (.int (w.2.1 a j.toNatClampNeg) :: st) w))))) := by
  intros
  rfl
theorem sx_72 : (∀  (z1 : Nat) (z2 : List Nat) (L : List (Nat × Value)) (st : List Value) (w : pp_W) (K : pp_St), pp_sp g h ret P Y X (.baload) (.inl (2, z1, z2)) L st w K = (pp_i st (fun j st => pp_r st (fun a st => (16 ≤ a ∧ a ≤ 30) ∧ vp_in j (pp_txt.getD (a - 16) []).length ∧ K L (.int ((pp_txt.getD (a - 16) []).getD j.toNatClampNeg 0) :: st) w)))) := by
  intros
  rfl
theorem sx_73 : (∀  (lk : pp_Lk) (L : List (Nat × Value)) (st : List Value) (w : pp_W) (K : pp_St), pp_sp g h ret P Y X (.laload) (lk) L st w K = (pp_i st (fun j st => pp_r st (fun a st => pp_in w a 13 j (K L (.long (w.2.2.1 a j.toNatClampNeg) :: st) w))))) := by
  intros
  rfl
theorem sx_74 : (∀  (lk : pp_Lk) (L : List (Nat × Value)) (st : List Value) (w : pp_W) (K : pp_St), pp_sp g h ret P Y X (.aaload) (lk) L st w K = (pp_i st (fun j st => pp_r st (fun a st => pp_in w a 14 j (K L (pp_rf (w.2.2.2 a j.toNatClampNeg) :: st) w))))) := by
  intros
  rfl
theorem sx_75 : (∀  (lk : pp_Lk) (L : List (Nat × Value)) (st : List Value) (w : pp_W) (K : pp_St), pp_sp g h ret P Y X (.iastore) (lk) L st w K = (pp_i st (fun x st => pp_i st (fun j st => pp_r st (fun a st => pp_in w a 10 j (K L st (w.1, pp_s w.2.1 a (va_up (w.2.1 a) j.toNatClampNeg x), w.2.2))))))) := by
  intros
  rfl
theorem sx_76 : (∀  (z1 : Nat) (z2 : List Nat) (L : List (Nat × Value)) (st : List Value) (w : pp_W) (K : pp_St), pp_sp g h ret P Y X (.bastore) (.inl (0, z1, z2)) L st w K = (pp_i st (fun x st => pp_i st (fun j st => pp_r st (fun a st => pp_in w a 11 j (K L st (w.1, pp_s w.2.1 a (va_up (w.2.1 a) j.toNatClampNeg x.toInt8.toInt32), w.2.2))))))) := by
  intros
  rfl
theorem sx_77 : (∀  (z1 : Nat) (z2 : List Nat) (L : List (Nat × Value)) (st : List Value) (w : pp_W) (K : pp_St), pp_sp g h ret P Y X (.bastore) (.inl (1, z1, z2)) L st w K = (pp_i st (fun x st => pp_i st (fun j st => pp_r st (fun a st => pp_in w a 12 j ((x = 0 ∨ x = 1) ∧ K L st (w.1, pp_s w.2.1 a (va_up (w.2.1 a) j.toNatClampNeg x), w.2.2))))))) := by
  intros
  rfl
theorem sx_78 : (∀  (lk : pp_Lk) (L : List (Nat × Value)) (st : List Value) (w : pp_W) (K : pp_St), pp_sp g h ret P Y X (.lastore) (lk) L st w K = (pp_j st (fun x st => pp_i st (fun j st => pp_r st (fun a st => pp_in w a 13 j (K L st (w.1, w.2.1, pp_s w.2.2.1 a (va_up (w.2.2.1 a) j.toNatClampNeg x), w.2.2.2))))))) := by
  intros
  rfl
theorem sx_79 : (∀  (lk : pp_Lk) (L : List (Nat × Value)) (st : List Value) (w : pp_W) (K : pp_St), pp_sp g h ret P Y X (.aastore) (lk) L st w K = (pp_q st (fun x st => pp_i st (fun j st => pp_r st (fun a st => pp_in w a 14 j ((∀ b, x = some b → w.1[b]? = some (4, 0)) ∧ K L st (w.1, w.2.1, w.2.2.1, pp_s w.2.2.2 a (va_up (w.2.2.2 a) j.toNatClampNeg x)))))))) := by
  intros
  rfl
theorem sx_80 : (∀ (n9 : Nat) (ci : Nat) (z1 : Nat) (z2 : List Nat) (L : List (Nat × Value)) (st : List Value) (w : pp_W) (K : pp_St), pp_sp g h ret P Y X (.new n9) (.inl (ci, z1, z2)) L st w K = (K L (.ref w.1.length :: st) (pp_nw w (ci, 0)))) := by
  intros
  rfl
theorem sx_81 : (∀ (n9 : ArrayType) (t : Nat) (n : Nat) (z2 : List Nat) (L : List (Nat × Value)) (st : List Value) (w : pp_W) (K : pp_St), pp_sp g h ret P Y X (.newarray n9) (.inl (t, n, z2)) L st w K = (pp_i st (fun x st => x = Int32.ofNat n ∧ K L (.ref w.1.length :: st) (pp_nw w (t, n))))) := by
  intros
  rfl
theorem sx_82 : (∀ (n9 : Nat) (z0 : Nat) (n : Nat) (z2 : List Nat) (L : List (Nat × Value)) (st : List Value) (w : pp_W) (K : pp_St), pp_sp g h ret P Y X (.anewarray n9) (.inl (z0, n, z2)) L st w K = (pp_i st (fun x st => x = Int32.ofNat n ∧ K L (.ref w.1.length :: st) (pp_nw w (14, n))))) := by
  intros
  rfl
theorem sx_83 : (∀ (n9 : Nat) (q0 : Nat × Nat × List Nat) (L : List (Nat × Value)) (st : List Value) (w : pp_W) (K : pp_St), pp_sp g h ret P Y X (.invokespecial n9) (.inl q0) L st w K = (pp_r st (fun _ st => st.length ≤ 4 ∧ K L st w))) := by
  intros
  rfl
theorem sx_84 : (∀ (n9 : Nat) (mj : pp_MI) (ci z2 : Nat) (l : List Nat) (L : List (Nat × Value)) (st : List Value) (w : pp_W) (K : pp_St), pp_sp g h ret P Y X (.invokespecial n9) (.inr (.inl (mj, ci, z2, l))) L st w K = (pp_args l [] st (fun av st => st.length ≤ 4 ∧ pp_r av (fun _ _ => True) ∧ pp_MW g h mj av w (pp_kr K Y L st)))) := by
  intros
  rfl
theorem sx_85 : (∀ (n9 : Nat) (mj : pp_MI) (ci z2 : Nat) (l : List Nat) (L : List (Nat × Value)) (st : List Value) (w : pp_W) (K : pp_St), pp_sp g h ret P Y X (.invokevirtual n9) (.inr (.inl (mj, ci, z2, 0 :: l))) L st w K = (pp_args (0 :: l) [] st (fun av st => st.length ≤ 4 ∧ pp_r av (fun b _ => w.1[b]? = some (ci, 0)) ∧ pp_MW g h mj av w (pp_kr K Y L st)))) := by
  intros
  rfl
theorem sx_86 : (∀ (n9 : Nat) (mj : pp_MI) (ci z2 : Nat) (l : List Nat) (L : List (Nat × Value)) (st : List Value) (w : pp_W) (K : pp_St), pp_sp g h ret P Y X (.invokevirtual n9) (.inr (.inl (mj, ci, z2, 1 :: l))) L st w K = (pp_args (1 :: l) [] st (fun av st => st.length ≤ 4 ∧ pp_r av (fun b _ => 1 ≤ b ∧ b ≤ 15) ∧ pp_MW g h mj av w (pp_kr K Y L st)))) := by
  intros
  rfl
theorem sx_87 : (∀ (n9 : Nat) (z1 : Nat) (z2 : List Nat) (L : List (Nat × Value)) (st : List Value) (w : pp_W) (K : pp_St), pp_sp g h ret P Y X (.invokestatic n9) (.inl (0, z1, z2)) L st w K = (pp_i st (fun n st => pp_i st (fun dp st => pp_r st (fun b st => pp_i st (fun sp st => pp_r st (fun a st => st.length ≤ 4 ∧ ¬ sp < 0 ∧ ¬ dp < 0 ∧ ¬ n < 0 ∧ pp_al w a (fun n0 => sp.toNatClampNeg + n.toNatClampNeg ≤ n0) ∧ pp_al w b (fun n1 => dp.toNatClampNeg + n.toNatClampNeg ≤ n1) ∧
        w.1[a]?.map Prod.fst = some 10 ∧ w.1[b]?.map Prod.fst = some 10 ∧ K L st (w.1, pp_s w.2.1 b (va_cpy (w.2.1 a) (w.2.1 b) sp.toNatClampNeg dp.toNatClampNeg n.toNatClampNeg), w.2.2)))))))) := by
  intros
  rfl
theorem sx_88 : (∀ (n9 : Nat) (z1 : Nat) (z2 : List Nat) (L : List (Nat × Value)) (st : List Value) (w : pp_W) (K : pp_St), pp_sp g h ret P Y X (.invokestatic n9) (.inl (1, z1, z2)) L st w K = (pp_i st (fun n st => pp_i st (fun dp st => pp_r st (fun b st => pp_i st (fun sp st => pp_r st (fun a st => st.length ≤ 4 ∧ ¬ sp < 0 ∧ ¬ dp < 0 ∧ ¬ n < 0 ∧ pp_al w a (fun n0 => sp.toNatClampNeg + n.toNatClampNeg ≤ n0) ∧ pp_al w b (fun n1 => dp.toNatClampNeg + n.toNatClampNeg ≤ n1) ∧
        w.1[a]?.map Prod.fst = some 13 ∧ w.1[b]?.map Prod.fst = some 13 ∧ K L st (w.1, w.2.1, pp_s w.2.2.1 b (va_cpy (w.2.2.1 a) (w.2.2.1 b) sp.toNatClampNeg dp.toNatClampNeg n.toNatClampNeg), w.2.2.2)))))))) := by
  intros
  rfl
theorem sx_89 : (∀ (n9 : Nat) (z1 : Nat) (z2 : List Nat) (L : List (Nat × Value)) (st : List Value) (w : pp_W) (K : pp_St), pp_sp g h ret P Y X (.invokestatic n9) (.inl (2, z1, z2)) L st w K = (pp_i st (fun y st => pp_i st (fun x st => st.length ≤ 4 ∧ K L (.int (if y < x then y else x) :: st) w)))) := by
  intros
  rfl
theorem sx_90 : (∀ (n9 : Nat) (z1 : Nat) (z2 : List Nat) (L : List (Nat × Value)) (st : List Value) (w : pp_W) (K : pp_St), pp_sp g h ret P Y X (.invokestatic n9) (.inl (3, z1, z2)) L st w K = (pp_i st (fun y st => pp_i st (fun x st => st.length ≤ 4 ∧ K L (.int (if x < y then y else x) :: st) w)))) := by
  intros
  rfl
theorem sx_91 : (∀ (n9 : Nat) (z1 : Nat) (z2 : List Nat) (L : List (Nat × Value)) (st : List Value) (w : pp_W) (K : pp_St), pp_sp g h ret P Y X (.invokestatic n9) (.inl (4, z1, z2)) L st w K = (pp_j st (fun y st => pp_j st (fun x st => st.length ≤ 4 ∧ K L (.long (if y < x then y else x) :: st) w)))) := by
  intros
  rfl
theorem sx_92 : (∀ (n9 : Nat) (mj : pp_MI) (ci z2 : Nat) (l : List Nat) (L : List (Nat × Value)) (st : List Value) (w : pp_W) (K : pp_St), pp_sp g h ret P Y X (.invokestatic n9) (.inr (.inl (mj, ci, z2, l))) L st w K = (pp_args l [] st (fun av st => st.length ≤ 4 ∧ pp_MW g h mj av w (pp_kr K Y L st)))) := by
  intros
  rfl
theorem sx_93 : (∀  (lk : pp_Lk) (x : Int32) (L : List (Nat × Value)) (w : pp_W) (K : pp_St), pp_sp g h ret P Y X (.ireturn) (lk) L [.int x] w K = (pp_rok ret x ∧ P (.inl (some (.int x))) w)) := by
  intros
  rfl
theorem sx_94 : (∀  (lk : pp_Lk) (x : Int64) (L : List (Nat × Value)) (w : pp_W) (K : pp_St), pp_sp g h ret P Y X (.lreturn) (lk) L [.long x] w K = (P (.inl (some (.long x))) w)) := by
  intros
  rfl
theorem sx_95 : (∀  (lk : pp_Lk) (L : List (Nat × Value)) (w : pp_W) (K : pp_St), pp_sp g h ret P Y X (.return_) (lk) L [] w K = (P (.inl none) w)) := by
  intros
  rfl
theorem sx_96 : (∀  (e : Nat) (z1 : Nat) (z2 : List Nat) (L : List (Nat × Value)) (st : List Value) (w : pp_W) (K : pp_St), pp_sp g h ret P Y X (.athrow) (.inl (e, z1, z2)) L st w K = (st.length ≤ 4 ∧ ∀ k : Nat, P (.inr ((pp_exs.getD e ("", 0, 0)).1)) (w.1 ++ List.replicate k (15, 0), w.2))) := by
  intros
  rfl
theorem sx : ((∀  (lk : pp_Lk) (L : List (Nat × Value)) (st : List Value) (w : pp_W) (K : pp_St), pp_sp g h ret P Y X (.aconst_null) (lk) L st w K = (K L (.null :: st) w))) ∧ ((∀ (n9 : Int) (v : Value) (z1 : Nat) (L : List (Nat × Value)) (st : List Value) (w : pp_W) (K : pp_St), pp_sp g h ret P Y X (.iconst n9) (.inr (.inr (v, z1))) L st w K = (K L (v :: st) w))) ∧ ((∀ (n9 : Int) (v : Value) (z1 : Nat) (L : List (Nat × Value)) (st : List Value) (w : pp_W) (K : pp_St), pp_sp g h ret P Y X (.bipush n9) (.inr (.inr (v, z1))) L st w K = (K L (v :: st) w))) ∧ ((∀ (n9 : Int) (v : Value) (z1 : Nat) (L : List (Nat × Value)) (st : List Value) (w : pp_W) (K : pp_St), pp_sp g h ret P Y X (.sipush n9) (.inr (.inr (v, z1))) L st w K = (K L (v :: st) w))) ∧ ((∀ (n9 : Fin 2) (v : Value) (z1 : Nat) (L : List (Nat × Value)) (st : List Value) (w : pp_W) (K : pp_St), pp_sp g h ret P Y X (.lconst n9) (.inr (.inr (v, z1))) L st w K = (K L (v :: st) w))) ∧ ((∀ (n9 : Nat) (v : Value) (z1 : Nat) (L : List (Nat × Value)) (st : List Value) (w : pp_W) (K : pp_St), pp_sp g h ret P Y X (.ldc n9) (.inr (.inr (v, z1))) L st w K = (K L (v :: st) w))) ∧ ((∀ (n9 : Nat) (v : Value) (z1 : Nat) (L : List (Nat × Value)) (st : List Value) (w : pp_W) (K : pp_St), pp_sp g h ret P Y X (.ldc_w n9) (.inr (.inr (v, z1))) L st w K = (K L (v :: st) w))) ∧ ((∀ (n9 : Nat) (v : Value) (z1 : Nat) (L : List (Nat × Value)) (st : List Value) (w : pp_W) (K : pp_St), pp_sp g h ret P Y X (.ldc2_w n9) (.inr (.inr (v, z1))) L st w K = (K L (v :: st) w))) ∧ ((∀ (k : Nat) (lk : pp_Lk) (L : List (Nat × Value)) (st : List Value) (w : pp_W) (K : pp_St), pp_sp g h ret P Y X (.iload k) (lk) L st w K = (pp_li L k (fun x => K L (.int x :: st) w)))) ∧ ((∀ (k : Fin 4) (lk : pp_Lk) (L : List (Nat × Value)) (st : List Value) (w : pp_W) (K : pp_St), pp_sp g h ret P Y X (.iload_n k) (lk) L st w K = (pp_li L k.val (fun x => K L (.int x :: st) w)))) ∧ ((∀ (k : Nat) (lk : pp_Lk) (L : List (Nat × Value)) (st : List Value) (w : pp_W) (K : pp_St), pp_sp g h ret P Y X (.lload k) (lk) L st w K = (pp_lj L k (fun x => K L (.long x :: st) w)))) ∧ ((∀ (k : Fin 4) (lk : pp_Lk) (L : List (Nat × Value)) (st : List Value) (w : pp_W) (K : pp_St), pp_sp g h ret P Y X (.lload_n k) (lk) L st w K = (pp_lj L k.val (fun x => K L (.long x :: st) w)))) ∧ ((∀ (k : Nat) (lk : pp_Lk) (L : List (Nat × Value)) (st : List Value) (w : pp_W) (K : pp_St), pp_sp g h ret P Y X (.aload k) (lk) L st w K = (pp_la L k (fun v => K L (v :: st) w)))) ∧ ((∀ (k : Fin 4) (lk : pp_Lk) (L : List (Nat × Value)) (st : List Value) (w : pp_W) (K : pp_St), pp_sp g h ret P Y X (.aload_n k) (lk) L st w K = (pp_la L k.val (fun v => K L (v :: st) w)))) ∧ ((∀ (k : Nat) (lk : pp_Lk) (L : List (Nat × Value)) (st : List Value) (w : pp_W) (K : pp_St), pp_sp g h ret P Y X (.istore k) (lk) L st w K = (pp_i st (fun x st => K (pp_put1 k (.int x) L) st w)))) ∧ ((∀ (k : Fin 4) (lk : pp_Lk) (L : List (Nat × Value)) (st : List Value) (w : pp_W) (K : pp_St), pp_sp g h ret P Y X (.istore_n k) (lk) L st w K = (pp_i st (fun x st => K (pp_put1 k.val (.int x) L) st w)))) ∧ ((∀ (k : Nat) (lk : pp_Lk) (L : List (Nat × Value)) (st : List Value) (w : pp_W) (K : pp_St), pp_sp g h ret P Y X (.lstore k) (lk) L st w K = (pp_j st (fun x st => K (pp_put2 k (.long x) L) st w)))) ∧ ((∀ (k : Fin 4) (lk : pp_Lk) (L : List (Nat × Value)) (st : List Value) (w : pp_W) (K : pp_St), pp_sp g h ret P Y X (.lstore_n k) (lk) L st w K = (pp_j st (fun x st => K (pp_put2 k.val (.long x) L) st w)))) ∧ ((∀ (k : Nat) (lk : pp_Lk) (L : List (Nat × Value)) (st : List Value) (w : pp_W) (K : pp_St), pp_sp g h ret P Y X (.astore k) (lk) L st w K = (pp_q st (fun x st => K (pp_put1 k (pp_rf x) L) st w)))) ∧ ((∀ (k : Fin 4) (lk : pp_Lk) (L : List (Nat × Value)) (st : List Value) (w : pp_W) (K : pp_St), pp_sp g h ret P Y X (.astore_n k) (lk) L st w K = (pp_q st (fun x st => K (pp_put1 k.val (pp_rf x) L) st w)))) ∧ ((∀ (k : Nat) (n9 : Int) (c : Int32) (z1 : Nat) (L : List (Nat × Value)) (st : List Value) (w : pp_W) (K : pp_St), pp_sp g h ret P Y X (.iinc k n9) (.inr (.inr (.int c, z1))) L st w K = (pp_li L k (fun x => K (pp_put1 k (.int (x + c)) L) st w)))) ∧ ((∀  (lk : pp_Lk) (L : List (Nat × Value)) (st : List Value) (w : pp_W) (K : pp_St), pp_sp g h ret P Y X (.iadd) (lk) L st w K = (pp_i st (fun y st => pp_i st (fun x st => K L (.int (x + y) :: st) w))))) ∧ ((∀  (lk : pp_Lk) (L : List (Nat × Value)) (st : List Value) (w : pp_W) (K : pp_St), pp_sp g h ret P Y X (.isub) (lk) L st w K = (pp_i st (fun y st => pp_i st (fun x st => K L (.int (x - y) :: st) w))))) ∧ ((∀  (lk : pp_Lk) (L : List (Nat × Value)) (st : List Value) (w : pp_W) (K : pp_St), pp_sp g h ret P Y X (.imul) (lk) L st w K = (pp_i st (fun y st => pp_i st (fun x st => K L (.int (x * y) :: st) w))))) ∧ ((∀  (lk : pp_Lk) (L : List (Nat × Value)) (st : List Value) (w : pp_W) (K : pp_St), pp_sp g h ret P Y X (.iand) (lk) L st w K = (pp_i st (fun y st => pp_i st (fun x st => K L (.int (x &&& y) :: st) w))))) ∧ ((∀  (lk : pp_Lk) (L : List (Nat × Value)) (st : List Value) (w : pp_W) (K : pp_St), pp_sp g h ret P Y X (.ior) (lk) L st w K = (pp_i st (fun y st => pp_i st (fun x st => K L (.int (x ||| y) :: st) w))))) ∧ ((∀  (lk : pp_Lk) (L : List (Nat × Value)) (st : List Value) (w : pp_W) (K : pp_St), pp_sp g h ret P Y X (.ixor) (lk) L st w K = (pp_i st (fun y st => pp_i st (fun x st => K L (.int (x ^^^ y) :: st) w))))) ∧ ((∀  (lk : pp_Lk) (L : List (Nat × Value)) (st : List Value) (w : pp_W) (K : pp_St), pp_sp g h ret P Y X (.ishl) (lk) L st w K = (pp_i st (fun y st => pp_i st (fun x st => K L (.int (x <<< (y &&& 31)) :: st) w))))) ∧ ((∀  (lk : pp_Lk) (L : List (Nat × Value)) (st : List Value) (w : pp_W) (K : pp_St), pp_sp g h ret P Y X (.ishr) (lk) L st w K = (pp_i st (fun y st => pp_i st (fun x st => K L (.int (x >>> (y &&& 31)) :: st) w))))) ∧ ((∀  (lk : pp_Lk) (L : List (Nat × Value)) (st : List Value) (w : pp_W) (K : pp_St), pp_sp g h ret P Y X (.iushr) (lk) L st w K = (pp_i st (fun y st => pp_i st (fun x st => K L (.int (x.toUInt32 >>> (y.toUInt32 &&& Int32.toUInt32 31)).toInt32 :: st) w))))) ∧ ((∀  (lk : pp_Lk) (L : List (Nat × Value)) (st : List Value) (w : pp_W) (K : pp_St), pp_sp g h ret P Y X (.idiv) (lk) L st w K = (pp_i st (fun y st => pp_i st (fun x st => ¬ y = 0 ∧ K L (.int (x / y) :: st) w))))) ∧ ((∀  (lk : pp_Lk) (L : List (Nat × Value)) (st : List Value) (w : pp_W) (K : pp_St), pp_sp g h ret P Y X (.ladd) (lk) L st w K = (pp_j st (fun y st => pp_j st (fun x st => K L (.long (x + y) :: st) w))))) ∧ ((∀  (lk : pp_Lk) (L : List (Nat × Value)) (st : List Value) (w : pp_W) (K : pp_St), pp_sp g h ret P Y X (.lsub) (lk) L st w K = (pp_j st (fun y st => pp_j st (fun x st => K L (.long (x - y) :: st) w))))) ∧ ((∀  (lk : pp_Lk) (L : List (Nat × Value)) (st : List Value) (w : pp_W) (K : pp_St), pp_sp g h ret P Y X (.lmul) (lk) L st w K = (pp_j st (fun y st => pp_j st (fun x st => K L (.long (x * y) :: st) w))))) ∧ ((∀  (lk : pp_Lk) (L : List (Nat × Value)) (st : List Value) (w : pp_W) (K : pp_St), pp_sp g h ret P Y X (.land) (lk) L st w K = (pp_j st (fun y st => pp_j st (fun x st => K L (.long (x &&& y) :: st) w))))) ∧ ((∀  (lk : pp_Lk) (L : List (Nat × Value)) (st : List Value) (w : pp_W) (K : pp_St), pp_sp g h ret P Y X (.lor) (lk) L st w K = (pp_j st (fun y st => pp_j st (fun x st => K L (.long (x ||| y) :: st) w))))) ∧ ((∀  (lk : pp_Lk) (L : List (Nat × Value)) (st : List Value) (w : pp_W) (K : pp_St), pp_sp g h ret P Y X (.lxor) (lk) L st w K = (pp_j st (fun y st => pp_j st (fun x st => K L (.long (x ^^^ y) :: st) w))))) ∧ ((∀  (lk : pp_Lk) (L : List (Nat × Value)) (st : List Value) (w : pp_W) (K : pp_St), pp_sp g h ret P Y X (.ldiv) (lk) L st w K = (pp_j st (fun y st => pp_j st (fun x st => ¬ y = 0 ∧ K L (.long (x / y) :: st) w))))) ∧ ((∀  (lk : pp_Lk) (L : List (Nat × Value)) (st : List Value) (w : pp_W) (K : pp_St), pp_sp g h ret P Y X (.lrem) (lk) L st w K = (pp_j st (fun y st => pp_j st (fun x st => ¬ y = 0 ∧ K L (.long (x - x / y * y) :: st) w))))) ∧ ((∀  (lk : pp_Lk) (L : List (Nat × Value)) (st : List Value) (w : pp_W) (K : pp_St), pp_sp g h ret P Y X (.lcmp) (lk) L st w K = (pp_j st (fun y st => pp_j st (fun x st => K L (.int (lg_cmp x y) :: st) w))))) ∧ ((∀  (lk : pp_Lk) (L : List (Nat × Value)) (st : List Value) (w : pp_W) (K : pp_St), pp_sp g h ret P Y X (.lshl) (lk) L st w K = (pp_i st (fun y st => pp_j st (fun x st => K L (.long (x <<< (y.toInt64 &&& 63)) :: st) w))))) ∧ ((∀  (lk : pp_Lk) (L : List (Nat × Value)) (st : List Value) (w : pp_W) (K : pp_St), pp_sp g h ret P Y X (.i2l) (lk) L st w K = (pp_i st (fun x st => K L (.long x.toInt64 :: st) w)))) ∧ ((∀  (lk : pp_Lk) (L : List (Nat × Value)) (st : List Value) (w : pp_W) (K : pp_St), pp_sp g h ret P Y X (.i2b) (lk) L st w K = (pp_i st (fun x st => K L (.int x.toInt8.toInt32 :: st) w)))) ∧ ((∀  (lk : pp_Lk) (L : List (Nat × Value)) (st : List Value) (w : pp_W) (K : pp_St), pp_sp g h ret P Y X (.l2i) (lk) L st w K = (pp_j st (fun x st => K L (.int x.toInt32 :: st) w)))) ∧ ((∀  (lk : pp_Lk) (L : List (Nat × Value)) (st : List Value) (w : pp_W) (K : pp_St), pp_sp g h ret P Y X (.dup) (lk) L st w K = (pp_1 st (fun v st => K L (v :: v :: st) w)))) ∧ ((∀  (lk : pp_Lk) (L : List (Nat × Value)) (st : List Value) (w : pp_W) (K : pp_St), pp_sp g h ret P Y X (.pop) (lk) L st w K = (pp_1 st (fun _ st => K L st w)))) ∧ ((∀  (lk : pp_Lk) (L : List (Nat × Value)) (st : List Value) (w : pp_W) (K : pp_St), pp_sp g h ret P Y X (.pop2) (lk) L st w K = (pp_2 st (fun _ st => K L st w)))) ∧ ((∀  (lk : pp_Lk) (L : List (Nat × Value)) (st : List Value) (w : pp_W) (K : pp_St), pp_sp g h ret P Y X (.dup2) (lk) L st w K = (pp_1 st (fun v st => pp_1 st (fun u st => K L (v :: u :: v :: u :: st) w))))) ∧ ((∀ (c : ClassFile.Cond) (n9 : Int) (t : Nat) (z1 : Nat) (z2 : List Nat) (L : List (Nat × Value)) (st : List Value) (w : pp_W) (K : pp_St), pp_sp g h ret P Y X (.ifCond c n9) (.inl (t, z1, z2)) L st w K = (pp_i st (fun x st => (pp_cond c x 0 → X t L st w) ∧ (pp_ncond c x 0 → K L st w))))) ∧ ((∀ (c : ClassFile.Cond) (n9 : Int) (t : Nat) (z1 : Nat) (z2 : List Nat) (L : List (Nat × Value)) (st : List Value) (w : pp_W) (K : pp_St), pp_sp g h ret P Y X (.if_icmp c n9) (.inl (t, z1, z2)) L st w K = (pp_i st (fun y st => pp_i st (fun x st => (pp_cond c x y → X t L st w) ∧ (pp_ncond c x y → K L st w)))))) ∧ ((∀ (n9 : Int) (t : Nat) (z1 : Nat) (z2 : List Nat) (L : List (Nat × Value)) (st : List Value) (w : pp_W) (K : pp_St), pp_sp g h ret P Y X (.goto n9) (.inl (t, z1, z2)) L st w K = (X t L st w))) ∧ ((∀ (n9 : Int) (t : Nat) (z1 : Nat) (z2 : List Nat) (L : List (Nat × Value)) (st : List Value) (w : pp_W) (K : pp_St), pp_sp g h ret P Y X (.ifnull n9) (.inl (t, z1, z2)) L st w K = (pp_q st (fun x st => match x with
      | none => X t L st w
      | some _ => K L st w)))) ∧ ((∀ (n9 : Int) (t : Nat) (z1 : Nat) (z2 : List Nat) (L : List (Nat × Value)) (st : List Value) (w : pp_W) (K : pp_St), pp_sp g h ret P Y X (.ifnonnull n9) (.inl (t, z1, z2)) L st w K = (pp_q st (fun x st => match x with
      | none => K L st w
      | some _ => X t L st w)))) ∧ ((∀ (n9 lo hi : Int) (offs : Array Int) (d : Nat) (z1 : Nat) (ts : List Nat) (L : List (Nat × Value)) (st : List Value) (w : pp_W) (K : pp_St), pp_sp g h ret P Y X (.tableswitch n9 lo hi offs) (.inl (d, z1, ts)) L st w K = (pp_i st (fun x st => pp_sw (fun t => X t L st w) x lo ts ∧ ((x.toInt < lo ∨ hi < x.toInt) → X d L st w))))) ∧ ((∀ (n9 : Nat) (ci : Nat) (k : Nat) (z2 : List Nat) (L : List (Nat × Value)) (st : List Value) (w : pp_W) (K : pp_St), pp_sp g h ret P Y X (.getfield n9) (.inl (ci, k, 0 :: z2)) L st w K = (pp_r st (fun a st => w.1[a]? = some (ci, 0) ∧ K L (.int (w.2.1 a k) :: st) w)))) ∧ ((∀ (n9 : Nat) (ci : Nat) (k : Nat) (z2 : List Nat) (L : List (Nat × Value)) (st : List Value) (w : pp_W) (K : pp_St), pp_sp g h ret P Y X (.getfield n9) (.inl (ci, k, 1 :: z2)) L st w K = (pp_r st (fun a st => w.1[a]? = some (ci, 0) ∧ K L (.long (w.2.2.1 a k) :: st) w)))) ∧ ((∀ (n9 : Nat) (ci : Nat) (k : Nat) (z2 : List Nat) (L : List (Nat × Value)) (st : List Value) (w : pp_W) (K : pp_St), pp_sp g h ret P Y X (.getfield n9) (.inl (ci, k, 2 :: z2)) L st w K = (pp_r st (fun a st => w.1[a]? = some (ci, 0) ∧ K L (pp_rf (w.2.2.2 a k) :: st) w)))) ∧ ((∀ (n9 : Nat) (z0 : Nat) (z1 : Nat) (z2 : List Nat) (L : List (Nat × Value)) (st : List Value) (w : pp_W) (K : pp_St), pp_sp g h ret P Y X (.getfield n9) (.inl (z0, z1, 3 :: z2)) L st w K = (pp_r st (fun a st => (1 ≤ a ∧ a ≤ 15) ∧ K L (.ref (a + 15) :: st) w)))) ∧ ((∀ (n9 : Nat) (z0 : Nat) (z1 : Nat) (z2 : List Nat) (L : List (Nat × Value)) (st : List Value) (w : pp_W) (K : pp_St), pp_sp g h ret P Y X (.getfield n9) (.inl (z0, z1, 4 :: z2)) L st w K = (pp_r st (fun a st => (1 ≤ a ∧ a ≤ 15) ∧ K L (.int 0 :: st) w)))) ∧ ((∀ (n9 : Nat) (z1 : Nat) (z2 : List Nat) (L : List (Nat × Value)) (st : List Value) (w : pp_W) (K : pp_St), pp_sp g h ret P Y X (.getstatic n9) (.inl (0, z1, z2)) L st w K = (K L (.int 1 :: st) w))) ∧ ((∀ (n9 : Nat) (z1 : Nat) (z2 : List Nat) (L : List (Nat × Value)) (st : List Value) (w : pp_W) (K : pp_St), pp_sp g h ret P Y X (.getstatic n9) (.inl (1, z1, z2)) L st w K = (K L (.null :: st) w ∧ K L (.ref 31 :: st) w))) ∧ ((∀  (lk : pp_Lk) (L : List (Nat × Value)) (st : List Value) (w : pp_W) (K : pp_St), pp_sp g h ret P Y X (.i2c) (lk) L st w K = (pp_i st (fun x st => K L (.int (x.toUInt32 % 65536).toInt32 :: st) w)))) ∧ ((∀ (n9 : Nat) (ci : Nat) (k : Nat) (z2 : List Nat) (L : List (Nat × Value)) (st : List Value) (w : pp_W) (K : pp_St), pp_sp g h ret P Y X (.putfield n9) (.inl (ci, k, 0 :: z2)) L st w K = (pp_i st (fun x st => pp_r st (fun a st => w.1[a]? = some (ci, 0) ∧ K L st (w.1, pp_s w.2.1 a (va_up (w.2.1 a) k x), w.2.2)))))) ∧ ((∀ (n9 : Nat) (ci : Nat) (k : Nat) (z2 : List Nat) (L : List (Nat × Value)) (st : List Value) (w : pp_W) (K : pp_St), pp_sp g h ret P Y X (.putfield n9) (.inl (ci, k, 1 :: z2)) L st w K = (pp_j st (fun x st => pp_r st (fun a st => w.1[a]? = some (ci, 0) ∧ K L st (w.1, w.2.1, pp_s w.2.2.1 a (va_up (w.2.2.1 a) k x), w.2.2.2)))))) ∧ ((∀ (n9 : Nat) (ci : Nat) (k : Nat) (z2 : List Nat) (L : List (Nat × Value)) (st : List Value) (w : pp_W) (K : pp_St), pp_sp g h ret P Y X (.putfield n9) (.inl (ci, k, 2 :: z2)) L st w K = (pp_q st (fun x st => pp_r st (fun a st => w.1[a]? = some (ci, 0) ∧ K L st (w.1, w.2.1, w.2.2.1, pp_s w.2.2.2 a (va_up (w.2.2.2 a) k x))))))) ∧ ((∀  (z1 : Nat) (z2 : List Nat) (L : List (Nat × Value)) (st : List Value) (w : pp_W) (K : pp_St), pp_sp g h ret P Y X (.arraylength) (.inl (0, z1, z2)) L st w K = (pp_r st (fun a st => pp_al w a (fun n => K L (.int (Int32.ofNat n) :: st) w))))) ∧ ((∀  (z1 : Nat) (z2 : List Nat) (L : List (Nat × Value)) (st : List Value) (w : pp_W) (K : pp_St), pp_sp g h ret P Y X (.arraylength) (.inl (1, z1, z2)) L st w K = (pp_r st (fun a st => a = 0 ∧ K L (.int (Int32.ofNat (pp_sL g)) :: st) w)))) ∧ ((∀  (z1 : Nat) (z2 : List Nat) (L : List (Nat × Value)) (st : List Value) (w : pp_W) (K : pp_St), pp_sp g h ret P Y X (.arraylength) (.inl (2, z1, z2)) L st w K = (pp_r st (fun a st => (16 ≤ a ∧ a ≤ 30) ∧ K L (.int (Int32.ofNat (pp_txt.getD (a - 16) []).length) :: st) w)))) ∧ ((∀  (z1 : Nat) (z2 : List Nat) (L : List (Nat × Value)) (st : List Value) (w : pp_W) (K : pp_St), pp_sp g h ret P Y X (.iaload) (.inl (0, z1, z2)) L st w K = (pp_i st (fun j st => pp_r st (fun a st => pp_in w a 10 j (K L (.int (w.2.1 a j.toNatClampNeg) :: st) w)))))) ∧ ((∀  (z1 : Nat) (z2 : List Nat) (L : List (Nat × Value)) (st : List Value) (w : pp_W) (K : pp_St), pp_sp g h ret P Y X (.iaload) (.inl (1, z1, z2)) L st w K = (pp_i st (fun j st => pp_r st (fun a st => a = 0 ∧ vp_in j (pp_sL g) ∧ K L (.int (pp_sx g j.toNatClampNeg) :: st) w))))) ∧ ((∀  (z1 : Nat) (z2 : List Nat) (L : List (Nat × Value)) (st : List Value) (w : pp_W) (K : pp_St), pp_sp g h ret P Y X (.baload) (.inl (0, z1, z2)) L st w K = (pp_i st (fun j st => pp_r st (fun a st => pp_in w a 11 j (K L (.int (w.2.1 a j.toNatClampNeg) :: st) w)))))) ∧ ((∀  (z1 : Nat) (z2 : List Nat) (L : List (Nat × Value)) (st : List Value) (w : pp_W) (K : pp_St), pp_sp g h ret P Y X (.baload) (.inl (1, z1, z2)) L st w K = (pp_i st (fun j st => pp_r st (fun a st => pp_in w a 12 j (K L (.int (w.2.1 a j.toNatClampNeg) :: st) w)))))) ∧ ((∀  (z1 : Nat) (z2 : List Nat) (L : List (Nat × Value)) (st : List Value) (w : pp_W) (K : pp_St), pp_sp g h ret P Y X (.baload) (.inl (2, z1, z2)) L st w K = (pp_i st (fun j st => pp_r st (fun a st => (16 ≤ a ∧ a ≤ 30) ∧ vp_in j (pp_txt.getD (a - 16) []).length ∧ K L (.int ((pp_txt.getD (a - 16) []).getD j.toNatClampNeg 0) :: st) w))))) ∧ ((∀  (lk : pp_Lk) (L : List (Nat × Value)) (st : List Value) (w : pp_W) (K : pp_St), pp_sp g h ret P Y X (.laload) (lk) L st w K = (pp_i st (fun j st => pp_r st (fun a st => pp_in w a 13 j (K L (.long (w.2.2.1 a j.toNatClampNeg) :: st) w)))))) ∧ ((∀  (lk : pp_Lk) (L : List (Nat × Value)) (st : List Value) (w : pp_W) (K : pp_St), pp_sp g h ret P Y X (.aaload) (lk) L st w K = (pp_i st (fun j st => pp_r st (fun a st => pp_in w a 14 j (K L (pp_rf (w.2.2.2 a j.toNatClampNeg) :: st) w)))))) ∧ ((∀  (lk : pp_Lk) (L : List (Nat × Value)) (st : List Value) (w : pp_W) (K : pp_St), pp_sp g h ret P Y X (.iastore) (lk) L st w K = (pp_i st (fun x st => pp_i st (fun j st => pp_r st (fun a st => pp_in w a 10 j (K L st (w.1, pp_s w.2.1 a (va_up (w.2.1 a) j.toNatClampNeg x), w.2.2)))))))) ∧ ((∀  (z1 : Nat) (z2 : List Nat) (L : List (Nat × Value)) (st : List Value) (w : pp_W) (K : pp_St), pp_sp g h ret P Y X (.bastore) (.inl (0, z1, z2)) L st w K = (pp_i st (fun x st => pp_i st (fun j st => pp_r st (fun a st => pp_in w a 11 j (K L st (w.1, pp_s w.2.1 a (va_up (w.2.1 a) j.toNatClampNeg x.toInt8.toInt32), w.2.2)))))))) ∧ ((∀  (z1 : Nat) (z2 : List Nat) (L : List (Nat × Value)) (st : List Value) (w : pp_W) (K : pp_St), pp_sp g h ret P Y X (.bastore) (.inl (1, z1, z2)) L st w K = (pp_i st (fun x st => pp_i st (fun j st => pp_r st (fun a st => pp_in w a 12 j ((x = 0 ∨ x = 1) ∧ K L st (w.1, pp_s w.2.1 a (va_up (w.2.1 a) j.toNatClampNeg x), w.2.2)))))))) ∧ ((∀  (lk : pp_Lk) (L : List (Nat × Value)) (st : List Value) (w : pp_W) (K : pp_St), pp_sp g h ret P Y X (.lastore) (lk) L st w K = (pp_j st (fun x st => pp_i st (fun j st => pp_r st (fun a st => pp_in w a 13 j (K L st (w.1, w.2.1, pp_s w.2.2.1 a (va_up (w.2.2.1 a) j.toNatClampNeg x), w.2.2.2)))))))) ∧ ((∀  (lk : pp_Lk) (L : List (Nat × Value)) (st : List Value) (w : pp_W) (K : pp_St), pp_sp g h ret P Y X (.aastore) (lk) L st w K = (pp_q st (fun x st => pp_i st (fun j st => pp_r st (fun a st => pp_in w a 14 j ((∀ b, x = some b → w.1[b]? = some (4, 0)) ∧ K L st (w.1, w.2.1, w.2.2.1, pp_s w.2.2.2 a (va_up (w.2.2.2 a) j.toNatClampNeg x))))))))) ∧ ((∀ (n9 : Nat) (ci : Nat) (z1 : Nat) (z2 : List Nat) (L : List (Nat × Value)) (st : List Value) (w : pp_W) (K : pp_St), pp_sp g h ret P Y X (.new n9) (.inl (ci, z1, z2)) L st w K = (K L (.ref w.1.length :: st) (pp_nw w (ci, 0))))) ∧ ((∀ (n9 : ArrayType) (t : Nat) (n : Nat) (z2 : List Nat) (L : List (Nat × Value)) (st : List Value) (w : pp_W) (K : pp_St), pp_sp g h ret P Y X (.newarray n9) (.inl (t, n, z2)) L st w K = (pp_i st (fun x st => x = Int32.ofNat n ∧ K L (.ref w.1.length :: st) (pp_nw w (t, n)))))) ∧ ((∀ (n9 : Nat) (z0 : Nat) (n : Nat) (z2 : List Nat) (L : List (Nat × Value)) (st : List Value) (w : pp_W) (K : pp_St), pp_sp g h ret P Y X (.anewarray n9) (.inl (z0, n, z2)) L st w K = (pp_i st (fun x st => x = Int32.ofNat n ∧ K L (.ref w.1.length :: st) (pp_nw w (14, n)))))) ∧ ((∀ (n9 : Nat) (q0 : Nat × Nat × List Nat) (L : List (Nat × Value)) (st : List Value) (w : pp_W) (K : pp_St), pp_sp g h ret P Y X (.invokespecial n9) (.inl q0) L st w K = (pp_r st (fun _ st => st.length ≤ 4 ∧ K L st w)))) ∧ ((∀ (n9 : Nat) (mj : pp_MI) (ci z2 : Nat) (l : List Nat) (L : List (Nat × Value)) (st : List Value) (w : pp_W) (K : pp_St), pp_sp g h ret P Y X (.invokespecial n9) (.inr (.inl (mj, ci, z2, l))) L st w K = (pp_args l [] st (fun av st => st.length ≤ 4 ∧ pp_r av (fun _ _ => True) ∧ pp_MW g h mj av w (pp_kr K Y L st))))) ∧ ((∀ (n9 : Nat) (mj : pp_MI) (ci z2 : Nat) (l : List Nat) (L : List (Nat × Value)) (st : List Value) (w : pp_W) (K : pp_St), pp_sp g h ret P Y X (.invokevirtual n9) (.inr (.inl (mj, ci, z2, 0 :: l))) L st w K = (pp_args (0 :: l) [] st (fun av st => st.length ≤ 4 ∧ pp_r av (fun b _ => w.1[b]? = some (ci, 0)) ∧ pp_MW g h mj av w (pp_kr K Y L st))))) ∧ ((∀ (n9 : Nat) (mj : pp_MI) (ci z2 : Nat) (l : List Nat) (L : List (Nat × Value)) (st : List Value) (w : pp_W) (K : pp_St), pp_sp g h ret P Y X (.invokevirtual n9) (.inr (.inl (mj, ci, z2, 1 :: l))) L st w K = (pp_args (1 :: l) [] st (fun av st => st.length ≤ 4 ∧ pp_r av (fun b _ => 1 ≤ b ∧ b ≤ 15) ∧ pp_MW g h mj av w (pp_kr K Y L st))))) ∧ ((∀ (n9 : Nat) (z1 : Nat) (z2 : List Nat) (L : List (Nat × Value)) (st : List Value) (w : pp_W) (K : pp_St), pp_sp g h ret P Y X (.invokestatic n9) (.inl (0, z1, z2)) L st w K = (pp_i st (fun n st => pp_i st (fun dp st => pp_r st (fun b st => pp_i st (fun sp st => pp_r st (fun a st => st.length ≤ 4 ∧ ¬ sp < 0 ∧ ¬ dp < 0 ∧ ¬ n < 0 ∧ pp_al w a (fun n0 => sp.toNatClampNeg + n.toNatClampNeg ≤ n0) ∧ pp_al w b (fun n1 => dp.toNatClampNeg + n.toNatClampNeg ≤ n1) ∧
        w.1[a]?.map Prod.fst = some 10 ∧ w.1[b]?.map Prod.fst = some 10 ∧ K L st (w.1, pp_s w.2.1 b (va_cpy (w.2.1 a) (w.2.1 b) sp.toNatClampNeg dp.toNatClampNeg n.toNatClampNeg), w.2.2))))))))) ∧ ((∀ (n9 : Nat) (z1 : Nat) (z2 : List Nat) (L : List (Nat × Value)) (st : List Value) (w : pp_W) (K : pp_St), pp_sp g h ret P Y X (.invokestatic n9) (.inl (1, z1, z2)) L st w K = (pp_i st (fun n st => pp_i st (fun dp st => pp_r st (fun b st => pp_i st (fun sp st => pp_r st (fun a st => st.length ≤ 4 ∧ ¬ sp < 0 ∧ ¬ dp < 0 ∧ ¬ n < 0 ∧ pp_al w a (fun n0 => sp.toNatClampNeg + n.toNatClampNeg ≤ n0) ∧ pp_al w b (fun n1 => dp.toNatClampNeg + n.toNatClampNeg ≤ n1) ∧
        w.1[a]?.map Prod.fst = some 13 ∧ w.1[b]?.map Prod.fst = some 13 ∧ K L st (w.1, w.2.1, pp_s w.2.2.1 b (va_cpy (w.2.2.1 a) (w.2.2.1 b) sp.toNatClampNeg dp.toNatClampNeg n.toNatClampNeg), w.2.2.2))))))))) ∧ ((∀ (n9 : Nat) (z1 : Nat) (z2 : List Nat) (L : List (Nat × Value)) (st : List Value) (w : pp_W) (K : pp_St), pp_sp g h ret P Y X (.invokestatic n9) (.inl (2, z1, z2)) L st w K = (pp_i st (fun y st => pp_i st (fun x st => st.length ≤ 4 ∧ K L (.int (if y < x then y else x) :: st) w))))) ∧ ((∀ (n9 : Nat) (z1 : Nat) (z2 : List Nat) (L : List (Nat × Value)) (st : List Value) (w : pp_W) (K : pp_St), pp_sp g h ret P Y X (.invokestatic n9) (.inl (3, z1, z2)) L st w K = (pp_i st (fun y st => pp_i st (fun x st => st.length ≤ 4 ∧ K L (.int (if x < y then y else x) :: st) w))))) ∧ ((∀ (n9 : Nat) (z1 : Nat) (z2 : List Nat) (L : List (Nat × Value)) (st : List Value) (w : pp_W) (K : pp_St), pp_sp g h ret P Y X (.invokestatic n9) (.inl (4, z1, z2)) L st w K = (pp_j st (fun y st => pp_j st (fun x st => st.length ≤ 4 ∧ K L (.long (if y < x then y else x) :: st) w))))) ∧ ((∀ (n9 : Nat) (mj : pp_MI) (ci z2 : Nat) (l : List Nat) (L : List (Nat × Value)) (st : List Value) (w : pp_W) (K : pp_St), pp_sp g h ret P Y X (.invokestatic n9) (.inr (.inl (mj, ci, z2, l))) L st w K = (pp_args l [] st (fun av st => st.length ≤ 4 ∧ pp_MW g h mj av w (pp_kr K Y L st))))) ∧ ((∀  (lk : pp_Lk) (x : Int32) (L : List (Nat × Value)) (w : pp_W) (K : pp_St), pp_sp g h ret P Y X (.ireturn) (lk) L [.int x] w K = (pp_rok ret x ∧ P (.inl (some (.int x))) w))) ∧ ((∀  (lk : pp_Lk) (x : Int64) (L : List (Nat × Value)) (w : pp_W) (K : pp_St), pp_sp g h ret P Y X (.lreturn) (lk) L [.long x] w K = (P (.inl (some (.long x))) w))) ∧ ((∀  (lk : pp_Lk) (L : List (Nat × Value)) (w : pp_W) (K : pp_St), pp_sp g h ret P Y X (.return_) (lk) L [] w K = (P (.inl none) w))) ∧ ((∀  (e : Nat) (z1 : Nat) (z2 : List Nat) (L : List (Nat × Value)) (st : List Value) (w : pp_W) (K : pp_St), pp_sp g h ret P Y X (.athrow) (.inl (e, z1, z2)) L st w K = (st.length ≤ 4 ∧ ∀ k : Nat, P (.inr ((pp_exs.getD e ("", 0, 0)).1)) (w.1 ++ List.replicate k (15, 0), w.2)))) := ⟨sx_0 g h ret P Y X, sx_1 g h ret P Y X, sx_2 g h ret P Y X, sx_3 g h ret P Y X, sx_4 g h ret P Y X, sx_5 g h ret P Y X, sx_6 g h ret P Y X, sx_7 g h ret P Y X, sx_8 g h ret P Y X, sx_9 g h ret P Y X, sx_10 g h ret P Y X, sx_11 g h ret P Y X, sx_12 g h ret P Y X, sx_13 g h ret P Y X, sx_14 g h ret P Y X, sx_15 g h ret P Y X, sx_16 g h ret P Y X, sx_17 g h ret P Y X, sx_18 g h ret P Y X, sx_19 g h ret P Y X, sx_20 g h ret P Y X, sx_21 g h ret P Y X, sx_22 g h ret P Y X, sx_23 g h ret P Y X, sx_24 g h ret P Y X, sx_25 g h ret P Y X, sx_26 g h ret P Y X, sx_27 g h ret P Y X, sx_28 g h ret P Y X, sx_29 g h ret P Y X, sx_30 g h ret P Y X, sx_31 g h ret P Y X, sx_32 g h ret P Y X, sx_33 g h ret P Y X, sx_34 g h ret P Y X, sx_35 g h ret P Y X, sx_36 g h ret P Y X, sx_37 g h ret P Y X, sx_38 g h ret P Y X, sx_39 g h ret P Y X, sx_40 g h ret P Y X, sx_41 g h ret P Y X, sx_42 g h ret P Y X, sx_43 g h ret P Y X, sx_44 g h ret P Y X, sx_45 g h ret P Y X, sx_46 g h ret P Y X, sx_47 g h ret P Y X, sx_48 g h ret P Y X, sx_49 g h ret P Y X, sx_50 g h ret P Y X, sx_51 g h ret P Y X, sx_52 g h ret P Y X, sx_53 g h ret P Y X, sx_54 g h ret P Y X, sx_55 g h ret P Y X, sx_56 g h ret P Y X, sx_57 g h ret P Y X, sx_58 g h ret P Y X, sx_59 g h ret P Y X, sx_60 g h ret P Y X, sx_61 g h ret P Y X, sx_62 g h ret P Y X, sx_63 g h ret P Y X, sx_64 g h ret P Y X, sx_65 g h ret P Y X, sx_66 g h ret P Y X, sx_67 g h ret P Y X, sx_68 g h ret P Y X, sx_69 g h ret P Y X, sx_70 g h ret P Y X, sx_71 g h ret P Y X, sx_72 g h ret P Y X, sx_73 g h ret P Y X, sx_74 g h ret P Y X, sx_75 g h ret P Y X, sx_76 g h ret P Y X, sx_77 g h ret P Y X, sx_78 g h ret P Y X, sx_79 g h ret P Y X, sx_80 g h ret P Y X, sx_81 g h ret P Y X, sx_82 g h ret P Y X, sx_83 g h ret P Y X, sx_84 g h ret P Y X, sx_85 g h ret P Y X, sx_86 g h ret P Y X, sx_87 g h ret P Y X, sx_88 g h ret P Y X, sx_89 g h ret P Y X, sx_90 g h ret P Y X, sx_91 g h ret P Y X, sx_92 g h ret P Y X, sx_93 g h ret P Y X, sx_94 g h ret P Y X, sx_95 g h ret P Y X, sx_96 g h ret P Y X⟩
end Sx
theorem sw_c (g : pp_G) (h : Nat) (ret : Option FieldType) (P : pp_R → pp_W → Prop) (Y : String → pp_W → Prop) (X : Nat → pp_St) (e : Nat) (i : Instr) (lk : pp_Lk) (s : pp_Seg) (L : List (Nat × Value)) (st : List Value) (w : pp_W) : pp_wp g h ret P Y X e ((i, lk) :: s) L st w = pp_sp g h ret P Y X i lk L st w (pp_wp g h ret P Y X e s) := rfl
theorem sw_n (g : pp_G) (h : Nat) (ret : Option FieldType) (P : pp_R → pp_W → Prop) (Y : String → pp_W → Prop) (X : Nat → pp_St) (e : Nat) (L : List (Nat × Value)) (st : List Value) (w : pp_W) : pp_wp g h ret P Y X e [] L st w = X e L st w := rfl
theorem sf_4 : ((0 : Fin 4).val = 0) ∧ ((1 : Fin 4).val = 1) ∧ ((2 : Fin 4).val = 2) ∧ ((3 : Fin 4).val = 3) := ⟨rfl, rfl, rfl, rfl⟩
theorem sv_i (x : Int32) (st : List Value) (k : Int32 → List Value → Prop) : pp_i (.int x :: st) k = k x st := rfl
theorem sv_j (x : Int64) (st : List Value) (k : Int64 → List Value → Prop) : pp_j (.long x :: st) k = k x st := rfl
theorem sv_r (x : Nat) (st : List Value) (k : Nat → List Value → Prop) : pp_r (.ref x :: st) k = k x st := rfl
theorem sv_q1 (x : Nat) (st : List Value) (k : Option Nat → List Value → Prop) : pp_q (.ref x :: st) k = k (some x) st := rfl
theorem sv_q0 (st : List Value) (k : Option Nat → List Value → Prop) : pp_q (.null :: st) k = k none st := rfl
theorem sv_1i (x : Int32) (st : List Value) (k : Value → List Value → Prop) : pp_1 (.int x :: st) k = k (.int x) st := by simp [pp_1, pp_wide]
theorem sv_1r (x : Nat) (st : List Value) (k : Value → List Value → Prop) : pp_1 (.ref x :: st) k = k (.ref x) st := by simp [pp_1, pp_wide]
theorem sv_2 (x : Int64) (st : List Value) (k : Value → List Value → Prop) : pp_2 (.long x :: st) k = k (.long x) st := by simp [pp_2, pp_wide]
def pp_iv (v : Value) (k : Int32 → Prop) : Prop := match v with
  | .int x => k x
  | _ => False
def pp_jv (v : Value) (k : Int64 → Prop) : Prop := match v with
  | .long x => k x
  | _ => False
def pp_av (v : Value) (k : Value → Prop) : Prop := match v with
  | .ref x => k (.ref x)
  | .null => k .null
  | _ => False
theorem sl_i (j : Nat) (v : Value) (L : List (Nat × Value)) (i : Nat) (k : Int32 → Prop) : pp_li ((j, v) :: L) i k = if i = j then pp_iv v k else pp_li L i k := by
  unfold pp_li
  rw [List.lookup_cons]
  by_cases e : i = j
  · subst e
    simp only [BEq.rfl, if_true]
    cases v <;> rfl
  · have e2 : (i == j) = false := by simpa using e
    rw [e2, if_neg e]
theorem sl_j (j : Nat) (v : Value) (L : List (Nat × Value)) (i : Nat) (k : Int64 → Prop) : pp_lj ((j, v) :: L) i k = if i = j then pp_jv v k else pp_lj L i k := by
  unfold pp_lj
  rw [List.lookup_cons]
  by_cases e : i = j
  · subst e
    simp only [BEq.rfl, if_true]
    cases v <;> rfl
  · have e2 : (i == j) = false := by simpa using e
    rw [e2, if_neg e]
theorem sl_a (j : Nat) (v : Value) (L : List (Nat × Value)) (i : Nat) (k : Value → Prop) : pp_la ((j, v) :: L) i k = if i = j then pp_av v k else pp_la L i k := by
  unfold pp_la
  rw [List.lookup_cons]
  by_cases e : i = j
  · subst e
    simp only [BEq.rfl, if_true]
    cases v <;> rfl
  · have e2 : (i == j) = false := by simpa using e
    rw [e2, if_neg e]
theorem sl_v : (∀ (x : Int32) (k : Int32 → Prop), pp_iv (.int x) k = k x) ∧ (∀ (y : Int64) (k : Int64 → Prop), pp_jv (.long y) k = k y) ∧ (∀ (a : Nat) (k : Value → Prop), pp_av (.ref a) k = k (.ref a)) ∧ (∀ (k : Value → Prop), pp_av .null k = k .null) := ⟨fun _ _ => rfl, fun _ _ => rfl, fun _ _ => rfl, fun _ => rfl⟩
def pp_f1 (i : Nat) (L : List (Nat × Value)) : List (Nat × Value) := L.filter (fun q => !(q.1 == i) && !(q.1 + 1 == i && pp_wide q.2))
def pp_f2 (i : Nat) (L : List (Nat × Value)) : List (Nat × Value) := L.filter (fun q => !(q.1 == i) && (!(q.1 == i + 1) && !(q.1 + 1 == i && pp_wide q.2)))
theorem sp_f1 : (∀ i : Nat, pp_f1 i [] = []) ∧ (∀ (i j : Nat) (v : Value) (L : List (Nat × Value)), pp_f1 i ((j, v) :: L) = if j = i then pp_f1 i L else if j + 1 = i ∧ pp_wide v = true then pp_f1 i L else (j, v) :: pp_f1 i L) := by
  refine ⟨fun _ => rfl, fun i j v L => ?_⟩
  unfold pp_f1
  rw [List.filter_cons]
  by_cases a : j = i
  · simp [a]
  · by_cases b : j + 1 = i ∧ pp_wide v = true
    · simp [a, b.1, b.2]
    · rw [if_neg a, if_neg b, if_pos]
      simp [a]
      by_cases z : j + 1 = i
      · exact Or.inr (by cases hv : pp_wide v with | true => exact absurd ⟨z, hv⟩ b | false => rfl)
      · exact Or.inl z
theorem sp_f2 : (∀ i : Nat, pp_f2 i [] = []) ∧ (∀ (i j : Nat) (v : Value) (L : List (Nat × Value)), pp_f2 i ((j, v) :: L) = if j = i then pp_f2 i L else if j = i + 1 then pp_f2 i L else if j + 1 = i ∧ pp_wide v = true then pp_f2 i L else (j, v) :: pp_f2 i L) := by
  refine ⟨fun _ => rfl, fun i j v L => ?_⟩
  unfold pp_f2
  rw [List.filter_cons]
  by_cases a : j = i
  · simp [a]
  · by_cases c : j = i + 1
    · simp [c]
    · by_cases b : j + 1 = i ∧ pp_wide v = true
      · simp [a, c, b.1, b.2]
      · rw [if_neg a, if_neg c, if_neg b, if_pos]
        simp [a, c]
        by_cases z : j + 1 = i
        · exact Or.inr (by cases hv : pp_wide v with | true => exact absurd ⟨z, hv⟩ b | false => rfl)
        · exact Or.inl z
theorem sp_p : (∀ (i : Nat) (v : Value) (L : List (Nat × Value)), pp_put1 i v L = pp_ins i v (pp_f1 i L)) ∧ (∀ (i : Nat) (v : Value) (L : List (Nat × Value)), pp_put2 i v L = pp_ins i v (pp_f2 i L)) ∧ (∀ (i : Nat) (v : Value), pp_ins i v [] = [(i, v)]) ∧ (∀ (i j : Nat) (v u : Value) (L : List (Nat × Value)), pp_ins i v ((j, u) :: L) = if j < i then (j, u) :: pp_ins i v L else (i, v) :: (j, u) :: L) := ⟨fun _ _ _ => rfl, fun _ _ _ => rfl, fun _ _ => rfl, fun _ _ _ _ _ => rfl⟩
theorem sc_w : (∀ x : Int32, pp_wide (.int x) = false) ∧ (∀ y : Int64, pp_wide (.long y) = true) ∧ (∀ a : Nat, pp_wide (.ref a) = false) ∧ (pp_wide .null = false) := ⟨fun _ => rfl, fun _ => rfl, fun _ => rfl, rfl⟩
theorem sc_c (x y : Int32) : (pp_cond .eq x y = (x = y)) ∧ (pp_cond .ne x y = ¬ x = y) ∧ (pp_cond .lt x y = (x < y)) ∧ (pp_cond .ge x y = (y ≤ x)) ∧ (pp_cond .gt x y = (y < x)) ∧ (pp_cond .le x y = (x ≤ y)) ∧ (pp_ncond .eq x y = ¬ x = y) ∧ (pp_ncond .ne x y = (x = y)) ∧ (pp_ncond .lt x y = ¬ x < y) ∧ (pp_ncond .ge x y = ¬ y ≤ x) ∧ (pp_ncond .gt x y = ¬ y < x) ∧ (pp_ncond .le x y = ¬ x ≤ y) := ⟨rfl, rfl, rfl, rfl, rfl, rfl, rfl, rfl, rfl, rfl, rfl, rfl⟩
theorem sc_r (x : Int32) : (pp_rok (some .int) x = True) ∧ (pp_rok (some .boolean) x = (x = 0 ∨ x = 1)) := ⟨rfl, rfl⟩
theorem sc_f : (pp_rf none = .null) ∧ (∀ a : Nat, pp_rf (some a) = .ref a) := ⟨rfl, fun _ => rfl⟩
theorem sc_a : (∀ (acc st : List Value) (k : List Value → List Value → Prop), pp_args [] acc st k = k acc st) ∧ (∀ (a : Nat) (l : List Nat) (v : Value) (acc st : List Value) (k : List Value → List Value → Prop), pp_args (a :: l) acc (v :: st) k = pp_args l (v :: acc) st k) := ⟨fun _ _ _ => rfl, fun _ _ _ _ _ _ => rfl⟩
theorem sc_k (K : pp_St) (Y : String → pp_W → Prop) (L : List (Nat × Value)) (st : List Value) (w : pp_W) : (pp_kr K Y L st (.inl none) w = K L st w) ∧ (∀ v : Value, pp_kr K Y L st (.inl (some v)) w = K L (v :: st) w) ∧ (∀ E : String, pp_kr K Y L st (.inr E) w = Y E w) := ⟨rfl, fun _ => rfl, fun _ => rfl⟩
theorem sc_s (X : Nat → Prop) (x : Int32) (lo : Int) : (pp_sw X x lo [] = True) ∧ (∀ (t : Nat) (ts : List Nat), pp_sw X x lo (t :: ts) = ((x = Int32.ofInt lo → X t) ∧ pp_sw X x (lo + 1) ts)) := ⟨rfl, fun _ _ => rfl⟩
theorem sn_i : ((0 : Int32).toNatClampNeg = 0) ∧ ((1 : Int32).toNatClampNeg = 1) ∧ ((2 : Int32).toNatClampNeg = 2) ∧ ((3 : Int32).toNatClampNeg = 3) ∧ ((4 : Int32).toNatClampNeg = 4) ∧ ((5 : Int32).toNatClampNeg = 5) ∧ ((6 : Int32).toNatClampNeg = 6) ∧ ((7 : Int32).toNatClampNeg = 7) ∧ ((8 : Int32).toNatClampNeg = 8) := by decide
theorem pp_st0 {g : pp_G} {h : Nat} {mi : pp_MI} {P : pp_R → pp_W → Prop} {av : List Value} {w : pp_W} (L : List (Nat × Value)) (hok : pp_MIok mi) (hh : mi.hh = []) (hl : (lg_sl av).length ≤ mi.nL) (hL : lv_args 0 av = L) (k : pp_N g h mi P 0 L [] w) : pp_MW g (h + 1) mi av w P := pp_start hok hh hl (by rw [hL]; exact k)
