/-! THE ENGINE, 10: what is checked of a listing, by program -/
def pp_w (i : Nat) (w : Cond) : Bool := decide (lw_tbl[i]? = some w) && pp_ok w
theorem pp_w_in {i : Nat} {w : Cond} (h : pp_w i w = true) : w ∈ pp_T := by
  simp only [pp_w, Bool.and_eq_true, decide_eq_true_eq] at h
  exact pp_mem i h.1 h.2
def pp_len (i : Instr) (lk : pp_Lk) : Nat := match i with
  | .aload _ | .iload _ | .lload _ | .istore _ | .lstore _ | .astore _ | .bipush _ | .ldc _ | .newarray _ => 2
  | .sipush _ | .ldc_w _ | .ldc2_w _ | .iinc _ _ | .ifCond _ _ | .if_icmp _ _ | .goto _ | .ifnull _ | .ifnonnull _ | .getfield _ | .getstatic _ | .putfield _ | .new _ | .anewarray _ | .invokespecial _ | .invokevirtual _ | .invokestatic _ => 3
  | .tableswitch _ _ _ _ => match lk with
    | .inl (_, n, _) => n
    | _ => 1
  | .athrow => match lk with
    | .inl (_, _, 0 :: _) => 10
    | _ => 11
  | _ => 1
def pp_cs (i : Instr) (lk : pp_Lk) (c : Nat × Nat) : Nat × Nat := match i with
  | .new _ | .newarray _ | .anewarray _ => match lk with
    | .inl (_, n, _) => (c.1 + 1, c.2 + n)
    | _ => c
  | .invokespecial _ | .invokevirtual _ | .invokestatic _ => match lk with
    | .inr (.inl (mj, _, _, _)) => (c.1 + mj.mc, c.2 + mj.ms)
    | _ => c
  | _ => c
def pp_le (a b : Nat × Nat) : Bool := a.1.ble b.1 && a.2.ble b.2
theorem pp_le_1 {a b : Nat × Nat} (h : pp_le a b = true) : a.1 ≤ b.1 ∧ a.2 ≤ b.2 := by
  simp only [pp_le, Bool.and_eq_true] at h
  exact ⟨Nat.le_of_ble_eq_true h.1, Nat.le_of_ble_eq_true h.2⟩
def pp_tgt (mi : pp_MI) (pc : Nat) (c : Nat × Nat) (off : Int) (t : Nat) : Bool := decide ((pc : Int) + off = (t : Int)) && pp_le c (pp_cnt mi t)
def pp_fl (mi : pp_MI) (idx ci k t p : Nat) (put : Bool) : Bool := match pp_cl[ci]? with
  | some r => decide (k < r.2.2) && decide (pp_fk ci k = t) && pp_w p (.fieldLink mi.y.cls idx (r.2.1 k).1 (r.2.1 k).2.1 (r.2.1 k).2.2.1) && (!put || !(r.2.1 k).2.2.2 || (decide (mi.y.name = "<init>") && decide ((r.2.1 k).1 = mi.y.cls)))
  | none => false
def pp_atk (a : ArrayType) : Nat := match a with
  | .int => 10
  | .byte => 11
  | .boolean => 12
  | .long => 13
  | _ => 99
def pp_call (mi mj : pp_MI) (c : Nat × Nat) (idx p kd n : Nat) : Bool := decide (mj.kd = kd) && decide (n = mj.np) && pp_w p (.methodLink mi.y.cls idx mj.y) && pp_le (c.1 + mj.mc, c.2 + mj.ms) (mi.mc, mi.ms)
def pp_hok (mi : pp_MI) (pc : Nat) : Bool := mi.hh.all (fun q => q.1.ble pc && pc.blt q.2.1)
def pp_stt (mi : pp_MI) (pc : Nat) (c : Nat × Nat) (i : Instr) (lk : pp_Lk) : Bool := match i with
  | .iconst n => match lk with
    | .inr (.inr (.int v, _)) => decide (Int32.ofInt n = v)
    | _ => false
  | .bipush n => match lk with
    | .inr (.inr (.int v, _)) => decide ((Int8.ofInt n).toInt32 = v)
    | _ => false
  | .sipush n => match lk with
    | .inr (.inr (.int v, _)) => decide ((Int16.ofInt n).toInt32 = v)
    | _ => false
  | .lconst n => match lk with
    | .inr (.inr (.long v, _)) => decide (Int64.ofNat (n : Nat) = v)
    | _ => false
  | .ldc n => match lk with
    | .inr (.inr (.int v, p)) => pp_w p (.constant mi.y.cls n v)
    | .inr (.inr (.ref k, p)) => match pp_strs[p]? with
      | some q => decide (q.1 = mi.y.cls) && decide (q.2.1 = n) && decide (q.2.2.2 = k) && k.blt 64
      | none => false
    | _ => false
  | .ldc_w n => match lk with
    | .inr (.inr (.int v, p)) => pp_w p (.constant mi.y.cls n v)
    | _ => false
  | .ldc2_w n => match lk with
    | .inr (.inr (.long v, p)) => pp_w p (.constantLong mi.y.cls n v)
    | _ => false
  | .istore k | .astore k => k.blt mi.nL
  | .istore_n k | .astore_n k => k.val.blt mi.nL
  | .lstore k => (k + 1).blt mi.nL
  | .lstore_n k => (k.val + 1).blt mi.nL
  | .iinc k n => match lk with
    | .inr (.inr (.int v, _)) => decide (Int32.ofInt n = v) && k.blt mi.nL
    | _ => false
  | .ifCond _ o | .if_icmp _ o | .goto o | .ifnull o | .ifnonnull o => match lk with
    | .inl (t, _, _) => pp_tgt mi pc c o t
    | _ => false
  | .tableswitch d lo hi offs => match lk with
    | .inl (td, _, ts) => pp_tgt mi pc c d td && decide (hi + 1 = lo + ts.length) && decide (offs.toList.map (fun o => (pc : Int) + o) = ts.map Int.ofNat) && ts.all (fun t => pp_le c (pp_cnt mi t))
    | _ => false
  | .getfield n => match lk with
    | .inl (_, _, 3 :: p :: _) => pp_w p (.fieldLink mi.y.cls n "java/lang/String" "value" "[B")
    | .inl (_, _, 4 :: p :: _) => pp_w p (.fieldLink mi.y.cls n "java/lang/String" "coder" "B")
    | .inl (ci, k, t :: p :: _) => pp_fl mi n ci k t p false
    | _ => false
  | .getstatic n => match lk with
    | .inl (0, p, _) => pp_w p (.fieldLink mi.y.cls n "java/lang/String" "COMPACT_STRINGS" "Z")
    | .inl (1, p, _) => pp_w p (.fieldLink mi.y.cls n "jdk/internal/util/Preconditions" "SIOOBE_FORMATTER" "Ljava/util/function/BiFunction;")
    | _ => false
  | .putfield n => match lk with
    | .inl (ci, k, t :: p :: _) => pp_fl mi n ci k t p true
    | _ => false
  | .arraylength | .iaload => match lk with
    | .inl (0, _, _) => true
    | .inl (1, _, _) => decide (mi.y = yL_law)
    | .inl (2, _, _) => true
    | _ => false
  | .new n => match lk with
    | .inl (ci, k, p :: _) => match pp_cl[ci]? with
      | some r => decide (r.2.2 = k) && pp_w p (.classLink mi.y.cls n r.1) && pp_le (c.1 + 1, c.2 + k) (mi.mc, mi.ms)
      | none => false
    | _ => false
  | .newarray a => match lk with
    | .inl (t, k, _) => decide (pp_atk a = t) && t.blt 15 && k.blt 100000 && pp_le (c.1 + 1, c.2 + k) (mi.mc, mi.ms)
    | _ => false
  | .anewarray n => match lk with
    | .inl (_, k, p :: _) => pp_w p (.classLink mi.y.cls n RX4) && k.blt 100000 && pp_le (c.1 + 1, c.2 + k) (mi.mc, mi.ms)
    | _ => false
  | .invokespecial n => match lk with
    | .inl (p, _, _) => pp_w p (.methodLink mi.y.cls n Lib.objectInit)
    | .inr (.inl (mj, _, p, l)) => pp_call mi mj c n p 2 (l.length - 1) && !l.isEmpty && mj.hh.isEmpty && pp_hok mi pc
    | _ => false
  | .invokevirtual n => match lk with
    | .inr (.inl (mj, ci, p, 0 :: l)) => pp_call mi mj c n p 1 l.length && mj.hh.isEmpty && pp_hok mi pc && (match pp_cl[ci]? with
      | some r => decide (r.1 = mj.y.cls)
      | none => false)
    | .inr (.inl (mj, _, p, 1 :: l)) => pp_call mi mj c n p 1 l.length && mj.hh.isEmpty && pp_hok mi pc && decide (mj.y.cls = "java/lang/String")
    | _ => false
  | .invokestatic n => match lk with
    | .inl (0, p, _) => pp_w p (.methodLink mi.y.cls n arraycopyName)
    | .inl (1, p, _) => pp_w p (.methodLink mi.y.cls n arraycopyName)
    | .inl (2, p, _) => pp_w p (.methodLink mi.y.cls n Lib.Math.min.name) && pp_le c (mi.mc, mi.ms)
    | .inl (3, p, _) => pp_w p (.methodLink mi.y.cls n Lib.Math.max.name) && pp_le c (mi.mc, mi.ms)
    | .inl (4, p, _) => pp_w p (.methodLink mi.y.cls n Lib.MathLoose.min_long.x) && pp_le c (mi.mc, mi.ms)
    | .inr (.inl (mj, k, p, l)) => if k = 9999 then decide (mi.y.cls = RX0) && decide (mj.y = yX8_pairOf) && decide (n = 19) && decide (mj.kd = 0) && mj.hh.isEmpty && decide (l.length = mj.np) && pp_le (c.1 + mj.mc, c.2 + mj.ms) (mi.mc, mi.ms) && pp_hok mi pc
      else pp_call mi mj c n p 0 l.length && pp_hok mi pc
    | _ => false
  | .ireturn => pp_le c (mi.mc, mi.ms)
  | .lreturn => pp_le c (mi.mc, mi.ms) && decide (mi.ret = some .long)
  | .return_ => pp_le c (mi.mc, mi.ms) && decide (mi.ret = none)
  | _ => true
/-- the listing of a method from pc on; its counts -/
def pp_chk (mi : pp_MI) (e : Nat) : Nat → Nat × Nat → pp_Seg → Bool
  | pc, c, [] => decide (pc = e) && pp_le c (pp_cnt mi e)
  | pc, c, q :: s => match q.1 with
    | .athrow => match q.2 with
      | .inl (x, is, wd :: mp :: _) => match pp_exs[x]?, pp_msgs[mp]? with
        | some z, some y => decide (mi.y.cls = RX8) && decide (y.1 = is) && mi.hh.isEmpty && pp_le (c.1 + 1, c.2 + 6) (mi.mc, mi.ms) && decide (decode mi.by_ pc = .ok (.new z.2.1, 3)) && decide (decode mi.by_ (pc + 3) = .ok (.dup, 1)) &&
          (if wd = 0 then decide (decode mi.by_ (pc + 4) = .ok (.ldc is, 2)) && decide (decode mi.by_ (pc + 6) = .ok (.invokespecial z.2.2, 3)) && decide (decode mi.by_ (pc + 9) = .ok (.athrow, 1))
           else decide (decode mi.by_ (pc + 4) = .ok (.ldc_w is, 3)) && decide (decode mi.by_ (pc + 7) = .ok (.invokespecial z.2.2, 3)) && decide (decode mi.by_ (pc + 10) = .ok (.athrow, 1)))
        | _, _ => false
      | _ => false
    | i => decide (decode mi.by_ pc = .ok (i, pp_len i q.2)) && pp_stt mi pc c i q.2 && pp_chk mi e (pc + pp_len i q.2) (pp_cs i q.2 c) s
