/-! THE ENGINE, 11: what was checked is sound -/
theorem pp_i_e {st : List Value} {k : Int32 → List Value → Prop} (h : pp_i st k) : ∃ x s, st = .int x :: s ∧ k x s := by
  unfold pp_i at h
  split at h
  · exact ⟨_, _, rfl, h⟩
  · exact h.elim
theorem pp_j_e {st : List Value} {k : Int64 → List Value → Prop} (h : pp_j st k) : ∃ x s, st = .long x :: s ∧ k x s := by
  unfold pp_j at h
  split at h
  · exact ⟨_, _, rfl, h⟩
  · exact h.elim
theorem pp_r_e {st : List Value} {k : Nat → List Value → Prop} (h : pp_r st k) : ∃ x s, st = .ref x :: s ∧ k x s := by
  unfold pp_r at h
  split at h
  · exact ⟨_, _, rfl, h⟩
  · exact h.elim
theorem pp_q_e {st : List Value} {k : Option Nat → List Value → Prop} (h : pp_q st k) : ∃ x s, st = pp_rf x :: s ∧ k x s := by
  unfold pp_q at h
  split at h
  · exact ⟨some _, _, rfl, h⟩
  · exact ⟨none, _, rfl, h⟩
  · exact h.elim
theorem pp_wide_1 {v : Value} (h : pp_wide v = false) : v.category = 1 := by cases v <;> first | rfl | cases h
theorem pp_wide_2 {v : Value} (h : pp_wide v = true) : v.category = 2 := by cases v <;> first | rfl | cases h
theorem pp_1_e {st : List Value} {k : Value → List Value → Prop} (h : pp_1 st k) : ∃ v s, st = v :: s ∧ v.category = 1 ∧ k v s := by
  unfold pp_1 at h
  split at h
  · exact ⟨_, _, rfl, pp_wide_1 h.1, h.2⟩
  · exact h.elim
theorem pp_2_e {st : List Value} {k : Value → List Value → Prop} (h : pp_2 st k) : ∃ v s, st = v :: s ∧ v.category = 2 ∧ k v s := by
  unfold pp_2 at h
  split at h
  · exact ⟨_, _, rfl, pp_wide_2 h.1, h.2⟩
  · exact h.elim
theorem pp_li_e {L : List (Nat × Value)} {i : Nat} {k : Int32 → Prop} (h : pp_li L i k) : ∃ x, L.lookup i = some (.int x) ∧ k x := by
  unfold pp_li at h
  split at h
  · rename_i e; exact ⟨_, e, h⟩
  · exact h.elim
theorem pp_lj_e {L : List (Nat × Value)} {i : Nat} {k : Int64 → Prop} (h : pp_lj L i k) : ∃ x, L.lookup i = some (.long x) ∧ k x := by
  unfold pp_lj at h
  split at h
  · rename_i e; exact ⟨_, e, h⟩
  · exact h.elim
theorem pp_la_e {L : List (Nat × Value)} {i : Nat} {k : Value → Prop} (h : pp_la L i k) : (∃ x, L.lookup i = some (.ref x) ∧ k (.ref x)) ∨ (L.lookup i = some .null ∧ k .null) := by
  unfold pp_la at h
  split at h
  · rename_i e; exact Or.inl ⟨_, e, h⟩
  · rename_i e; exact Or.inr ⟨e, h⟩
  · exact h.elim
theorem pp_in_e {w : pp_W} {a t : Nat} {j : Int32} {k : Prop} (h : pp_in w a t j k) : ∃ n, w.1[a]? = some (t, n) ∧ vp_in j n ∧ k := by
  unfold pp_in at h
  split at h
  · rename_i q e
    obtain ⟨rfl, h2, h3⟩ := h
    exact ⟨q.2, e, h2, h3⟩
  · exact h.elim
theorem pp_al_e {w : pp_W} {a : Nat} {k : Nat → Prop} (h : pp_al w a k) : ∃ t n, w.1[a]? = some (t, n) ∧ (10 ≤ t ∧ t ≤ 14) ∧ k n := by
  unfold pp_al at h
  split at h
  · rename_i q e
    exact ⟨q.1, q.2, e, h⟩
  · exact h.elim
theorem pp_args_e : ∀ (l : List Nat) (acc st : List Value) (k : List Value → List Value → Prop), pp_args l acc st k → ∃ As s, st = As.reverse ++ s ∧ As.length = l.length ∧ k (As ++ acc) s := by
  intro l
  induction l with
  | nil => intro acc st k h; exact ⟨[], st, rfl, rfl, h⟩
  | cons a l ih =>
    intro acc st k h
    cases st with
    | nil => exact h.elim
    | cons v st =>
      obtain ⟨As, s, e1, e2, e3⟩ := ih (v :: acc) st k h
      exact ⟨As ++ [v], s, by rw [e1]; simp, by simp [e2], by simpa using e3⟩
theorem pp_blt {a b : Nat} (h : a.blt b = true) : a < b := Nat.le_of_ble_eq_true h
/-- what a body owes at its ends -/
def pp_End (g : pp_G) (R : Room) (mi : pp_MI) (Z : pp_CT → State → Prop) (off : Nat × Nat) (P : pp_R → pp_W → Prop) (Y : String → pp_W → Prop) : Prop :=
  (∀ pc L w, decode mi.by_ pc = .ok (.return_, 1) → mi.ret = none → P (.inl none) w → pp_ATc g R mi Z (off.1 + mi.mc, off.2 + mi.ms) pc L [] w) ∧
  (∀ pc L w x ty, decode mi.by_ pc = .ok (.ireturn, 1) → mi.ret = some ty → narrow ty (.int x) = .int x → P (.inl (some (.int x))) w → pp_ATc g R mi Z (off.1 + mi.mc, off.2 + mi.ms) pc L [.int x] w) ∧
  (∀ pc L w x, decode mi.by_ pc = .ok (.lreturn, 1) → mi.ret = some .long → P (.inl (some (.long x))) w → pp_ATc g R mi Z (off.1 + mi.mc, off.2 + mi.ms) pc L [.long x] w) ∧
  (∀ pc L st w E, pp_hok mi pc = true → Y E w → pp_XT g R mi Z (off.1 + mi.mc, off.2 + mi.ms) pc L st w E)
section Sound
variable {g : pp_G} {R : Room} {mi : pp_MI} {Z : pp_CT → State → Prop} {off : Nat × Nat} {P : pp_R → pp_W → Prop} {Y : String → pp_W → Prop} {X : Nat → pp_St} {h : Nat}
theorem pp_toT {c : Nat × Nat} {o : Int} {pc t : Nat} {L : List (Nat × Value)} {st : List Value} {w : pp_W} (hX : ∀ t L st w, X t L st w → pp_AT g R mi Z off t L st w) (ht : pp_tgt mi pc c o t = true) (hx : X t L st w) : ((pc : Int) + o = (t : Int)) ∧ pp_ATc g R mi Z (off.1 + c.1, off.2 + c.2) t L st w := by
  simp only [pp_tgt, Bool.and_eq_true, decide_eq_true_eq] at ht
  have hl := pp_le_1 ht.2
  exact ⟨ht.1, (hX t L st w hx).le (by show off.1 + c.1 ≤ off.1 + _; omega) (by show off.2 + c.2 ≤ off.2 + _; omega)⟩
theorem pp_tgt_1 {c : Nat × Nat} {o : Int} {pc t : Nat} (ht : pp_tgt mi pc c o t = true) : (pc : Int) + o = (t : Int) := by
  simp only [pp_tgt, Bool.and_eq_true, decide_eq_true_eq] at ht
  exact ht.1
theorem pp_toK {mj : pp_MI} {c : Nat × Nat} {pc : Nat} {L : List (Nat × Value)} {st : List Value} {K : pp_St} (hE : pp_End g R mi Z off P Y) (hh : pp_hok mi pc = true) (hc : pp_le (c.1 + mj.mc, c.2 + mj.ms) (mi.mc, mi.ms) = true)
    (hK : ∀ L st w, K L st w → pp_ATc g R mi Z (off.1 + (c.1 + mj.mc), off.2 + (c.2 + mj.ms)) (pc + 3) L st w) : ∀ r w, pp_kr K Y L st r w → pp_K1 g R mi Z (off.1 + c.1 + mj.mc, off.2 + c.2 + mj.ms) pc L st r w := by
  intro r w hr
  have hl := pp_le_1 hc
  dsimp only at hl
  match r, hr with
  | .inl none, hr => exact (hK _ _ _ hr).le (by show _ ≤ off.1 + (c.1 + mj.mc); omega) (by show _ ≤ off.2 + (c.2 + mj.ms); omega)
  | .inl (some v), hr => exact (hK _ _ _ hr).le (by show _ ≤ off.1 + (c.1 + mj.mc); omega) (by show _ ≤ off.2 + (c.2 + mj.ms); omega)
  | .inr E, hr => exact fun t C H locs ls cells slots hP hS hl9 h1 h2 => hE.2.2.2 pc L st w E hh hr t C H locs ls cells slots hP hS hl9 (Nat.le_trans h1 (by show off.1 + c.1 + mj.mc ≤ off.1 + mi.mc; omega)) (Nat.le_trans h2 (by show off.2 + c.2 + mj.ms ≤ off.2 + mi.ms; omega))
theorem ps_iconst {n : Int} {c : Nat × Nat} {pc : Nat} {lk : pp_Lk} {L : List (Nat × Value)} {st : List Value} {w : pp_W} {K : pp_St} (hd : decode mi.by_ pc = .ok (.iconst n, pp_len (.iconst n) lk)) (hst : pp_stt mi pc c (.iconst n) lk = true) (hsp : pp_sp g h mi.ret P Y X (.iconst n) lk L st w K) (hK : ∀ L st w, K L st w → pp_ATc g R mi Z (off.1 + (pp_cs (.iconst n) lk c).1, off.2 + (pp_cs (.iconst n) lk c).2) (pc + pp_len (.iconst n) lk) L st w) : pp_ATc g R mi Z (off.1 + c.1, off.2 + c.2) pc L st w := by
  match lk, hst, hsp, hd, hK with
  | .inr (.inr (.int v, p)), hst, hsp, hd, hK => exact pr_iconst hd (of_decide_eq_true hst) (hK _ _ _ hsp)
theorem ps_bipush {n : Int} {c : Nat × Nat} {pc : Nat} {lk : pp_Lk} {L : List (Nat × Value)} {st : List Value} {w : pp_W} {K : pp_St} (hd : decode mi.by_ pc = .ok (.bipush n, pp_len (.bipush n) lk)) (hst : pp_stt mi pc c (.bipush n) lk = true) (hsp : pp_sp g h mi.ret P Y X (.bipush n) lk L st w K) (hK : ∀ L st w, K L st w → pp_ATc g R mi Z (off.1 + (pp_cs (.bipush n) lk c).1, off.2 + (pp_cs (.bipush n) lk c).2) (pc + pp_len (.bipush n) lk) L st w) : pp_ATc g R mi Z (off.1 + c.1, off.2 + c.2) pc L st w := by
  match lk, hst, hsp, hd, hK with
  | .inr (.inr (.int v, p)), hst, hsp, hd, hK => exact pr_bipush hd (of_decide_eq_true hst) (hK _ _ _ hsp)
theorem ps_sipush {n : Int} {c : Nat × Nat} {pc : Nat} {lk : pp_Lk} {L : List (Nat × Value)} {st : List Value} {w : pp_W} {K : pp_St} (hd : decode mi.by_ pc = .ok (.sipush n, pp_len (.sipush n) lk)) (hst : pp_stt mi pc c (.sipush n) lk = true) (hsp : pp_sp g h mi.ret P Y X (.sipush n) lk L st w K) (hK : ∀ L st w, K L st w → pp_ATc g R mi Z (off.1 + (pp_cs (.sipush n) lk c).1, off.2 + (pp_cs (.sipush n) lk c).2) (pc + pp_len (.sipush n) lk) L st w) : pp_ATc g R mi Z (off.1 + c.1, off.2 + c.2) pc L st w := by
  match lk, hst, hsp, hd, hK with
  | .inr (.inr (.int v, p)), hst, hsp, hd, hK => exact pr_sipush hd (of_decide_eq_true hst) (hK _ _ _ hsp)
theorem ps_lconst {n : Fin 2} {c : Nat × Nat} {pc : Nat} {lk : pp_Lk} {L : List (Nat × Value)} {st : List Value} {w : pp_W} {K : pp_St} (hd : decode mi.by_ pc = .ok (.lconst n, pp_len (.lconst n) lk)) (hst : pp_stt mi pc c (.lconst n) lk = true) (hsp : pp_sp g h mi.ret P Y X (.lconst n) lk L st w K) (hK : ∀ L st w, K L st w → pp_ATc g R mi Z (off.1 + (pp_cs (.lconst n) lk c).1, off.2 + (pp_cs (.lconst n) lk c).2) (pc + pp_len (.lconst n) lk) L st w) : pp_ATc g R mi Z (off.1 + c.1, off.2 + c.2) pc L st w := by
  match lk, hst, hsp, hd, hK with
  | .inr (.inr (.long v, p)), hst, hsp, hd, hK => exact pr_lconst hd (of_decide_eq_true hst) (hK _ _ _ hsp)
theorem ps_ldc {n : Nat} {c : Nat × Nat} {pc : Nat} {lk : pp_Lk} {L : List (Nat × Value)} {st : List Value} {w : pp_W} {K : pp_St} (hd : decode mi.by_ pc = .ok (.ldc n, pp_len (.ldc n) lk)) (hst : pp_stt mi pc c (.ldc n) lk = true) (hsp : pp_sp g h mi.ret P Y X (.ldc n) lk L st w K) (hK : ∀ L st w, K L st w → pp_ATc g R mi Z (off.1 + (pp_cs (.ldc n) lk c).1, off.2 + (pp_cs (.ldc n) lk c).2) (pc + pp_len (.ldc n) lk) L st w) : pp_ATc g R mi Z (off.1 + c.1, off.2 + c.2) pc L st w := by
  match lk, hst, hsp, hd, hK with
  | .inr (.inr (.int v, p)), hst, hsp, hd, hK => exact pr_ldc hd (pp_w_in hst) (hK _ _ _ hsp)
  | .inr (.inr (.ref k, p)), hst, hsp, hd, hK =>
    simp only [pp_stt] at hst
    split at hst
    · rename_i q hq
      simp only [Bool.and_eq_true, decide_eq_true_eq] at hst
      obtain ⟨⟨⟨e1, e2⟩, e3⟩, e4⟩ := hst
      exact pr_ldcS (tx := q.2.2.1) hd (by rw [← e1, ← e2, ← e3]; exact List.mem_of_getElem? hq) (pp_blt e4) (hK _ _ _ hsp)
    · cases hst
theorem ps_ldc_w {n : Nat} {c : Nat × Nat} {pc : Nat} {lk : pp_Lk} {L : List (Nat × Value)} {st : List Value} {w : pp_W} {K : pp_St} (hd : decode mi.by_ pc = .ok (.ldc_w n, pp_len (.ldc_w n) lk)) (hst : pp_stt mi pc c (.ldc_w n) lk = true) (hsp : pp_sp g h mi.ret P Y X (.ldc_w n) lk L st w K) (hK : ∀ L st w, K L st w → pp_ATc g R mi Z (off.1 + (pp_cs (.ldc_w n) lk c).1, off.2 + (pp_cs (.ldc_w n) lk c).2) (pc + pp_len (.ldc_w n) lk) L st w) : pp_ATc g R mi Z (off.1 + c.1, off.2 + c.2) pc L st w := by
  match lk, hst, hsp, hd, hK with
  | .inr (.inr (.int v, p)), hst, hsp, hd, hK => exact pr_ldcw hd (pp_w_in hst) (hK _ _ _ hsp)
theorem ps_ldc2_w {n : Nat} {c : Nat × Nat} {pc : Nat} {lk : pp_Lk} {L : List (Nat × Value)} {st : List Value} {w : pp_W} {K : pp_St} (hd : decode mi.by_ pc = .ok (.ldc2_w n, pp_len (.ldc2_w n) lk)) (hst : pp_stt mi pc c (.ldc2_w n) lk = true) (hsp : pp_sp g h mi.ret P Y X (.ldc2_w n) lk L st w K) (hK : ∀ L st w, K L st w → pp_ATc g R mi Z (off.1 + (pp_cs (.ldc2_w n) lk c).1, off.2 + (pp_cs (.ldc2_w n) lk c).2) (pc + pp_len (.ldc2_w n) lk) L st w) : pp_ATc g R mi Z (off.1 + c.1, off.2 + c.2) pc L st w := by
  match lk, hst, hsp, hd, hK with
  | .inr (.inr (.long v, p)), hst, hsp, hd, hK => exact pr_ldc2 hd (pp_w_in hst) (hK _ _ _ hsp)
theorem ps_aconst_null {c : Nat × Nat} {pc : Nat} {lk : pp_Lk} {L : List (Nat × Value)} {st : List Value} {w : pp_W} {K : pp_St} (hd : decode mi.by_ pc = .ok (.aconst_null, pp_len (.aconst_null) lk)) (hst : pp_stt mi pc c (.aconst_null) lk = true) (hsp : pp_sp g h mi.ret P Y X (.aconst_null) lk L st w K) (hK : ∀ L st w, K L st w → pp_ATc g R mi Z (off.1 + (pp_cs (.aconst_null) lk c).1, off.2 + (pp_cs (.aconst_null) lk c).2) (pc + pp_len (.aconst_null) lk) L st w) : pp_ATc g R mi Z (off.1 + c.1, off.2 + c.2) pc L st w := by
  exact pr_null hd (hK _ _ _ hsp)
theorem ps_iload {n : Nat} {c : Nat × Nat} {pc : Nat} {lk : pp_Lk} {L : List (Nat × Value)} {st : List Value} {w : pp_W} {K : pp_St} (hd : decode mi.by_ pc = .ok (.iload n, pp_len (.iload n) lk)) (hst : pp_stt mi pc c (.iload n) lk = true) (hsp : pp_sp g h mi.ret P Y X (.iload n) lk L st w K) (hK : ∀ L st w, K L st w → pp_ATc g R mi Z (off.1 + (pp_cs (.iload n) lk c).1, off.2 + (pp_cs (.iload n) lk c).2) (pc + pp_len (.iload n) lk) L st w) : pp_ATc g R mi Z (off.1 + c.1, off.2 + c.2) pc L st w := by
  obtain ⟨x, e, hk⟩ := pp_li_e hsp
  exact pr_iload hd e (hK _ _ _ hk)
theorem ps_iload_n {n : Fin 4} {c : Nat × Nat} {pc : Nat} {lk : pp_Lk} {L : List (Nat × Value)} {st : List Value} {w : pp_W} {K : pp_St} (hd : decode mi.by_ pc = .ok (.iload_n n, pp_len (.iload_n n) lk)) (hst : pp_stt mi pc c (.iload_n n) lk = true) (hsp : pp_sp g h mi.ret P Y X (.iload_n n) lk L st w K) (hK : ∀ L st w, K L st w → pp_ATc g R mi Z (off.1 + (pp_cs (.iload_n n) lk c).1, off.2 + (pp_cs (.iload_n n) lk c).2) (pc + pp_len (.iload_n n) lk) L st w) : pp_ATc g R mi Z (off.1 + c.1, off.2 + c.2) pc L st w := by
  obtain ⟨x, e, hk⟩ := pp_li_e hsp
  exact pr_iload_n hd e (hK _ _ _ hk)
theorem ps_lload {n : Nat} {c : Nat × Nat} {pc : Nat} {lk : pp_Lk} {L : List (Nat × Value)} {st : List Value} {w : pp_W} {K : pp_St} (hd : decode mi.by_ pc = .ok (.lload n, pp_len (.lload n) lk)) (hst : pp_stt mi pc c (.lload n) lk = true) (hsp : pp_sp g h mi.ret P Y X (.lload n) lk L st w K) (hK : ∀ L st w, K L st w → pp_ATc g R mi Z (off.1 + (pp_cs (.lload n) lk c).1, off.2 + (pp_cs (.lload n) lk c).2) (pc + pp_len (.lload n) lk) L st w) : pp_ATc g R mi Z (off.1 + c.1, off.2 + c.2) pc L st w := by
  obtain ⟨x, e, hk⟩ := pp_lj_e hsp
  exact pr_lload hd e (hK _ _ _ hk)
theorem ps_lload_n {n : Fin 4} {c : Nat × Nat} {pc : Nat} {lk : pp_Lk} {L : List (Nat × Value)} {st : List Value} {w : pp_W} {K : pp_St} (hd : decode mi.by_ pc = .ok (.lload_n n, pp_len (.lload_n n) lk)) (hst : pp_stt mi pc c (.lload_n n) lk = true) (hsp : pp_sp g h mi.ret P Y X (.lload_n n) lk L st w K) (hK : ∀ L st w, K L st w → pp_ATc g R mi Z (off.1 + (pp_cs (.lload_n n) lk c).1, off.2 + (pp_cs (.lload_n n) lk c).2) (pc + pp_len (.lload_n n) lk) L st w) : pp_ATc g R mi Z (off.1 + c.1, off.2 + c.2) pc L st w := by
  obtain ⟨x, e, hk⟩ := pp_lj_e hsp
  exact pr_lload_n hd e (hK _ _ _ hk)
theorem ps_aload {n : Nat} {c : Nat × Nat} {pc : Nat} {lk : pp_Lk} {L : List (Nat × Value)} {st : List Value} {w : pp_W} {K : pp_St} (hd : decode mi.by_ pc = .ok (.aload n, pp_len (.aload n) lk)) (hst : pp_stt mi pc c (.aload n) lk = true) (hsp : pp_sp g h mi.ret P Y X (.aload n) lk L st w K) (hK : ∀ L st w, K L st w → pp_ATc g R mi Z (off.1 + (pp_cs (.aload n) lk c).1, off.2 + (pp_cs (.aload n) lk c).2) (pc + pp_len (.aload n) lk) L st w) : pp_ATc g R mi Z (off.1 + c.1, off.2 + c.2) pc L st w := by
  have hsp : pp_la L n (fun v => K L (v :: st) w) := hsp
  rcases pp_la_e hsp with ⟨x, e, hk⟩ | ⟨e, hk⟩
  · exact pr_aload hd e (hK _ _ _ hk)
  · exact pr_aloadN hd e (hK _ _ _ hk)
theorem ps_aload_n {n : Fin 4} {c : Nat × Nat} {pc : Nat} {lk : pp_Lk} {L : List (Nat × Value)} {st : List Value} {w : pp_W} {K : pp_St} (hd : decode mi.by_ pc = .ok (.aload_n n, pp_len (.aload_n n) lk)) (hst : pp_stt mi pc c (.aload_n n) lk = true) (hsp : pp_sp g h mi.ret P Y X (.aload_n n) lk L st w K) (hK : ∀ L st w, K L st w → pp_ATc g R mi Z (off.1 + (pp_cs (.aload_n n) lk c).1, off.2 + (pp_cs (.aload_n n) lk c).2) (pc + pp_len (.aload_n n) lk) L st w) : pp_ATc g R mi Z (off.1 + c.1, off.2 + c.2) pc L st w := by
  have hsp : pp_la L n.val (fun v => K L (v :: st) w) := hsp
  rcases pp_la_e hsp with ⟨x, e, hk⟩ | ⟨e, hk⟩
  · exact pr_aload_n hd e (hK _ _ _ hk)
  · exact pr_aload_nN hd e (hK _ _ _ hk)
theorem ps_istore {n : Nat} {c : Nat × Nat} {pc : Nat} {lk : pp_Lk} {L : List (Nat × Value)} {st : List Value} {w : pp_W} {K : pp_St} (hd : decode mi.by_ pc = .ok (.istore n, pp_len (.istore n) lk)) (hst : pp_stt mi pc c (.istore n) lk = true) (hsp : pp_sp g h mi.ret P Y X (.istore n) lk L st w K) (hK : ∀ L st w, K L st w → pp_ATc g R mi Z (off.1 + (pp_cs (.istore n) lk c).1, off.2 + (pp_cs (.istore n) lk c).2) (pc + pp_len (.istore n) lk) L st w) : pp_ATc g R mi Z (off.1 + c.1, off.2 + c.2) pc L st w := by
  obtain ⟨x, s, rfl, hk⟩ := pp_i_e hsp
  exact pr_istore hd (pp_blt hst) (hK _ _ _ hk)
theorem ps_istore_n {n : Fin 4} {c : Nat × Nat} {pc : Nat} {lk : pp_Lk} {L : List (Nat × Value)} {st : List Value} {w : pp_W} {K : pp_St} (hd : decode mi.by_ pc = .ok (.istore_n n, pp_len (.istore_n n) lk)) (hst : pp_stt mi pc c (.istore_n n) lk = true) (hsp : pp_sp g h mi.ret P Y X (.istore_n n) lk L st w K) (hK : ∀ L st w, K L st w → pp_ATc g R mi Z (off.1 + (pp_cs (.istore_n n) lk c).1, off.2 + (pp_cs (.istore_n n) lk c).2) (pc + pp_len (.istore_n n) lk) L st w) : pp_ATc g R mi Z (off.1 + c.1, off.2 + c.2) pc L st w := by
  obtain ⟨x, s, rfl, hk⟩ := pp_i_e hsp
  exact pr_istore_n hd (pp_blt hst) (hK _ _ _ hk)
theorem ps_lstore {n : Nat} {c : Nat × Nat} {pc : Nat} {lk : pp_Lk} {L : List (Nat × Value)} {st : List Value} {w : pp_W} {K : pp_St} (hd : decode mi.by_ pc = .ok (.lstore n, pp_len (.lstore n) lk)) (hst : pp_stt mi pc c (.lstore n) lk = true) (hsp : pp_sp g h mi.ret P Y X (.lstore n) lk L st w K) (hK : ∀ L st w, K L st w → pp_ATc g R mi Z (off.1 + (pp_cs (.lstore n) lk c).1, off.2 + (pp_cs (.lstore n) lk c).2) (pc + pp_len (.lstore n) lk) L st w) : pp_ATc g R mi Z (off.1 + c.1, off.2 + c.2) pc L st w := by
  obtain ⟨x, s, rfl, hk⟩ := pp_j_e hsp
  exact pr_lstore hd (pp_blt hst) (hK _ _ _ hk)
theorem ps_lstore_n {n : Fin 4} {c : Nat × Nat} {pc : Nat} {lk : pp_Lk} {L : List (Nat × Value)} {st : List Value} {w : pp_W} {K : pp_St} (hd : decode mi.by_ pc = .ok (.lstore_n n, pp_len (.lstore_n n) lk)) (hst : pp_stt mi pc c (.lstore_n n) lk = true) (hsp : pp_sp g h mi.ret P Y X (.lstore_n n) lk L st w K) (hK : ∀ L st w, K L st w → pp_ATc g R mi Z (off.1 + (pp_cs (.lstore_n n) lk c).1, off.2 + (pp_cs (.lstore_n n) lk c).2) (pc + pp_len (.lstore_n n) lk) L st w) : pp_ATc g R mi Z (off.1 + c.1, off.2 + c.2) pc L st w := by
  obtain ⟨x, s, rfl, hk⟩ := pp_j_e hsp
  exact pr_lstore_n hd (pp_blt hst) (hK _ _ _ hk)
theorem ps_astore {n : Nat} {c : Nat × Nat} {pc : Nat} {lk : pp_Lk} {L : List (Nat × Value)} {st : List Value} {w : pp_W} {K : pp_St} (hd : decode mi.by_ pc = .ok (.astore n, pp_len (.astore n) lk)) (hst : pp_stt mi pc c (.astore n) lk = true) (hsp : pp_sp g h mi.ret P Y X (.astore n) lk L st w K) (hK : ∀ L st w, K L st w → pp_ATc g R mi Z (off.1 + (pp_cs (.astore n) lk c).1, off.2 + (pp_cs (.astore n) lk c).2) (pc + pp_len (.astore n) lk) L st w) : pp_ATc g R mi Z (off.1 + c.1, off.2 + c.2) pc L st w := by
  have hsp : pp_q st (fun x st => K (pp_put1 n (pp_rf x) L) st w) := hsp
  obtain ⟨x, s, rfl, hk⟩ := pp_q_e hsp
  cases x with
  | none => exact pr_astoreN hd (pp_blt hst) (hK _ _ _ hk)
  | some x => exact pr_astore hd (pp_blt hst) (hK _ _ _ hk)
theorem ps_astore_n {n : Fin 4} {c : Nat × Nat} {pc : Nat} {lk : pp_Lk} {L : List (Nat × Value)} {st : List Value} {w : pp_W} {K : pp_St} (hd : decode mi.by_ pc = .ok (.astore_n n, pp_len (.astore_n n) lk)) (hst : pp_stt mi pc c (.astore_n n) lk = true) (hsp : pp_sp g h mi.ret P Y X (.astore_n n) lk L st w K) (hK : ∀ L st w, K L st w → pp_ATc g R mi Z (off.1 + (pp_cs (.astore_n n) lk c).1, off.2 + (pp_cs (.astore_n n) lk c).2) (pc + pp_len (.astore_n n) lk) L st w) : pp_ATc g R mi Z (off.1 + c.1, off.2 + c.2) pc L st w := by
  have hsp : pp_q st (fun x st => K (pp_put1 n.val (pp_rf x) L) st w) := hsp
  obtain ⟨x, s, rfl, hk⟩ := pp_q_e hsp
  cases x with
  | none => exact pr_astore_nN hd (pp_blt hst) (hK _ _ _ hk)
  | some x => exact pr_astore_n hd (pp_blt hst) (hK _ _ _ hk)
theorem ps_iinc {k : Nat} {n : Int} {c : Nat × Nat} {pc : Nat} {lk : pp_Lk} {L : List (Nat × Value)} {st : List Value} {w : pp_W} {K : pp_St} (hd : decode mi.by_ pc = .ok (.iinc k n, pp_len (.iinc k n) lk)) (hst : pp_stt mi pc c (.iinc k n) lk = true) (hsp : pp_sp g h mi.ret P Y X (.iinc k n) lk L st w K) (hK : ∀ L st w, K L st w → pp_ATc g R mi Z (off.1 + (pp_cs (.iinc k n) lk c).1, off.2 + (pp_cs (.iinc k n) lk c).2) (pc + pp_len (.iinc k n) lk) L st w) : pp_ATc g R mi Z (off.1 + c.1, off.2 + c.2) pc L st w := by
  match lk, hst, hsp, hd, hK with
  | .inr (.inr (.int v, p)), hst, hsp, hd, hK =>
    simp only [pp_stt, Bool.and_eq_true, decide_eq_true_eq] at hst
    obtain ⟨x, e, hk⟩ := pp_li_e hsp
    exact pr_iinc hd e hst.1 (pp_blt hst.2) (hK _ _ _ hk)
theorem ps_iadd {c : Nat × Nat} {pc : Nat} {lk : pp_Lk} {L : List (Nat × Value)} {st : List Value} {w : pp_W} {K : pp_St} (hd : decode mi.by_ pc = .ok (.iadd, pp_len (.iadd) lk)) (hst : pp_stt mi pc c (.iadd) lk = true) (hsp : pp_sp g h mi.ret P Y X (.iadd) lk L st w K) (hK : ∀ L st w, K L st w → pp_ATc g R mi Z (off.1 + (pp_cs (.iadd) lk c).1, off.2 + (pp_cs (.iadd) lk c).2) (pc + pp_len (.iadd) lk) L st w) : pp_ATc g R mi Z (off.1 + c.1, off.2 + c.2) pc L st w := by
  obtain ⟨y, s, rfl, hk⟩ := pp_i_e hsp
  obtain ⟨x, s, rfl, hk⟩ := pp_i_e hk
  exact pr_iadd hd (hK _ _ _ hk)
theorem ps_isub {c : Nat × Nat} {pc : Nat} {lk : pp_Lk} {L : List (Nat × Value)} {st : List Value} {w : pp_W} {K : pp_St} (hd : decode mi.by_ pc = .ok (.isub, pp_len (.isub) lk)) (hst : pp_stt mi pc c (.isub) lk = true) (hsp : pp_sp g h mi.ret P Y X (.isub) lk L st w K) (hK : ∀ L st w, K L st w → pp_ATc g R mi Z (off.1 + (pp_cs (.isub) lk c).1, off.2 + (pp_cs (.isub) lk c).2) (pc + pp_len (.isub) lk) L st w) : pp_ATc g R mi Z (off.1 + c.1, off.2 + c.2) pc L st w := by
  obtain ⟨y, s, rfl, hk⟩ := pp_i_e hsp
  obtain ⟨x, s, rfl, hk⟩ := pp_i_e hk
  exact pr_isub hd (hK _ _ _ hk)
theorem ps_imul {c : Nat × Nat} {pc : Nat} {lk : pp_Lk} {L : List (Nat × Value)} {st : List Value} {w : pp_W} {K : pp_St} (hd : decode mi.by_ pc = .ok (.imul, pp_len (.imul) lk)) (hst : pp_stt mi pc c (.imul) lk = true) (hsp : pp_sp g h mi.ret P Y X (.imul) lk L st w K) (hK : ∀ L st w, K L st w → pp_ATc g R mi Z (off.1 + (pp_cs (.imul) lk c).1, off.2 + (pp_cs (.imul) lk c).2) (pc + pp_len (.imul) lk) L st w) : pp_ATc g R mi Z (off.1 + c.1, off.2 + c.2) pc L st w := by
  obtain ⟨y, s, rfl, hk⟩ := pp_i_e hsp
  obtain ⟨x, s, rfl, hk⟩ := pp_i_e hk
  exact pr_imul hd (hK _ _ _ hk)
theorem ps_iand {c : Nat × Nat} {pc : Nat} {lk : pp_Lk} {L : List (Nat × Value)} {st : List Value} {w : pp_W} {K : pp_St} (hd : decode mi.by_ pc = .ok (.iand, pp_len (.iand) lk)) (hst : pp_stt mi pc c (.iand) lk = true) (hsp : pp_sp g h mi.ret P Y X (.iand) lk L st w K) (hK : ∀ L st w, K L st w → pp_ATc g R mi Z (off.1 + (pp_cs (.iand) lk c).1, off.2 + (pp_cs (.iand) lk c).2) (pc + pp_len (.iand) lk) L st w) : pp_ATc g R mi Z (off.1 + c.1, off.2 + c.2) pc L st w := by
  obtain ⟨y, s, rfl, hk⟩ := pp_i_e hsp
  obtain ⟨x, s, rfl, hk⟩ := pp_i_e hk
  exact pr_iand hd (hK _ _ _ hk)
theorem ps_ior {c : Nat × Nat} {pc : Nat} {lk : pp_Lk} {L : List (Nat × Value)} {st : List Value} {w : pp_W} {K : pp_St} (hd : decode mi.by_ pc = .ok (.ior, pp_len (.ior) lk)) (hst : pp_stt mi pc c (.ior) lk = true) (hsp : pp_sp g h mi.ret P Y X (.ior) lk L st w K) (hK : ∀ L st w, K L st w → pp_ATc g R mi Z (off.1 + (pp_cs (.ior) lk c).1, off.2 + (pp_cs (.ior) lk c).2) (pc + pp_len (.ior) lk) L st w) : pp_ATc g R mi Z (off.1 + c.1, off.2 + c.2) pc L st w := by
  obtain ⟨y, s, rfl, hk⟩ := pp_i_e hsp
  obtain ⟨x, s, rfl, hk⟩ := pp_i_e hk
  exact pr_ior hd (hK _ _ _ hk)
theorem ps_ixor {c : Nat × Nat} {pc : Nat} {lk : pp_Lk} {L : List (Nat × Value)} {st : List Value} {w : pp_W} {K : pp_St} (hd : decode mi.by_ pc = .ok (.ixor, pp_len (.ixor) lk)) (hst : pp_stt mi pc c (.ixor) lk = true) (hsp : pp_sp g h mi.ret P Y X (.ixor) lk L st w K) (hK : ∀ L st w, K L st w → pp_ATc g R mi Z (off.1 + (pp_cs (.ixor) lk c).1, off.2 + (pp_cs (.ixor) lk c).2) (pc + pp_len (.ixor) lk) L st w) : pp_ATc g R mi Z (off.1 + c.1, off.2 + c.2) pc L st w := by
  obtain ⟨y, s, rfl, hk⟩ := pp_i_e hsp
  obtain ⟨x, s, rfl, hk⟩ := pp_i_e hk
  exact pr_ixor hd (hK _ _ _ hk)
theorem ps_ishl {c : Nat × Nat} {pc : Nat} {lk : pp_Lk} {L : List (Nat × Value)} {st : List Value} {w : pp_W} {K : pp_St} (hd : decode mi.by_ pc = .ok (.ishl, pp_len (.ishl) lk)) (hst : pp_stt mi pc c (.ishl) lk = true) (hsp : pp_sp g h mi.ret P Y X (.ishl) lk L st w K) (hK : ∀ L st w, K L st w → pp_ATc g R mi Z (off.1 + (pp_cs (.ishl) lk c).1, off.2 + (pp_cs (.ishl) lk c).2) (pc + pp_len (.ishl) lk) L st w) : pp_ATc g R mi Z (off.1 + c.1, off.2 + c.2) pc L st w := by
  obtain ⟨y, s, rfl, hk⟩ := pp_i_e hsp
  obtain ⟨x, s, rfl, hk⟩ := pp_i_e hk
  exact pr_ishl hd (hK _ _ _ hk)
theorem ps_ishr {c : Nat × Nat} {pc : Nat} {lk : pp_Lk} {L : List (Nat × Value)} {st : List Value} {w : pp_W} {K : pp_St} (hd : decode mi.by_ pc = .ok (.ishr, pp_len (.ishr) lk)) (hst : pp_stt mi pc c (.ishr) lk = true) (hsp : pp_sp g h mi.ret P Y X (.ishr) lk L st w K) (hK : ∀ L st w, K L st w → pp_ATc g R mi Z (off.1 + (pp_cs (.ishr) lk c).1, off.2 + (pp_cs (.ishr) lk c).2) (pc + pp_len (.ishr) lk) L st w) : pp_ATc g R mi Z (off.1 + c.1, off.2 + c.2) pc L st w := by
  obtain ⟨y, s, rfl, hk⟩ := pp_i_e hsp
  obtain ⟨x, s, rfl, hk⟩ := pp_i_e hk
  exact pr_ishr hd (hK _ _ _ hk)
theorem ps_iushr {c : Nat × Nat} {pc : Nat} {lk : pp_Lk} {L : List (Nat × Value)} {st : List Value} {w : pp_W} {K : pp_St} (hd : decode mi.by_ pc = .ok (.iushr, pp_len (.iushr) lk)) (hst : pp_stt mi pc c (.iushr) lk = true) (hsp : pp_sp g h mi.ret P Y X (.iushr) lk L st w K) (hK : ∀ L st w, K L st w → pp_ATc g R mi Z (off.1 + (pp_cs (.iushr) lk c).1, off.2 + (pp_cs (.iushr) lk c).2) (pc + pp_len (.iushr) lk) L st w) : pp_ATc g R mi Z (off.1 + c.1, off.2 + c.2) pc L st w := by
  obtain ⟨y, s, rfl, hk⟩ := pp_i_e hsp
  obtain ⟨x, s, rfl, hk⟩ := pp_i_e hk
  exact pr_iushr hd (hK _ _ _ hk)
theorem ps_idiv {c : Nat × Nat} {pc : Nat} {lk : pp_Lk} {L : List (Nat × Value)} {st : List Value} {w : pp_W} {K : pp_St} (hd : decode mi.by_ pc = .ok (.idiv, pp_len (.idiv) lk)) (hst : pp_stt mi pc c (.idiv) lk = true) (hsp : pp_sp g h mi.ret P Y X (.idiv) lk L st w K) (hK : ∀ L st w, K L st w → pp_ATc g R mi Z (off.1 + (pp_cs (.idiv) lk c).1, off.2 + (pp_cs (.idiv) lk c).2) (pc + pp_len (.idiv) lk) L st w) : pp_ATc g R mi Z (off.1 + c.1, off.2 + c.2) pc L st w := by
  obtain ⟨y, s, rfl, hk⟩ := pp_i_e hsp
  obtain ⟨x, s, rfl, hk⟩ := pp_i_e hk
  exact pr_idiv hd hk.1 (hK _ _ _ hk.2)
theorem ps_ladd {c : Nat × Nat} {pc : Nat} {lk : pp_Lk} {L : List (Nat × Value)} {st : List Value} {w : pp_W} {K : pp_St} (hd : decode mi.by_ pc = .ok (.ladd, pp_len (.ladd) lk)) (hst : pp_stt mi pc c (.ladd) lk = true) (hsp : pp_sp g h mi.ret P Y X (.ladd) lk L st w K) (hK : ∀ L st w, K L st w → pp_ATc g R mi Z (off.1 + (pp_cs (.ladd) lk c).1, off.2 + (pp_cs (.ladd) lk c).2) (pc + pp_len (.ladd) lk) L st w) : pp_ATc g R mi Z (off.1 + c.1, off.2 + c.2) pc L st w := by
  obtain ⟨y, s, rfl, hk⟩ := pp_j_e hsp
  obtain ⟨x, s, rfl, hk⟩ := pp_j_e hk
  exact pr_ladd hd (hK _ _ _ hk)
theorem ps_lsub {c : Nat × Nat} {pc : Nat} {lk : pp_Lk} {L : List (Nat × Value)} {st : List Value} {w : pp_W} {K : pp_St} (hd : decode mi.by_ pc = .ok (.lsub, pp_len (.lsub) lk)) (hst : pp_stt mi pc c (.lsub) lk = true) (hsp : pp_sp g h mi.ret P Y X (.lsub) lk L st w K) (hK : ∀ L st w, K L st w → pp_ATc g R mi Z (off.1 + (pp_cs (.lsub) lk c).1, off.2 + (pp_cs (.lsub) lk c).2) (pc + pp_len (.lsub) lk) L st w) : pp_ATc g R mi Z (off.1 + c.1, off.2 + c.2) pc L st w := by
  obtain ⟨y, s, rfl, hk⟩ := pp_j_e hsp
  obtain ⟨x, s, rfl, hk⟩ := pp_j_e hk
  exact pr_lsub hd (hK _ _ _ hk)
theorem ps_lmul {c : Nat × Nat} {pc : Nat} {lk : pp_Lk} {L : List (Nat × Value)} {st : List Value} {w : pp_W} {K : pp_St} (hd : decode mi.by_ pc = .ok (.lmul, pp_len (.lmul) lk)) (hst : pp_stt mi pc c (.lmul) lk = true) (hsp : pp_sp g h mi.ret P Y X (.lmul) lk L st w K) (hK : ∀ L st w, K L st w → pp_ATc g R mi Z (off.1 + (pp_cs (.lmul) lk c).1, off.2 + (pp_cs (.lmul) lk c).2) (pc + pp_len (.lmul) lk) L st w) : pp_ATc g R mi Z (off.1 + c.1, off.2 + c.2) pc L st w := by
  obtain ⟨y, s, rfl, hk⟩ := pp_j_e hsp
  obtain ⟨x, s, rfl, hk⟩ := pp_j_e hk
  exact pr_lmul hd (hK _ _ _ hk)
theorem ps_land {c : Nat × Nat} {pc : Nat} {lk : pp_Lk} {L : List (Nat × Value)} {st : List Value} {w : pp_W} {K : pp_St} (hd : decode mi.by_ pc = .ok (.land, pp_len (.land) lk)) (hst : pp_stt mi pc c (.land) lk = true) (hsp : pp_sp g h mi.ret P Y X (.land) lk L st w K) (hK : ∀ L st w, K L st w → pp_ATc g R mi Z (off.1 + (pp_cs (.land) lk c).1, off.2 + (pp_cs (.land) lk c).2) (pc + pp_len (.land) lk) L st w) : pp_ATc g R mi Z (off.1 + c.1, off.2 + c.2) pc L st w := by
  obtain ⟨y, s, rfl, hk⟩ := pp_j_e hsp
  obtain ⟨x, s, rfl, hk⟩ := pp_j_e hk
  exact pr_land hd (hK _ _ _ hk)
theorem ps_lor {c : Nat × Nat} {pc : Nat} {lk : pp_Lk} {L : List (Nat × Value)} {st : List Value} {w : pp_W} {K : pp_St} (hd : decode mi.by_ pc = .ok (.lor, pp_len (.lor) lk)) (hst : pp_stt mi pc c (.lor) lk = true) (hsp : pp_sp g h mi.ret P Y X (.lor) lk L st w K) (hK : ∀ L st w, K L st w → pp_ATc g R mi Z (off.1 + (pp_cs (.lor) lk c).1, off.2 + (pp_cs (.lor) lk c).2) (pc + pp_len (.lor) lk) L st w) : pp_ATc g R mi Z (off.1 + c.1, off.2 + c.2) pc L st w := by
  obtain ⟨y, s, rfl, hk⟩ := pp_j_e hsp
  obtain ⟨x, s, rfl, hk⟩ := pp_j_e hk
  exact pr_lor hd (hK _ _ _ hk)
theorem ps_lxor {c : Nat × Nat} {pc : Nat} {lk : pp_Lk} {L : List (Nat × Value)} {st : List Value} {w : pp_W} {K : pp_St} (hd : decode mi.by_ pc = .ok (.lxor, pp_len (.lxor) lk)) (hst : pp_stt mi pc c (.lxor) lk = true) (hsp : pp_sp g h mi.ret P Y X (.lxor) lk L st w K) (hK : ∀ L st w, K L st w → pp_ATc g R mi Z (off.1 + (pp_cs (.lxor) lk c).1, off.2 + (pp_cs (.lxor) lk c).2) (pc + pp_len (.lxor) lk) L st w) : pp_ATc g R mi Z (off.1 + c.1, off.2 + c.2) pc L st w := by
  obtain ⟨y, s, rfl, hk⟩ := pp_j_e hsp
  obtain ⟨x, s, rfl, hk⟩ := pp_j_e hk
  exact pr_lxor hd (hK _ _ _ hk)
theorem ps_lcmp {c : Nat × Nat} {pc : Nat} {lk : pp_Lk} {L : List (Nat × Value)} {st : List Value} {w : pp_W} {K : pp_St} (hd : decode mi.by_ pc = .ok (.lcmp, pp_len (.lcmp) lk)) (hst : pp_stt mi pc c (.lcmp) lk = true) (hsp : pp_sp g h mi.ret P Y X (.lcmp) lk L st w K) (hK : ∀ L st w, K L st w → pp_ATc g R mi Z (off.1 + (pp_cs (.lcmp) lk c).1, off.2 + (pp_cs (.lcmp) lk c).2) (pc + pp_len (.lcmp) lk) L st w) : pp_ATc g R mi Z (off.1 + c.1, off.2 + c.2) pc L st w := by
  obtain ⟨y, s, rfl, hk⟩ := pp_j_e hsp
  obtain ⟨x, s, rfl, hk⟩ := pp_j_e hk
  exact pr_lcmp hd (hK _ _ _ hk)
theorem ps_ldiv {c : Nat × Nat} {pc : Nat} {lk : pp_Lk} {L : List (Nat × Value)} {st : List Value} {w : pp_W} {K : pp_St} (hd : decode mi.by_ pc = .ok (.ldiv, pp_len (.ldiv) lk)) (hst : pp_stt mi pc c (.ldiv) lk = true) (hsp : pp_sp g h mi.ret P Y X (.ldiv) lk L st w K) (hK : ∀ L st w, K L st w → pp_ATc g R mi Z (off.1 + (pp_cs (.ldiv) lk c).1, off.2 + (pp_cs (.ldiv) lk c).2) (pc + pp_len (.ldiv) lk) L st w) : pp_ATc g R mi Z (off.1 + c.1, off.2 + c.2) pc L st w := by
  obtain ⟨y, s, rfl, hk⟩ := pp_j_e hsp
  obtain ⟨x, s, rfl, hk⟩ := pp_j_e hk
  exact pr_ldiv hd hk.1 (hK _ _ _ hk.2)
theorem ps_lrem {c : Nat × Nat} {pc : Nat} {lk : pp_Lk} {L : List (Nat × Value)} {st : List Value} {w : pp_W} {K : pp_St} (hd : decode mi.by_ pc = .ok (.lrem, pp_len (.lrem) lk)) (hst : pp_stt mi pc c (.lrem) lk = true) (hsp : pp_sp g h mi.ret P Y X (.lrem) lk L st w K) (hK : ∀ L st w, K L st w → pp_ATc g R mi Z (off.1 + (pp_cs (.lrem) lk c).1, off.2 + (pp_cs (.lrem) lk c).2) (pc + pp_len (.lrem) lk) L st w) : pp_ATc g R mi Z (off.1 + c.1, off.2 + c.2) pc L st w := by
  obtain ⟨y, s, rfl, hk⟩ := pp_j_e hsp
  obtain ⟨x, s, rfl, hk⟩ := pp_j_e hk
  exact pr_lrem hd hk.1 (hK _ _ _ hk.2)
theorem ps_lshl {c : Nat × Nat} {pc : Nat} {lk : pp_Lk} {L : List (Nat × Value)} {st : List Value} {w : pp_W} {K : pp_St} (hd : decode mi.by_ pc = .ok (.lshl, pp_len (.lshl) lk)) (hst : pp_stt mi pc c (.lshl) lk = true) (hsp : pp_sp g h mi.ret P Y X (.lshl) lk L st w K) (hK : ∀ L st w, K L st w → pp_ATc g R mi Z (off.1 + (pp_cs (.lshl) lk c).1, off.2 + (pp_cs (.lshl) lk c).2) (pc + pp_len (.lshl) lk) L st w) : pp_ATc g R mi Z (off.1 + c.1, off.2 + c.2) pc L st w := by
  obtain ⟨y, s, rfl, hk⟩ := pp_i_e hsp
  obtain ⟨x, s, rfl, hk⟩ := pp_j_e hk
  exact pr_lshl hd (hK _ _ _ hk)
theorem ps_i2l {c : Nat × Nat} {pc : Nat} {lk : pp_Lk} {L : List (Nat × Value)} {st : List Value} {w : pp_W} {K : pp_St} (hd : decode mi.by_ pc = .ok (.i2l, pp_len (.i2l) lk)) (hst : pp_stt mi pc c (.i2l) lk = true) (hsp : pp_sp g h mi.ret P Y X (.i2l) lk L st w K) (hK : ∀ L st w, K L st w → pp_ATc g R mi Z (off.1 + (pp_cs (.i2l) lk c).1, off.2 + (pp_cs (.i2l) lk c).2) (pc + pp_len (.i2l) lk) L st w) : pp_ATc g R mi Z (off.1 + c.1, off.2 + c.2) pc L st w := by
  obtain ⟨x, s, rfl, hk⟩ := pp_i_e hsp
  exact pr_i2l hd (hK _ _ _ hk)
theorem ps_i2b {c : Nat × Nat} {pc : Nat} {lk : pp_Lk} {L : List (Nat × Value)} {st : List Value} {w : pp_W} {K : pp_St} (hd : decode mi.by_ pc = .ok (.i2b, pp_len (.i2b) lk)) (hst : pp_stt mi pc c (.i2b) lk = true) (hsp : pp_sp g h mi.ret P Y X (.i2b) lk L st w K) (hK : ∀ L st w, K L st w → pp_ATc g R mi Z (off.1 + (pp_cs (.i2b) lk c).1, off.2 + (pp_cs (.i2b) lk c).2) (pc + pp_len (.i2b) lk) L st w) : pp_ATc g R mi Z (off.1 + c.1, off.2 + c.2) pc L st w := by
  obtain ⟨x, s, rfl, hk⟩ := pp_i_e hsp
  exact pr_i2b hd (hK _ _ _ hk)
theorem ps_l2i {c : Nat × Nat} {pc : Nat} {lk : pp_Lk} {L : List (Nat × Value)} {st : List Value} {w : pp_W} {K : pp_St} (hd : decode mi.by_ pc = .ok (.l2i, pp_len (.l2i) lk)) (hst : pp_stt mi pc c (.l2i) lk = true) (hsp : pp_sp g h mi.ret P Y X (.l2i) lk L st w K) (hK : ∀ L st w, K L st w → pp_ATc g R mi Z (off.1 + (pp_cs (.l2i) lk c).1, off.2 + (pp_cs (.l2i) lk c).2) (pc + pp_len (.l2i) lk) L st w) : pp_ATc g R mi Z (off.1 + c.1, off.2 + c.2) pc L st w := by
  obtain ⟨x, s, rfl, hk⟩ := pp_j_e hsp
  exact pr_l2i hd (hK _ _ _ hk)
theorem ps_dup {c : Nat × Nat} {pc : Nat} {lk : pp_Lk} {L : List (Nat × Value)} {st : List Value} {w : pp_W} {K : pp_St} (hd : decode mi.by_ pc = .ok (.dup, pp_len (.dup) lk)) (hst : pp_stt mi pc c (.dup) lk = true) (hsp : pp_sp g h mi.ret P Y X (.dup) lk L st w K) (hK : ∀ L st w, K L st w → pp_ATc g R mi Z (off.1 + (pp_cs (.dup) lk c).1, off.2 + (pp_cs (.dup) lk c).2) (pc + pp_len (.dup) lk) L st w) : pp_ATc g R mi Z (off.1 + c.1, off.2 + c.2) pc L st w := by
  obtain ⟨v, s, rfl, hv, hk⟩ := pp_1_e hsp
  exact pr_dup hd hv (hK _ _ _ hk)
theorem ps_pop {c : Nat × Nat} {pc : Nat} {lk : pp_Lk} {L : List (Nat × Value)} {st : List Value} {w : pp_W} {K : pp_St} (hd : decode mi.by_ pc = .ok (.pop, pp_len (.pop) lk)) (hst : pp_stt mi pc c (.pop) lk = true) (hsp : pp_sp g h mi.ret P Y X (.pop) lk L st w K) (hK : ∀ L st w, K L st w → pp_ATc g R mi Z (off.1 + (pp_cs (.pop) lk c).1, off.2 + (pp_cs (.pop) lk c).2) (pc + pp_len (.pop) lk) L st w) : pp_ATc g R mi Z (off.1 + c.1, off.2 + c.2) pc L st w := by
  obtain ⟨v, s, rfl, hv, hk⟩ := pp_1_e hsp
  exact pr_pop hd hv (hK _ _ _ hk)
theorem ps_pop2 {c : Nat × Nat} {pc : Nat} {lk : pp_Lk} {L : List (Nat × Value)} {st : List Value} {w : pp_W} {K : pp_St} (hd : decode mi.by_ pc = .ok (.pop2, pp_len (.pop2) lk)) (hst : pp_stt mi pc c (.pop2) lk = true) (hsp : pp_sp g h mi.ret P Y X (.pop2) lk L st w K) (hK : ∀ L st w, K L st w → pp_ATc g R mi Z (off.1 + (pp_cs (.pop2) lk c).1, off.2 + (pp_cs (.pop2) lk c).2) (pc + pp_len (.pop2) lk) L st w) : pp_ATc g R mi Z (off.1 + c.1, off.2 + c.2) pc L st w := by
  obtain ⟨v, s, rfl, hv, hk⟩ := pp_2_e hsp
  exact pr_pop2 hd hv (hK _ _ _ hk)
theorem ps_dup2 {c : Nat × Nat} {pc : Nat} {lk : pp_Lk} {L : List (Nat × Value)} {st : List Value} {w : pp_W} {K : pp_St} (hd : decode mi.by_ pc = .ok (.dup2, pp_len (.dup2) lk)) (hst : pp_stt mi pc c (.dup2) lk = true) (hsp : pp_sp g h mi.ret P Y X (.dup2) lk L st w K) (hK : ∀ L st w, K L st w → pp_ATc g R mi Z (off.1 + (pp_cs (.dup2) lk c).1, off.2 + (pp_cs (.dup2) lk c).2) (pc + pp_len (.dup2) lk) L st w) : pp_ATc g R mi Z (off.1 + c.1, off.2 + c.2) pc L st w := by
  obtain ⟨v, s, rfl, hv, hk⟩ := pp_1_e hsp
  obtain ⟨u, s, rfl, hu, hk⟩ := pp_1_e hk
  exact pr_dup2 hd hv hu (hK _ _ _ hk)
theorem ps_ifCond {q : ClassFile.Cond} {o : Int} {c : Nat × Nat} {pc : Nat} {lk : pp_Lk} {L : List (Nat × Value)} {st : List Value} {w : pp_W} {K : pp_St} (hd : decode mi.by_ pc = .ok (.ifCond q o, pp_len (.ifCond q o) lk)) (hst : pp_stt mi pc c (.ifCond q o) lk = true) (hsp : pp_sp g h mi.ret P Y X (.ifCond q o) lk L st w K) (hX : ∀ t L st w, X t L st w → pp_AT g R mi Z off t L st w) (hK : ∀ L st w, K L st w → pp_ATc g R mi Z (off.1 + (pp_cs (.ifCond q o) lk c).1, off.2 + (pp_cs (.ifCond q o) lk c).2) (pc + pp_len (.ifCond q o) lk) L st w) : pp_ATc g R mi Z (off.1 + c.1, off.2 + c.2) pc L st w := by
  match lk, hst, hsp, hd, hK with
  | .inl (t, a, b), hst, hsp, hd, hK =>
    obtain ⟨x, s, rfl, h1, h2⟩ := pp_i_e hsp
    have ht := pp_tgt_1 hst
    cases q
    · exact pr_if_eq hd ht (fun z => (pp_toT hX hst (h1 z)).2) (fun z => hK _ _ _ (h2 z))
    · exact pr_if_ne hd ht (fun z => (pp_toT hX hst (h1 z)).2) (fun z => hK _ _ _ (h2 z))
    · exact pr_if_lt hd ht (fun z => (pp_toT hX hst (h1 z)).2) (fun z => hK _ _ _ (h2 z))
    · exact pr_if_ge hd ht (fun z => (pp_toT hX hst (h1 z)).2) (fun z => hK _ _ _ (h2 z))
    · exact pr_if_gt hd ht (fun z => (pp_toT hX hst (h1 z)).2) (fun z => hK _ _ _ (h2 z))
    · exact pr_if_le hd ht (fun z => (pp_toT hX hst (h1 z)).2) (fun z => hK _ _ _ (h2 z))
theorem ps_if_icmp {q : ClassFile.Cond} {o : Int} {c : Nat × Nat} {pc : Nat} {lk : pp_Lk} {L : List (Nat × Value)} {st : List Value} {w : pp_W} {K : pp_St} (hd : decode mi.by_ pc = .ok (.if_icmp q o, pp_len (.if_icmp q o) lk)) (hst : pp_stt mi pc c (.if_icmp q o) lk = true) (hsp : pp_sp g h mi.ret P Y X (.if_icmp q o) lk L st w K) (hX : ∀ t L st w, X t L st w → pp_AT g R mi Z off t L st w) (hK : ∀ L st w, K L st w → pp_ATc g R mi Z (off.1 + (pp_cs (.if_icmp q o) lk c).1, off.2 + (pp_cs (.if_icmp q o) lk c).2) (pc + pp_len (.if_icmp q o) lk) L st w) : pp_ATc g R mi Z (off.1 + c.1, off.2 + c.2) pc L st w := by
  match lk, hst, hsp, hd, hK with
  | .inl (t, a, b), hst, hsp, hd, hK =>
    obtain ⟨y, s, rfl, hk⟩ := pp_i_e hsp
    obtain ⟨x, s, rfl, h1, h2⟩ := pp_i_e hk
    have ht := pp_tgt_1 hst
    cases q
    · exact pr_icmp_eq hd ht (fun z => (pp_toT hX hst (h1 z)).2) (fun z => hK _ _ _ (h2 z))
    · exact pr_icmp_ne hd ht (fun z => (pp_toT hX hst (h1 z)).2) (fun z => hK _ _ _ (h2 z))
    · exact pr_icmp_lt hd ht (fun z => (pp_toT hX hst (h1 z)).2) (fun z => hK _ _ _ (h2 z))
    · exact pr_icmp_ge hd ht (fun z => (pp_toT hX hst (h1 z)).2) (fun z => hK _ _ _ (h2 z))
    · exact pr_icmp_gt hd ht (fun z => (pp_toT hX hst (h1 z)).2) (fun z => hK _ _ _ (h2 z))
    · exact pr_icmp_le hd ht (fun z => (pp_toT hX hst (h1 z)).2) (fun z => hK _ _ _ (h2 z))
theorem ps_goto {o : Int} {c : Nat × Nat} {pc : Nat} {lk : pp_Lk} {L : List (Nat × Value)} {st : List Value} {w : pp_W} {K : pp_St} (hd : decode mi.by_ pc = .ok (.goto o, pp_len (.goto o) lk)) (hst : pp_stt mi pc c (.goto o) lk = true) (hsp : pp_sp g h mi.ret P Y X (.goto o) lk L st w K) (hX : ∀ t L st w, X t L st w → pp_AT g R mi Z off t L st w) (hK : ∀ L st w, K L st w → pp_ATc g R mi Z (off.1 + (pp_cs (.goto o) lk c).1, off.2 + (pp_cs (.goto o) lk c).2) (pc + pp_len (.goto o) lk) L st w) : pp_ATc g R mi Z (off.1 + c.1, off.2 + c.2) pc L st w := by
  match lk, hst, hsp, hd, hK with
  | .inl (t, a, b), hst, hsp, hd, hK => exact pr_goto hd (pp_tgt_1 hst) (pp_toT hX hst hsp).2
theorem ps_ifnull {o : Int} {c : Nat × Nat} {pc : Nat} {lk : pp_Lk} {L : List (Nat × Value)} {st : List Value} {w : pp_W} {K : pp_St} (hd : decode mi.by_ pc = .ok (.ifnull o, pp_len (.ifnull o) lk)) (hst : pp_stt mi pc c (.ifnull o) lk = true) (hsp : pp_sp g h mi.ret P Y X (.ifnull o) lk L st w K) (hX : ∀ t L st w, X t L st w → pp_AT g R mi Z off t L st w) (hK : ∀ L st w, K L st w → pp_ATc g R mi Z (off.1 + (pp_cs (.ifnull o) lk c).1, off.2 + (pp_cs (.ifnull o) lk c).2) (pc + pp_len (.ifnull o) lk) L st w) : pp_ATc g R mi Z (off.1 + c.1, off.2 + c.2) pc L st w := by
  match lk, hst, hsp, hd, hK with
  | .inl (t, a, b), hst, hsp, hd, hK =>
    have hsp : pp_q st (fun x st => match x with | none => X t L st w | some _ => K L st w) := hsp
    obtain ⟨x, s, rfl, hk⟩ := pp_q_e hsp
    cases x with
    | none => exact pr_ifnullN hd (pp_tgt_1 hst) (pp_toT hX hst hk).2
    | some x => exact pr_ifnull hd (hK _ _ _ hk)
theorem ps_ifnonnull {o : Int} {c : Nat × Nat} {pc : Nat} {lk : pp_Lk} {L : List (Nat × Value)} {st : List Value} {w : pp_W} {K : pp_St} (hd : decode mi.by_ pc = .ok (.ifnonnull o, pp_len (.ifnonnull o) lk)) (hst : pp_stt mi pc c (.ifnonnull o) lk = true) (hsp : pp_sp g h mi.ret P Y X (.ifnonnull o) lk L st w K) (hX : ∀ t L st w, X t L st w → pp_AT g R mi Z off t L st w) (hK : ∀ L st w, K L st w → pp_ATc g R mi Z (off.1 + (pp_cs (.ifnonnull o) lk c).1, off.2 + (pp_cs (.ifnonnull o) lk c).2) (pc + pp_len (.ifnonnull o) lk) L st w) : pp_ATc g R mi Z (off.1 + c.1, off.2 + c.2) pc L st w := by
  match lk, hst, hsp, hd, hK with
  | .inl (t, a, b), hst, hsp, hd, hK =>
    have hsp : pp_q st (fun x st => match x with | none => K L st w | some _ => X t L st w) := hsp
    obtain ⟨x, s, rfl, hk⟩ := pp_q_e hsp
    cases x with
    | none => exact pr_ifnonnullN hd (hK _ _ _ hk)
    | some x => exact pr_ifnonnull hd (pp_tgt_1 hst) (pp_toT hX hst hk).2
theorem pp_sw_e {X : Nat → Prop} {x : Int32} : ∀ (ts : List Nat) (lo : Int) (k t : Nat), pp_sw X x lo ts → ts[k]? = some t → x.toInt = lo + k → X t := by
  intro ts
  induction ts with
  | nil => intro lo k t _ h; simp at h
  | cons a ts ih =>
    intro lo k t hs hk hx
    cases k with
    | zero =>
      simp only [List.getElem?_cons_zero, Option.some.injEq] at hk
      subst hk
      refine hs.1 ?_
      have : lo = x.toInt := by simpa using hx.symm
      rw [this, Int32.ofInt_toInt]
    | succ k => exact ih (lo + 1) k t hs.2 (by simpa using hk) (by rw [hx]; push_cast; omega)
theorem ps_tableswitch {d lo hi : Int} {offs : Array Int} {c : Nat × Nat} {pc : Nat} {lk : pp_Lk} {L : List (Nat × Value)} {st : List Value} {w : pp_W} {K : pp_St} (hd : decode mi.by_ pc = .ok (.tableswitch d lo hi offs, pp_len (.tableswitch d lo hi offs) lk)) (hst : pp_stt mi pc c (.tableswitch d lo hi offs) lk = true) (hsp : pp_sp g h mi.ret P Y X (.tableswitch d lo hi offs) lk L st w K) (hX : ∀ t L st w, X t L st w → pp_AT g R mi Z off t L st w) (hK : ∀ L st w, K L st w → pp_ATc g R mi Z (off.1 + (pp_cs (.tableswitch d lo hi offs) lk c).1, off.2 + (pp_cs (.tableswitch d lo hi offs) lk c).2) (pc + pp_len (.tableswitch d lo hi offs) lk) L st w) : pp_ATc g R mi Z (off.1 + c.1, off.2 + c.2) pc L st w := by
  match lk, hst, hsp, hd, hK with
  | .inl (td, len, ts), hst, hsp, hd, hK =>
    simp only [pp_stt, Bool.and_eq_true, decide_eq_true_eq] at hst
    obtain ⟨⟨⟨ht, hhi⟩, hof⟩, hall⟩ := hst
    obtain ⟨x, s, rfl, h1, h2⟩ := pp_i_e hsp
    by_cases hlo : x.toInt < lo
    · exact pr_tableOut hd (Or.inl hlo) (pp_tgt_1 ht) (pp_toT hX ht (h2 (Or.inl hlo))).2
    · by_cases hhi2 : hi < x.toInt
      · exact pr_tableOut hd (Or.inr hhi2) (pp_tgt_1 ht) (pp_toT hX ht (h2 (Or.inr hhi2))).2
      · obtain ⟨k, hk⟩ : ∃ k : Nat, x.toInt = lo + k := ⟨(x.toInt - lo).toNat, by omega⟩
        have hkl : k < ts.length := by omega
        have hlen : offs.toList.length = ts.length := by
          have := congrArg List.length hof
          simpa using this
        obtain ⟨t, htk⟩ : ∃ t, ts[k]? = some t := ⟨_, List.getElem?_eq_getElem hkl⟩
        obtain ⟨o, hok⟩ : ∃ o, offs.toList[k]? = some o := ⟨_, List.getElem?_eq_getElem (by omega)⟩
        have hpt : (pc : Int) + o = (t : Int) := by
          have := congrArg (fun l : List Int => l[k]?) hof
          simp only [List.getElem?_map, hok, htk, Option.map_some, Option.some.injEq] at this
          exact this
        have hle := pp_le_1 (List.all_eq_true.mp hall t (List.mem_of_getElem? htk))
        refine pr_tableIn (off := o) hd hlo hhi2 ?_ hpt ((hX t _ _ _ (pp_sw_e ts lo k t h1 htk hk)).le (by show off.1 + c.1 ≤ off.1 + _; omega) (by show off.2 + c.2 ≤ off.2 + _; omega))
        rw [show (x.toInt - lo).toNat = k by omega, ← Array.getElem?_toList]
        exact hok
end Sound
