/-! THE ENGINE, 13: a listing of a method, and what it asks-/
section Run
variable {g : pp_G} {R : Room} {mi : pp_MI} {Z : pp_CT → State → Prop} {off : Nat × Nat} {P : pp_R → pp_W → Prop} {Y : String → pp_W → Prop} {X : Nat → pp_St} {h : Nat}
theorem pp_step {i : Instr} {c : Nat × Nat} {pc : Nat} {lk : pp_Lk} {L : List (Nat × Value)} {st : List Value} {w : pp_W} {K : pp_St} (hi : i ≠ .athrow) (hd : decode mi.by_ pc = .ok (i, pp_len i lk)) (hst : pp_stt mi pc c i lk = true) (hsp : pp_sp g h mi.ret P Y X i lk L st w K)
    (hX : ∀ t L st w, X t L st w → pp_AT g R mi Z off t L st w) (hRc : off.1 + mi.mc ≤ R.cells) (hRs : off.2 + mi.ms ≤ R.slots) (hR : pp_big R h) (hE : pp_End g R mi Z off P Y)
    (hK : ∀ L st w, K L st w → pp_ATc g R mi Z (off.1 + (pp_cs i lk c).1, off.2 + (pp_cs i lk c).2) (pc + pp_len i lk) L st w) : pp_ATc g R mi Z (off.1 + c.1, off.2 + c.2) pc L st w := by
  cases i with
  | aconst_null => exact ps_aconst_null hd hst hsp hK
  | iconst => exact ps_iconst hd hst hsp hK
  | bipush => exact ps_bipush hd hst hsp hK
  | sipush => exact ps_sipush hd hst hsp hK
  | lconst => exact ps_lconst hd hst hsp hK
  | ldc => exact ps_ldc hd hst hsp hK
  | ldc_w => exact ps_ldc_w hd hst hsp hK
  | ldc2_w => exact ps_ldc2_w hd hst hsp hK
  | iload => exact ps_iload hd hst hsp hK
  | iload_n => exact ps_iload_n hd hst hsp hK
  | lload => exact ps_lload hd hst hsp hK
  | lload_n => exact ps_lload_n hd hst hsp hK
  | aload => exact ps_aload hd hst hsp hK
  | aload_n => exact ps_aload_n hd hst hsp hK
  | istore => exact ps_istore hd hst hsp hK
  | istore_n => exact ps_istore_n hd hst hsp hK
  | lstore => exact ps_lstore hd hst hsp hK
  | lstore_n => exact ps_lstore_n hd hst hsp hK
  | astore => exact ps_astore hd hst hsp hK
  | astore_n => exact ps_astore_n hd hst hsp hK
  | iinc => exact ps_iinc hd hst hsp hK
  | iadd => exact ps_iadd hd hst hsp hK
  | isub => exact ps_isub hd hst hsp hK
  | imul => exact ps_imul hd hst hsp hK
  | iand => exact ps_iand hd hst hsp hK
  | ior => exact ps_ior hd hst hsp hK
  | ixor => exact ps_ixor hd hst hsp hK
  | ishl => exact ps_ishl hd hst hsp hK
  | ishr => exact ps_ishr hd hst hsp hK
  | iushr => exact ps_iushr hd hst hsp hK
  | idiv => exact ps_idiv hd hst hsp hK
  | ladd => exact ps_ladd hd hst hsp hK
  | lsub => exact ps_lsub hd hst hsp hK
  | lmul => exact ps_lmul hd hst hsp hK
  | land => exact ps_land hd hst hsp hK
  | lor => exact ps_lor hd hst hsp hK
  | lxor => exact ps_lxor hd hst hsp hK
  | ldiv => exact ps_ldiv hd hst hsp hK
  | lrem => exact ps_lrem hd hst hsp hK
  | lcmp => exact ps_lcmp hd hst hsp hK
  | lshl => exact ps_lshl hd hst hsp hK
  | i2l => exact ps_i2l hd hst hsp hK
  | i2b => exact ps_i2b hd hst hsp hK
  | l2i => exact ps_l2i hd hst hsp hK
  | dup => exact ps_dup hd hst hsp hK
  | pop => exact ps_pop hd hst hsp hK
  | pop2 => exact ps_pop2 hd hst hsp hK
  | dup2 => exact ps_dup2 hd hst hsp hK
  | getfield => exact ps_getfield hd hst hsp hK
  | getstatic => exact ps_getstatic hd hst hsp hK
  | i2c => exact ps_i2c hd hst hsp hK
  | putfield => exact ps_putfield hd hst hsp hK
  | arraylength => exact ps_arraylength hd hst hsp hK
  | iaload => exact ps_iaload hd hst hsp hK
  | baload => exact ps_baload hd hst hsp hK
  | laload => exact ps_laload hd hst hsp hK
  | aaload => exact ps_aaload hd hst hsp hK
  | iastore => exact ps_iastore hd hst hsp hK
  | lastore => exact ps_lastore hd hst hsp hK
  | bastore => exact ps_bastore hd hst hsp hK
  | aastore => exact ps_aastore hd hst hsp hK
  | ifCond => exact ps_ifCond hd hst hsp hX hK
  | if_icmp => exact ps_if_icmp hd hst hsp hX hK
  | goto => exact ps_goto hd hst hsp hX hK
  | ifnull => exact ps_ifnull hd hst hsp hX hK
  | ifnonnull => exact ps_ifnonnull hd hst hsp hX hK
  | tableswitch => exact ps_tableswitch hd hst hsp hX hK
  | new => exact ps_new hd hst hsp hRc hRs hK
  | newarray => exact ps_newarray hd hst hsp hRc hRs hK
  | anewarray => exact ps_anewarray hd hst hsp hRc hRs hK
  | invokespecial => exact ps_invokespecial hd hst hsp hRc hRs hR hE hK
  | invokevirtual => exact ps_invokevirtual hd hst hsp hRc hRs hR hE hK
  | invokestatic => exact ps_invokestatic hd hst hsp hRc hRs hR hE hK
  | ireturn => exact ps_ireturn hd hst hsp hRc hRs hR hE hK
  | lreturn => exact ps_lreturn hd hst hsp hRc hRs hR hE hK
  | return_ => exact ps_return hd hst hsp hRc hRs hR hE hK
  | athrow => exact absurd rfl hi
  | _ => exact hsp.elim
/-- what a throw owes -/
def pp_EndT (g : pp_G) (R : Room) (mi : pp_MI) (Z : pp_CT → State → Prop) (off : Nat × Nat) (P : pp_R → pp_W → Prop) : Prop :=
  ∀ (pc is wd : Nat) (tx : String) (q : String × Nat × Nat) (c : Nat × Nat) (L : List (Nat × Value)) (st : List Value) (w : pp_W), mi.y.cls = RX8 → q ∈ pp_exs → (is, tx) ∈ pp_msgs → mi.hh = [] → c.1 + 1 ≤ mi.mc → c.2 + 6 ≤ mi.ms → decode mi.by_ pc = .ok (.new q.2.1, 3) → decode mi.by_ (pc + 3) = .ok (.dup, 1) →
    ((decode mi.by_ (pc + 4) = .ok (.ldc is, 2) ∧ decode mi.by_ (pc + 6) = .ok (.invokespecial q.2.2, 3) ∧ decode mi.by_ (pc + 9) = .ok (.athrow, 1)) ∨ (decode mi.by_ (pc + 4) = .ok (.ldc_w is, 3) ∧ decode mi.by_ (pc + 7) = .ok (.invokespecial q.2.2, 3) ∧ decode mi.by_ (pc + 10) = .ok (.athrow, 1))) →
    st.length ≤ 4 → (∀ k : Nat, P (.inr q.1) (w.1 ++ List.replicate k (15, 0), w.2)) → pp_ATc g R mi Z (off.1 + c.1, off.2 + c.2) pc L st w
theorem pp_run {e : Nat} (hX : ∀ t L st w, X t L st w → pp_AT g R mi Z off t L st w) (hRc : off.1 + mi.mc ≤ R.cells) (hRs : off.2 + mi.ms ≤ R.slots) (hR : pp_big R h) (hE : pp_End g R mi Z off P Y) (hT : pp_EndT g R mi Z off P) :
    ∀ (seg : pp_Seg) (pc : Nat) (c : Nat × Nat) (L : List (Nat × Value)) (st : List Value) (w : pp_W), pp_chk mi e pc c seg = true → pp_wp g h mi.ret P Y X e seg L st w → pp_ATc g R mi Z (off.1 + c.1, off.2 + c.2) pc L st w := by
  intro seg
  induction seg with
  | nil =>
    intro pc c L st w hc hw
    simp only [pp_chk, Bool.and_eq_true, decide_eq_true_eq] at hc
    obtain ⟨rfl, h2⟩ := hc
    have := pp_le_1 h2
    exact (hX _ _ _ _ hw).le (by show off.1 + c.1 ≤ off.1 + _; omega) (by show off.2 + c.2 ≤ off.2 + _; omega)
  | cons q seg ih =>
    intro pc c L st w hc hw
    obtain ⟨i, lk⟩ := q
    by_cases hi : i = .athrow
    · subst hi
      match lk, hc, hw with
      | .inl (x, is, wd :: mp :: l), hc, hw =>
        simp only [pp_chk] at hc
        split at hc
        · rename_i z y hz hy
          simp only [Bool.and_eq_true, decide_eq_true_eq, List.isEmpty_iff] at hc
          obtain ⟨⟨⟨⟨⟨⟨h1, h2⟩, h3⟩, h4⟩, h5⟩, h6⟩, h7⟩ := hc
          have hl := pp_le_1 h4
          dsimp only at hl
          have hw : st.length ≤ 4 ∧ ∀ k : Nat, P (.inr ((pp_exs.getD x ("", 0, 0)).1)) (w.1 ++ List.replicate k (15, 0), w.2) := hw
          have hg : pp_exs.getD x ("", 0, 0) = z := by rw [List.getD_eq_getElem?_getD, hz]; rfl
          rw [hg] at hw
          refine hT pc is wd y.2 z c L st w h1 (List.mem_of_getElem? hz) (by rw [← h2]; exact List.mem_of_getElem? hy) h3 hl.1 hl.2 h5 h6 ?_ hw.1 hw.2
          by_cases hwd : wd = 0
          · rw [if_pos hwd] at h7
            simp only [Bool.and_eq_true, decide_eq_true_eq] at h7
            exact Or.inl ⟨h7.1.1, h7.1.2, h7.2⟩
          · rw [if_neg hwd] at h7
            simp only [Bool.and_eq_true, decide_eq_true_eq] at h7
            exact Or.inr ⟨h7.1.1, h7.1.2, h7.2⟩
        · cases hc
    · have hc : (decide (decode mi.by_ pc = .ok (i, pp_len i lk)) && pp_stt mi pc c i lk && pp_chk mi e (pc + pp_len i lk) (pp_cs i lk c) seg) = true := by
        rw [pp_chk] at hc
        split at hc
        · exact absurd (by assumption) hi
        · exact hc
      simp only [Bool.and_eq_true, decide_eq_true_eq] at hc
      exact pp_step hi hc.1.1 hc.1.2 hw hX hRc hRs hR hE (fun L st w hk => ih _ _ _ _ _ hc.2 hk)
/-- ordinary methods -/
theorem pp_endOK (hh : mi.hh = []) : pp_End g R mi (pp_Z g mi P) (0, 0) P (fun E w => P (.inr E) w) :=
  ⟨fun pc L w hd hr hP => pe_vret hd hr (by show 0 + mi.mc ≤ _; omega) (by show 0 + mi.ms ≤ _; omega) hP, fun pc L w x ty hd hr hn hP => pe_iret hd hr hn (by show 0 + mi.mc ≤ _; omega) (by show 0 + mi.ms ≤ _; omega) hP, fun pc L w x hd hr hP => pe_lret hd hr (by show 0 + mi.mc ≤ _; omega) (by show 0 + mi.ms ≤ _; omega) hP, fun pc L st w E _ hP => pe_out hh (by show 0 + mi.mc ≤ _; omega) (by show 0 + mi.ms ≤ _; omega) hP⟩
theorem pp_endT : pp_EndT g (pp_room h mi) mi (pp_Z g mi P) (0, 0) P := by
  intro pc is wd tx q c L st w h1 h2 h3 h4 h5 h6 d0 d3 dd hst hP
  rcases dd with ⟨d4, d6, d9⟩ | ⟨d4, d6, d9⟩
  · exact pe_throw h1 h2 h3 h4 (by show 0 + c.1 + 1 ≤ _; omega) (by show 0 + c.2 + 6 ≤ _; omega) d0 d3 d4 d6 d9 hst hP
  · exact pe_throwW h1 h2 h3 h4 (by show 0 + c.1 + 1 ≤ _; omega) (by show 0 + c.2 + 6 ≤ _; omega) d0 d3 d4 d6 d9 hst hP
/-- THE JUDGEMENT of ordinary methods: at the label pc; calls go one lower -/
def pp_N (g : pp_G) (h : Nat) (mi : pp_MI) (P : pp_R → pp_W → Prop) (pc : Nat) : pp_St := fun L st w => pp_AT g (pp_room (h + 1) mi) mi (pp_Z g mi P) (0, 0) pc L st w
theorem pp_go {e pc : Nat} {seg : pp_Seg} {L : List (Nat × Value)} {st : List Value} {w : pp_W} (hh : mi.hh = []) (hc : pp_chk mi e pc (pp_cnt mi pc) seg = true) (hw : pp_wp g h mi.ret P (fun E w => P (.inr E) w) (pp_N g h mi P) e seg L st w) : pp_N g h mi P pc L st w :=
  pp_run (R := pp_room (h + 1) mi) (off := (0, 0)) (X := pp_N g h mi P) (fun _ _ _ _ hx => hx) (by show 0 + mi.mc ≤ mi.mc; omega) (by show 0 + mi.ms ≤ mi.ms; omega) ⟨by show h + 9 ≤ h + 1 + 8; omega, by show 40 * h + 240 ≤ 40 * (h + 1) + 200; omega⟩ (pp_endOK hh) pp_endT seg pc _ L st w hc hw
theorem pp_start {av : List Value} {w : pp_W} (hok : pp_MIok mi) (hh : mi.hh = []) (hl : (lg_sl av).length ≤ mi.nL) (k : pp_N g h mi P 0 (lv_args 0 av) [] w) : pp_MW g (h + 1) mi av w P :=
  pp_enter hok hh hl (k.le (Nat.zero_le _) (Nat.zero_le _))
theorem pp_N.sub {pc : Nat} {L L' : List (Nat × Value)} {st : List Value} {w : pp_W} (k : pp_N g h mi P pc L' st w) (hL : ∀ q ∈ L', q ∈ L) : pp_N g h mi P pc L st w := pp_ATc.sub k hL
end Run
