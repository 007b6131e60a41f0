/-! THE ENGINE, 12: soundness, the heap and calls -/
section Outside
variable {g : pp_G} {R : Room} {mi mj : pp_MI} {Z : pp_CT → State → Prop} {cs : Nat × Nat} {pc h : Nat} {L : List (Nat × Value)} {st : List Value} {w : pp_W}
theorem pp_ad_lo (g : pp_G) {k : Nat} (h : k < 64) : pp_ad g k = pp_x g k := if_pos h
theorem pr_xval {idx a : Nat} (hd : decode mi.by_ pc = .ok (.getfield idx, 3)) (hlk : Cond.fieldLink mi.y.cls idx "java/lang/String" "value" "[B" ∈ pp_T) (ha : 1 ≤ a ∧ a ≤ 15) (kk : pp_ATc g R mi Z cs (pc + 3) L (.ref (a + 15) :: st) w) : pp_ATc g R mi Z cs pc L (.ref a :: st) w := by
  intro t C H locs ls cells slots hP hS hl h1 h2
  have kw := kk t C H locs ls cells slots hP hS hl h1 h2
  obtain ⟨i, rfl⟩ : ∃ i, a = i + 1 := ⟨a - 1, by omega⟩
  simp only [List.map_cons, pp_v] at kw ⊢
  rw [pp_ad_lo g (by omega)] at kw ⊢
  exact vk_getf C.1 C.2.1 (C.2.2.2.2.2.2.2.2.2.2.1.1 i (by omega)).2.2.1 hS C.2.2.2.1 (C.2.2.2.2.1 _ hlk) (fun _ h => h) hd kw
theorem pr_xcod {idx a : Nat} (hd : decode mi.by_ pc = .ok (.getfield idx, 3)) (hlk : Cond.fieldLink mi.y.cls idx "java/lang/String" "coder" "B" ∈ pp_T) (ha : 1 ≤ a ∧ a ≤ 15) (kk : pp_ATc g R mi Z cs (pc + 3) L (.int 0 :: st) w) : pp_ATc g R mi Z cs pc L (.ref a :: st) w := by
  intro t C H locs ls cells slots hP hS hl h1 h2
  have kw := kk t C H locs ls cells slots hP hS hl h1 h2
  obtain ⟨i, rfl⟩ : ∃ i, a = i + 1 := ⟨a - 1, by omega⟩
  simp only [List.map_cons, pp_v] at kw ⊢
  rw [pp_ad_lo g (by omega)]
  exact vk_getf C.1 C.2.1 (C.2.2.2.2.2.2.2.2.2.2.1.1 i (by omega)).2.1 hS C.2.2.2.1 (C.2.2.2.2.1 _ hlk) (fun _ h => h) hd kw
theorem pr_xcs {idx : Nat} (hd : decode mi.by_ pc = .ok (.getstatic idx, 3)) (hlk : Cond.fieldLink mi.y.cls idx "java/lang/String" "COMPACT_STRINGS" "Z" ∈ pp_T) (kk : pp_ATc g R mi Z cs (pc + 3) L (.int 1 :: st) w) : pp_ATc g R mi Z cs pc L st w :=
  fun t C H locs ls cells slots hP hS hl h1 h2 => va_gets C.1 C.2.1 C.2.2.2.2.2.2.2.2.2.2.1.2.2.2.2.2.2.2.1 hS C.2.2.2.1 (C.2.2.2.2.1 _ hlk) (fun _ h => h) hd (kk t C H locs ls cells slots hP hS hl h1 h2)
theorem pr_xfm {idx : Nat} (hd : decode mi.by_ pc = .ok (.getstatic idx, 3)) (hlk : Cond.fieldLink mi.y.cls idx "jdk/internal/util/Preconditions" "SIOOBE_FORMATTER" "Ljava/util/function/BiFunction;" ∈ pp_T) (k1 : pp_ATc g R mi Z cs (pc + 3) L (.null :: st) w) (k2 : pp_ATc g R mi Z cs (pc + 3) L (.ref 31 :: st) w) : pp_ATc g R mi Z cs pc L st w := by
  intro t C H locs ls cells slots hP hS hl h1 h2
  rcases C.2.2.2.2.2.2.2.2.2.2.1.2.2.2.2.2.2.2.2.1 with z | z
  · exact va_gets C.1 C.2.1 z hS C.2.2.2.1 (C.2.2.2.2.1 _ hlk) (fun _ h => h) hd (k1 t C H locs ls cells slots hP hS hl h1 h2)
  · exact va_gets C.1 C.2.1 z hS C.2.2.2.1 (C.2.2.2.2.1 _ hlk) (fun _ h => h) hd (k2 t C H locs ls cells slots hP hS hl h1 h2)
theorem pr_xlen {a : Nat} (hd : decode mi.by_ pc = .ok (.arraylength, 1)) (ha : 16 ≤ a ∧ a ≤ 30) (kk : pp_ATc g R mi Z cs (pc + 1) L (.int (Int32.ofNat (pp_txt.getD (a - 16) []).length) :: st) w) : pp_ATc g R mi Z cs pc L (.ref a :: st) w := by
  intro t C H locs ls cells slots hP hS hl h1 h2
  have kw := kk t C H locs ls cells slots hP hS hl h1 h2
  obtain ⟨i, rfl⟩ : ∃ i, a = i + 16 := ⟨a - 16, by omega⟩
  simp only [List.map_cons, pp_v] at kw ⊢
  rw [pp_ad_lo g (by omega)]
  rw [Nat.add_sub_cancel] at kw
  exact va_tlen C.1 C.2.1 (C.2.2.2.2.2.2.2.2.2.2.1.1 i (by omega)).2.2.2 hS rfl hd kw
theorem pr_xld {a : Nat} {j : Int32} (hd : decode mi.by_ pc = .ok (.baload, 1)) (ha : 16 ≤ a ∧ a ≤ 30) (hin : vp_in j (pp_txt.getD (a - 16) []).length) (kk : pp_ATc g R mi Z cs (pc + 1) L (.int ((pp_txt.getD (a - 16) []).getD j.toNatClampNeg 0) :: st) w) : pp_ATc g R mi Z cs pc L (.int j :: .ref a :: st) w := by
  intro t C H locs ls cells slots hP hS hl h1 h2
  have kw := kk t C H locs ls cells slots hP hS hl h1 h2
  obtain ⟨i, rfl⟩ : ∃ i, a = i + 16 := ⟨a - 16, by omega⟩
  simp only [List.map_cons, pp_v] at kw ⊢
  rw [pp_ad_lo g (by omega)]
  rw [Nat.add_sub_cancel] at kw hin
  exact va_tb C.1 C.2.1 (C.2.2.2.2.2.2.2.2.2.2.1.1 i (by omega)).2.2.2 hS hin rfl hd kw
theorem pr_slen {a : Nat} (hd : decode mi.by_ pc = .ok (.arraylength, 1)) (hy : mi.y = yL_law) (ha : a = 0) (kk : pp_ATc g R mi Z cs (pc + 1) L (.int (Int32.ofNat (pp_sL g)) :: st) w) : pp_ATc g R mi Z cs pc L (.ref a :: st) w := by
  intro t C H locs ls cells slots hP hS hl h1 h2
  have kw := kk t C H locs ls cells slots hP hS hl h1 h2
  subst ha
  simp only [List.map_cons, pp_v] at kw ⊢
  rw [pp_ad_lo g (by omega)]
  obtain ⟨hX, hlt⟩ := C.2.2.2.2.2.2.2.2.2.2.2.2.2 hy
  have hb0 := C.2.2.2.2.2.2.2.2.2.2.2.1
  exact va_slen (A := pp_A g) C.1 C.2.1 hX (by omega) (Nat.not_le.mpr hlt) hS hd kw
theorem pr_sld {a : Nat} {j : Int32} (hd : decode mi.by_ pc = .ok (.iaload, 1)) (hy : mi.y = yL_law) (ha : a = 0) (hin : vp_in j (pp_sL g)) (kk : pp_ATc g R mi Z cs (pc + 1) L (.int (pp_sx g j.toNatClampNeg) :: st) w) : pp_ATc g R mi Z cs pc L (.int j :: .ref a :: st) w := by
  intro t C H locs ls cells slots hP hS hl h1 h2
  have kw := kk t C H locs ls cells slots hP hS hl h1 h2
  subst ha
  simp only [List.map_cons, pp_v] at kw ⊢
  rw [pp_ad_lo g (by omega)]
  obtain ⟨hX, hlt⟩ := C.2.2.2.2.2.2.2.2.2.2.2.2.2 hy
  have hb0 := C.2.2.2.2.2.2.2.2.2.2.2.1
  exact va_sld (A := pp_A g) C.1 C.2.1 hX (by omega) (Nat.not_le.mpr hlt) hS hin hd kw
theorem pr_i2c {x : Int32} (hd : decode mi.by_ pc = .ok (.i2c, 1)) (kk : pp_ATc g R mi Z cs (pc + 1) L (.int (x.toUInt32 % 65536).toInt32 :: st) w) : pp_ATc g R mi Z cs pc L (.int x :: st) w :=
  fun t C H locs ls cells slots hP hS hl a b => lv_i2c C.1 C.2.1 hd rfl (kk t C H locs ls cells slots hP hS hl a b)
theorem pr_callX {idx b : Nat} {As : List Value} {P : pp_R → pp_W → Prop} (hd : decode mi.by_ pc = .ok (.invokevirtual idx, 3)) (hlk : Cond.methodLink mi.y.cls idx mj.y ∈ pp_T) (hkd : mj.kd = 1) (hh : mj.hh = []) (hrc : mj.y.cls = "java/lang/String") (hb9 : 1 ≤ b ∧ b ≤ 15) (hlen : As.length = mj.np) (hR : pp_big R h) (hc : cs.1 + mj.mc ≤ R.cells) (hs : cs.2 + mj.ms ≤ R.slots) (hst : st.length ≤ 4)
    (hM : pp_MW g h mj (.ref b :: As) w P) (hk : ∀ r w, P r w → pp_K1 g R mi Z (cs.1 + mj.mc, cs.2 + mj.ms) pc L st r w) : pp_ATc g R mi Z cs pc L (As.reverse ++ .ref b :: st) w := by
  intro t C H locs ls cells slots hP hS hl h1 h2
  have hok := hM.1
  obtain ⟨hsel1, hsel2⟩ : Cond.instanceMethod mj.y ∈ pp_T ∧ Cond.selects mj.y.cls mj.y mj.y ∈ pp_T := by
    rcases hok.2.2.2.2.2.2.1 with ⟨h, -⟩ | ⟨-, h⟩ | ⟨h, -⟩
    · rw [hkd] at h; cases h
    · exact h
    · rw [hkd] at h; cases h
  have e9 : (As.reverse ++ .ref b :: st).map (pp_v g) = (As.map (pp_v g)).reverse ++ .ref (pp_ad g b) :: st.map (pp_v g) := by
    rw [List.map_append, List.map_reverse]; rfl
  rw [e9]
  have hrecv : ∃ cell : Cell, H[pp_ad g b]? = some cell ∧ cell.vm.isStatics = false ∧ t.s.vm.findClass "java/lang/String" = some cell.cls := by
    obtain ⟨i, rfl⟩ : ∃ i, b = i + 1 := ⟨b - 1, by omega⟩
    rw [pp_ad_lo g (by omega)]
    obtain ⟨cell, q1, q2, q3, -⟩ := (C.2.2.2.2.2.2.2.2.2.2.1.1 i (by omega)).1.kept hS.2.1
    exact ⟨cell, q1, q2, q3⟩
  refine pp_after C hS hl (vx_runV (C := "java/lang/String") (As := As.map (pp_v g)) (b := pp_ad g b) ⟨C.1, C.2.1, C.2.2.1, C.2.2.2.1, C.2.2.2.2.1⟩ hM.2 ⟨pp_callB C hok hh hR hlk, C.2.2.2.2.1 _ hsel1, by rw [← hrc]; exact C.2.2.2.2.1 _ hsel2⟩ ⟨pp_blind g _ w, hrecv, pp_pre C hP hS (.ref b :: As)⟩ rfl (by rw [List.length_map]; exact hlen) hl.1 rfl (pp_rest g hst) hd ⟨by omega, by omega⟩) h1 h2 hk
theorem pp_mathW : ∀ w ∈ [Cond.static Lib.Math.min.name, Cond.static Lib.Math.max.name, Cond.static Lib.MathLoose.min_long.x, Cond.initialized "java/lang/Math", Cond.code Lib.Math.min.name Lib.Math.min.code 2 (some .int), Cond.code Lib.Math.max.name Lib.Math.max.code 2 (some .int), Cond.code Lib.MathLoose.min_long.x Lib.MathLoose.min_long.code 4 (some .long)], w ∈ pp_T := pp_sub (by decide +kernel)
theorem pr_min {idx : Nat} {x y : Int32} (hd : decode mi.by_ pc = .ok (.invokestatic idx, 3)) (hlk : Cond.methodLink mi.y.cls idx Lib.Math.min.name ∈ pp_T) (hR : pp_big R h) (hc : cs.1 ≤ R.cells) (hs : cs.2 ≤ R.slots) (hst : st.length ≤ 4) (kk : pp_ATc g R mi Z cs (pc + 3) L (.int (if y < x then y else x) :: st) w) : pp_ATc g R mi Z cs pc L (.int y :: .int x :: st) w :=
  fun t C H locs ls cells slots hP hS hl h1 h2 => va_mmin C.1 C.2.1 (by rw [C.2.2.1]; exact hl.1.symm) C.2.2.2.1 (C.2.2.2.2.1 _ hlk) (C.2.2.2.2.1 _ (pp_mathW _ (by simp))) (C.2.2.2.2.1 _ (pp_mathW _ (by simp))) (C.2.2.2.2.1 _ (pp_mathW _ (by simp))) (by have := hR.1; omega) (by have := hR.2; have := pp_cat_le g st; omega) (by omega) (by omega) hd (kk t C H locs ls cells slots hP hS hl h1 h2)
theorem pr_max {idx : Nat} {x y : Int32} (hd : decode mi.by_ pc = .ok (.invokestatic idx, 3)) (hlk : Cond.methodLink mi.y.cls idx Lib.Math.max.name ∈ pp_T) (hR : pp_big R h) (hc : cs.1 ≤ R.cells) (hs : cs.2 ≤ R.slots) (hst : st.length ≤ 4) (kk : pp_ATc g R mi Z cs (pc + 3) L (.int (if x < y then y else x) :: st) w) : pp_ATc g R mi Z cs pc L (.int y :: .int x :: st) w :=
  fun t C H locs ls cells slots hP hS hl h1 h2 => va_mmax C.1 C.2.1 (by rw [C.2.2.1]; exact hl.1.symm) C.2.2.2.1 (C.2.2.2.2.1 _ hlk) (C.2.2.2.2.1 _ (pp_mathW _ (by simp))) (C.2.2.2.2.1 _ (pp_mathW _ (by simp))) (C.2.2.2.2.1 _ (pp_mathW _ (by simp))) (by have := hR.1; omega) (by have := hR.2; have := pp_cat_le g st; omega) (by omega) (by omega) hd (kk t C H locs ls cells slots hP hS hl h1 h2)
theorem pr_minL {idx : Nat} {x y : Int64} (hd : decode mi.by_ pc = .ok (.invokestatic idx, 3)) (hlk : Cond.methodLink mi.y.cls idx Lib.MathLoose.min_long.x ∈ pp_T) (hR : pp_big R h) (hc : cs.1 ≤ R.cells) (hs : cs.2 ≤ R.slots) (hst : st.length ≤ 4) (kk : pp_ATc g R mi Z cs (pc + 3) L (.long (if y < x then y else x) :: st) w) : pp_ATc g R mi Z cs pc L (.long y :: .long x :: st) w :=
  fun t C H locs ls cells slots hP hS hl h1 h2 => va_mmin_long C.1 C.2.1 (by rw [C.2.2.1]; exact hl.1.symm) C.2.2.2.1 (C.2.2.2.2.1 _ hlk) (C.2.2.2.2.1 _ (pp_mathW _ (by simp))) (C.2.2.2.2.1 _ (pp_mathW _ (by simp))) (C.2.2.2.2.1 _ (pp_mathW _ (by simp))) (by have := hR.1; omega) (by have := hR.2; have := pp_cat_le g st; omega) (by omega) (by omega) hd (kk t C H locs ls cells slots hP hS hl h1 h2)
end Outside
section Sound2
variable {g : pp_G} {R : Room} {mi : pp_MI} {Z : pp_CT → State → Prop} {off : Nat × Nat} {P : pp_R → pp_W → Prop} {Y : String → pp_W → Prop} {X : Nat → pp_St} {h : Nat}
theorem pp_fl_e {n ci k t p : Nat} {b : Bool} (hf : pp_fl mi n ci k t p b = true) : ∃ r : vw_C, pp_cl[ci]? = some r ∧ k < r.2.2 ∧ pp_fk ci k = t ∧ Cond.fieldLink mi.y.cls n (r.2.1 k).1 (r.2.1 k).2.1 (r.2.1 k).2.2.1 ∈ pp_T ∧ (b = true → (r.2.1 k).2.2.2 = false ∨ ((r.2.1 k).2.2.2 = true ∧ mi.y.name = "<init>" ∧ (r.2.1 k).1 = mi.y.cls)) := by
  unfold pp_fl at hf
  split at hf
  · rename_i r hr
    simp only [Bool.and_eq_true, decide_eq_true_eq, Bool.or_eq_true, Bool.not_eq_true'] at hf
    obtain ⟨⟨⟨h1, h2⟩, h3⟩, h4⟩ := hf
    refine ⟨r, hr, h1, h2, pp_w_in h3, fun hb => ?_⟩
    rcases h4 with (h4 | h4) | h4
    · rw [hb] at h4; cases h4
    · exact Or.inl h4
    · cases hz : (r.2.1 k).2.2.2 with
      | false => exact Or.inl rfl
      | true => exact Or.inr ⟨rfl, h4.1, h4.2⟩
  · cases hf
theorem ps_getfield {n : Nat} {c : Nat × Nat} {pc : Nat} {lk : pp_Lk} {L : List (Nat × Value)} {st : List Value} {w : pp_W} {K : pp_St} (hd : decode mi.by_ pc = .ok (.getfield n, pp_len (.getfield n) lk)) (hst : pp_stt mi pc c (.getfield n) lk = true) (hsp : pp_sp g h mi.ret P Y X (.getfield n) lk L st w K) (hK : ∀ L st w, K L st w → pp_ATc g R mi Z (off.1 + (pp_cs (.getfield n) lk c).1, off.2 + (pp_cs (.getfield n) lk c).2) (pc + pp_len (.getfield n) lk) L st w) : pp_ATc g R mi Z (off.1 + c.1, off.2 + c.2) pc L st w := by
  match lk, hst, hsp, hd, hK with
  | .inl (ci, k, 0 :: p :: l), hst, hsp, hd, hK =>
    obtain ⟨a, s, rfl, ha, hk⟩ := pp_r_e hsp
    obtain ⟨r, hr, h1, h2, h3, -⟩ := pp_fl_e hst
    exact pr_get hd hr h1 h3 ha (by rw [h2]; rfl) (hK _ _ _ hk)
  | .inl (ci, k, 1 :: p :: l), hst, hsp, hd, hK =>
    obtain ⟨a, s, rfl, ha, hk⟩ := pp_r_e hsp
    obtain ⟨r, hr, h1, h2, h3, -⟩ := pp_fl_e hst
    exact pr_get hd hr h1 h3 ha (by rw [h2]; rfl) (hK _ _ _ hk)
  | .inl (ci, k, 2 :: p :: l), hst, hsp, hd, hK =>
    obtain ⟨a, s, rfl, ha, hk⟩ := pp_r_e hsp
    obtain ⟨r, hr, h1, h2, h3, -⟩ := pp_fl_e hst
    exact pr_get hd hr h1 h3 ha (by rw [h2]; exact pp_v_rf g _) (hK _ _ _ hk)
  | .inl (ci, k, 3 :: p :: l), hst, hsp, hd, hK =>
    obtain ⟨a, s, rfl, ha, hk⟩ := pp_r_e hsp
    exact pr_xval hd (pp_w_in hst) ha (hK _ _ _ hk)
  | .inl (ci, k, 4 :: p :: l), hst, hsp, hd, hK =>
    obtain ⟨a, s, rfl, ha, hk⟩ := pp_r_e hsp
    exact pr_xcod hd (pp_w_in hst) ha (hK _ _ _ hk)
theorem ps_getstatic {n : Nat} {c : Nat × Nat} {pc : Nat} {lk : pp_Lk} {L : List (Nat × Value)} {st : List Value} {w : pp_W} {K : pp_St} (hd : decode mi.by_ pc = .ok (.getstatic n, pp_len (.getstatic n) lk)) (hst : pp_stt mi pc c (.getstatic n) lk = true) (hsp : pp_sp g h mi.ret P Y X (.getstatic n) lk L st w K) (hK : ∀ L st w, K L st w → pp_ATc g R mi Z (off.1 + (pp_cs (.getstatic n) lk c).1, off.2 + (pp_cs (.getstatic n) lk c).2) (pc + pp_len (.getstatic n) lk) L st w) : pp_ATc g R mi Z (off.1 + c.1, off.2 + c.2) pc L st w := by
  match lk, hst, hsp, hd, hK with
  | .inl (0, p, l), hst, hsp, hd, hK => exact pr_xcs hd (pp_w_in hst) (hK _ _ _ hsp)
  | .inl (1, p, l), hst, hsp, hd, hK => exact pr_xfm hd (pp_w_in hst) (hK _ _ _ hsp.1) (hK _ _ _ hsp.2)
theorem ps_i2c {c : Nat × Nat} {pc : Nat} {lk : pp_Lk} {L : List (Nat × Value)} {st : List Value} {w : pp_W} {K : pp_St} (hd : decode mi.by_ pc = .ok (.i2c, pp_len (.i2c) lk)) (hst : pp_stt mi pc c (.i2c) lk = true) (hsp : pp_sp g h mi.ret P Y X (.i2c) lk L st w K) (hK : ∀ L st w, K L st w → pp_ATc g R mi Z (off.1 + (pp_cs (.i2c) lk c).1, off.2 + (pp_cs (.i2c) lk c).2) (pc + pp_len (.i2c) lk) L st w) : pp_ATc g R mi Z (off.1 + c.1, off.2 + c.2) pc L st w := by
  obtain ⟨x, s, rfl, hk⟩ := pp_i_e hsp
  exact pr_i2c hd (hK _ _ _ hk)
theorem ps_putfield {n : Nat} {c : Nat × Nat} {pc : Nat} {lk : pp_Lk} {L : List (Nat × Value)} {st : List Value} {w : pp_W} {K : pp_St} (hd : decode mi.by_ pc = .ok (.putfield n, pp_len (.putfield n) lk)) (hst : pp_stt mi pc c (.putfield n) lk = true) (hsp : pp_sp g h mi.ret P Y X (.putfield n) lk L st w K) (hK : ∀ L st w, K L st w → pp_ATc g R mi Z (off.1 + (pp_cs (.putfield n) lk c).1, off.2 + (pp_cs (.putfield n) lk c).2) (pc + pp_len (.putfield n) lk) L st w) : pp_ATc g R mi Z (off.1 + c.1, off.2 + c.2) pc L st w := by
  match lk, hst, hsp, hd, hK with
  | .inl (ci, k, 0 :: p :: l), hst, hsp, hd, hK =>
    obtain ⟨x, s, rfl, hk⟩ := pp_i_e hsp
    obtain ⟨a, s, rfl, ha, hk⟩ := pp_r_e hk
    obtain ⟨r, hr, h1, h2, h3, h4⟩ := pp_fl_e hst
    have hty := pp_fkD (pp_fkOK hr k h1)
    rw [h2] at hty
    have hty : pp_ty ci k = .int := by
      rcases hty with ⟨-, z⟩ | ⟨z, -⟩ | ⟨z, -⟩
      · exact z
      · cases z
      · cases z
    refine pr_put (v := .int x) (m' := (pp_s w.2.1 a (va_up (w.2.1 a) k x), w.2.2)) hd hr h1 h3 (h4 rfl) (by rw [hty]; rfl) (by rw [hty]; rfl) ha (fun i hi => pp_s_ne _ _ hi) (fun i hi => rfl) (fun i hi => rfl) ?_ (fun j hj => ?_) (hK _ _ _ hk)
    · rw [h2]
      simp only [pp_fv, pp_s_eq, va_up, if_pos]
      rfl
    · simp only [pp_fv, pp_s_eq, va_up, if_neg hj]
  | .inl (ci, k, 1 :: p :: l), hst, hsp, hd, hK =>
    obtain ⟨x, s, rfl, hk⟩ := pp_j_e hsp
    obtain ⟨a, s, rfl, ha, hk⟩ := pp_r_e hk
    obtain ⟨r, hr, h1, h2, h3, h4⟩ := pp_fl_e hst
    have hty := pp_fkD (pp_fkOK hr k h1)
    rw [h2] at hty
    have hty : pp_ty ci k = .long := by
      rcases hty with ⟨z, -⟩ | ⟨-, z⟩ | ⟨z, -⟩
      · cases z
      · exact z
      · cases z
    refine pr_put (v := .long x) (m' := (w.2.1, pp_s w.2.2.1 a (va_up (w.2.2.1 a) k x), w.2.2.2)) hd hr h1 h3 (h4 rfl) (by rw [hty]; rfl) (by rw [hty]; rfl) ha (fun i hi => rfl) (fun i hi => pp_s_ne _ _ hi) (fun i hi => rfl) ?_ (fun j hj => ?_) (hK _ _ _ hk)
    · rw [h2]
      simp only [pp_fv, pp_s_eq, va_up, if_pos]
      rfl
    · simp only [pp_fv, pp_s_eq, va_up, if_neg hj]
  | .inl (ci, k, 2 :: p :: l), hst, hsp, hd, hK =>
    have hsp : pp_q st (fun x st => pp_r st (fun a st => w.1[a]? = some (ci, 0) ∧ K L st (w.1, w.2.1, w.2.2.1, pp_s w.2.2.2 a (va_up (w.2.2.2 a) k x)))) := hsp
    obtain ⟨x, s, rfl, hk⟩ := pp_q_e hsp
    obtain ⟨a, s, rfl, ha, hk⟩ := pp_r_e hk
    obtain ⟨r, hr, h1, h2, h3, h4⟩ := pp_fl_e hst
    have hty := pp_fkD (pp_fkOK hr k h1)
    rw [h2] at hty
    have hty : (∃ C, pp_ty ci k = .object C) ∨ ∃ t, pp_ty ci k = .array t := by
      rcases hty with ⟨z, -⟩ | ⟨z, -⟩ | ⟨-, z⟩
      · cases z
      · cases z
      · exact z
    refine pr_put (v := pp_rf x) (m' := (w.2.1, w.2.2.1, pp_s w.2.2.2 a (va_up (w.2.2.2 a) k x))) hd hr h1 h3 (h4 rfl) (by rcases hty with ⟨_, z⟩ | ⟨_, z⟩ <;> rw [z] <;> cases x <;> rfl) (by rcases hty with ⟨_, z⟩ | ⟨_, z⟩ <;> rw [z] <;> cases x <;> rfl) ha (fun i hi => rfl) (fun i hi => rfl) (fun i hi => pp_s_ne _ _ hi) ?_ (fun j hj => ?_) (hK _ _ _ hk)
    · rw [h2, pp_v_rf]
      simp only [pp_fv, pp_s_eq, va_up, if_pos]
    · simp only [pp_fv, pp_s_eq, va_up, if_neg hj]
theorem ps_arraylength {c : Nat × Nat} {pc : Nat} {lk : pp_Lk} {L : List (Nat × Value)} {st : List Value} {w : pp_W} {K : pp_St} (hd : decode mi.by_ pc = .ok (.arraylength, pp_len (.arraylength) lk)) (hst : pp_stt mi pc c (.arraylength) lk = true) (hsp : pp_sp g h mi.ret P Y X (.arraylength) lk L st w K) (hK : ∀ L st w, K L st w → pp_ATc g R mi Z (off.1 + (pp_cs (.arraylength) lk c).1, off.2 + (pp_cs (.arraylength) lk c).2) (pc + pp_len (.arraylength) lk) L st w) : pp_ATc g R mi Z (off.1 + c.1, off.2 + c.2) pc L st w := by
  match lk, hst, hsp, hd, hK with
  | .inl (0, b, l), hst, hsp, hd, hK =>
    obtain ⟨a, s, rfl, hk⟩ := pp_r_e hsp
    obtain ⟨t, n, e, ht, hk⟩ := pp_al_e hk
    exact pr_alen hd e ht rfl (hK _ _ _ hk)
  | .inl (1, b, l), hst, hsp, hd, hK =>
    obtain ⟨a, s, rfl, ha, hk⟩ := pp_r_e hsp
    exact pr_slen hd (of_decide_eq_true hst) ha (hK _ _ _ hk)
  | .inl (2, b, l), hst, hsp, hd, hK =>
    obtain ⟨a, s, rfl, ha, hk⟩ := pp_r_e hsp
    exact pr_xlen hd ha (hK _ _ _ hk)
theorem ps_iaload {c : Nat × Nat} {pc : Nat} {lk : pp_Lk} {L : List (Nat × Value)} {st : List Value} {w : pp_W} {K : pp_St} (hd : decode mi.by_ pc = .ok (.iaload, pp_len (.iaload) lk)) (hst : pp_stt mi pc c (.iaload) lk = true) (hsp : pp_sp g h mi.ret P Y X (.iaload) lk L st w K) (hK : ∀ L st w, K L st w → pp_ATc g R mi Z (off.1 + (pp_cs (.iaload) lk c).1, off.2 + (pp_cs (.iaload) lk c).2) (pc + pp_len (.iaload) lk) L st w) : pp_ATc g R mi Z (off.1 + c.1, off.2 + c.2) pc L st w := by
  match lk, hst, hsp, hd, hK with
  | .inl (0, b, l), hst, hsp, hd, hK =>
    obtain ⟨j, s, rfl, hk⟩ := pp_i_e hsp
    obtain ⟨a, s, rfl, hk⟩ := pp_r_e hk
    obtain ⟨n, e, hin, hk⟩ := pp_in_e hk
    exact pr_iald hd e hin (hK _ _ _ hk)
  | .inl (1, b, l), hst, hsp, hd, hK =>
    obtain ⟨j, s, rfl, hk⟩ := pp_i_e hsp
    obtain ⟨a, s, rfl, ha, hin, hk⟩ := pp_r_e hk
    exact pr_sld hd (of_decide_eq_true hst) ha hin (hK _ _ _ hk)
theorem ps_baload {c : Nat × Nat} {pc : Nat} {lk : pp_Lk} {L : List (Nat × Value)} {st : List Value} {w : pp_W} {K : pp_St} (hd : decode mi.by_ pc = .ok (.baload, pp_len (.baload) lk)) (hst : pp_stt mi pc c (.baload) lk = true) (hsp : pp_sp g h mi.ret P Y X (.baload) lk L st w K) (hK : ∀ L st w, K L st w → pp_ATc g R mi Z (off.1 + (pp_cs (.baload) lk c).1, off.2 + (pp_cs (.baload) lk c).2) (pc + pp_len (.baload) lk) L st w) : pp_ATc g R mi Z (off.1 + c.1, off.2 + c.2) pc L st w := by
  match lk, hst, hsp, hd, hK with
  | .inl (0, b, l), hst, hsp, hd, hK =>
    obtain ⟨j, s, rfl, hk⟩ := pp_i_e hsp
    obtain ⟨a, s, rfl, hk⟩ := pp_r_e hk
    obtain ⟨n, e, hin, hk⟩ := pp_in_e hk
    exact pr_bald hd e hin (hK _ _ _ hk)
  | .inl (1, b, l), hst, hsp, hd, hK =>
    obtain ⟨j, s, rfl, hk⟩ := pp_i_e hsp
    obtain ⟨a, s, rfl, hk⟩ := pp_r_e hk
    obtain ⟨n, e, hin, hk⟩ := pp_in_e hk
    exact pr_zald hd e hin (hK _ _ _ hk)
  | .inl (2, b, l), hst, hsp, hd, hK =>
    obtain ⟨j, s, rfl, hk⟩ := pp_i_e hsp
    obtain ⟨a, s, rfl, ha, hin, hk⟩ := pp_r_e hk
    exact pr_xld hd ha hin (hK _ _ _ hk)
theorem ps_laload {c : Nat × Nat} {pc : Nat} {lk : pp_Lk} {L : List (Nat × Value)} {st : List Value} {w : pp_W} {K : pp_St} (hd : decode mi.by_ pc = .ok (.laload, pp_len (.laload) lk)) (hst : pp_stt mi pc c (.laload) lk = true) (hsp : pp_sp g h mi.ret P Y X (.laload) lk L st w K) (hK : ∀ L st w, K L st w → pp_ATc g R mi Z (off.1 + (pp_cs (.laload) lk c).1, off.2 + (pp_cs (.laload) lk c).2) (pc + pp_len (.laload) lk) L st w) : pp_ATc g R mi Z (off.1 + c.1, off.2 + c.2) pc L st w := by
  obtain ⟨j, s, rfl, hk⟩ := pp_i_e hsp
  obtain ⟨a, s, rfl, hk⟩ := pp_r_e hk
  obtain ⟨n, e, hin, hk⟩ := pp_in_e hk
  exact pr_lald hd e hin (hK _ _ _ hk)
theorem ps_aaload {c : Nat × Nat} {pc : Nat} {lk : pp_Lk} {L : List (Nat × Value)} {st : List Value} {w : pp_W} {K : pp_St} (hd : decode mi.by_ pc = .ok (.aaload, pp_len (.aaload) lk)) (hst : pp_stt mi pc c (.aaload) lk = true) (hsp : pp_sp g h mi.ret P Y X (.aaload) lk L st w K) (hK : ∀ L st w, K L st w → pp_ATc g R mi Z (off.1 + (pp_cs (.aaload) lk c).1, off.2 + (pp_cs (.aaload) lk c).2) (pc + pp_len (.aaload) lk) L st w) : pp_ATc g R mi Z (off.1 + c.1, off.2 + c.2) pc L st w := by
  obtain ⟨j, s, rfl, hk⟩ := pp_i_e hsp
  obtain ⟨a, s, rfl, hk⟩ := pp_r_e hk
  obtain ⟨n, e, hin, hk⟩ := pp_in_e hk
  exact pr_aald hd e hin (hK _ _ _ hk)
theorem ps_iastore {c : Nat × Nat} {pc : Nat} {lk : pp_Lk} {L : List (Nat × Value)} {st : List Value} {w : pp_W} {K : pp_St} (hd : decode mi.by_ pc = .ok (.iastore, pp_len (.iastore) lk)) (hst : pp_stt mi pc c (.iastore) lk = true) (hsp : pp_sp g h mi.ret P Y X (.iastore) lk L st w K) (hK : ∀ L st w, K L st w → pp_ATc g R mi Z (off.1 + (pp_cs (.iastore) lk c).1, off.2 + (pp_cs (.iastore) lk c).2) (pc + pp_len (.iastore) lk) L st w) : pp_ATc g R mi Z (off.1 + c.1, off.2 + c.2) pc L st w := by
  obtain ⟨x, s, rfl, hk⟩ := pp_i_e hsp
  obtain ⟨j, s, rfl, hk⟩ := pp_i_e hk
  obtain ⟨a, s, rfl, hk⟩ := pp_r_e hk
  obtain ⟨n, e, hin, hk⟩ := pp_in_e hk
  exact pr_iast hd e hin (hK _ _ _ hk)
theorem ps_lastore {c : Nat × Nat} {pc : Nat} {lk : pp_Lk} {L : List (Nat × Value)} {st : List Value} {w : pp_W} {K : pp_St} (hd : decode mi.by_ pc = .ok (.lastore, pp_len (.lastore) lk)) (hst : pp_stt mi pc c (.lastore) lk = true) (hsp : pp_sp g h mi.ret P Y X (.lastore) lk L st w K) (hK : ∀ L st w, K L st w → pp_ATc g R mi Z (off.1 + (pp_cs (.lastore) lk c).1, off.2 + (pp_cs (.lastore) lk c).2) (pc + pp_len (.lastore) lk) L st w) : pp_ATc g R mi Z (off.1 + c.1, off.2 + c.2) pc L st w := by
  obtain ⟨x, s, rfl, hk⟩ := pp_j_e hsp
  obtain ⟨j, s, rfl, hk⟩ := pp_i_e hk
  obtain ⟨a, s, rfl, hk⟩ := pp_r_e hk
  obtain ⟨n, e, hin, hk⟩ := pp_in_e hk
  exact pr_last hd e hin (hK _ _ _ hk)
theorem ps_bastore {c : Nat × Nat} {pc : Nat} {lk : pp_Lk} {L : List (Nat × Value)} {st : List Value} {w : pp_W} {K : pp_St} (hd : decode mi.by_ pc = .ok (.bastore, pp_len (.bastore) lk)) (hst : pp_stt mi pc c (.bastore) lk = true) (hsp : pp_sp g h mi.ret P Y X (.bastore) lk L st w K) (hK : ∀ L st w, K L st w → pp_ATc g R mi Z (off.1 + (pp_cs (.bastore) lk c).1, off.2 + (pp_cs (.bastore) lk c).2) (pc + pp_len (.bastore) lk) L st w) : pp_ATc g R mi Z (off.1 + c.1, off.2 + c.2) pc L st w := by
  match lk, hst, hsp, hd, hK with
  | .inl (0, b, l), hst, hsp, hd, hK =>
    obtain ⟨x, s, rfl, hk⟩ := pp_i_e hsp
    obtain ⟨j, s, rfl, hk⟩ := pp_i_e hk
    obtain ⟨a, s, rfl, hk⟩ := pp_r_e hk
    obtain ⟨n, e, hin, hk⟩ := pp_in_e hk
    exact pr_bast hd e hin (hK _ _ _ hk)
  | .inl (1, b, l), hst, hsp, hd, hK =>
    obtain ⟨x, s, rfl, hk⟩ := pp_i_e hsp
    obtain ⟨j, s, rfl, hk⟩ := pp_i_e hk
    obtain ⟨a, s, rfl, hk⟩ := pp_r_e hk
    obtain ⟨n, e, hin, hx, hk⟩ := pp_in_e hk
    exact pr_zast hd e hin hx (hK _ _ _ hk)
theorem ps_aastore {c : Nat × Nat} {pc : Nat} {lk : pp_Lk} {L : List (Nat × Value)} {st : List Value} {w : pp_W} {K : pp_St} (hd : decode mi.by_ pc = .ok (.aastore, pp_len (.aastore) lk)) (hst : pp_stt mi pc c (.aastore) lk = true) (hsp : pp_sp g h mi.ret P Y X (.aastore) lk L st w K) (hK : ∀ L st w, K L st w → pp_ATc g R mi Z (off.1 + (pp_cs (.aastore) lk c).1, off.2 + (pp_cs (.aastore) lk c).2) (pc + pp_len (.aastore) lk) L st w) : pp_ATc g R mi Z (off.1 + c.1, off.2 + c.2) pc L st w := by
  have hsp : pp_q st (fun x st => pp_i st (fun j st => pp_r st (fun a st => pp_in w a 14 j ((∀ b, x = some b → w.1[b]? = some (4, 0)) ∧ K L st (w.1, w.2.1, w.2.2.1, pp_s w.2.2.2 a (va_up (w.2.2.2 a) j.toNatClampNeg x)))))) := hsp
  obtain ⟨x, s, rfl, hk⟩ := pp_q_e hsp
  obtain ⟨j, s, rfl, hk⟩ := pp_i_e hk
  obtain ⟨a, s, rfl, hk⟩ := pp_r_e hk
  obtain ⟨n, e, hin, hx, hk⟩ := pp_in_e hk
  cases x with
  | none => exact pr_aastN hd e hin (hK _ _ _ hk)
  | some b => exact pr_aast hd e (hx b rfl) hin (hK _ _ _ hk)
theorem ps_new {n : Nat} {c : Nat × Nat} {pc : Nat} {lk : pp_Lk} {L : List (Nat × Value)} {st : List Value} {w : pp_W} {K : pp_St} (hd : decode mi.by_ pc = .ok (.new n, pp_len (.new n) lk)) (hst : pp_stt mi pc c (.new n) lk = true) (hsp : pp_sp g h mi.ret P Y X (.new n) lk L st w K) (hRc : off.1 + mi.mc ≤ R.cells) (hRs : off.2 + mi.ms ≤ R.slots) (hK : ∀ L st w, K L st w → pp_ATc g R mi Z (off.1 + (pp_cs (.new n) lk c).1, off.2 + (pp_cs (.new n) lk c).2) (pc + pp_len (.new n) lk) L st w) : pp_ATc g R mi Z (off.1 + c.1, off.2 + c.2) pc L st w := by
  match lk, hst, hsp, hd, hK with
  | .inl (ci, k, p :: l), hst, hsp, hd, hK =>
    simp only [pp_stt] at hst
    split at hst
    · rename_i r hr
      simp only [Bool.and_eq_true, decide_eq_true_eq] at hst
      obtain ⟨⟨rfl, h2⟩, h3⟩ := hst
      have := pp_le_1 h3
      dsimp only at this
      exact pr_new hd hr (pp_w_in h2) (by show off.1 + c.1 + 1 ≤ _; omega) (by show off.2 + c.2 + r.2.2 ≤ _; omega) ((hK _ _ _ hsp).le (by show off.1 + c.1 + 1 ≤ off.1 + (c.1 + 1); omega) (by show off.2 + c.2 + r.2.2 ≤ off.2 + (c.2 + r.2.2); omega))
    · cases hst
theorem ps_newarray {n : ArrayType} {c : Nat × Nat} {pc : Nat} {lk : pp_Lk} {L : List (Nat × Value)} {st : List Value} {w : pp_W} {K : pp_St} (hd : decode mi.by_ pc = .ok (.newarray n, pp_len (.newarray n) lk)) (hst : pp_stt mi pc c (.newarray n) lk = true) (hsp : pp_sp g h mi.ret P Y X (.newarray n) lk L st w K) (hRc : off.1 + mi.mc ≤ R.cells) (hRs : off.2 + mi.ms ≤ R.slots) (hK : ∀ L st w, K L st w → pp_ATc g R mi Z (off.1 + (pp_cs (.newarray n) lk c).1, off.2 + (pp_cs (.newarray n) lk c).2) (pc + pp_len (.newarray n) lk) L st w) : pp_ATc g R mi Z (off.1 + c.1, off.2 + c.2) pc L st w := by
  match lk, hst, hsp, hd, hK with
  | .inl (t, k, l), hst, hsp, hd, hK =>
    simp only [pp_stt, Bool.and_eq_true, decide_eq_true_eq] at hst
    obtain ⟨⟨⟨h1, h2⟩, h3⟩, h4⟩ := hst
    have hl := pp_le_1 h4
    have hk1 := pp_blt h3
    have ht := pp_blt h2
    dsimp only at hl
    obtain ⟨x, s, rfl, hx, hk⟩ := pp_i_e hsp
    have q1 : off.1 + c.1 + 1 ≤ R.cells := by omega
    have q2 : off.2 + c.2 + k ≤ R.slots := by omega
    cases n <;> simp only [pp_atk] at h1 <;> subst h1 <;> first | (exact absurd ht (by decide)) | exact pr_newi hd hx hk1 q1 q2 ((hK _ _ _ hk).le (by show off.1 + c.1 + 1 ≤ off.1 + (c.1 + 1); omega) (by show off.2 + c.2 + k ≤ off.2 + (c.2 + k); omega)) | exact pr_newb hd hx hk1 q1 q2 ((hK _ _ _ hk).le (by show off.1 + c.1 + 1 ≤ off.1 + (c.1 + 1); omega) (by show off.2 + c.2 + k ≤ off.2 + (c.2 + k); omega)) | exact pr_newz hd hx hk1 q1 q2 ((hK _ _ _ hk).le (by show off.1 + c.1 + 1 ≤ off.1 + (c.1 + 1); omega) (by show off.2 + c.2 + k ≤ off.2 + (c.2 + k); omega)) | exact pr_newj hd hx hk1 q1 q2 ((hK _ _ _ hk).le (by show off.1 + c.1 + 1 ≤ off.1 + (c.1 + 1); omega) (by show off.2 + c.2 + k ≤ off.2 + (c.2 + k); omega))
theorem ps_anewarray {n : Nat} {c : Nat × Nat} {pc : Nat} {lk : pp_Lk} {L : List (Nat × Value)} {st : List Value} {w : pp_W} {K : pp_St} (hd : decode mi.by_ pc = .ok (.anewarray n, pp_len (.anewarray n) lk)) (hst : pp_stt mi pc c (.anewarray n) lk = true) (hsp : pp_sp g h mi.ret P Y X (.anewarray n) lk L st w K) (hRc : off.1 + mi.mc ≤ R.cells) (hRs : off.2 + mi.ms ≤ R.slots) (hK : ∀ L st w, K L st w → pp_ATc g R mi Z (off.1 + (pp_cs (.anewarray n) lk c).1, off.2 + (pp_cs (.anewarray n) lk c).2) (pc + pp_len (.anewarray n) lk) L st w) : pp_ATc g R mi Z (off.1 + c.1, off.2 + c.2) pc L st w := by
  match lk, hst, hsp, hd, hK with
  | .inl (t, k, p :: l), hst, hsp, hd, hK =>
    simp only [pp_stt, Bool.and_eq_true] at hst
    obtain ⟨⟨h1, h3⟩, h4⟩ := hst
    have hl := pp_le_1 h4
    dsimp only at hl
    obtain ⟨x, s, rfl, hx, hk⟩ := pp_i_e hsp
    exact pr_newq hd (pp_w_in h1) hx (pp_blt h3) (by show off.1 + c.1 + 1 ≤ _; omega) (by show off.2 + c.2 + k ≤ _; omega) ((hK _ _ _ hk).le (by show off.1 + c.1 + 1 ≤ off.1 + (c.1 + 1); omega) (by show off.2 + c.2 + k ≤ off.2 + (c.2 + k); omega))
theorem pp_objW : Cond.instanceMethod Lib.objectInit ∈ pp_T ∧ Cond.code Lib.objectInit ⟨#[0xb1]⟩ 1 none ∈ pp_T := by
  have := pp_sub (ws := [Cond.instanceMethod Lib.objectInit, Cond.code Lib.objectInit ⟨#[0xb1]⟩ 1 none]) (by decide +kernel)
  exact ⟨this _ (by simp), this _ (by simp)⟩
theorem pp_call_e {mj : pp_MI} {c : Nat × Nat} {idx p kd n : Nat} (hc : pp_call mi mj c idx p kd n = true) : mj.kd = kd ∧ n = mj.np ∧ Cond.methodLink mi.y.cls idx mj.y ∈ pp_T ∧ pp_le (c.1 + mj.mc, c.2 + mj.ms) (mi.mc, mi.ms) = true := by
  simp only [pp_call, Bool.and_eq_true, decide_eq_true_eq] at hc
  exact ⟨hc.1.1.1, hc.1.1.2, pp_w_in hc.1.2, hc.2⟩
theorem ps_invokespecial {n : Nat} {c : Nat × Nat} {pc : Nat} {lk : pp_Lk} {L : List (Nat × Value)} {st : List Value} {w : pp_W} {K : pp_St} (hd : decode mi.by_ pc = .ok (.invokespecial n, pp_len (.invokespecial n) lk)) (hst : pp_stt mi pc c (.invokespecial n) lk = true) (hsp : pp_sp g h mi.ret P Y X (.invokespecial n) lk L st w K) (hRc : off.1 + mi.mc ≤ R.cells) (hRs : off.2 + mi.ms ≤ R.slots) (hR : pp_big R h) (hE : pp_End g R mi Z off P Y) (hK : ∀ L st w, K L st w → pp_ATc g R mi Z (off.1 + (pp_cs (.invokespecial n) lk c).1, off.2 + (pp_cs (.invokespecial n) lk c).2) (pc + pp_len (.invokespecial n) lk) L st w) : pp_ATc g R mi Z (off.1 + c.1, off.2 + c.2) pc L st w := by
  match lk, hst, hsp, hd, hK with
  | .inl (p, k, l), hst, hsp, hd, hK =>
    obtain ⟨a, s, rfl, hl, hk⟩ := pp_r_e hsp
    have := hR.1
    have := hR.2
    exact pr_objInit hd (pp_w_in hst) pp_objW.1 pp_objW.2 (by omega) (by omega) hl (hK _ _ _ hk)
  | .inr (.inl (mj, ci, p, l)), hst, hsp, hd, hK =>
    simp only [pp_stt, Bool.and_eq_true, Bool.not_eq_true', List.isEmpty_iff] at hst
    obtain ⟨⟨⟨h1, h2⟩, h3⟩, h4⟩ := hst
    obtain ⟨e1, e2, e3, e4⟩ := pp_call_e h1
    have hl := pp_le_1 e4
    dsimp only at hl
    obtain ⟨As, s, rfl, hlen, hs4, hrv, hM⟩ := pp_args_e l [] st _ hsp
    rw [List.append_nil] at hM hrv
    cases As with
    | nil => exact hrv.elim
    | cons v As =>
      obtain ⟨b, s9, hav, -⟩ := pp_r_e hrv
      cases hav
      rw [List.reverse_cons, List.append_assoc]
      exact pr_callI hd e3 e1 h3 (by simp only [List.length_cons] at hlen; omega) hR (by show off.1 + c.1 + mj.mc ≤ _; omega) (by show off.2 + c.2 + mj.ms ≤ _; omega) hs4 hM (pp_toK hE h4 e4 hK)
theorem ps_invokevirtual {n : Nat} {c : Nat × Nat} {pc : Nat} {lk : pp_Lk} {L : List (Nat × Value)} {st : List Value} {w : pp_W} {K : pp_St} (hd : decode mi.by_ pc = .ok (.invokevirtual n, pp_len (.invokevirtual n) lk)) (hst : pp_stt mi pc c (.invokevirtual n) lk = true) (hsp : pp_sp g h mi.ret P Y X (.invokevirtual n) lk L st w K) (hRc : off.1 + mi.mc ≤ R.cells) (hRs : off.2 + mi.ms ≤ R.slots) (hR : pp_big R h) (hE : pp_End g R mi Z off P Y) (hK : ∀ L st w, K L st w → pp_ATc g R mi Z (off.1 + (pp_cs (.invokevirtual n) lk c).1, off.2 + (pp_cs (.invokevirtual n) lk c).2) (pc + pp_len (.invokevirtual n) lk) L st w) : pp_ATc g R mi Z (off.1 + c.1, off.2 + c.2) pc L st w := by
  match lk, hst, hsp, hd, hK with
  | .inr (.inl (mj, ci, p, 0 :: l)), hst, hsp, hd, hK =>
    simp only [pp_stt, Bool.and_eq_true, List.isEmpty_iff] at hst
    obtain ⟨⟨⟨h1, h3⟩, h4⟩, h5⟩ := hst
    obtain ⟨e1, e2, e3, e4⟩ := pp_call_e h1
    have hl := pp_le_1 e4
    dsimp only at hl
    obtain ⟨As, s, rfl, hlen, hs4, hrv, hM⟩ := pp_args_e (0 :: l) [] st _ hsp
    rw [List.append_nil] at hM hrv
    cases As with
    | nil => exact hrv.elim
    | cons v As =>
      obtain ⟨b, s9, hav, hb⟩ := pp_r_e hrv
      cases hav
      rw [List.reverse_cons, List.append_assoc]
      split at h5
      · rename_i r hr
        exact pr_callV hd e3 e1 h3 hr (of_decide_eq_true h5) hb (by simp only [List.length_cons] at hlen; omega) hR (by show off.1 + c.1 + mj.mc ≤ _; omega) (by show off.2 + c.2 + mj.ms ≤ _; omega) hs4 hM (pp_toK hE h4 e4 hK)
      · cases h5
  | .inr (.inl (mj, ci, p, 1 :: l)), hst, hsp, hd, hK =>
    simp only [pp_stt, Bool.and_eq_true, List.isEmpty_iff] at hst
    obtain ⟨⟨⟨h1, h3⟩, h4⟩, h5⟩ := hst
    obtain ⟨e1, e2, e3, e4⟩ := pp_call_e h1
    have hl := pp_le_1 e4
    dsimp only at hl
    obtain ⟨As, s, rfl, hlen, hs4, hrv, hM⟩ := pp_args_e (1 :: l) [] st _ hsp
    rw [List.append_nil] at hM hrv
    cases As with
    | nil => exact hrv.elim
    | cons v As =>
      obtain ⟨b, s9, hav, hb⟩ := pp_r_e hrv
      cases hav
      rw [List.reverse_cons, List.append_assoc]
      exact pr_callX hd e3 e1 h3 (of_decide_eq_true h5) hb (by simp only [List.length_cons] at hlen; omega) hR (by show off.1 + c.1 + mj.mc ≤ _; omega) (by show off.2 + c.2 + mj.ms ≤ _; omega) hs4 hM (pp_toK hE h4 e4 hK)
theorem ps_invokestatic {n : Nat} {c : Nat × Nat} {pc : Nat} {lk : pp_Lk} {L : List (Nat × Value)} {st : List Value} {w : pp_W} {K : pp_St} (hd : decode mi.by_ pc = .ok (.invokestatic n, pp_len (.invokestatic n) lk)) (hst : pp_stt mi pc c (.invokestatic n) lk = true) (hsp : pp_sp g h mi.ret P Y X (.invokestatic n) lk L st w K) (hRc : off.1 + mi.mc ≤ R.cells) (hRs : off.2 + mi.ms ≤ R.slots) (hR : pp_big R h) (hE : pp_End g R mi Z off P Y) (hK : ∀ L st w, K L st w → pp_ATc g R mi Z (off.1 + (pp_cs (.invokestatic n) lk c).1, off.2 + (pp_cs (.invokestatic n) lk c).2) (pc + pp_len (.invokestatic n) lk) L st w) : pp_ATc g R mi Z (off.1 + c.1, off.2 + c.2) pc L st w := by
  match lk, hst, hsp, hd, hK with
  | .inl (0, p, l), hst, hsp, hd, hK =>
    obtain ⟨n9, s1, rfl, hk1⟩ := pp_i_e hsp
    obtain ⟨dp, s2, rfl, hk2⟩ := pp_i_e hk1
    obtain ⟨b, s3, rfl, hk3⟩ := pp_r_e hk2
    obtain ⟨sp, s4, rfl, hk4⟩ := pp_i_e hk3
    obtain ⟨a, s5, rfl, hl, g1, g2, g3, g4, g5, g6, g7, hk⟩ := pp_r_e hk4
    obtain ⟨t0, n0, ea, -, g4⟩ := pp_al_e g4
    obtain ⟨t1, n1, eb, -, g5⟩ := pp_al_e g5
    rw [ea] at g6
    rw [eb] at g7
    cases g6
    cases g7
    have := hR.1
    have := hR.2
    exact pr_copyi hd (pp_w_in hst) (by omega) (by omega) hl ea eb g1 g2 g3 g4 g5 (hK _ _ _ hk)
  | .inl (1, p, l), hst, hsp, hd, hK =>
    obtain ⟨n9, s1, rfl, hk1⟩ := pp_i_e hsp
    obtain ⟨dp, s2, rfl, hk2⟩ := pp_i_e hk1
    obtain ⟨b, s3, rfl, hk3⟩ := pp_r_e hk2
    obtain ⟨sp, s4, rfl, hk4⟩ := pp_i_e hk3
    obtain ⟨a, s5, rfl, hl, g1, g2, g3, g4, g5, g6, g7, hk⟩ := pp_r_e hk4
    obtain ⟨t0, n0, ea, -, g4⟩ := pp_al_e g4
    obtain ⟨t1, n1, eb, -, g5⟩ := pp_al_e g5
    rw [ea] at g6
    rw [eb] at g7
    cases g6
    cases g7
    have := hR.1
    have := hR.2
    exact pr_copyl hd (pp_w_in hst) (by omega) (by omega) hl ea eb g1 g2 g3 g4 g5 (hK _ _ _ hk)
  | .inl (2, p, l), hst, hsp, hd, hK =>
    simp only [pp_stt, Bool.and_eq_true] at hst
    have hl := pp_le_1 hst.2
    dsimp only at hl
    obtain ⟨y, s1, rfl, hk1⟩ := pp_i_e hsp
    obtain ⟨x, s2, rfl, hs4, hk⟩ := pp_i_e hk1
    exact pr_min hd (pp_w_in hst.1) hR (by show off.1 + c.1 ≤ _; omega) (by show off.2 + c.2 ≤ _; omega) hs4 (hK _ _ _ hk)
  | .inl (3, p, l), hst, hsp, hd, hK =>
    simp only [pp_stt, Bool.and_eq_true] at hst
    have hl := pp_le_1 hst.2
    dsimp only at hl
    obtain ⟨y, s1, rfl, hk1⟩ := pp_i_e hsp
    obtain ⟨x, s2, rfl, hs4, hk⟩ := pp_i_e hk1
    exact pr_max hd (pp_w_in hst.1) hR (by show off.1 + c.1 ≤ _; omega) (by show off.2 + c.2 ≤ _; omega) hs4 (hK _ _ _ hk)
  | .inl (4, p, l), hst, hsp, hd, hK =>
    simp only [pp_stt, Bool.and_eq_true] at hst
    have hl := pp_le_1 hst.2
    dsimp only at hl
    obtain ⟨y, s1, rfl, hk1⟩ := pp_j_e hsp
    obtain ⟨x, s2, rfl, hs4, hk⟩ := pp_j_e hk1
    exact pr_minL hd (pp_w_in hst.1) hR (by show off.1 + c.1 ≤ _; omega) (by show off.2 + c.2 ≤ _; omega) hs4 (hK _ _ _ hk)
  | .inr (.inl (mj, ci, p, l)), hst, hsp, hd, hK =>
    obtain ⟨As, s, rfl, hlen, hs4, hM⟩ := pp_args_e l [] st _ hsp
    rw [List.append_nil] at hM
    simp only [pp_stt] at hst
    split at hst
    · simp only [Bool.and_eq_true, decide_eq_true_eq, List.isEmpty_iff] at hst
      obtain ⟨⟨⟨⟨⟨⟨⟨h1, h2⟩, h3⟩, h4⟩, h5⟩, h6⟩, h7⟩, h8⟩ := hst
      have hl := pp_le_1 h7
      dsimp only at hl
      subst h3
      exact pr_callN h1 h2 hd h4 h5 (by omega) hR (by show off.1 + c.1 + mj.mc ≤ _; omega) (by show off.2 + c.2 + mj.ms ≤ _; omega) hs4 hM (pp_toK hE h8 h7 hK)
    · simp only [Bool.and_eq_true] at hst
      obtain ⟨h1, h4⟩ := hst
      obtain ⟨e1, e2, e3, e4⟩ := pp_call_e h1
      have hl := pp_le_1 e4
      dsimp only at hl
      by_cases hh : mj.hh = []
      · exact pr_callS hd e3 e1 hh (by omega) hR (by show off.1 + c.1 + mj.mc ≤ _; omega) (by show off.2 + c.2 + mj.ms ≤ _; omega) hs4 hM (pp_toK hE h4 e4 hK)
      · exact pr_callSX hd e3 e1 hh (by omega) hR (by show off.1 + c.1 + mj.mc ≤ _; omega) (by show off.2 + c.2 + mj.ms ≤ _; omega) hs4 hM (pp_toK hE h4 e4 hK)
theorem ps_ireturn {c : Nat × Nat} {pc : Nat} {lk : pp_Lk} {L : List (Nat × Value)} {st : List Value} {w : pp_W} {K : pp_St} (hd : decode mi.by_ pc = .ok (.ireturn, pp_len (.ireturn) lk)) (hst : pp_stt mi pc c (.ireturn) lk = true) (hsp : pp_sp g h mi.ret P Y X (.ireturn) lk L st w K) (hRc : off.1 + mi.mc ≤ R.cells) (hRs : off.2 + mi.ms ≤ R.slots) (hR : pp_big R h) (hE : pp_End g R mi Z off P Y) (hK : ∀ L st w, K L st w → pp_ATc g R mi Z (off.1 + (pp_cs (.ireturn) lk c).1, off.2 + (pp_cs (.ireturn) lk c).2) (pc + pp_len (.ireturn) lk) L st w) : pp_ATc g R mi Z (off.1 + c.1, off.2 + c.2) pc L st w := by
  have hl := pp_le_1 hst
  dsimp only at hl
  simp only [pp_sp] at hsp
  split at hsp
  · rename_i x
    refine (hE.2.1 pc L w x (mi.ret.getD .int) hd ?_ ?_ hsp.2).le (by show off.1 + c.1 ≤ off.1 + mi.mc; omega) (by show off.2 + c.2 ≤ off.2 + mi.ms; omega)
    · have := hsp.1
      unfold pp_rok at this
      split at this <;> first | (rename_i e; rw [e]; rfl) | exact this.elim
    · have := hsp.1
      unfold pp_rok at this
      split at this
      · rename_i e; rw [e]; rfl
      · rename_i e; rw [e]; rcases this with rfl | rfl <;> rfl
      · rename_i e; rw [e]; exact this
      · exact this.elim
  · exact hsp.elim
theorem ps_lreturn {c : Nat × Nat} {pc : Nat} {lk : pp_Lk} {L : List (Nat × Value)} {st : List Value} {w : pp_W} {K : pp_St} (hd : decode mi.by_ pc = .ok (.lreturn, pp_len (.lreturn) lk)) (hst : pp_stt mi pc c (.lreturn) lk = true) (hsp : pp_sp g h mi.ret P Y X (.lreturn) lk L st w K) (hRc : off.1 + mi.mc ≤ R.cells) (hRs : off.2 + mi.ms ≤ R.slots) (hR : pp_big R h) (hE : pp_End g R mi Z off P Y) (hK : ∀ L st w, K L st w → pp_ATc g R mi Z (off.1 + (pp_cs (.lreturn) lk c).1, off.2 + (pp_cs (.lreturn) lk c).2) (pc + pp_len (.lreturn) lk) L st w) : pp_ATc g R mi Z (off.1 + c.1, off.2 + c.2) pc L st w := by
  simp only [pp_stt, Bool.and_eq_true, decide_eq_true_eq] at hst
  obtain ⟨hst, hrt⟩ := hst
  have hl := pp_le_1 hst
  dsimp only at hl
  simp only [pp_sp] at hsp
  split at hsp
  · exact (hE.2.2.1 pc L w _ hd hrt hsp).le (by show off.1 + c.1 ≤ off.1 + mi.mc; omega) (by show off.2 + c.2 ≤ off.2 + mi.ms; omega)
  · exact hsp.elim
theorem ps_return {c : Nat × Nat} {pc : Nat} {lk : pp_Lk} {L : List (Nat × Value)} {st : List Value} {w : pp_W} {K : pp_St} (hd : decode mi.by_ pc = .ok (.return_, pp_len (.return_) lk)) (hst : pp_stt mi pc c (.return_) lk = true) (hsp : pp_sp g h mi.ret P Y X (.return_) lk L st w K) (hRc : off.1 + mi.mc ≤ R.cells) (hRs : off.2 + mi.ms ≤ R.slots) (hR : pp_big R h) (hE : pp_End g R mi Z off P Y) (hK : ∀ L st w, K L st w → pp_ATc g R mi Z (off.1 + (pp_cs (.return_) lk c).1, off.2 + (pp_cs (.return_) lk c).2) (pc + pp_len (.return_) lk) L st w) : pp_ATc g R mi Z (off.1 + c.1, off.2 + c.2) pc L st w := by
  simp only [pp_stt, Bool.and_eq_true, decide_eq_true_eq] at hst
  obtain ⟨hst, hrt⟩ := hst
  have hl := pp_le_1 hst
  dsimp only at hl
  simp only [pp_sp] at hsp
  split at hsp
  · exact (hE.1 pc L w hd hrt hsp).le (by show off.1 + c.1 ≤ off.1 + mi.mc; omega) (by show off.2 + c.2 ≤ off.2 + mi.ms; omega)
  · exact hsp.elim
end Sound2
