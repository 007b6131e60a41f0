/-! THE START: the machine's picture -/
set_option maxHeartbeats 4000000
set_option maxRecDepth 100000
section
variable {s : State} {args : Array Value}
theorem ev_cls (hts : ∀ w ∈ lw_tbl, w.before args s = true) : ∃ D : va_G, ∀ (c : Nat) (q : vw_C), pp_cl[c]? = some q → u_Kn s q.1 q.2.1 q.2.2 (D.1 c) (D.2 c) := by
  have hT : ∀ w ∈ pp_T, w.before args s = true := fun w hw => hts w (List.mem_filter.mp hw).1
  have h0 : ∀ k : Nat, ∃ D : ClassId × (Nat → Nat), ∀ q, pp_cl[k]? = some q → u_Kn s q.1 q.2.1 q.2.2 D.1 D.2 := by
    intro k
    cases hq : pp_cl[k]? with
    | none => exact ⟨(0, fun _ => 0), fun q h => by cases h⟩
    | some q =>
      obtain ⟨cC, iS, h⟩ := u_known (C := q.1) (T := q.2.1) (N := q.2.2) (n := q.2.2) hT (pp_clOK hq).2.1 (hT _ (pp_made _ (List.mem_flatMap.mpr ⟨q, List.mem_of_getElem? hq, List.mem_cons_self⟩)))
      exact ⟨(cC, iS), fun q' h' => by cases h'; exact h⟩
  obtain ⟨D, hD⟩ := Classical.axiomOfChoice h0
  exact ⟨(fun k => (D k).1, fun k => (D k).2), fun c q h => hD c q h⟩
theorem ev_prim {ty : FieldType} (h : (Cond.arrayClass ty).before args s = true) (hr : ∀ cA, s.vm.findClass ("[" ++ ty.toString) = some cA → va_RA s cA ty) (hk : ∀ (cA : ClassId) (kA : Class) (comp : ClassId), s.vm.classes[cA]? = some kA → kA.kind = .array comp ty → ArrOfT s cA ty) : ∃ cA, ArrOfT s cA ty ∧ va_RA s cA ty := by
  obtain ⟨cA, kA, comp, h1, h2, h3⟩ := Cond.arrayClass_spec (args := args) (first := s) (o := none) (s := s) (idx := []) h
  exact ⟨cA, hk cA kA comp h2 h3, hr cA h1⟩
theorem ev_led (h : (Cond.arrayOver (.object RX4)).before args s = true) : ∃ cA, ArrOfT s cA (.object RX4) ∧ va_RA s cA (.object RX4) := by
  obtain ⟨comp, cA, kA, h1, -, h3, h4, h5⟩ := Cond.arrayOver_spec (args := args) (first := s) (o := none) (s := s) (idx := []) h
  exact ⟨cA, fun N z => ⟨(fun k h => by cases h), kA, h3, comp, h4⟩, kA, comp, h3, h4, h1, h5⟩
theorem ev_str {A : Nat → Prop} (hs : ∀ i, i < 15 → ∀ w ∈ ev_w i, w.before args s = true) (hA : ∀ a : Nat, a < s.heap.size → ¬ A a) : ∃ x y : Nat → Nat, ∀ i : Nat, i < 15 → (ev_t i).eval args s none [] s = some (.ref (x i)) ∧ (ev_u i).eval args s none [] s = some (.ref (x i)) ∧ va_O "java/lang/String" (x i) A s s.heap ∧ va_OF "java/lang/String" "coder" "B" (.int 0) (x i) A s s.heap ∧ va_OF "java/lang/String" "value" "[B" (.ref (y i)) (x i) A s s.heap ∧ va_T .byte (y i) (pp_txt.getD i []).length (fun j => .int ((pp_txt.getD i []).getD j 0)) A s s.heap := by
  have hl : ∀ i, i < 15 → (pp_txt.getD i []).length < 2 ^ 31 := by decide
  have h0 : ∀ i : Nat, ∃ q : Nat × Nat, i < 15 → (ev_t i).eval args s none [] s = some (.ref q.1) ∧ (ev_u i).eval args s none [] s = some (.ref q.1) ∧ va_O "java/lang/String" q.1 A s s.heap ∧ va_OF "java/lang/String" "coder" "B" (.int 0) q.1 A s s.heap ∧ va_OF "java/lang/String" "value" "[B" (.ref q.2) q.1 A s s.heap ∧ va_T .byte q.2 (pp_txt.getD i []).length (fun j => .int ((pp_txt.getD i []).getD j 0)) A s s.heap := by
    intro i
    by_cases hi : i < 15
    · have w1 := hs i hi (.exactly (ev_t i) "java/lang/String") (by simp [ev_w])
      have w2 := hs i hi (.eq (.field (ev_t i) "java/lang/String" "coder" "B") (.int 0)) (by simp [ev_w])
      have w3 := hs i hi (.arrayOf (ev_v i) .byte) (by simp [ev_w])
      have w4 := hs i hi (.eq (.length (ev_v i)) (.int (Int32.ofNat (pp_txt.getD i []).length))) (by simp only [ev_w, List.cons_append, List.mem_cons, true_or, or_true])
      have w5 := hs i hi (.eq (ev_t i) (ev_u i)) (by simp only [ev_w, List.cons_append, List.mem_cons, true_or, or_true])
      have w6 : ∀ j, j < (pp_txt.getD i []).length → (Cond.eq (.elem (ev_v i) (.int (Int32.ofNat j))) (.int ((pp_txt.getD i []).getD j 0))).before args s = true := fun j hj => hs i hi _ (List.mem_append_right _ (List.mem_map.mpr ⟨j, List.mem_range.mpr hj, rfl⟩))
      obtain ⟨a, c, cA, kA, q1, q2, q3, q4, q5, q6, -⟩ := Cond.exactly_spec (args := args) (first := s) (o := none) (s := s) (idx := []) (t := ev_t i) (cls := "java/lang/String") w1
      obtain ⟨t, ht, hT⟩ := va_Tof (f := fun j => .int ((pp_txt.getD i []).getD j 0)) (A := A) (hl i hi) w3 (va_eqt w4) (fun j hj => va_eqt (w6 j hj)) hA
      exact ⟨(a, t), fun _ => ⟨q1, va_eqR w5 q1, ⟨cA, q3, q5, by rw [q6]; exact q2, hA a (Array.getElem?_eq_some_iff.mp q3).1⟩, vk_OFof q1 (va_eqt w2) hA, vk_OFof q1 ht hA, hT⟩⟩
    · exact ⟨(0, 0), fun h => absurd h hi⟩
  obtain ⟨ad, had⟩ := Classical.axiomOfChoice h0
  exact ⟨fun i => (ad i).1, fun i => (ad i).2, fun i hi => had i hi⟩
theorem ev_all (hs : ∀ w ∈ ev_a, w.before args s = true) : ∀ i, i < 15 → ∀ w ∈ ev_w i, w.before args s = true := by
  intro i hi w hw
  match i, hi, hw with
  | 0, hi, hw => exact hs w (ev_in _ _ ev_1_0 w hw)
  | 1, hi, hw => exact hs w (ev_in _ _ ev_1_1 w hw)
  | 2, hi, hw => exact hs w (ev_in _ _ ev_1_2 w hw)
  | 3, hi, hw => exact hs w (ev_in _ _ ev_1_3 w hw)
  | 4, hi, hw => exact hs w (ev_in _ _ ev_1_4 w hw)
  | 5, hi, hw => exact hs w (ev_in _ _ ev_1_5 w hw)
  | 6, hi, hw => exact hs w (ev_in _ _ ev_1_6 w hw)
  | 7, hi, hw => exact hs w (ev_in _ _ ev_1_7 w hw)
  | 8, hi, hw => exact hs w (ev_in _ _ ev_1_8 w hw)
  | 9, hi, hw => exact hs w (ev_in _ _ ev_1_9 w hw)
  | 10, hi, hw => exact hs w (ev_in _ _ ev_1_10 w hw)
  | 11, hi, hw => exact hs w (ev_in _ _ ev_1_11 w hw)
  | 12, hi, hw => exact hs w (ev_in _ _ ev_1_12 w hw)
  | 13, hi, hw => exact hs w (ev_in _ _ ev_1_13 w hw)
  | 14, hi, hw => exact hs w (ev_in _ _ ev_1_14 w hw)
  | n + 15, hi, hw => omega
/-- where the Strings lie -/
def ev_x (b : Nat) (x y : Nat → Nat) (f : Nat) (k : Nat) : Nat := if k = 0 then b else if k ≤ 15 then x (k - 1) else if k ≤ 30 then y (k - 16) else f
theorem ev_env (l : Launch) (hflags : l.flags = flags0) {b L : Nat} {xs : Nat → Int32} (hts : ∀ w ∈ lw_tbl, w.before args s = true) (hgv : (Jvm.Cond.and given_1 narrow_1).before args s = true) : ∃ g : pp_G, pp_l g = l ∧ pp_b g = s.heap.size ∧ pp_x g 0 = b ∧ pp_sL g = L ∧ pp_sx g = xs ∧ pp_K g s ∧ pp_Ext g s s.heap ∧ (pp_l g).stackTraces = false := by
  have hs : ∀ w ∈ ev_a, w.before args s = true := flat_of_before _ hgv
  have hz : ∀ w ∈ ev_z, w.before args s = true := fun w hw => hts w (ev_in _ _ ev_6 w hw)
  have hss : ∀ w ∈ ev_s, w.before args s = true := fun w hw => hs w (ev_in _ _ ev_4 w hw)
  have hA : ∀ a : Nat, a < s.heap.size → ¬ s.heap.size ≤ a := fun a h => by omega
  obtain ⟨D, hD⟩ := ev_cls hts
  obtain ⟨x, y, hx⟩ := ev_str (A := fun q => s.heap.size ≤ q) (ev_all hs) hA
  obtain ⟨c0, a0⟩ := ev_prim (ty := .int) (hz _ (by simp [ev_z])) (fun cA h => h) (fun cA kA comp h2 h3 n z => ⟨fun k h => (by cases h), kA, h2, comp, h3⟩)
  obtain ⟨c1, a1⟩ := ev_prim (ty := .byte) (hz _ (by simp [ev_z])) (fun cA h => h) (fun cA kA comp h2 h3 n z => ⟨fun k h => (by cases h), kA, h2, comp, h3⟩)
  obtain ⟨c2, a2⟩ := ev_prim (ty := .boolean) (hz _ (by simp [ev_z])) (fun cA h => h) (fun cA kA comp h2 h3 n z => ⟨fun k h => (by cases h), kA, h2, comp, h3⟩)
  obtain ⟨c3, a3⟩ := ev_prim (ty := .long) (hz _ (by simp [ev_z])) (fun cA h => h) (fun cA kA comp h2 h3 n z => ⟨fun k h => (by cases h), kA, h2, comp, h3⟩)
  obtain ⟨c4, a4⟩ := ev_led (hz _ (by simp [ev_z]))
  have hf := va_Zqof (A := fun q => s.heap.size ≤ q) (hz (.laysStatic "jdk/internal/util/Preconditions" "SIOOBE_FORMATTER" "Ljava/util/function/BiFunction;") (by simp [ev_z])) (hz _ (by simp [ev_z])) (hss _ (by simp [ev_s])) hA
  obtain ⟨f, hf⟩ : ∃ f : Nat, va_Z "jdk/internal/util/Preconditions" "SIOOBE_FORMATTER" "Ljava/util/function/BiFunction;" .null (fun q => s.heap.size ≤ q) s s.heap ∨ va_Z "jdk/internal/util/Preconditions" "SIOOBE_FORMATTER" "Ljava/util/function/BiFunction;" (.ref f) (fun q => s.heap.size ≤ q) s s.heap := by
    rcases hf with h | ⟨t, h⟩
    · exact ⟨0, Or.inl h⟩
    · exact ⟨t, Or.inr h⟩
  let g : pp_G := (l, s.heap.size, ev_x b x y f, D, (fun k => if k = 0 then c0 else if k = 1 then c1 else if k = 2 then c2 else if k = 3 then c3 else c4), (fun _ => 0), L, xs)
  refine ⟨g, rfl, rfl, rfl, rfl, rfl, ⟨hD, ?_⟩, ⟨?_, ?_, ?_, ?_, ?_, ?_, ?_, ?_, hf, ?_⟩, ?_⟩
  · intro k q hq
    match k, hq with
    | 0, hq => cases hq; exact a0
    | 1, hq => cases hq; exact a1
    | 2, hq => cases hq; exact a2
    | 3, hq => cases hq; exact a3
    | 4, hq => cases hq; exact a4
    | n + 5, hq => simp [pp_tys] at hq
  · intro i hi
    have h := hx i hi
    have e1 : pp_x g (i + 1) = x i := by
      show ev_x b x y f (i + 1) = x i
      rw [ev_x, if_neg (by omega), if_pos (by omega), Nat.add_sub_cancel]
    have e2 : pp_x g (i + 16) = y i := by
      show ev_x b x y f (i + 16) = y i
      rw [ev_x, if_neg (by omega), if_neg (by omega), if_pos (by omega), Nat.add_sub_cancel]
    rw [e1, e2]
    exact ⟨h.2.2.1, h.2.2.2.1, h.2.2.2.2.1, h.2.2.2.2.2⟩
  · intro q hq
    have h5 := hts _ (ev_in _ _ ev_5 (Cond.stringRef q.1 q.2.1 q.2.2.1) (List.mem_append_left _ (List.mem_map.mpr ⟨q, hq, rfl⟩)))
    have h1 := fun i hi => (hx i hi).1
    have h2 := fun i hi => (hx i hi).2.1
    simp only [pp_strs, List.mem_cons, List.not_mem_nil, or_false] at hq
    rcases hq with rfl | rfl | rfl | rfl | rfl | rfl | rfl | rfl | rfl | rfl | rfl | rfl | rfl | rfl | rfl | rfl | rfl | rfl | rfl | rfl | rfl | rfl | rfl | rfl | rfl | rfl | rfl | rfl | rfl | rfl
    · exact vk_R.of h5 (h1 0 (by omega))
    · exact vk_R.of h5 (h1 1 (by omega))
    · exact vk_R.of h5 (h1 2 (by omega))
    · exact vk_R.of h5 (h1 3 (by omega))
    · exact vk_R.of h5 (h1 4 (by omega))
    · exact vk_R.of h5 (h1 5 (by omega))
    · exact vk_R.of h5 (h1 6 (by omega))
    · exact vk_R.of h5 (h1 7 (by omega))
    · exact vk_R.of h5 (h1 8 (by omega))
    · exact vk_R.of h5 (h1 9 (by omega))
    · exact vk_R.of h5 (h1 10 (by omega))
    · exact vk_R.of h5 (h1 11 (by omega))
    · exact vk_R.of h5 (h1 12 (by omega))
    · exact vk_R.of h5 (h1 13 (by omega))
    · exact vk_R.of h5 (h1 14 (by omega))
    · exact vk_R.of h5 (h2 0 (by omega))
    · exact vk_R.of h5 (h2 1 (by omega))
    · exact vk_R.of h5 (h2 2 (by omega))
    · exact vk_R.of h5 (h2 3 (by omega))
    · exact vk_R.of h5 (h2 4 (by omega))
    · exact vk_R.of h5 (h2 5 (by omega))
    · exact vk_R.of h5 (h2 6 (by omega))
    · exact vk_R.of h5 (h2 7 (by omega))
    · exact vk_R.of h5 (h2 8 (by omega))
    · exact vk_R.of h5 (h2 9 (by omega))
    · exact vk_R.of h5 (h2 10 (by omega))
    · exact vk_R.of h5 (h2 11 (by omega))
    · exact vk_R.of h5 (h2 12 (by omega))
    · exact vk_R.of h5 (h2 13 (by omega))
    · exact vk_R.of h5 (h2 14 (by omega))
  · intro q hq
    have h5 := hts _ (ev_in _ _ ev_5 (Cond.stringRef RX8 q.1 q.2) (List.mem_append_right _ (List.mem_map.mpr ⟨q, hq, rfl⟩)))
    have h2 := hs _ (ev_in _ _ ev_2 (Cond.exactly (.string RX8 q.1) "java/lang/String") (List.mem_map.mpr ⟨q, hq, rfl⟩))
    obtain ⟨a, c, cA, kA, q1, -⟩ := Cond.exactly_spec (args := args) (first := s) (o := none) (s := s) (idx := []) (t := .string RX8 q.1) (cls := "java/lang/String") h2
    exact ⟨a, vk_R.of h5 q1⟩
  · exact vx_Zqof (hz (.laysStatic Bundle.tN "UNASSIGNED_STACK" Bundle.steD) (by simp [ev_z])) (hz _ (by simp [ev_z])) (hss _ (by simp [ev_s])) hA
  · exact vx_Zqof (hz (.laysStatic Bundle.tN "SUPPRESSED_SENTINEL" Bundle.listD) (by simp [ev_z])) (hz _ (by simp [ev_z])) (hss _ (by simp [ev_s])) hA
  · intro q hq
    exact va_Nc.of (hs _ (ev_in _ _ ev_3 (Cond.not (.castable q.1 q.2)) (List.mem_map.mpr ⟨q, hq, rfl⟩)))
  · exact va_tabs (A := args) (u := s) (by decide +kernel) rfl (hz pp_nest (by simp [ev_z]))
  · exact va_Zof (hz (.laysStatic "java/lang/String" "COMPACT_STRINGS" "Z") (by simp [ev_z])) (hz _ (by simp [ev_z])) (va_eqi (hss _ (by simp [ev_s]))) hA
  · exact va_AO.of (hz (.arrayOver (.object RX4)) (by simp [ev_z]))
  · show (!l.flags.contains noTraceFlag) = false
    rw [hflags]
    decide +kernel
end
