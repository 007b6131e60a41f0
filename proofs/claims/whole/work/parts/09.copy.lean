/-! THE ENGINE, 6: copying -/
theorem pp_cat_le (g : pp_G) : ∀ (l : List Value), ((l.map (pp_v g)).map fun v => v.category).sum ≤ 2 * l.length := by
  intro l
  induction l with
  | nil => simp
  | cons v l ih =>
    have hv : (pp_v g v).category ≤ 2 := by rcases lv_cat (pp_v g v) with h | h <;> omega
    simp only [List.map_cons, List.sum_cons, List.length_cons]
    omega
theorem pp_copyW0 : ∀ w ∈ [Cond.native arraycopyName, Cond.static arraycopyName, Cond.initialized "java/lang/System"], w ∈ pp_T := pp_sub (by decide +kernel)
theorem pp_copyW : Cond.native arraycopyName ∈ pp_T ∧ Cond.static arraycopyName ∈ pp_T ∧ Cond.initialized "java/lang/System" ∈ pp_T := ⟨pp_copyW0 _ (by simp), pp_copyW0 _ (by simp), pp_copyW0 _ (by simp)⟩
theorem pp_copyN : nativeFrameWords "java/lang/System" "arraycopy" 5 + 11 ≤ 90 := by decide +kernel
section Copy
variable {g : pp_G} {R : Room} {mi : pp_MI} {Z : pp_CT → State → Prop} {cs : Nat × Nat} {pc : Nat} {L : List (Nat × Value)} {st : List Value} {w : pp_W}
theorem pr_copyi {idx a b n0 n1 : Nat} {sp dp n : Int32} (hd : decode mi.by_ pc = .ok (.invokestatic idx, 3)) (hlk : Cond.methodLink mi.y.cls idx arraycopyName ∈ pp_T) (hR1 : 1 ≤ R.frames) (hR2 : 100 ≤ R.locals) (hst : st.length ≤ 4) (ha : w.1[a]? = some (10, n0)) (hb9 : w.1[b]? = some (10, n1))
    (g1 : ¬ sp < 0) (g2 : ¬ dp < 0) (g3 : ¬ n < 0) (g4 : sp.toNatClampNeg + n.toNatClampNeg ≤ n0) (g5 : dp.toNatClampNeg + n.toNatClampNeg ≤ n1)
    (kk : pp_ATc g R mi Z cs (pc + 3) L st (w.1, pp_s w.2.1 b (va_cpy (w.2.1 a) (w.2.1 b) sp.toNatClampNeg dp.toNatClampNeg n.toNatClampNeg), w.2.2)) : pp_ATc g R mi Z cs pc L (.int n :: .int dp :: .ref b :: .int sp :: .ref a :: st) w := by
  intro t C H locs ls cells slots hP hS hl q1 q2
  have kw := kk t C
  obtain ⟨hx, hb, hml, hown, hts, hret, hlocks, hname, htab, hK, hE, hb0, htr⟩ := C
  have nn : ∀ z : Int32, ¬ z < 0 → z.toInt = (z.toNatClampNeg : Int) := by
    intro z hz
    have hz0 : (0 : Int) ≤ z.toInt := by
      have := Int32.not_lt.mp hz
      simpa using Int32.le_iff_toInt_le.mp this
    show z.toInt = ((z.toInt.toNat : Nat) : Int)
    omega
  have hcat : ((st.map (pp_v g)).map fun v => v.category).sum ≤ 2 * st.length := pp_cat_le g st
  intro T hT X
  have hc0 : H[pp_ad g a]? = some (vp_cell (pp_d g 0) (n0, .inl (w.2.1 a))) := pp_at.i.mp (hP.2.2.2 a _ ha)
  have hc1 : H[pp_ad g b]? = some (vp_cell (pp_d g 0) (n1, .inl (w.2.1 b))) := pp_at.i.mp (hP.2.2.2 b _ hb9)
  obtain ⟨-, k0, hk0, cm0, hkk0⟩ := (hK.2 0 _ rfl).1 n0 (fun j => Value.int (w.2.1 a j))
  obtain ⟨-, k1, hk1, cm1, hkk1⟩ := (hK.2 0 _ rfl).1 n1 (fun j => Value.int (w.2.1 b j))
  obtain ⟨vm', X', step⟩ := X.arraycopy hx hown (hts _ hlk) (hts _ pp_copyW.1) (hts _ pp_copyW.2.1) (hts _ pp_copyW.2.2) (src := pp_ad g a) (dst := pp_ad g b) (cs := vp_cell (pp_d g 0) (n0, .inl (w.2.1 a))) (cd := vp_cell (pp_d g 0) (n1, .inl (w.2.1 b))) (srcPos := sp) (destPos := dp) (n := n) (by rw [hT]; exact hc0) (by rw [hT]; exact hc1)
    (fun _ h => by cases h) (fun _ h => by cases h) (fun h => by cases h) (fun h => by cases h) hk0 hk1 hkk0 hkk1 (by simp [refKind]) g1 g2 g3
    (by rw [nn sp g1, nn n g3]; show ¬ _ > ((arrV (pp_d g 0) n0 (fun j => Value.int (w.2.1 a j))).slots.size : Int); rw [arrV_size]; omega)
    (by rw [nn dp g2, nn n g3]; show ¬ _ > ((arrV (pp_d g 0) n1 (fun j => Value.int (w.2.1 b j))).slots.size : Int); rw [arrV_size]; omega)
    (fun vm₁ _ i hi => by
      have e : (vp_cell (pp_d g 0) (n0, .inl (w.2.1 a))).slots.getD (sp.toNatClampNeg + i) .null = Value.int (w.2.1 a (sp.toNatClampNeg + i)) := by
        show (arrV (pp_d g 0) n0 (fun j => Value.int (w.2.1 a j))).slots.getD _ _ = _
        rw [Array.getD_eq_getD_getElem?, arrV_read _ _ (by omega)]
        rfl
      refine ⟨?_, ?_⟩
      · rw [e]
        rfl
      · rw [e]
        exact trivial)
    (g := F0 t.m pc ls (.int n :: .int dp :: .ref (pp_ad g b) :: .int sp :: .ref (pp_ad g a) :: st.map (pp_v g))) rfl (by rw [hml]; exact hl.1) (rest := st.map (pp_v g)) rfl (by rw [hb]; exact hd) hR1 (by show 2 * 0 + _ + (nativeFrameWords "java/lang/System" "arraycopy" 5 + 11) ≤ _; have := pp_copyN; omega)
  have e1 : copied (vp_cell (pp_d g 0) (n0, .inl (w.2.1 a))) (vp_cell (pp_d g 0) (n1, .inl (w.2.1 b))) sp dp n = vp_cell (pp_d g 0) (n1, .inl (va_cpy (w.2.1 a) (w.2.1 b) sp.toNatClampNeg dp.toNatClampNeg n.toNatClampNeg)) := va_copied (fun z => Value.int z) (pp_d g 0) (pp_d g 0) (w.2.1 a) (w.2.1 b) g4
  rw [e1] at X' step
  have hl9 : pp_ad g b < H.size := (Array.getElem?_eq_some_iff.mp hc1).1
  obtain ⟨H1, hH1⟩ : ∃ z, z = ((T.setVm vm').setCell (pp_ad g b) (vp_cell (pp_d g 0) (n1, .inl (va_cpy (w.2.1 a) (w.2.1 b) sp.toNatClampNeg dp.toNatClampNeg n.toNatClampNeg)))).heap := ⟨_, rfl⟩
  have hTv : (T.setVm vm').heap = H := hT
  have z : H1.size = H.size := by rw [hH1, size_setCell, hTv]
  have oq : ∀ q : Nat, q ≠ pp_ad g b → H1[q]? = H[q]? := fun q hq => by rw [hH1, heapAt_setCell_ne _ (Ne.symm hq), hTv]
  obtain ⟨t2, a1, b1⟩ := kw H1 _ ls cells slots (hP.store hb9 (fun q => nomatch q) (fun i hi => pp_s_ne _ _ hi) (fun i hi => rfl) (fun i hi => rfl) z oq (pp_at.i.mpr (by rw [hH1]; simp only [pp_s_eq]; exact heapAt_setCell_self _ (by rw [hTv]; exact hl9)))) ⟨by rw [z]; exact hS.1, fun q z1 z2 => by
      rw [oq q (fun e => z2 (by rw [e]; exact hP.Aa hb9 (fun q => nomatch q)))]
      exact hS.2.1 q z1 z2, fun q hq => by
      rcases List.mem_append.mp hq with h | h
      · exact hS.2.2 q h
      · obtain ⟨z, -, hz⟩ := List.mem_map.mp h
        rw [← hz]
        exact hP.Aa hb9 (fun q => nomatch q)⟩ hl q1 q2 _ hH1.symm X'
  exact ⟨t2, step t2 a1, b1⟩
theorem pr_copyl {idx a b n0 n1 : Nat} {sp dp n : Int32} (hd : decode mi.by_ pc = .ok (.invokestatic idx, 3)) (hlk : Cond.methodLink mi.y.cls idx arraycopyName ∈ pp_T) (hR1 : 1 ≤ R.frames) (hR2 : 100 ≤ R.locals) (hst : st.length ≤ 4) (ha : w.1[a]? = some (13, n0)) (hb9 : w.1[b]? = some (13, n1))
    (g1 : ¬ sp < 0) (g2 : ¬ dp < 0) (g3 : ¬ n < 0) (g4 : sp.toNatClampNeg + n.toNatClampNeg ≤ n0) (g5 : dp.toNatClampNeg + n.toNatClampNeg ≤ n1)
    (kk : pp_ATc g R mi Z cs (pc + 3) L st (w.1, w.2.1, pp_s w.2.2.1 b (va_cpy (w.2.2.1 a) (w.2.2.1 b) sp.toNatClampNeg dp.toNatClampNeg n.toNatClampNeg), w.2.2.2)) : pp_ATc g R mi Z cs pc L (.int n :: .int dp :: .ref b :: .int sp :: .ref a :: st) w := by
  intro t C H locs ls cells slots hP hS hl q1 q2
  have kw := kk t C
  obtain ⟨hx, hb, hml, hown, hts, hret, hlocks, hname, htab, hK, hE, hb0, htr⟩ := C
  have nn : ∀ z : Int32, ¬ z < 0 → z.toInt = (z.toNatClampNeg : Int) := by
    intro z hz
    have hz0 : (0 : Int) ≤ z.toInt := by
      have := Int32.not_lt.mp hz
      simpa using Int32.le_iff_toInt_le.mp this
    show z.toInt = ((z.toInt.toNat : Nat) : Int)
    omega
  have hcat : ((st.map (pp_v g)).map fun v => v.category).sum ≤ 2 * st.length := pp_cat_le g st
  intro T hT X
  have hc0 : H[pp_ad g a]? = some (vp_cell (pp_d g 3) (n0, .inr (.inl (w.2.2.1 a)))) := pp_at.j.mp (hP.2.2.2 a _ ha)
  have hc1 : H[pp_ad g b]? = some (vp_cell (pp_d g 3) (n1, .inr (.inl (w.2.2.1 b)))) := pp_at.j.mp (hP.2.2.2 b _ hb9)
  obtain ⟨-, k0, hk0, cm0, hkk0⟩ := (hK.2 3 _ rfl).1 n0 (fun j => Value.long (w.2.2.1 a j))
  obtain ⟨-, k1, hk1, cm1, hkk1⟩ := (hK.2 3 _ rfl).1 n1 (fun j => Value.long (w.2.2.1 b j))
  obtain ⟨vm', X', step⟩ := X.arraycopy hx hown (hts _ hlk) (hts _ pp_copyW.1) (hts _ pp_copyW.2.1) (hts _ pp_copyW.2.2) (src := pp_ad g a) (dst := pp_ad g b) (cs := vp_cell (pp_d g 3) (n0, .inr (.inl (w.2.2.1 a)))) (cd := vp_cell (pp_d g 3) (n1, .inr (.inl (w.2.2.1 b)))) (srcPos := sp) (destPos := dp) (n := n) (by rw [hT]; exact hc0) (by rw [hT]; exact hc1)
    (fun _ h => by cases h) (fun _ h => by cases h) (fun h => by cases h) (fun h => by cases h) hk0 hk1 hkk0 hkk1 (by simp [refKind]) g1 g2 g3
    (by rw [nn sp g1, nn n g3]; show ¬ _ > ((arrV (pp_d g 3) n0 (fun j => Value.long (w.2.2.1 a j))).slots.size : Int); rw [arrV_size]; omega)
    (by rw [nn dp g2, nn n g3]; show ¬ _ > ((arrV (pp_d g 3) n1 (fun j => Value.long (w.2.2.1 b j))).slots.size : Int); rw [arrV_size]; omega)
    (fun vm₁ _ i hi => by
      have e : (vp_cell (pp_d g 3) (n0, .inr (.inl (w.2.2.1 a)))).slots.getD (sp.toNatClampNeg + i) .null = Value.long (w.2.2.1 a (sp.toNatClampNeg + i)) := by
        show (arrV (pp_d g 3) n0 (fun j => Value.long (w.2.2.1 a j))).slots.getD _ _ = _
        rw [Array.getD_eq_getD_getElem?, arrV_read _ _ (by omega)]
        rfl
      refine ⟨?_, ?_⟩
      · rw [e]
        rfl
      · rw [e]
        exact trivial)
    (g := F0 t.m pc ls (.int n :: .int dp :: .ref (pp_ad g b) :: .int sp :: .ref (pp_ad g a) :: st.map (pp_v g))) rfl (by rw [hml]; exact hl.1) (rest := st.map (pp_v g)) rfl (by rw [hb]; exact hd) hR1 (by show 2 * 0 + _ + (nativeFrameWords "java/lang/System" "arraycopy" 5 + 11) ≤ _; have := pp_copyN; omega)
  have e1 : copied (vp_cell (pp_d g 3) (n0, .inr (.inl (w.2.2.1 a)))) (vp_cell (pp_d g 3) (n1, .inr (.inl (w.2.2.1 b)))) sp dp n = vp_cell (pp_d g 3) (n1, .inr (.inl (va_cpy (w.2.2.1 a) (w.2.2.1 b) sp.toNatClampNeg dp.toNatClampNeg n.toNatClampNeg))) := va_copied (fun z => Value.long z) (pp_d g 3) (pp_d g 3) (w.2.2.1 a) (w.2.2.1 b) g4
  rw [e1] at X' step
  have hl9 : pp_ad g b < H.size := (Array.getElem?_eq_some_iff.mp hc1).1
  obtain ⟨H1, hH1⟩ : ∃ z, z = ((T.setVm vm').setCell (pp_ad g b) (vp_cell (pp_d g 3) (n1, .inr (.inl (va_cpy (w.2.2.1 a) (w.2.2.1 b) sp.toNatClampNeg dp.toNatClampNeg n.toNatClampNeg))))).heap := ⟨_, rfl⟩
  have hTv : (T.setVm vm').heap = H := hT
  have z : H1.size = H.size := by rw [hH1, size_setCell, hTv]
  have oq : ∀ q : Nat, q ≠ pp_ad g b → H1[q]? = H[q]? := fun q hq => by rw [hH1, heapAt_setCell_ne _ (Ne.symm hq), hTv]
  obtain ⟨t2, a1, b1⟩ := kw H1 _ ls cells slots (hP.store hb9 (fun q => nomatch q) (fun i hi => rfl) (fun i hi => pp_s_ne _ _ hi) (fun i hi => rfl) z oq (pp_at.j.mpr (by rw [hH1]; simp only [pp_s_eq]; exact heapAt_setCell_self _ (by rw [hTv]; exact hl9)))) ⟨by rw [z]; exact hS.1, fun q z1 z2 => by
      rw [oq q (fun e => z2 (by rw [e]; exact hP.Aa hb9 (fun q => nomatch q)))]
      exact hS.2.1 q z1 z2, fun q hq => by
      rcases List.mem_append.mp hq with h | h
      · exact hS.2.2 q h
      · obtain ⟨z, -, hz⟩ := List.mem_map.mp h
        rw [← hz]
        exact hP.Aa hb9 (fun q => nomatch q)⟩ hl q1 q2 _ hH1.symm X'
  exact ⟨t2, step t2 a1, b1⟩
end Copy
