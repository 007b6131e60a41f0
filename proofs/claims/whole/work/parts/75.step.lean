/-! THE LAW: one call on both sides -/
set_option maxHeartbeats 1000000
set_option maxRecDepth 100000
def LI (n : Nat) (A : AS) (sh : List (Nat × Nat)) (I : Nat → Nat → Int32) (J : Nat → Nat → Int64) (R : Nat → Nat → Option Nat) : Prop := sC sh R ∧ RC A sh I J R ∧ sM sh R ∧ RM A I J ∧ 141 ≤ sh.length ∧ sh[140]? = some (13, 1) ∧ gd n A
section
variable {g : pp_G} {b : Addr} {j n i : Nat} {sh sh' : List (Nat × Nat)} {I I' I'' : Nat → Nat → Int32} {J J' J'' : Nat → Nat → Int64} {R R' : Nat → Nat → Option Nat} {A A' : AS}
theorem RM_K (h : RM A I J) (f : ∀ a, 121 ≤ a → a < 140 → I' a = I a ∧ J' a = J a) : RM A I' J' := by
  obtain ⟨a1, a2, a3, a4, a5, a6, a7⟩ := h
  refine ⟨?_, mT_fr a2 (fun a _ _ => (f a (by omega) (by omega)).1), ?_, ?_, ?_, ?_, ?_⟩
  · rw [(f 122 (by omega) (by omega)).2]; exact a1
  · rw [(f 130 (by omega) (by omega)).1]; exact a3
  · rw [(f 121 (by omega) (by omega)).1]; exact a4
  · rw [(f 121 (by omega) (by omega)).1]; exact a5
  · exact ⟨by rw [(f 121 (by omega) (by omega)).1]; exact a6.1, a6.2.1, fun i hi => rN_cg (a6.2.2 i hi) (fun j _ => by show J' 137 _ = J 137 _; rw [(f 137 (by omega) (by omega)).2])⟩
  · exact fun s hs => ⟨by rw [(f 139 (by omega) (by omega)).1]; exact (a7 s hs).1, fun G hG => rN_cg ((a7 s hs).2 G hG) (fun j _ => by show J' 138 _ = J 138 _; rw [(f 138 (by omega) (by omega)).2])⟩
theorem RC_M (h : RC A sh I J R) (f : fO I I' J J') : RC A sh I' J' R := by
  obtain ⟨h1, h2, h3, h4, h5, h6, h7, h8, h9⟩ := h
  refine ⟨cL_cg (L := 102) h1 (fun a x y => (f a (by omega)).1) (fun a x y => (f a (by omega)).2), cT_cg h2 (fun a x y => (f a (by omega)).1), ?_, ?_, ?_, h6, ?_, ?_, cL_cg (L := 84) h9 (fun a x y => (f a (by omega)).1) (fun a x y => (f a (by omega)).2)⟩
  · rw [(f 65 (by omega)).1]; exact h3
  · rw [(f 64 (by omega)).1]; exact h4
  · rw [(f 64 (by omega)).1]; exact h5
  · obtain ⟨nw, u1, u2, u3, u4, u5⟩ := h7
    refine ⟨nw, u1, ?_, ?_, u4, fun i hi => ?_⟩
    · rw [(f 118 (by omega)).1]; exact u2
    · rw [(f 118 (by omega)).1]; exact u3
    · obtain ⟨L, l1, l2⟩ := u5 i hi
      have b := (h6.1 _ (by omega) L l1).1
      exact ⟨L, l1, cL_cg l2 (fun a x y => (f a (by omega)).1) (fun a x y => (f a (by omega)).2)⟩
  · intro s hs
    rcases h8 s hs with q | ⟨L, G, q1, q2, q3⟩
    · exact Or.inl q
    · have b := (h6.1 (10 + s) (by omega) L (by rw [ent, if_neg (by omega), show 10 + s - 10 = s by omega]; exact q1)).1
      exact Or.inr ⟨L, G, q1, q2, cL_cg q3 (fun a x y => (f a (by omega)).1) (fun a x y => (f a (by omega)).2)⟩
theorem LI_m (hM : sM sh R) (f : fWr sh I J R sh' I' J' R') : sM sh' R' := by
  obtain ⟨⟨e, rfl⟩, f⟩ := f
  exact sM_cg hM (f 121 (by omega) (by omega)).2.2
theorem LI_r (h : RM A I J) (f : fWr sh I J R sh' I' J' R') : RM A I' J' := RM_K h (fun a x y => ⟨(f.2 a x y).1, (f.2 a x y).2.1⟩)
theorem LI_step (hI : LI n A sh I J R) (c1 : sC sh' R') (f : fWr sh I J R sh' I' J' R') (c3 : RC A' sh' I' J' R') (m1 : RM A' I'' J'') (m2 : fO I' I'' J' J'') (hg : gd (n + 1) A') : LI (n + 1) A' sh' I'' J'' R' := by
  obtain ⟨hC, hA, hM, hR, h141, h140, hG⟩ := hI
  refine ⟨c1, RC_M c3 m2, LI_m hM f, m1, ?_, ?_, hg⟩
  · obtain ⟨⟨e, rfl⟩, f⟩ := f
    rw [List.length_append]
    omega
  · obtain ⟨⟨e, rfl⟩, f⟩ := f
    rw [List.getElem?_append_left (List.getElem?_eq_some_iff.mp h140).1]
    exact h140
theorem fK_W (f : fK sh I J R sh' I' J' R') : fWr sh I J R sh' I' J' R' := ⟨f.1, fun a x y => f.2 a x (by omega)⟩
abbrev lL (i : Nat) : List (Nat × Value) := [(0, .ref 0), (1, .ref 64), (2, .ref 121), (3, .ref 140), (4, .int (Int32.ofNat i))]
abbrev lK (g : pp_G) (b : Addr) (j n i : Nat) : Prop := ∀ A sh I J R L, LI (n + 1) A sh I J R → (∀ q ∈ lL i, q ∈ L) → L.lookup 4 = some (.int (Int32.ofNat i)) → lwN g b j 2205 L [] (sh, I, J, R)
end
