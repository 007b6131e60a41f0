/-! THE CLASS: its objects -/
set_option maxHeartbeats 1000000
set_option maxRecDepth 100000
/-- a ledger and its rows -/
abbrev sLx (sh : List (Nat × Nat)) (R : Nat → Nat → Option Nat) (L a1 a2 a3 a4 a5 a6 a7 a8 a9 : Nat) : Prop := sh[L]? = some (4, 0) ∧ sh[a1]? = some (10, 8) ∧ sh[a2]? = some (10, 16) ∧ sh[a3]? = some (10, 16) ∧ sh[a4]? = some (10, 64) ∧ sh[a5]? = some (10, 64) ∧ sh[a6]? = some (10, 24) ∧ sh[a7]? = some (13, 6) ∧ sh[a8]? = some (13, 8) ∧ sh[a9]? = some (13, 8) ∧ R L 3 = some a1 ∧ R L 5 = some a2 ∧ R L 6 = some a3 ∧ R L 7 = some a4 ∧ R L 8 = some a5 ∧ R L 9 = some a6 ∧ R L 10 = some a7 ∧ R L 12 = some a8 ∧ R L 13 = some a9
abbrev sLg (sh : List (Nat × Nat)) (R : Nat → Nat → Option Nat) (L : Nat) : Prop := sLx sh R L (L + 1) (L + 2) (L + 3) (L + 4) (L + 5) (L + 6) (L + 7) (L + 8) (L + 9)
abbrev sTx (sh : List (Nat × Nat)) (R : Nat → Nat → Option Nat) (a a1 a2 a3 a4 a5 a6 : Nat) : Prop := sh[a]? = some (6, 0) ∧ sh[a1]? = some (10, 4) ∧ sh[a2]? = some (10, 4) ∧ sh[a3]? = some (10, 6) ∧ sh[a4]? = some (2, 0) ∧ sh[a5]? = some (10, 700) ∧ sh[a6]? = some (10, 16) ∧ R a 1 = some a1 ∧ R a 2 = some a2 ∧ R a 4 = some a3 ∧ R a 15 = some a4 ∧ R a4 0 = some a5 ∧ R a4 2 = some a6
abbrev sC (sh : List (Nat × Nat)) (R : Nat → Nat → Option Nat) : Prop := (sh[64]? = some (8, 0) ∧ sh[65]? = some (11, 700) ∧ R 64 0 = some 65 ∧ R 64 3 = some 66 ∧ R 64 4 = some 95 ∧ R 64 5 = some 102 ∧ R 64 6 = some 112 ∧ R 64 7 = some 113 ∧ R 64 8 = some 118 ∧ R 64 9 = some 120) ∧
  (sh[66]? = some (5, 0) ∧ R 66 0 = some 67 ∧ R 66 1 = some 74 ∧ R 66 2 = some 84 ∧ R 66 3 = some 94 ∧ sh[94]? = some (7, 0) ∧ R 94 0 = some 65) ∧
  (sh[112]? = some (0, 0) ∧ R 112 0 = some 95 ∧ R 112 1 = some 102 ∧ sh[113]? = some (1, 0) ∧ R 113 0 = some 114 ∧ R 113 1 = some 115 ∧ R 113 3 = some 116 ∧ R 113 4 = some 117 ∧ sh[114]? = some (10, 8) ∧ sh[115]? = some (13, 8) ∧ sh[116]? = some (12, 8) ∧ sh[117]? = some (13, 8) ∧ sh[118]? = some (3, 0) ∧ R 118 0 = some 119 ∧ sh[119]? = some (14, 10) ∧ sh[120]? = some (14, 2)) ∧
  sTx sh R 67 68 69 70 71 72 73 ∧ sTx sh R 95 96 97 98 99 100 101 ∧ sLx sh R 74 75 76 77 78 79 80 81 82 83 ∧ sLx sh R 84 85 86 87 88 89 90 91 92 93 ∧ sLx sh R 102 103 104 105 106 107 108 109 110 111
/-- the credited ones as bits -/
def cdt (G : LG) : Nat := sm (fun l => if G.1 (207 + l) = 1 then 2 ^ l else 0) 6
abbrev cLx (I : Nat → Nat → Int32) (J : Nat → Nat → Int64) (L a1 a2 a3 a4 a5 a6 a7 a8 a9 : Nat) (G : LG) : Prop := I L 0 = Int32.ofNat (G.1 0) ∧ I L 1 = Int32.ofNat (G.1 1) ∧ I L 2 = Int32.ofNat (G.1 7) ∧ I L 4 = Int32.ofNat (G.1 8) ∧ I L 11 = Int32.ofNat (cdt G) ∧ J L 14 = G.2 2 ∧ J L 15 = G.2 3 ∧ J L 16 = G.2 4 ∧ J L 17 = G.2 5 ∧ J L 18 = G.2 6 ∧
  (∀ m, m < 8 → I a1 m = Int32.ofNat (G.1 (9 + m))) ∧ (∀ p, p < 16 → I a2 p = Int32.ofNat (G.1 (17 + p))) ∧ (∀ p, p < 16 → I a3 p = Int32.ofNat (G.1 (33 + p))) ∧ (∀ k, k < 64 → I a4 k = Int32.ofNat (G.1 (49 + k))) ∧ (∀ k, k < 64 → I a5 k = Int32.ofNat (G.1 (113 + k))) ∧ (∀ k, k < 24 → I a6 k = Int32.ofNat (G.1 (183 + k))) ∧
  (∀ l, l < 6 → J a7 l = G.2 (177 + l)) ∧ (∀ m, m < 8 → J a8 m = G.2 (213 + m)) ∧ (∀ m, m < 8 → J a9 m = G.2 (221 + m))
abbrev cL (I : Nat → Nat → Int32) (J : Nat → Nat → Int64) (L : Nat) (G : LG) : Prop := cLx I J L (L + 1) (L + 2) (L + 3) (L + 4) (L + 5) (L + 6) (L + 7) (L + 8) (L + 9) G
abbrev cG (I : Nat → Nat → Int32) (J : Nat → Nat → Int64) (G : LG) : Prop := cLx I J 102 103 104 105 106 107 108 109 110 111 G
def encC (e : Nat) : Int32 := if e < 100 then Int32.ofInt (-(e : Int)) else Int32.ofNat (e - 100)
abbrev cTx (I : Nat → Nat → Int32) (a a1 a2 a3 a4 a5 : Nat) (T : TM) : Prop := I a 0 = Int32.ofNat (T.1 1) ∧ I a 3 = Int32.ofNat (T.1 3) ∧ I a 5 = Int32.ofNat (T.1 4) ∧ I a 6 = Int32.ofNat (T.1 5) ∧ I a 7 = Int32.ofNat (T.1 6) ∧ I a 8 = Int32.ofNat (T.1 7) ∧ I a 9 = Int32.ofNat (T.1 8) ∧ I a 10 = Int32.ofNat (T.1 9) ∧ I a 11 = Int32.ofNat (T.1 10) ∧ I a 12 = Int32.ofNat (T.1 11) ∧ I a 13 = Int32.ofNat (T.1 12) ∧ I a 14 = Int32.ofNat (T.1 13) ∧
  (∀ v, v < T.1 1 → I a1 v = Int32.ofNat (T.2.1 (2 * v))) ∧ (∀ v, v < T.1 1 → I a2 v = Int32.ofNat (T.2.1 (2 * v + 1))) ∧ (∀ l, l < T.1 3 → I a3 l = Int32.ofNat (T.2.2.1 l)) ∧ I a4 1 = Int32.ofNat T.2.2.2.length ∧ (∀ i, i < T.2.2.2.length → I a5 i = encC (T.2.2.2.getD i 0))
abbrev cT (I : Nat → Nat → Int32) (T : TM) : Prop := cTx I 95 96 97 98 99 100 T
/-- ledgers made later: ten in the ring, two in the slots -/
def ent (R : Nat → Nat → Option Nat) (k : Nat) : Option Nat := if k < 10 then R 119 k else R 120 (k - 10)
abbrev cE (sh : List (Nat × Nat)) (R : Nat → Nat → Option Nat) : Prop := (∀ k, k < 12 → ∀ L, ent R k = some L → 141 ≤ L ∧ sLg sh R L) ∧ ∀ k k', k < 12 → k' < 12 → k ≠ k' → ∀ L L', ent R k = some L → ent R k' = some L' → L + 10 ≤ L' ∨ L' + 10 ≤ L
abbrev cU (I : Nat → Nat → Int32) (J : Nat → Nat → Int64) (R : Nat → Nat → Option Nat) (U : Nat × (Nat → LG)) : Prop := ∃ nw, nw < 10 ∧ I 118 1 = Int32.ofNat nw ∧ I 118 2 = Int32.ofNat U.1 ∧ U.1 ≤ 10 ∧ ∀ i, i < U.1 → ∃ L, ent R ((nw + 10 - i) % 10) = some L ∧ cL I J L (U.2 i)
abbrev cS (I : Nat → Nat → Int32) (J : Nat → Nat → Int64) (R : Nat → Nat → Option Nat) (S : Nat → Option LG) : Prop := ∀ s, s < 2 → (S s = none ∧ R 120 s = none) ∨ ∃ L G, R 120 s = some L ∧ S s = some G ∧ cL I J L G
/-- THE PICTURE -/
abbrev RC (A : AS) (sh : List (Nat × Nat)) (I : Nat → Nat → Int32) (J : Nat → Nat → Int64) (R : Nat → Nat → Option Nat) : Prop := cG I J (aG A) ∧ cT I (aT A) ∧ (∀ i, i < 700 → I 65 i = (aB A i).toInt32) ∧ I 64 1 = Int32.ofNat (aN A) ∧ I 64 2 = aE A ∧ cE sh R ∧ cU I J R (aU A) ∧ cS I J R (aS A) ∧ cL I J 84 (fun _ => 0, fun _ => Int64.ofNat 0)
theorem cL_cg {I I' : Nat → Nat → Int32} {J J' : Nat → Nat → Int64} {L : Nat} {G : LG} (h : cL I J L G) (hI : ∀ a, L ≤ a → a < L + 10 → I' a = I a) (hJ : ∀ a, L ≤ a → a < L + 10 → J' a = J a) : cL I' J' L G := by
  simpa only [cL, cLx, hI L (by omega) (by omega), hI (L + 1) (by omega) (by omega), hI (L + 2) (by omega) (by omega), hI (L + 3) (by omega) (by omega), hI (L + 4) (by omega) (by omega), hI (L + 5) (by omega) (by omega), hI (L + 6) (by omega) (by omega), hJ L (by omega) (by omega), hJ (L + 7) (by omega) (by omega), hJ (L + 8) (by omega) (by omega), hJ (L + 9) (by omega) (by omega)] using h
theorem cT_cg {I I' : Nat → Nat → Int32} {T : TM} (h : cT I T) (hI : ∀ a, 95 ≤ a → a < 101 → I' a = I a) : cT I' T := by
  simpa only [cT, cTx, hI 95 (by omega) (by omega), hI 96 (by omega) (by omega), hI 97 (by omega) (by omega), hI 98 (by omega) (by omega), hI 99 (by omega) (by omega), hI 100 (by omega) (by omega)] using h
/-- what asking may change: what is only used while it runs -/
abbrev fX (I I' : Nat → Nat → Int32) : Prop := ∀ a, a ≠ 101 → a ≠ 114 → a ≠ 116 → I' a = I a
abbrev fY (J J' : Nat → Nat → Int64) : Prop := ∀ a, a ≠ 113 → a ≠ 115 → a ≠ 117 → J' a = J a
theorem RC_X {A : AS} {sh : List (Nat × Nat)} {I I' : Nat → Nat → Int32} {J J' : Nat → Nat → Int64} {R : Nat → Nat → Option Nat} (h : RC A sh I J R) (hI : fX I I') (hJ : fY J J') : RC A sh I' J' R := by
  obtain ⟨h1, h2, h3, h4, h5, h6, h7, h8, h9⟩ := h
  refine ⟨cL_cg (L := 102) h1 (fun a x y => hI a (by omega) (by omega) (by omega)) (fun a x y => hJ a (by omega) (by omega) (by omega)), cT_cg h2 (fun a x y => hI a (by omega) (by omega) (by omega)), ?_, ?_, ?_, h6, ?_, ?_, cL_cg (L := 84) h9 (fun a x y => hI a (by omega) (by omega) (by omega)) (fun a x y => hJ a (by omega) (by omega) (by omega))⟩
  · rw [hI 65 (by omega) (by omega) (by omega)]; exact h3
  · rw [hI 64 (by omega) (by omega) (by omega)]; exact h4
  · rw [hI 64 (by omega) (by omega) (by omega)]; exact h5
  · obtain ⟨nw, u1, u2, u3, u4, u5⟩ := h7
    refine ⟨nw, u1, ?_, ?_, u4, fun i hi => ?_⟩
    · rw [hI 118 (by omega) (by omega) (by omega)]; exact u2
    · rw [hI 118 (by omega) (by omega) (by omega)]; exact u3
    · obtain ⟨L, l1, l2⟩ := u5 i hi
      have b := (h6.1 _ (by omega) L l1).1
      exact ⟨L, l1, cL_cg l2 (fun a x y => hI a (by omega) (by omega) (by omega)) (fun a x y => hJ a (by omega) (by omega) (by omega))⟩
  · intro s hs
    rcases h8 s hs with q | ⟨L, G, q1, q2, q3⟩
    · exact Or.inl q
    · have b := (h6.1 (10 + s) (by omega) L (by rw [ent, if_neg (by omega), show 10 + s - 10 = s by omega]; exact q1)).1
      exact Or.inr ⟨L, G, q1, q2, cL_cg q3 (fun a x y => hI a (by omega) (by omega) (by omega)) (fun a x y => hJ a (by omega) (by omega) (by omega))⟩
