/-! THE CLASS, 9: writes into the ledger -/
set_option maxHeartbeats 1000000
set_option maxRecDepth 100000
theorem cdt_cg {G G' : LG} (h : ∀ l, l < 6 → G'.1 (207 + l) = G.1 (207 + l)) : cdt G' = cdt G := by
  unfold cdt
  exact sm_congr 6 (fun l hl => by rw [h l hl])
section
variable {I : Nat → Nat → Int32} {J : Nat → Nat → Int64} {G : LG}
theorem uF_0 {x : Nat} (hG : cG I J G) : cG (pp_s I 102 (va_up (I 102) 0 (Int32.ofNat x))) J (va_up G.1 0 x, G.2) := by
  obtain ⟨g0, g1, g2, g4, g11, g14, g15, g16, g17, g18, a1, a2, a3, a4, a5, a6, a7, a8, a9⟩ := hG
  refine ⟨?_, ?_, ?_, ?_, ?_, ?_, ?_, ?_, ?_, ?_, fun m hm => ?_, fun m hm => ?_, fun m hm => ?_, fun m hm => ?_, fun m hm => ?_, fun m hm => ?_, fun m hm => ?_, fun m hm => ?_, fun m hm => ?_⟩
  · simp only [n_m, ↓reduceIte]
  · simp only [n_m, ↓reduceIte, Nat.reduceEqDiff]; first | exact g1 | (rw [if_neg (by omega)]; exact g1)
  · simp only [n_m, ↓reduceIte, Nat.reduceEqDiff]; first | exact g2 | (rw [if_neg (by omega)]; exact g2)
  · simp only [n_m, ↓reduceIte, Nat.reduceEqDiff]; first | exact g4 | (rw [if_neg (by omega)]; exact g4)
  · rw [cdt_cg (G := G) (fun l hl => by simp only [va_up]; rw [if_neg (by omega)])]; first | exact g11 | (simp only [n_m, ↓reduceIte, Nat.reduceEqDiff]; exact g11)
  · simp only [n_m, ↓reduceIte, Nat.reduceEqDiff]; first | exact g14 | (rw [if_neg (by omega)]; exact g14)
  · simp only [n_m, ↓reduceIte, Nat.reduceEqDiff]; first | exact g15 | (rw [if_neg (by omega)]; exact g15)
  · simp only [n_m, ↓reduceIte, Nat.reduceEqDiff]; first | exact g16 | (rw [if_neg (by omega)]; exact g16)
  · simp only [n_m, ↓reduceIte, Nat.reduceEqDiff]; first | exact g17 | (rw [if_neg (by omega)]; exact g17)
  · simp only [n_m, ↓reduceIte, Nat.reduceEqDiff]; first | exact g18 | (rw [if_neg (by omega)]; exact g18)
  · simp only [n_m, ↓reduceIte, Nat.reduceEqDiff]; first | exact a1 m hm | (rw [if_neg (by omega)]; exact a1 m hm)
  · simp only [n_m, ↓reduceIte, Nat.reduceEqDiff]; first | exact a2 m hm | (rw [if_neg (by omega)]; exact a2 m hm)
  · simp only [n_m, ↓reduceIte, Nat.reduceEqDiff]; first | exact a3 m hm | (rw [if_neg (by omega)]; exact a3 m hm)
  · simp only [n_m, ↓reduceIte, Nat.reduceEqDiff]; first | exact a4 m hm | (rw [if_neg (by omega)]; exact a4 m hm)
  · simp only [n_m, ↓reduceIte, Nat.reduceEqDiff]; first | exact a5 m hm | (rw [if_neg (by omega)]; exact a5 m hm)
  · simp only [n_m, ↓reduceIte, Nat.reduceEqDiff]; first | exact a6 m hm | (rw [if_neg (by omega)]; exact a6 m hm)
  · simp only [n_m, ↓reduceIte, Nat.reduceEqDiff]; first | exact a7 m hm | (rw [if_neg (by omega)]; exact a7 m hm)
  · simp only [n_m, ↓reduceIte, Nat.reduceEqDiff]; first | exact a8 m hm | (rw [if_neg (by omega)]; exact a8 m hm)
  · simp only [n_m, ↓reduceIte, Nat.reduceEqDiff]; first | exact a9 m hm | (rw [if_neg (by omega)]; exact a9 m hm)
theorem uF_1 {x : Nat} (hG : cG I J G) : cG (pp_s I 102 (va_up (I 102) 1 (Int32.ofNat x))) J (va_up G.1 1 x, G.2) := by
  obtain ⟨g0, g1, g2, g4, g11, g14, g15, g16, g17, g18, a1, a2, a3, a4, a5, a6, a7, a8, a9⟩ := hG
  refine ⟨?_, ?_, ?_, ?_, ?_, ?_, ?_, ?_, ?_, ?_, fun m hm => ?_, fun m hm => ?_, fun m hm => ?_, fun m hm => ?_, fun m hm => ?_, fun m hm => ?_, fun m hm => ?_, fun m hm => ?_, fun m hm => ?_⟩
  · simp only [n_m, ↓reduceIte, Nat.reduceEqDiff]; first | exact g0 | (rw [if_neg (by omega)]; exact g0)
  · simp only [n_m, ↓reduceIte]
  · simp only [n_m, ↓reduceIte, Nat.reduceEqDiff]; first | exact g2 | (rw [if_neg (by omega)]; exact g2)
  · simp only [n_m, ↓reduceIte, Nat.reduceEqDiff]; first | exact g4 | (rw [if_neg (by omega)]; exact g4)
  · rw [cdt_cg (G := G) (fun l hl => by simp only [va_up]; rw [if_neg (by omega)])]; first | exact g11 | (simp only [n_m, ↓reduceIte, Nat.reduceEqDiff]; exact g11)
  · simp only [n_m, ↓reduceIte, Nat.reduceEqDiff]; first | exact g14 | (rw [if_neg (by omega)]; exact g14)
  · simp only [n_m, ↓reduceIte, Nat.reduceEqDiff]; first | exact g15 | (rw [if_neg (by omega)]; exact g15)
  · simp only [n_m, ↓reduceIte, Nat.reduceEqDiff]; first | exact g16 | (rw [if_neg (by omega)]; exact g16)
  · simp only [n_m, ↓reduceIte, Nat.reduceEqDiff]; first | exact g17 | (rw [if_neg (by omega)]; exact g17)
  · simp only [n_m, ↓reduceIte, Nat.reduceEqDiff]; first | exact g18 | (rw [if_neg (by omega)]; exact g18)
  · simp only [n_m, ↓reduceIte, Nat.reduceEqDiff]; first | exact a1 m hm | (rw [if_neg (by omega)]; exact a1 m hm)
  · simp only [n_m, ↓reduceIte, Nat.reduceEqDiff]; first | exact a2 m hm | (rw [if_neg (by omega)]; exact a2 m hm)
  · simp only [n_m, ↓reduceIte, Nat.reduceEqDiff]; first | exact a3 m hm | (rw [if_neg (by omega)]; exact a3 m hm)
  · simp only [n_m, ↓reduceIte, Nat.reduceEqDiff]; first | exact a4 m hm | (rw [if_neg (by omega)]; exact a4 m hm)
  · simp only [n_m, ↓reduceIte, Nat.reduceEqDiff]; first | exact a5 m hm | (rw [if_neg (by omega)]; exact a5 m hm)
  · simp only [n_m, ↓reduceIte, Nat.reduceEqDiff]; first | exact a6 m hm | (rw [if_neg (by omega)]; exact a6 m hm)
  · simp only [n_m, ↓reduceIte, Nat.reduceEqDiff]; first | exact a7 m hm | (rw [if_neg (by omega)]; exact a7 m hm)
  · simp only [n_m, ↓reduceIte, Nat.reduceEqDiff]; first | exact a8 m hm | (rw [if_neg (by omega)]; exact a8 m hm)
  · simp only [n_m, ↓reduceIte, Nat.reduceEqDiff]; first | exact a9 m hm | (rw [if_neg (by omega)]; exact a9 m hm)
theorem uF_2 {x : Nat} (hG : cG I J G) : cG (pp_s I 102 (va_up (I 102) 2 (Int32.ofNat x))) J (va_up G.1 7 x, G.2) := by
  obtain ⟨g0, g1, g2, g4, g11, g14, g15, g16, g17, g18, a1, a2, a3, a4, a5, a6, a7, a8, a9⟩ := hG
  refine ⟨?_, ?_, ?_, ?_, ?_, ?_, ?_, ?_, ?_, ?_, fun m hm => ?_, fun m hm => ?_, fun m hm => ?_, fun m hm => ?_, fun m hm => ?_, fun m hm => ?_, fun m hm => ?_, fun m hm => ?_, fun m hm => ?_⟩
  · simp only [n_m, ↓reduceIte, Nat.reduceEqDiff]; first | exact g0 | (rw [if_neg (by omega)]; exact g0)
  · simp only [n_m, ↓reduceIte, Nat.reduceEqDiff]; first | exact g1 | (rw [if_neg (by omega)]; exact g1)
  · simp only [n_m, ↓reduceIte]
  · simp only [n_m, ↓reduceIte, Nat.reduceEqDiff]; first | exact g4 | (rw [if_neg (by omega)]; exact g4)
  · rw [cdt_cg (G := G) (fun l hl => by simp only [va_up]; rw [if_neg (by omega)])]; first | exact g11 | (simp only [n_m, ↓reduceIte, Nat.reduceEqDiff]; exact g11)
  · simp only [n_m, ↓reduceIte, Nat.reduceEqDiff]; first | exact g14 | (rw [if_neg (by omega)]; exact g14)
  · simp only [n_m, ↓reduceIte, Nat.reduceEqDiff]; first | exact g15 | (rw [if_neg (by omega)]; exact g15)
  · simp only [n_m, ↓reduceIte, Nat.reduceEqDiff]; first | exact g16 | (rw [if_neg (by omega)]; exact g16)
  · simp only [n_m, ↓reduceIte, Nat.reduceEqDiff]; first | exact g17 | (rw [if_neg (by omega)]; exact g17)
  · simp only [n_m, ↓reduceIte, Nat.reduceEqDiff]; first | exact g18 | (rw [if_neg (by omega)]; exact g18)
  · simp only [n_m, ↓reduceIte, Nat.reduceEqDiff]; first | exact a1 m hm | (rw [if_neg (by omega)]; exact a1 m hm)
  · simp only [n_m, ↓reduceIte, Nat.reduceEqDiff]; first | exact a2 m hm | (rw [if_neg (by omega)]; exact a2 m hm)
  · simp only [n_m, ↓reduceIte, Nat.reduceEqDiff]; first | exact a3 m hm | (rw [if_neg (by omega)]; exact a3 m hm)
  · simp only [n_m, ↓reduceIte, Nat.reduceEqDiff]; first | exact a4 m hm | (rw [if_neg (by omega)]; exact a4 m hm)
  · simp only [n_m, ↓reduceIte, Nat.reduceEqDiff]; first | exact a5 m hm | (rw [if_neg (by omega)]; exact a5 m hm)
  · simp only [n_m, ↓reduceIte, Nat.reduceEqDiff]; first | exact a6 m hm | (rw [if_neg (by omega)]; exact a6 m hm)
  · simp only [n_m, ↓reduceIte, Nat.reduceEqDiff]; first | exact a7 m hm | (rw [if_neg (by omega)]; exact a7 m hm)
  · simp only [n_m, ↓reduceIte, Nat.reduceEqDiff]; first | exact a8 m hm | (rw [if_neg (by omega)]; exact a8 m hm)
  · simp only [n_m, ↓reduceIte, Nat.reduceEqDiff]; first | exact a9 m hm | (rw [if_neg (by omega)]; exact a9 m hm)
theorem uF_4 {x : Nat} (hG : cG I J G) : cG (pp_s I 102 (va_up (I 102) 4 (Int32.ofNat x))) J (va_up G.1 8 x, G.2) := by
  obtain ⟨g0, g1, g2, g4, g11, g14, g15, g16, g17, g18, a1, a2, a3, a4, a5, a6, a7, a8, a9⟩ := hG
  refine ⟨?_, ?_, ?_, ?_, ?_, ?_, ?_, ?_, ?_, ?_, fun m hm => ?_, fun m hm => ?_, fun m hm => ?_, fun m hm => ?_, fun m hm => ?_, fun m hm => ?_, fun m hm => ?_, fun m hm => ?_, fun m hm => ?_⟩
  · simp only [n_m, ↓reduceIte, Nat.reduceEqDiff]; first | exact g0 | (rw [if_neg (by omega)]; exact g0)
  · simp only [n_m, ↓reduceIte, Nat.reduceEqDiff]; first | exact g1 | (rw [if_neg (by omega)]; exact g1)
  · simp only [n_m, ↓reduceIte, Nat.reduceEqDiff]; first | exact g2 | (rw [if_neg (by omega)]; exact g2)
  · simp only [n_m, ↓reduceIte]
  · rw [cdt_cg (G := G) (fun l hl => by simp only [va_up]; rw [if_neg (by omega)])]; first | exact g11 | (simp only [n_m, ↓reduceIte, Nat.reduceEqDiff]; exact g11)
  · simp only [n_m, ↓reduceIte, Nat.reduceEqDiff]; first | exact g14 | (rw [if_neg (by omega)]; exact g14)
  · simp only [n_m, ↓reduceIte, Nat.reduceEqDiff]; first | exact g15 | (rw [if_neg (by omega)]; exact g15)
  · simp only [n_m, ↓reduceIte, Nat.reduceEqDiff]; first | exact g16 | (rw [if_neg (by omega)]; exact g16)
  · simp only [n_m, ↓reduceIte, Nat.reduceEqDiff]; first | exact g17 | (rw [if_neg (by omega)]; exact g17)
  · simp only [n_m, ↓reduceIte, Nat.reduceEqDiff]; first | exact g18 | (rw [if_neg (by omega)]; exact g18)
  · simp only [n_m, ↓reduceIte, Nat.reduceEqDiff]; first | exact a1 m hm | (rw [if_neg (by omega)]; exact a1 m hm)
  · simp only [n_m, ↓reduceIte, Nat.reduceEqDiff]; first | exact a2 m hm | (rw [if_neg (by omega)]; exact a2 m hm)
  · simp only [n_m, ↓reduceIte, Nat.reduceEqDiff]; first | exact a3 m hm | (rw [if_neg (by omega)]; exact a3 m hm)
  · simp only [n_m, ↓reduceIte, Nat.reduceEqDiff]; first | exact a4 m hm | (rw [if_neg (by omega)]; exact a4 m hm)
  · simp only [n_m, ↓reduceIte, Nat.reduceEqDiff]; first | exact a5 m hm | (rw [if_neg (by omega)]; exact a5 m hm)
  · simp only [n_m, ↓reduceIte, Nat.reduceEqDiff]; first | exact a6 m hm | (rw [if_neg (by omega)]; exact a6 m hm)
  · simp only [n_m, ↓reduceIte, Nat.reduceEqDiff]; first | exact a7 m hm | (rw [if_neg (by omega)]; exact a7 m hm)
  · simp only [n_m, ↓reduceIte, Nat.reduceEqDiff]; first | exact a8 m hm | (rw [if_neg (by omega)]; exact a8 m hm)
  · simp only [n_m, ↓reduceIte, Nat.reduceEqDiff]; first | exact a9 m hm | (rw [if_neg (by omega)]; exact a9 m hm)
theorem uA_103 {k x : Nat} (hk : k < 8) (hG : cG I J G) : cG (pp_s I 103 (va_up (I 103) k (Int32.ofNat x))) J (va_up G.1 (9 + k) x, G.2) := by
  obtain ⟨g0, g1, g2, g4, g11, g14, g15, g16, g17, g18, a1, a2, a3, a4, a5, a6, a7, a8, a9⟩ := hG
  refine ⟨?_, ?_, ?_, ?_, ?_, ?_, ?_, ?_, ?_, ?_, fun m hm => ?_, fun m hm => ?_, fun m hm => ?_, fun m hm => ?_, fun m hm => ?_, fun m hm => ?_, fun m hm => ?_, fun m hm => ?_, fun m hm => ?_⟩
  · simp only [n_m, ↓reduceIte, Nat.reduceEqDiff]; first | exact g0 | (rw [if_neg (by omega)]; exact g0)
  · simp only [n_m, ↓reduceIte, Nat.reduceEqDiff]; first | exact g1 | (rw [if_neg (by omega)]; exact g1)
  · simp only [n_m, ↓reduceIte, Nat.reduceEqDiff]; first | exact g2 | (rw [if_neg (by omega)]; exact g2)
  · simp only [n_m, ↓reduceIte, Nat.reduceEqDiff]; first | exact g4 | (rw [if_neg (by omega)]; exact g4)
  · rw [cdt_cg (G := G) (fun l hl => by simp only [va_up]; rw [if_neg (by omega)])]; first | exact g11 | (simp only [n_m, ↓reduceIte, Nat.reduceEqDiff]; exact g11)
  · simp only [n_m, ↓reduceIte, Nat.reduceEqDiff]; first | exact g14 | (rw [if_neg (by omega)]; exact g14)
  · simp only [n_m, ↓reduceIte, Nat.reduceEqDiff]; first | exact g15 | (rw [if_neg (by omega)]; exact g15)
  · simp only [n_m, ↓reduceIte, Nat.reduceEqDiff]; first | exact g16 | (rw [if_neg (by omega)]; exact g16)
  · simp only [n_m, ↓reduceIte, Nat.reduceEqDiff]; first | exact g17 | (rw [if_neg (by omega)]; exact g17)
  · simp only [n_m, ↓reduceIte, Nat.reduceEqDiff]; first | exact g18 | (rw [if_neg (by omega)]; exact g18)
  · simp only [n_m, ↓reduceIte]
    by_cases z : m = k
    · rw [if_pos z, if_pos (by omega)]
    · rw [if_neg z, if_neg (by omega)]; exact a1 m hm
  · simp only [n_m, ↓reduceIte, Nat.reduceEqDiff]; first | exact a2 m hm | (rw [if_neg (by omega)]; exact a2 m hm)
  · simp only [n_m, ↓reduceIte, Nat.reduceEqDiff]; first | exact a3 m hm | (rw [if_neg (by omega)]; exact a3 m hm)
  · simp only [n_m, ↓reduceIte, Nat.reduceEqDiff]; first | exact a4 m hm | (rw [if_neg (by omega)]; exact a4 m hm)
  · simp only [n_m, ↓reduceIte, Nat.reduceEqDiff]; first | exact a5 m hm | (rw [if_neg (by omega)]; exact a5 m hm)
  · simp only [n_m, ↓reduceIte, Nat.reduceEqDiff]; first | exact a6 m hm | (rw [if_neg (by omega)]; exact a6 m hm)
  · simp only [n_m, ↓reduceIte, Nat.reduceEqDiff]; first | exact a7 m hm | (rw [if_neg (by omega)]; exact a7 m hm)
  · simp only [n_m, ↓reduceIte, Nat.reduceEqDiff]; first | exact a8 m hm | (rw [if_neg (by omega)]; exact a8 m hm)
  · simp only [n_m, ↓reduceIte, Nat.reduceEqDiff]; first | exact a9 m hm | (rw [if_neg (by omega)]; exact a9 m hm)
theorem uA_104 {k x : Nat} (hk : k < 16) (hG : cG I J G) : cG (pp_s I 104 (va_up (I 104) k (Int32.ofNat x))) J (va_up G.1 (17 + k) x, G.2) := by
  obtain ⟨g0, g1, g2, g4, g11, g14, g15, g16, g17, g18, a1, a2, a3, a4, a5, a6, a7, a8, a9⟩ := hG
  refine ⟨?_, ?_, ?_, ?_, ?_, ?_, ?_, ?_, ?_, ?_, fun m hm => ?_, fun m hm => ?_, fun m hm => ?_, fun m hm => ?_, fun m hm => ?_, fun m hm => ?_, fun m hm => ?_, fun m hm => ?_, fun m hm => ?_⟩
  · simp only [n_m, ↓reduceIte, Nat.reduceEqDiff]; first | exact g0 | (rw [if_neg (by omega)]; exact g0)
  · simp only [n_m, ↓reduceIte, Nat.reduceEqDiff]; first | exact g1 | (rw [if_neg (by omega)]; exact g1)
  · simp only [n_m, ↓reduceIte, Nat.reduceEqDiff]; first | exact g2 | (rw [if_neg (by omega)]; exact g2)
  · simp only [n_m, ↓reduceIte, Nat.reduceEqDiff]; first | exact g4 | (rw [if_neg (by omega)]; exact g4)
  · rw [cdt_cg (G := G) (fun l hl => by simp only [va_up]; rw [if_neg (by omega)])]; first | exact g11 | (simp only [n_m, ↓reduceIte, Nat.reduceEqDiff]; exact g11)
  · simp only [n_m, ↓reduceIte, Nat.reduceEqDiff]; first | exact g14 | (rw [if_neg (by omega)]; exact g14)
  · simp only [n_m, ↓reduceIte, Nat.reduceEqDiff]; first | exact g15 | (rw [if_neg (by omega)]; exact g15)
  · simp only [n_m, ↓reduceIte, Nat.reduceEqDiff]; first | exact g16 | (rw [if_neg (by omega)]; exact g16)
  · simp only [n_m, ↓reduceIte, Nat.reduceEqDiff]; first | exact g17 | (rw [if_neg (by omega)]; exact g17)
  · simp only [n_m, ↓reduceIte, Nat.reduceEqDiff]; first | exact g18 | (rw [if_neg (by omega)]; exact g18)
  · simp only [n_m, ↓reduceIte, Nat.reduceEqDiff]; first | exact a1 m hm | (rw [if_neg (by omega)]; exact a1 m hm)
  · simp only [n_m, ↓reduceIte]
    by_cases z : m = k
    · rw [if_pos z, if_pos (by omega)]
    · rw [if_neg z, if_neg (by omega)]; exact a2 m hm
  · simp only [n_m, ↓reduceIte, Nat.reduceEqDiff]; first | exact a3 m hm | (rw [if_neg (by omega)]; exact a3 m hm)
  · simp only [n_m, ↓reduceIte, Nat.reduceEqDiff]; first | exact a4 m hm | (rw [if_neg (by omega)]; exact a4 m hm)
  · simp only [n_m, ↓reduceIte, Nat.reduceEqDiff]; first | exact a5 m hm | (rw [if_neg (by omega)]; exact a5 m hm)
  · simp only [n_m, ↓reduceIte, Nat.reduceEqDiff]; first | exact a6 m hm | (rw [if_neg (by omega)]; exact a6 m hm)
  · simp only [n_m, ↓reduceIte, Nat.reduceEqDiff]; first | exact a7 m hm | (rw [if_neg (by omega)]; exact a7 m hm)
  · simp only [n_m, ↓reduceIte, Nat.reduceEqDiff]; first | exact a8 m hm | (rw [if_neg (by omega)]; exact a8 m hm)
  · simp only [n_m, ↓reduceIte, Nat.reduceEqDiff]; first | exact a9 m hm | (rw [if_neg (by omega)]; exact a9 m hm)
theorem uA_105 {k x : Nat} (hk : k < 16) (hG : cG I J G) : cG (pp_s I 105 (va_up (I 105) k (Int32.ofNat x))) J (va_up G.1 (33 + k) x, G.2) := by
  obtain ⟨g0, g1, g2, g4, g11, g14, g15, g16, g17, g18, a1, a2, a3, a4, a5, a6, a7, a8, a9⟩ := hG
  refine ⟨?_, ?_, ?_, ?_, ?_, ?_, ?_, ?_, ?_, ?_, fun m hm => ?_, fun m hm => ?_, fun m hm => ?_, fun m hm => ?_, fun m hm => ?_, fun m hm => ?_, fun m hm => ?_, fun m hm => ?_, fun m hm => ?_⟩
  · simp only [n_m, ↓reduceIte, Nat.reduceEqDiff]; first | exact g0 | (rw [if_neg (by omega)]; exact g0)
  · simp only [n_m, ↓reduceIte, Nat.reduceEqDiff]; first | exact g1 | (rw [if_neg (by omega)]; exact g1)
  · simp only [n_m, ↓reduceIte, Nat.reduceEqDiff]; first | exact g2 | (rw [if_neg (by omega)]; exact g2)
  · simp only [n_m, ↓reduceIte, Nat.reduceEqDiff]; first | exact g4 | (rw [if_neg (by omega)]; exact g4)
  · rw [cdt_cg (G := G) (fun l hl => by simp only [va_up]; rw [if_neg (by omega)])]; first | exact g11 | (simp only [n_m, ↓reduceIte, Nat.reduceEqDiff]; exact g11)
  · simp only [n_m, ↓reduceIte, Nat.reduceEqDiff]; first | exact g14 | (rw [if_neg (by omega)]; exact g14)
  · simp only [n_m, ↓reduceIte, Nat.reduceEqDiff]; first | exact g15 | (rw [if_neg (by omega)]; exact g15)
  · simp only [n_m, ↓reduceIte, Nat.reduceEqDiff]; first | exact g16 | (rw [if_neg (by omega)]; exact g16)
  · simp only [n_m, ↓reduceIte, Nat.reduceEqDiff]; first | exact g17 | (rw [if_neg (by omega)]; exact g17)
  · simp only [n_m, ↓reduceIte, Nat.reduceEqDiff]; first | exact g18 | (rw [if_neg (by omega)]; exact g18)
  · simp only [n_m, ↓reduceIte, Nat.reduceEqDiff]; first | exact a1 m hm | (rw [if_neg (by omega)]; exact a1 m hm)
  · simp only [n_m, ↓reduceIte, Nat.reduceEqDiff]; first | exact a2 m hm | (rw [if_neg (by omega)]; exact a2 m hm)
  · simp only [n_m, ↓reduceIte]
    by_cases z : m = k
    · rw [if_pos z, if_pos (by omega)]
    · rw [if_neg z, if_neg (by omega)]; exact a3 m hm
  · simp only [n_m, ↓reduceIte, Nat.reduceEqDiff]; first | exact a4 m hm | (rw [if_neg (by omega)]; exact a4 m hm)
  · simp only [n_m, ↓reduceIte, Nat.reduceEqDiff]; first | exact a5 m hm | (rw [if_neg (by omega)]; exact a5 m hm)
  · simp only [n_m, ↓reduceIte, Nat.reduceEqDiff]; first | exact a6 m hm | (rw [if_neg (by omega)]; exact a6 m hm)
  · simp only [n_m, ↓reduceIte, Nat.reduceEqDiff]; first | exact a7 m hm | (rw [if_neg (by omega)]; exact a7 m hm)
  · simp only [n_m, ↓reduceIte, Nat.reduceEqDiff]; first | exact a8 m hm | (rw [if_neg (by omega)]; exact a8 m hm)
  · simp only [n_m, ↓reduceIte, Nat.reduceEqDiff]; first | exact a9 m hm | (rw [if_neg (by omega)]; exact a9 m hm)
theorem uA_106 {k x : Nat} (hk : k < 64) (hG : cG I J G) : cG (pp_s I 106 (va_up (I 106) k (Int32.ofNat x))) J (va_up G.1 (49 + k) x, G.2) := by
  obtain ⟨g0, g1, g2, g4, g11, g14, g15, g16, g17, g18, a1, a2, a3, a4, a5, a6, a7, a8, a9⟩ := hG
  refine ⟨?_, ?_, ?_, ?_, ?_, ?_, ?_, ?_, ?_, ?_, fun m hm => ?_, fun m hm => ?_, fun m hm => ?_, fun m hm => ?_, fun m hm => ?_, fun m hm => ?_, fun m hm => ?_, fun m hm => ?_, fun m hm => ?_⟩
  · simp only [n_m, ↓reduceIte, Nat.reduceEqDiff]; first | exact g0 | (rw [if_neg (by omega)]; exact g0)
  · simp only [n_m, ↓reduceIte, Nat.reduceEqDiff]; first | exact g1 | (rw [if_neg (by omega)]; exact g1)
  · simp only [n_m, ↓reduceIte, Nat.reduceEqDiff]; first | exact g2 | (rw [if_neg (by omega)]; exact g2)
  · simp only [n_m, ↓reduceIte, Nat.reduceEqDiff]; first | exact g4 | (rw [if_neg (by omega)]; exact g4)
  · rw [cdt_cg (G := G) (fun l hl => by simp only [va_up]; rw [if_neg (by omega)])]; first | exact g11 | (simp only [n_m, ↓reduceIte, Nat.reduceEqDiff]; exact g11)
  · simp only [n_m, ↓reduceIte, Nat.reduceEqDiff]; first | exact g14 | (rw [if_neg (by omega)]; exact g14)
  · simp only [n_m, ↓reduceIte, Nat.reduceEqDiff]; first | exact g15 | (rw [if_neg (by omega)]; exact g15)
  · simp only [n_m, ↓reduceIte, Nat.reduceEqDiff]; first | exact g16 | (rw [if_neg (by omega)]; exact g16)
  · simp only [n_m, ↓reduceIte, Nat.reduceEqDiff]; first | exact g17 | (rw [if_neg (by omega)]; exact g17)
  · simp only [n_m, ↓reduceIte, Nat.reduceEqDiff]; first | exact g18 | (rw [if_neg (by omega)]; exact g18)
  · simp only [n_m, ↓reduceIte, Nat.reduceEqDiff]; first | exact a1 m hm | (rw [if_neg (by omega)]; exact a1 m hm)
  · simp only [n_m, ↓reduceIte, Nat.reduceEqDiff]; first | exact a2 m hm | (rw [if_neg (by omega)]; exact a2 m hm)
  · simp only [n_m, ↓reduceIte, Nat.reduceEqDiff]; first | exact a3 m hm | (rw [if_neg (by omega)]; exact a3 m hm)
  · simp only [n_m, ↓reduceIte]
    by_cases z : m = k
    · rw [if_pos z, if_pos (by omega)]
    · rw [if_neg z, if_neg (by omega)]; exact a4 m hm
  · simp only [n_m, ↓reduceIte, Nat.reduceEqDiff]; first | exact a5 m hm | (rw [if_neg (by omega)]; exact a5 m hm)
  · simp only [n_m, ↓reduceIte, Nat.reduceEqDiff]; first | exact a6 m hm | (rw [if_neg (by omega)]; exact a6 m hm)
  · simp only [n_m, ↓reduceIte, Nat.reduceEqDiff]; first | exact a7 m hm | (rw [if_neg (by omega)]; exact a7 m hm)
  · simp only [n_m, ↓reduceIte, Nat.reduceEqDiff]; first | exact a8 m hm | (rw [if_neg (by omega)]; exact a8 m hm)
  · simp only [n_m, ↓reduceIte, Nat.reduceEqDiff]; first | exact a9 m hm | (rw [if_neg (by omega)]; exact a9 m hm)
theorem uA_107 {k x : Nat} (hk : k < 64) (hG : cG I J G) : cG (pp_s I 107 (va_up (I 107) k (Int32.ofNat x))) J (va_up G.1 (113 + k) x, G.2) := by
  obtain ⟨g0, g1, g2, g4, g11, g14, g15, g16, g17, g18, a1, a2, a3, a4, a5, a6, a7, a8, a9⟩ := hG
  refine ⟨?_, ?_, ?_, ?_, ?_, ?_, ?_, ?_, ?_, ?_, fun m hm => ?_, fun m hm => ?_, fun m hm => ?_, fun m hm => ?_, fun m hm => ?_, fun m hm => ?_, fun m hm => ?_, fun m hm => ?_, fun m hm => ?_⟩
  · simp only [n_m, ↓reduceIte, Nat.reduceEqDiff]; first | exact g0 | (rw [if_neg (by omega)]; exact g0)
  · simp only [n_m, ↓reduceIte, Nat.reduceEqDiff]; first | exact g1 | (rw [if_neg (by omega)]; exact g1)
  · simp only [n_m, ↓reduceIte, Nat.reduceEqDiff]; first | exact g2 | (rw [if_neg (by omega)]; exact g2)
  · simp only [n_m, ↓reduceIte, Nat.reduceEqDiff]; first | exact g4 | (rw [if_neg (by omega)]; exact g4)
  · rw [cdt_cg (G := G) (fun l hl => by simp only [va_up]; rw [if_neg (by omega)])]; first | exact g11 | (simp only [n_m, ↓reduceIte, Nat.reduceEqDiff]; exact g11)
  · simp only [n_m, ↓reduceIte, Nat.reduceEqDiff]; first | exact g14 | (rw [if_neg (by omega)]; exact g14)
  · simp only [n_m, ↓reduceIte, Nat.reduceEqDiff]; first | exact g15 | (rw [if_neg (by omega)]; exact g15)
  · simp only [n_m, ↓reduceIte, Nat.reduceEqDiff]; first | exact g16 | (rw [if_neg (by omega)]; exact g16)
  · simp only [n_m, ↓reduceIte, Nat.reduceEqDiff]; first | exact g17 | (rw [if_neg (by omega)]; exact g17)
  · simp only [n_m, ↓reduceIte, Nat.reduceEqDiff]; first | exact g18 | (rw [if_neg (by omega)]; exact g18)
  · simp only [n_m, ↓reduceIte, Nat.reduceEqDiff]; first | exact a1 m hm | (rw [if_neg (by omega)]; exact a1 m hm)
  · simp only [n_m, ↓reduceIte, Nat.reduceEqDiff]; first | exact a2 m hm | (rw [if_neg (by omega)]; exact a2 m hm)
  · simp only [n_m, ↓reduceIte, Nat.reduceEqDiff]; first | exact a3 m hm | (rw [if_neg (by omega)]; exact a3 m hm)
  · simp only [n_m, ↓reduceIte, Nat.reduceEqDiff]; first | exact a4 m hm | (rw [if_neg (by omega)]; exact a4 m hm)
  · simp only [n_m, ↓reduceIte]
    by_cases z : m = k
    · rw [if_pos z, if_pos (by omega)]
    · rw [if_neg z, if_neg (by omega)]; exact a5 m hm
  · simp only [n_m, ↓reduceIte, Nat.reduceEqDiff]; first | exact a6 m hm | (rw [if_neg (by omega)]; exact a6 m hm)
  · simp only [n_m, ↓reduceIte, Nat.reduceEqDiff]; first | exact a7 m hm | (rw [if_neg (by omega)]; exact a7 m hm)
  · simp only [n_m, ↓reduceIte, Nat.reduceEqDiff]; first | exact a8 m hm | (rw [if_neg (by omega)]; exact a8 m hm)
  · simp only [n_m, ↓reduceIte, Nat.reduceEqDiff]; first | exact a9 m hm | (rw [if_neg (by omega)]; exact a9 m hm)
theorem uA_108 {k x : Nat} (hk : k < 24) (hG : cG I J G) : cG (pp_s I 108 (va_up (I 108) k (Int32.ofNat x))) J (va_up G.1 (183 + k) x, G.2) := by
  obtain ⟨g0, g1, g2, g4, g11, g14, g15, g16, g17, g18, a1, a2, a3, a4, a5, a6, a7, a8, a9⟩ := hG
  refine ⟨?_, ?_, ?_, ?_, ?_, ?_, ?_, ?_, ?_, ?_, fun m hm => ?_, fun m hm => ?_, fun m hm => ?_, fun m hm => ?_, fun m hm => ?_, fun m hm => ?_, fun m hm => ?_, fun m hm => ?_, fun m hm => ?_⟩
  · simp only [n_m, ↓reduceIte, Nat.reduceEqDiff]; first | exact g0 | (rw [if_neg (by omega)]; exact g0)
  · simp only [n_m, ↓reduceIte, Nat.reduceEqDiff]; first | exact g1 | (rw [if_neg (by omega)]; exact g1)
  · simp only [n_m, ↓reduceIte, Nat.reduceEqDiff]; first | exact g2 | (rw [if_neg (by omega)]; exact g2)
  · simp only [n_m, ↓reduceIte, Nat.reduceEqDiff]; first | exact g4 | (rw [if_neg (by omega)]; exact g4)
  · rw [cdt_cg (G := G) (fun l hl => by simp only [va_up]; rw [if_neg (by omega)])]; first | exact g11 | (simp only [n_m, ↓reduceIte, Nat.reduceEqDiff]; exact g11)
  · simp only [n_m, ↓reduceIte, Nat.reduceEqDiff]; first | exact g14 | (rw [if_neg (by omega)]; exact g14)
  · simp only [n_m, ↓reduceIte, Nat.reduceEqDiff]; first | exact g15 | (rw [if_neg (by omega)]; exact g15)
  · simp only [n_m, ↓reduceIte, Nat.reduceEqDiff]; first | exact g16 | (rw [if_neg (by omega)]; exact g16)
  · simp only [n_m, ↓reduceIte, Nat.reduceEqDiff]; first | exact g17 | (rw [if_neg (by omega)]; exact g17)
  · simp only [n_m, ↓reduceIte, Nat.reduceEqDiff]; first | exact g18 | (rw [if_neg (by omega)]; exact g18)
  · simp only [n_m, ↓reduceIte, Nat.reduceEqDiff]; first | exact a1 m hm | (rw [if_neg (by omega)]; exact a1 m hm)
  · simp only [n_m, ↓reduceIte, Nat.reduceEqDiff]; first | exact a2 m hm | (rw [if_neg (by omega)]; exact a2 m hm)
  · simp only [n_m, ↓reduceIte, Nat.reduceEqDiff]; first | exact a3 m hm | (rw [if_neg (by omega)]; exact a3 m hm)
  · simp only [n_m, ↓reduceIte, Nat.reduceEqDiff]; first | exact a4 m hm | (rw [if_neg (by omega)]; exact a4 m hm)
  · simp only [n_m, ↓reduceIte, Nat.reduceEqDiff]; first | exact a5 m hm | (rw [if_neg (by omega)]; exact a5 m hm)
  · simp only [n_m, ↓reduceIte]
    by_cases z : m = k
    · rw [if_pos z, if_pos (by omega)]
    · rw [if_neg z, if_neg (by omega)]; exact a6 m hm
  · simp only [n_m, ↓reduceIte, Nat.reduceEqDiff]; first | exact a7 m hm | (rw [if_neg (by omega)]; exact a7 m hm)
  · simp only [n_m, ↓reduceIte, Nat.reduceEqDiff]; first | exact a8 m hm | (rw [if_neg (by omega)]; exact a8 m hm)
  · simp only [n_m, ↓reduceIte, Nat.reduceEqDiff]; first | exact a9 m hm | (rw [if_neg (by omega)]; exact a9 m hm)
theorem uF_14 {x : Int64} (hG : cG I J G) : cG I (pp_s J 102 (va_up (J 102) 14 x)) (G.1, va_up G.2 2 x) := by
  obtain ⟨g0, g1, g2, g4, g11, g14, g15, g16, g17, g18, a1, a2, a3, a4, a5, a6, a7, a8, a9⟩ := hG
  refine ⟨?_, ?_, ?_, ?_, ?_, ?_, ?_, ?_, ?_, ?_, fun m hm => ?_, fun m hm => ?_, fun m hm => ?_, fun m hm => ?_, fun m hm => ?_, fun m hm => ?_, fun m hm => ?_, fun m hm => ?_, fun m hm => ?_⟩
  · simp only [n_m, ↓reduceIte, Nat.reduceEqDiff]; first | exact g0 | (rw [if_neg (by omega)]; exact g0)
  · simp only [n_m, ↓reduceIte, Nat.reduceEqDiff]; first | exact g1 | (rw [if_neg (by omega)]; exact g1)
  · simp only [n_m, ↓reduceIte, Nat.reduceEqDiff]; first | exact g2 | (rw [if_neg (by omega)]; exact g2)
  · simp only [n_m, ↓reduceIte, Nat.reduceEqDiff]; first | exact g4 | (rw [if_neg (by omega)]; exact g4)
  · exact g11
  · simp only [n_m, ↓reduceIte]
  · simp only [n_m, ↓reduceIte, Nat.reduceEqDiff]; first | exact g15 | (rw [if_neg (by omega)]; exact g15)
  · simp only [n_m, ↓reduceIte, Nat.reduceEqDiff]; first | exact g16 | (rw [if_neg (by omega)]; exact g16)
  · simp only [n_m, ↓reduceIte, Nat.reduceEqDiff]; first | exact g17 | (rw [if_neg (by omega)]; exact g17)
  · simp only [n_m, ↓reduceIte, Nat.reduceEqDiff]; first | exact g18 | (rw [if_neg (by omega)]; exact g18)
  · simp only [n_m, ↓reduceIte, Nat.reduceEqDiff]; first | exact a1 m hm | (rw [if_neg (by omega)]; exact a1 m hm)
  · simp only [n_m, ↓reduceIte, Nat.reduceEqDiff]; first | exact a2 m hm | (rw [if_neg (by omega)]; exact a2 m hm)
  · simp only [n_m, ↓reduceIte, Nat.reduceEqDiff]; first | exact a3 m hm | (rw [if_neg (by omega)]; exact a3 m hm)
  · simp only [n_m, ↓reduceIte, Nat.reduceEqDiff]; first | exact a4 m hm | (rw [if_neg (by omega)]; exact a4 m hm)
  · simp only [n_m, ↓reduceIte, Nat.reduceEqDiff]; first | exact a5 m hm | (rw [if_neg (by omega)]; exact a5 m hm)
  · simp only [n_m, ↓reduceIte, Nat.reduceEqDiff]; first | exact a6 m hm | (rw [if_neg (by omega)]; exact a6 m hm)
  · simp only [n_m, ↓reduceIte, Nat.reduceEqDiff]; first | exact a7 m hm | (rw [if_neg (by omega)]; exact a7 m hm)
  · simp only [n_m, ↓reduceIte, Nat.reduceEqDiff]; first | exact a8 m hm | (rw [if_neg (by omega)]; exact a8 m hm)
  · simp only [n_m, ↓reduceIte, Nat.reduceEqDiff]; first | exact a9 m hm | (rw [if_neg (by omega)]; exact a9 m hm)
theorem uF_15 {x : Int64} (hG : cG I J G) : cG I (pp_s J 102 (va_up (J 102) 15 x)) (G.1, va_up G.2 3 x) := by
  obtain ⟨g0, g1, g2, g4, g11, g14, g15, g16, g17, g18, a1, a2, a3, a4, a5, a6, a7, a8, a9⟩ := hG
  refine ⟨?_, ?_, ?_, ?_, ?_, ?_, ?_, ?_, ?_, ?_, fun m hm => ?_, fun m hm => ?_, fun m hm => ?_, fun m hm => ?_, fun m hm => ?_, fun m hm => ?_, fun m hm => ?_, fun m hm => ?_, fun m hm => ?_⟩
  · simp only [n_m, ↓reduceIte, Nat.reduceEqDiff]; first | exact g0 | (rw [if_neg (by omega)]; exact g0)
  · simp only [n_m, ↓reduceIte, Nat.reduceEqDiff]; first | exact g1 | (rw [if_neg (by omega)]; exact g1)
  · simp only [n_m, ↓reduceIte, Nat.reduceEqDiff]; first | exact g2 | (rw [if_neg (by omega)]; exact g2)
  · simp only [n_m, ↓reduceIte, Nat.reduceEqDiff]; first | exact g4 | (rw [if_neg (by omega)]; exact g4)
  · exact g11
  · simp only [n_m, ↓reduceIte, Nat.reduceEqDiff]; first | exact g14 | (rw [if_neg (by omega)]; exact g14)
  · simp only [n_m, ↓reduceIte]
  · simp only [n_m, ↓reduceIte, Nat.reduceEqDiff]; first | exact g16 | (rw [if_neg (by omega)]; exact g16)
  · simp only [n_m, ↓reduceIte, Nat.reduceEqDiff]; first | exact g17 | (rw [if_neg (by omega)]; exact g17)
  · simp only [n_m, ↓reduceIte, Nat.reduceEqDiff]; first | exact g18 | (rw [if_neg (by omega)]; exact g18)
  · simp only [n_m, ↓reduceIte, Nat.reduceEqDiff]; first | exact a1 m hm | (rw [if_neg (by omega)]; exact a1 m hm)
  · simp only [n_m, ↓reduceIte, Nat.reduceEqDiff]; first | exact a2 m hm | (rw [if_neg (by omega)]; exact a2 m hm)
  · simp only [n_m, ↓reduceIte, Nat.reduceEqDiff]; first | exact a3 m hm | (rw [if_neg (by omega)]; exact a3 m hm)
  · simp only [n_m, ↓reduceIte, Nat.reduceEqDiff]; first | exact a4 m hm | (rw [if_neg (by omega)]; exact a4 m hm)
  · simp only [n_m, ↓reduceIte, Nat.reduceEqDiff]; first | exact a5 m hm | (rw [if_neg (by omega)]; exact a5 m hm)
  · simp only [n_m, ↓reduceIte, Nat.reduceEqDiff]; first | exact a6 m hm | (rw [if_neg (by omega)]; exact a6 m hm)
  · simp only [n_m, ↓reduceIte, Nat.reduceEqDiff]; first | exact a7 m hm | (rw [if_neg (by omega)]; exact a7 m hm)
  · simp only [n_m, ↓reduceIte, Nat.reduceEqDiff]; first | exact a8 m hm | (rw [if_neg (by omega)]; exact a8 m hm)
  · simp only [n_m, ↓reduceIte, Nat.reduceEqDiff]; first | exact a9 m hm | (rw [if_neg (by omega)]; exact a9 m hm)
theorem uF_16 {x : Int64} (hG : cG I J G) : cG I (pp_s J 102 (va_up (J 102) 16 x)) (G.1, va_up G.2 4 x) := by
  obtain ⟨g0, g1, g2, g4, g11, g14, g15, g16, g17, g18, a1, a2, a3, a4, a5, a6, a7, a8, a9⟩ := hG
  refine ⟨?_, ?_, ?_, ?_, ?_, ?_, ?_, ?_, ?_, ?_, fun m hm => ?_, fun m hm => ?_, fun m hm => ?_, fun m hm => ?_, fun m hm => ?_, fun m hm => ?_, fun m hm => ?_, fun m hm => ?_, fun m hm => ?_⟩
  · simp only [n_m, ↓reduceIte, Nat.reduceEqDiff]; first | exact g0 | (rw [if_neg (by omega)]; exact g0)
  · simp only [n_m, ↓reduceIte, Nat.reduceEqDiff]; first | exact g1 | (rw [if_neg (by omega)]; exact g1)
  · simp only [n_m, ↓reduceIte, Nat.reduceEqDiff]; first | exact g2 | (rw [if_neg (by omega)]; exact g2)
  · simp only [n_m, ↓reduceIte, Nat.reduceEqDiff]; first | exact g4 | (rw [if_neg (by omega)]; exact g4)
  · exact g11
  · simp only [n_m, ↓reduceIte, Nat.reduceEqDiff]; first | exact g14 | (rw [if_neg (by omega)]; exact g14)
  · simp only [n_m, ↓reduceIte, Nat.reduceEqDiff]; first | exact g15 | (rw [if_neg (by omega)]; exact g15)
  · simp only [n_m, ↓reduceIte]
  · simp only [n_m, ↓reduceIte, Nat.reduceEqDiff]; first | exact g17 | (rw [if_neg (by omega)]; exact g17)
  · simp only [n_m, ↓reduceIte, Nat.reduceEqDiff]; first | exact g18 | (rw [if_neg (by omega)]; exact g18)
  · simp only [n_m, ↓reduceIte, Nat.reduceEqDiff]; first | exact a1 m hm | (rw [if_neg (by omega)]; exact a1 m hm)
  · simp only [n_m, ↓reduceIte, Nat.reduceEqDiff]; first | exact a2 m hm | (rw [if_neg (by omega)]; exact a2 m hm)
  · simp only [n_m, ↓reduceIte, Nat.reduceEqDiff]; first | exact a3 m hm | (rw [if_neg (by omega)]; exact a3 m hm)
  · simp only [n_m, ↓reduceIte, Nat.reduceEqDiff]; first | exact a4 m hm | (rw [if_neg (by omega)]; exact a4 m hm)
  · simp only [n_m, ↓reduceIte, Nat.reduceEqDiff]; first | exact a5 m hm | (rw [if_neg (by omega)]; exact a5 m hm)
  · simp only [n_m, ↓reduceIte, Nat.reduceEqDiff]; first | exact a6 m hm | (rw [if_neg (by omega)]; exact a6 m hm)
  · simp only [n_m, ↓reduceIte, Nat.reduceEqDiff]; first | exact a7 m hm | (rw [if_neg (by omega)]; exact a7 m hm)
  · simp only [n_m, ↓reduceIte, Nat.reduceEqDiff]; first | exact a8 m hm | (rw [if_neg (by omega)]; exact a8 m hm)
  · simp only [n_m, ↓reduceIte, Nat.reduceEqDiff]; first | exact a9 m hm | (rw [if_neg (by omega)]; exact a9 m hm)
theorem uF_17 {x : Int64} (hG : cG I J G) : cG I (pp_s J 102 (va_up (J 102) 17 x)) (G.1, va_up G.2 5 x) := by
  obtain ⟨g0, g1, g2, g4, g11, g14, g15, g16, g17, g18, a1, a2, a3, a4, a5, a6, a7, a8, a9⟩ := hG
  refine ⟨?_, ?_, ?_, ?_, ?_, ?_, ?_, ?_, ?_, ?_, fun m hm => ?_, fun m hm => ?_, fun m hm => ?_, fun m hm => ?_, fun m hm => ?_, fun m hm => ?_, fun m hm => ?_, fun m hm => ?_, fun m hm => ?_⟩
  · simp only [n_m, ↓reduceIte, Nat.reduceEqDiff]; first | exact g0 | (rw [if_neg (by omega)]; exact g0)
  · simp only [n_m, ↓reduceIte, Nat.reduceEqDiff]; first | exact g1 | (rw [if_neg (by omega)]; exact g1)
  · simp only [n_m, ↓reduceIte, Nat.reduceEqDiff]; first | exact g2 | (rw [if_neg (by omega)]; exact g2)
  · simp only [n_m, ↓reduceIte, Nat.reduceEqDiff]; first | exact g4 | (rw [if_neg (by omega)]; exact g4)
  · exact g11
  · simp only [n_m, ↓reduceIte, Nat.reduceEqDiff]; first | exact g14 | (rw [if_neg (by omega)]; exact g14)
  · simp only [n_m, ↓reduceIte, Nat.reduceEqDiff]; first | exact g15 | (rw [if_neg (by omega)]; exact g15)
  · simp only [n_m, ↓reduceIte, Nat.reduceEqDiff]; first | exact g16 | (rw [if_neg (by omega)]; exact g16)
  · simp only [n_m, ↓reduceIte]
  · simp only [n_m, ↓reduceIte, Nat.reduceEqDiff]; first | exact g18 | (rw [if_neg (by omega)]; exact g18)
  · simp only [n_m, ↓reduceIte, Nat.reduceEqDiff]; first | exact a1 m hm | (rw [if_neg (by omega)]; exact a1 m hm)
  · simp only [n_m, ↓reduceIte, Nat.reduceEqDiff]; first | exact a2 m hm | (rw [if_neg (by omega)]; exact a2 m hm)
  · simp only [n_m, ↓reduceIte, Nat.reduceEqDiff]; first | exact a3 m hm | (rw [if_neg (by omega)]; exact a3 m hm)
  · simp only [n_m, ↓reduceIte, Nat.reduceEqDiff]; first | exact a4 m hm | (rw [if_neg (by omega)]; exact a4 m hm)
  · simp only [n_m, ↓reduceIte, Nat.reduceEqDiff]; first | exact a5 m hm | (rw [if_neg (by omega)]; exact a5 m hm)
  · simp only [n_m, ↓reduceIte, Nat.reduceEqDiff]; first | exact a6 m hm | (rw [if_neg (by omega)]; exact a6 m hm)
  · simp only [n_m, ↓reduceIte, Nat.reduceEqDiff]; first | exact a7 m hm | (rw [if_neg (by omega)]; exact a7 m hm)
  · simp only [n_m, ↓reduceIte, Nat.reduceEqDiff]; first | exact a8 m hm | (rw [if_neg (by omega)]; exact a8 m hm)
  · simp only [n_m, ↓reduceIte, Nat.reduceEqDiff]; first | exact a9 m hm | (rw [if_neg (by omega)]; exact a9 m hm)
theorem uF_18 {x : Int64} (hG : cG I J G) : cG I (pp_s J 102 (va_up (J 102) 18 x)) (G.1, va_up G.2 6 x) := by
  obtain ⟨g0, g1, g2, g4, g11, g14, g15, g16, g17, g18, a1, a2, a3, a4, a5, a6, a7, a8, a9⟩ := hG
  refine ⟨?_, ?_, ?_, ?_, ?_, ?_, ?_, ?_, ?_, ?_, fun m hm => ?_, fun m hm => ?_, fun m hm => ?_, fun m hm => ?_, fun m hm => ?_, fun m hm => ?_, fun m hm => ?_, fun m hm => ?_, fun m hm => ?_⟩
  · simp only [n_m, ↓reduceIte, Nat.reduceEqDiff]; first | exact g0 | (rw [if_neg (by omega)]; exact g0)
  · simp only [n_m, ↓reduceIte, Nat.reduceEqDiff]; first | exact g1 | (rw [if_neg (by omega)]; exact g1)
  · simp only [n_m, ↓reduceIte, Nat.reduceEqDiff]; first | exact g2 | (rw [if_neg (by omega)]; exact g2)
  · simp only [n_m, ↓reduceIte, Nat.reduceEqDiff]; first | exact g4 | (rw [if_neg (by omega)]; exact g4)
  · exact g11
  · simp only [n_m, ↓reduceIte, Nat.reduceEqDiff]; first | exact g14 | (rw [if_neg (by omega)]; exact g14)
  · simp only [n_m, ↓reduceIte, Nat.reduceEqDiff]; first | exact g15 | (rw [if_neg (by omega)]; exact g15)
  · simp only [n_m, ↓reduceIte, Nat.reduceEqDiff]; first | exact g16 | (rw [if_neg (by omega)]; exact g16)
  · simp only [n_m, ↓reduceIte, Nat.reduceEqDiff]; first | exact g17 | (rw [if_neg (by omega)]; exact g17)
  · simp only [n_m, ↓reduceIte]
  · simp only [n_m, ↓reduceIte, Nat.reduceEqDiff]; first | exact a1 m hm | (rw [if_neg (by omega)]; exact a1 m hm)
  · simp only [n_m, ↓reduceIte, Nat.reduceEqDiff]; first | exact a2 m hm | (rw [if_neg (by omega)]; exact a2 m hm)
  · simp only [n_m, ↓reduceIte, Nat.reduceEqDiff]; first | exact a3 m hm | (rw [if_neg (by omega)]; exact a3 m hm)
  · simp only [n_m, ↓reduceIte, Nat.reduceEqDiff]; first | exact a4 m hm | (rw [if_neg (by omega)]; exact a4 m hm)
  · simp only [n_m, ↓reduceIte, Nat.reduceEqDiff]; first | exact a5 m hm | (rw [if_neg (by omega)]; exact a5 m hm)
  · simp only [n_m, ↓reduceIte, Nat.reduceEqDiff]; first | exact a6 m hm | (rw [if_neg (by omega)]; exact a6 m hm)
  · simp only [n_m, ↓reduceIte, Nat.reduceEqDiff]; first | exact a7 m hm | (rw [if_neg (by omega)]; exact a7 m hm)
  · simp only [n_m, ↓reduceIte, Nat.reduceEqDiff]; first | exact a8 m hm | (rw [if_neg (by omega)]; exact a8 m hm)
  · simp only [n_m, ↓reduceIte, Nat.reduceEqDiff]; first | exact a9 m hm | (rw [if_neg (by omega)]; exact a9 m hm)
theorem uA_109 {k : Nat} {x : Int64} (hk : k < 6) (hG : cG I J G) : cG I (pp_s J 109 (va_up (J 109) k x)) (G.1, va_up G.2 (177 + k) x) := by
  obtain ⟨g0, g1, g2, g4, g11, g14, g15, g16, g17, g18, a1, a2, a3, a4, a5, a6, a7, a8, a9⟩ := hG
  refine ⟨?_, ?_, ?_, ?_, ?_, ?_, ?_, ?_, ?_, ?_, fun m hm => ?_, fun m hm => ?_, fun m hm => ?_, fun m hm => ?_, fun m hm => ?_, fun m hm => ?_, fun m hm => ?_, fun m hm => ?_, fun m hm => ?_⟩
  · simp only [n_m, ↓reduceIte, Nat.reduceEqDiff]; first | exact g0 | (rw [if_neg (by omega)]; exact g0)
  · simp only [n_m, ↓reduceIte, Nat.reduceEqDiff]; first | exact g1 | (rw [if_neg (by omega)]; exact g1)
  · simp only [n_m, ↓reduceIte, Nat.reduceEqDiff]; first | exact g2 | (rw [if_neg (by omega)]; exact g2)
  · simp only [n_m, ↓reduceIte, Nat.reduceEqDiff]; first | exact g4 | (rw [if_neg (by omega)]; exact g4)
  · exact g11
  · simp only [n_m, ↓reduceIte, Nat.reduceEqDiff]; first | exact g14 | (rw [if_neg (by omega)]; exact g14)
  · simp only [n_m, ↓reduceIte, Nat.reduceEqDiff]; first | exact g15 | (rw [if_neg (by omega)]; exact g15)
  · simp only [n_m, ↓reduceIte, Nat.reduceEqDiff]; first | exact g16 | (rw [if_neg (by omega)]; exact g16)
  · simp only [n_m, ↓reduceIte, Nat.reduceEqDiff]; first | exact g17 | (rw [if_neg (by omega)]; exact g17)
  · simp only [n_m, ↓reduceIte, Nat.reduceEqDiff]; first | exact g18 | (rw [if_neg (by omega)]; exact g18)
  · simp only [n_m, ↓reduceIte, Nat.reduceEqDiff]; first | exact a1 m hm | (rw [if_neg (by omega)]; exact a1 m hm)
  · simp only [n_m, ↓reduceIte, Nat.reduceEqDiff]; first | exact a2 m hm | (rw [if_neg (by omega)]; exact a2 m hm)
  · simp only [n_m, ↓reduceIte, Nat.reduceEqDiff]; first | exact a3 m hm | (rw [if_neg (by omega)]; exact a3 m hm)
  · simp only [n_m, ↓reduceIte, Nat.reduceEqDiff]; first | exact a4 m hm | (rw [if_neg (by omega)]; exact a4 m hm)
  · simp only [n_m, ↓reduceIte, Nat.reduceEqDiff]; first | exact a5 m hm | (rw [if_neg (by omega)]; exact a5 m hm)
  · simp only [n_m, ↓reduceIte, Nat.reduceEqDiff]; first | exact a6 m hm | (rw [if_neg (by omega)]; exact a6 m hm)
  · simp only [n_m, ↓reduceIte]
    by_cases z : m = k
    · rw [if_pos z, if_pos (by omega)]
    · rw [if_neg z, if_neg (by omega)]; exact a7 m hm
  · simp only [n_m, ↓reduceIte, Nat.reduceEqDiff]; first | exact a8 m hm | (rw [if_neg (by omega)]; exact a8 m hm)
  · simp only [n_m, ↓reduceIte, Nat.reduceEqDiff]; first | exact a9 m hm | (rw [if_neg (by omega)]; exact a9 m hm)
theorem uA_110 {k : Nat} {x : Int64} (hk : k < 8) (hG : cG I J G) : cG I (pp_s J 110 (va_up (J 110) k x)) (G.1, va_up G.2 (213 + k) x) := by
  obtain ⟨g0, g1, g2, g4, g11, g14, g15, g16, g17, g18, a1, a2, a3, a4, a5, a6, a7, a8, a9⟩ := hG
  refine ⟨?_, ?_, ?_, ?_, ?_, ?_, ?_, ?_, ?_, ?_, fun m hm => ?_, fun m hm => ?_, fun m hm => ?_, fun m hm => ?_, fun m hm => ?_, fun m hm => ?_, fun m hm => ?_, fun m hm => ?_, fun m hm => ?_⟩
  · simp only [n_m, ↓reduceIte, Nat.reduceEqDiff]; first | exact g0 | (rw [if_neg (by omega)]; exact g0)
  · simp only [n_m, ↓reduceIte, Nat.reduceEqDiff]; first | exact g1 | (rw [if_neg (by omega)]; exact g1)
  · simp only [n_m, ↓reduceIte, Nat.reduceEqDiff]; first | exact g2 | (rw [if_neg (by omega)]; exact g2)
  · simp only [n_m, ↓reduceIte, Nat.reduceEqDiff]; first | exact g4 | (rw [if_neg (by omega)]; exact g4)
  · exact g11
  · simp only [n_m, ↓reduceIte, Nat.reduceEqDiff]; first | exact g14 | (rw [if_neg (by omega)]; exact g14)
  · simp only [n_m, ↓reduceIte, Nat.reduceEqDiff]; first | exact g15 | (rw [if_neg (by omega)]; exact g15)
  · simp only [n_m, ↓reduceIte, Nat.reduceEqDiff]; first | exact g16 | (rw [if_neg (by omega)]; exact g16)
  · simp only [n_m, ↓reduceIte, Nat.reduceEqDiff]; first | exact g17 | (rw [if_neg (by omega)]; exact g17)
  · simp only [n_m, ↓reduceIte, Nat.reduceEqDiff]; first | exact g18 | (rw [if_neg (by omega)]; exact g18)
  · simp only [n_m, ↓reduceIte, Nat.reduceEqDiff]; first | exact a1 m hm | (rw [if_neg (by omega)]; exact a1 m hm)
  · simp only [n_m, ↓reduceIte, Nat.reduceEqDiff]; first | exact a2 m hm | (rw [if_neg (by omega)]; exact a2 m hm)
  · simp only [n_m, ↓reduceIte, Nat.reduceEqDiff]; first | exact a3 m hm | (rw [if_neg (by omega)]; exact a3 m hm)
  · simp only [n_m, ↓reduceIte, Nat.reduceEqDiff]; first | exact a4 m hm | (rw [if_neg (by omega)]; exact a4 m hm)
  · simp only [n_m, ↓reduceIte, Nat.reduceEqDiff]; first | exact a5 m hm | (rw [if_neg (by omega)]; exact a5 m hm)
  · simp only [n_m, ↓reduceIte, Nat.reduceEqDiff]; first | exact a6 m hm | (rw [if_neg (by omega)]; exact a6 m hm)
  · simp only [n_m, ↓reduceIte, Nat.reduceEqDiff]; first | exact a7 m hm | (rw [if_neg (by omega)]; exact a7 m hm)
  · simp only [n_m, ↓reduceIte]
    by_cases z : m = k
    · rw [if_pos z, if_pos (by omega)]
    · rw [if_neg z, if_neg (by omega)]; exact a8 m hm
  · simp only [n_m, ↓reduceIte, Nat.reduceEqDiff]; first | exact a9 m hm | (rw [if_neg (by omega)]; exact a9 m hm)
theorem uA_111 {k : Nat} {x : Int64} (hk : k < 8) (hG : cG I J G) : cG I (pp_s J 111 (va_up (J 111) k x)) (G.1, va_up G.2 (221 + k) x) := by
  obtain ⟨g0, g1, g2, g4, g11, g14, g15, g16, g17, g18, a1, a2, a3, a4, a5, a6, a7, a8, a9⟩ := hG
  refine ⟨?_, ?_, ?_, ?_, ?_, ?_, ?_, ?_, ?_, ?_, fun m hm => ?_, fun m hm => ?_, fun m hm => ?_, fun m hm => ?_, fun m hm => ?_, fun m hm => ?_, fun m hm => ?_, fun m hm => ?_, fun m hm => ?_⟩
  · simp only [n_m, ↓reduceIte, Nat.reduceEqDiff]; first | exact g0 | (rw [if_neg (by omega)]; exact g0)
  · simp only [n_m, ↓reduceIte, Nat.reduceEqDiff]; first | exact g1 | (rw [if_neg (by omega)]; exact g1)
  · simp only [n_m, ↓reduceIte, Nat.reduceEqDiff]; first | exact g2 | (rw [if_neg (by omega)]; exact g2)
  · simp only [n_m, ↓reduceIte, Nat.reduceEqDiff]; first | exact g4 | (rw [if_neg (by omega)]; exact g4)
  · exact g11
  · simp only [n_m, ↓reduceIte, Nat.reduceEqDiff]; first | exact g14 | (rw [if_neg (by omega)]; exact g14)
  · simp only [n_m, ↓reduceIte, Nat.reduceEqDiff]; first | exact g15 | (rw [if_neg (by omega)]; exact g15)
  · simp only [n_m, ↓reduceIte, Nat.reduceEqDiff]; first | exact g16 | (rw [if_neg (by omega)]; exact g16)
  · simp only [n_m, ↓reduceIte, Nat.reduceEqDiff]; first | exact g17 | (rw [if_neg (by omega)]; exact g17)
  · simp only [n_m, ↓reduceIte, Nat.reduceEqDiff]; first | exact g18 | (rw [if_neg (by omega)]; exact g18)
  · simp only [n_m, ↓reduceIte, Nat.reduceEqDiff]; first | exact a1 m hm | (rw [if_neg (by omega)]; exact a1 m hm)
  · simp only [n_m, ↓reduceIte, Nat.reduceEqDiff]; first | exact a2 m hm | (rw [if_neg (by omega)]; exact a2 m hm)
  · simp only [n_m, ↓reduceIte, Nat.reduceEqDiff]; first | exact a3 m hm | (rw [if_neg (by omega)]; exact a3 m hm)
  · simp only [n_m, ↓reduceIte, Nat.reduceEqDiff]; first | exact a4 m hm | (rw [if_neg (by omega)]; exact a4 m hm)
  · simp only [n_m, ↓reduceIte, Nat.reduceEqDiff]; first | exact a5 m hm | (rw [if_neg (by omega)]; exact a5 m hm)
  · simp only [n_m, ↓reduceIte, Nat.reduceEqDiff]; first | exact a6 m hm | (rw [if_neg (by omega)]; exact a6 m hm)
  · simp only [n_m, ↓reduceIte, Nat.reduceEqDiff]; first | exact a7 m hm | (rw [if_neg (by omega)]; exact a7 m hm)
  · simp only [n_m, ↓reduceIte, Nat.reduceEqDiff]; first | exact a8 m hm | (rw [if_neg (by omega)]; exact a8 m hm)
  · simp only [n_m, ↓reduceIte]
    by_cases z : m = k
    · rw [if_pos z, if_pos (by omega)]
    · rw [if_neg z, if_neg (by omega)]; exact a9 m hm
theorem uF_11 {d : Nat → Nat} (hd : ∀ i, i < 207 → d i = G.1 i) (hG : cG I J G) : cG (pp_s I 102 (va_up (I 102) 11 (Int32.ofNat (cdt (d, G.2))))) J (d, G.2) := by
  obtain ⟨g0, g1, g2, g4, g11, g14, g15, g16, g17, g18, a1, a2, a3, a4, a5, a6, a7, a8, a9⟩ := hG
  refine ⟨?_, ?_, ?_, ?_, ?_, ?_, ?_, ?_, ?_, ?_, fun m hm => ?_, fun m hm => ?_, fun m hm => ?_, fun m hm => ?_, fun m hm => ?_, fun m hm => ?_, fun m hm => ?_, fun m hm => ?_, fun m hm => ?_⟩
  · simp only [n_m, ↓reduceIte, Nat.reduceEqDiff]; rw [hd _ (by omega)]; exact g0
  · simp only [n_m, ↓reduceIte, Nat.reduceEqDiff]; rw [hd _ (by omega)]; exact g1
  · simp only [n_m, ↓reduceIte, Nat.reduceEqDiff]; rw [hd _ (by omega)]; exact g2
  · simp only [n_m, ↓reduceIte, Nat.reduceEqDiff]; rw [hd _ (by omega)]; exact g4
  · simp only [n_m, ↓reduceIte]
  · exact g14
  · exact g15
  · exact g16
  · exact g17
  · exact g18
  · simp only [n_m, ↓reduceIte, Nat.reduceEqDiff]; rw [hd _ (by omega)]; exact a1 m hm
  · simp only [n_m, ↓reduceIte, Nat.reduceEqDiff]; rw [hd _ (by omega)]; exact a2 m hm
  · simp only [n_m, ↓reduceIte, Nat.reduceEqDiff]; rw [hd _ (by omega)]; exact a3 m hm
  · simp only [n_m, ↓reduceIte, Nat.reduceEqDiff]; rw [hd _ (by omega)]; exact a4 m hm
  · simp only [n_m, ↓reduceIte, Nat.reduceEqDiff]; rw [hd _ (by omega)]; exact a5 m hm
  · simp only [n_m, ↓reduceIte, Nat.reduceEqDiff]; rw [hd _ (by omega)]; exact a6 m hm
  · exact a7 m hm
  · exact a8 m hm
  · exact a9 m hm
end
/-- the picture, when only the ledger is written -/
theorem RC_upd {A : AS} {G' : LG} {sh : List (Nat × Nat)} {I I' : Nat → Nat → Int32} {J J' : Nat → Nat → Int64} {R : Nat → Nat → Option Nat} (h : RC (chg A (aG A)) sh I J R) (hf : ∀ a, a < 102 ∨ (112 ≤ a ∧ a ≠ 114 ∧ a ≠ 116) → a ≠ 101 → I' a = I a) (hj : ∀ a, a < 102 ∨ (112 ≤ a ∧ a ≠ 113 ∧ a ≠ 115 ∧ a ≠ 117) → J' a = J a) (hG : cG I' J' G') : RC (chg A G') sh I' J' R := by
  obtain ⟨h1, h2, h3, h4, h5, h6, h7, h8, h9⟩ := h
  refine ⟨hG, cT_cg h2 (fun a x y => hf a (by omega) (by omega)), ?_, ?_, ?_, h6, ?_, ?_, cL_cg (L := 84) h9 (fun a x y => hf a (by omega) (by omega)) (fun a x y => hj a (by omega))⟩
  · rw [hf 65 (by omega) (by omega)]; exact h3
  · rw [hf 64 (by omega) (by omega)]; exact h4
  · rw [hf 64 (by omega) (by omega)]; exact h5
  · obtain ⟨nw, u1, u2, u3, u4, u5⟩ := h7
    refine ⟨nw, u1, ?_, ?_, u4, fun i hi => ?_⟩
    · rw [hf 118 (by omega) (by omega)]; exact u2
    · rw [hf 118 (by omega) (by omega)]; exact u3
    · obtain ⟨L, l1, l2⟩ := u5 i hi
      have b := (h6.1 _ (by omega) L l1).1
      exact ⟨L, l1, cL_cg l2 (fun a x y => hf a (by omega) (by omega)) (fun a x y => hj a (by omega))⟩
  · intro s hs
    rcases h8 s hs with q | ⟨L, G, q1, q2, q3⟩
    · exact Or.inl q
    · have b := (h6.1 (10 + s) (by omega) L (by rw [ent, if_neg (by omega), show 10 + s - 10 = s by omega]; exact q1)).1
      exact Or.inr ⟨L, G, q1, q2, cL_cg q3 (fun a x y => hf a (by omega) (by omega)) (fun a x y => hj a (by omega))⟩
