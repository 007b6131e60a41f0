set_option maxHeartbeats 4000000
set_option maxRecDepth 100000
theorem zt_within {g : pp_G} {h : Nat} {w : pp_W} {P : pp_R → pp_W → Prop} (v lo hi : Int64) (hP : P (.inl (some (.int (if lo ≤ v ∧ v ≤ hi then 1 else 0)))) w) : pp_MW g (h + 1) mi_X9_within [.long v, .long lo, .long hi] w P := by
  refine pp_st0 [(0, .long v), (2, .long lo), (4, .long hi)] ok_X9_within rfl (Nat.le_of_ble_eq_true rfl) rfl ?_
  refine pp_go rfl sk_X9_within_0 ?_
  simp only [sg_X9_within_0, sw_c, sw_n, sx, sf_4, sv_i, sv_j, sl_i, sl_j, sl_v, sc_c, ↓reduceIte, Nat.reduceEqDiff]
  trace_state
  sorry
theorem zt_copy {g : pp_G} {h : Nat} {w : pp_W} {P : pp_R → pp_W → Prop} (a b : Nat) : pp_MW g (h + 1) mi_X4_copyFrom [.ref a, .ref b] w P := by
  refine pp_st0 [(0, .ref a), (1, .ref b)] ok_X4_copyFrom rfl (Nat.le_of_ble_eq_true rfl) rfl ?_
  refine pp_go rfl sk_X4_copyFrom_0 ?_
  simp only [sg_X4_copyFrom_0, sw_c, sw_n, sx, sf_4, sv_i, sv_j, sv_r, sl_i, sl_j, sl_a, sl_v, sc_c, ↓reduceIte, Nat.reduceEqDiff]
  trace_state
  sorry
