/-! THE START: what the statement gives of the machine -/
set_option maxHeartbeats 4000000
set_option maxRecDepth 100000
def ev_ix : List Nat := [94, 100, 102, 104, 106, 108, 110, 112, 114, 116, 118, 120, 202, 203, 205]
def ev_jx : List Nat := [170, 186, 188, 190, 196, 205, 207, 209, 211, 213, 215, 217, 234, 235, 237]
def ev_t (i : Nat) : Term := .string RX5 (ev_ix.getD i 0)
def ev_u (i : Nat) : Term := .string RX9 (ev_jx.getD i 0)
def ev_v (i : Nat) : Term := .field (ev_t i) "java/lang/String" "value" "[B"
def ev_a : List Cond := flatC (Jvm.Cond.and given_1 narrow_1)
/-- words at their places -/
def ev_at (l : List Cond) : List Nat → List Cond → Bool
  | [], [] => true
  | p :: ps, w :: ws => decide (l[p]? = some w) && ev_at l ps ws
  | _, _ => false
theorem ev_in {l : List Cond} : ∀ (ps : List Nat) (ws : List Cond), ev_at l ps ws = true → ∀ w ∈ ws, w ∈ l := by
  intro ps
  induction ps with
  | nil =>
    intro ws h w hw
    cases ws with
    | nil => cases hw
    | cons a ws => cases h
  | cons p ps ih =>
    intro ws h w hw
    cases ws with
    | nil => cases hw
    | cons a ws =>
      simp only [ev_at, Bool.and_eq_true, decide_eq_true_eq] at h
      rcases List.mem_cons.mp hw with rfl | hw
      · exact List.mem_of_getElem? h.1
      · exact ih ws h.2 w hw
def ev_w (i : Nat) : List Cond := [.exactly (ev_t i) "java/lang/String", .eq (.field (ev_t i) "java/lang/String" "coder" "B") (.int 0), .arrayOf (ev_v i) .byte, .eq (.length (ev_v i)) (.int (Int32.ofNat (pp_txt.getD i []).length)), .eq (ev_t i) (ev_u i)] ++ (List.range (pp_txt.getD i []).length).map (fun j => .eq (.elem (ev_v i) (.int (Int32.ofNat j))) (.int ((pp_txt.getD i []).getD j 0)))
def ev_s : List Cond := [.isRef (.static Bundle.tN "UNASSIGNED_STACK" Bundle.steD), .isRef (.static Bundle.tN "SUPPRESSED_SENTINEL" Bundle.listD), .eq (.static "java/lang/String" "COMPACT_STRINGS" "Z") (.int 1), .isRef (.static "jdk/internal/util/Preconditions" "SIOOBE_FORMATTER" "Ljava/util/function/BiFunction;")]
def ev_z : List Cond := [.laysStatic Bundle.tN "UNASSIGNED_STACK" Bundle.steD, .laysStatic Bundle.tN "SUPPRESSED_SENTINEL" Bundle.listD, .laysStatic "java/lang/String" "COMPACT_STRINGS" "Z", .laysStatic "jdk/internal/util/Preconditions" "SIOOBE_FORMATTER" "Ljava/util/function/BiFunction;", .initialized Bundle.tN, .initialized "java/lang/String", .initialized "jdk/internal/util/Preconditions", .arrayClass .int, .arrayClass .byte, .arrayClass .boolean, .arrayClass .long, .arrayOver (.object RX4), pp_nest]
theorem ev_1_0 : ev_at ev_a [73, 74, 75, 76, 855, 77, 78, 79, 80, 81, 82] (ev_w 0) = true := by decide +kernel
theorem ev_1_1 : ev_at ev_a [83, 84, 85, 86, 867, 87, 88, 89, 90, 91, 92, 93] (ev_w 1) = true := by decide +kernel
theorem ev_1_2 : ev_at ev_a [94, 95, 96, 97, 878, 98, 99, 100, 101, 102, 103] (ev_w 2) = true := by decide +kernel
theorem ev_1_3 : ev_at ev_a [104, 105, 106, 107, 891, 108, 109, 110, 111, 112, 113, 114, 115] (ev_w 3) = true := by decide +kernel
theorem ev_1_4 : ev_at ev_a [116, 117, 118, 119, 902, 120, 121, 122, 123, 124, 125] (ev_w 4) = true := by decide +kernel
theorem ev_1_5 : ev_at ev_a [126, 127, 128, 129, 910, 130, 131, 132] (ev_w 5) = true := by decide +kernel
theorem ev_1_6 : ev_at ev_a [133, 134, 135, 136, 920, 137, 138, 139, 140, 141] (ev_w 6) = true := by decide +kernel
theorem ev_1_7 : ev_at ev_a [142, 143, 144, 145, 932, 146, 147, 148, 149, 150, 151, 152] (ev_w 7) = true := by decide +kernel
theorem ev_1_8 : ev_at ev_a [153, 154, 155, 156, 941, 157, 158, 159, 160] (ev_w 8) = true := by decide +kernel
theorem ev_1_9 : ev_at ev_a [161, 162, 163, 164, 952, 165, 166, 167, 168, 169, 170] (ev_w 9) = true := by decide +kernel
theorem ev_1_10 : ev_at ev_a [171, 172, 173, 174, 964, 175, 176, 177, 178, 179, 180, 181] (ev_w 10) = true := by decide +kernel
theorem ev_1_11 : ev_at ev_a [182, 183, 184, 185, 975, 186, 187, 188, 189, 190, 191] (ev_w 11) = true := by decide +kernel
theorem ev_1_12 : ev_at ev_a [192, 193, 194, 195, 987, 196, 197, 198, 199, 200, 201, 202] (ev_w 12) = true := by decide +kernel
theorem ev_1_13 : ev_at ev_a [203, 204, 205, 206, 997, 207, 208, 209, 210, 211] (ev_w 13) = true := by decide +kernel
theorem ev_1_14 : ev_at ev_a [212, 213, 214, 215, 1006, 216, 217, 218, 219] (ev_w 14) = true := by decide +kernel
theorem ev_2 : ev_at ev_a [47, 220, 326, 350, 405, 434, 464, 490, 520, 549, 607, 629, 654, 685, 730, 755, 779, 824, 299, 271, 244, 376, 799] (pp_msgs.map (fun q => Cond.exactly (.string RX8 q.1) "java/lang/String")) = true := by decide +kernel
theorem ev_3 : ev_at ev_a [45, 33, 22, 34, 21, 46] (pp_ncs.map (fun q => Cond.not (.castable q.1 q.2))) = true := by decide +kernel
theorem ev_4 : ev_at ev_a [4, 5, 6, 7] ev_s = true := by decide +kernel
theorem ev_5 : ev_at lw_tbl [677, 730, 731, 732, 733, 734, 735, 736, 737, 738, 739, 740, 764, 765, 766, 1320, 1351, 1352, 1353, 1358, 1370, 1371, 1372, 1373, 1374, 1375, 1376, 1397, 1398, 1399, 620, 833, 922, 931, 1021, 1041, 1050, 1051, 1060, 1062, 1070, 1078, 1079, 1092, 1096, 1119, 1138, 1158, 906, 866, 855, 975, 1150] (pp_strs.map (fun q => Cond.stringRef q.1 q.2.1 q.2.2.1) ++ pp_msgs.map (fun q => Cond.stringRef RX8 q.1 q.2)) = true := by decide +kernel
theorem ev_6 : ev_at lw_tbl [606, 608, 691, 707, 87, 93, 95, 138, 137, 415, 320, 423, 517] ev_z = true := by decide +kernel
