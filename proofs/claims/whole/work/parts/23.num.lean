/-! NUMBERS: ints and longs as naturals -/
theorem n_lit : ((0 : Int32) = Int32.ofNat 0) ∧ ((1 : Int32) = Int32.ofNat 1) ∧ ((2 : Int32) = Int32.ofNat 2) ∧ ((3 : Int32) = Int32.ofNat 3) ∧ ((4 : Int32) = Int32.ofNat 4) ∧ ((5 : Int32) = Int32.ofNat 5) ∧ ((6 : Int32) = Int32.ofNat 6) ∧ ((7 : Int32) = Int32.ofNat 7) ∧ ((8 : Int32) = Int32.ofNat 8) ∧ ((9 : Int32) = Int32.ofNat 9) ∧ ((10 : Int32) = Int32.ofNat 10) ∧ ((11 : Int32) = Int32.ofNat 11) ∧ ((12 : Int32) = Int32.ofNat 12) ∧ ((13 : Int32) = Int32.ofNat 13) ∧ ((14 : Int32) = Int32.ofNat 14) ∧ ((15 : Int32) = Int32.ofNat 15) ∧ ((16 : Int32) = Int32.ofNat 16) ∧ ((17 : Int32) = Int32.ofNat 17) ∧ ((18 : Int32) = Int32.ofNat 18) ∧ ((19 : Int32) = Int32.ofNat 19) ∧ ((20 : Int32) = Int32.ofNat 20) ∧ ((21 : Int32) = Int32.ofNat 21) ∧ ((22 : Int32) = Int32.ofNat 22) ∧ ((23 : Int32) = Int32.ofNat 23) ∧ ((24 : Int32) = Int32.ofNat 24) ∧ ((25 : Int32) = Int32.ofNat 25) ∧ ((26 : Int32) = Int32.ofNat 26) ∧ ((27 : Int32) = Int32.ofNat 27) ∧ ((28 : Int32) = Int32.ofNat 28) ∧ ((31 : Int32) = Int32.ofNat 31) ∧ ((32 : Int32) = Int32.ofNat 32) ∧ ((33 : Int32) = Int32.ofNat 33) ∧ ((40 : Int32) = Int32.ofNat 40) ∧ ((41 : Int32) = Int32.ofNat 41) ∧ ((42 : Int32) = Int32.ofNat 42) ∧ ((43 : Int32) = Int32.ofNat 43) ∧ ((45 : Int32) = Int32.ofNat 45) ∧ ((47 : Int32) = Int32.ofNat 47) ∧ ((48 : Int32) = Int32.ofNat 48) ∧ ((49 : Int32) = Int32.ofNat 49) ∧ ((50 : Int32) = Int32.ofNat 50) ∧ ((57 : Int32) = Int32.ofNat 57) ∧ ((59 : Int32) = Int32.ofNat 59) ∧ ((63 : Int32) = Int32.ofNat 63) ∧ ((64 : Int32) = Int32.ofNat 64) ∧ ((97 : Int32) = Int32.ofNat 97) ∧ ((100 : Int32) = Int32.ofNat 100) ∧ ((113 : Int32) = Int32.ofNat 113) ∧ ((122 : Int32) = Int32.ofNat 122) ∧ ((177 : Int32) = Int32.ofNat 177) ∧ ((183 : Int32) = Int32.ofNat 183) ∧ ((207 : Int32) = Int32.ofNat 207) ∧ ((213 : Int32) = Int32.ofNat 213) ∧ ((221 : Int32) = Int32.ofNat 221) ∧ ((229 : Int32) = Int32.ofNat 229) ∧ ((255 : Int32) = Int32.ofNat 255) ∧ ((400 : Int32) = Int32.ofNat 400) ∧ ((458 : Int32) = Int32.ofNat 458) ∧ ((700 : Int32) = Int32.ofNat 700) ∧ ((720 : Int32) = Int32.ofNat 720) ∧ ((1000 : Int32) = Int32.ofNat 1000) ∧ ((1440 : Int32) = Int32.ofNat 1440) ∧ ((2290 : Int32) = Int32.ofNat 2290) ∧ ((9999 : Int32) = Int32.ofNat 9999) ∧ ((99999 : Int32) = Int32.ofNat 99999) ∧ ((1000000 : Int32) = Int32.ofNat 1000000) ∧ ((1000000000 : Int32) = Int32.ofNat 1000000000) ∧ ((0 : Int64) = Int64.ofNat 0) ∧ ((1 : Int64) = Int64.ofNat 1) ∧ ((2 : Int64) = Int64.ofNat 2) ∧ ((3 : Int64) = Int64.ofNat 3) ∧ ((4 : Int64) = Int64.ofNat 4) ∧ ((5 : Int64) = Int64.ofNat 5) ∧ ((8 : Int64) = Int64.ofNat 8) ∧ ((16 : Int64) = Int64.ofNat 16) ∧ ((48 : Int64) = Int64.ofNat 48) ∧ ((57 : Int64) = Int64.ofNat 57) ∧ ((97 : Int64) = Int64.ofNat 97) ∧ ((100 : Int64) = Int64.ofNat 100) ∧ ((122 : Int64) = Int64.ofNat 122) ∧ ((9999 : Int64) = Int64.ofNat 9999) ∧ ((99999 : Int64) = Int64.ofNat 99999) ∧ ((1000000000 : Int64) = Int64.ofNat 1000000000) := ⟨rfl, rfl, rfl, rfl, rfl, rfl, rfl, rfl, rfl, rfl, rfl, rfl, rfl, rfl, rfl, rfl, rfl, rfl, rfl, rfl, rfl, rfl, rfl, rfl, rfl, rfl, rfl, rfl, rfl, rfl, rfl, rfl, rfl, rfl, rfl, rfl, rfl, rfl, rfl, rfl, rfl, rfl, rfl, rfl, rfl, rfl, rfl, rfl, rfl, rfl, rfl, rfl, rfl, rfl, rfl, rfl, rfl, rfl, rfl, rfl, rfl, rfl, rfl, rfl, rfl, rfl, rfl, rfl, rfl, rfl, rfl, rfl, rfl, rfl, rfl, rfl, rfl, rfl, rfl, rfl, rfl, rfl, rfl⟩
theorem n_a : (∀ a b : Nat, Int32.ofNat a + Int32.ofNat b = Int32.ofNat (a + b)) ∧ (∀ a b : Nat, Int32.ofNat a * Int32.ofNat b = Int32.ofNat (a * b)) ∧ (∀ a b : Nat, Int64.ofNat a + Int64.ofNat b = Int64.ofNat (a + b)) ∧ (∀ a b : Nat, Int64.ofNat a * Int64.ofNat b = Int64.ofNat (a * b)) ∧ (∀ a : Nat, (Int64.ofNat a).toInt32 = Int32.ofNat a) :=
  ⟨fun a b => (Int32.ofNat_add a b).symm, fun a b => (Int32.ofNat_mul a b).symm, fun a b => (Int64.ofNat_add a b).symm, fun a b => (Int64.ofNat_mul a b).symm, fun a => Int64.toInt32_ofNat'⟩
theorem n_s : (∀ a b : Nat, b ≤ a → Int32.ofNat a - Int32.ofNat b = Int32.ofNat (a - b)) ∧ (∀ a b : Nat, b ≤ a → Int64.ofNat a - Int64.ofNat b = Int64.ofNat (a - b)) ∧ (∀ a : Nat, a < 2147483648 → (Int32.ofNat a).toInt64 = Int64.ofNat a) ∧ (∀ a : Nat, a < 2147483648 → (Int32.ofNat a).toNatClampNeg = a) ∧ (∀ a n : Nat, a < n → n ≤ 2147483648 → vp_in (Int32.ofNat a) n = True) :=
  ⟨fun a b h => (Int32.ofNat_sub a b h).symm, fun a b h => (Int64.ofNat_sub a b h).symm, fun a h => Int32.toInt64_ofNat' (by have : Int32.maxValue.toInt = 2147483647 := rfl; omega), fun a h => Int32.toNatClampNeg_ofNat_of_lt h, fun a n h1 h2 => by
    refine eq_true (fun q => ?_)
    rw [Int32.toNatClampNeg_ofNat_of_lt (by omega)] at q
    rcases q with q | q
    · rw [Int32.lt_iff_toInt_lt, Int32.toInt_ofNat_of_lt (by omega)] at q
      simp at q
      omega
    · omega⟩
theorem n_c : (∀ a b : Nat, a < 2147483648 → b < 2147483648 → (Int32.ofNat a < Int32.ofNat b) = (a < b)) ∧ (∀ a b : Nat, a < 2147483648 → b < 2147483648 → (Int32.ofNat a ≤ Int32.ofNat b) = (a ≤ b)) ∧ (∀ a b : Nat, a < 2147483648 → b < 2147483648 → (Int32.ofNat a = Int32.ofNat b) = (a = b)) ∧ (∀ a b : Nat, a < 9223372036854775808 → b < 9223372036854775808 → (Int64.ofNat a < Int64.ofNat b) = (a < b)) ∧ (∀ a b : Nat, a < 9223372036854775808 → b < 9223372036854775808 → (Int64.ofNat a ≤ Int64.ofNat b) = (a ≤ b)) ∧ (∀ a b : Nat, a < 9223372036854775808 → b < 9223372036854775808 → (Int64.ofNat a = Int64.ofNat b) = (a = b)) :=
  ⟨fun a b h1 h2 => propext (Int32.ofNat_lt_iff_lt h1 h2), fun a b h1 h2 => propext (Int32.ofNat_le_iff_le h1 h2), fun a b h1 h2 => propext ⟨fun q => by have := congrArg Int32.toNatClampNeg q; rwa [Int32.toNatClampNeg_ofNat_of_lt h1, Int32.toNatClampNeg_ofNat_of_lt h2] at this, fun q => by rw [q]⟩,
   fun a b h1 h2 => propext (Int64.ofNat_lt_iff_lt h1 h2), fun a b h1 h2 => propext (Int64.ofNat_le_iff_le h1 h2), fun a b h1 h2 => propext ⟨fun q => by have := congrArg Int64.toNatClampNeg q; rwa [Int64.toNatClampNeg_ofNat_of_lt h1, Int64.toNatClampNeg_ofNat_of_lt h2] at this, fun q => by rw [q]⟩⟩
-- long comparisons
theorem n_lg (x y : Int64) : ((lg_cmp x y = 0) = (x = y)) ∧ ((lg_cmp x y < 0) = (x < y)) ∧ ((0 ≤ lg_cmp x y) = (y ≤ x)) ∧ ((0 < lg_cmp x y) = (y < x)) ∧ ((lg_cmp x y ≤ 0) = (x ≤ y)) := by
  unfold lg_cmp
  by_cases h1 : x > y
  · rw [if_pos h1]
    have h1' : y < x := h1
    have e1 : ¬ x = y := fun e => Int64.lt_irrefl (e ▸ h1')
    have e2 : ¬ x < y := fun e => Int64.lt_asymm e h1'
    have e3 : ¬ x ≤ y := fun e => Int64.not_le.mpr h1' e
    have e4 : y ≤ x := Int64.le_of_lt h1'
    exact ⟨by simp [e1], by simp [e2], by simp [e4], by simp [h1'], by simp [e3]⟩
  · rw [if_neg h1]
    have h1' : ¬ y < x := h1
    by_cases h2 : x = y
    · subst h2
      rw [if_pos rfl]
      exact ⟨by simp, by simp [h1'], by simp [Int64.le_refl], by simp [h1'], by simp [Int64.le_refl]⟩
    · rw [if_neg h2]
      have e1 : x ≤ y := Int64.not_lt.mp h1'
      have e2 : x < y := Int64.lt_of_le_of_ne e1 h2
      have e3 : ¬ y ≤ x := fun e => Int64.not_le.mpr e2 e
      exact ⟨by simp [h2], by simp [e2], by simp [e3], by simp [h1'], by simp [e1]⟩
theorem n_g : (∀ x y : Int64, (lg_cmp x y = Int32.ofNat 0) = (x = y)) ∧ (∀ x y : Int64, (lg_cmp x y < Int32.ofNat 0) = (x < y)) ∧ (∀ x y : Int64, (Int32.ofNat 0 ≤ lg_cmp x y) = (y ≤ x)) ∧ (∀ x y : Int64, (Int32.ofNat 0 < lg_cmp x y) = (y < x)) ∧ (∀ x y : Int64, (lg_cmp x y ≤ Int32.ofNat 0) = (x ≤ y)) :=
  ⟨fun x y => (n_lg x y).1, fun x y => (n_lg x y).2.1, fun x y => (n_lg x y).2.2.1, fun x y => (n_lg x y).2.2.2.1, fun x y => (n_lg x y).2.2.2.2⟩
-- booleans
theorem n_b : (∀ (c : Prop) [Decidable c], ((if c then Int32.ofNat 1 else Int32.ofNat 0) = Int32.ofNat 0) = ¬ c) ∧ (∀ (c : Prop) [Decidable c], ((if c then Int32.ofNat 1 else Int32.ofNat 0) = Int32.ofNat 1) = c) ∧ (∀ (c : Prop) [Decidable c], ((if c then Int32.ofNat 1 else Int32.ofNat 0) = Int32.ofNat 0 ∨ (if c then Int32.ofNat 1 else Int32.ofNat 0) = Int32.ofNat 1) = True) ∧ ((Int32.ofNat 1 = Int32.ofNat 0) = False) ∧ ((Int32.ofNat 0 = Int32.ofNat 1) = False) ∧ (∀ x : Int32, (x = x ∨ x = Int32.ofNat 1) = True) ∧ (∀ x : Int32, (x = Int32.ofNat 0 ∨ x = x) = True) := by
  have h : (Int32.ofNat 1 = Int32.ofNat 0) = False := by simp
  have h' : (Int32.ofNat 0 = Int32.ofNat 1) = False := by simp
  refine ⟨fun c _ => ?_, fun c _ => ?_, fun c _ => ?_, h, h', fun x => by simp, fun x => by simp⟩
  · by_cases q : c
    · rw [if_pos q, h]; simp [q]
    · rw [if_neg q]; simp [q]
  · by_cases q : c
    · rw [if_pos q]; simp [q]
    · rw [if_neg q, h']; simp [q]
  · by_cases q : c
    · rw [if_pos q]; simp
    · rw [if_neg q]; simp
-- memory
theorem n_m : (∀ (α : Type) (f : Nat → α) (a : Nat) (r : α) (b : Nat), pp_s f a r b = if b = a then r else f b) ∧ (∀ (α : Type) (f : Nat → α) (a : Nat) (r r' : α), pp_s (pp_s f a r) a r' = pp_s f a r') ∧ (∀ (α : Type) (f : Nat → α) (k : Nat) (v : α) (j : Nat), va_up f k v j = if j = k then v else f j) ∧ (∀ (α : Type) (f : Nat → α) (k : Nat) (v v' : α), va_up (va_up f k v) k v' = va_up f k v') :=
  ⟨fun _ _ _ _ _ => rfl, fun _ f a r r' => by funext i; simp only [pp_s]; split <;> rfl, fun _ _ _ _ _ => rfl, fun _ f a r r' => by funext i; simp only [va_up]; split <;> rfl⟩
-- no handlers
theorem hh_X2_init : mi_X2_init.hh = [] := rfl
theorem hh_X2_clear : mi_X2_clear.hh = [] := rfl
theorem hh_X2_add : mi_X2_add.hh = [] := rfl
theorem hh_X6_reset : mi_X6_reset.hh = [] := rfl
theorem hh_X6_init : mi_X6_init.hh = [] := rfl
theorem hh_X4_init : mi_X4_init.hh = [] := rfl
theorem hh_X7_init : mi_X7_init.hh = [] := rfl
theorem hh_X5_init : mi_X5_init.hh = [] := rfl
theorem hh_X0_init : mi_X0_init.hh = [] := rfl
theorem hh_X1_init : mi_X1_init.hh = [] := rfl
theorem hh_X3_init : mi_X3_init.hh = [] := rfl
theorem hh_X8_init : mi_X8_init.hh = [] := rfl
theorem hh_X8_appendFour : mi_X8_appendFour.hh = [] := rfl
theorem hh_X8_append : mi_X8_append.hh = [] := rfl
theorem hh_X4_copyFrom : mi_X4_copyFrom.hh = [] := rfl
theorem hh_X7_endOfRun : mi_X7_endOfRun.hh = [] := rfl
theorem hh_X7_numberAtStart : mi_X7_numberAtStart.hh = [] := rfl
theorem hh_X7_next : mi_X7_next.hh = [] := rfl
theorem hh_X7_begin : mi_X7_begin.hh = [] := rfl
theorem hh_X7_isWord : mi_X7_isWord.hh = [] := rfl
theorem hh_X5_statementAtToken : mi_X5_statementAtToken.hh = [] := rfl
theorem hh_X5_admit : mi_X5_admit.hh = [] := rfl
theorem hh_X7_isSign : mi_X7_isSign.hh = [] := rfl
theorem hh_X5_readFactor : mi_X5_readFactor.hh = [] := rfl
theorem hh_X5_readTerm : mi_X5_readTerm.hh = [] := rfl
theorem hh_X5_readSum : mi_X5_readSum.hh = [] := rfl
theorem hh_X5_readOne : mi_X5_readOne.hh = [] := rfl
theorem hh_X5_readTwo : mi_X5_readTwo.hh = [] := rfl
theorem hh_X5_readNumbers : mi_X5_readNumbers.hh = [] := rfl
theorem hh_X4_addMember : mi_X4_addMember.hh = [] := rfl
theorem hh_X6_addVersion : mi_X6_addVersion.hh = [] := rfl
theorem hh_X4_addPatent : mi_X4_addPatent.hh = [] := rfl
theorem hh_X6_addLicensee : mi_X6_addLicensee.hh = [] := rfl
theorem hh_X5_keepRule : mi_X5_keepRule.hh = [] := rfl
theorem hh_X5_keep : mi_X5_keep.hh = [] := rfl
theorem hh_X5_readStatement : mi_X5_readStatement.hh = [] := rfl
theorem hh_X5_readPool : mi_X5_readPool.hh = [] := rfl
theorem hh_X2_copyFrom : mi_X2_copyFrom.hh = [] := rfl
theorem hh_X6_copyFrom : mi_X6_copyFrom.hh = [] := rfl
theorem hh_X3_clear : mi_X3_clear.hh = [] := rfl
theorem hh_X8_startOver : mi_X8_startOver.hh = [] := rfl
theorem hh_X5_position : mi_X5_position.hh = [] := rfl
theorem hh_X8_parse : mi_X8_parse.hh = [] := rfl
theorem hh_X8_errorPosition : mi_X8_errorPosition.hh = [] := rfl
theorem hh_X8_size : mi_X8_size.hh = [] := rfl
theorem hh_X8_today : mi_X8_today.hh = [] := rfl
theorem hh_X8_period : mi_X8_period.hh = [] := rfl
theorem hh_X8_checkPatent : mi_X8_checkPatent.hh = [] := rfl
theorem hh_X8_checkVersion : mi_X8_checkVersion.hh = [] := rfl
theorem hh_X8_pairOf : mi_X8_pairOf.hh = [] := rfl
theorem hh_X0_outcome : mi_X0_outcome.hh = [] := rfl
theorem hh_X0_decide : mi_X0_decide.hh = [] := rfl
theorem hh_X8_decision : mi_X8_decision.hh = [] := rfl
theorem hh_X8_voters : mi_X8_voters.hh = [] := rfl
theorem hh_X0_missingVotes : mi_X0_missingVotes.hh = [] := rfl
theorem hh_X8_votesNeeded : mi_X8_votesNeeded.hh = [] := rfl
theorem hh_X0_releasedOn : mi_X0_releasedOn.hh = [] := rfl
theorem hh_X0_inForceOn : mi_X0_inForceOn.hh = [] := rfl
theorem hh_X0_countsOn : mi_X0_countsOn.hh = [] := rfl
theorem hh_X8_counts : mi_X8_counts.hh = [] := rfl
theorem hh_X8_checkMember : mi_X8_checkMember.hh = [] := rfl
theorem hh_X8_firstToExpire : mi_X8_firstToExpire.hh = [] := rfl
theorem hh_X0_versionsOn : mi_X0_versionsOn.hh = [] := rfl
theorem hh_X2_combined : mi_X2_combined.hh = [] := rfl
theorem hh_X2_operand : mi_X2_operand.hh = [] := rfl
theorem hh_X2_evaluate : mi_X2_evaluate.hh = [] := rfl
theorem hh_X0_weightOn : mi_X0_weightOn.hh = [] := rfl
theorem hh_X8_weight : mi_X8_weight.hh = [] := rfl
theorem hh_X8_weightAfter : mi_X8_weightAfter.hh = [] := rfl
theorem hh_X8_weighMembers : mi_X8_weighMembers.hh = [] := rfl
theorem hh_X1_openWeight : mi_X1_openWeight.hh = [] := rfl
theorem hh_X1_closeAbove : mi_X1_closeAbove.hh = [] := rfl
theorem hh_X1_giveQuotas : mi_X1_giveQuotas.hh = [] := rfl
theorem hh_X1_openWithLargestRemainder : mi_X1_openWithLargestRemainder.hh = [] := rfl
theorem hh_X1_giveRemainders : mi_X1_giveRemainders.hh = [] := rfl
theorem hh_X1_divide : mi_X1_divide.hh = [] := rfl
theorem hh_X8_shareOf : mi_X8_shareOf.hh = [] := rfl
theorem hh_X1_isMajority : mi_X1_isMajority.hh = [] := rfl
theorem hh_X8_smallestMajority : mi_X8_smallestMajority.hh = [] := rfl
theorem hh_X8_power : mi_X8_power.hh = [] := rfl
theorem hh_X8_checkLicensee : mi_X8_checkLicensee.hh = [] := rfl
theorem hh_X8_owed : mi_X8_owed.hh = [] := rfl
theorem hh_X8_reported : mi_X8_reported.hh = [] := rfl
theorem hh_X8_account : mi_X8_account.hh = [] := rfl
theorem hh_X8_latestShare : mi_X8_latestShare.hh = [] := rfl
theorem hh_X8_total : mi_X8_total.hh = [] := rfl
theorem hh_X8_largestDebtor : mi_X8_largestDebtor.hh = [] := rfl
theorem hh_X3_remember : mi_X3_remember.hh = [] := rfl
theorem hh_X8_advance : mi_X8_advance.hh = [] := rfl
theorem hh_X8_join : mi_X8_join.hh = [] := rfl
theorem hh_X8_declare : mi_X8_declare.hh = [] := rfl
theorem hh_X8_vote : mi_X8_vote.hh = [] := rfl
theorem hh_X8_reopen : mi_X8_reopen.hh = [] := rfl
theorem hh_X8_royaltyOf : mi_X8_royaltyOf.hh = [] := rfl
theorem hh_X8_report : mi_X8_report.hh = [] := rfl
theorem hh_X8_grantBack : mi_X8_grantBack.hh = [] := rfl
theorem hh_X8_pay : mi_X8_pay.hh = [] := rfl
theorem hh_X8_audit : mi_X8_audit.hh = [] := rfl
theorem hh_X4_bookShares : mi_X4_bookShares.hh = [] := rfl
theorem hh_X4_beginPeriod : mi_X4_beginPeriod.hh = [] := rfl
theorem hh_X8_close : mi_X8_close.hh = [] := rfl
theorem hh_X8_payOut : mi_X8_payOut.hh = [] := rfl
theorem hh_X3_takeBack : mi_X3_takeBack.hh = [] := rfl
theorem hh_X8_undo : mi_X8_undo.hh = [] := rfl
theorem hh_X8_checkSlot : mi_X8_checkSlot.hh = [] := rfl
theorem hh_X8_saveSnapshot : mi_X8_saveSnapshot.hh = [] := rfl
theorem hh_X8_restoreSnapshot : mi_X8_restoreSnapshot.hh = [] := rfl
theorem hh_X9_emit : mi_X9_emit.hh = [] := rfl
theorem hh_X9_clearDraft : mi_X9_clearDraft.hh = [] := rfl
theorem hh_X9_lifts : mi_X9_lifts.hh = [] := rfl
theorem hh_X9_liftsAll : mi_X9_liftsAll.hh = [] := rfl
theorem hh_X9_begins : mi_X9_begins.hh = [] := rfl
theorem hh_X9_init : mi_X9_init.hh = [] := rfl
theorem hh_X9_thrown : mi_X9_thrown.hh = [] := rfl
theorem hh_X9_within : mi_X9_within.hh = [] := rfl
theorem hh_X9_has : mi_X9_has.hh = [] := rfl
theorem hh_X9_bits : mi_X9_bits.hh = [] := rfl
theorem hh_X9_throwsIf : mi_X9_throwsIf.hh = [] := rfl
theorem hh_X9_bytesOf : mi_X9_bytesOf.hh = [] := rfl
theorem hh_X9_append : mi_X9_append.hh = [] := rfl
theorem hh_X9_byteAt : mi_X9_byteAt.hh = [] := rfl
theorem hh_X9_isSign : mi_X9_isSign.hh = [] := rfl
theorem hh_X9_advance : mi_X9_advance.hh = [] := rfl
theorem hh_X9_isWord : mi_X9_isWord.hh = [] := rfl
theorem hh_X9_isSignHere : mi_X9_isSignHere.hh = [] := rfl
theorem hh_X9_fails : mi_X9_fails.hh = [] := rfl
theorem hh_X9_takes : mi_X9_takes.hh = [] := rfl
theorem hh_X9_starts : mi_X9_starts.hh = [] := rfl
theorem hh_X9_once : mi_X9_once.hh = [] := rfl
theorem hh_X9_sets : mi_X9_sets.hh = [] := rfl
theorem hh_X9_closes : mi_X9_closes.hh = [] := rfl
theorem hh_X9_lays : mi_X9_lays.hh = [] := rfl
theorem hh_X9_oneMore : mi_X9_oneMore.hh = [] := rfl
theorem hh_X9_counted : mi_X9_counted.hh = [] := rfl
theorem hh_X9_factor : mi_X9_factor.hh = [] := rfl
theorem hh_X9_term : mi_X9_term.hh = [] := rfl
theorem hh_X9_sum : mi_X9_sum.hh = [] := rfl
theorem hh_X9_setting : mi_X9_setting.hh = [] := rfl
theorem hh_X9_statement : mi_X9_statement.hh = [] := rfl
theorem hh_X9_joined : mi_X9_joined.hh = [] := rfl
theorem hh_X9_worth : mi_X9_worth.hh = [] := rfl
theorem hh_X9_parse : mi_X9_parse.hh = [] := rfl
theorem hh_X9_errorPosition : mi_X9_errorPosition.hh = [] := rfl
theorem hh_X9_size : mi_X9_size.hh = [] := rfl
theorem hh_X9_today : mi_X9_today.hh = [] := rfl
theorem hh_X9_period : mi_X9_period.hh = [] := rfl
theorem hh_X9_no : mi_X9_no.hh = [] := rfl
theorem hh_X9_noMember : mi_X9_noMember.hh = [] := rfl
theorem hh_X9_noPair : mi_X9_noPair.hh = [] := rfl
theorem hh_X9_pair : mi_X9_pair.hh = [] := rfl
theorem hh_X9_isPositive : mi_X9_isPositive.hh = [] := rfl
theorem hh_X9_decided : mi_X9_decided.hh = [] := rfl
theorem hh_X9_decision : mi_X9_decision.hh = [] := rfl
theorem hh_X9_voters : mi_X9_voters.hh = [] := rfl
theorem hh_X9_votesNeeded : mi_X9_votesNeeded.hh = [] := rfl
theorem hh_X9_isReleased : mi_X9_isReleased.hh = [] := rfl
theorem hh_X9_isInForce : mi_X9_isInForce.hh = [] := rfl
theorem hh_X9_isCounted : mi_X9_isCounted.hh = [] := rfl
theorem hh_X9_counts : mi_X9_counts.hh = [] := rfl
theorem hh_X9_firstToExpire : mi_X9_firstToExpire.hh = [] := rfl
theorem hh_X9_weightOn : mi_X9_weightOn.hh = [] := rfl
theorem hh_X9_weight : mi_X9_weight.hh = [] := rfl
theorem hh_X9_weightAfter : mi_X9_weightAfter.hh = [] := rfl
theorem hh_X9_weighs : mi_X9_weighs.hh = [] := rfl
theorem hh_X9_openOnes : mi_X9_openOnes.hh = [] := rfl
theorem hh_X9_openAt : mi_X9_openAt.hh = [] := rfl
theorem hh_X9_rounds : mi_X9_rounds.hh = [] := rfl
theorem hh_X9_shares : mi_X9_shares.hh = [] := rfl
theorem hh_X9_shareOf : mi_X9_shareOf.hh = [] := rfl
theorem hh_X9_heaviness : mi_X9_heaviness.hh = [] := rfl
theorem hh_X9_isMajority : mi_X9_isMajority.hh = [] := rfl
theorem hh_X9_smallestMajority : mi_X9_smallestMajority.hh = [] := rfl
theorem hh_X9_power : mi_X9_power.hh = [] := rfl
theorem hh_X9_noLicensee : mi_X9_noLicensee.hh = [] := rfl
theorem hh_X9_noReport : mi_X9_noReport.hh = [] := rfl
theorem hh_X9_owed : mi_X9_owed.hh = [] := rfl
theorem hh_X9_reported : mi_X9_reported.hh = [] := rfl
theorem hh_X9_account : mi_X9_account.hh = [] := rfl
theorem hh_X9_latestShare : mi_X9_latestShare.hh = [] := rfl
theorem hh_X9_total : mi_X9_total.hh = [] := rfl
theorem hh_X9_largestDebtor : mi_X9_largestDebtor.hh = [] := rfl
theorem hh_X9_copies : mi_X9_copies.hh = [] := rfl
theorem hh_X9_keeps : mi_X9_keeps.hh = [] := rfl
theorem hh_X9_advance_ : mi_X9_advance_.hh = [] := rfl
theorem hh_X9_join : mi_X9_join.hh = [] := rfl
theorem hh_X9_declare : mi_X9_declare.hh = [] := rfl
theorem hh_X9_vote : mi_X9_vote.hh = [] := rfl
theorem hh_X9_reopen : mi_X9_reopen.hh = [] := rfl
theorem hh_X9_royalty : mi_X9_royalty.hh = [] := rfl
theorem hh_X9_report : mi_X9_report.hh = [] := rfl
theorem hh_X9_grantBack : mi_X9_grantBack.hh = [] := rfl
theorem hh_X9_pay : mi_X9_pay.hh = [] := rfl
theorem hh_X9_audit : mi_X9_audit.hh = [] := rfl
theorem hh_X9_close : mi_X9_close.hh = [] := rfl
theorem hh_X9_payOut : mi_X9_payOut.hh = [] := rfl
theorem hh_X9_undo : mi_X9_undo.hh = [] := rfl
theorem hh_X9_noSlot : mi_X9_noSlot.hh = [] := rfl
theorem hh_X9_saveSnapshot : mi_X9_saveSnapshot.hh = [] := rfl
theorem hh_X9_restoreSnapshot : mi_X9_restoreSnapshot.hh = [] := rfl
theorem hh_J0_coder_7d493 : mi_J0_coder_7d493.hh = [] := rfl
theorem hh_J0_length_8abf5 : mi_J0_length_8abf5.hh = [] := rfl
theorem hh_J0_isLatin1_aae02 : mi_J0_isLatin1_aae02.hh = [] := rfl
theorem hh_J3_checkIndex_8e157 : mi_J3_checkIndex_8e157.hh = [] := rfl
theorem hh_J0_checkIndex_df160 : mi_J0_checkIndex_df160.hh = [] := rfl
theorem hh_J1_charAt_3b067 : mi_J1_charAt_3b067.hh = [] := rfl
theorem hh_J0_charAt_5068e : mi_J0_charAt_5068e.hh = [] := rfl
theorem hh_J6_bitCount_0f7a4 : mi_J6_bitCount_0f7a4.hh = [] := rfl
theorem hh_J7_fill_53178 : mi_J7_fill_53178.hh = [] := rfl
-- what is returned
theorem rk_X8_append (x : Int32) : pp_rok mi_X8_append.ret x = True := rfl
theorem rk_X7_endOfRun (x : Int32) : pp_rok mi_X7_endOfRun.ret x = True := rfl
theorem rk_X7_numberAtStart (x : Int32) : pp_rok mi_X7_numberAtStart.ret x = True := rfl
theorem rk_X7_isWord (x : Int32) : pp_rok mi_X7_isWord.ret x = (x = Int32.ofNat 0 ∨ x = Int32.ofNat 1) := rfl
theorem rk_X5_statementAtToken (x : Int32) : pp_rok mi_X5_statementAtToken.ret x = True := rfl
theorem rk_X5_admit (x : Int32) : pp_rok mi_X5_admit.ret x = True := rfl
theorem rk_X7_isSign (x : Int32) : pp_rok mi_X7_isSign.ret x = (x = Int32.ofNat 0 ∨ x = Int32.ofNat 1) := rfl
theorem rk_X5_readFactor (x : Int32) : pp_rok mi_X5_readFactor.ret x = True := rfl
theorem rk_X5_readTerm (x : Int32) : pp_rok mi_X5_readTerm.ret x = True := rfl
theorem rk_X5_readSum (x : Int32) : pp_rok mi_X5_readSum.ret x = True := rfl
theorem rk_X5_readOne (x : Int32) : pp_rok mi_X5_readOne.ret x = True := rfl
theorem rk_X5_readTwo (x : Int32) : pp_rok mi_X5_readTwo.ret x = True := rfl
theorem rk_X5_readNumbers (x : Int32) : pp_rok mi_X5_readNumbers.ret x = True := rfl
theorem rk_X4_addMember (x : Int32) : pp_rok mi_X4_addMember.ret x = True := rfl
theorem rk_X4_addPatent (x : Int32) : pp_rok mi_X4_addPatent.ret x = True := rfl
theorem rk_X5_readStatement (x : Int32) : pp_rok mi_X5_readStatement.ret x = True := rfl
theorem rk_X5_readPool (x : Int32) : pp_rok mi_X5_readPool.ret x = True := rfl
theorem rk_X5_position (x : Int32) : pp_rok mi_X5_position.ret x = True := rfl
theorem rk_X8_parse (x : Int32) : pp_rok mi_X8_parse.ret x = True := rfl
theorem rk_X8_errorPosition (x : Int32) : pp_rok mi_X8_errorPosition.ret x = True := rfl
theorem rk_X8_size (x : Int32) : pp_rok mi_X8_size.ret x = True := rfl
theorem rk_X8_today (x : Int32) : pp_rok mi_X8_today.ret x = True := rfl
theorem rk_X8_period (x : Int32) : pp_rok mi_X8_period.ret x = True := rfl
theorem rk_X8_pairOf (x : Int32) : pp_rok mi_X8_pairOf.ret x = True := rfl
theorem rk_X0_outcome (x : Int32) : pp_rok mi_X0_outcome.ret x = True := rfl
theorem rk_X0_decide (x : Int32) : pp_rok mi_X0_decide.ret x = True := rfl
theorem rk_X8_decision (x : Int32) : pp_rok mi_X8_decision.ret x = True := rfl
theorem rk_X8_voters (x : Int32) : pp_rok mi_X8_voters.ret x = True := rfl
theorem rk_X0_missingVotes (x : Int32) : pp_rok mi_X0_missingVotes.ret x = True := rfl
theorem rk_X8_votesNeeded (x : Int32) : pp_rok mi_X8_votesNeeded.ret x = True := rfl
theorem rk_X0_releasedOn (x : Int32) : pp_rok mi_X0_releasedOn.ret x = (x = Int32.ofNat 0 ∨ x = Int32.ofNat 1) := rfl
theorem rk_X0_inForceOn (x : Int32) : pp_rok mi_X0_inForceOn.ret x = (x = Int32.ofNat 0 ∨ x = Int32.ofNat 1) := rfl
theorem rk_X0_countsOn (x : Int32) : pp_rok mi_X0_countsOn.ret x = (x = Int32.ofNat 0 ∨ x = Int32.ofNat 1) := rfl
theorem rk_X8_counts (x : Int32) : pp_rok mi_X8_counts.ret x = (x = Int32.ofNat 0 ∨ x = Int32.ofNat 1) := rfl
theorem rk_X8_firstToExpire (x : Int32) : pp_rok mi_X8_firstToExpire.ret x = True := rfl
theorem rk_X0_versionsOn (x : Int32) : pp_rok mi_X0_versionsOn.ret x = True := rfl
theorem rk_X2_combined (x : Int32) : pp_rok mi_X2_combined.ret x = True := rfl
theorem rk_X2_operand (x : Int32) : pp_rok mi_X2_operand.ret x = True := rfl
theorem rk_X2_evaluate (x : Int32) : pp_rok mi_X2_evaluate.ret x = True := rfl
theorem rk_X0_weightOn (x : Int32) : pp_rok mi_X0_weightOn.ret x = True := rfl
theorem rk_X8_weight (x : Int32) : pp_rok mi_X8_weight.ret x = True := rfl
theorem rk_X8_weightAfter (x : Int32) : pp_rok mi_X8_weightAfter.ret x = True := rfl
theorem rk_X1_closeAbove (x : Int32) : pp_rok mi_X1_closeAbove.ret x = (x = Int32.ofNat 0 ∨ x = Int32.ofNat 1) := rfl
theorem rk_X1_openWithLargestRemainder (x : Int32) : pp_rok mi_X1_openWithLargestRemainder.ret x = True := rfl
theorem rk_X8_shareOf (x : Int32) : pp_rok mi_X8_shareOf.ret x = True := rfl
theorem rk_X1_isMajority (x : Int32) : pp_rok mi_X1_isMajority.ret x = (x = Int32.ofNat 0 ∨ x = Int32.ofNat 1) := rfl
theorem rk_X8_smallestMajority (x : Int32) : pp_rok mi_X8_smallestMajority.ret x = True := rfl
theorem rk_X8_power (x : Int32) : pp_rok mi_X8_power.ret x = True := rfl
theorem rk_X8_reported (x : Int32) : pp_rok mi_X8_reported.ret x = True := rfl
theorem rk_X8_largestDebtor (x : Int32) : pp_rok mi_X8_largestDebtor.ret x = True := rfl
theorem rk_X8_advance (x : Int32) : pp_rok mi_X8_advance.ret x = True := rfl
theorem rk_X8_join (x : Int32) : pp_rok mi_X8_join.ret x = True := rfl
theorem rk_X8_declare (x : Int32) : pp_rok mi_X8_declare.ret x = True := rfl
theorem rk_X8_vote (x : Int32) : pp_rok mi_X8_vote.ret x = True := rfl
theorem rk_X8_reopen (x : Int32) : pp_rok mi_X8_reopen.ret x = True := rfl
theorem rk_X8_report (x : Int32) : pp_rok mi_X8_report.ret x = True := rfl
theorem rk_X8_grantBack (x : Int32) : pp_rok mi_X8_grantBack.ret x = True := rfl
theorem rk_X3_takeBack (x : Int32) : pp_rok mi_X3_takeBack.ret x = True := rfl
theorem rk_X8_undo (x : Int32) : pp_rok mi_X8_undo.ret x = True := rfl
theorem rk_X8_saveSnapshot (x : Int32) : pp_rok mi_X8_saveSnapshot.ret x = (x = Int32.ofNat 0 ∨ x = Int32.ofNat 1) := rfl
theorem rk_X8_restoreSnapshot (x : Int32) : pp_rok mi_X8_restoreSnapshot.ret x = True := rfl
theorem rk_X9_emit (x : Int32) : pp_rok mi_X9_emit.ret x = (x = Int32.ofNat 0 ∨ x = Int32.ofNat 1) := rfl
theorem rk_X9_thrown (x : Int32) : pp_rok mi_X9_thrown.ret x = True := rfl
theorem rk_X9_within (x : Int32) : pp_rok mi_X9_within.ret x = (x = Int32.ofNat 0 ∨ x = Int32.ofNat 1) := rfl
theorem rk_X9_has (x : Int32) : pp_rok mi_X9_has.ret x = (x = Int32.ofNat 0 ∨ x = Int32.ofNat 1) := rfl
theorem rk_X9_bits (x : Int32) : pp_rok mi_X9_bits.ret x = True := rfl
theorem rk_X9_throwsIf (x : Int32) : pp_rok mi_X9_throwsIf.ret x = (x = Int32.ofNat 0 ∨ x = Int32.ofNat 1) := rfl
theorem rk_X9_append (x : Int32) : pp_rok mi_X9_append.ret x = True := rfl
theorem rk_X9_byteAt (x : Int32) : pp_rok mi_X9_byteAt.ret x = True := rfl
theorem rk_X9_isSign (x : Int32) : pp_rok mi_X9_isSign.ret x = (x = Int32.ofNat 0 ∨ x = Int32.ofNat 1) := rfl
theorem rk_X9_isWord (x : Int32) : pp_rok mi_X9_isWord.ret x = (x = Int32.ofNat 0 ∨ x = Int32.ofNat 1) := rfl
theorem rk_X9_isSignHere (x : Int32) : pp_rok mi_X9_isSignHere.ret x = (x = Int32.ofNat 0 ∨ x = Int32.ofNat 1) := rfl
theorem rk_X9_fails (x : Int32) : pp_rok mi_X9_fails.ret x = (x = Int32.ofNat 0 ∨ x = Int32.ofNat 1) := rfl
theorem rk_X9_takes (x : Int32) : pp_rok mi_X9_takes.ret x = (x = Int32.ofNat 0 ∨ x = Int32.ofNat 1) := rfl
theorem rk_X9_starts (x : Int32) : pp_rok mi_X9_starts.ret x = (x = Int32.ofNat 0 ∨ x = Int32.ofNat 1) := rfl
theorem rk_X9_once (x : Int32) : pp_rok mi_X9_once.ret x = (x = Int32.ofNat 0 ∨ x = Int32.ofNat 1) := rfl
theorem rk_X9_sets (x : Int32) : pp_rok mi_X9_sets.ret x = (x = Int32.ofNat 0 ∨ x = Int32.ofNat 1) := rfl
theorem rk_X9_closes (x : Int32) : pp_rok mi_X9_closes.ret x = (x = Int32.ofNat 0 ∨ x = Int32.ofNat 1) := rfl
theorem rk_X9_lays (x : Int32) : pp_rok mi_X9_lays.ret x = (x = Int32.ofNat 0 ∨ x = Int32.ofNat 1) := rfl
theorem rk_X9_oneMore (x : Int32) : pp_rok mi_X9_oneMore.ret x = (x = Int32.ofNat 0 ∨ x = Int32.ofNat 1) := rfl
theorem rk_X9_counted (x : Int32) : pp_rok mi_X9_counted.ret x = (x = Int32.ofNat 0 ∨ x = Int32.ofNat 1) := rfl
theorem rk_X9_factor (x : Int32) : pp_rok mi_X9_factor.ret x = (x = Int32.ofNat 0 ∨ x = Int32.ofNat 1) := rfl
theorem rk_X9_term (x : Int32) : pp_rok mi_X9_term.ret x = (x = Int32.ofNat 0 ∨ x = Int32.ofNat 1) := rfl
theorem rk_X9_sum (x : Int32) : pp_rok mi_X9_sum.ret x = (x = Int32.ofNat 0 ∨ x = Int32.ofNat 1) := rfl
theorem rk_X9_setting (x : Int32) : pp_rok mi_X9_setting.ret x = (x = Int32.ofNat 0 ∨ x = Int32.ofNat 1) := rfl
theorem rk_X9_statement (x : Int32) : pp_rok mi_X9_statement.ret x = (x = Int32.ofNat 0 ∨ x = Int32.ofNat 1) := rfl
theorem rk_X9_joined (x : Int32) : pp_rok mi_X9_joined.ret x = True := rfl
theorem rk_X9_worth (x : Int32) : pp_rok mi_X9_worth.ret x = True := rfl
theorem rk_X9_parse (x : Int32) : pp_rok mi_X9_parse.ret x = True := rfl
theorem rk_X9_errorPosition (x : Int32) : pp_rok mi_X9_errorPosition.ret x = True := rfl
theorem rk_X9_size (x : Int32) : pp_rok mi_X9_size.ret x = True := rfl
theorem rk_X9_today (x : Int32) : pp_rok mi_X9_today.ret x = True := rfl
theorem rk_X9_period (x : Int32) : pp_rok mi_X9_period.ret x = True := rfl
theorem rk_X9_no (x : Int32) : pp_rok mi_X9_no.ret x = (x = Int32.ofNat 0 ∨ x = Int32.ofNat 1) := rfl
theorem rk_X9_noMember (x : Int32) : pp_rok mi_X9_noMember.ret x = (x = Int32.ofNat 0 ∨ x = Int32.ofNat 1) := rfl
theorem rk_X9_noPair (x : Int32) : pp_rok mi_X9_noPair.ret x = (x = Int32.ofNat 0 ∨ x = Int32.ofNat 1) := rfl
theorem rk_X9_pair (x : Int32) : pp_rok mi_X9_pair.ret x = True := rfl
theorem rk_X9_isPositive (x : Int32) : pp_rok mi_X9_isPositive.ret x = (x = Int32.ofNat 0 ∨ x = Int32.ofNat 1) := rfl
theorem rk_X9_decided (x : Int32) : pp_rok mi_X9_decided.ret x = True := rfl
theorem rk_X9_decision (x : Int32) : pp_rok mi_X9_decision.ret x = True := rfl
theorem rk_X9_voters (x : Int32) : pp_rok mi_X9_voters.ret x = True := rfl
theorem rk_X9_votesNeeded (x : Int32) : pp_rok mi_X9_votesNeeded.ret x = True := rfl
theorem rk_X9_isReleased (x : Int32) : pp_rok mi_X9_isReleased.ret x = (x = Int32.ofNat 0 ∨ x = Int32.ofNat 1) := rfl
theorem rk_X9_isInForce (x : Int32) : pp_rok mi_X9_isInForce.ret x = (x = Int32.ofNat 0 ∨ x = Int32.ofNat 1) := rfl
theorem rk_X9_isCounted (x : Int32) : pp_rok mi_X9_isCounted.ret x = (x = Int32.ofNat 0 ∨ x = Int32.ofNat 1) := rfl
theorem rk_X9_counts (x : Int32) : pp_rok mi_X9_counts.ret x = (x = Int32.ofNat 0 ∨ x = Int32.ofNat 1) := rfl
theorem rk_X9_firstToExpire (x : Int32) : pp_rok mi_X9_firstToExpire.ret x = True := rfl
theorem rk_X9_weightOn (x : Int32) : pp_rok mi_X9_weightOn.ret x = True := rfl
theorem rk_X9_weight (x : Int32) : pp_rok mi_X9_weight.ret x = True := rfl
theorem rk_X9_weightAfter (x : Int32) : pp_rok mi_X9_weightAfter.ret x = True := rfl
theorem rk_X9_openAt (x : Int32) : pp_rok mi_X9_openAt.ret x = True := rfl
theorem rk_X9_shareOf (x : Int32) : pp_rok mi_X9_shareOf.ret x = True := rfl
theorem rk_X9_isMajority (x : Int32) : pp_rok mi_X9_isMajority.ret x = (x = Int32.ofNat 0 ∨ x = Int32.ofNat 1) := rfl
theorem rk_X9_smallestMajority (x : Int32) : pp_rok mi_X9_smallestMajority.ret x = True := rfl
theorem rk_X9_power (x : Int32) : pp_rok mi_X9_power.ret x = True := rfl
theorem rk_X9_noLicensee (x : Int32) : pp_rok mi_X9_noLicensee.ret x = (x = Int32.ofNat 0 ∨ x = Int32.ofNat 1) := rfl
theorem rk_X9_noReport (x : Int32) : pp_rok mi_X9_noReport.ret x = (x = Int32.ofNat 0 ∨ x = Int32.ofNat 1) := rfl
theorem rk_X9_reported (x : Int32) : pp_rok mi_X9_reported.ret x = True := rfl
theorem rk_X9_largestDebtor (x : Int32) : pp_rok mi_X9_largestDebtor.ret x = True := rfl
theorem rk_X9_advance_ (x : Int32) : pp_rok mi_X9_advance_.ret x = True := rfl
theorem rk_X9_join (x : Int32) : pp_rok mi_X9_join.ret x = True := rfl
theorem rk_X9_declare (x : Int32) : pp_rok mi_X9_declare.ret x = True := rfl
theorem rk_X9_vote (x : Int32) : pp_rok mi_X9_vote.ret x = True := rfl
theorem rk_X9_reopen (x : Int32) : pp_rok mi_X9_reopen.ret x = True := rfl
theorem rk_X9_report (x : Int32) : pp_rok mi_X9_report.ret x = True := rfl
theorem rk_X9_grantBack (x : Int32) : pp_rok mi_X9_grantBack.ret x = True := rfl
theorem rk_X9_undo (x : Int32) : pp_rok mi_X9_undo.ret x = True := rfl
theorem rk_X9_noSlot (x : Int32) : pp_rok mi_X9_noSlot.ret x = (x = Int32.ofNat 0 ∨ x = Int32.ofNat 1) := rfl
theorem rk_X9_saveSnapshot (x : Int32) : pp_rok mi_X9_saveSnapshot.ret x = (x = Int32.ofNat 0 ∨ x = Int32.ofNat 1) := rfl
theorem rk_X9_restoreSnapshot (x : Int32) : pp_rok mi_X9_restoreSnapshot.ret x = True := rfl
theorem rk_J0_coder_7d493 (x : Int32) : pp_rok mi_J0_coder_7d493.ret x = (narrow .byte (.int x) = .int x) := rfl
theorem rk_J0_length_8abf5 (x : Int32) : pp_rok mi_J0_length_8abf5.ret x = True := rfl
theorem rk_J0_isLatin1_aae02 (x : Int32) : pp_rok mi_J0_isLatin1_aae02.ret x = (x = Int32.ofNat 0 ∨ x = Int32.ofNat 1) := rfl
theorem rk_J3_checkIndex_8e157 (x : Int32) : pp_rok mi_J3_checkIndex_8e157.ret x = True := rfl
theorem rk_J1_charAt_3b067 (x : Int32) : pp_rok mi_J1_charAt_3b067.ret x = (narrow .char (.int x) = .int x) := rfl
theorem rk_J0_charAt_5068e (x : Int32) : pp_rok mi_J0_charAt_5068e.ret x = (narrow .char (.int x) = .int x) := rfl
theorem rk_J6_bitCount_0f7a4 (x : Int32) : pp_rok mi_J6_bitCount_0f7a4.ret x = True := rfl
-- less than 0
theorem n_n : (∀ a : Nat, 1 ≤ a → Int32.ofNat a + -Int32.ofNat 1 = Int32.ofNat (a - 1)) ∧ (∀ a b : Nat, a < 2147483648 → b < 2147483648 → Int32.ofNat a / Int32.ofNat b = Int32.ofNat (a / b)) ∧ (∀ a b : Nat, a < 9223372036854775808 → b < 9223372036854775808 → Int64.ofNat a / Int64.ofNat b = Int64.ofNat (a / b)) ∧ (∀ a : Nat, a < 2147483648 → (Int32.ofNat a = -Int32.ofNat 1) = False) ∧ (∀ a : Nat, a < 2147483648 → (-Int32.ofNat 1 = Int32.ofNat a) = False) ∧ (∀ a : Nat, a < 2147483648 → (-Int32.ofNat 1 < Int32.ofNat a) = True) ∧ (∀ a : Nat, a < 2147483648 → (-Int32.ofNat 1 ≤ Int32.ofNat a) = True) ∧ (∀ a : Nat, a < 2147483648 → (Int32.ofNat a < -Int32.ofNat 1) = False) ∧ (∀ a : Nat, a < 2147483648 → (Int32.ofNat a ≤ -Int32.ofNat 1) = False) := by
  have e : (-Int32.ofNat 1).toInt = -1 := rfl
  refine ⟨fun a h => by rw [← Int32.sub_eq_add_neg]; exact (Int32.ofNat_sub a 1 h).symm, fun a b h1 h2 => (Int32.ofNat_div h1 h2).symm, fun a b h1 h2 => (Int64.ofNat_div h1 h2).symm, fun a h => ?_, fun a h => ?_, fun a h => ?_, fun a h => ?_, fun a h => ?_, fun a h => ?_⟩
  · refine eq_false (fun q => ?_)
    have := congrArg Int32.toInt q
    rw [e, Int32.toInt_ofNat_of_lt h] at this
    omega
  · refine eq_false (fun q => ?_)
    have := congrArg Int32.toInt q
    rw [e, Int32.toInt_ofNat_of_lt h] at this
    omega
  · refine eq_true ?_
    rw [Int32.lt_iff_toInt_lt, e, Int32.toInt_ofNat_of_lt h]; omega
  · refine eq_true ?_
    rw [Int32.le_iff_toInt_le, e, Int32.toInt_ofNat_of_lt h]; omega
  · refine eq_false ?_
    rw [Int32.lt_iff_toInt_lt, e, Int32.toInt_ofNat_of_lt h]; omega
  · refine eq_false ?_
    rw [Int32.le_iff_toInt_le, e, Int32.toInt_ofNat_of_lt h]; omega
-- cases of a switch
theorem n_i : (∀ a b : Int, -2147483648 ≤ a → a < 2147483648 → -2147483648 ≤ b → b < 2147483648 → (Int32.ofInt a = Int32.ofInt b) = (a = b)) ∧ (∀ (a : Nat) (b : Int), a < 2147483648 → -2147483648 ≤ b → b < 2147483648 → (Int32.ofNat a = Int32.ofInt b) = ((a : Int) = b)) ∧ (∀ a : Int, -2147483648 ≤ a → a < 2147483648 → (Int32.ofInt a).toInt = a) ∧ (∀ a : Nat, a < 2147483648 → (Int32.ofNat a).toInt = (a : Int)) := by
  have t : ∀ a : Int, -2147483648 ≤ a → a < 2147483648 → (Int32.ofInt a).toInt = a := fun a h1 h2 => Int32.toInt_ofInt_of_le h1 h2
  have u : ∀ a : Nat, a < 2147483648 → (Int32.ofNat a).toInt = (a : Int) := fun a h => Int32.toInt_ofNat_of_lt h
  refine ⟨fun a b h1 h2 h3 h4 => propext ⟨fun q => ?_, fun q => by rw [q]⟩, fun a b h1 h2 h3 => propext ⟨fun q => ?_, fun q => by rw [← q]; exact Int32.ofInt_eq_ofNat.symm⟩, t, u⟩
  · have := congrArg Int32.toInt q
    rwa [t a h1 h2, t b h3 h4] at this
  · have := congrArg Int32.toInt q
    rwa [u a h1, t b h2 h3] at this
