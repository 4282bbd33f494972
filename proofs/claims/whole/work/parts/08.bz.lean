theorem bz_J0_isLatin1_aae02 (o : Nat) : bl (f_J0_isLatin1 o) = true := by
  unfold f_J0_isLatin1
  repeat' split
  all_goals first | rfl | decide
theorem bz_J1_canEncode_9a6ad (v0 : Int32) : bl (f_J1_canEncode v0) = true := by
  unfold f_J1_canEncode
  repeat' split
  all_goals first | rfl | decide
theorem bz_X2_isOne (o : Nat) (v1 : Int32) (μ : Mem) : bl (f_X2_isOne o v1 μ) = true := by
  unfold f_X2_isOne
  repeat' split
  all_goals first | rfl | decide
theorem bz_X2_isGate (o : Nat) (v1 : Int32) (μ : Mem) : bl (f_X2_isGate o v1 μ) = true := by
  unfold f_X2_isGate
  repeat' split
  all_goals first | rfl | decide
theorem bz_X1_isTold (o : Nat) (μ : Mem) : bl (f_X1_isTold o μ) = true := by
  unfold f_X1_isTold
  repeat' split
  all_goals first | rfl | decide
theorem ck_X0_lawOf {o : Nat} {v1 : Int32} (ho : kd true o = 0) : kd true (f_X0_lawOf o v1) = 1 := by
  unfold f_X0_lawOf
  split
  · exact wk_0_0 ho
  · exact wk_0_1 ho
theorem bz_X8_isField (v0 : Int32) : bl (f_X8_isField v0) = true := by
  unfold f_X8_isField
  repeat' split
  all_goals first | rfl | decide
theorem bz_X2_isHolder (o : Nat) (v1 : Int32) (μ : Mem) : bl (f_X2_isHolder o v1 μ) = true := by
  unfold f_X2_isHolder
  repeat' split
  all_goals first | rfl | exact bz_X2_isOne _ _ _ | decide
theorem bz_X4_isDigit (v0 : Int32) : bl (f_X4_isDigit v0) = true := by
  unfold f_X4_isDigit
  repeat' split
  all_goals first | rfl | decide
theorem bz_X5_hasPart (o : Nat) (v1 : Int32) (v2 : Int32) (μ : Mem) : bl (f_X5_hasPart o v1 v2 μ) = true := by
  unfold f_X5_hasPart
  repeat' split
  all_goals first | rfl | decide
theorem bz_X5_isMissing (o : Nat) (μ : Mem) : bl (f_X5_isMissing o μ) = true := by
  unfold f_X5_isMissing
  repeat' split
  all_goals first | rfl | decide
theorem bz_X8_areTwoFields (v0 : Int32) (v1 : Int32) : bl (f_X8_areTwoFields v0 v1) = true := by
  unfold f_X8_areTwoFields
  repeat' split
  all_goals first | rfl | exact bz_X8_isField _ | decide
theorem bz_X8_isKindAndNumber (v0 : Int32) : bl (f_X8_isKindAndNumber v0) = true := by
  unfold f_X8_isKindAndNumber
  repeat' split
  all_goals first | rfl | decide
theorem bz_X8_isSheet (v0 : Int32) : bl (f_X8_isSheet v0) = true := by
  unfold f_X8_isSheet
  repeat' split
  all_goals first | rfl | decide
theorem bz_X8_isUse (v0 : Int32) : bl (f_X8_isUse v0) = true := by
  unfold f_X8_isUse
  repeat' split
  all_goals first | rfl | decide
theorem bz_X8_isWidth (v0 : Int32) : bl (f_X8_isWidth v0) = true := by
  unfold f_X8_isWidth
  repeat' split
  all_goals first | rfl | decide
theorem bz_X9_in (v0 : Int32) (v1 : Int32) (v2 : Int32) : bl (f_X9_in v0 v1 v2) = true := by
  unfold f_X9_in
  repeat' split
  all_goals first | rfl | decide
theorem bz_X9_isField (v0 : Int32) : bl (f_X9_isField v0) = true := by
  unfold f_X9_isField
  repeat' split
  all_goals first | rfl | exact bz_X9_in _ _ _ | decide
theorem bz_X9_areTwo (v0 : Int32) (v1 : Int32) : bl (f_X9_areTwo v0 v1) = true := by
  unfold f_X9_areTwo
  repeat' split
  all_goals first | rfl | exact bz_X9_isField _ | decide
theorem bz_X9_isPerson (v1 : Int32) (μ : Mem) : bl (f_X9_isPerson v1 μ) = true := by
  unfold f_X9_isPerson
  repeat' split
  all_goals first | rfl | exact bz_X9_in _ _ _ | decide
theorem bz_X9_isKm (v0 : Int32) : bl (f_X9_isKm v0) = true := by
  unfold f_X9_isKm
  repeat' split
  all_goals first | rfl | exact bz_X9_in _ _ _ | decide
theorem bz_X9_isGate (v1 : Int32) (μ : Mem) : bl (f_X9_isGate v1 μ) = true := by
  unfold f_X9_isGate
  repeat' split
  all_goals first | rfl | exact bz_X9_in _ _ _ | decide
theorem bz_X9_isSheet (v0 : Int32) : bl (f_X9_isSheet v0) = true := by
  unfold f_X9_isSheet
  repeat' split
  all_goals first | rfl | exact bz_X9_in _ _ _ | decide
