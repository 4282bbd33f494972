set_option maxRecDepth 100000 in
set_option maxHeartbeats 4000000 in
theorem c_J0_coder_7d493 {l : Launch} {D : DT} {o : Nat} {μ : Mem} (ho : o < 3) : Ct l D true 1 yJ0_coder_7d493 cJ0_coder_7d493 1 (some FieldType.byte) [.ref (D.1 (110 + o))] μ (some (.int (f_J0_coder o))) μ := by
  obtain ⟨r, h⟩ : ∃ r, f_J0_coder o = r := ⟨_, rfl⟩
  rw [h]
  refine Ct.of (own := RJ0) (lc0 := [some (.ref (D.1 (110 + o)))]) pn_J0 rfl (Nat.le_of_ble_eq_true rfl) rfl mv_J0_coder_7d493.2.2.2.1 (fun X hX => ?_)
  unfold f_J0_coder at h
  refine g_CS hX w_603 dJ0_coder_7d493_0 ?_
  refine g_if_eq (tgt := 13) hX dJ0_coder_7d493_3 (by decide) (fun q1 => ?_) (fun q1 => ?_)
  · rw [if_pos q1] at h
    refine g_iconst hX dJ0_coder_7d493_13 k_1 ?_
    subst h
    exact g_iret hX rfl rfl dJ0_coder_7d493_14
  · rw [if_neg q1] at h
    refine g_aload_n hX dJ0_coder_7d493_6 rfl rfl ?_
    refine g_sCod hX ho w_1457 dJ0_coder_7d493_7 ?_
    refine g_goto (tgt := 14) hX dJ0_coder_7d493_10 (by decide) ?_
    subst h
    exact g_iret hX rfl rfl dJ0_coder_7d493_14
set_option maxRecDepth 100000 in
set_option maxHeartbeats 4000000 in
theorem c_J0_isLatin1_aae02 {l : Launch} {D : DT} {o : Nat} {μ : Mem} (ho : o < 3) : Ct l D true 1 yJ0_isLatin1_aae02 cJ0_isLatin1_aae02 1 (some FieldType.boolean) [.ref (D.1 (110 + o))] μ (some (.int (f_J0_isLatin1 o))) μ := by
  obtain ⟨r, h⟩ : ∃ r, f_J0_isLatin1 o = r := ⟨_, rfl⟩
  rw [h]
  refine Ct.of (own := RJ0) (lc0 := [some (.ref (D.1 (110 + o)))]) pn_J0 rfl (Nat.le_of_ble_eq_true rfl) rfl mv_J0_isLatin1_aae02.2.2.2.1 (fun X hX => ?_)
  unfold f_J0_isLatin1 at h
  refine g_CS hX w_603 dJ0_isLatin1_aae02_0 ?_
  refine g_if_eq (tgt := 17) hX dJ0_isLatin1_aae02_3 (by decide) (fun q1 => ?_) (fun q1 => ?_)
  · rw [if_pos q1] at h
    refine g_iconst hX dJ0_isLatin1_aae02_17 k_0 ?_
    subst h
    exact g_iret hX rfl rfl dJ0_isLatin1_aae02_18
  · rw [if_neg q1] at h
    refine g_aload_n hX dJ0_isLatin1_aae02_6 rfl rfl ?_
    refine g_sCod hX ho w_1457 dJ0_isLatin1_aae02_7 ?_
    refine g_if_ne (tgt := 17) hX dJ0_isLatin1_aae02_10 (by decide) (fun q2 => ?_) (fun q2 => ?_)
    · rw [if_neg q2] at h
      refine g_iconst hX dJ0_isLatin1_aae02_17 k_0 ?_
      subst h
      exact g_iret hX rfl rfl dJ0_isLatin1_aae02_18
    · rw [if_pos q2] at h
      refine g_iconst hX dJ0_isLatin1_aae02_13 k_1 ?_
      refine g_goto (tgt := 18) hX dJ0_isLatin1_aae02_14 (by decide) ?_
      subst h
      exact g_iret hX rfl rfl dJ0_isLatin1_aae02_18
set_option maxRecDepth 100000 in
set_option maxHeartbeats 4000000 in
theorem c_J0_length_8abf5 {l : Launch} {D : DT} {o : Nat} {μ : Mem} (ho : o < 3) : Ct l D true 2 yJ0_length_8abf5 cJ0_length_8abf5 1 (some FieldType.int) [.ref (D.1 (110 + o))] μ (some (.int (f_J0_length o))) μ := by
  obtain ⟨r, h⟩ : ∃ r, f_J0_length o = r := ⟨_, rfl⟩
  rw [h]
  refine Ct.of (own := RJ0) (lc0 := [some (.ref (D.1 (110 + o)))]) pn_J0 rfl (Nat.le_of_ble_eq_true rfl) rfl mv_J0_length_8abf5.2.2.2.1 (fun X hX => ?_)
  unfold f_J0_length at h
  refine g_aload_n hX dJ0_length_8abf5_0 rfl rfl ?_
  refine g_sVal hX ho w_1458 dJ0_length_8abf5_1 ?_
  refine g_sLen hX ho dJ0_length_8abf5_4 ?_
  refine g_aload_n hX dJ0_length_8abf5_5 rfl rfl ?_
  refine g_callVSi hX (c_J0_coder_7d493 ho) mv_J0_coder_7d493 wm_609 ho rfl (by decide) rfl rfl (Nat.le_of_ble_eq_true rfl) dJ0_length_8abf5_6 ?_
  refine g_ishr hX dJ0_length_8abf5_9 ?_
  subst h
  exact g_iret hX rfl rfl dJ0_length_8abf5_10
set_option maxRecDepth 100000 in
set_option maxHeartbeats 4000000 in
theorem c_J1_canEncode_9a6ad {l : Launch} {D : DT} {μ : Mem} (v0 : Int32) : Ct l D true 1 yJ1_canEncode_9a6ad cJ1_canEncode_9a6ad 1 (some FieldType.boolean) [.int v0] μ (some (.int (f_J1_canEncode v0))) μ := by
  obtain ⟨r, h⟩ : ∃ r, f_J1_canEncode v0 = r := ⟨_, rfl⟩
  rw [h]
  refine Ct.of (own := RJ1) (lc0 := [some (.int v0)]) pn_J1 rfl (Nat.le_of_ble_eq_true rfl) rfl mv_J1_canEncode_9a6ad.2.2.1 (fun X hX => ?_)
  unfold f_J1_canEncode at h
  refine g_iload_n hX dJ1_canEncode_9a6ad_0 rfl rfl ?_
  refine g_if_lt (tgt := 15) hX dJ1_canEncode_9a6ad_1 (by decide) (fun q1 => ?_) (fun q1 => ?_)
  · rw [if_pos q1] at h
    refine g_iconst hX dJ1_canEncode_9a6ad_15 k_0 ?_
    subst h
    exact g_iret hX rfl rfl dJ1_canEncode_9a6ad_16
  · rw [if_neg q1] at h
    refine g_iload_n hX dJ1_canEncode_9a6ad_4 rfl rfl ?_
    refine g_sipush hX dJ1_canEncode_9a6ad_5 ks_255 ?_
    refine g_icmp_gt (tgt := 15) hX dJ1_canEncode_9a6ad_8 (by decide) (fun q2 => ?_) (fun q2 => ?_)
    · rw [if_pos q2] at h
      refine g_iconst hX dJ1_canEncode_9a6ad_15 k_0 ?_
      subst h
      exact g_iret hX rfl rfl dJ1_canEncode_9a6ad_16
    · rw [if_neg q2] at h
      refine g_iconst hX dJ1_canEncode_9a6ad_11 k_1 ?_
      refine g_goto (tgt := 16) hX dJ1_canEncode_9a6ad_12 (by decide) ?_
      subst h
      exact g_iret hX rfl rfl dJ1_canEncode_9a6ad_16
set_option maxRecDepth 100000 in
set_option maxHeartbeats 4000000 in
theorem t_J1_indexOfChar_7 {l : Launch} {D : DT} {X : XT} {a0 : Nat} {μ : Mem} {r : Int32} (hX : Cx l D true X 1 RJ1 cJ1_indexOfChar_4cfef 6 (some FieldType.int)) (ha0 : a0 < 3) : ∀ (n : Nat) (v3 : Int32) (v4 : Int32) (v5 : Int32), f_J1_indexOfChar_7 a0 n v3 v4 v5 = some r → G l D true X 6 (some (.int r)) μ 7 [some (.ref (D.1 (120 + a0))), none, none, some (.int v3), some (.int v4), some (.int v5)] [] μ := by
  intro n
  induction n with
  | zero => intro v3 v4 v5 h; exact absurd h (by simp [f_J1_indexOfChar_7])
  | succ n ih =>
    intro v3 v4 v5 h
    rw [f_J1_indexOfChar_7] at h
    refine g_iload hX dJ1_indexOfChar_4cfef_7 rfl ?_
    refine g_iload_n hX dJ1_indexOfChar_4cfef_9 rfl rfl ?_
    refine g_icmp_ge (tgt := 31) hX dJ1_indexOfChar_4cfef_10 (by decide) (fun q1 => ?_) (fun q1 => ?_)
    · rw [if_pos q1] at h
      refine g_iconst hX dJ1_indexOfChar_4cfef_31 k_m1 ?_
      obtain rfl := Option.some.inj h
      exact g_iret hX rfl rfl dJ1_indexOfChar_4cfef_32
    · rw [if_neg q1] at h
      refine g_aload_n hX dJ1_indexOfChar_4cfef_13 rfl rfl ?_
      refine g_iload hX dJ1_indexOfChar_4cfef_14 rfl ?_
      obtain ⟨z2, h⟩ := ck_some h
      refine g_sByte hX ha0 z2 dJ1_indexOfChar_4cfef_16 ?_
      refine g_iload hX dJ1_indexOfChar_4cfef_17 rfl ?_
      refine g_icmp_ne (tgt := 25) hX dJ1_indexOfChar_4cfef_19 (by decide) (fun q3 => ?_) (fun q3 => ?_)
      · rw [if_neg q3] at h
        refine g_iinc (lc' := [some _, none, none, some _, some _, some _]) hX dJ1_indexOfChar_4cfef_25 (by decide) rfl (congrArg _ k_1) rfl rfl ?_
        refine g_goto (tgt := 7) hX dJ1_indexOfChar_4cfef_28 (by decide) ?_
        exact g_weak (lc' := [some _, none, none, some _, some _, some _]) ⟨rfl, rfl, rfl, rfl, trivial⟩ (ih _ _ _ h)
      · rw [if_pos q3] at h
        refine g_iload hX dJ1_indexOfChar_4cfef_22 rfl ?_
        obtain rfl := Option.some.inj h
        exact g_iret hX rfl rfl dJ1_indexOfChar_4cfef_24
set_option maxRecDepth 100000 in
set_option maxHeartbeats 4000000 in
theorem c_J1_indexOfChar_4cfef {l : Launch} {D : DT} {a0 : Nat} {μ : Mem} {r : Int32} (ha0 : a0 < 3) (v1 : Int32) (v2 : Int32) (v3 : Int32) (h : f_J1_indexOfChar a0 v1 v2 v3 = some r) : Ct l D true 1 yJ1_indexOfChar_4cfef cJ1_indexOfChar_4cfef 6 (some FieldType.int) [.ref (D.1 (120 + a0)), .int v1, .int v2, .int v3] μ (some (.int r)) μ := by
  refine Ct.of (own := RJ1) (lc0 := [some (.ref (D.1 (120 + a0))), some (.int v1), some (.int v2), some (.int v3), none, none]) pn_J1 rfl (Nat.le_of_ble_eq_true rfl) rfl mv_J1_indexOfChar_4cfef.2.2.1 (fun X hX => ?_)
  unfold f_J1_indexOfChar at h
  refine g_iload_n hX dJ1_indexOfChar_4cfef_0 rfl rfl ?_
  refine g_i2b hX dJ1_indexOfChar_4cfef_1 ?_
  refine g_istore (lc' := [some _, some _, some _, some _, some _, none]) hX dJ1_indexOfChar_4cfef_2 (by decide) rfl rfl ?_
  refine g_iload_n hX dJ1_indexOfChar_4cfef_4 rfl rfl ?_
  refine g_istore (lc' := [some _, some _, some _, some _, some _, some _]) hX dJ1_indexOfChar_4cfef_5 (by decide) rfl rfl ?_
  exact g_weak (lc' := [some _, none, none, some _, some _, some _]) ⟨rfl, rfl, rfl, rfl, trivial⟩ (t_J1_indexOfChar_7 hX ha0 2000 _ _ _ h)
set_option maxRecDepth 100000 in
set_option maxHeartbeats 4000000 in
theorem c_J1_indexOf_4cfef {l : Launch} {D : DT} {a0 : Nat} {μ : Mem} {r : Int32} (ha0 : a0 < 3) (v1 : Int32) (v2 : Int32) (v3 : Int32) (h : f_J1_indexOf a0 v1 v2 v3 = some r) : Ct l D true 2 yJ1_indexOf_4cfef cJ1_indexOf_4cfef 4 (some FieldType.int) [.ref (D.1 (120 + a0)), .int v1, .int v2, .int v3] μ (some (.int r)) μ := by
  refine Ct.of (own := RJ1) (lc0 := [some (.ref (D.1 (120 + a0))), some (.int v1), some (.int v2), some (.int v3)]) pn_J1 rfl (Nat.le_of_ble_eq_true rfl) rfl mv_J1_indexOf_4cfef.2.2.1 (fun X hX => ?_)
  unfold f_J1_indexOf at h
  refine g_iload_n hX dJ1_indexOf_4cfef_0 rfl rfl ?_
  refine g_callSi hX (c_J1_canEncode_9a6ad  v1) mv_J1_canEncode_9a6ad wm_616 (by decide) rfl rfl (Nat.le_of_ble_eq_true rfl) dJ1_indexOf_4cfef_1 ?_
  refine g_if_ne (tgt := 9) hX dJ1_indexOf_4cfef_4 (by decide) (fun q1 => ?_) (fun q1 => ?_)
  · rw [if_neg q1] at h
    refine g_iload_n hX dJ1_indexOf_4cfef_9 rfl rfl ?_
    refine g_iconst hX dJ1_indexOf_4cfef_10 k_0 ?_
    refine g_mmax hX mmw_max wm_619 (by decide) (Nat.le_of_ble_eq_true rfl) dJ1_indexOf_4cfef_11 ?_
    refine g_istore_n (lc' := [some _, some _, some _, some _]) hX dJ1_indexOf_4cfef_14 rfl (by decide) rfl rfl ?_
    refine g_iload_n hX dJ1_indexOf_4cfef_15 rfl rfl ?_
    refine g_aload_n hX dJ1_indexOf_4cfef_16 rfl rfl ?_
    refine g_sLen hX ha0 dJ1_indexOf_4cfef_17 ?_
    refine g_mmin hX mmw_min wm_620 (by decide) (Nat.le_of_ble_eq_true rfl) dJ1_indexOf_4cfef_18 ?_
    refine g_istore_n (lc' := [some _, some _, some _, some _]) hX dJ1_indexOf_4cfef_21 rfl (by decide) rfl rfl ?_
    refine g_iload_n hX dJ1_indexOf_4cfef_22 rfl rfl ?_
    refine g_iload_n hX dJ1_indexOf_4cfef_23 rfl rfl ?_
    refine g_icmp_lt (tgt := 29) hX dJ1_indexOf_4cfef_24 (by decide) (fun q2 => ?_) (fun q2 => ?_)
    · rw [if_pos q2] at h
      refine g_aload_n hX dJ1_indexOf_4cfef_29 rfl rfl ?_
      refine g_iload_n hX dJ1_indexOf_4cfef_30 rfl rfl ?_
      refine g_iload_n hX dJ1_indexOf_4cfef_31 rfl rfl ?_
      refine g_iload_n hX dJ1_indexOf_4cfef_32 rfl rfl ?_
      obtain ⟨r3, hr3, h⟩ := bd_some h
      refine g_callSi hX (c_J1_indexOfChar_4cfef ha0 _ _ _ hr3) mv_J1_indexOfChar_4cfef wm_621 (by decide) rfl rfl (Nat.le_of_ble_eq_true rfl) dJ1_indexOf_4cfef_33 ?_
      obtain rfl := Option.some.inj h
      exact g_iret hX rfl rfl dJ1_indexOf_4cfef_36
    · rw [if_neg q2] at h
      refine g_iconst hX dJ1_indexOf_4cfef_27 k_m1 ?_
      obtain rfl := Option.some.inj h
      exact g_iret hX rfl rfl dJ1_indexOf_4cfef_28
  · rw [if_pos q1] at h
    refine g_iconst hX dJ1_indexOf_4cfef_7 k_m1 ?_
    obtain rfl := Option.some.inj h
    exact g_iret hX rfl rfl dJ1_indexOf_4cfef_8
set_option maxRecDepth 100000 in
set_option maxHeartbeats 4000000 in
theorem c_J0_indexOf_7cf53 {l : Launch} {D : DT} {o : Nat} {μ : Mem} {r : Int32} (ho : o < 3) (v1 : Int32) (v2 : Int32) (h : f_J0_indexOf_7cf53 o v1 v2 = some r) : Ct l D true 3 yJ0_indexOf_7cf53 cJ0_indexOf_7cf53 3 (some FieldType.int) [.ref (D.1 (110 + o)), .int v1, .int v2] μ (some (.int r)) μ := by
  refine Ct.of (own := RJ0) (lc0 := [some (.ref (D.1 (110 + o))), some (.int v1), some (.int v2)]) pn_J0 rfl (Nat.le_of_ble_eq_true rfl) rfl mv_J0_indexOf_7cf53.2.2.2.1 (fun X hX => ?_)
  unfold f_J0_indexOf_7cf53 at h
  refine g_aload_n hX dJ0_indexOf_7cf53_0 rfl rfl ?_
  refine g_callVSi hX (c_J0_isLatin1_aae02 ho) mv_J0_isLatin1_aae02 wm_599 ho rfl (by decide) rfl rfl (Nat.le_of_ble_eq_true rfl) dJ0_indexOf_7cf53_1 ?_
  refine g_if_eq (tgt := 23) hX dJ0_indexOf_7cf53_4 (by decide) (fun q1 => ?_) (fun q1 => ?_)
  · rw [if_pos q1] at h
    refine g_aload_n hX dJ0_indexOf_7cf53_23 rfl rfl ?_
    refine g_sVal hX ho w_1458 dJ0_indexOf_7cf53_24 ?_
    refine g_iload_n hX dJ0_indexOf_7cf53_27 rfl rfl ?_
    refine g_iload_n hX dJ0_indexOf_7cf53_28 rfl rfl ?_
    refine g_aload_n hX dJ0_indexOf_7cf53_29 rfl rfl ?_
    refine g_callVSi hX (c_J0_length_8abf5 ho) mv_J0_length_8abf5 wm_605 ho rfl (by decide) rfl rfl (Nat.le_of_ble_eq_true rfl) dJ0_indexOf_7cf53_30 ?_
    exact absurd h (by simp)
  · rw [if_neg q1] at h
    refine g_aload_n hX dJ0_indexOf_7cf53_7 rfl rfl ?_
    refine g_sVal hX ho w_1458 dJ0_indexOf_7cf53_8 ?_
    refine g_iload_n hX dJ0_indexOf_7cf53_11 rfl rfl ?_
    refine g_iload_n hX dJ0_indexOf_7cf53_12 rfl rfl ?_
    refine g_aload_n hX dJ0_indexOf_7cf53_13 rfl rfl ?_
    refine g_callVSi hX (c_J0_length_8abf5 ho) mv_J0_length_8abf5 wm_605 ho rfl (by decide) rfl rfl (Nat.le_of_ble_eq_true rfl) dJ0_indexOf_7cf53_14 ?_
    obtain ⟨r2, hr2, h⟩ := bd_some h
    refine g_callSi hX (c_J1_indexOf_4cfef ho _ _ _ hr2) mv_J1_indexOf_4cfef wm_613 (by decide) rfl rfl (Nat.le_of_ble_eq_true rfl) dJ0_indexOf_7cf53_17 ?_
    refine g_goto (tgt := 36) hX dJ0_indexOf_7cf53_20 (by decide) ?_
    obtain rfl := Option.some.inj h
    exact g_iret hX rfl rfl dJ0_indexOf_7cf53_36
set_option maxRecDepth 100000 in
set_option maxHeartbeats 4000000 in
theorem c_J0_indexOf_0f7a4 {l : Launch} {D : DT} {o : Nat} {μ : Mem} {r : Int32} (ho : o < 3) (v1 : Int32) (h : f_J0_indexOf o v1 = some r) : Ct l D true 4 yJ0_indexOf_0f7a4 cJ0_indexOf_0f7a4 2 (some FieldType.int) [.ref (D.1 (110 + o)), .int v1] μ (some (.int r)) μ := by
  refine Ct.of (own := RJ0) (lc0 := [some (.ref (D.1 (110 + o))), some (.int v1)]) pn_J0 rfl (Nat.le_of_ble_eq_true rfl) rfl mv_J0_indexOf_0f7a4.2.2.2.1 (fun X hX => ?_)
  unfold f_J0_indexOf at h
  refine g_aload_n hX dJ0_indexOf_0f7a4_0 rfl rfl ?_
  refine g_iload_n hX dJ0_indexOf_0f7a4_1 rfl rfl ?_
  refine g_iconst hX dJ0_indexOf_0f7a4_2 k_0 ?_
  obtain ⟨r1, hr1, h⟩ := bd_some h
  refine g_callVSi hX (c_J0_indexOf_7cf53 ho _ _ hr1) mv_J0_indexOf_7cf53 wm_595 ho rfl (by decide) rfl rfl (Nat.le_of_ble_eq_true rfl) dJ0_indexOf_0f7a4_3 ?_
  obtain rfl := Option.some.inj h
  exact g_iret hX rfl rfl dJ0_indexOf_0f7a4_6
set_option maxRecDepth 100000 in
set_option maxHeartbeats 4000000 in
theorem c_J6_bitCount_0f7a4 {l : Launch} {D : DT} {μ : Mem} (v0 : Int32) : Ct l D true 1 yJ6_bitCount_0f7a4 cJ6_bitCount_0f7a4 1 (some FieldType.int) [.int v0] μ (some (.int (f_J6_bitCount v0))) μ := by
  obtain ⟨r, h⟩ : ∃ r, f_J6_bitCount v0 = r := ⟨_, rfl⟩
  rw [h]
  refine Ct.of (own := RJ6) (lc0 := [some (.int v0)]) pn_J6 rfl (Nat.le_of_ble_eq_true rfl) rfl mv_J6_bitCount_0f7a4.2.2.1 (fun X hX => ?_)
  unfold f_J6_bitCount at h
  refine g_iload_n hX dJ6_bitCount_0f7a4_0 rfl rfl ?_
  refine g_iload_n hX dJ6_bitCount_0f7a4_1 rfl rfl ?_
  refine g_iconst hX dJ6_bitCount_0f7a4_2 k_1 ?_
  refine g_iushr hX dJ6_bitCount_0f7a4_3 ?_
  refine g_ldcw hX dJ6_bitCount_0f7a4_4 wc_800 ?_
  refine g_iand hX dJ6_bitCount_0f7a4_7 ?_
  refine g_isub hX dJ6_bitCount_0f7a4_8 ?_
  refine g_istore_n (lc' := [some _]) hX dJ6_bitCount_0f7a4_9 rfl (by decide) rfl rfl ?_
  refine g_iload_n hX dJ6_bitCount_0f7a4_10 rfl rfl ?_
  refine g_ldcw hX dJ6_bitCount_0f7a4_11 wc_801 ?_
  refine g_iand hX dJ6_bitCount_0f7a4_14 ?_
  refine g_iload_n hX dJ6_bitCount_0f7a4_15 rfl rfl ?_
  refine g_iconst hX dJ6_bitCount_0f7a4_16 k_2 ?_
  refine g_iushr hX dJ6_bitCount_0f7a4_17 ?_
  refine g_ldcw hX dJ6_bitCount_0f7a4_18 wc_801 ?_
  refine g_iand hX dJ6_bitCount_0f7a4_21 ?_
  refine g_iadd hX dJ6_bitCount_0f7a4_22 ?_
  obtain ⟨x1, hx1, h⟩ := nm_some h
  refine g_istore_n' (lc' := [some _]) hX hx1 dJ6_bitCount_0f7a4_23 rfl (by decide) rfl rfl ?_
  refine g_iload_n hX dJ6_bitCount_0f7a4_24 rfl rfl ?_
  refine g_iload_n hX dJ6_bitCount_0f7a4_25 rfl rfl ?_
  refine g_iconst hX dJ6_bitCount_0f7a4_26 k_4 ?_
  refine g_iushr hX dJ6_bitCount_0f7a4_27 ?_
  refine g_iadd hX dJ6_bitCount_0f7a4_28 ?_
  refine g_ldcw hX dJ6_bitCount_0f7a4_29 wc_802 ?_
  refine g_iand hX dJ6_bitCount_0f7a4_32 ?_
  refine g_istore_n (lc' := [some _]) hX dJ6_bitCount_0f7a4_33 rfl (by decide) rfl rfl ?_
  refine g_iload_n hX dJ6_bitCount_0f7a4_34 rfl rfl ?_
  refine g_iload_n hX dJ6_bitCount_0f7a4_35 rfl rfl ?_
  refine g_bipush hX dJ6_bitCount_0f7a4_36 kb_8 ?_
  refine g_iushr hX dJ6_bitCount_0f7a4_38 ?_
  refine g_iadd hX dJ6_bitCount_0f7a4_39 ?_
  obtain ⟨x2, hx2, h⟩ := nm_some h
  refine g_istore_n' (lc' := [some _]) hX hx2 dJ6_bitCount_0f7a4_40 rfl (by decide) rfl rfl ?_
  refine g_iload_n hX dJ6_bitCount_0f7a4_41 rfl rfl ?_
  refine g_iload_n hX dJ6_bitCount_0f7a4_42 rfl rfl ?_
  refine g_bipush hX dJ6_bitCount_0f7a4_43 kb_16 ?_
  refine g_iushr hX dJ6_bitCount_0f7a4_45 ?_
  refine g_iadd hX dJ6_bitCount_0f7a4_46 ?_
  refine g_istore_n (lc' := [some _]) hX dJ6_bitCount_0f7a4_47 rfl (by decide) rfl rfl ?_
  refine g_iload_n hX dJ6_bitCount_0f7a4_48 rfl rfl ?_
  refine g_bipush hX dJ6_bitCount_0f7a4_49 kb_63 ?_
  refine g_iand hX dJ6_bitCount_0f7a4_51 ?_
  subst h
  exact g_iret hX rfl rfl dJ6_bitCount_0f7a4_52
set_option maxRecDepth 100000 in
set_option maxHeartbeats 4000000 in
theorem c_X1_take {l : Launch} {D : DT} {o : Nat} {a1 : Nat} {μ : Mem} {μ' : Mem} (ho : kd true o = 1) (ha1 : kd true a1 = 10) (v2 : Int32) (h : f_X1_take o a1 v2 μ = some μ') : Ct l D true 2 yX1_take cX1_take 3 none [.ref (D.1 o), .ref (D.1 a1), .int v2] μ none μ' := by
  refine Ct.of (own := RX1) (lc0 := [some (.ref (D.1 o)), some (.ref (D.1 a1)), some (.int v2)]) pn_X1 rfl (Nat.le_of_ble_eq_true rfl) rfl mv_X1_take.2.2.2.1 (fun X hX => ?_)
  unfold f_X1_take at h
  refine g_iload_n hX dX1_take_0 rfl rfl ?_
  refine g_if_lt (tgt := 19) hX dX1_take_1 (by decide) (fun q1 => ?_) (fun q1 => ?_)
  · rw [if_pos q1] at h
    obtain rfl := Option.some.inj h
    exact g_vret hX rfl dX1_take_19
  · rw [if_neg q1] at h
    refine g_iload_n hX dX1_take_4 rfl rfl ?_
    refine g_aload_n hX dX1_take_5 rfl rfl ?_
    refine g_getr hX ho fg_1_2 tf_1_2 w_125 (wo_1_2 ho) dX1_take_6 ?_
    refine g_alen hX (wk_1_2 ho).1 (wk_1_2 ho).2 len_60 dX1_take_9 ?_
    refine g_icmp_gt (tgt := 19) hX dX1_take_10 (by decide) (fun q2 => ?_) (fun q2 => ?_)
    · rw [if_pos q2] at h
      obtain rfl := Option.some.inj h
      exact g_vret hX rfl dX1_take_19
    · rw [if_neg q2] at h
      refine g_iload_n hX dX1_take_13 rfl rfl ?_
      refine g_aload_n hX dX1_take_14 rfl rfl ?_
      refine g_alen hX ha1 rfl rfl dX1_take_15 ?_
      refine g_icmp_le (tgt := 20) hX dX1_take_16 (by decide) (fun q3 => ?_) (fun q3 => ?_)
      · rw [if_pos q3] at h
        refine g_aload_n hX dX1_take_20 rfl rfl ?_
        refine g_iconst hX dX1_take_21 k_0 ?_
        refine g_aload_n hX dX1_take_22 rfl rfl ?_
        refine g_getr hX ho fg_1_2 tf_1_2 w_125 (wo_1_2 ho) dX1_take_23 ?_
        refine g_iconst hX dX1_take_26 k_0 ?_
        refine g_iload_n hX dX1_take_27 rfl rfl ?_
        obtain ⟨z4, h⟩ := ck_some h
        obtain ⟨μ5, hμ5, h⟩ := cpy_some h
        refine g_copyM hX cp_w wm_677 ha1 (wk_1_2 ho).1 z4 (Nat.le_of_ble_eq_true rfl) (by decide) dX1_take_28 hμ5 ?_
        refine g_aload_n hX dX1_take_31 rfl rfl ?_
        refine g_iload_n hX dX1_take_32 rfl rfl ?_
        obtain ⟨μ6, hμ6, h⟩ := wr_some h
        refine g_puti hX ho fg_1_4 tf_1_4 tyX1_ok nmX1 rfl w_127 dX1_take_33 hμ6 ?_
        obtain rfl := Option.some.inj h
        exact g_vret hX rfl dX1_take_36
      · rw [if_neg q3] at h
        obtain rfl := Option.some.inj h
        exact g_vret hX rfl dX1_take_19
set_option maxRecDepth 100000 in
set_option maxHeartbeats 4000000 in
theorem c_X1_copyOf {l : Launch} {D : DT} {o : Nat} {a1 : Nat} {μ : Mem} {μ' : Mem} (ho : kd true o = 1) (ha1 : kd true a1 = 1) (h : f_X1_copyOf o a1 μ = some μ') : Ct l D true 3 yX1_copyOf cX1_copyOf 2 none [.ref (D.1 o), .ref (D.1 a1)] μ none μ' := by
  refine Ct.of (own := RX1) (lc0 := [some (.ref (D.1 o)), some (.ref (D.1 a1))]) pn_X1 rfl (Nat.le_of_ble_eq_true rfl) rfl mv_X1_copyOf.2.2.2.1 (fun X hX => ?_)
  unfold f_X1_copyOf at h
  refine g_aload_n hX dX1_copyOf_0 rfl rfl ?_
  refine g_aload_n hX dX1_copyOf_1 rfl rfl ?_
  refine g_getr hX ha1 fg_1_2 tf_1_2 w_125 (wo_1_2 ha1) dX1_copyOf_2 ?_
  refine g_aload_n hX dX1_copyOf_5 rfl rfl ?_
  refine g_geti hX ha1 fg_1_4 tf_1_4 w_127 dX1_copyOf_6 ?_
  obtain ⟨μ1, hμ1, h⟩ := bd_some h
  refine g_callVv hX (c_X1_take ho (wk_1_2 ha1).1 _ hμ1) mv_X1_take wm_930 ho rfl (by decide) (by decide) rfl rfl (Nat.le_of_ble_eq_true rfl) dX1_copyOf_9 ?_
  obtain rfl := Option.some.inj h
  exact g_vret hX rfl dX1_copyOf_12
set_option maxRecDepth 100000 in
set_option maxHeartbeats 4000000 in
theorem c_X2_copyOf {l : Launch} {D : DT} {o : Nat} {a1 : Nat} {μ : Mem} {μ' : Mem} (ho : kd true o = 2) (ha1 : kd true a1 = 2) (h : f_X2_copyOf o a1 μ = some μ') : Ct l D true 2 yX2_copyOf cX2_copyOf 2 none [.ref (D.1 o), .ref (D.1 a1)] μ none μ' := by
  refine Ct.of (own := RX2) (lc0 := [some (.ref (D.1 o)), some (.ref (D.1 a1))]) pn_X2 rfl (Nat.le_of_ble_eq_true rfl) rfl mv_X2_copyOf.2.2.2.1 (fun X hX => ?_)
  unfold f_X2_copyOf at h
  refine g_aload_n hX dX2_copyOf_0 rfl rfl ?_
  refine g_getr hX ha1 fg_2_2 tf_2_2 w_151 (wo_2_2 ha1) dX2_copyOf_1 ?_
  refine g_iconst hX dX2_copyOf_4 k_0 ?_
  refine g_aload_n hX dX2_copyOf_5 rfl rfl ?_
  refine g_getr hX ho fg_2_2 tf_2_2 w_151 (wo_2_2 ho) dX2_copyOf_6 ?_
  refine g_iconst hX dX2_copyOf_9 k_0 ?_
  refine g_bipush hX dX2_copyOf_10 kb_6 ?_
  obtain ⟨z1, h⟩ := ck_some h
  obtain ⟨μ2, hμ2, h⟩ := cpy_some h
  refine g_copyM hX cp_w wm_753 (wk_2_2 ha1).1 (wk_2_2 ho).1 z1 (Nat.le_of_ble_eq_true rfl) (by decide) dX2_copyOf_12 hμ2 ?_
  refine g_aload_n hX dX2_copyOf_15 rfl rfl ?_
  refine g_getr hX ha1 fg_2_3 tf_2_3 w_153 (wo_2_3 ha1) dX2_copyOf_16 ?_
  refine g_iconst hX dX2_copyOf_19 k_0 ?_
  refine g_aload_n hX dX2_copyOf_20 rfl rfl ?_
  refine g_getr hX ho fg_2_3 tf_2_3 w_153 (wo_2_3 ho) dX2_copyOf_21 ?_
  refine g_iconst hX dX2_copyOf_24 k_0 ?_
  refine g_bipush hX dX2_copyOf_25 kb_6 ?_
  obtain ⟨z3, h⟩ := ck_some h
  obtain ⟨μ4, hμ4, h⟩ := cpy_some h
  refine g_copyM hX cp_w wm_753 (wk_2_3 ha1).1 (wk_2_3 ho).1 z3 (Nat.le_of_ble_eq_true rfl) (by decide) dX2_copyOf_27 hμ4 ?_
  refine g_aload_n hX dX2_copyOf_30 rfl rfl ?_
  refine g_getr hX ha1 fg_2_4 tf_2_4 w_155 (wo_2_4 ha1) dX2_copyOf_31 ?_
  refine g_iconst hX dX2_copyOf_34 k_0 ?_
  refine g_aload_n hX dX2_copyOf_35 rfl rfl ?_
  refine g_getr hX ho fg_2_4 tf_2_4 w_155 (wo_2_4 ho) dX2_copyOf_36 ?_
  refine g_iconst hX dX2_copyOf_39 k_0 ?_
  refine g_bipush hX dX2_copyOf_40 kb_9 ?_
  obtain ⟨z5, h⟩ := ck_some h
  obtain ⟨μ6, hμ6, h⟩ := cpy_some h
  refine g_copyM hX cp_w wm_753 (wk_2_4 ha1).1 (wk_2_4 ho).1 z5 (Nat.le_of_ble_eq_true rfl) (by decide) dX2_copyOf_42 hμ6 ?_
  refine g_aload_n hX dX2_copyOf_45 rfl rfl ?_
  refine g_getr hX ha1 fg_2_5 tf_2_5 w_157 (wo_2_5 ha1) dX2_copyOf_46 ?_
  refine g_iconst hX dX2_copyOf_49 k_0 ?_
  refine g_aload_n hX dX2_copyOf_50 rfl rfl ?_
  refine g_getr hX ho fg_2_5 tf_2_5 w_157 (wo_2_5 ho) dX2_copyOf_51 ?_
  refine g_iconst hX dX2_copyOf_54 k_0 ?_
  refine g_bipush hX dX2_copyOf_55 kb_9 ?_
  obtain ⟨z7, h⟩ := ck_some h
  obtain ⟨μ8, hμ8, h⟩ := cpy_some h
  refine g_copyM hX cp_w wm_753 (wk_2_5 ha1).1 (wk_2_5 ho).1 z7 (Nat.le_of_ble_eq_true rfl) (by decide) dX2_copyOf_57 hμ8 ?_
  refine g_aload_n hX dX2_copyOf_60 rfl rfl ?_
  refine g_getr hX ha1 fg_2_6 tf_2_6 w_159 (wo_2_6 ha1) dX2_copyOf_61 ?_
  refine g_iconst hX dX2_copyOf_64 k_0 ?_
  refine g_aload_n hX dX2_copyOf_65 rfl rfl ?_
  refine g_getr hX ho fg_2_6 tf_2_6 w_159 (wo_2_6 ho) dX2_copyOf_66 ?_
  refine g_iconst hX dX2_copyOf_69 k_0 ?_
  refine g_bipush hX dX2_copyOf_70 kb_9 ?_
  obtain ⟨z9, h⟩ := ck_some h
  obtain ⟨μ10, hμ10, h⟩ := cpy_some h
  refine g_copyM hX cp_w wm_753 (wk_2_6 ha1).1 (wk_2_6 ho).1 z9 (Nat.le_of_ble_eq_true rfl) (by decide) dX2_copyOf_72 hμ10 ?_
  refine g_aload_n hX dX2_copyOf_75 rfl rfl ?_
  refine g_getr hX ha1 fg_2_7 tf_2_7 w_161 (wo_2_7 ha1) dX2_copyOf_76 ?_
  refine g_iconst hX dX2_copyOf_79 k_0 ?_
  refine g_aload_n hX dX2_copyOf_80 rfl rfl ?_
  refine g_getr hX ho fg_2_7 tf_2_7 w_161 (wo_2_7 ho) dX2_copyOf_81 ?_
  refine g_iconst hX dX2_copyOf_84 k_0 ?_
  refine g_bipush hX dX2_copyOf_85 kb_9 ?_
  obtain ⟨z11, h⟩ := ck_some h
  obtain ⟨μ12, hμ12, h⟩ := cpy_some h
  refine g_copyM hX cp_w wm_753 (wk_2_7 ha1).1 (wk_2_7 ho).1 z11 (Nat.le_of_ble_eq_true rfl) (by decide) dX2_copyOf_87 hμ12 ?_
  refine g_aload_n hX dX2_copyOf_90 rfl rfl ?_
  refine g_getr hX ha1 fg_2_8 tf_2_8 w_165 (wo_2_8 ha1) dX2_copyOf_91 ?_
  refine g_iconst hX dX2_copyOf_94 k_0 ?_
  refine g_aload_n hX dX2_copyOf_95 rfl rfl ?_
  refine g_getr hX ho fg_2_8 tf_2_8 w_165 (wo_2_8 ho) dX2_copyOf_96 ?_
  refine g_iconst hX dX2_copyOf_99 k_0 ?_
  refine g_bipush hX dX2_copyOf_100 kb_6 ?_
  obtain ⟨z13, h⟩ := ck_some h
  obtain ⟨μ14, hμ14, h⟩ := cpy_some h
  refine g_copyM hX cp_w wm_753 (wk_2_8 ha1).1 (wk_2_8 ho).1 z13 (Nat.le_of_ble_eq_true rfl) (by decide) dX2_copyOf_102 hμ14 ?_
  refine g_aload_n hX dX2_copyOf_105 rfl rfl ?_
  refine g_getr hX ha1 fg_2_9 tf_2_9 w_167 (wo_2_9 ha1) dX2_copyOf_106 ?_
  refine g_iconst hX dX2_copyOf_109 k_0 ?_
  refine g_aload_n hX dX2_copyOf_110 rfl rfl ?_
  refine g_getr hX ho fg_2_9 tf_2_9 w_167 (wo_2_9 ho) dX2_copyOf_111 ?_
  refine g_iconst hX dX2_copyOf_114 k_0 ?_
  refine g_bipush hX dX2_copyOf_115 kb_7 ?_
  obtain ⟨z15, h⟩ := ck_some h
  obtain ⟨μ16, hμ16, h⟩ := cpy_some h
  refine g_copyM hX cp_w wm_753 (wk_2_9 ha1).1 (wk_2_9 ho).1 z15 (Nat.le_of_ble_eq_true rfl) (by decide) dX2_copyOf_117 hμ16 ?_
  refine g_aload_n hX dX2_copyOf_120 rfl rfl ?_
  refine g_aload_n hX dX2_copyOf_121 rfl rfl ?_
  refine g_geti hX ha1 fg_2_10 tf_2_10 w_172 dX2_copyOf_122 ?_
  obtain ⟨μ17, hμ17, h⟩ := wr_some h
  refine g_puti hX ho fg_2_10 tf_2_10 tyX2_ok nmX2 rfl w_172 dX2_copyOf_125 hμ17 ?_
  refine g_aload_n hX dX2_copyOf_128 rfl rfl ?_
  refine g_aload_n hX dX2_copyOf_129 rfl rfl ?_
  refine g_geti hX ha1 fg_2_11 tf_2_11 w_175 dX2_copyOf_130 ?_
  obtain ⟨μ18, hμ18, h⟩ := wr_some h
  refine g_puti hX ho fg_2_11 tf_2_11 tyX2_ok nmX2 rfl w_175 dX2_copyOf_133 hμ18 ?_
  refine g_aload_n hX dX2_copyOf_136 rfl rfl ?_
  refine g_aload_n hX dX2_copyOf_137 rfl rfl ?_
  refine g_geti hX ha1 fg_2_12 tf_2_12 w_178 dX2_copyOf_138 ?_
  obtain ⟨μ19, hμ19, h⟩ := wr_some h
  refine g_puti hX ho fg_2_12 tf_2_12 tyX2_ok nmX2 rfl w_178 dX2_copyOf_141 hμ19 ?_
  refine g_aload_n hX dX2_copyOf_144 rfl rfl ?_
  refine g_aload_n hX dX2_copyOf_145 rfl rfl ?_
  refine g_geti hX ha1 fg_2_13 tf_2_13 w_180 dX2_copyOf_146 ?_
  obtain ⟨μ20, hμ20, h⟩ := wr_some h
  refine g_puti hX ho fg_2_13 tf_2_13 tyX2_ok nmX2 rfl w_180 dX2_copyOf_149 hμ20 ?_
  refine g_aload_n hX dX2_copyOf_152 rfl rfl ?_
  refine g_aload_n hX dX2_copyOf_153 rfl rfl ?_
  refine g_geti hX ha1 fg_2_14 tf_2_14 w_182 dX2_copyOf_154 ?_
  obtain ⟨μ21, hμ21, h⟩ := wr_some h
  refine g_puti hX ho fg_2_14 tf_2_14 tyX2_ok nmX2 rfl w_182 dX2_copyOf_157 hμ21 ?_
  obtain rfl := Option.some.inj h
  exact g_vret hX rfl dX2_copyOf_160
set_option maxRecDepth 100000 in
set_option maxHeartbeats 4000000 in
theorem c_X7_copyOf {l : Launch} {D : DT} {o : Nat} {a1 : Nat} {μ : Mem} {μ' : Mem} (ho : kd true o = 7) (ha1 : kd true a1 = 7) (h : f_X7_copyOf o a1 μ = some μ') : Ct l D true 2 yX7_copyOf cX7_copyOf 2 none [.ref (D.1 o), .ref (D.1 a1)] μ none μ' := by
  refine Ct.of (own := RX7) (lc0 := [some (.ref (D.1 o)), some (.ref (D.1 a1))]) pn_X7 rfl (Nat.le_of_ble_eq_true rfl) rfl mv_X7_copyOf.2.2.2.1 (fun X hX => ?_)
  unfold f_X7_copyOf at h
  refine g_aload_n hX dX7_copyOf_0 rfl rfl ?_
  refine g_getr hX ha1 fg_7_0 tf_7_0 w_221 (wo_7_0 ha1) dX7_copyOf_1 ?_
  refine g_iconst hX dX7_copyOf_4 k_0 ?_
  refine g_aload_n hX dX7_copyOf_5 rfl rfl ?_
  refine g_getr hX ho fg_7_0 tf_7_0 w_221 (wo_7_0 ho) dX7_copyOf_6 ?_
  refine g_iconst hX dX7_copyOf_9 k_0 ?_
  refine g_bipush hX dX7_copyOf_10 kb_60 ?_
  obtain ⟨z1, h⟩ := ck_some h
  obtain ⟨μ2, hμ2, h⟩ := cpy_some h
  refine g_copyBM hX cp_w wm_936 (wk_7_0 ha1).1 (wk_7_0 ho).1 z1 (Nat.le_of_ble_eq_true rfl) (by decide) dX7_copyOf_12 hμ2 ?_
  refine g_aload_n hX dX7_copyOf_15 rfl rfl ?_
  refine g_aload_n hX dX7_copyOf_16 rfl rfl ?_
  refine g_geti hX ha1 fg_7_1 tf_7_1 w_223 dX7_copyOf_17 ?_
  obtain ⟨μ3, hμ3, h⟩ := wr_some h
  refine g_puti hX ho fg_7_1 tf_7_1 tyX7_ok nmX7 rfl w_223 dX7_copyOf_20 hμ3 ?_
  obtain rfl := Option.some.inj h
  exact g_vret hX rfl dX7_copyOf_23
set_option maxRecDepth 100000 in
set_option maxHeartbeats 4000000 in
theorem c_X0_copyOf {l : Launch} {D : DT} {o : Nat} {a1 : Nat} {μ : Mem} {μ' : Mem} (ho : kd true o = 0) (ha1 : kd true a1 = 0) (h : f_X0_copyOf o a1 μ = some μ') : Ct l D true 4 yX0_copyOf cX0_copyOf 2 none [.ref (D.1 o), .ref (D.1 a1)] μ none μ' := by
  refine Ct.of (own := RX0) (lc0 := [some (.ref (D.1 o)), some (.ref (D.1 a1))]) pn_X0 rfl (Nat.le_of_ble_eq_true rfl) rfl mv_X0_copyOf.2.2.2.1 (fun X hX => ?_)
  unfold f_X0_copyOf at h
  refine g_aload_n hX dX0_copyOf_0 rfl rfl ?_
  refine g_getr hX ho fg_0_0 tf_0_0 w_231 (wo_0_0 ho) dX0_copyOf_1 ?_
  refine g_aload_n hX dX0_copyOf_4 rfl rfl ?_
  refine g_getr hX ha1 fg_0_0 tf_0_0 w_231 (wo_0_0 ha1) dX0_copyOf_5 ?_
  obtain ⟨μ1, hμ1, h⟩ := bd_some h
  refine g_callVv hX (c_X1_copyOf (wk_0_0 ho) (wk_0_0 ha1) hμ1) mv_X1_copyOf wm_926 (wk_0_0 ho) rfl (by decide) (by decide) rfl rfl (Nat.le_of_ble_eq_true rfl) dX0_copyOf_8 ?_
  refine g_aload_n hX dX0_copyOf_11 rfl rfl ?_
  refine g_getr hX ho fg_0_1 tf_0_1 w_233 (wo_0_1 ho) dX0_copyOf_12 ?_
  refine g_aload_n hX dX0_copyOf_15 rfl rfl ?_
  refine g_getr hX ha1 fg_0_1 tf_0_1 w_233 (wo_0_1 ha1) dX0_copyOf_16 ?_
  obtain ⟨μ2, hμ2, h⟩ := bd_some h
  refine g_callVv hX (c_X1_copyOf (wk_0_1 ho) (wk_0_1 ha1) hμ2) mv_X1_copyOf wm_926 (wk_0_1 ho) rfl (by decide) (by decide) rfl rfl (Nat.le_of_ble_eq_true rfl) dX0_copyOf_19 ?_
  refine g_aload_n hX dX0_copyOf_22 rfl rfl ?_
  refine g_getr hX ho fg_0_2 tf_0_2 w_235 (wo_0_2 ho) dX0_copyOf_23 ?_
  refine g_aload_n hX dX0_copyOf_26 rfl rfl ?_
  refine g_getr hX ha1 fg_0_2 tf_0_2 w_235 (wo_0_2 ha1) dX0_copyOf_27 ?_
  obtain ⟨μ3, hμ3, h⟩ := bd_some h
  refine g_callVv hX (c_X2_copyOf (wk_0_2 ho) (wk_0_2 ha1) hμ3) mv_X2_copyOf wm_931 (wk_0_2 ho) rfl (by decide) (by decide) rfl rfl (Nat.le_of_ble_eq_true rfl) dX0_copyOf_30 ?_
  refine g_aload_n hX dX0_copyOf_33 rfl rfl ?_
  refine g_getr hX ho fg_0_3 tf_0_3 w_237 (wo_0_3 ho) dX0_copyOf_34 ?_
  refine g_aload_n hX dX0_copyOf_37 rfl rfl ?_
  refine g_getr hX ha1 fg_0_3 tf_0_3 w_237 (wo_0_3 ha1) dX0_copyOf_38 ?_
  obtain ⟨μ4, hμ4, h⟩ := bd_some h
  refine g_callVv hX (c_X7_copyOf (wk_0_3 ho) (wk_0_3 ha1) hμ4) mv_X7_copyOf wm_932 (wk_0_3 ho) rfl (by decide) (by decide) rfl rfl (Nat.le_of_ble_eq_true rfl) dX0_copyOf_41 ?_
  refine g_aload_n hX dX0_copyOf_44 rfl rfl ?_
  refine g_getr hX ha1 fg_0_4 tf_0_4 w_239 (wo_0_4 ha1) dX0_copyOf_45 ?_
  refine g_iconst hX dX0_copyOf_48 k_0 ?_
  refine g_aload_n hX dX0_copyOf_49 rfl rfl ?_
  refine g_getr hX ho fg_0_4 tf_0_4 w_239 (wo_0_4 ho) dX0_copyOf_50 ?_
  refine g_iconst hX dX0_copyOf_53 k_0 ?_
  refine g_bipush hX dX0_copyOf_54 kb_24 ?_
  obtain ⟨z5, h⟩ := ck_some h
  obtain ⟨μ6, hμ6, h⟩ := cpy_some h
  refine g_copyM hX cp_w wm_937 (wk_0_4 ha1).1 (wk_0_4 ho).1 z5 (Nat.le_of_ble_eq_true rfl) (by decide) dX0_copyOf_56 hμ6 ?_
  refine g_aload_n hX dX0_copyOf_59 rfl rfl ?_
  refine g_aload_n hX dX0_copyOf_60 rfl rfl ?_
  refine g_geti hX ha1 fg_0_5 tf_0_5 w_241 dX0_copyOf_61 ?_
  obtain ⟨μ7, hμ7, h⟩ := wr_some h
  refine g_puti hX ho fg_0_5 tf_0_5 tyX0_ok nmX0 rfl w_241 dX0_copyOf_64 hμ7 ?_
  refine g_aload_n hX dX0_copyOf_67 rfl rfl ?_
  refine g_aload_n hX dX0_copyOf_68 rfl rfl ?_
  refine g_geti hX ha1 fg_0_6 tf_0_6 w_243 dX0_copyOf_69 ?_
  obtain ⟨μ8, hμ8, h⟩ := wr_some h
  refine g_puti hX ho fg_0_6 tf_0_6 tyX0_ok nmX0 rfl w_243 dX0_copyOf_72 hμ8 ?_
  obtain rfl := Option.some.inj h
  exact g_vret hX rfl dX0_copyOf_75
set_option maxRecDepth 100000 in
set_option maxHeartbeats 4000000 in
theorem c_X2_isOne {l : Launch} {D : DT} {o : Nat} {μ : Mem} (ho : kd true o = 2) (v1 : Int32) : Ct l D true 1 yX2_isOne cX2_isOne 2 (some FieldType.boolean) [.ref (D.1 o), .int v1] μ (some (.int (f_X2_isOne o v1 μ))) μ := by
  obtain ⟨r, h⟩ : ∃ r, f_X2_isOne o v1 μ = r := ⟨_, rfl⟩
  rw [h]
  refine Ct.of (own := RX2) (lc0 := [some (.ref (D.1 o)), some (.int v1)]) pn_X2 rfl (Nat.le_of_ble_eq_true rfl) rfl mv_X2_isOne.2.2.2.1 (fun X hX => ?_)
  unfold f_X2_isOne at h
  refine g_iload_n hX dX2_isOne_0 rfl rfl ?_
  refine g_if_lt (tgt := 22) hX dX2_isOne_1 (by decide) (fun q1 => ?_) (fun q1 => ?_)
  · rw [if_pos q1] at h
    refine g_iconst hX dX2_isOne_22 k_0 ?_
    subst h
    exact g_iret hX rfl rfl dX2_isOne_23
  · rw [if_neg q1] at h
    refine g_iload_n hX dX2_isOne_4 rfl rfl ?_
    refine g_aload_n hX dX2_isOne_5 rfl rfl ?_
    refine g_geti hX ho fg_2_10 tf_2_10 w_172 dX2_isOne_6 ?_
    refine g_icmp_ge (tgt := 22) hX dX2_isOne_9 (by decide) (fun q2 => ?_) (fun q2 => ?_)
    · rw [if_pos q2] at h
      refine g_iconst hX dX2_isOne_22 k_0 ?_
      subst h
      exact g_iret hX rfl rfl dX2_isOne_23
    · rw [if_neg q2] at h
      refine g_iload_n hX dX2_isOne_12 rfl rfl ?_
      refine g_bipush hX dX2_isOne_13 kb_6 ?_
      refine g_icmp_ge (tgt := 22) hX dX2_isOne_15 (by decide) (fun q3 => ?_) (fun q3 => ?_)
      · rw [if_pos q3] at h
        refine g_iconst hX dX2_isOne_22 k_0 ?_
        subst h
        exact g_iret hX rfl rfl dX2_isOne_23
      · rw [if_neg q3] at h
        refine g_iconst hX dX2_isOne_18 k_1 ?_
        refine g_goto (tgt := 23) hX dX2_isOne_19 (by decide) ?_
        subst h
        exact g_iret hX rfl rfl dX2_isOne_23
set_option maxRecDepth 100000 in
set_option maxHeartbeats 4000000 in
theorem c_X2_isGate {l : Launch} {D : DT} {o : Nat} {μ : Mem} (ho : kd true o = 2) (v1 : Int32) : Ct l D true 1 yX2_isGate cX2_isGate 2 (some FieldType.boolean) [.ref (D.1 o), .int v1] μ (some (.int (f_X2_isGate o v1 μ))) μ := by
  obtain ⟨r, h⟩ : ∃ r, f_X2_isGate o v1 μ = r := ⟨_, rfl⟩
  rw [h]
  refine Ct.of (own := RX2) (lc0 := [some (.ref (D.1 o)), some (.int v1)]) pn_X2 rfl (Nat.le_of_ble_eq_true rfl) rfl mv_X2_isGate.2.2.2.1 (fun X hX => ?_)
  unfold f_X2_isGate at h
  refine g_iload_n hX dX2_isGate_0 rfl rfl ?_
  refine g_if_lt (tgt := 22) hX dX2_isGate_1 (by decide) (fun q1 => ?_) (fun q1 => ?_)
  · rw [if_pos q1] at h
    refine g_iconst hX dX2_isGate_22 k_0 ?_
    subst h
    exact g_iret hX rfl rfl dX2_isGate_23
  · rw [if_neg q1] at h
    refine g_iload_n hX dX2_isGate_4 rfl rfl ?_
    refine g_aload_n hX dX2_isGate_5 rfl rfl ?_
    refine g_geti hX ho fg_2_11 tf_2_11 w_175 dX2_isGate_6 ?_
    refine g_icmp_ge (tgt := 22) hX dX2_isGate_9 (by decide) (fun q2 => ?_) (fun q2 => ?_)
    · rw [if_pos q2] at h
      refine g_iconst hX dX2_isGate_22 k_0 ?_
      subst h
      exact g_iret hX rfl rfl dX2_isGate_23
    · rw [if_neg q2] at h
      refine g_iload_n hX dX2_isGate_12 rfl rfl ?_
      refine g_bipush hX dX2_isGate_13 kb_9 ?_
      refine g_icmp_ge (tgt := 22) hX dX2_isGate_15 (by decide) (fun q3 => ?_) (fun q3 => ?_)
      · rw [if_pos q3] at h
        refine g_iconst hX dX2_isGate_22 k_0 ?_
        subst h
        exact g_iret hX rfl rfl dX2_isGate_23
      · rw [if_neg q3] at h
        refine g_iconst hX dX2_isGate_18 k_1 ?_
        refine g_goto (tgt := 23) hX dX2_isGate_19 (by decide) ?_
        subst h
        exact g_iret hX rfl rfl dX2_isGate_23
set_option maxRecDepth 100000 in
set_option maxHeartbeats 4000000 in
theorem c_X2_cost {l : Launch} {D : DT} {o : Nat} {μ : Mem} {r : Int32} (ho : kd true o = 2) (v1 : Int32) (v2 : Int32) (h : f_X2_cost o v1 v2 μ = some r) : Ct l D true 1 yX2_cost cX2_cost 4 (some FieldType.int) [.ref (D.1 o), .int v1, .int v2] μ (some (.int r)) μ := by
  refine Ct.of (own := RX2) (lc0 := [some (.ref (D.1 o)), some (.int v1), some (.int v2), none]) pn_X2 rfl (Nat.le_of_ble_eq_true rfl) rfl mv_X2_cost.2.2.2.1 (fun X hX => ?_)
  unfold f_X2_cost at h
  refine g_aload_n hX dX2_cost_0 rfl rfl ?_
  refine g_getr hX ho fg_2_6 tf_2_6 w_159 (wo_2_6 ho) dX2_cost_1 ?_
  refine g_iload_n hX dX2_cost_4 rfl rfl ?_
  obtain ⟨z1, h⟩ := ck_some h
  refine g_iald hX (wk_2_6 ho).1 (wk_2_6 ho).2 z1 dX2_cost_5 ?_
  refine g_istore_n (lc' := [some _, some _, some _, some _]) hX dX2_cost_6 rfl (by decide) rfl rfl ?_
  refine g_aload_n hX dX2_cost_7 rfl rfl ?_
  refine g_getr hX ho fg_2_2 tf_2_2 w_151 (wo_2_2 ho) dX2_cost_8 ?_
  refine g_iload_n hX dX2_cost_11 rfl rfl ?_
  obtain ⟨z2, h⟩ := ck_some h
  refine g_iald hX (wk_2_2 ho).1 (wk_2_2 ho).2 z2 dX2_cost_12 ?_
  by_cases q3 : (μ (o + 1) (ix v1)) = 1
  · rw [if_pos q3] at h
    refine g_tsIn (tgt := 52) (off := 39) hX dX2_cost_13 (by rw [q3] <;> decide) (by rw [q3] <;> decide) (by rw [q3] <;> rfl) (by decide) ?_
    refine g_iload_n hX dX2_cost_52 rfl rfl ?_
    refine g_iconst hX dX2_cost_53 k_1 ?_
    refine g_iadd hX dX2_cost_54 ?_
    obtain rfl := Option.some.inj h
    exact g_iret hX rfl rfl dX2_cost_55
  rw [if_neg q3] at h
  have eq3_1 := ts_ne (c := 1) (k := 1) q3 (by decide)
  by_cases q4 : (μ (o + 1) (ix v1)) = 2
  · rw [if_pos q4] at h
    refine g_tsIn (tgt := 56) (off := 43) hX dX2_cost_13 (by rw [q4] <;> decide) (by rw [q4] <;> decide) (by rw [q4] <;> rfl) (by decide) ?_
    refine g_iconst hX dX2_cost_56 k_2 ?_
    refine g_iload_n hX dX2_cost_57 rfl rfl ?_
    refine g_imul hX dX2_cost_58 ?_
    obtain rfl := Option.some.inj h
    exact g_iret hX rfl rfl dX2_cost_59
  rw [if_neg q4] at h
  have eq4_2 := ts_ne (c := 2) (k := 2) q4 (by decide)
  by_cases q5 : (μ (o + 1) (ix v1)) = 4
  · rw [if_pos q5] at h
    refine g_tsIn (tgt := 60) (off := 47) hX dX2_cost_13 (by rw [q5] <;> decide) (by rw [q5] <;> decide) (by rw [q5] <;> rfl) (by decide) ?_
    refine g_iload_n hX dX2_cost_60 rfl rfl ?_
    refine g_iconst hX dX2_cost_61 k_1 ?_
    refine g_iadd hX dX2_cost_62 ?_
    refine g_iload_n hX dX2_cost_63 rfl rfl ?_
    refine g_iconst hX dX2_cost_64 k_2 ?_
    refine g_idiv hX (by decide) dX2_cost_65 ?_
    refine g_isub hX dX2_cost_66 ?_
    obtain rfl := Option.some.inj h
    exact g_iret hX rfl rfl dX2_cost_67
  rw [if_neg q5] at h
  have eq5_4 := ts_ne (c := 4) (k := 4) q5 (by decide)
  by_cases q6 : (μ (o + 1) (ix v1)) = 5
  · rw [if_pos q6] at h
    refine g_tsIn (tgt := 68) (off := 55) hX dX2_cost_13 (by rw [q6] <;> decide) (by rw [q6] <;> decide) (by rw [q6] <;> rfl) (by decide) ?_
    refine g_aload_n hX dX2_cost_68 rfl rfl ?_
    refine g_getr hX ho fg_2_7 tf_2_7 w_161 (wo_2_7 ho) dX2_cost_69 ?_
    refine g_iload_n hX dX2_cost_72 rfl rfl ?_
    obtain ⟨z7, h⟩ := ck_some h
    refine g_iald hX (wk_2_7 ho).1 (wk_2_7 ho).2 z7 dX2_cost_73 ?_
    refine g_iconst hX dX2_cost_74 k_m1 ?_
    refine g_icmp_ne (tgt := 82) hX dX2_cost_75 (by decide) (fun q8 => ?_) (fun q8 => ?_)
    · rw [if_neg q8] at h
      refine g_iconst hX dX2_cost_82 k_2 ?_
      refine g_iload_n hX dX2_cost_83 rfl rfl ?_
      refine g_imul hX dX2_cost_84 ?_
      obtain rfl := Option.some.inj h
      exact g_iret hX rfl rfl dX2_cost_85
    · rw [if_pos q8] at h
      refine g_iconst hX dX2_cost_78 k_0 ?_
      refine g_goto (tgt := 85) hX dX2_cost_79 (by decide) ?_
      obtain rfl := Option.some.inj h
      exact g_iret hX rfl rfl dX2_cost_85
  rw [if_neg q6] at h
  have eq6_5 := ts_ne (c := 5) (k := 5) q6 (by decide)
  by_cases q9 : (μ (o + 1) (ix v1)) = 6
  · rw [if_pos q9] at h
    refine g_tsIn (tgt := 86) (off := 73) hX dX2_cost_13 (by rw [q9] <;> decide) (by rw [q9] <;> decide) (by rw [q9] <;> rfl) (by decide) ?_
    refine g_iload_n hX dX2_cost_86 rfl rfl ?_
    refine g_iload_n hX dX2_cost_87 rfl rfl ?_
    refine g_iconst hX dX2_cost_88 k_3 ?_
    refine g_irem hX (by decide) dX2_cost_89 ?_
    refine g_iadd hX dX2_cost_90 ?_
    obtain rfl := Option.some.inj h
    exact g_iret hX rfl rfl dX2_cost_91
  rw [if_neg q9] at h
  have eq9_6 := ts_ne (c := 6) (k := 6) q9 (by decide)
  refine g_tsD (tgt := 92) hX dX2_cost_13 ?_ (by decide) ?_
  · by_cases e3 : ((μ (o + 1) (ix v1)) : Int32).toInt = 3
    · exact Or.inr ⟨by omega, by omega, by rw [e3]; rfl⟩
    exact Or.inl (by omega)
  refine g_iload_n hX dX2_cost_92 rfl rfl ?_
  obtain rfl := Option.some.inj h
  exact g_iret hX rfl rfl dX2_cost_93
set_option maxRecDepth 100000 in
set_option maxHeartbeats 4000000 in
theorem c_X1_isTold {l : Launch} {D : DT} {o : Nat} {μ : Mem} (ho : kd true o = 1) : Ct l D true 1 yX1_isTold cX1_isTold 1 (some FieldType.boolean) [.ref (D.1 o)] μ (some (.int (f_X1_isTold o μ))) μ := by
  obtain ⟨r, h⟩ : ∃ r, f_X1_isTold o μ = r := ⟨_, rfl⟩
  rw [h]
  refine Ct.of (own := RX1) (lc0 := [some (.ref (D.1 o))]) pn_X1 rfl (Nat.le_of_ble_eq_true rfl) rfl mv_X1_isTold.2.2.2.1 (fun X hX => ?_)
  unfold f_X1_isTold at h
  refine g_aload_n hX dX1_isTold_0 rfl rfl ?_
  refine g_geti hX ho fg_1_4 tf_1_4 w_127 dX1_isTold_1 ?_
  refine g_if_le (tgt := 11) hX dX1_isTold_4 (by decide) (fun q1 => ?_) (fun q1 => ?_)
  · rw [if_pos q1] at h
    refine g_iconst hX dX1_isTold_11 k_0 ?_
    subst h
    exact g_iret hX rfl rfl dX1_isTold_12
  · rw [if_neg q1] at h
    refine g_iconst hX dX1_isTold_7 k_1 ?_
    refine g_goto (tgt := 12) hX dX1_isTold_8 (by decide) ?_
    subst h
    exact g_iret hX rfl rfl dX1_isTold_12
set_option maxRecDepth 100000 in
set_option maxHeartbeats 4000000 in
theorem c_X1_meant {l : Launch} {D : DT} {μ : Mem} (v0 : Int32) (v1 : Int32) (v2 : Int32) (v3 : Int32) : Ct l D true 1 yX1_meant cX1_meant 4 (some FieldType.int) [.int v0, .int v1, .int v2, .int v3] μ (some (.int (f_X1_meant v0 v1 v2 v3))) μ := by
  obtain ⟨r, h⟩ : ∃ r, f_X1_meant v0 v1 v2 v3 = r := ⟨_, rfl⟩
  rw [h]
  refine Ct.of (own := RX1) (lc0 := [some (.int v0), some (.int v1), some (.int v2), some (.int v3)]) pn_X1 rfl (Nat.le_of_ble_eq_true rfl) rfl mv_X1_meant.2.2.1 (fun X hX => ?_)
  unfold f_X1_meant at h
  refine g_iload_n hX dX1_meant_0 rfl rfl ?_
  by_cases q1 : v0 = (-3)
  · rw [if_pos q1] at h
    refine g_tsIn (tgt := 32) (off := 31) hX dX1_meant_1 (by rw [q1] <;> decide) (by rw [q1] <;> decide) (by rw [q1] <;> rfl) (by decide) ?_
    refine g_iload_n hX dX1_meant_32 rfl rfl ?_
    subst h
    exact g_iret hX rfl rfl dX1_meant_33
  rw [if_neg q1] at h
  have eq1_m3 := ts_ne (c := (-3)) (k := (-3)) q1 (by decide)
  by_cases q2 : v0 = (-2)
  · rw [if_pos q2] at h
    refine g_tsIn (tgt := 30) (off := 29) hX dX1_meant_1 (by rw [q2] <;> decide) (by rw [q2] <;> decide) (by rw [q2] <;> rfl) (by decide) ?_
    refine g_iload_n hX dX1_meant_30 rfl rfl ?_
    subst h
    exact g_iret hX rfl rfl dX1_meant_31
  rw [if_neg q2] at h
  have eq2_m2 := ts_ne (c := (-2)) (k := (-2)) q2 (by decide)
  by_cases q3 : v0 = (-1)
  · rw [if_pos q3] at h
    refine g_tsIn (tgt := 28) (off := 27) hX dX1_meant_1 (by rw [q3] <;> decide) (by rw [q3] <;> decide) (by rw [q3] <;> rfl) (by decide) ?_
    refine g_iload_n hX dX1_meant_28 rfl rfl ?_
    subst h
    exact g_iret hX rfl rfl dX1_meant_29
  rw [if_neg q3] at h
  have eq3_m1 := ts_ne (c := (-1)) (k := (-1)) q3 (by decide)
  refine g_tsOut (tgt := 34) hX dX1_meant_1 (by omega) (by decide) ?_
  refine g_iload_n hX dX1_meant_34 rfl rfl ?_
  subst h
  exact g_iret hX rfl rfl dX1_meant_35
set_option maxRecDepth 100000 in
set_option maxHeartbeats 4000000 in
theorem c_X1_joined {l : Launch} {D : DT} {μ : Mem} {r : Int32} (v0 : Int32) (v1 : Int32) (v2 : Int32) (h : f_X1_joined v0 v1 v2 = some r) : Ct l D true 1 yX1_joined cX1_joined 3 (some FieldType.int) [.int v0, .int v1, .int v2] μ (some (.int r)) μ := by
  refine Ct.of (own := RX1) (lc0 := [some (.int v0), some (.int v1), some (.int v2)]) pn_X1 rfl (Nat.le_of_ble_eq_true rfl) rfl mv_X1_joined.2.2.1 (fun X hX => ?_)
  unfold f_X1_joined at h
  refine g_iload_n hX dX1_joined_0 rfl rfl ?_
  by_cases q1 : v0 = 37
  · rw [if_pos q1] at h
    refine g_ls (tgt := 177) (off := 176) hX dX1_joined_1 (by decide) (by rw [q1] <;> rfl) (by decide) ?_
    refine g_iload_n hX dX1_joined_177 rfl rfl ?_
    refine g_if_ne (tgt := 185) hX dX1_joined_178 (by decide) (fun q2 => ?_) (fun q2 => ?_)
    · rw [if_neg q2] at h
      refine g_iload_n hX dX1_joined_185 rfl rfl ?_
      refine g_iload_n hX dX1_joined_186 rfl rfl ?_
      obtain ⟨z3, h⟩ := ck_some h
      refine g_irem hX (nz_ne z3) dX1_joined_187 ?_
      obtain rfl := Option.some.inj h
      exact g_iret hX rfl rfl dX1_joined_188
    · rw [if_pos q2] at h
      refine g_iconst hX dX1_joined_181 k_0 ?_
      refine g_goto (tgt := 188) hX dX1_joined_182 (by decide) ?_
      obtain rfl := Option.some.inj h
      exact g_iret hX rfl rfl dX1_joined_188
  rw [if_neg q1] at h
  have eq1_37 := ls_ne (c := 37) (k := 37) q1 (by decide)
  by_cases q4 : v0 = 38
  · rw [if_pos q4] at h
    refine g_ls (tgt := 106) (off := 105) hX dX1_joined_1 (by decide) (by rw [q4] <;> rfl) (by decide) ?_
    refine g_iload_n hX dX1_joined_106 rfl rfl ?_
    refine g_if_eq (tgt := 118) hX dX1_joined_107 (by decide) (fun q5 => ?_) (fun q5 => ?_)
    · rw [if_pos q5] at h
      refine g_iconst hX dX1_joined_118 k_0 ?_
      obtain rfl := Option.some.inj h
      exact g_iret hX rfl rfl dX1_joined_119
    · rw [if_neg q5] at h
      refine g_iload_n hX dX1_joined_110 rfl rfl ?_
      refine g_if_eq (tgt := 118) hX dX1_joined_111 (by decide) (fun q6 => ?_) (fun q6 => ?_)
      · rw [if_pos q6] at h
        refine g_iconst hX dX1_joined_118 k_0 ?_
        obtain rfl := Option.some.inj h
        exact g_iret hX rfl rfl dX1_joined_119
      · rw [if_neg q6] at h
        refine g_iconst hX dX1_joined_114 k_1 ?_
        refine g_goto (tgt := 119) hX dX1_joined_115 (by decide) ?_
        obtain rfl := Option.some.inj h
        exact g_iret hX rfl rfl dX1_joined_119
  rw [if_neg q4] at h
  have eq4_38 := ls_ne (c := 38) (k := 38) q4 (by decide)
  by_cases q7 : v0 = 42
  · rw [if_pos q7] at h
    refine g_ls (tgt := 161) (off := 160) hX dX1_joined_1 (by decide) (by rw [q7] <;> rfl) (by decide) ?_
    refine g_iload_n hX dX1_joined_161 rfl rfl ?_
    refine g_iload_n hX dX1_joined_162 rfl rfl ?_
    refine g_imul hX dX1_joined_163 ?_
    obtain rfl := Option.some.inj h
    exact g_iret hX rfl rfl dX1_joined_164
  rw [if_neg q7] at h
  have eq7_42 := ls_ne (c := 42) (k := 42) q7 (by decide)
  by_cases q8 : v0 = 43
  · rw [if_pos q8] at h
    refine g_ls (tgt := 153) (off := 152) hX dX1_joined_1 (by decide) (by rw [q8] <;> rfl) (by decide) ?_
    refine g_iload_n hX dX1_joined_153 rfl rfl ?_
    refine g_iload_n hX dX1_joined_154 rfl rfl ?_
    refine g_iadd hX dX1_joined_155 ?_
    obtain rfl := Option.some.inj h
    exact g_iret hX rfl rfl dX1_joined_156
  rw [if_neg q8] at h
  have eq8_43 := ls_ne (c := 43) (k := 43) q8 (by decide)
  by_cases q9 : v0 = 45
  · rw [if_pos q9] at h
    refine g_ls (tgt := 157) (off := 156) hX dX1_joined_1 (by decide) (by rw [q9] <;> rfl) (by decide) ?_
    refine g_iload_n hX dX1_joined_157 rfl rfl ?_
    refine g_iload_n hX dX1_joined_158 rfl rfl ?_
    refine g_isub hX dX1_joined_159 ?_
    obtain rfl := Option.some.inj h
    exact g_iret hX rfl rfl dX1_joined_160
  rw [if_neg q9] at h
  have eq9_45 := ls_ne (c := 45) (k := 45) q9 (by decide)
  by_cases q10 : v0 = 47
  · rw [if_pos q10] at h
    refine g_ls (tgt := 165) (off := 164) hX dX1_joined_1 (by decide) (by rw [q10] <;> rfl) (by decide) ?_
    refine g_iload_n hX dX1_joined_165 rfl rfl ?_
    refine g_if_ne (tgt := 173) hX dX1_joined_166 (by decide) (fun q11 => ?_) (fun q11 => ?_)
    · rw [if_neg q11] at h
      refine g_iload_n hX dX1_joined_173 rfl rfl ?_
      refine g_iload_n hX dX1_joined_174 rfl rfl ?_
      obtain ⟨z12, h⟩ := ck_some h
      refine g_idiv hX (nz_ne z12) dX1_joined_175 ?_
      obtain rfl := Option.some.inj h
      exact g_iret hX rfl rfl dX1_joined_176
    · rw [if_pos q11] at h
      refine g_iconst hX dX1_joined_169 k_0 ?_
      refine g_goto (tgt := 176) hX dX1_joined_170 (by decide) ?_
      obtain rfl := Option.some.inj h
      exact g_iret hX rfl rfl dX1_joined_176
  rw [if_neg q10] at h
  have eq10_47 := ls_ne (c := 47) (k := 47) q10 (by decide)
  by_cases q13 : v0 = 60
  · rw [if_pos q13] at h
    refine g_ls (tgt := 120) (off := 119) hX dX1_joined_1 (by decide) (by rw [q13] <;> rfl) (by decide) ?_
    refine g_iload_n hX dX1_joined_120 rfl rfl ?_
    refine g_iload_n hX dX1_joined_121 rfl rfl ?_
    refine g_icmp_ge (tgt := 129) hX dX1_joined_122 (by decide) (fun q14 => ?_) (fun q14 => ?_)
    · rw [if_pos q14] at h
      refine g_iconst hX dX1_joined_129 k_0 ?_
      obtain rfl := Option.some.inj h
      exact g_iret hX rfl rfl dX1_joined_130
    · rw [if_neg q14] at h
      refine g_iconst hX dX1_joined_125 k_1 ?_
      refine g_goto (tgt := 130) hX dX1_joined_126 (by decide) ?_
      obtain rfl := Option.some.inj h
      exact g_iret hX rfl rfl dX1_joined_130
  rw [if_neg q13] at h
  have eq13_60 := ls_ne (c := 60) (k := 60) q13 (by decide)
  by_cases q15 : v0 = 61
  · rw [if_pos q15] at h
    refine g_ls (tgt := 131) (off := 130) hX dX1_joined_1 (by decide) (by rw [q15] <;> rfl) (by decide) ?_
    refine g_iload_n hX dX1_joined_131 rfl rfl ?_
    refine g_iload_n hX dX1_joined_132 rfl rfl ?_
    refine g_icmp_ne (tgt := 140) hX dX1_joined_133 (by decide) (fun q16 => ?_) (fun q16 => ?_)
    · rw [if_neg q16] at h
      refine g_iconst hX dX1_joined_140 k_0 ?_
      obtain rfl := Option.some.inj h
      exact g_iret hX rfl rfl dX1_joined_141
    · rw [if_pos q16] at h
      refine g_iconst hX dX1_joined_136 k_1 ?_
      refine g_goto (tgt := 141) hX dX1_joined_137 (by decide) ?_
      obtain rfl := Option.some.inj h
      exact g_iret hX rfl rfl dX1_joined_141
  rw [if_neg q15] at h
  have eq15_61 := ls_ne (c := 61) (k := 61) q15 (by decide)
  by_cases q17 : v0 = 62
  · rw [if_pos q17] at h
    refine g_ls (tgt := 142) (off := 141) hX dX1_joined_1 (by decide) (by rw [q17] <;> rfl) (by decide) ?_
    refine g_iload_n hX dX1_joined_142 rfl rfl ?_
    refine g_iload_n hX dX1_joined_143 rfl rfl ?_
    refine g_icmp_le (tgt := 151) hX dX1_joined_144 (by decide) (fun q18 => ?_) (fun q18 => ?_)
    · rw [if_pos q18] at h
      refine g_iconst hX dX1_joined_151 k_0 ?_
      obtain rfl := Option.some.inj h
      exact g_iret hX rfl rfl dX1_joined_152
    · rw [if_neg q18] at h
      refine g_iconst hX dX1_joined_147 k_1 ?_
      refine g_goto (tgt := 152) hX dX1_joined_148 (by decide) ?_
      obtain rfl := Option.some.inj h
      exact g_iret hX rfl rfl dX1_joined_152
  rw [if_neg q17] at h
  have eq17_62 := ls_ne (c := 62) (k := 62) q17 (by decide)
  by_cases q19 : v0 = 124
  · rw [if_pos q19] at h
    refine g_ls (tgt := 92) (off := 91) hX dX1_joined_1 (by decide) (by rw [q19] <;> rfl) (by decide) ?_
    refine g_iload_n hX dX1_joined_92 rfl rfl ?_
    refine g_if_ne (tgt := 100) hX dX1_joined_93 (by decide) (fun q20 => ?_) (fun q20 => ?_)
    · rw [if_neg q20] at h
      refine g_iconst hX dX1_joined_100 k_1 ?_
      refine g_goto (tgt := 105) hX dX1_joined_101 (by decide) ?_
      obtain rfl := Option.some.inj h
      exact g_iret hX rfl rfl dX1_joined_105
    · rw [if_pos q20] at h
      refine g_iload_n hX dX1_joined_96 rfl rfl ?_
      refine g_if_eq (tgt := 104) hX dX1_joined_97 (by decide) (fun q21 => ?_) (fun q21 => ?_)
      · rw [if_pos q21] at h
        refine g_iconst hX dX1_joined_104 k_0 ?_
        obtain rfl := Option.some.inj h
        exact g_iret hX rfl rfl dX1_joined_105
      · rw [if_neg q21] at h
        refine g_iconst hX dX1_joined_100 k_1 ?_
        refine g_goto (tgt := 105) hX dX1_joined_101 (by decide) ?_
        obtain rfl := Option.some.inj h
        exact g_iret hX rfl rfl dX1_joined_105
  rw [if_neg q19] at h
  have eq19_124 := ls_ne (c := 124) (k := 124) q19 (by decide)
  refine g_ls (tgt := 189) (off := 188) hX dX1_joined_1 (by decide) (by simp [Op.lookupswitch.offset, eq1_37, eq4_38, eq7_42, eq8_43, eq9_45, eq10_47, eq13_60, eq15_61, eq17_62, eq19_124]) (by decide) ?_
  refine g_iconst hX dX1_joined_189 k_0 ?_
  obtain rfl := Option.some.inj h
  exact g_iret hX rfl rfl dX1_joined_190
