set_option maxRecDepth 100000 in
set_option maxHeartbeats 4000000 in
theorem t_X8_cut_17 {l : Launch} {D : DT} {X : XT} {r : Int32} {μ' : Mem} (hX : Cx l D true X 4 RX8 cX8_cut 5 (some FieldType.int)) : ∀ (μ : Mem), f_X8_cut_17 μ = some (r, μ') → G l D true X 5 (some (.int r)) μ' 17 [some (.ref (D.1 0)), none, none, none, none] [] μ := by
  intro μ h
  unfold f_X8_cut_17 at h
  refine g_aload_n hX dX8_cut_17 rfl rfl ?_
  refine g_iconst hX dX8_cut_18 k_1 ?_
  obtain ⟨r1, μ2, hr1, h⟩ := bd2_some h
  refine g_callVi hX (c_X8_fail  _ hr1) mv_X8_fail wm_386 kd_true_0 rfl (by decide) (by decide) rfl rfl (Nat.le_of_ble_eq_true rfl) dX8_cut_19 ?_
  obtain ⟨rfl, rfl⟩ := pair_inj h
  exact g_iret hX rfl rfl dX8_cut_22
set_option maxRecDepth 100000 in
set_option maxHeartbeats 4000000 in
theorem c_X8_cut {l : Launch} {D : DT} {μ : Mem} {r : Int32} {μ' : Mem} (v1 : Int32) (v2 : Int32) (v3 : Int32) (h : f_X8_cut v1 v2 v3 μ = some (r, μ')) : Ct l D true 4 yX8_cut cX8_cut 5 (some FieldType.int) [.ref (D.1 0), .int v1, .int v2, .int v3] μ (some (.int r)) μ' := by
  refine Ct.of (own := RX8) (lc0 := [some (.ref (D.1 0)), some (.int v1), some (.int v2), some (.int v3), none]) pn_X8 rfl (Nat.le_of_ble_eq_true rfl) rfl mv_X8_cut.2.2.2.1 (fun X hX => ?_)
  unfold f_X8_cut at h
  refine g_iload_n hX dX8_cut_0 rfl rfl ?_
  refine g_iload_n hX dX8_cut_1 rfl rfl ?_
  refine g_callSi hX (c_X8_areTwoFields  v1 v2) mv_X8_areTwoFields wm_470 (by decide) rfl rfl (Nat.le_of_ble_eq_true rfl) dX8_cut_2 ?_
  refine g_if_eq (tgt := 17) hX dX8_cut_5 (by decide) (fun q1 => ?_) (fun q1 => ?_)
  · rw [if_pos q1] at h
    exact g_weak (lc' := [some _, none, none, none, none]) ⟨rfl, trivial⟩ (t_X8_cut_17 hX _ h)
  · rw [if_neg q1] at h
    refine g_iload_n hX dX8_cut_8 rfl rfl ?_
    refine g_if_lt (tgt := 17) hX dX8_cut_9 (by decide) (fun q2 => ?_) (fun q2 => ?_)
    · rw [if_pos q2] at h
      exact g_weak (lc' := [some _, none, none, none, none]) ⟨rfl, trivial⟩ (t_X8_cut_17 hX _ h)
    · rw [if_neg q2] at h
      refine g_iload_n hX dX8_cut_12 rfl rfl ?_
      refine g_iconst hX dX8_cut_13 k_1 ?_
      refine g_icmp_le (tgt := 23) hX dX8_cut_14 (by decide) (fun q3 => ?_) (fun q3 => ?_)
      · rw [if_pos q3] at h
        refine g_aload_n hX dX8_cut_23 rfl rfl ?_
        refine g_getr hX kd_true_0 fg_8_0 tf_8_0 w_351 sr_true_0_0 dX8_cut_24 ?_
        refine g_getr hX wk_8_0 fg_0_2 tf_0_2 w_236 (wo_0_2 wk_8_0) dX8_cut_27 ?_
        refine g_iload_n hX dX8_cut_30 rfl rfl ?_
        refine g_iload_n hX dX8_cut_31 rfl rfl ?_
        obtain ⟨r4, hr4, h⟩ := bd_some h
        refine g_callVi hX (c_X2_leastCut (wk_0_2 wk_8_0) _ _ hr4) mv_X2_leastCut wm_793 (wk_0_2 wk_8_0) rfl (by decide) (by decide) rfl rfl (Nat.le_of_ble_eq_true rfl) dX8_cut_32 ?_
        refine g_istore (lc' := [some _, some _, some _, some _, some _]) hX dX8_cut_35 (by decide) rfl rfl ?_
        refine g_iload_n hX dX8_cut_37 rfl rfl ?_
        refine g_if_ne (tgt := 49) hX dX8_cut_38 (by decide) (fun q5 => ?_) (fun q5 => ?_)
        · rw [if_neg q5] at h
          refine g_iload hX dX8_cut_49 rfl ?_
          obtain ⟨rfl, rfl⟩ := pair_inj h
          exact g_iret hX rfl rfl dX8_cut_51
        · rw [if_pos q5] at h
          refine g_iload hX dX8_cut_41 rfl ?_
          refine g_callSi hX (c_J6_bitCount_0f7a4  r4) mv_J6_bitCount_0f7a4 wm_807 (by decide) rfl rfl (Nat.le_of_ble_eq_true rfl) dX8_cut_43 ?_
          refine g_goto (tgt := 51) hX dX8_cut_46 (by decide) ?_
          obtain ⟨rfl, rfl⟩ := pair_inj h
          exact g_iret hX rfl rfl dX8_cut_51
      · rw [if_neg q3] at h
        exact g_weak (lc' := [some _, none, none, none, none]) ⟨rfl, trivial⟩ (t_X8_cut_17 hX _ h)
set_option maxRecDepth 100000 in
set_option maxHeartbeats 4000000 in
theorem t_X8_feed_11 {l : Launch} {D : DT} {X : XT} {r : Int32} {μ' : Mem} (hX : Cx l D true X 2 RX8 cX8_feed 4 (some FieldType.int)) : ∀ (μ : Mem), f_X8_feed_11 μ = some (r, μ') → G l D true X 4 (some (.int r)) μ' 11 [some (.ref (D.1 0)), none, none, none] [] μ := by
  intro μ h
  unfold f_X8_feed_11 at h
  refine g_aload_n hX dX8_feed_11 rfl rfl ?_
  refine g_iconst hX dX8_feed_12 k_1 ?_
  obtain ⟨r1, μ2, hr1, h⟩ := bd2_some h
  refine g_callVi hX (c_X8_fail  _ hr1) mv_X8_fail wm_386 kd_true_0 rfl (by decide) (by decide) rfl rfl (Nat.le_of_ble_eq_true rfl) dX8_feed_13 ?_
  obtain ⟨rfl, rfl⟩ := pair_inj h
  exact g_iret hX rfl rfl dX8_feed_16
set_option maxRecDepth 100000 in
set_option maxHeartbeats 4000000 in
theorem c_X8_feed {l : Launch} {D : DT} {μ : Mem} {r : Int32} {μ' : Mem} (v1 : Int64) (v3 : Int32) (h : f_X8_feed v1 v3 μ = some (r, μ')) : Ct l D true 2 yX8_feed cX8_feed 4 (some FieldType.int) [.ref (D.1 0), .long v1, .int v3] μ (some (.int r)) μ' := by
  refine Ct.of (own := RX8) (lc0 := [some (.ref (D.1 0)), some (.long v1), none, some (.int v3)]) pn_X8 rfl (Nat.le_of_ble_eq_true rfl) rfl mv_X8_feed.2.2.2.1 (fun X hX => ?_)
  unfold f_X8_feed at h
  refine g_iload_n hX dX8_feed_0 rfl rfl ?_
  refine g_iconst hX dX8_feed_1 k_1 ?_
  refine g_icmp_lt (tgt := 11) hX dX8_feed_2 (by decide) (fun q1 => ?_) (fun q1 => ?_)
  · rw [if_pos q1] at h
    exact g_weak (lc' := [some _, none, none, none]) ⟨rfl, trivial⟩ (t_X8_feed_11 hX _ h)
  · rw [if_neg q1] at h
    refine g_iload_n hX dX8_feed_5 rfl rfl ?_
    refine g_bipush hX dX8_feed_6 kb_8 ?_
    refine g_icmp_le (tgt := 17) hX dX8_feed_8 (by decide) (fun q2 => ?_) (fun q2 => ?_)
    · rw [if_pos q2] at h
      refine g_aload_n hX dX8_feed_17 rfl rfl ?_
      refine g_getr hX kd_true_0 fg_8_0 tf_8_0 w_351 sr_true_0_0 dX8_feed_18 ?_
      refine g_getr hX wk_8_0 fg_0_3 tf_0_3 w_238 (wo_0_3 wk_8_0) dX8_feed_21 ?_
      refine g_geti hX (wk_0_3 wk_8_0) fg_7_1 tf_7_1 w_225 dX8_feed_24 ?_
      refine g_iload_n hX dX8_feed_27 rfl rfl ?_
      refine g_iadd hX dX8_feed_28 ?_
      refine g_bipush hX dX8_feed_29 kb_60 ?_
      refine g_icmp_le (tgt := 40) hX dX8_feed_31 (by decide) (fun q3 => ?_) (fun q3 => ?_)
      · rw [if_pos q3] at h
        refine g_aload_n hX dX8_feed_40 rfl rfl ?_
        refine g_getr hX kd_true_0 fg_8_0 tf_8_0 w_351 sr_true_0_0 dX8_feed_41 ?_
        refine g_getr hX wk_8_0 fg_0_3 tf_0_3 w_238 (wo_0_3 wk_8_0) dX8_feed_44 ?_
        refine g_lload_n hX dX8_feed_47 rfl rfl ?_
        refine g_iload_n hX dX8_feed_48 rfl rfl ?_
        obtain ⟨μ4, hμ4, h⟩ := bd_some h
        refine g_callVv hX (c_X7_append (wk_0_3 wk_8_0) _ _ hμ4) mv_X7_append wm_521 (wk_0_3 wk_8_0) rfl (by decide) (by decide) rfl rfl (Nat.le_of_ble_eq_true rfl) dX8_feed_49 ?_
        refine g_aload_n hX dX8_feed_52 rfl rfl ?_
        refine g_getr hX kd_true_0 fg_8_0 tf_8_0 w_351 sr_true_0_0 dX8_feed_53 ?_
        refine g_getr hX wk_8_0 fg_0_3 tf_0_3 w_238 (wo_0_3 wk_8_0) dX8_feed_56 ?_
        refine g_geti hX (wk_0_3 wk_8_0) fg_7_1 tf_7_1 w_225 dX8_feed_59 ?_
        obtain ⟨rfl, rfl⟩ := pair_inj h
        exact g_iret hX rfl rfl dX8_feed_62
      · rw [if_neg q3] at h
        refine g_aload_n hX dX8_feed_34 rfl rfl ?_
        refine g_iconst hX dX8_feed_35 k_4 ?_
        obtain ⟨r5, μ6, hr5, h⟩ := bd2_some h
        refine g_callVi hX (c_X8_fail  _ hr5) mv_X8_fail wm_386 kd_true_0 rfl (by decide) (by decide) rfl rfl (Nat.le_of_ble_eq_true rfl) dX8_feed_36 ?_
        obtain ⟨rfl, rfl⟩ := pair_inj h
        exact g_iret hX rfl rfl dX8_feed_39
    · rw [if_neg q2] at h
      exact g_weak (lc' := [some _, none, none, none]) ⟨rfl, trivial⟩ (t_X8_feed_11 hX _ h)
set_option maxRecDepth 100000 in
set_option maxHeartbeats 4000000 in
theorem c_X8_fewest {l : Launch} {D : DT} {μ : Mem} {r : Int32} {μ' : Mem} (h : f_X8_fewest μ = some (r, μ')) : Ct l D true 7 yX8_fewest cX8_fewest 2 (some FieldType.int) [.ref (D.1 0)] μ (some (.int r)) μ' := by
  refine Ct.of (own := RX8) (lc0 := [some (.ref (D.1 0)), none]) pn_X8 rfl (Nat.le_of_ble_eq_true rfl) rfl mv_X8_fewest.2.2.2.1 (fun X hX => ?_)
  unfold f_X8_fewest at h
  refine g_aload_n hX dX8_fewest_0 rfl rfl ?_
  refine g_getr hX kd_true_0 fg_8_4 tf_8_4 w_355 sr_true_0_4 dX8_fewest_1 ?_
  refine g_aload_n hX dX8_fewest_4 rfl rfl ?_
  refine g_getr hX kd_true_0 fg_8_0 tf_8_0 w_351 sr_true_0_0 dX8_fewest_5 ?_
  refine g_getr hX wk_8_0 fg_0_2 tf_0_2 w_236 (wo_0_2 wk_8_0) dX8_fewest_8 ?_
  obtain ⟨r1, μ2, hr1, h⟩ := bd2_some h
  refine g_callVi hX (c_X3_fewestFor (wk_0_2 wk_8_0) hr1) mv_X3_fewestFor wm_762 wk_8_4 rfl (by decide) (by decide) rfl rfl (Nat.le_of_ble_eq_true rfl) dX8_fewest_11 ?_
  refine g_istore_n (lc' := [some _, some _]) hX dX8_fewest_14 rfl (by decide) rfl rfl ?_
  refine g_iload_n hX dX8_fewest_15 rfl rfl ?_
  refine g_if_ge (tgt := 27) hX dX8_fewest_16 (by decide) (fun q3 => ?_) (fun q3 => ?_)
  · rw [if_pos q3] at h
    refine g_iload_n hX dX8_fewest_27 rfl rfl ?_
    obtain ⟨rfl, rfl⟩ := pair_inj h
    exact g_iret hX rfl rfl dX8_fewest_28
  · rw [if_neg q3] at h
    refine g_aload_n hX dX8_fewest_19 rfl rfl ?_
    refine g_iconst hX dX8_fewest_20 k_2 ?_
    obtain ⟨r4, μ5, hr4, h⟩ := bd2_some h
    refine g_callVi hX (c_X8_fail  _ hr4) mv_X8_fail wm_386 kd_true_0 rfl (by decide) (by decide) rfl rfl (Nat.le_of_ble_eq_true rfl) dX8_fewest_21 ?_
    refine g_goto (tgt := 28) hX dX8_fewest_24 (by decide) ?_
    obtain ⟨rfl, rfl⟩ := pair_inj h
    exact g_iret hX rfl rfl dX8_fewest_28
set_option maxRecDepth 100000 in
set_option maxHeartbeats 4000000 in
theorem t_X8_first_70 {l : Launch} {D : DT} {X : XT} {r : Int32} {μ' : Mem} (hX : Cx l D true X 7 RX8 cX8_first 3 (some FieldType.int)) : ∀ (μ : Mem), f_X8_first_70 μ = some (r, μ') → G l D true X 3 (some (.int r)) μ' 70 [some (.ref (D.1 0)), none, none] [] μ := by
  intro μ h
  unfold f_X8_first_70 at h
  refine g_aload_n hX dX8_first_70 rfl rfl ?_
  refine g_iconst hX dX8_first_71 k_2 ?_
  obtain ⟨r1, μ2, hr1, h⟩ := bd2_some h
  refine g_callVi hX (c_X8_fail  _ hr1) mv_X8_fail wm_386 kd_true_0 rfl (by decide) (by decide) rfl rfl (Nat.le_of_ble_eq_true rfl) dX8_first_72 ?_
  obtain ⟨rfl, rfl⟩ := pair_inj h
  exact g_iret hX rfl rfl dX8_first_75
set_option maxRecDepth 100000 in
set_option maxHeartbeats 4000000 in
theorem t_X8_first_36 {l : Launch} {D : DT} {X : XT} {r : Int32} {μ' : Mem} (hX : Cx l D true X 7 RX8 cX8_first 3 (some FieldType.int)) : ∀ (n : Nat) (v1 : Int32) (v2 : Int32) (μ : Mem), f_X8_first_36 n v1 v2 μ = some (r, μ') → G l D true X 3 (some (.int r)) μ' 36 [some (.ref (D.1 0)), some (.int v1), some (.int v2)] [] μ := by
  intro n
  induction n with
  | zero => intro v1 v2 μ h; exact absurd h (by simp [f_X8_first_36])
  | succ n ih =>
    intro v1 v2 μ h
    rw [f_X8_first_36] at h
    refine g_iload_n hX dX8_first_36 rfl rfl ?_
    refine g_bipush hX dX8_first_37 kb_60 ?_
    refine g_icmp_gt (tgt := 70) hX dX8_first_39 (by decide) (fun q1 => ?_) (fun q1 => ?_)
    · rw [if_pos q1] at h
      exact g_weak (lc' := [some _, none, none]) ⟨rfl, trivial⟩ (t_X8_first_70 hX _ h)
    · rw [if_neg q1] at h
      refine g_aload_n hX dX8_first_42 rfl rfl ?_
      refine g_getr hX kd_true_0 fg_8_2 tf_8_2 w_353 sr_true_0_2 dX8_first_43 ?_
      refine g_getr hX wk_8_2 fg_2_7 tf_2_7 w_164 (wo_2_7 wk_8_2) dX8_first_46 ?_
      refine g_iload_n hX dX8_first_49 rfl rfl ?_
      obtain ⟨z2, h⟩ := ck_some h
      refine g_iald hX (wk_2_7 wk_8_2).1 (wk_2_7 wk_8_2).2 z2 dX8_first_50 ?_
      refine g_iconst hX dX8_first_51 k_m1 ?_
      refine g_icmp_ne (tgt := 57) hX dX8_first_52 (by decide) (fun q3 => ?_) (fun q3 => ?_)
      · rw [if_neg q3] at h
        refine g_aload_n hX dX8_first_57 rfl rfl ?_
        refine g_getr hX kd_true_0 fg_8_2 tf_8_2 w_353 sr_true_0_2 dX8_first_58 ?_
        obtain ⟨μ4, hμ4, h⟩ := bd_some h
        refine g_callVv hX (c_X2_anHour wk_8_2 hμ4) mv_X2_anHour wm_694 wk_8_2 rfl (by decide) (by decide) rfl rfl (Nat.le_of_ble_eq_true rfl) dX8_first_61 ?_
        refine g_iinc (lc' := [some _, some _, some _]) hX dX8_first_64 (by decide) rfl (congrArg _ k_1) rfl rfl ?_
        refine g_goto (tgt := 36) hX dX8_first_67 (by decide) ?_
        exact g_weak (lc' := [some _, some _, some _]) ⟨rfl, rfl, rfl, trivial⟩ (ih _ _ _ h)
      · rw [if_pos q3] at h
        refine g_iload_n hX dX8_first_55 rfl rfl ?_
        obtain ⟨rfl, rfl⟩ := pair_inj h
        exact g_iret hX rfl rfl dX8_first_56
set_option maxRecDepth 100000 in
set_option maxHeartbeats 4000000 in
theorem c_X8_first {l : Launch} {D : DT} {μ : Mem} {r : Int32} {μ' : Mem} (v1 : Int32) (h : f_X8_first v1 μ = some (r, μ')) : Ct l D true 7 yX8_first cX8_first 3 (some FieldType.int) [.ref (D.1 0), .int v1] μ (some (.int r)) μ' := by
  refine Ct.of (own := RX8) (lc0 := [some (.ref (D.1 0)), some (.int v1), none]) pn_X8 rfl (Nat.le_of_ble_eq_true rfl) rfl mv_X8_first.2.2.2.1 (fun X hX => ?_)
  unfold f_X8_first at h
  refine g_aload_n hX dX8_first_0 rfl rfl ?_
  refine g_getr hX kd_true_0 fg_8_0 tf_8_0 w_351 sr_true_0_0 dX8_first_1 ?_
  refine g_getr hX wk_8_0 fg_0_2 tf_0_2 w_236 (wo_0_2 wk_8_0) dX8_first_4 ?_
  refine g_iload_n hX dX8_first_7 rfl rfl ?_
  refine g_callVi hX (c_X2_isGate (wk_0_2 wk_8_0) v1) mv_X2_isGate wm_484 (wk_0_2 wk_8_0) rfl (by decide) (by decide) rfl rfl (Nat.le_of_ble_eq_true rfl) dX8_first_8 ?_
  refine g_if_ne (tgt := 20) hX dX8_first_11 (by decide) (fun q1 => ?_) (fun q1 => ?_)
  · rw [if_neg q1] at h
    refine g_aload_n hX dX8_first_20 rfl rfl ?_
    refine g_getr hX kd_true_0 fg_8_2 tf_8_2 w_353 sr_true_0_2 dX8_first_21 ?_
    refine g_aload_n hX dX8_first_24 rfl rfl ?_
    refine g_getr hX kd_true_0 fg_8_0 tf_8_0 w_351 sr_true_0_0 dX8_first_25 ?_
    refine g_getr hX wk_8_0 fg_0_2 tf_0_2 w_236 (wo_0_2 wk_8_0) dX8_first_28 ?_
    obtain ⟨μ2, hμ2, h⟩ := bd_some h
    refine g_callVv hX (c_X2_copyOf wk_8_2 (wk_0_2 wk_8_0) hμ2) mv_X2_copyOf wm_749 wk_8_2 rfl (by decide) (by decide) rfl rfl (Nat.le_of_ble_eq_true rfl) dX8_first_31 ?_
    refine g_iconst hX dX8_first_34 k_0 ?_
    refine g_istore_n (lc' := [some _, some _, some _]) hX dX8_first_35 rfl (by decide) rfl rfl ?_
    exact g_weak (lc' := [some _, some _, some _]) ⟨rfl, rfl, rfl, trivial⟩ (t_X8_first_36 hX 2000 _ _ _ h)
  · rw [if_pos q1] at h
    refine g_aload_n hX dX8_first_14 rfl rfl ?_
    refine g_iconst hX dX8_first_15 k_1 ?_
    obtain ⟨r3, μ4, hr3, h⟩ := bd2_some h
    refine g_callVi hX (c_X8_fail  _ hr3) mv_X8_fail wm_386 kd_true_0 rfl (by decide) (by decide) rfl rfl (Nat.le_of_ble_eq_true rfl) dX8_first_16 ?_
    obtain ⟨rfl, rfl⟩ := pair_inj h
    exact g_iret hX rfl rfl dX8_first_19
set_option maxRecDepth 100000 in
set_option maxHeartbeats 4000000 in
theorem c_X8_isSheet {l : Launch} {D : DT} {μ : Mem} (v0 : Int32) : Ct l D true 1 yX8_isSheet cX8_isSheet 1 (some FieldType.boolean) [.int v0] μ (some (.int (f_X8_isSheet v0))) μ := by
  obtain ⟨r, h⟩ : ∃ r, f_X8_isSheet v0 = r := ⟨_, rfl⟩
  rw [h]
  refine Ct.of (own := RX8) (lc0 := [some (.int v0)]) pn_X8 rfl (Nat.le_of_ble_eq_true rfl) rfl mv_X8_isSheet.2.2.1 (fun X hX => ?_)
  unfold f_X8_isSheet at h
  refine g_iload_n hX dX8_isSheet_0 rfl rfl ?_
  refine g_if_lt (tgt := 13) hX dX8_isSheet_1 (by decide) (fun q1 => ?_) (fun q1 => ?_)
  · rw [if_pos q1] at h
    refine g_iconst hX dX8_isSheet_13 k_0 ?_
    subst h
    exact g_iret hX rfl rfl dX8_isSheet_14
  · rw [if_neg q1] at h
    refine g_iload_n hX dX8_isSheet_4 rfl rfl ?_
    refine g_iconst hX dX8_isSheet_5 k_4 ?_
    refine g_icmp_ge (tgt := 13) hX dX8_isSheet_6 (by decide) (fun q2 => ?_) (fun q2 => ?_)
    · rw [if_pos q2] at h
      refine g_iconst hX dX8_isSheet_13 k_0 ?_
      subst h
      exact g_iret hX rfl rfl dX8_isSheet_14
    · rw [if_neg q2] at h
      refine g_iconst hX dX8_isSheet_9 k_1 ?_
      refine g_goto (tgt := 14) hX dX8_isSheet_10 (by decide) ?_
      subst h
      exact g_iret hX rfl rfl dX8_isSheet_14
set_option maxRecDepth 100000 in
set_option maxHeartbeats 4000000 in
theorem t_X8_fits_81 {l : Launch} {D : DT} {X : XT} {r : Int32} {μ' : Mem} (hX : Cx l D true X 7 RX8 cX8_fits 4 (some FieldType.int)) : ∀ (μ : Mem), f_X8_fits_81 μ = some (r, μ') → G l D true X 4 (some (.int r)) μ' 81 [some (.ref (D.1 0)), none, none, none] [] μ := by
  intro μ h
  unfold f_X8_fits_81 at h
  refine g_aload_n hX dX8_fits_81 rfl rfl ?_
  refine g_iconst hX dX8_fits_82 k_2 ?_
  obtain ⟨r1, μ2, hr1, h⟩ := bd2_some h
  refine g_callVi hX (c_X8_fail  _ hr1) mv_X8_fail wm_386 kd_true_0 rfl (by decide) (by decide) rfl rfl (Nat.le_of_ble_eq_true rfl) dX8_fits_83 ?_
  obtain ⟨rfl, rfl⟩ := pair_inj h
  exact g_iret hX rfl rfl dX8_fits_86
set_option maxRecDepth 100000 in
set_option maxHeartbeats 4000000 in
theorem t_X8_fits_49 {l : Launch} {D : DT} {X : XT} {r : Int32} {μ' : Mem} (hX : Cx l D true X 7 RX8 cX8_fits 4 (some FieldType.int)) : ∀ (n : Nat) (v1 : Int32) (v3 : Int32) (μ : Mem), kd true (58 + 2 * ix v1) = 5 → f_X8_fits_49 n v1 v3 μ = some (r, μ') → G l D true X 4 (some (.int r)) μ' 49 [some (.ref (D.1 0)), some (.int v1), some (.ref (D.1 (58 + 2 * ix v1))), some (.int v3)] [] μ := by
  intro n
  induction n with
  | zero => intro v1 v3 μ hr_2 h; exact absurd h (by simp [f_X8_fits_49])
  | succ n ih =>
    intro v1 v3 μ hr_2 h
    rw [f_X8_fits_49] at h
    refine g_iload_n hX dX8_fits_49 rfl rfl ?_
    refine g_bipush hX dX8_fits_50 kb_60 ?_
    refine g_icmp_gt (tgt := 81) hX dX8_fits_52 (by decide) (fun q1 => ?_) (fun q1 => ?_)
    · rw [if_pos q1] at h
      exact g_weak (lc' := [some _, none, none, none]) ⟨rfl, trivial⟩ (t_X8_fits_81 hX _ h)
    · rw [if_neg q1] at h
      refine g_aload_n hX dX8_fits_55 rfl rfl ?_
      refine g_aload_n hX dX8_fits_56 rfl rfl ?_
      refine g_getr hX kd_true_0 fg_8_2 tf_8_2 w_353 sr_true_0_2 dX8_fits_57 ?_
      obtain ⟨r2, hr2, h⟩ := bd_some h
      refine g_callVi hX (c_X5_tellsHolders hr_2 wk_8_2 hr2) mv_X5_tellsHolders wm_836 hr_2 rfl (by decide) (by decide) rfl rfl (Nat.le_of_ble_eq_true rfl) dX8_fits_60 ?_
      refine g_if_eq (tgt := 68) hX dX8_fits_63 (by decide) (fun q3 => ?_) (fun q3 => ?_)
      · rw [if_pos q3] at h
        refine g_aload_n hX dX8_fits_68 rfl rfl ?_
        refine g_getr hX kd_true_0 fg_8_2 tf_8_2 w_353 sr_true_0_2 dX8_fits_69 ?_
        obtain ⟨μ4, hμ4, h⟩ := bd_some h
        refine g_callVv hX (c_X2_anHour wk_8_2 hμ4) mv_X2_anHour wm_694 wk_8_2 rfl (by decide) (by decide) rfl rfl (Nat.le_of_ble_eq_true rfl) dX8_fits_72 ?_
        refine g_iinc (lc' := [some _, some _, some _, some _]) hX dX8_fits_75 (by decide) rfl (congrArg _ k_1) rfl rfl ?_
        refine g_goto (tgt := 49) hX dX8_fits_78 (by decide) ?_
        exact g_weak (lc' := [some _, some _, some _, some _]) ⟨rfl, rfl, rfl, rfl, trivial⟩ (ih _ _ _ hr_2 h)
      · rw [if_neg q3] at h
        refine g_iload_n hX dX8_fits_66 rfl rfl ?_
        obtain ⟨rfl, rfl⟩ := pair_inj h
        exact g_iret hX rfl rfl dX8_fits_67
set_option maxRecDepth 100000 in
set_option maxHeartbeats 4000000 in
theorem c_X8_fits {l : Launch} {D : DT} {μ : Mem} {r : Int32} {μ' : Mem} (v1 : Int32) (h : f_X8_fits v1 μ = some (r, μ')) : Ct l D true 7 yX8_fits cX8_fits 4 (some FieldType.int) [.ref (D.1 0), .int v1] μ (some (.int r)) μ' := by
  refine Ct.of (own := RX8) (lc0 := [some (.ref (D.1 0)), some (.int v1), none, none]) pn_X8 rfl (Nat.le_of_ble_eq_true rfl) rfl mv_X8_fits.2.2.2.1 (fun X hX => ?_)
  unfold f_X8_fits at h
  refine g_iload_n hX dX8_fits_0 rfl rfl ?_
  refine g_callSi hX (c_X8_isSheet  v1) mv_X8_isSheet wm_829 (by decide) rfl rfl (Nat.le_of_ble_eq_true rfl) dX8_fits_1 ?_
  refine g_if_ne (tgt := 13) hX dX8_fits_4 (by decide) (fun q1 => ?_) (fun q1 => ?_)
  · rw [if_neg q1] at h
    refine g_aload_n hX dX8_fits_13 rfl rfl ?_
    refine g_getr hX kd_true_0 fg_8_6 tf_8_6 w_357 sr_true_0_6 dX8_fits_14 ?_
    refine g_iload_n hX dX8_fits_17 rfl rfl ?_
    obtain ⟨z2, h⟩ := ck_some h
    refine g_sheet hX z2 dX8_fits_18 ?_
    refine g_astore_n (lc' := [some _, some _, some _, none]) hX dX8_fits_19 rfl (by decide) rfl rfl ?_
    refine g_aload_n hX dX8_fits_20 rfl rfl ?_
    refine g_callVi hX (c_X5_isMissing (sheet_kd z2)) mv_X5_isMissing wm_832 (sheet_kd z2) rfl (by decide) (by decide) rfl rfl (Nat.le_of_ble_eq_true rfl) dX8_fits_21 ?_
    refine g_if_eq (tgt := 33) hX dX8_fits_24 (by decide) (fun q3 => ?_) (fun q3 => ?_)
    · rw [if_pos q3] at h
      refine g_aload_n hX dX8_fits_33 rfl rfl ?_
      refine g_getr hX kd_true_0 fg_8_2 tf_8_2 w_353 sr_true_0_2 dX8_fits_34 ?_
      refine g_aload_n hX dX8_fits_37 rfl rfl ?_
      refine g_getr hX kd_true_0 fg_8_0 tf_8_0 w_351 sr_true_0_0 dX8_fits_38 ?_
      refine g_getr hX wk_8_0 fg_0_2 tf_0_2 w_236 (wo_0_2 wk_8_0) dX8_fits_41 ?_
      obtain ⟨μ4, hμ4, h⟩ := bd_some h
      refine g_callVv hX (c_X2_copyOf wk_8_2 (wk_0_2 wk_8_0) hμ4) mv_X2_copyOf wm_749 wk_8_2 rfl (by decide) (by decide) rfl rfl (Nat.le_of_ble_eq_true rfl) dX8_fits_44 ?_
      refine g_iconst hX dX8_fits_47 k_0 ?_
      refine g_istore_n (lc' := [some _, some _, some _, some _]) hX dX8_fits_48 rfl (by decide) rfl rfl ?_
      exact g_weak (lc' := [some _, some _, some _, some _]) ⟨rfl, rfl, rfl, rfl, trivial⟩ (t_X8_fits_49 hX 2000 _ _ _ (sheet_kd z2) h)
    · rw [if_neg q3] at h
      refine g_aload_n hX dX8_fits_27 rfl rfl ?_
      refine g_iconst hX dX8_fits_28 k_2 ?_
      obtain ⟨r5, μ6, hr5, h⟩ := bd2_some h
      refine g_callVi hX (c_X8_fail  _ hr5) mv_X8_fail wm_386 kd_true_0 rfl (by decide) (by decide) rfl rfl (Nat.le_of_ble_eq_true rfl) dX8_fits_29 ?_
      obtain ⟨rfl, rfl⟩ := pair_inj h
      exact g_iret hX rfl rfl dX8_fits_32
  · rw [if_pos q1] at h
    refine g_aload_n hX dX8_fits_7 rfl rfl ?_
    refine g_iconst hX dX8_fits_8 k_1 ?_
    obtain ⟨r7, μ8, hr7, h⟩ := bd2_some h
    refine g_callVi hX (c_X8_fail  _ hr7) mv_X8_fail wm_386 kd_true_0 rfl (by decide) (by decide) rfl rfl (Nat.le_of_ble_eq_true rfl) dX8_fits_9 ?_
    obtain ⟨rfl, rfl⟩ := pair_inj h
    exact g_iret hX rfl rfl dX8_fits_12
set_option maxRecDepth 100000 in
set_option maxHeartbeats 4000000 in
theorem t_X8_gate_18 {l : Launch} {D : DT} {X : XT} {r : Int32} {μ' : Mem} (hX : Cx l D true X 3 RX8 cX8_gate 4 (some FieldType.int)) : ∀ (μ : Mem), f_X8_gate_18 μ = some (r, μ') → G l D true X 4 (some (.int r)) μ' 18 [some (.ref (D.1 0)), none, none, none] [] μ := by
  intro μ h
  unfold f_X8_gate_18 at h
  refine g_aload_n hX dX8_gate_18 rfl rfl ?_
  refine g_iconst hX dX8_gate_19 k_1 ?_
  obtain ⟨r1, μ2, hr1, h⟩ := bd2_some h
  refine g_callVi hX (c_X8_fail  _ hr1) mv_X8_fail wm_386 kd_true_0 rfl (by decide) (by decide) rfl rfl (Nat.le_of_ble_eq_true rfl) dX8_gate_20 ?_
  obtain ⟨rfl, rfl⟩ := pair_inj h
  exact g_iret hX rfl rfl dX8_gate_23
set_option maxRecDepth 100000 in
set_option maxHeartbeats 4000000 in
theorem c_X8_gate {l : Launch} {D : DT} {μ : Mem} {r : Int32} {μ' : Mem} (v1 : Int32) (v2 : Int32) (v3 : Int32) (h : f_X8_gate v1 v2 v3 μ = some (r, μ')) : Ct l D true 3 yX8_gate cX8_gate 4 (some FieldType.int) [.ref (D.1 0), .int v1, .int v2, .int v3] μ (some (.int r)) μ' := by
  refine Ct.of (own := RX8) (lc0 := [some (.ref (D.1 0)), some (.int v1), some (.int v2), some (.int v3)]) pn_X8 rfl (Nat.le_of_ble_eq_true rfl) rfl mv_X8_gate.2.2.2.1 (fun X hX => ?_)
  unfold f_X8_gate at h
  refine g_iload_n hX dX8_gate_0 rfl rfl ?_
  refine g_iload_n hX dX8_gate_1 rfl rfl ?_
  refine g_callSi hX (c_X8_areTwoFields  v1 v2) mv_X8_areTwoFields wm_470 (by decide) rfl rfl (Nat.le_of_ble_eq_true rfl) dX8_gate_2 ?_
  refine g_if_eq (tgt := 18) hX dX8_gate_5 (by decide) (fun q1 => ?_) (fun q1 => ?_)
  · rw [if_pos q1] at h
    exact g_weak (lc' := [some _, none, none, none]) ⟨rfl, trivial⟩ (t_X8_gate_18 hX _ h)
  · rw [if_neg q1] at h
    refine g_iload_n hX dX8_gate_8 rfl rfl ?_
    refine g_if_lt (tgt := 18) hX dX8_gate_9 (by decide) (fun q2 => ?_) (fun q2 => ?_)
    · rw [if_pos q2] at h
      exact g_weak (lc' := [some _, none, none, none]) ⟨rfl, trivial⟩ (t_X8_gate_18 hX _ h)
    · rw [if_neg q2] at h
      refine g_iload_n hX dX8_gate_12 rfl rfl ?_
      refine g_bipush hX dX8_gate_13 kb_9 ?_
      refine g_icmp_le (tgt := 24) hX dX8_gate_15 (by decide) (fun q3 => ?_) (fun q3 => ?_)
      · rw [if_pos q3] at h
        refine g_aload_n hX dX8_gate_24 rfl rfl ?_
        refine g_getr hX kd_true_0 fg_8_0 tf_8_0 w_351 sr_true_0_0 dX8_gate_25 ?_
        refine g_getr hX wk_8_0 fg_0_2 tf_0_2 w_236 (wo_0_2 wk_8_0) dX8_gate_28 ?_
        refine g_geti hX (wk_0_2 wk_8_0) fg_2_11 tf_2_11 w_177 dX8_gate_31 ?_
        refine g_bipush hX dX8_gate_34 kb_9 ?_
        refine g_icmp_lt (tgt := 45) hX dX8_gate_36 (by decide) (fun q4 => ?_) (fun q4 => ?_)
        · rw [if_pos q4] at h
          refine g_aload_n hX dX8_gate_45 rfl rfl ?_
          refine g_getr hX kd_true_0 fg_8_0 tf_8_0 w_351 sr_true_0_0 dX8_gate_46 ?_
          refine g_getr hX wk_8_0 fg_0_2 tf_0_2 w_236 (wo_0_2 wk_8_0) dX8_gate_49 ?_
          refine g_iload_n hX dX8_gate_52 rfl rfl ?_
          refine g_iload_n hX dX8_gate_53 rfl rfl ?_
          refine g_iload_n hX dX8_gate_54 rfl rfl ?_
          obtain ⟨r5, μ6, hr5, h⟩ := bd2_some h
          refine g_callVi hX (c_X2_addGate (wk_0_2 wk_8_0) _ _ _ hr5) mv_X2_addGate wm_476 (wk_0_2 wk_8_0) rfl (by decide) (by decide) rfl rfl (Nat.le_of_ble_eq_true rfl) dX8_gate_55 ?_
          obtain ⟨rfl, rfl⟩ := pair_inj h
          exact g_iret hX rfl rfl dX8_gate_58
        · rw [if_neg q4] at h
          refine g_aload_n hX dX8_gate_39 rfl rfl ?_
          refine g_iconst hX dX8_gate_40 k_4 ?_
          obtain ⟨r7, μ8, hr7, h⟩ := bd2_some h
          refine g_callVi hX (c_X8_fail  _ hr7) mv_X8_fail wm_386 kd_true_0 rfl (by decide) (by decide) rfl rfl (Nat.le_of_ble_eq_true rfl) dX8_gate_41 ?_
          obtain ⟨rfl, rfl⟩ := pair_inj h
          exact g_iret hX rfl rfl dX8_gate_44
      · rw [if_neg q3] at h
        exact g_weak (lc' := [some _, none, none, none]) ⟨rfl, trivial⟩ (t_X8_gate_18 hX _ h)
set_option maxRecDepth 100000 in
set_option maxHeartbeats 4000000 in
theorem t_X8_gateIs_25 {l : Launch} {D : DT} {X : XT} {r : Int32} {μ' : Mem} (hX : Cx l D true X 2 RX8 cX8_gateIs 4 (some FieldType.int)) : ∀ (μ : Mem), f_X8_gateIs_25 μ = some (r, μ') → G l D true X 4 (some (.int r)) μ' 25 [some (.ref (D.1 0)), none, none, none] [] μ := by
  intro μ h
  unfold f_X8_gateIs_25 at h
  refine g_aload_n hX dX8_gateIs_25 rfl rfl ?_
  refine g_iconst hX dX8_gateIs_26 k_1 ?_
  obtain ⟨r1, μ2, hr1, h⟩ := bd2_some h
  refine g_callVi hX (c_X8_fail  _ hr1) mv_X8_fail wm_386 kd_true_0 rfl (by decide) (by decide) rfl rfl (Nat.le_of_ble_eq_true rfl) dX8_gateIs_27 ?_
  obtain ⟨rfl, rfl⟩ := pair_inj h
  exact g_iret hX rfl rfl dX8_gateIs_30
set_option maxRecDepth 100000 in
set_option maxHeartbeats 4000000 in
theorem c_X8_gateIs {l : Launch} {D : DT} {μ : Mem} {r : Int32} {μ' : Mem} (v1 : Int32) (v2 : Int32) (h : f_X8_gateIs v1 v2 μ = some (r, μ')) : Ct l D true 2 yX8_gateIs cX8_gateIs 4 (some FieldType.int) [.ref (D.1 0), .int v1, .int v2] μ (some (.int r)) μ' := by
  refine Ct.of (own := RX8) (lc0 := [some (.ref (D.1 0)), some (.int v1), some (.int v2), none]) pn_X8 rfl (Nat.le_of_ble_eq_true rfl) rfl mv_X8_gateIs.2.2.2.1 (fun X hX => ?_)
  unfold f_X8_gateIs at h
  refine g_aload_n hX dX8_gateIs_0 rfl rfl ?_
  refine g_getr hX kd_true_0 fg_8_0 tf_8_0 w_351 sr_true_0_0 dX8_gateIs_1 ?_
  refine g_getr hX wk_8_0 fg_0_2 tf_0_2 w_236 (wo_0_2 wk_8_0) dX8_gateIs_4 ?_
  refine g_astore_n (lc' := [some _, some _, some _, some _]) hX dX8_gateIs_7 rfl (by decide) rfl rfl ?_
  refine g_aload_n hX dX8_gateIs_8 rfl rfl ?_
  refine g_iload_n hX dX8_gateIs_9 rfl rfl ?_
  refine g_callVi hX (c_X2_isGate (wk_0_2 wk_8_0) v1) mv_X2_isGate wm_484 (wk_0_2 wk_8_0) rfl (by decide) (by decide) rfl rfl (Nat.le_of_ble_eq_true rfl) dX8_gateIs_10 ?_
  refine g_if_eq (tgt := 25) hX dX8_gateIs_13 (by decide) (fun q1 => ?_) (fun q1 => ?_)
  · rw [if_pos q1] at h
    exact g_weak (lc' := [some _, none, none, none]) ⟨rfl, trivial⟩ (t_X8_gateIs_25 hX _ h)
  · rw [if_neg q1] at h
    refine g_iload_n hX dX8_gateIs_16 rfl rfl ?_
    refine g_if_lt (tgt := 25) hX dX8_gateIs_17 (by decide) (fun q2 => ?_) (fun q2 => ?_)
    · rw [if_pos q2] at h
      exact g_weak (lc' := [some _, none, none, none]) ⟨rfl, trivial⟩ (t_X8_gateIs_25 hX _ h)
    · rw [if_neg q2] at h
      refine g_iload_n hX dX8_gateIs_20 rfl rfl ?_
      refine g_iconst hX dX8_gateIs_21 k_3 ?_
      refine g_icmp_le (tgt := 31) hX dX8_gateIs_22 (by decide) (fun q3 => ?_) (fun q3 => ?_)
      · rw [if_pos q3] at h
        refine g_iload_n hX dX8_gateIs_31 rfl rfl ?_
        by_cases q4 : v2 = 0
        · rw [if_pos q4] at h
          refine g_tsIn (tgt := 60) (off := 28) hX dX8_gateIs_32 (by rw [q4] <;> decide) (by rw [q4] <;> decide) (by rw [q4] <;> rfl) (by decide) ?_
          refine g_aload_n hX dX8_gateIs_60 rfl rfl ?_
          refine g_getr hX (wk_0_2 wk_8_0) fg_2_4 tf_2_4 w_156 (wo_2_4 (wk_0_2 wk_8_0)) dX8_gateIs_61 ?_
          refine g_iload_n hX dX8_gateIs_64 rfl rfl ?_
          obtain ⟨z5, h⟩ := ck_some h
          refine g_iald hX (wk_2_4 (wk_0_2 wk_8_0)).1 (wk_2_4 (wk_0_2 wk_8_0)).2 z5 dX8_gateIs_65 ?_
          obtain ⟨rfl, rfl⟩ := pair_inj h
          exact g_iret hX rfl rfl dX8_gateIs_66
        rw [if_neg q4] at h
        have eq4_0 := ts_ne (c := 0) (k := 0) q4 (by decide)
        by_cases q6 : v2 = 1
        · rw [if_pos q6] at h
          refine g_tsIn (tgt := 67) (off := 35) hX dX8_gateIs_32 (by rw [q6] <;> decide) (by rw [q6] <;> decide) (by rw [q6] <;> rfl) (by decide) ?_
          refine g_aload_n hX dX8_gateIs_67 rfl rfl ?_
          refine g_getr hX (wk_0_2 wk_8_0) fg_2_5 tf_2_5 w_158 (wo_2_5 (wk_0_2 wk_8_0)) dX8_gateIs_68 ?_
          refine g_iload_n hX dX8_gateIs_71 rfl rfl ?_
          obtain ⟨z7, h⟩ := ck_some h
          refine g_iald hX (wk_2_5 (wk_0_2 wk_8_0)).1 (wk_2_5 (wk_0_2 wk_8_0)).2 z7 dX8_gateIs_72 ?_
          obtain ⟨rfl, rfl⟩ := pair_inj h
          exact g_iret hX rfl rfl dX8_gateIs_73
        rw [if_neg q6] at h
        have eq6_1 := ts_ne (c := 1) (k := 1) q6 (by decide)
        by_cases q8 : v2 = 2
        · rw [if_pos q8] at h
          refine g_tsIn (tgt := 74) (off := 42) hX dX8_gateIs_32 (by rw [q8] <;> decide) (by rw [q8] <;> decide) (by rw [q8] <;> rfl) (by decide) ?_
          refine g_aload_n hX dX8_gateIs_74 rfl rfl ?_
          refine g_getr hX (wk_0_2 wk_8_0) fg_2_6 tf_2_6 w_160 (wo_2_6 (wk_0_2 wk_8_0)) dX8_gateIs_75 ?_
          refine g_iload_n hX dX8_gateIs_78 rfl rfl ?_
          obtain ⟨z9, h⟩ := ck_some h
          refine g_iald hX (wk_2_6 (wk_0_2 wk_8_0)).1 (wk_2_6 (wk_0_2 wk_8_0)).2 z9 dX8_gateIs_79 ?_
          obtain ⟨rfl, rfl⟩ := pair_inj h
          exact g_iret hX rfl rfl dX8_gateIs_80
        rw [if_neg q8] at h
        have eq8_2 := ts_ne (c := 2) (k := 2) q8 (by decide)
        refine g_tsOut (tgt := 81) hX dX8_gateIs_32 (by omega) (by decide) ?_
        refine g_aload_n hX dX8_gateIs_81 rfl rfl ?_
        refine g_getr hX (wk_0_2 wk_8_0) fg_2_7 tf_2_7 w_164 (wo_2_7 (wk_0_2 wk_8_0)) dX8_gateIs_82 ?_
        refine g_iload_n hX dX8_gateIs_85 rfl rfl ?_
        obtain ⟨z10, h⟩ := ck_some h
        refine g_iald hX (wk_2_7 (wk_0_2 wk_8_0)).1 (wk_2_7 (wk_0_2 wk_8_0)).2 z10 dX8_gateIs_86 ?_
        obtain ⟨rfl, rfl⟩ := pair_inj h
        exact g_iret hX rfl rfl dX8_gateIs_87
      · rw [if_neg q3] at h
        exact g_weak (lc' := [some _, none, none, none]) ⟨rfl, trivial⟩ (t_X8_gateIs_25 hX _ h)
set_option maxRecDepth 100000 in
set_option maxHeartbeats 4000000 in
theorem t_X8_grass_17 {l : Launch} {D : DT} {X : XT} {r : Int32} {μ' : Mem} (hX : Cx l D true X 2 RX8 cX8_grass 4 (some FieldType.int)) : ∀ (μ : Mem), f_X8_grass_17 μ = some (r, μ') → G l D true X 4 (some (.int r)) μ' 17 [some (.ref (D.1 0)), none, none, none] [] μ := by
  intro μ h
  unfold f_X8_grass_17 at h
  refine g_aload_n hX dX8_grass_17 rfl rfl ?_
  refine g_iconst hX dX8_grass_18 k_1 ?_
  obtain ⟨r1, μ2, hr1, h⟩ := bd2_some h
  refine g_callVi hX (c_X8_fail  _ hr1) mv_X8_fail wm_386 kd_true_0 rfl (by decide) (by decide) rfl rfl (Nat.le_of_ble_eq_true rfl) dX8_grass_19 ?_
  obtain ⟨rfl, rfl⟩ := pair_inj h
  exact g_iret hX rfl rfl dX8_grass_22
set_option maxRecDepth 100000 in
set_option maxHeartbeats 4000000 in
theorem c_X8_grass {l : Launch} {D : DT} {μ : Mem} {r : Int32} {μ' : Mem} (v1 : Int32) (v2 : Int32) (h : f_X8_grass v1 v2 μ = some (r, μ')) : Ct l D true 2 yX8_grass cX8_grass 4 (some FieldType.int) [.ref (D.1 0), .int v1, .int v2] μ (some (.int r)) μ' := by
  refine Ct.of (own := RX8) (lc0 := [some (.ref (D.1 0)), some (.int v1), some (.int v2), none]) pn_X8 rfl (Nat.le_of_ble_eq_true rfl) rfl mv_X8_grass.2.2.2.1 (fun X hX => ?_)
  unfold f_X8_grass at h
  refine g_iload_n hX dX8_grass_0 rfl rfl ?_
  refine g_callSi hX (c_X8_isField  v1) mv_X8_isField wm_473 (by decide) rfl rfl (Nat.le_of_ble_eq_true rfl) dX8_grass_1 ?_
  refine g_if_eq (tgt := 17) hX dX8_grass_4 (by decide) (fun q1 => ?_) (fun q1 => ?_)
  · rw [if_pos q1] at h
    exact g_weak (lc' := [some _, none, none, none]) ⟨rfl, trivial⟩ (t_X8_grass_17 hX _ h)
  · rw [if_neg q1] at h
    refine g_iload_n hX dX8_grass_7 rfl rfl ?_
    refine g_if_lt (tgt := 17) hX dX8_grass_8 (by decide) (fun q2 => ?_) (fun q2 => ?_)
    · rw [if_pos q2] at h
      exact g_weak (lc' := [some _, none, none, none]) ⟨rfl, trivial⟩ (t_X8_grass_17 hX _ h)
    · rw [if_neg q2] at h
      refine g_iload_n hX dX8_grass_11 rfl rfl ?_
      refine g_bipush hX dX8_grass_12 kb_99 ?_
      refine g_icmp_le (tgt := 23) hX dX8_grass_14 (by decide) (fun q3 => ?_) (fun q3 => ?_)
      · rw [if_pos q3] at h
        refine g_aload_n hX dX8_grass_23 rfl rfl ?_
        refine g_getr hX kd_true_0 fg_8_0 tf_8_0 w_351 sr_true_0_0 dX8_grass_24 ?_
        refine g_getr hX wk_8_0 fg_0_2 tf_0_2 w_236 (wo_0_2 wk_8_0) dX8_grass_27 ?_
        refine g_getr hX (wk_0_2 wk_8_0) fg_2_9 tf_2_9 w_169 (wo_2_9 (wk_0_2 wk_8_0)) dX8_grass_30 ?_
        refine g_iload_n hX dX8_grass_33 rfl rfl ?_
        obtain ⟨z4, h⟩ := ck_some h
        refine g_iald hX (wk_2_9 (wk_0_2 wk_8_0)).1 (wk_2_9 (wk_0_2 wk_8_0)).2 z4 dX8_grass_34 ?_
        refine g_istore_n (lc' := [some _, some _, some _, some _]) hX dX8_grass_35 rfl (by decide) rfl rfl ?_
        refine g_aload_n hX dX8_grass_36 rfl rfl ?_
        refine g_getr hX kd_true_0 fg_8_0 tf_8_0 w_351 sr_true_0_0 dX8_grass_37 ?_
        refine g_getr hX wk_8_0 fg_0_2 tf_0_2 w_236 (wo_0_2 wk_8_0) dX8_grass_40 ?_
        refine g_getr hX (wk_0_2 wk_8_0) fg_2_9 tf_2_9 w_169 (wo_2_9 (wk_0_2 wk_8_0)) dX8_grass_43 ?_
        refine g_iload_n hX dX8_grass_46 rfl rfl ?_
        refine g_iload_n hX dX8_grass_47 rfl rfl ?_
        obtain ⟨z6, h⟩ := ck_some h
        obtain ⟨μ5, hμ5, h⟩ := wr_some h
        refine g_iastM hX (wk_2_9 (wk_0_2 wk_8_0)).1 (wk_2_9 (wk_0_2 wk_8_0)).2 z6 dX8_grass_48 hμ5 ?_
        refine g_iload_n hX dX8_grass_49 rfl rfl ?_
        obtain ⟨rfl, rfl⟩ := pair_inj h
        exact g_iret hX rfl rfl dX8_grass_50
      · rw [if_neg q3] at h
        exact g_weak (lc' := [some _, none, none, none]) ⟨rfl, trivial⟩ (t_X8_grass_17 hX _ h)
set_option maxRecDepth 100000 in
set_option maxHeartbeats 4000000 in
theorem t_X8_hold_24 {l : Launch} {D : DT} {X : XT} {r : Int32} {μ' : Mem} (hX : Cx l D true X 3 RX8 cX8_hold 5 (some FieldType.int)) : ∀ (μ : Mem), f_X8_hold_24 μ = some (r, μ') → G l D true X 5 (some (.int r)) μ' 24 [some (.ref (D.1 0)), none, none, none, none] [] μ := by
  intro μ h
  unfold f_X8_hold_24 at h
  refine g_aload_n hX dX8_hold_24 rfl rfl ?_
  refine g_iconst hX dX8_hold_25 k_1 ?_
  obtain ⟨r1, μ2, hr1, h⟩ := bd2_some h
  refine g_callVi hX (c_X8_fail  _ hr1) mv_X8_fail wm_386 kd_true_0 rfl (by decide) (by decide) rfl rfl (Nat.le_of_ble_eq_true rfl) dX8_hold_26 ?_
  obtain ⟨rfl, rfl⟩ := pair_inj h
  exact g_iret hX rfl rfl dX8_hold_29
set_option maxRecDepth 100000 in
set_option maxHeartbeats 4000000 in
theorem c_X8_hold {l : Launch} {D : DT} {μ : Mem} {r : Int32} {μ' : Mem} (v1 : Int32) (v2 : Int32) (h : f_X8_hold v1 v2 μ = some (r, μ')) : Ct l D true 3 yX8_hold cX8_hold 5 (some FieldType.int) [.ref (D.1 0), .int v1, .int v2] μ (some (.int r)) μ' := by
  refine Ct.of (own := RX8) (lc0 := [some (.ref (D.1 0)), some (.int v1), some (.int v2), none, none]) pn_X8 rfl (Nat.le_of_ble_eq_true rfl) rfl mv_X8_hold.2.2.2.1 (fun X hX => ?_)
  unfold f_X8_hold at h
  refine g_aload_n hX dX8_hold_0 rfl rfl ?_
  refine g_getr hX kd_true_0 fg_8_0 tf_8_0 w_351 sr_true_0_0 dX8_hold_1 ?_
  refine g_getr hX wk_8_0 fg_0_2 tf_0_2 w_236 (wo_0_2 wk_8_0) dX8_hold_4 ?_
  refine g_astore_n (lc' := [some _, some _, some _, some _, none]) hX dX8_hold_7 rfl (by decide) rfl rfl ?_
  refine g_aload_n hX dX8_hold_8 rfl rfl ?_
  refine g_iload_n hX dX8_hold_9 rfl rfl ?_
  refine g_callVi hX (c_X2_isGate (wk_0_2 wk_8_0) v1) mv_X2_isGate wm_484 (wk_0_2 wk_8_0) rfl (by decide) (by decide) rfl rfl (Nat.le_of_ble_eq_true rfl) dX8_hold_10 ?_
  refine g_if_eq (tgt := 24) hX dX8_hold_13 (by decide) (fun q1 => ?_) (fun q1 => ?_)
  · rw [if_pos q1] at h
    exact g_weak (lc' := [some _, none, none, none, none]) ⟨rfl, trivial⟩ (t_X8_hold_24 hX _ h)
  · rw [if_neg q1] at h
    refine g_aload_n hX dX8_hold_16 rfl rfl ?_
    refine g_iload_n hX dX8_hold_17 rfl rfl ?_
    refine g_callVi hX (c_X2_isHolder (wk_0_2 wk_8_0) v2) mv_X2_isHolder wm_489 (wk_0_2 wk_8_0) rfl (by decide) (by decide) rfl rfl (Nat.le_of_ble_eq_true rfl) dX8_hold_18 ?_
    refine g_if_ne (tgt := 30) hX dX8_hold_21 (by decide) (fun q2 => ?_) (fun q2 => ?_)
    · rw [if_neg q2] at h
      refine g_aload_n hX dX8_hold_30 rfl rfl ?_
      refine g_getr hX (wk_0_2 wk_8_0) fg_2_7 tf_2_7 w_164 (wo_2_7 (wk_0_2 wk_8_0)) dX8_hold_31 ?_
      refine g_iload_n hX dX8_hold_34 rfl rfl ?_
      obtain ⟨z3, h⟩ := ck_some h
      refine g_iald hX (wk_2_7 (wk_0_2 wk_8_0)).1 (wk_2_7 (wk_0_2 wk_8_0)).2 z3 dX8_hold_35 ?_
      refine g_istore (lc' := [some _, some _, some _, some _, some _]) hX dX8_hold_36 (by decide) rfl rfl ?_
      refine g_aload_n hX dX8_hold_38 rfl rfl ?_
      refine g_getr hX (wk_0_2 wk_8_0) fg_2_7 tf_2_7 w_164 (wo_2_7 (wk_0_2 wk_8_0)) dX8_hold_39 ?_
      refine g_iload_n hX dX8_hold_42 rfl rfl ?_
      refine g_iload_n hX dX8_hold_43 rfl rfl ?_
      obtain ⟨z5, h⟩ := ck_some h
      obtain ⟨μ4, hμ4, h⟩ := wr_some h
      refine g_iastM hX (wk_2_7 (wk_0_2 wk_8_0)).1 (wk_2_7 (wk_0_2 wk_8_0)).2 z5 dX8_hold_44 hμ4 ?_
      refine g_iload hX dX8_hold_45 rfl ?_
      obtain ⟨rfl, rfl⟩ := pair_inj h
      exact g_iret hX rfl rfl dX8_hold_47
    · rw [if_pos q2] at h
      exact g_weak (lc' := [some _, none, none, none, none]) ⟨rfl, trivial⟩ (t_X8_hold_24 hX _ h)
set_option maxRecDepth 100000 in
set_option maxHeartbeats 4000000 in
theorem c_X8_holds {l : Launch} {D : DT} {μ : Mem} {r : Int32} {μ' : Mem} (v1 : Int32) (h : f_X8_holds v1 μ = some (r, μ')) : Ct l D true 4 yX8_holds cX8_holds 2 (some FieldType.int) [.ref (D.1 0), .int v1] μ (some (.int r)) μ' := by
  refine Ct.of (own := RX8) (lc0 := [some (.ref (D.1 0)), some (.int v1)]) pn_X8 rfl (Nat.le_of_ble_eq_true rfl) rfl mv_X8_holds.2.2.2.1 (fun X hX => ?_)
  unfold f_X8_holds at h
  refine g_iload_n hX dX8_holds_0 rfl rfl ?_
  refine g_callSi hX (c_X8_isSheet  v1) mv_X8_isSheet wm_829 (by decide) rfl rfl (Nat.le_of_ble_eq_true rfl) dX8_holds_1 ?_
  refine g_if_ne (tgt := 13) hX dX8_holds_4 (by decide) (fun q1 => ?_) (fun q1 => ?_)
  · rw [if_neg q1] at h
    refine g_aload_n hX dX8_holds_13 rfl rfl ?_
    refine g_getr hX kd_true_0 fg_8_6 tf_8_6 w_357 sr_true_0_6 dX8_holds_14 ?_
    refine g_iload_n hX dX8_holds_17 rfl rfl ?_
    obtain ⟨z2, h⟩ := ck_some h
    refine g_sheet hX z2 dX8_holds_18 ?_
    refine g_callVi hX (c_X5_isMissing (sheet_kd z2)) mv_X5_isMissing wm_832 (sheet_kd z2) rfl (by decide) (by decide) rfl rfl (Nat.le_of_ble_eq_true rfl) dX8_holds_19 ?_
    refine g_if_eq (tgt := 31) hX dX8_holds_22 (by decide) (fun q3 => ?_) (fun q3 => ?_)
    · rw [if_pos q3] at h
      refine g_aload_n hX dX8_holds_31 rfl rfl ?_
      refine g_getr hX kd_true_0 fg_8_6 tf_8_6 w_357 sr_true_0_6 dX8_holds_32 ?_
      refine g_iload_n hX dX8_holds_35 rfl rfl ?_
      obtain ⟨z4, h⟩ := ck_some h
      refine g_sheet hX z4 dX8_holds_36 ?_
      refine g_aload_n hX dX8_holds_37 rfl rfl ?_
      refine g_getr hX kd_true_0 fg_8_0 tf_8_0 w_351 sr_true_0_0 dX8_holds_38 ?_
      refine g_getr hX wk_8_0 fg_0_2 tf_0_2 w_236 (wo_0_2 wk_8_0) dX8_holds_41 ?_
      obtain ⟨r5, μ6, hr5, h⟩ := bd2_some h
      refine g_callVi hX (c_X5_giveHolders (sheet_kd z4) (wk_0_2 wk_8_0) hr5) mv_X5_giveHolders wm_904 (sheet_kd z4) rfl (by decide) (by decide) rfl rfl (Nat.le_of_ble_eq_true rfl) dX8_holds_44 ?_
      obtain ⟨rfl, rfl⟩ := pair_inj h
      exact g_iret hX rfl rfl dX8_holds_47
    · rw [if_neg q3] at h
      refine g_aload_n hX dX8_holds_25 rfl rfl ?_
      refine g_iconst hX dX8_holds_26 k_2 ?_
      obtain ⟨r7, μ8, hr7, h⟩ := bd2_some h
      refine g_callVi hX (c_X8_fail  _ hr7) mv_X8_fail wm_386 kd_true_0 rfl (by decide) (by decide) rfl rfl (Nat.le_of_ble_eq_true rfl) dX8_holds_27 ?_
      obtain ⟨rfl, rfl⟩ := pair_inj h
      exact g_iret hX rfl rfl dX8_holds_30
  · rw [if_pos q1] at h
    refine g_aload_n hX dX8_holds_7 rfl rfl ?_
    refine g_iconst hX dX8_holds_8 k_1 ?_
    obtain ⟨r9, μ10, hr9, h⟩ := bd2_some h
    refine g_callVi hX (c_X8_fail  _ hr9) mv_X8_fail wm_386 kd_true_0 rfl (by decide) (by decide) rfl rfl (Nat.le_of_ble_eq_true rfl) dX8_holds_9 ?_
    obtain ⟨rfl, rfl⟩ := pair_inj h
    exact g_iret hX rfl rfl dX8_holds_12
set_option maxRecDepth 100000 in
set_option maxHeartbeats 4000000 in
theorem t_X8_hour_11 {l : Launch} {D : DT} {X : XT} {r : Int32} {μ' : Mem} (hX : Cx l D true X 2 RX8 cX8_hour 3 (some FieldType.int)) : ∀ (μ : Mem), f_X8_hour_11 μ = some (r, μ') → G l D true X 3 (some (.int r)) μ' 11 [some (.ref (D.1 0)), none, none] [] μ := by
  intro μ h
  unfold f_X8_hour_11 at h
  refine g_aload_n hX dX8_hour_11 rfl rfl ?_
  refine g_iconst hX dX8_hour_12 k_1 ?_
  obtain ⟨r1, μ2, hr1, h⟩ := bd2_some h
  refine g_callVi hX (c_X8_fail  _ hr1) mv_X8_fail wm_386 kd_true_0 rfl (by decide) (by decide) rfl rfl (Nat.le_of_ble_eq_true rfl) dX8_hour_13 ?_
  obtain ⟨rfl, rfl⟩ := pair_inj h
  exact g_iret hX rfl rfl dX8_hour_16
set_option maxRecDepth 100000 in
set_option maxHeartbeats 4000000 in
theorem c_X8_hour {l : Launch} {D : DT} {μ : Mem} {r : Int32} {μ' : Mem} (v1 : Int32) (h : f_X8_hour v1 μ = some (r, μ')) : Ct l D true 2 yX8_hour cX8_hour 3 (some FieldType.int) [.ref (D.1 0), .int v1] μ (some (.int r)) μ' := by
  refine Ct.of (own := RX8) (lc0 := [some (.ref (D.1 0)), some (.int v1), none]) pn_X8 rfl (Nat.le_of_ble_eq_true rfl) rfl mv_X8_hour.2.2.2.1 (fun X hX => ?_)
  unfold f_X8_hour at h
  refine g_iload_n hX dX8_hour_0 rfl rfl ?_
  refine g_if_lt (tgt := 11) hX dX8_hour_1 (by decide) (fun q1 => ?_) (fun q1 => ?_)
  · rw [if_pos q1] at h
    exact g_weak (lc' := [some _, none, none]) ⟨rfl, trivial⟩ (t_X8_hour_11 hX _ h)
  · rw [if_neg q1] at h
    refine g_iload_n hX dX8_hour_4 rfl rfl ?_
    refine g_sipush hX dX8_hour_5 ks_9999 ?_
    refine g_icmp_le (tgt := 17) hX dX8_hour_8 (by decide) (fun q2 => ?_) (fun q2 => ?_)
    · rw [if_pos q2] at h
      refine g_aload_n hX dX8_hour_17 rfl rfl ?_
      refine g_getr hX kd_true_0 fg_8_0 tf_8_0 w_351 sr_true_0_0 dX8_hour_18 ?_
      refine g_getr hX wk_8_0 fg_0_2 tf_0_2 w_236 (wo_0_2 wk_8_0) dX8_hour_21 ?_
      refine g_geti hX (wk_0_2 wk_8_0) fg_2_13 tf_2_13 w_181 dX8_hour_24 ?_
      refine g_istore_n (lc' := [some _, some _, some _]) hX dX8_hour_27 rfl (by decide) rfl rfl ?_
      refine g_aload_n hX dX8_hour_28 rfl rfl ?_
      refine g_getr hX kd_true_0 fg_8_0 tf_8_0 w_351 sr_true_0_0 dX8_hour_29 ?_
      refine g_getr hX wk_8_0 fg_0_2 tf_0_2 w_236 (wo_0_2 wk_8_0) dX8_hour_32 ?_
      refine g_iload_n hX dX8_hour_35 rfl rfl ?_
      obtain ⟨μ3, hμ3, h⟩ := wr_some h
      refine g_puti hX (wk_0_2 wk_8_0) fg_2_13 tf_2_13 tyX2_ok nmX2 rfl w_181 dX8_hour_36 hμ3 ?_
      refine g_iload_n hX dX8_hour_39 rfl rfl ?_
      obtain ⟨rfl, rfl⟩ := pair_inj h
      exact g_iret hX rfl rfl dX8_hour_40
    · rw [if_neg q2] at h
      exact g_weak (lc' := [some _, none, none]) ⟨rfl, trivial⟩ (t_X8_hour_11 hX _ h)
set_option maxRecDepth 100000 in
set_option maxHeartbeats 4000000 in
theorem t_X8_hours_11 {l : Launch} {D : DT} {X : XT} {r : Int32} {μ' : Mem} (hX : Cx l D true X 7 RX8 cX8_hours 3 (some FieldType.int)) : ∀ (μ : Mem), f_X8_hours_11 μ = some (r, μ') → G l D true X 3 (some (.int r)) μ' 11 [some (.ref (D.1 0)), none, none] [] μ := by
  intro μ h
  unfold f_X8_hours_11 at h
  refine g_aload_n hX dX8_hours_11 rfl rfl ?_
  refine g_iconst hX dX8_hours_12 k_1 ?_
  obtain ⟨r1, μ2, hr1, h⟩ := bd2_some h
  refine g_callVi hX (c_X8_fail  _ hr1) mv_X8_fail wm_386 kd_true_0 rfl (by decide) (by decide) rfl rfl (Nat.le_of_ble_eq_true rfl) dX8_hours_13 ?_
  obtain ⟨rfl, rfl⟩ := pair_inj h
  exact g_iret hX rfl rfl dX8_hours_16
set_option maxRecDepth 100000 in
set_option maxHeartbeats 4000000 in
theorem t_X8_hours_64 {l : Launch} {D : DT} {X : XT} {r : Int32} {μ' : Mem} (hX : Cx l D true X 7 RX8 cX8_hours 3 (some FieldType.int)) : ∀ (μ : Mem), f_X8_hours_64 μ = some (r, μ') → G l D true X 3 (some (.int r)) μ' 64 [some (.ref (D.1 0)), none, none] [] μ := by
  intro μ h
  unfold f_X8_hours_64 at h
  refine g_aload_n hX dX8_hours_64 rfl rfl ?_
  refine g_getr hX kd_true_0 fg_8_0 tf_8_0 w_351 sr_true_0_0 dX8_hours_65 ?_
  refine g_getr hX wk_8_0 fg_0_2 tf_0_2 w_236 (wo_0_2 wk_8_0) dX8_hours_68 ?_
  obtain ⟨r1, hr1, h⟩ := bd_some h
  refine g_callVi hX (c_X2_openGates (wk_0_2 wk_8_0) hr1) mv_X2_openGates wm_719 (wk_0_2 wk_8_0) rfl (by decide) (by decide) rfl rfl (Nat.le_of_ble_eq_true rfl) dX8_hours_71 ?_
  obtain ⟨rfl, rfl⟩ := pair_inj h
  exact g_iret hX rfl rfl dX8_hours_74
set_option maxRecDepth 100000 in
set_option maxHeartbeats 4000000 in
theorem t_X8_hours_43 {l : Launch} {D : DT} {X : XT} {r : Int32} {μ' : Mem} (hX : Cx l D true X 7 RX8 cX8_hours 3 (some FieldType.int)) : ∀ (n : Nat) (v1 : Int32) (v2 : Int32) (μ : Mem), f_X8_hours_43 n v1 v2 μ = some (r, μ') → G l D true X 3 (some (.int r)) μ' 43 [some (.ref (D.1 0)), some (.int v1), some (.int v2)] [] μ := by
  intro n
  induction n with
  | zero => intro v1 v2 μ h; exact absurd h (by simp [f_X8_hours_43])
  | succ n ih =>
    intro v1 v2 μ h
    rw [f_X8_hours_43] at h
    refine g_iload_n hX dX8_hours_43 rfl rfl ?_
    refine g_iload_n hX dX8_hours_44 rfl rfl ?_
    refine g_icmp_ge (tgt := 64) hX dX8_hours_45 (by decide) (fun q1 => ?_) (fun q1 => ?_)
    · rw [if_pos q1] at h
      exact g_weak (lc' := [some _, none, none]) ⟨rfl, trivial⟩ (t_X8_hours_64 hX _ h)
    · rw [if_neg q1] at h
      refine g_aload_n hX dX8_hours_48 rfl rfl ?_
      refine g_getr hX kd_true_0 fg_8_0 tf_8_0 w_351 sr_true_0_0 dX8_hours_49 ?_
      refine g_getr hX wk_8_0 fg_0_2 tf_0_2 w_236 (wo_0_2 wk_8_0) dX8_hours_52 ?_
      obtain ⟨μ2, hμ2, h⟩ := bd_some h
      refine g_callVv hX (c_X2_anHour (wk_0_2 wk_8_0) hμ2) mv_X2_anHour wm_694 (wk_0_2 wk_8_0) rfl (by decide) (by decide) rfl rfl (Nat.le_of_ble_eq_true rfl) dX8_hours_55 ?_
      refine g_iinc (lc' := [some _, some _, some _]) hX dX8_hours_58 (by decide) rfl (congrArg _ k_1) rfl rfl ?_
      refine g_goto (tgt := 43) hX dX8_hours_61 (by decide) ?_
      exact g_weak (lc' := [some _, some _, some _]) ⟨rfl, rfl, rfl, trivial⟩ (ih _ _ _ h)
set_option maxRecDepth 100000 in
set_option maxHeartbeats 4000000 in
theorem c_X8_hours {l : Launch} {D : DT} {μ : Mem} {r : Int32} {μ' : Mem} (v1 : Int32) (h : f_X8_hours v1 μ = some (r, μ')) : Ct l D true 7 yX8_hours cX8_hours 3 (some FieldType.int) [.ref (D.1 0), .int v1] μ (some (.int r)) μ' := by
  refine Ct.of (own := RX8) (lc0 := [some (.ref (D.1 0)), some (.int v1), none]) pn_X8 rfl (Nat.le_of_ble_eq_true rfl) rfl mv_X8_hours.2.2.2.1 (fun X hX => ?_)
  unfold f_X8_hours at h
  refine g_iload_n hX dX8_hours_0 rfl rfl ?_
  refine g_iconst hX dX8_hours_1 k_1 ?_
  refine g_icmp_lt (tgt := 11) hX dX8_hours_2 (by decide) (fun q1 => ?_) (fun q1 => ?_)
  · rw [if_pos q1] at h
    exact g_weak (lc' := [some _, none, none]) ⟨rfl, trivial⟩ (t_X8_hours_11 hX _ h)
  · rw [if_neg q1] at h
    refine g_iload_n hX dX8_hours_5 rfl rfl ?_
    refine g_bipush hX dX8_hours_6 kb_60 ?_
    refine g_icmp_le (tgt := 17) hX dX8_hours_8 (by decide) (fun q2 => ?_) (fun q2 => ?_)
    · rw [if_pos q2] at h
      refine g_aload_n hX dX8_hours_17 rfl rfl ?_
      refine g_getr hX kd_true_0 fg_8_0 tf_8_0 w_351 sr_true_0_0 dX8_hours_18 ?_
      refine g_getr hX wk_8_0 fg_0_2 tf_0_2 w_236 (wo_0_2 wk_8_0) dX8_hours_21 ?_
      refine g_geti hX (wk_0_2 wk_8_0) fg_2_13 tf_2_13 w_181 dX8_hours_24 ?_
      refine g_iload_n hX dX8_hours_27 rfl rfl ?_
      refine g_iadd hX dX8_hours_28 ?_
      refine g_sipush hX dX8_hours_29 ks_9999 ?_
      refine g_icmp_le (tgt := 41) hX dX8_hours_32 (by decide) (fun q3 => ?_) (fun q3 => ?_)
      · rw [if_pos q3] at h
        refine g_iconst hX dX8_hours_41 k_0 ?_
        refine g_istore_n (lc' := [some _, some _, some _]) hX dX8_hours_42 rfl (by decide) rfl rfl ?_
        exact g_weak (lc' := [some _, some _, some _]) ⟨rfl, rfl, rfl, trivial⟩ (t_X8_hours_43 hX 2000 _ _ _ h)
      · rw [if_neg q3] at h
        refine g_aload_n hX dX8_hours_35 rfl rfl ?_
        refine g_iconst hX dX8_hours_36 k_3 ?_
        obtain ⟨r4, μ5, hr4, h⟩ := bd2_some h
        refine g_callVi hX (c_X8_fail  _ hr4) mv_X8_fail wm_386 kd_true_0 rfl (by decide) (by decide) rfl rfl (Nat.le_of_ble_eq_true rfl) dX8_hours_37 ?_
        obtain ⟨rfl, rfl⟩ := pair_inj h
        exact g_iret hX rfl rfl dX8_hours_40
    · rw [if_neg q2] at h
      exact g_weak (lc' := [some _, none, none]) ⟨rfl, trivial⟩ (t_X8_hours_11 hX _ h)
set_option maxRecDepth 100000 in
set_option maxHeartbeats 4000000 in
theorem c_X8_image {l : Launch} {D : DT} {μ : Mem} {r : Int32} {μ' : Mem} (h : f_X8_image μ = some (r, μ')) : Ct l D true 5 yX8_image cX8_image 1 (some FieldType.int) [.ref (D.1 0)] μ (some (.int r)) μ' := by
  refine Ct.of (own := RX8) (lc0 := [some (.ref (D.1 0))]) pn_X8 rfl (Nat.le_of_ble_eq_true rfl) rfl mv_X8_image.2.2.2.1 (fun X hX => ?_)
  unfold f_X8_image at h
  refine g_aload_n hX dX8_image_0 rfl rfl ?_
  refine g_getr hX kd_true_0 fg_8_1 tf_8_1 w_352 sr_true_0_1 dX8_image_1 ?_
  refine g_aload_n hX dX8_image_4 rfl rfl ?_
  refine g_getr hX kd_true_0 fg_8_0 tf_8_0 w_351 sr_true_0_0 dX8_image_5 ?_
  obtain ⟨μ1, hμ1, h⟩ := bd_some h
  refine g_callVv hX (c_X0_copyOf wk_8_1 wk_8_0 hμ1) mv_X0_copyOf wm_922 wk_8_1 rfl (by decide) (by decide) rfl rfl (Nat.le_of_ble_eq_true rfl) dX8_image_8 ?_
  refine g_aload_n hX dX8_image_11 rfl rfl ?_
  refine g_dup hX dX8_image_12 rfl ?_
  refine g_geti hX kd_true_0 fg_8_8 tf_8_8 w_359 dX8_image_13 ?_
  refine g_iconst hX dX8_image_16 k_1 ?_
  refine g_iadd hX dX8_image_17 ?_
  obtain ⟨μ2, hμ2, h⟩ := wr_some h
  refine g_puti hX kd_true_0 fg_8_8 tf_8_8 tyX8_ok nmX8 rfl w_359 dX8_image_18 hμ2 ?_
  refine g_aload_n hX dX8_image_21 rfl rfl ?_
  refine g_geti hX kd_true_0 fg_8_8 tf_8_8 w_359 dX8_image_22 ?_
  obtain ⟨rfl, rfl⟩ := pair_inj h
  exact g_iret hX rfl rfl dX8_image_25
set_option maxRecDepth 100000 in
set_option maxHeartbeats 4000000 in
theorem c_X8_isUse {l : Launch} {D : DT} {μ : Mem} (v0 : Int32) : Ct l D true 1 yX8_isUse cX8_isUse 1 (some FieldType.boolean) [.int v0] μ (some (.int (f_X8_isUse v0))) μ := by
  obtain ⟨r, h⟩ : ∃ r, f_X8_isUse v0 = r := ⟨_, rfl⟩
  rw [h]
  refine Ct.of (own := RX8) (lc0 := [some (.int v0)]) pn_X8 rfl (Nat.le_of_ble_eq_true rfl) rfl mv_X8_isUse.2.2.1 (fun X hX => ?_)
  unfold f_X8_isUse at h
  refine g_iload_n hX dX8_isUse_0 rfl rfl ?_
  refine g_if_lt (tgt := 13) hX dX8_isUse_1 (by decide) (fun q1 => ?_) (fun q1 => ?_)
  · rw [if_pos q1] at h
    refine g_iconst hX dX8_isUse_13 k_0 ?_
    subst h
    exact g_iret hX rfl rfl dX8_isUse_14
  · rw [if_neg q1] at h
    refine g_iload_n hX dX8_isUse_4 rfl rfl ?_
    refine g_iconst hX dX8_isUse_5 k_2 ?_
    refine g_icmp_ge (tgt := 13) hX dX8_isUse_6 (by decide) (fun q2 => ?_) (fun q2 => ?_)
    · rw [if_pos q2] at h
      refine g_iconst hX dX8_isUse_13 k_0 ?_
      subst h
      exact g_iret hX rfl rfl dX8_isUse_14
    · rw [if_neg q2] at h
      refine g_iconst hX dX8_isUse_9 k_1 ?_
      refine g_goto (tgt := 14) hX dX8_isUse_10 (by decide) ?_
      subst h
      exact g_iret hX rfl rfl dX8_isUse_14
set_option maxRecDepth 100000 in
set_option maxHeartbeats 4000000 in
theorem c_X8_isWidth {l : Launch} {D : DT} {μ : Mem} (v0 : Int32) : Ct l D true 1 yX8_isWidth cX8_isWidth 1 (some FieldType.boolean) [.int v0] μ (some (.int (f_X8_isWidth v0))) μ := by
  obtain ⟨r, h⟩ : ∃ r, f_X8_isWidth v0 = r := ⟨_, rfl⟩
  rw [h]
  refine Ct.of (own := RX8) (lc0 := [some (.int v0)]) pn_X8 rfl (Nat.le_of_ble_eq_true rfl) rfl mv_X8_isWidth.2.2.1 (fun X hX => ?_)
  unfold f_X8_isWidth at h
  refine g_iload_n hX dX8_isWidth_0 rfl rfl ?_
  refine g_if_eq (tgt := 22) hX dX8_isWidth_1 (by decide) (fun q1 => ?_) (fun q1 => ?_)
  · rw [if_pos q1] at h
    refine g_iconst hX dX8_isWidth_22 k_1 ?_
    refine g_goto (tgt := 27) hX dX8_isWidth_23 (by decide) ?_
    subst h
    exact g_iret hX rfl rfl dX8_isWidth_27
  · rw [if_neg q1] at h
    refine g_iload_n hX dX8_isWidth_4 rfl rfl ?_
    refine g_bipush hX dX8_isWidth_5 kb_8 ?_
    refine g_icmp_eq (tgt := 22) hX dX8_isWidth_7 (by decide) (fun q2 => ?_) (fun q2 => ?_)
    · rw [if_pos q2] at h
      refine g_iconst hX dX8_isWidth_22 k_1 ?_
      refine g_goto (tgt := 27) hX dX8_isWidth_23 (by decide) ?_
      subst h
      exact g_iret hX rfl rfl dX8_isWidth_27
    · rw [if_neg q2] at h
      refine g_iload_n hX dX8_isWidth_10 rfl rfl ?_
      refine g_bipush hX dX8_isWidth_11 kb_16 ?_
      refine g_icmp_eq (tgt := 22) hX dX8_isWidth_13 (by decide) (fun q3 => ?_) (fun q3 => ?_)
      · rw [if_pos q3] at h
        refine g_iconst hX dX8_isWidth_22 k_1 ?_
        refine g_goto (tgt := 27) hX dX8_isWidth_23 (by decide) ?_
        subst h
        exact g_iret hX rfl rfl dX8_isWidth_27
      · rw [if_neg q3] at h
        refine g_iload_n hX dX8_isWidth_16 rfl rfl ?_
        refine g_bipush hX dX8_isWidth_17 kb_32 ?_
        refine g_icmp_ne (tgt := 26) hX dX8_isWidth_19 (by decide) (fun q4 => ?_) (fun q4 => ?_)
        · rw [if_neg q4] at h
          refine g_iconst hX dX8_isWidth_26 k_0 ?_
          subst h
          exact g_iret hX rfl rfl dX8_isWidth_27
        · rw [if_pos q4] at h
          refine g_iconst hX dX8_isWidth_22 k_1 ?_
          refine g_goto (tgt := 27) hX dX8_isWidth_23 (by decide) ?_
          subst h
          exact g_iret hX rfl rfl dX8_isWidth_27
set_option maxRecDepth 100000 in
set_option maxHeartbeats 4000000 in
theorem c_X8_judge {l : Launch} {D : DT} {μ : Mem} {r : Int32} {μ' : Mem} (v1 : Int32) (h : f_X8_judge v1 μ = some (r, μ')) : Ct l D true 3 yX8_judge cX8_judge 2 (some FieldType.int) [.ref (D.1 0), .int v1] μ (some (.int r)) μ' := by
  refine Ct.of (own := RX8) (lc0 := [some (.ref (D.1 0)), some (.int v1)]) pn_X8 rfl (Nat.le_of_ble_eq_true rfl) rfl mv_X8_judge.2.2.2.1 (fun X hX => ?_)
  unfold f_X8_judge at h
  refine g_iload_n hX dX8_judge_0 rfl rfl ?_
  refine g_callSi hX (c_X8_isSheet  v1) mv_X8_isSheet wm_829 (by decide) rfl rfl (Nat.le_of_ble_eq_true rfl) dX8_judge_1 ?_
  refine g_if_ne (tgt := 13) hX dX8_judge_4 (by decide) (fun q1 => ?_) (fun q1 => ?_)
  · rw [if_neg q1] at h
    refine g_aload_n hX dX8_judge_13 rfl rfl ?_
    refine g_getr hX kd_true_0 fg_8_6 tf_8_6 w_357 sr_true_0_6 dX8_judge_14 ?_
    refine g_iload_n hX dX8_judge_17 rfl rfl ?_
    obtain ⟨z2, h⟩ := ck_some h
    refine g_sheet hX z2 dX8_judge_18 ?_
    refine g_callVi hX (c_X5_isMissing (sheet_kd z2)) mv_X5_isMissing wm_832 (sheet_kd z2) rfl (by decide) (by decide) rfl rfl (Nat.le_of_ble_eq_true rfl) dX8_judge_19 ?_
    refine g_if_eq (tgt := 31) hX dX8_judge_22 (by decide) (fun q3 => ?_) (fun q3 => ?_)
    · rw [if_pos q3] at h
      refine g_aload_n hX dX8_judge_31 rfl rfl ?_
      refine g_getr hX kd_true_0 fg_8_6 tf_8_6 w_357 sr_true_0_6 dX8_judge_32 ?_
      refine g_iload_n hX dX8_judge_35 rfl rfl ?_
      obtain ⟨z4, h⟩ := ck_some h
      refine g_sheet hX z4 dX8_judge_36 ?_
      refine g_aload_n hX dX8_judge_37 rfl rfl ?_
      refine g_getr hX kd_true_0 fg_8_0 tf_8_0 w_351 sr_true_0_0 dX8_judge_38 ?_
      refine g_getr hX wk_8_0 fg_0_2 tf_0_2 w_236 (wo_0_2 wk_8_0) dX8_judge_41 ?_
      obtain ⟨r5, hr5, h⟩ := bd_some h
      refine g_callVi hX (c_X5_rightGrass (sheet_kd z4) (wk_0_2 wk_8_0) hr5) mv_X5_rightGrass wm_913 (sheet_kd z4) rfl (by decide) (by decide) rfl rfl (Nat.le_of_ble_eq_true rfl) dX8_judge_44 ?_
      obtain ⟨rfl, rfl⟩ := pair_inj h
      exact g_iret hX rfl rfl dX8_judge_47
    · rw [if_neg q3] at h
      refine g_aload_n hX dX8_judge_25 rfl rfl ?_
      refine g_iconst hX dX8_judge_26 k_2 ?_
      obtain ⟨r6, μ7, hr6, h⟩ := bd2_some h
      refine g_callVi hX (c_X8_fail  _ hr6) mv_X8_fail wm_386 kd_true_0 rfl (by decide) (by decide) rfl rfl (Nat.le_of_ble_eq_true rfl) dX8_judge_27 ?_
      obtain ⟨rfl, rfl⟩ := pair_inj h
      exact g_iret hX rfl rfl dX8_judge_30
  · rw [if_pos q1] at h
    refine g_aload_n hX dX8_judge_7 rfl rfl ?_
    refine g_iconst hX dX8_judge_8 k_1 ?_
    obtain ⟨r8, μ9, hr8, h⟩ := bd2_some h
    refine g_callVi hX (c_X8_fail  _ hr8) mv_X8_fail wm_386 kd_true_0 rfl (by decide) (by decide) rfl rfl (Nat.le_of_ble_eq_true rfl) dX8_judge_9 ?_
    obtain ⟨rfl, rfl⟩ := pair_inj h
    exact g_iret hX rfl rfl dX8_judge_12
set_option maxRecDepth 100000 in
set_option maxHeartbeats 4000000 in
theorem c_X8_law {l : Launch} {D : DT} {μ : Mem} {r : Int32} {μ' : Mem} (v1 : Int32) (v2 : Int32) (v3 : Int32) (v4 : Int32) (h : f_X8_law v1 v2 v3 v4 μ = some (r, μ')) : Ct l D true 4 yX8_law cX8_law 5 (some FieldType.int) [.ref (D.1 0), .int v1, .int v2, .int v3, .int v4] μ (some (.int r)) μ' := by
  refine Ct.of (own := RX8) (lc0 := [some (.ref (D.1 0)), some (.int v1), some (.int v2), some (.int v3), some (.int v4)]) pn_X8 rfl (Nat.le_of_ble_eq_true rfl) rfl mv_X8_law.2.2.2.1 (fun X hX => ?_)
  unfold f_X8_law at h
  refine g_iload_n hX dX8_law_0 rfl rfl ?_
  refine g_callSi hX (c_X8_isUse  v1) mv_X8_isUse wm_529 (by decide) rfl rfl (Nat.le_of_ble_eq_true rfl) dX8_law_1 ?_
  refine g_if_ne (tgt := 13) hX dX8_law_4 (by decide) (fun q1 => ?_) (fun q1 => ?_)
  · rw [if_neg q1] at h
    refine g_aload_n hX dX8_law_13 rfl rfl ?_
    refine g_getr hX kd_true_0 fg_8_0 tf_8_0 w_351 sr_true_0_0 dX8_law_14 ?_
    refine g_iload_n hX dX8_law_17 rfl rfl ?_
    refine g_callVr hX (c_X0_lawOf wk_8_0 v1) mv_X0_lawOf wm_532 wk_8_0 rfl (by decide) (by decide) rfl rfl (Nat.le_of_ble_eq_true rfl) dX8_law_18 ?_
    refine g_iload_n hX dX8_law_21 rfl rfl ?_
    refine g_iload_n hX dX8_law_22 rfl rfl ?_
    refine g_iload hX dX8_law_23 rfl ?_
    obtain ⟨r2, μ3, hr2, h⟩ := bd2_some h
    refine g_callVi hX (c_X1_gives (ck_X0_lawOf wk_8_0) _ _ _ hr2) mv_X1_gives wm_689 (ck_X0_lawOf wk_8_0) rfl (by decide) (by decide) rfl rfl (Nat.le_of_ble_eq_true rfl) dX8_law_25 ?_
    obtain ⟨rfl, rfl⟩ := pair_inj h
    exact g_iret hX rfl rfl dX8_law_28
  · rw [if_pos q1] at h
    refine g_aload_n hX dX8_law_7 rfl rfl ?_
    refine g_iconst hX dX8_law_8 k_1 ?_
    obtain ⟨r4, μ5, hr4, h⟩ := bd2_some h
    refine g_callVi hX (c_X8_fail  _ hr4) mv_X8_fail wm_386 kd_true_0 rfl (by decide) (by decide) rfl rfl (Nat.le_of_ble_eq_true rfl) dX8_law_9 ?_
    obtain ⟨rfl, rfl⟩ := pair_inj h
    exact g_iret hX rfl rfl dX8_law_12
