set_option maxRecDepth 100000 in
set_option maxHeartbeats 4000000 in
theorem t_X9_drawn_62 {l : Launch} {D : DT} {X : XT} {μ' : Mem} (hX : Cx l D false X 8 RX9 cX9_drawn 3 none) : ∀ (μ : Mem), f_X9_drawn_62 μ = some μ' → G l D false X 3 none μ' 62 [some (.ref (D.1 0)), none, none] [] μ := by
  intro μ h
  unfold f_X9_drawn_62 at h
  refine g_aload_n hX dX9_drawn_62 rfl rfl ?_
  obtain ⟨μ1, hμ1, h⟩ := bd_some h
  refine g_callVv hX (c_X9_goes hμ1) mv_X9_goes wm_1232 kd_false_0 rfl (by decide) (by decide) rfl rfl (Nat.le_of_ble_eq_true rfl) dX9_drawn_63 ?_
  obtain rfl := Option.some.inj h
  exact g_vret hX rfl dX9_drawn_66
set_option maxRecDepth 100000 in
set_option maxHeartbeats 4000000 in
theorem t_X9_drawn_59 {l : Launch} {D : DT} {X : XT} {μ' : Mem} (hX : Cx l D false X 8 RX9 cX9_drawn 3 none) : ∀ (s1 : Int32) (s2 : Int32) (s3 : Int32) (μ : Mem), f_X9_drawn_59 s1 s2 s3 μ = some μ' → G l D false X 3 none μ' 59 [some (.ref (D.1 0)), none, none] [.int s3, .int s2, .int s1, .ref (D.1 0)] μ := by
  intro s1 s2 s3 μ h
  unfold f_X9_drawn_59 at h
  obtain ⟨μ1, hμ1, h⟩ := bd_some h
  refine g_callVv hX (c_X9_lets  _ _ _ hμ1) mv_X9_lets wm_1134 kd_false_0 rfl (by decide) (by decide) rfl rfl (Nat.le_of_ble_eq_true rfl) dX9_drawn_59 ?_
  exact g_weak (lc' := [some _, none, none]) ⟨rfl, trivial⟩ (t_X9_drawn_62 hX _ h)
set_option maxRecDepth 100000 in
set_option maxHeartbeats 4000000 in
theorem c_X9_drawn {l : Launch} {D : DT} {μ : Mem} {μ' : Mem} (h : f_X9_drawn μ = some μ') : Ct l D false 8 yX9_drawn cX9_drawn 3 none [.ref (D.1 0)] μ none μ' := by
  refine Ct.of (own := RX9) (lc0 := [some (.ref (D.1 0)), none, none]) pn_X9 rfl (Nat.le_of_ble_eq_true rfl) rfl mv_X9_drawn.2.2.2.1 (fun X hX => ?_)
  unfold f_X9_drawn at h
  refine g_aload_n hX dX9_drawn_0 rfl rfl ?_
  refine g_getr hX kd_false_0 fg_9_0 tf_9_0 w_970 sr_false_0_0 dX9_drawn_1 ?_
  refine g_iconst hX dX9_drawn_4 k_2 ?_
  refine g_iald hX wk_9_0.1 wk_9_0.2 (by decide) dX9_drawn_5 ?_
  refine g_if_le (tgt := 62) hX dX9_drawn_6 (by decide) (fun q1 => ?_) (fun q1 => ?_)
  · rw [if_pos q1] at h
    exact g_weak (lc' := [some _, none, none]) ⟨rfl, trivial⟩ (t_X9_drawn_62 hX _ h)
  · rw [if_neg q1] at h
    refine g_aload_n hX dX9_drawn_9 rfl rfl ?_
    refine g_getr hX kd_false_0 fg_9_0 tf_9_0 w_970 sr_false_0_0 dX9_drawn_10 ?_
    refine g_iconst hX dX9_drawn_13 k_3 ?_
    refine g_iald hX wk_9_0.1 wk_9_0.2 (by decide) dX9_drawn_14 ?_
    refine g_if_le (tgt := 62) hX dX9_drawn_15 (by decide) (fun q2 => ?_) (fun q2 => ?_)
    · rw [if_pos q2] at h
      exact g_weak (lc' := [some _, none, none]) ⟨rfl, trivial⟩ (t_X9_drawn_62 hX _ h)
    · rw [if_neg q2] at h
      refine g_aload_n hX dX9_drawn_18 rfl rfl ?_
      obtain ⟨r3, μ4, hr3, h⟩ := bd2_some h
      refine g_callVi hX (c_X9_draw hr3) mv_X9_draw wm_1264 kd_false_0 rfl (by decide) (by decide) rfl rfl (Nat.le_of_ble_eq_true rfl) dX9_drawn_19 ?_
      refine g_aload_n hX dX9_drawn_22 rfl rfl ?_
      refine g_getr hX kd_false_0 fg_9_0 tf_9_0 w_970 sr_false_0_0 dX9_drawn_23 ?_
      refine g_iconst hX dX9_drawn_26 k_3 ?_
      refine g_iald hX wk_9_0.1 wk_9_0.2 (by decide) dX9_drawn_27 ?_
      obtain ⟨z5, h⟩ := ck_some h
      refine g_irem hX (nz_ne z5) dX9_drawn_28 ?_
      refine g_istore_n (lc' := [some _, some _, none]) hX dX9_drawn_29 rfl (by decide) rfl rfl ?_
      refine g_aload_n hX dX9_drawn_30 rfl rfl ?_
      obtain ⟨r6, μ7, hr6, h⟩ := bd2_some h
      refine g_callVi hX (c_X9_draw hr6) mv_X9_draw wm_1264 kd_false_0 rfl (by decide) (by decide) rfl rfl (Nat.le_of_ble_eq_true rfl) dX9_drawn_31 ?_
      refine g_aload_n hX dX9_drawn_34 rfl rfl ?_
      refine g_getr hX kd_false_0 fg_9_0 tf_9_0 w_970 sr_false_0_0 dX9_drawn_35 ?_
      refine g_iconst hX dX9_drawn_38 k_2 ?_
      refine g_iald hX wk_9_0.1 wk_9_0.2 (by decide) dX9_drawn_39 ?_
      obtain ⟨z8, h⟩ := ck_some h
      refine g_irem hX (nz_ne z8) dX9_drawn_40 ?_
      refine g_istore_n (lc' := [some _, some _, some _]) hX dX9_drawn_41 rfl (by decide) rfl rfl ?_
      refine g_aload_n hX dX9_drawn_42 rfl rfl ?_
      refine g_iload_n hX dX9_drawn_43 rfl rfl ?_
      refine g_iconst hX dX9_drawn_44 k_3 ?_
      refine g_aload_n hX dX9_drawn_45 rfl rfl ?_
      obtain ⟨r9, μ10, hr9, h⟩ := bd2_some h
      refine g_callVi hX (c_X9_draw hr9) mv_X9_draw wm_1264 kd_false_0 rfl (by decide) (by decide) rfl rfl (Nat.le_of_ble_eq_true rfl) dX9_drawn_46 ?_
      refine g_iconst hX dX9_drawn_49 k_4 ?_
      refine g_irem hX (by decide) dX9_drawn_50 ?_
      refine g_if_ne (tgt := 58) hX dX9_drawn_51 (by decide) (fun q11 => ?_) (fun q11 => ?_)
      · rw [if_neg q11] at h
        refine g_iload_n hX dX9_drawn_58 rfl rfl ?_
        exact g_weak (lc' := [some _, none, none]) ⟨rfl, trivial⟩ (t_X9_drawn_59 hX _ _ _ _ h)
      · rw [if_pos q11] at h
        refine g_iconst hX dX9_drawn_54 k_m1 ?_
        refine g_goto (tgt := 59) hX dX9_drawn_55 (by decide) ?_
        exact g_weak (lc' := [some _, none, none]) ⟨rfl, trivial⟩ (t_X9_drawn_59 hX _ _ _ _ h)
set_option maxRecDepth 100000 in
set_option maxHeartbeats 4000000 in
theorem t_X9_feed_91 {l : Launch} {D : DT} {X : XT} {r : Int32} {μ' : Mem} (hX : Cx l D false X 2 RX9 cX9_feed 5 (some FieldType.int)) : ∀ (μ : Mem), f_X9_feed_91 μ = some (r, μ') → G l D false X 5 (some (.int r)) μ' 91 [some (.ref (D.1 0)), none, none, none, none] [] μ := by
  intro μ h
  unfold f_X9_feed_91 at h
  refine g_aload_n hX dX9_feed_91 rfl rfl ?_
  refine g_getr hX kd_false_0 fg_9_0 tf_9_0 w_970 sr_false_0_0 dX9_feed_92 ?_
  refine g_bipush hX dX9_feed_95 kb_6 ?_
  refine g_iald hX wk_9_0.1 wk_9_0.2 (by decide) dX9_feed_97 ?_
  obtain ⟨rfl, rfl⟩ := pair_inj h
  exact g_iret hX rfl rfl dX9_feed_98
set_option maxRecDepth 100000 in
set_option maxHeartbeats 4000000 in
theorem t_X9_feed_41 {l : Launch} {D : DT} {X : XT} {r : Int32} {μ' : Mem} (hX : Cx l D false X 2 RX9 cX9_feed 5 (some FieldType.int)) : ∀ (n : Nat) (v1 : Int64) (v3 : Int32) (v4 : Int32) (μ : Mem), f_X9_feed_41 n v1 v3 v4 μ = some (r, μ') → G l D false X 5 (some (.int r)) μ' 41 [some (.ref (D.1 0)), some (.long v1), none, some (.int v3), some (.int v4)] [] μ := by
  intro n
  induction n with
  | zero => intro v1 v3 v4 μ h; exact absurd h (by simp [f_X9_feed_41])
  | succ n ih =>
    intro v1 v3 v4 μ h
    rw [f_X9_feed_41] at h
    refine g_iload hX dX9_feed_41 rfl ?_
    refine g_iload_n hX dX9_feed_43 rfl rfl ?_
    refine g_icmp_ge (tgt := 91) hX dX9_feed_44 (by decide) (fun q1 => ?_) (fun q1 => ?_)
    · rw [if_pos q1] at h
      exact g_weak (lc' := [some _, none, none, none, none]) ⟨rfl, trivial⟩ (t_X9_feed_91 hX _ h)
    · rw [if_neg q1] at h
      refine g_aload_n hX dX9_feed_47 rfl rfl ?_
      refine g_getr hX kd_false_0 fg_9_0 tf_9_0 w_970 sr_false_0_0 dX9_feed_48 ?_
      refine g_bipush hX dX9_feed_51 kb_69 ?_
      refine g_aload_n hX dX9_feed_53 rfl rfl ?_
      refine g_getr hX kd_false_0 fg_9_0 tf_9_0 w_970 sr_false_0_0 dX9_feed_54 ?_
      refine g_bipush hX dX9_feed_57 kb_6 ?_
      refine g_iald hX wk_9_0.1 wk_9_0.2 (by decide) dX9_feed_59 ?_
      refine g_iadd hX dX9_feed_60 ?_
      refine g_lload_n hX dX9_feed_61 rfl rfl ?_
      refine g_bipush hX dX9_feed_62 kb_8 ?_
      refine g_iload hX dX9_feed_64 rfl ?_
      refine g_imul hX dX9_feed_66 ?_
      refine g_lshr hX dX9_feed_67 ?_
      refine g_ldc2 hX dX9_feed_68 wc_1170 ?_
      refine g_land hX dX9_feed_71 ?_
      refine g_l2i hX dX9_feed_72 ?_
      obtain ⟨z3, h⟩ := ck_some h
      obtain ⟨μ2, hμ2, h⟩ := wr_some h
      refine g_iastM hX wk_9_0.1 wk_9_0.2 z3 dX9_feed_73 hμ2 ?_
      refine g_aload_n hX dX9_feed_74 rfl rfl ?_
      refine g_getr hX kd_false_0 fg_9_0 tf_9_0 w_970 sr_false_0_0 dX9_feed_75 ?_
      refine g_bipush hX dX9_feed_78 kb_6 ?_
      refine g_dup2 hX dX9_feed_80 rfl rfl ?_
      refine g_iald hX wk_9_0.1 wk_9_0.2 (by decide) dX9_feed_81 ?_
      refine g_iconst hX dX9_feed_82 k_1 ?_
      refine g_iadd hX dX9_feed_83 ?_
      obtain ⟨μ4, hμ4, h⟩ := wr_some h
      refine g_iastM hX wk_9_0.1 wk_9_0.2 (by decide) dX9_feed_84 hμ4 ?_
      refine g_iinc (lc' := [some _, some _, none, some _, some _]) hX dX9_feed_85 (by decide) rfl (congrArg _ k_1) rfl rfl ?_
      refine g_goto (tgt := 41) hX dX9_feed_88 (by decide) ?_
      exact g_weak (lc' := [some _, some _, none, some _, some _]) ⟨rfl, rfl, rfl, rfl, trivial⟩ (ih _ _ _ _ h)
set_option maxRecDepth 100000 in
set_option maxHeartbeats 4000000 in
theorem c_X9_feed {l : Launch} {D : DT} {μ : Mem} {r : Int32} {μ' : Mem} (v1 : Int64) (v3 : Int32) (h : f_X9_feed v1 v3 μ = some (r, μ')) : Ct l D false 2 yX9_feed cX9_feed 5 (some FieldType.int) [.ref (D.1 0), .long v1, .int v3] μ (some (.int r)) μ' := by
  refine Ct.of (own := RX9) (lc0 := [some (.ref (D.1 0)), some (.long v1), none, some (.int v3), none]) pn_X9 rfl (Nat.le_of_ble_eq_true rfl) rfl mv_X9_feed.2.2.2.1 (fun X hX => ?_)
  unfold f_X9_feed at h
  refine g_iload_n hX dX9_feed_0 rfl rfl ?_
  refine g_iconst hX dX9_feed_1 k_1 ?_
  refine g_bipush hX dX9_feed_2 kb_8 ?_
  refine g_callSi hX (c_X9_in  v3 1 8) mv_X9_in wm_1047 (by decide) rfl rfl (Nat.le_of_ble_eq_true rfl) dX9_feed_4 ?_
  refine g_if_ne (tgt := 17) hX dX9_feed_7 (by decide) (fun q1 => ?_) (fun q1 => ?_)
  · rw [if_neg q1] at h
    refine g_aload_n hX dX9_feed_17 rfl rfl ?_
    refine g_getr hX kd_false_0 fg_9_0 tf_9_0 w_970 sr_false_0_0 dX9_feed_18 ?_
    refine g_bipush hX dX9_feed_21 kb_6 ?_
    refine g_iald hX wk_9_0.1 wk_9_0.2 (by decide) dX9_feed_23 ?_
    refine g_iload_n hX dX9_feed_24 rfl rfl ?_
    refine g_iadd hX dX9_feed_25 ?_
    refine g_bipush hX dX9_feed_26 kb_60 ?_
    refine g_icmp_le (tgt := 38) hX dX9_feed_28 (by decide) (fun q2 => ?_) (fun q2 => ?_)
    · rw [if_pos q2] at h
      refine g_iconst hX dX9_feed_38 k_0 ?_
      refine g_istore (lc' := [some _, some _, none, some _, some _]) hX dX9_feed_39 (by decide) rfl rfl ?_
      exact g_weak (lc' := [some _, some _, none, some _, some _]) ⟨rfl, rfl, rfl, rfl, trivial⟩ (t_X9_feed_41 hX 2000 _ _ _ _ h)
    · rw [if_neg q2] at h
      refine g_aload_n hX dX9_feed_31 rfl rfl ?_
      refine g_ldc hX dX9_feed_32 wc_1056 ?_
      obtain ⟨r3, μ4, hr3, h⟩ := bd2_some h
      refine g_callVi hX (c_X9_error  _ hr3) mv_X9_error wm_1051 kd_false_0 rfl (by decide) (by decide) rfl rfl (Nat.le_of_ble_eq_true rfl) dX9_feed_34 ?_
      obtain ⟨rfl, rfl⟩ := pair_inj h
      exact g_iret hX rfl rfl dX9_feed_37
  · rw [if_pos q1] at h
    refine g_aload_n hX dX9_feed_10 rfl rfl ?_
    refine g_ldc hX dX9_feed_11 wc_1050 ?_
    obtain ⟨r5, μ6, hr5, h⟩ := bd2_some h
    refine g_callVi hX (c_X9_error  _ hr5) mv_X9_error wm_1051 kd_false_0 rfl (by decide) (by decide) rfl rfl (Nat.le_of_ble_eq_true rfl) dX9_feed_13 ?_
    obtain ⟨rfl, rfl⟩ := pair_inj h
    exact g_iret hX rfl rfl dX9_feed_16
set_option maxRecDepth 100000 in
set_option maxHeartbeats 4000000 in
theorem t_X9_findWeights_29 {l : Launch} {D : DT} {X : XT} {k9 : Int32 → Int32 → Mem → Option Mem} {μ' : Mem} (hX : Cx l D false X 5 RX9 cX9_findWeights 5 none) (hk9 : ∀ (v1 : Int32) (v2 : Int32) (μ : Mem), k9 v1 v2 μ = some μ' → G l D false X 5 none μ' 9 [some (.ref (D.1 0)), some (.int v1), some (.int v2), none, none] [] μ) : ∀ (n : Nat) (v1 : Int32) (v2 : Int32) (v3 : Int32) (v4 : Int32) (μ : Mem), f_X9_findWeights_29 k9 n v1 v2 v3 v4 μ = some μ' → G l D false X 5 none μ' 29 [some (.ref (D.1 0)), some (.int v1), some (.int v2), some (.int v3), some (.int v4)] [] μ := by
  intro n
  induction n with
  | zero => intro v1 v2 v3 v4 μ h; exact absurd h (by simp [f_X9_findWeights_29])
  | succ n ih =>
    intro v1 v2 v3 v4 μ h
    rw [f_X9_findWeights_29] at h
    refine g_iload hX dX9_findWeights_29 rfl ?_
    refine g_iconst hX dX9_findWeights_31 k_1 ?_
    refine g_iload_n hX dX9_findWeights_32 rfl rfl ?_
    refine g_ishl hX dX9_findWeights_33 ?_
    refine g_icmp_ge (tgt := 63) hX dX9_findWeights_34 (by decide) (fun q1 => ?_) (fun q1 => ?_)
    · rw [if_pos q1] at h
      refine g_iinc (lc' := [some _, some _, some _, some _, some _]) hX dX9_findWeights_63 (by decide) rfl (congrArg _ k_1) rfl rfl ?_
      refine g_goto (tgt := 9) hX dX9_findWeights_66 (by decide) ?_
      exact g_weak (lc' := [some _, some _, some _, none, none]) ⟨rfl, rfl, rfl, trivial⟩ (hk9 _ _ _ h)
    · rw [if_neg q1] at h
      refine g_aload_n hX dX9_findWeights_37 rfl rfl ?_
      refine g_getr hX kd_false_0 fg_9_19 tf_9_19 w_989 sr_false_0_19 dX9_findWeights_38 ?_
      refine g_iload hX dX9_findWeights_41 rfl ?_
      refine g_iconst hX dX9_findWeights_43 k_1 ?_
      refine g_iload_n hX dX9_findWeights_44 rfl rfl ?_
      refine g_ishl hX dX9_findWeights_45 ?_
      refine g_ior hX dX9_findWeights_46 ?_
      refine g_aload_n hX dX9_findWeights_47 rfl rfl ?_
      refine g_getr hX kd_false_0 fg_9_19 tf_9_19 w_989 sr_false_0_19 dX9_findWeights_48 ?_
      refine g_iload hX dX9_findWeights_51 rfl ?_
      obtain ⟨z2, h⟩ := ck_some h
      refine g_iald hX wk_9_19.1 wk_9_19.2 z2 dX9_findWeights_53 ?_
      refine g_iload_n hX dX9_findWeights_54 rfl rfl ?_
      refine g_iadd hX dX9_findWeights_55 ?_
      obtain ⟨z4, h⟩ := ck_some h
      obtain ⟨μ3, hμ3, h⟩ := wr_some h
      refine g_iastM hX wk_9_19.1 wk_9_19.2 z4 dX9_findWeights_56 hμ3 ?_
      refine g_iinc (lc' := [some _, some _, some _, some _, some _]) hX dX9_findWeights_57 (by decide) rfl (congrArg _ k_1) rfl rfl ?_
      refine g_goto (tgt := 29) hX dX9_findWeights_60 (by decide) ?_
      exact g_weak (lc' := [some _, some _, some _, some _, some _]) ⟨rfl, rfl, rfl, rfl, rfl, trivial⟩ (ih _ _ _ _ _ h)
set_option maxRecDepth 100000 in
set_option maxHeartbeats 4000000 in
theorem t_X9_findWeights_9 {l : Launch} {D : DT} {X : XT} {μ' : Mem} (hX : Cx l D false X 5 RX9 cX9_findWeights 5 none) : ∀ (n : Nat) (v1 : Int32) (v2 : Int32) (μ : Mem), f_X9_findWeights_9 n v1 v2 μ = some μ' → G l D false X 5 none μ' 9 [some (.ref (D.1 0)), some (.int v1), some (.int v2), none, none] [] μ := by
  intro n
  induction n with
  | zero => intro v1 v2 μ h; exact absurd h (by simp [f_X9_findWeights_9])
  | succ n ih =>
    intro v1 v2 μ h
    rw [f_X9_findWeights_9] at h
    refine g_iload_n hX dX9_findWeights_9 rfl rfl ?_
    refine g_aload_n hX dX9_findWeights_10 rfl rfl ?_
    refine g_getr hX kd_false_0 fg_9_0 tf_9_0 w_970 sr_false_0_0 dX9_findWeights_11 ?_
    refine g_iconst hX dX9_findWeights_14 k_3 ?_
    refine g_iald hX wk_9_0.1 wk_9_0.2 (by decide) dX9_findWeights_15 ?_
    refine g_icmp_ge (tgt := 69) hX dX9_findWeights_16 (by decide) (fun q1 => ?_) (fun q1 => ?_)
    · rw [if_pos q1] at h
      obtain rfl := Option.some.inj h
      exact g_vret hX rfl dX9_findWeights_69
    · rw [if_neg q1] at h
      refine g_aload_n hX dX9_findWeights_19 rfl rfl ?_
      refine g_iload_n hX dX9_findWeights_20 rfl rfl ?_
      refine g_iload_n hX dX9_findWeights_21 rfl rfl ?_
      obtain ⟨r2, μ3, hr2, h⟩ := bd2_some h
      refine g_callVi hX (c_X9_weighsOn  _ _ hr2) mv_X9_weighsOn wm_1081 kd_false_0 rfl (by decide) (by decide) rfl rfl (Nat.le_of_ble_eq_true rfl) dX9_findWeights_22 ?_
      refine g_istore_n (lc' := [some _, some _, some _, some _, none]) hX dX9_findWeights_25 rfl (by decide) rfl rfl ?_
      refine g_iconst hX dX9_findWeights_26 k_0 ?_
      refine g_istore (lc' := [some _, some _, some _, some _, some _]) hX dX9_findWeights_27 (by decide) rfl rfl ?_
      exact g_weak (lc' := [some _, some _, some _, some _, some _]) ⟨rfl, rfl, rfl, rfl, rfl, trivial⟩ (t_X9_findWeights_29 hX ih 2000 _ _ _ _ _ h)
set_option maxRecDepth 100000 in
set_option maxHeartbeats 4000000 in
theorem c_X9_findWeights {l : Launch} {D : DT} {μ : Mem} {μ' : Mem} (v1 : Int32) (h : f_X9_findWeights v1 μ = some μ') : Ct l D false 5 yX9_findWeights cX9_findWeights 5 none [.ref (D.1 0), .int v1] μ none μ' := by
  refine Ct.of (own := RX9) (lc0 := [some (.ref (D.1 0)), some (.int v1), none, none, none]) pn_X9 rfl (Nat.le_of_ble_eq_true rfl) rfl mv_X9_findWeights.2.2.2.1 (fun X hX => ?_)
  unfold f_X9_findWeights at h
  refine g_aload_n hX dX9_findWeights_0 rfl rfl ?_
  refine g_getr hX kd_false_0 fg_9_19 tf_9_19 w_989 sr_false_0_19 dX9_findWeights_1 ?_
  refine g_iconst hX dX9_findWeights_4 k_0 ?_
  refine g_iconst hX dX9_findWeights_5 k_0 ?_
  obtain ⟨μ1, hμ1, h⟩ := wr_some h
  refine g_iastM hX wk_9_19.1 wk_9_19.2 (by decide) dX9_findWeights_6 hμ1 ?_
  refine g_iconst hX dX9_findWeights_7 k_0 ?_
  refine g_istore_n (lc' := [some _, some _, some _, none, none]) hX dX9_findWeights_8 rfl (by decide) rfl rfl ?_
  exact g_weak (lc' := [some _, some _, some _, none, none]) ⟨rfl, rfl, rfl, trivial⟩ (t_X9_findWeights_9 hX 2000 _ _ _ h)
set_option maxRecDepth 100000 in
set_option maxHeartbeats 4000000 in
theorem t_X9_tries_137 {l : Launch} {D : DT} {X : XT} {μ' : Mem} (hX : Cx l D false X 6 RX9 cX9_tries 6 none) : ∀ (n : Nat) (v3 : Int32) (μ : Mem), f_X9_tries_137 n v3 μ = some μ' → G l D false X 6 none μ' 137 [some (.ref (D.1 0)), none, none, some (.int v3), none, none] [] μ := by
  intro n
  induction n with
  | zero => intro v3 μ h; exact absurd h (by simp [f_X9_tries_137])
  | succ n ih =>
    intro v3 μ h
    rw [f_X9_tries_137] at h
    refine g_iload_n hX dX9_tries_137 rfl rfl ?_
    refine g_iconst hX dX9_tries_138 k_1 ?_
    refine g_aload_n hX dX9_tries_139 rfl rfl ?_
    refine g_getr hX kd_false_0 fg_9_0 tf_9_0 w_970 sr_false_0_0 dX9_tries_140 ?_
    refine g_iconst hX dX9_tries_143 k_3 ?_
    refine g_iald hX wk_9_0.1 wk_9_0.2 (by decide) dX9_tries_144 ?_
    refine g_ishl hX dX9_tries_145 ?_
    refine g_icmp_ge (tgt := 167) hX dX9_tries_146 (by decide) (fun q1 => ?_) (fun q1 => ?_)
    · rw [if_pos q1] at h
      obtain rfl := Option.some.inj h
      exact g_vret hX rfl dX9_tries_167
    · rw [if_neg q1] at h
      refine g_aload_n hX dX9_tries_149 rfl rfl ?_
      refine g_getr hX kd_false_0 fg_9_17 tf_9_17 w_987 sr_false_0_17 dX9_tries_150 ?_
      refine g_iload_n hX dX9_tries_153 rfl rfl ?_
      refine g_aload_n hX dX9_tries_154 rfl rfl ?_
      refine g_getr hX kd_false_0 fg_9_18 tf_9_18 w_988 sr_false_0_18 dX9_tries_155 ?_
      refine g_iload_n hX dX9_tries_158 rfl rfl ?_
      obtain ⟨z2, h⟩ := ck_some h
      refine g_iald hX wk_9_18.1 wk_9_18.2 z2 dX9_tries_159 ?_
      obtain ⟨z4, h⟩ := ck_some h
      obtain ⟨μ3, hμ3, h⟩ := wr_some h
      refine g_iastM hX wk_9_17.1 wk_9_17.2 z4 dX9_tries_160 hμ3 ?_
      refine g_iinc (lc' := [some _, none, none, some _, none, none]) hX dX9_tries_161 (by decide) rfl (congrArg _ k_1) rfl rfl ?_
      refine g_goto (tgt := 137) hX dX9_tries_164 (by decide) ?_
      exact g_weak (lc' := [some _, none, none, some _, none, none]) ⟨rfl, rfl, trivial⟩ (ih _ _ h)
set_option maxRecDepth 100000 in
set_option maxHeartbeats 4000000 in
theorem t_X9_tries_117 {l : Launch} {D : DT} {X : XT} {k13 : Int32 → Int32 → Mem → Option Mem} {k40 : Int32 → Int32 → Int32 → Mem → Option Mem} {μ' : Mem} (hX : Cx l D false X 6 RX9 cX9_tries 6 none) (hk13 : ∀ (v2 : Int32) (v3 : Int32) (μ : Mem), k13 v2 v3 μ = some μ' → G l D false X 6 none μ' 13 [some (.ref (D.1 0)), none, some (.int v2), some (.int v3), none, none] [] μ) (hk40 : ∀ (v2 : Int32) (v3 : Int32) (v4 : Int32) (μ : Mem), k40 v2 v3 v4 μ = some μ' → G l D false X 6 none μ' 40 [some (.ref (D.1 0)), none, some (.int v2), some (.int v3), some (.int v4), none] [] μ) : ∀ (v2 : Int32) (v3 : Int32) (v4 : Int32) (s1 : Int32) (s2 : Int32) (μ : Mem), f_X9_tries_117 k13 k40 v2 v3 v4 s1 s2 μ = some μ' → G l D false X 6 none μ' 117 [some (.ref (D.1 0)), none, some (.int v2), some (.int v3), some (.int v4), none] [.int s2, .int s1, .ref (D.1 13)] μ := by
  intro v2 v3 v4 s1 s2 μ h
  unfold f_X9_tries_117 at h
  obtain ⟨z2, h⟩ := ck_some h
  obtain ⟨μ1, hμ1, h⟩ := wr_some h
  refine g_iastM hX wk_9_18.1 wk_9_18.2 z2 dX9_tries_117 hμ1 ?_
  refine g_iload hX dX9_tries_118 rfl ?_
  refine g_iconst hX dX9_tries_120 k_1 ?_
  refine g_isub hX dX9_tries_121 ?_
  refine g_iload_n hX dX9_tries_122 rfl rfl ?_
  refine g_iand hX dX9_tries_123 ?_
  refine g_istore (lc' := [some _, none, some _, some _, some _, none]) hX dX9_tries_124 (by decide) rfl rfl ?_
  refine g_goto (tgt := 40) hX dX9_tries_126 (by decide) ?_
  exact g_weak (lc' := [some _, none, some _, some _, some _, none]) ⟨rfl, rfl, rfl, rfl, trivial⟩ (hk40 _ _ _ _ h)
set_option maxRecDepth 100000 in
set_option maxHeartbeats 4000000 in
theorem t_X9_tries_83 {l : Launch} {D : DT} {X : XT} {k13 : Int32 → Int32 → Mem → Option Mem} {k40 : Int32 → Int32 → Int32 → Mem → Option Mem} {μ' : Mem} (hX : Cx l D false X 6 RX9 cX9_tries 6 none) (hk13 : ∀ (v2 : Int32) (v3 : Int32) (μ : Mem), k13 v2 v3 μ = some μ' → G l D false X 6 none μ' 13 [some (.ref (D.1 0)), none, some (.int v2), some (.int v3), none, none] [] μ) (hk40 : ∀ (v2 : Int32) (v3 : Int32) (v4 : Int32) (μ : Mem), k40 v2 v3 v4 μ = some μ' → G l D false X 6 none μ' 40 [some (.ref (D.1 0)), none, some (.int v2), some (.int v3), some (.int v4), none] [] μ) : ∀ (v2 : Int32) (v3 : Int32) (v4 : Int32) (s0 : Int32) (μ : Mem), f_X9_tries_83 k13 k40 v2 v3 v4 s0 μ = some μ' → G l D false X 6 none μ' 83 [some (.ref (D.1 0)), none, some (.int v2), some (.int v3), some (.int v4), none] [.int s0] μ := by
  intro v2 v3 v4 s0 μ h
  unfold f_X9_tries_83 at h
  refine g_istore (lc' := [some _, none, some _, some _, some _, some _]) hX dX9_tries_83 (by decide) rfl rfl ?_
  refine g_aload_n hX dX9_tries_85 rfl rfl ?_
  refine g_getr hX kd_false_0 fg_9_18 tf_9_18 w_988 sr_false_0_18 dX9_tries_86 ?_
  refine g_iload_n hX dX9_tries_89 rfl rfl ?_
  refine g_iload hX dX9_tries_90 rfl ?_
  refine g_if_eq (tgt := 111) hX dX9_tries_92 (by decide) (fun q1 => ?_) (fun q1 => ?_)
  · rw [if_pos q1] at h
    refine g_aload_n hX dX9_tries_111 rfl rfl ?_
    refine g_getr hX kd_false_0 fg_9_18 tf_9_18 w_988 sr_false_0_18 dX9_tries_112 ?_
    refine g_iload_n hX dX9_tries_115 rfl rfl ?_
    obtain ⟨z2, h⟩ := ck_some h
    refine g_iald hX wk_9_18.1 wk_9_18.2 z2 dX9_tries_116 ?_
    exact g_weak (lc' := [some _, none, some _, some _, some _, none]) ⟨rfl, rfl, rfl, rfl, trivial⟩ (t_X9_tries_117 hX hk13 hk40 _ _ _ _ _ _ h)
  · rw [if_neg q1] at h
    refine g_aload_n hX dX9_tries_95 rfl rfl ?_
    refine g_getr hX kd_false_0 fg_9_17 tf_9_17 w_987 sr_false_0_17 dX9_tries_96 ?_
    refine g_iload_n hX dX9_tries_99 rfl rfl ?_
    refine g_iload hX dX9_tries_100 rfl ?_
    refine g_iconst hX dX9_tries_102 k_m1 ?_
    refine g_ixor hX dX9_tries_103 ?_
    refine g_iand hX dX9_tries_104 ?_
    obtain ⟨z3, h⟩ := ck_some h
    refine g_iald hX wk_9_17.1 wk_9_17.2 z3 dX9_tries_105 ?_
    refine g_iconst hX dX9_tries_106 k_1 ?_
    refine g_iadd hX dX9_tries_107 ?_
    refine g_goto (tgt := 117) hX dX9_tries_108 (by decide) ?_
    exact g_weak (lc' := [some _, none, some _, some _, some _, none]) ⟨rfl, rfl, rfl, rfl, trivial⟩ (t_X9_tries_117 hX hk13 hk40 _ _ _ _ _ _ h)
set_option maxRecDepth 100000 in
set_option maxHeartbeats 4000000 in
theorem t_X9_tries_82 {l : Launch} {D : DT} {X : XT} {k13 : Int32 → Int32 → Mem → Option Mem} {k40 : Int32 → Int32 → Int32 → Mem → Option Mem} {μ' : Mem} (hX : Cx l D false X 6 RX9 cX9_tries 6 none) (hk13 : ∀ (v2 : Int32) (v3 : Int32) (μ : Mem), k13 v2 v3 μ = some μ' → G l D false X 6 none μ' 13 [some (.ref (D.1 0)), none, some (.int v2), some (.int v3), none, none] [] μ) (hk40 : ∀ (v2 : Int32) (v3 : Int32) (v4 : Int32) (μ : Mem), k40 v2 v3 v4 μ = some μ' → G l D false X 6 none μ' 40 [some (.ref (D.1 0)), none, some (.int v2), some (.int v3), some (.int v4), none] [] μ) : ∀ (v2 : Int32) (v3 : Int32) (v4 : Int32) (μ : Mem), f_X9_tries_82 k13 k40 v2 v3 v4 μ = some μ' → G l D false X 6 none μ' 82 [some (.ref (D.1 0)), none, some (.int v2), some (.int v3), some (.int v4), none] [] μ := by
  intro v2 v3 v4 μ h
  unfold f_X9_tries_82 at h
  refine g_iconst hX dX9_tries_82 k_0 ?_
  exact g_weak (lc' := [some _, none, some _, some _, some _, none]) ⟨rfl, rfl, rfl, rfl, trivial⟩ (t_X9_tries_83 hX hk13 hk40 _ _ _ _ _ h)
set_option maxRecDepth 100000 in
set_option maxHeartbeats 4000000 in
theorem t_X9_tries_40 {l : Launch} {D : DT} {X : XT} {k13 : Int32 → Int32 → Mem → Option Mem} {μ' : Mem} (hX : Cx l D false X 6 RX9 cX9_tries 6 none) (hk13 : ∀ (v2 : Int32) (v3 : Int32) (μ : Mem), k13 v2 v3 μ = some μ' → G l D false X 6 none μ' 13 [some (.ref (D.1 0)), none, some (.int v2), some (.int v3), none, none] [] μ) : ∀ (n : Nat) (v2 : Int32) (v3 : Int32) (v4 : Int32) (μ : Mem), f_X9_tries_40 k13 n v2 v3 v4 μ = some μ' → G l D false X 6 none μ' 40 [some (.ref (D.1 0)), none, some (.int v2), some (.int v3), some (.int v4), none] [] μ := by
  intro n
  induction n with
  | zero => intro v2 v3 v4 μ h; exact absurd h (by simp [f_X9_tries_40])
  | succ n ih =>
    intro v2 v3 v4 μ h
    rw [f_X9_tries_40] at h
    refine g_iload hX dX9_tries_40 rfl ?_
    refine g_if_le (tgt := 129) hX dX9_tries_42 (by decide) (fun q1 => ?_) (fun q1 => ?_)
    · rw [if_pos q1] at h
      refine g_iinc (lc' := [some _, none, some _, some _, some _, none]) hX dX9_tries_129 (by decide) rfl (congrArg _ k_1) rfl rfl ?_
      refine g_goto (tgt := 13) hX dX9_tries_132 (by decide) ?_
      exact g_weak (lc' := [some _, none, some _, some _, none, none]) ⟨rfl, rfl, rfl, trivial⟩ (hk13 _ _ _ h)
    · rw [if_neg q1] at h
      refine g_aload_n hX dX9_tries_45 rfl rfl ?_
      refine g_getr hX kd_false_0 fg_9_19 tf_9_19 w_989 sr_false_0_19 dX9_tries_46 ?_
      refine g_iload hX dX9_tries_49 rfl ?_
      obtain ⟨z2, h⟩ := ck_some h
      refine g_iald hX wk_9_19.1 wk_9_19.2 z2 dX9_tries_51 ?_
      refine g_iload_n hX dX9_tries_52 rfl rfl ?_
      refine g_icmp_gt (tgt := 82) hX dX9_tries_53 (by decide) (fun q3 => ?_) (fun q3 => ?_)
      · rw [if_pos q3] at h
        exact g_weak (lc' := [some _, none, some _, some _, some _, none]) ⟨rfl, rfl, rfl, rfl, trivial⟩ (t_X9_tries_82 hX hk13 ih _ _ _ _ h)
      · rw [if_neg q3] at h
        refine g_aload_n hX dX9_tries_56 rfl rfl ?_
        refine g_getr hX kd_false_0 fg_9_17 tf_9_17 w_987 sr_false_0_17 dX9_tries_57 ?_
        refine g_iload_n hX dX9_tries_60 rfl rfl ?_
        refine g_iload hX dX9_tries_61 rfl ?_
        refine g_iconst hX dX9_tries_63 k_m1 ?_
        refine g_ixor hX dX9_tries_64 ?_
        refine g_iand hX dX9_tries_65 ?_
        obtain ⟨z4, h⟩ := ck_some h
        refine g_iald hX wk_9_17.1 wk_9_17.2 z4 dX9_tries_66 ?_
        refine g_iconst hX dX9_tries_67 k_1 ?_
        refine g_iadd hX dX9_tries_68 ?_
        refine g_aload_n hX dX9_tries_69 rfl rfl ?_
        refine g_getr hX kd_false_0 fg_9_18 tf_9_18 w_988 sr_false_0_18 dX9_tries_70 ?_
        refine g_iload_n hX dX9_tries_73 rfl rfl ?_
        obtain ⟨z5, h⟩ := ck_some h
        refine g_iald hX wk_9_18.1 wk_9_18.2 z5 dX9_tries_74 ?_
        refine g_icmp_ge (tgt := 82) hX dX9_tries_75 (by decide) (fun q6 => ?_) (fun q6 => ?_)
        · rw [if_pos q6] at h
          exact g_weak (lc' := [some _, none, some _, some _, some _, none]) ⟨rfl, rfl, rfl, rfl, trivial⟩ (t_X9_tries_82 hX hk13 ih _ _ _ _ h)
        · rw [if_neg q6] at h
          refine g_iconst hX dX9_tries_78 k_1 ?_
          refine g_goto (tgt := 83) hX dX9_tries_79 (by decide) ?_
          exact g_weak (lc' := [some _, none, some _, some _, some _, none]) ⟨rfl, rfl, rfl, rfl, trivial⟩ (t_X9_tries_83 hX hk13 ih _ _ _ _ _ h)
set_option maxRecDepth 100000 in
set_option maxHeartbeats 4000000 in
theorem t_X9_tries_13 {l : Launch} {D : DT} {X : XT} {μ' : Mem} (hX : Cx l D false X 6 RX9 cX9_tries 6 none) : ∀ (n : Nat) (v2 : Int32) (v3 : Int32) (μ : Mem), f_X9_tries_13 n v2 v3 μ = some μ' → G l D false X 6 none μ' 13 [some (.ref (D.1 0)), none, some (.int v2), some (.int v3), none, none] [] μ := by
  intro n
  induction n with
  | zero => intro v2 v3 μ h; exact absurd h (by simp [f_X9_tries_13])
  | succ n ih =>
    intro v2 v3 μ h
    rw [f_X9_tries_13] at h
    refine g_iload_n hX dX9_tries_13 rfl rfl ?_
    refine g_iconst hX dX9_tries_14 k_1 ?_
    refine g_aload_n hX dX9_tries_15 rfl rfl ?_
    refine g_getr hX kd_false_0 fg_9_0 tf_9_0 w_970 sr_false_0_0 dX9_tries_16 ?_
    refine g_iconst hX dX9_tries_19 k_3 ?_
    refine g_iald hX wk_9_0.1 wk_9_0.2 (by decide) dX9_tries_20 ?_
    refine g_ishl hX dX9_tries_21 ?_
    refine g_icmp_ge (tgt := 135) hX dX9_tries_22 (by decide) (fun q1 => ?_) (fun q1 => ?_)
    · rw [if_pos q1] at h
      refine g_iconst hX dX9_tries_135 k_0 ?_
      refine g_istore_n (lc' := [some _, none, some _, some _, none, none]) hX dX9_tries_136 rfl (by decide) rfl rfl ?_
      exact g_weak (lc' := [some _, none, none, some _, none, none]) ⟨rfl, rfl, trivial⟩ (t_X9_tries_137 hX 2000 _ _ h)
    · rw [if_neg q1] at h
      refine g_aload_n hX dX9_tries_25 rfl rfl ?_
      refine g_getr hX kd_false_0 fg_9_18 tf_9_18 w_988 sr_false_0_18 dX9_tries_26 ?_
      refine g_iload_n hX dX9_tries_29 rfl rfl ?_
      refine g_aload_n hX dX9_tries_30 rfl rfl ?_
      refine g_getr hX kd_false_0 fg_9_17 tf_9_17 w_987 sr_false_0_17 dX9_tries_31 ?_
      refine g_iload_n hX dX9_tries_34 rfl rfl ?_
      obtain ⟨z2, h⟩ := ck_some h
      refine g_iald hX wk_9_17.1 wk_9_17.2 z2 dX9_tries_35 ?_
      obtain ⟨z4, h⟩ := ck_some h
      obtain ⟨μ3, hμ3, h⟩ := wr_some h
      refine g_iastM hX wk_9_18.1 wk_9_18.2 z4 dX9_tries_36 hμ3 ?_
      refine g_iload_n hX dX9_tries_37 rfl rfl ?_
      refine g_istore (lc' := [some _, none, some _, some _, some _, none]) hX dX9_tries_38 (by decide) rfl rfl ?_
      exact g_weak (lc' := [some _, none, some _, some _, some _, none]) ⟨rfl, rfl, rfl, rfl, trivial⟩ (t_X9_tries_40 hX ih 2000 _ _ _ _ h)
set_option maxRecDepth 100000 in
set_option maxHeartbeats 4000000 in
theorem c_X9_tries {l : Launch} {D : DT} {μ : Mem} {μ' : Mem} (v1 : Int32) (h : f_X9_tries v1 μ = some μ') : Ct l D false 6 yX9_tries cX9_tries 6 none [.ref (D.1 0), .int v1] μ none μ' := by
  refine Ct.of (own := RX9) (lc0 := [some (.ref (D.1 0)), some (.int v1), none, none, none, none]) pn_X9 rfl (Nat.le_of_ble_eq_true rfl) rfl mv_X9_tries.2.2.2.1 (fun X hX => ?_)
  unfold f_X9_tries at h
  refine g_aload_n hX dX9_tries_0 rfl rfl ?_
  refine g_iload_n hX dX9_tries_1 rfl rfl ?_
  obtain ⟨r1, hr1, h⟩ := bd_some h
  refine g_callVi hX (c_X9_roomOf  _ hr1) mv_X9_roomOf wm_1107 kd_false_0 rfl (by decide) (by decide) rfl rfl (Nat.le_of_ble_eq_true rfl) dX9_tries_2 ?_
  refine g_istore_n (lc' := [some _, some _, some _, none, none, none]) hX dX9_tries_5 rfl (by decide) rfl rfl ?_
  refine g_aload_n hX dX9_tries_6 rfl rfl ?_
  refine g_iload_n hX dX9_tries_7 rfl rfl ?_
  obtain ⟨μ2, hμ2, h⟩ := bd_some h
  refine g_callVv hX (c_X9_findWeights  _ hμ2) mv_X9_findWeights wm_1305 kd_false_0 rfl (by decide) (by decide) rfl rfl (Nat.le_of_ble_eq_true rfl) dX9_tries_8 ?_
  refine g_iconst hX dX9_tries_11 k_0 ?_
  refine g_istore_n (lc' := [some _, some _, some _, some _, none, none]) hX dX9_tries_12 rfl (by decide) rfl rfl ?_
  exact g_weak (lc' := [some _, none, some _, some _, none, none]) ⟨rfl, rfl, rfl, trivial⟩ (t_X9_tries_13 hX 2000 _ _ _ h)
set_option maxRecDepth 100000 in
set_option maxHeartbeats 4000000 in
theorem t_X9_fewest_54 {l : Launch} {D : DT} {X : XT} {r : Int32} {μ' : Mem} (hX : Cx l D false X 7 RX9 cX9_fewest 2 (some FieldType.int)) : ∀ (μ : Mem), f_X9_fewest_54 μ = some (r, μ') → G l D false X 2 (some (.int r)) μ' 54 [some (.ref (D.1 0)), none] [] μ := by
  intro μ h
  unfold f_X9_fewest_54 at h
  refine g_aload_n hX dX9_fewest_54 rfl rfl ?_
  refine g_getr hX kd_false_0 fg_9_17 tf_9_17 w_987 sr_false_0_17 dX9_fewest_55 ?_
  refine g_iconst hX dX9_fewest_58 k_1 ?_
  refine g_aload_n hX dX9_fewest_59 rfl rfl ?_
  refine g_getr hX kd_false_0 fg_9_0 tf_9_0 w_970 sr_false_0_0 dX9_fewest_60 ?_
  refine g_iconst hX dX9_fewest_63 k_3 ?_
  refine g_iald hX wk_9_0.1 wk_9_0.2 (by decide) dX9_fewest_64 ?_
  refine g_ishl hX dX9_fewest_65 ?_
  refine g_iconst hX dX9_fewest_66 k_1 ?_
  refine g_isub hX dX9_fewest_67 ?_
  obtain ⟨z1, h⟩ := ck_some h
  refine g_iald hX wk_9_17.1 wk_9_17.2 z1 dX9_fewest_68 ?_
  refine g_istore_n (lc' := [some _, some _]) hX dX9_fewest_69 rfl (by decide) rfl rfl ?_
  refine g_iload_n hX dX9_fewest_70 rfl rfl ?_
  refine g_bipush hX dX9_fewest_71 kb_6 ?_
  refine g_icmp_le (tgt := 85) hX dX9_fewest_73 (by decide) (fun q2 => ?_) (fun q2 => ?_)
  · rw [if_pos q2] at h
    refine g_iload_n hX dX9_fewest_85 rfl rfl ?_
    obtain ⟨rfl, rfl⟩ := pair_inj h
    exact g_iret hX rfl rfl dX9_fewest_86
  · rw [if_neg q2] at h
    refine g_aload_n hX dX9_fewest_76 rfl rfl ?_
    refine g_ldc hX dX9_fewest_77 wc_1296 ?_
    obtain ⟨r3, μ4, hr3, h⟩ := bd2_some h
    refine g_callVi hX (c_X9_error  _ hr3) mv_X9_error wm_1051 kd_false_0 rfl (by decide) (by decide) rfl rfl (Nat.le_of_ble_eq_true rfl) dX9_fewest_79 ?_
    refine g_goto (tgt := 86) hX dX9_fewest_82 (by decide) ?_
    obtain ⟨rfl, rfl⟩ := pair_inj h
    exact g_iret hX rfl rfl dX9_fewest_86
set_option maxRecDepth 100000 in
set_option maxHeartbeats 4000000 in
theorem t_X9_fewest_33 {l : Launch} {D : DT} {X : XT} {r : Int32} {μ' : Mem} (hX : Cx l D false X 7 RX9 cX9_fewest 2 (some FieldType.int)) : ∀ (n : Nat) (v1 : Int32) (μ : Mem), f_X9_fewest_33 n v1 μ = some (r, μ') → G l D false X 2 (some (.int r)) μ' 33 [some (.ref (D.1 0)), some (.int v1)] [] μ := by
  intro n
  induction n with
  | zero => intro v1 μ h; exact absurd h (by simp [f_X9_fewest_33])
  | succ n ih =>
    intro v1 μ h
    rw [f_X9_fewest_33] at h
    refine g_iload_n hX dX9_fewest_33 rfl rfl ?_
    refine g_aload_n hX dX9_fewest_34 rfl rfl ?_
    refine g_getr hX kd_false_0 fg_9_0 tf_9_0 w_970 sr_false_0_0 dX9_fewest_35 ?_
    refine g_iconst hX dX9_fewest_38 k_2 ?_
    refine g_iald hX wk_9_0.1 wk_9_0.2 (by decide) dX9_fewest_39 ?_
    refine g_icmp_ge (tgt := 54) hX dX9_fewest_40 (by decide) (fun q1 => ?_) (fun q1 => ?_)
    · rw [if_pos q1] at h
      exact g_weak (lc' := [some _, none]) ⟨rfl, trivial⟩ (t_X9_fewest_54 hX _ h)
    · rw [if_neg q1] at h
      refine g_aload_n hX dX9_fewest_43 rfl rfl ?_
      refine g_iload_n hX dX9_fewest_44 rfl rfl ?_
      obtain ⟨μ2, hμ2, h⟩ := bd_some h
      refine g_callVv hX (c_X9_tries  _ hμ2) mv_X9_tries wm_1301 kd_false_0 rfl (by decide) (by decide) rfl rfl (Nat.le_of_ble_eq_true rfl) dX9_fewest_45 ?_
      refine g_iinc (lc' := [some _, some _]) hX dX9_fewest_48 (by decide) rfl (congrArg _ k_1) rfl rfl ?_
      refine g_goto (tgt := 33) hX dX9_fewest_51 (by decide) ?_
      exact g_weak (lc' := [some _, some _]) ⟨rfl, rfl, trivial⟩ (ih _ _ h)
set_option maxRecDepth 100000 in
set_option maxHeartbeats 4000000 in
theorem t_X9_fewest_24 {l : Launch} {D : DT} {X : XT} {k2 : Int32 → Mem → Option (Int32 × Mem)} {r : Int32} {μ' : Mem} (hX : Cx l D false X 7 RX9 cX9_fewest 2 (some FieldType.int)) (hk2 : ∀ (v1 : Int32) (μ : Mem), k2 v1 μ = some (r, μ') → G l D false X 2 (some (.int r)) μ' 2 [some (.ref (D.1 0)), some (.int v1)] [] μ) : ∀ (v1 : Int32) (s1 : Int32) (s2 : Int32) (μ : Mem), f_X9_fewest_24 k2 v1 s1 s2 μ = some (r, μ') → G l D false X 2 (some (.int r)) μ' 24 [some (.ref (D.1 0)), some (.int v1)] [.int s2, .int s1, .ref (D.1 12)] μ := by
  intro v1 s1 s2 μ h
  unfold f_X9_fewest_24 at h
  obtain ⟨z2, h⟩ := ck_some h
  obtain ⟨μ1, hμ1, h⟩ := wr_some h
  refine g_iastM hX wk_9_17.1 wk_9_17.2 z2 dX9_fewest_24 hμ1 ?_
  refine g_iinc (lc' := [some _, some _]) hX dX9_fewest_25 (by decide) rfl (congrArg _ k_1) rfl rfl ?_
  refine g_goto (tgt := 2) hX dX9_fewest_28 (by decide) ?_
  exact g_weak (lc' := [some _, some _]) ⟨rfl, rfl, trivial⟩ (hk2 _ _ h)
set_option maxRecDepth 100000 in
set_option maxHeartbeats 4000000 in
theorem t_X9_fewest_2 {l : Launch} {D : DT} {X : XT} {r : Int32} {μ' : Mem} (hX : Cx l D false X 7 RX9 cX9_fewest 2 (some FieldType.int)) : ∀ (n : Nat) (v1 : Int32) (μ : Mem), f_X9_fewest_2 n v1 μ = some (r, μ') → G l D false X 2 (some (.int r)) μ' 2 [some (.ref (D.1 0)), some (.int v1)] [] μ := by
  intro n
  induction n with
  | zero => intro v1 μ h; exact absurd h (by simp [f_X9_fewest_2])
  | succ n ih =>
    intro v1 μ h
    rw [f_X9_fewest_2] at h
    refine g_iload_n hX dX9_fewest_2 rfl rfl ?_
    refine g_sipush hX dX9_fewest_3 ks_512 ?_
    refine g_icmp_ge (tgt := 31) hX dX9_fewest_6 (by decide) (fun q1 => ?_) (fun q1 => ?_)
    · rw [if_pos q1] at h
      refine g_iconst hX dX9_fewest_31 k_0 ?_
      refine g_istore_n (lc' := [some _, some _]) hX dX9_fewest_32 rfl (by decide) rfl rfl ?_
      exact g_weak (lc' := [some _, some _]) ⟨rfl, rfl, trivial⟩ (t_X9_fewest_33 hX 2000 _ _ h)
    · rw [if_neg q1] at h
      refine g_aload_n hX dX9_fewest_9 rfl rfl ?_
      refine g_getr hX kd_false_0 fg_9_17 tf_9_17 w_987 sr_false_0_17 dX9_fewest_10 ?_
      refine g_iload_n hX dX9_fewest_13 rfl rfl ?_
      refine g_iload_n hX dX9_fewest_14 rfl rfl ?_
      refine g_if_ne (tgt := 22) hX dX9_fewest_15 (by decide) (fun q2 => ?_) (fun q2 => ?_)
      · rw [if_neg q2] at h
        refine g_bipush hX dX9_fewest_22 kb_7 ?_
        exact g_weak (lc' := [some _, some _]) ⟨rfl, rfl, trivial⟩ (t_X9_fewest_24 hX ih _ _ _ _ h)
      · rw [if_pos q2] at h
        refine g_iconst hX dX9_fewest_18 k_0 ?_
        refine g_goto (tgt := 24) hX dX9_fewest_19 (by decide) ?_
        exact g_weak (lc' := [some _, some _]) ⟨rfl, rfl, trivial⟩ (t_X9_fewest_24 hX ih _ _ _ _ h)
set_option maxRecDepth 100000 in
set_option maxHeartbeats 4000000 in
theorem c_X9_fewest {l : Launch} {D : DT} {μ : Mem} {r : Int32} {μ' : Mem} (h : f_X9_fewest μ = some (r, μ')) : Ct l D false 7 yX9_fewest cX9_fewest 2 (some FieldType.int) [.ref (D.1 0)] μ (some (.int r)) μ' := by
  refine Ct.of (own := RX9) (lc0 := [some (.ref (D.1 0)), none]) pn_X9 rfl (Nat.le_of_ble_eq_true rfl) rfl mv_X9_fewest.2.2.2.1 (fun X hX => ?_)
  unfold f_X9_fewest at h
  refine g_iconst hX dX9_fewest_0 k_0 ?_
  refine g_istore_n (lc' := [some _, some _]) hX dX9_fewest_1 rfl (by decide) rfl rfl ?_
  exact g_weak (lc' := [some _, some _]) ⟨rfl, rfl, trivial⟩ (t_X9_fewest_2 hX 2000 _ _ h)
set_option maxRecDepth 100000 in
set_option maxHeartbeats 4000000 in
theorem c_X9_isGate {l : Launch} {D : DT} {μ : Mem} (v1 : Int32) : Ct l D false 2 yX9_isGate cX9_isGate 2 (some FieldType.boolean) [.ref (D.1 0), .int v1] μ (some (.int (f_X9_isGate v1 μ))) μ := by
  obtain ⟨r, h⟩ : ∃ r, f_X9_isGate v1 μ = r := ⟨_, rfl⟩
  rw [h]
  refine Ct.of (own := RX9) (lc0 := [some (.ref (D.1 0)), some (.int v1)]) pn_X9 rfl (Nat.le_of_ble_eq_true rfl) rfl mv_X9_isGate.2.2.2.1 (fun X hX => ?_)
  unfold f_X9_isGate at h
  refine g_iload_n hX dX9_isGate_0 rfl rfl ?_
  refine g_iconst hX dX9_isGate_1 k_0 ?_
  refine g_aload_n hX dX9_isGate_2 rfl rfl ?_
  refine g_getr hX kd_false_0 fg_9_0 tf_9_0 w_970 sr_false_0_0 dX9_isGate_3 ?_
  refine g_iconst hX dX9_isGate_6 k_3 ?_
  refine g_iald hX wk_9_0.1 wk_9_0.2 (by decide) dX9_isGate_7 ?_
  refine g_iconst hX dX9_isGate_8 k_1 ?_
  refine g_isub hX dX9_isGate_9 ?_
  refine g_callSi hX (c_X9_in  v1 0 ((μ 1 (ix 3)) - 1)) mv_X9_in wm_1047 (by decide) rfl rfl (Nat.le_of_ble_eq_true rfl) dX9_isGate_10 ?_
  subst h
  exact g_iret hX rfl (nar_bl (bz_X9_in v1 0 ((μ 1 (ix 3)) - 1))) dX9_isGate_13
set_option maxRecDepth 100000 in
set_option maxHeartbeats 4000000 in
theorem c_X9_thinks {l : Launch} {D : DT} {μ : Mem} {μ' : Mem} (h : f_X9_thinks μ = some μ') : Ct l D false 2 yX9_thinks cX9_thinks 1 none [.ref (D.1 0)] μ none μ' := by
  refine Ct.of (own := RX9) (lc0 := [some (.ref (D.1 0))]) pn_X9 rfl (Nat.le_of_ble_eq_true rfl) rfl mv_X9_thinks.2.2.2.1 (fun X hX => ?_)
  unfold f_X9_thinks at h
  refine g_aload_n hX dX9_thinks_0 rfl rfl ?_
  refine g_getr hX kd_false_0 fg_9_0 tf_9_0 w_970 sr_false_0_0 dX9_thinks_1 ?_
  refine g_aload_n hX dX9_thinks_4 rfl rfl ?_
  refine g_getr hX kd_false_0 fg_9_2 tf_9_2 w_972 sr_false_0_2 dX9_thinks_5 ?_
  obtain ⟨μ1, hμ1, h⟩ := bd_some h
  refine g_callSv hX (c_X9_copyAll wk_9_0.1 wk_9_2.1 hμ1) mv_X9_copyAll wm_1285 (by decide) rfl rfl (Nat.le_of_ble_eq_true rfl) dX9_thinks_8 ?_
  obtain rfl := Option.some.inj h
  exact g_vret hX rfl dX9_thinks_11
set_option maxRecDepth 100000 in
set_option maxHeartbeats 4000000 in
theorem c_X9_putsBack {l : Launch} {D : DT} {μ : Mem} {μ' : Mem} (h : f_X9_putsBack μ = some μ') : Ct l D false 2 yX9_putsBack cX9_putsBack 1 none [.ref (D.1 0)] μ none μ' := by
  refine Ct.of (own := RX9) (lc0 := [some (.ref (D.1 0))]) pn_X9 rfl (Nat.le_of_ble_eq_true rfl) rfl mv_X9_putsBack.2.2.2.1 (fun X hX => ?_)
  unfold f_X9_putsBack at h
  refine g_aload_n hX dX9_putsBack_0 rfl rfl ?_
  refine g_getr hX kd_false_0 fg_9_2 tf_9_2 w_972 sr_false_0_2 dX9_putsBack_1 ?_
  refine g_aload_n hX dX9_putsBack_4 rfl rfl ?_
  refine g_getr hX kd_false_0 fg_9_0 tf_9_0 w_970 sr_false_0_0 dX9_putsBack_5 ?_
  obtain ⟨μ1, hμ1, h⟩ := bd_some h
  refine g_callSv hX (c_X9_copyAll wk_9_2.1 wk_9_0.1 hμ1) mv_X9_copyAll wm_1285 (by decide) rfl rfl (Nat.le_of_ble_eq_true rfl) dX9_putsBack_8 ?_
  obtain rfl := Option.some.inj h
  exact g_vret hX rfl dX9_putsBack_11
set_option maxRecDepth 100000 in
set_option maxHeartbeats 4000000 in
theorem t_X9_first_45 {l : Launch} {D : DT} {X : XT} {r : Int32} {μ' : Mem} (hX : Cx l D false X 8 RX9 cX9_first 3 (some FieldType.int)) : ∀ (v2 : Int32) (μ : Mem), f_X9_first_45 v2 μ = some (r, μ') → G l D false X 3 (some (.int r)) μ' 45 [some (.ref (D.1 0)), none, some (.int v2)] [] μ := by
  intro v2 μ h
  unfold f_X9_first_45 at h
  refine g_aload_n hX dX9_first_45 rfl rfl ?_
  obtain ⟨μ1, hμ1, h⟩ := bd_some h
  refine g_callVv hX (c_X9_putsBack hμ1) mv_X9_putsBack wm_1288 kd_false_0 rfl (by decide) (by decide) rfl rfl (Nat.le_of_ble_eq_true rfl) dX9_first_46 ?_
  refine g_iload_n hX dX9_first_49 rfl rfl ?_
  refine g_bipush hX dX9_first_50 kb_60 ?_
  refine g_icmp_le (tgt := 64) hX dX9_first_52 (by decide) (fun q2 => ?_) (fun q2 => ?_)
  · rw [if_pos q2] at h
    refine g_iload_n hX dX9_first_64 rfl rfl ?_
    obtain ⟨rfl, rfl⟩ := pair_inj h
    exact g_iret hX rfl rfl dX9_first_65
  · rw [if_neg q2] at h
    refine g_aload_n hX dX9_first_55 rfl rfl ?_
    refine g_ldc hX dX9_first_56 wc_1296 ?_
    obtain ⟨r3, μ4, hr3, h⟩ := bd2_some h
    refine g_callVi hX (c_X9_error  _ hr3) mv_X9_error wm_1051 kd_false_0 rfl (by decide) (by decide) rfl rfl (Nat.le_of_ble_eq_true rfl) dX9_first_58 ?_
    refine g_goto (tgt := 65) hX dX9_first_61 (by decide) ?_
    obtain ⟨rfl, rfl⟩ := pair_inj h
    exact g_iret hX rfl rfl dX9_first_65
set_option maxRecDepth 100000 in
set_option maxHeartbeats 4000000 in
theorem t_X9_first_21 {l : Launch} {D : DT} {X : XT} {r : Int32} {μ' : Mem} (hX : Cx l D false X 8 RX9 cX9_first 3 (some FieldType.int)) : ∀ (n : Nat) (v1 : Int32) (v2 : Int32) (μ : Mem), f_X9_first_21 n v1 v2 μ = some (r, μ') → G l D false X 3 (some (.int r)) μ' 21 [some (.ref (D.1 0)), some (.int v1), some (.int v2)] [] μ := by
  intro n
  induction n with
  | zero => intro v1 v2 μ h; exact absurd h (by simp [f_X9_first_21])
  | succ n ih =>
    intro v1 v2 μ h
    rw [f_X9_first_21] at h
    refine g_iload_n hX dX9_first_21 rfl rfl ?_
    refine g_bipush hX dX9_first_22 kb_60 ?_
    refine g_icmp_gt (tgt := 45) hX dX9_first_24 (by decide) (fun q1 => ?_) (fun q1 => ?_)
    · rw [if_pos q1] at h
      exact g_weak (lc' := [some _, none, some _]) ⟨rfl, rfl, trivial⟩ (t_X9_first_45 hX _ _ h)
    · rw [if_neg q1] at h
      refine g_aload_n hX dX9_first_27 rfl rfl ?_
      refine g_iload_n hX dX9_first_28 rfl rfl ?_
      obtain ⟨r2, hr2, h⟩ := bd_some h
      refine g_callVi hX (c_X9_isOpen  _ hr2) mv_X9_isOpen wm_1089 kd_false_0 rfl (by decide) (by decide) rfl rfl (Nat.le_of_ble_eq_true rfl) dX9_first_29 ?_
      refine g_if_ne (tgt := 45) hX dX9_first_32 (by decide) (fun q3 => ?_) (fun q3 => ?_)
      · rw [if_neg q3] at h
        exact g_weak (lc' := [some _, none, some _]) ⟨rfl, rfl, trivial⟩ (t_X9_first_45 hX _ _ h)
      · rw [if_pos q3] at h
        refine g_aload_n hX dX9_first_35 rfl rfl ?_
        obtain ⟨μ4, hμ4, h⟩ := bd_some h
        refine g_callVv hX (c_X9_goes hμ4) mv_X9_goes wm_1232 kd_false_0 rfl (by decide) (by decide) rfl rfl (Nat.le_of_ble_eq_true rfl) dX9_first_36 ?_
        refine g_iinc (lc' := [some _, some _, some _]) hX dX9_first_39 (by decide) rfl (congrArg _ k_1) rfl rfl ?_
        refine g_goto (tgt := 21) hX dX9_first_42 (by decide) ?_
        exact g_weak (lc' := [some _, some _, some _]) ⟨rfl, rfl, rfl, trivial⟩ (ih _ _ _ h)
set_option maxRecDepth 100000 in
set_option maxHeartbeats 4000000 in
theorem c_X9_first {l : Launch} {D : DT} {μ : Mem} {r : Int32} {μ' : Mem} (v1 : Int32) (h : f_X9_first v1 μ = some (r, μ')) : Ct l D false 8 yX9_first cX9_first 3 (some FieldType.int) [.ref (D.1 0), .int v1] μ (some (.int r)) μ' := by
  refine Ct.of (own := RX9) (lc0 := [some (.ref (D.1 0)), some (.int v1), none]) pn_X9 rfl (Nat.le_of_ble_eq_true rfl) rfl mv_X9_first.2.2.2.1 (fun X hX => ?_)
  unfold f_X9_first at h
  refine g_aload_n hX dX9_first_0 rfl rfl ?_
  refine g_iload_n hX dX9_first_1 rfl rfl ?_
  refine g_callVi hX (c_X9_isGate  v1) mv_X9_isGate wm_1142 kd_false_0 rfl (by decide) (by decide) rfl rfl (Nat.le_of_ble_eq_true rfl) dX9_first_2 ?_
  refine g_if_ne (tgt := 15) hX dX9_first_5 (by decide) (fun q1 => ?_) (fun q1 => ?_)
  · rw [if_neg q1] at h
    refine g_aload_n hX dX9_first_15 rfl rfl ?_
    obtain ⟨μ2, hμ2, h⟩ := bd_some h
    refine g_callVv hX (c_X9_thinks hμ2) mv_X9_thinks wm_1281 kd_false_0 rfl (by decide) (by decide) rfl rfl (Nat.le_of_ble_eq_true rfl) dX9_first_16 ?_
    refine g_iconst hX dX9_first_19 k_0 ?_
    refine g_istore_n (lc' := [some _, some _, some _]) hX dX9_first_20 rfl (by decide) rfl rfl ?_
    exact g_weak (lc' := [some _, some _, some _]) ⟨rfl, rfl, rfl, trivial⟩ (t_X9_first_21 hX 2000 _ _ _ h)
  · rw [if_pos q1] at h
    refine g_aload_n hX dX9_first_8 rfl rfl ?_
    refine g_ldc hX dX9_first_9 wc_1050 ?_
    obtain ⟨r3, μ4, hr3, h⟩ := bd2_some h
    refine g_callVi hX (c_X9_error  _ hr3) mv_X9_error wm_1051 kd_false_0 rfl (by decide) (by decide) rfl rfl (Nat.le_of_ble_eq_true rfl) dX9_first_11 ?_
    obtain ⟨rfl, rfl⟩ := pair_inj h
    exact g_iret hX rfl rfl dX9_first_14
set_option maxRecDepth 100000 in
set_option maxHeartbeats 4000000 in
theorem c_X9_isSheet {l : Launch} {D : DT} {μ : Mem} (v0 : Int32) : Ct l D false 2 yX9_isSheet cX9_isSheet 1 (some FieldType.boolean) [.int v0] μ (some (.int (f_X9_isSheet v0))) μ := by
  obtain ⟨r, h⟩ : ∃ r, f_X9_isSheet v0 = r := ⟨_, rfl⟩
  rw [h]
  refine Ct.of (own := RX9) (lc0 := [some (.int v0)]) pn_X9 rfl (Nat.le_of_ble_eq_true rfl) rfl mv_X9_isSheet.2.2.1 (fun X hX => ?_)
  unfold f_X9_isSheet at h
  refine g_iload_n hX dX9_isSheet_0 rfl rfl ?_
  refine g_iconst hX dX9_isSheet_1 k_0 ?_
  refine g_iconst hX dX9_isSheet_2 k_3 ?_
  refine g_callSi hX (c_X9_in  v0 0 3) mv_X9_in wm_1047 (by decide) rfl rfl (Nat.le_of_ble_eq_true rfl) dX9_isSheet_3 ?_
  subst h
  exact g_iret hX rfl (nar_bl (bz_X9_in v0 0 3)) dX9_isSheet_6
set_option maxRecDepth 100000 in
set_option maxHeartbeats 4000000 in
theorem c_X9_notThere {l : Launch} {D : DT} {μ : Mem} {r : Int32} (v1 : Int32) (h : f_X9_notThere v1 μ = some r) : Ct l D false 3 yX9_notThere cX9_notThere 2 (some FieldType.int) [.ref (D.1 0), .int v1] μ (some (.int r)) μ := by
  refine Ct.of (own := RX9) (lc0 := [some (.ref (D.1 0)), some (.int v1)]) pn_X9 rfl (Nat.le_of_ble_eq_true rfl) rfl mv_X9_notThere.2.2.2.1 (fun X hX => ?_)
  unfold f_X9_notThere at h
  refine g_iload_n hX dX9_notThere_0 rfl rfl ?_
  refine g_callSi hX (c_X9_isSheet  v1) mv_X9_isSheet wm_1348 (by decide) rfl rfl (Nat.le_of_ble_eq_true rfl) dX9_notThere_1 ?_
  refine g_if_ne (tgt := 12) hX dX9_notThere_4 (by decide) (fun q1 => ?_) (fun q1 => ?_)
  · rw [if_neg q1] at h
    refine g_aload_n hX dX9_notThere_12 rfl rfl ?_
    refine g_getr hX kd_false_0 fg_9_5 tf_9_5 w_975 sr_false_0_5 dX9_notThere_13 ?_
    refine g_iload_n hX dX9_notThere_16 rfl rfl ?_
    obtain ⟨z2, h⟩ := ck_some h
    refine g_iald hX wk_9_5.1 wk_9_5.2 z2 dX9_notThere_17 ?_
    refine g_if_ne (tgt := 26) hX dX9_notThere_18 (by decide) (fun q3 => ?_) (fun q3 => ?_)
    · rw [if_neg q3] at h
      refine g_iconst hX dX9_notThere_26 k_0 ?_
      obtain rfl := Option.some.inj h
      exact g_iret hX rfl rfl dX9_notThere_27
    · rw [if_pos q3] at h
      refine g_ldc hX dX9_notThere_21 wc_1296 ?_
      refine g_goto (tgt := 27) hX dX9_notThere_23 (by decide) ?_
      obtain rfl := Option.some.inj h
      exact g_iret hX rfl rfl dX9_notThere_27
  · rw [if_pos q1] at h
    refine g_ldc hX dX9_notThere_7 wc_1050 ?_
    refine g_goto (tgt := 27) hX dX9_notThere_9 (by decide) ?_
    obtain rfl := Option.some.inj h
    exact g_iret hX rfl rfl dX9_notThere_27
set_option maxRecDepth 100000 in
set_option maxHeartbeats 4000000 in
theorem t_X9_isSo_4 {l : Launch} {D : DT} {X : XT} {μ : Mem} {r : Int32} (hX : Cx l D false X 2 RX9 cX9_isSo 4 (some FieldType.boolean)) : ∀ (n : Nat) (v1 : Int32) (v2 : Int32) (v3 : Int32), f_X9_isSo_4 μ n v1 v2 v3 = some r → G l D false X 4 (some (.int r)) μ 4 [some (.ref (D.1 0)), some (.int v1), some (.int v2), some (.int v3)] [] μ := by
  intro n
  induction n with
  | zero => intro v1 v2 v3 h; exact absurd h (by simp [f_X9_isSo_4])
  | succ n ih =>
    intro v1 v2 v3 h
    rw [f_X9_isSo_4] at h
    refine g_iload_n hX dX9_isSo_4 rfl rfl ?_
    refine g_aload_n hX dX9_isSo_5 rfl rfl ?_
    refine g_getr hX kd_false_0 fg_9_6 tf_9_6 w_976 sr_false_0_6 dX9_isSo_6 ?_
    refine g_iload_n hX dX9_isSo_9 rfl rfl ?_
    obtain ⟨z1, h⟩ := ck_some h
    refine g_iald hX wk_9_6.1 wk_9_6.2 z1 dX9_isSo_10 ?_
    refine g_icmp_ge (tgt := 50) hX dX9_isSo_11 (by decide) (fun q2 => ?_) (fun q2 => ?_)
    · rw [if_pos q2] at h
      refine g_iload_n hX dX9_isSo_50 rfl rfl ?_
      obtain ⟨z3, h⟩ := ck_some h
      obtain rfl := Option.some.inj h
      exact g_iret hX rfl (nar_bl z3) dX9_isSo_51
    · rw [if_neg q2] at h
      refine g_iload_n hX dX9_isSo_14 rfl rfl ?_
      refine g_if_eq (tgt := 50) hX dX9_isSo_15 (by decide) (fun q4 => ?_) (fun q4 => ?_)
      · rw [if_pos q4] at h
        refine g_iload_n hX dX9_isSo_50 rfl rfl ?_
        obtain ⟨z5, h⟩ := ck_some h
        obtain rfl := Option.some.inj h
        exact g_iret hX rfl (nar_bl z5) dX9_isSo_51
      · rw [if_neg q4] at h
        refine g_aload_n hX dX9_isSo_18 rfl rfl ?_
        refine g_getr hX kd_false_0 fg_9_7 tf_9_7 w_977 sr_false_0_7 dX9_isSo_19 ?_
        refine g_bipush hX dX9_isSo_22 kb_24 ?_
        refine g_iload_n hX dX9_isSo_24 rfl rfl ?_
        refine g_imul hX dX9_isSo_25 ?_
        refine g_iload_n hX dX9_isSo_26 rfl rfl ?_
        refine g_iadd hX dX9_isSo_27 ?_
        obtain ⟨z6, h⟩ := ck_some h
        refine g_iald hX wk_9_7.1 wk_9_7.2 z6 dX9_isSo_28 ?_
        refine g_aload_n hX dX9_isSo_29 rfl rfl ?_
        refine g_iload_n hX dX9_isSo_30 rfl rfl ?_
        refine g_iconst hX dX9_isSo_31 k_3 ?_
        obtain ⟨r7, hr7, h⟩ := bd_some h
        refine g_callVi hX (c_X9_about  _ _ hr7) mv_X9_about wm_1073 kd_false_0 rfl (by decide) (by decide) rfl rfl (Nat.le_of_ble_eq_true rfl) dX9_isSo_32 ?_
        refine g_icmp_ne (tgt := 42) hX dX9_isSo_35 (by decide) (fun q8 => ?_) (fun q8 => ?_)
        · rw [if_neg q8] at h
          refine g_iconst hX dX9_isSo_42 k_0 ?_
          refine g_istore_n (lc' := [some _, some _, some _, some _]) hX dX9_isSo_43 rfl (by decide) rfl rfl ?_
          refine g_iinc (lc' := [some _, some _, some _, some _]) hX dX9_isSo_44 (by decide) rfl (congrArg _ k_1) rfl rfl ?_
          refine g_goto (tgt := 4) hX dX9_isSo_47 (by decide) ?_
          exact g_weak (lc' := [some _, some _, some _, some _]) ⟨rfl, rfl, rfl, rfl, trivial⟩ (ih _ _ _ h)
        · rw [if_pos q8] at h
          refine g_iconst hX dX9_isSo_38 k_1 ?_
          refine g_goto (tgt := 43) hX dX9_isSo_39 (by decide) ?_
          refine g_istore_n (lc' := [some _, some _, some _, some _]) hX dX9_isSo_43 rfl (by decide) rfl rfl ?_
          refine g_iinc (lc' := [some _, some _, some _, some _]) hX dX9_isSo_44 (by decide) rfl (congrArg _ k_1) rfl rfl ?_
          refine g_goto (tgt := 4) hX dX9_isSo_47 (by decide) ?_
          exact g_weak (lc' := [some _, some _, some _, some _]) ⟨rfl, rfl, rfl, rfl, trivial⟩ (ih _ _ _ h)
set_option maxRecDepth 100000 in
set_option maxHeartbeats 4000000 in
theorem c_X9_isSo {l : Launch} {D : DT} {μ : Mem} {r : Int32} (v1 : Int32) (h : f_X9_isSo v1 μ = some r) : Ct l D false 2 yX9_isSo cX9_isSo 4 (some FieldType.boolean) [.ref (D.1 0), .int v1] μ (some (.int r)) μ := by
  refine Ct.of (own := RX9) (lc0 := [some (.ref (D.1 0)), some (.int v1), none, none]) pn_X9 rfl (Nat.le_of_ble_eq_true rfl) rfl mv_X9_isSo.2.2.2.1 (fun X hX => ?_)
  unfold f_X9_isSo at h
  refine g_iconst hX dX9_isSo_0 k_1 ?_
  refine g_istore_n (lc' := [some _, some _, some _, none]) hX dX9_isSo_1 rfl (by decide) rfl rfl ?_
  refine g_iconst hX dX9_isSo_2 k_0 ?_
  refine g_istore_n (lc' := [some _, some _, some _, some _]) hX dX9_isSo_3 rfl (by decide) rfl rfl ?_
  exact g_weak (lc' := [some _, some _, some _, some _]) ⟨rfl, rfl, rfl, rfl, trivial⟩ (t_X9_isSo_4 hX 2000 _ _ _ h)
set_option maxRecDepth 100000 in
set_option maxHeartbeats 4000000 in
theorem t_X9_fits_68 {l : Launch} {D : DT} {X : XT} {r : Int32} {μ' : Mem} (hX : Cx l D false X 8 RX9 cX9_fits 4 (some FieldType.int)) : ∀ (v3 : Int32) (μ : Mem), f_X9_fits_68 v3 μ = some (r, μ') → G l D false X 4 (some (.int r)) μ' 68 [some (.ref (D.1 0)), none, none, some (.int v3)] [] μ := by
  intro v3 μ h
  unfold f_X9_fits_68 at h
  refine g_aload_n hX dX9_fits_68 rfl rfl ?_
  obtain ⟨μ1, hμ1, h⟩ := bd_some h
  refine g_callVv hX (c_X9_putsBack hμ1) mv_X9_putsBack wm_1288 kd_false_0 rfl (by decide) (by decide) rfl rfl (Nat.le_of_ble_eq_true rfl) dX9_fits_69 ?_
  refine g_iload_n hX dX9_fits_72 rfl rfl ?_
  refine g_bipush hX dX9_fits_73 kb_60 ?_
  refine g_icmp_le (tgt := 87) hX dX9_fits_75 (by decide) (fun q2 => ?_) (fun q2 => ?_)
  · rw [if_pos q2] at h
    refine g_iload_n hX dX9_fits_87 rfl rfl ?_
    obtain ⟨rfl, rfl⟩ := pair_inj h
    exact g_iret hX rfl rfl dX9_fits_88
  · rw [if_neg q2] at h
    refine g_aload_n hX dX9_fits_78 rfl rfl ?_
    refine g_ldc hX dX9_fits_79 wc_1296 ?_
    obtain ⟨r3, μ4, hr3, h⟩ := bd2_some h
    refine g_callVi hX (c_X9_error  _ hr3) mv_X9_error wm_1051 kd_false_0 rfl (by decide) (by decide) rfl rfl (Nat.le_of_ble_eq_true rfl) dX9_fits_81 ?_
    refine g_goto (tgt := 88) hX dX9_fits_84 (by decide) ?_
    obtain ⟨rfl, rfl⟩ := pair_inj h
    exact g_iret hX rfl rfl dX9_fits_88
set_option maxRecDepth 100000 in
set_option maxHeartbeats 4000000 in
theorem t_X9_fits_44 {l : Launch} {D : DT} {X : XT} {r : Int32} {μ' : Mem} (hX : Cx l D false X 8 RX9 cX9_fits 4 (some FieldType.int)) : ∀ (n : Nat) (v1 : Int32) (v3 : Int32) (μ : Mem), f_X9_fits_44 n v1 v3 μ = some (r, μ') → G l D false X 4 (some (.int r)) μ' 44 [some (.ref (D.1 0)), some (.int v1), none, some (.int v3)] [] μ := by
  intro n
  induction n with
  | zero => intro v1 v3 μ h; exact absurd h (by simp [f_X9_fits_44])
  | succ n ih =>
    intro v1 v3 μ h
    rw [f_X9_fits_44] at h
    refine g_iload_n hX dX9_fits_44 rfl rfl ?_
    refine g_bipush hX dX9_fits_45 kb_60 ?_
    refine g_icmp_gt (tgt := 68) hX dX9_fits_47 (by decide) (fun q1 => ?_) (fun q1 => ?_)
    · rw [if_pos q1] at h
      exact g_weak (lc' := [some _, none, none, some _]) ⟨rfl, rfl, trivial⟩ (t_X9_fits_68 hX _ _ h)
    · rw [if_neg q1] at h
      refine g_aload_n hX dX9_fits_50 rfl rfl ?_
      refine g_iload_n hX dX9_fits_51 rfl rfl ?_
      obtain ⟨r2, hr2, h⟩ := bd_some h
      refine g_callVi hX (c_X9_isSo  _ hr2) mv_X9_isSo wm_1351 kd_false_0 rfl (by decide) (by decide) rfl rfl (Nat.le_of_ble_eq_true rfl) dX9_fits_52 ?_
      refine g_if_ne (tgt := 68) hX dX9_fits_55 (by decide) (fun q3 => ?_) (fun q3 => ?_)
      · rw [if_neg q3] at h
        exact g_weak (lc' := [some _, none, none, some _]) ⟨rfl, rfl, trivial⟩ (t_X9_fits_68 hX _ _ h)
      · rw [if_pos q3] at h
        refine g_aload_n hX dX9_fits_58 rfl rfl ?_
        obtain ⟨μ4, hμ4, h⟩ := bd_some h
        refine g_callVv hX (c_X9_goes hμ4) mv_X9_goes wm_1232 kd_false_0 rfl (by decide) (by decide) rfl rfl (Nat.le_of_ble_eq_true rfl) dX9_fits_59 ?_
        refine g_iinc (lc' := [some _, some _, none, some _]) hX dX9_fits_62 (by decide) rfl (congrArg _ k_1) rfl rfl ?_
        refine g_goto (tgt := 44) hX dX9_fits_65 (by decide) ?_
        exact g_weak (lc' := [some _, some _, none, some _]) ⟨rfl, rfl, rfl, trivial⟩ (ih _ _ _ h)
set_option maxRecDepth 100000 in
set_option maxHeartbeats 4000000 in
theorem c_X9_fits {l : Launch} {D : DT} {μ : Mem} {r : Int32} {μ' : Mem} (v1 : Int32) (h : f_X9_fits v1 μ = some (r, μ')) : Ct l D false 8 yX9_fits cX9_fits 4 (some FieldType.int) [.ref (D.1 0), .int v1] μ (some (.int r)) μ' := by
  refine Ct.of (own := RX9) (lc0 := [some (.ref (D.1 0)), some (.int v1), none, none]) pn_X9 rfl (Nat.le_of_ble_eq_true rfl) rfl mv_X9_fits.2.2.2.1 (fun X hX => ?_)
  unfold f_X9_fits at h
  refine g_aload_n hX dX9_fits_0 rfl rfl ?_
  refine g_iload_n hX dX9_fits_1 rfl rfl ?_
  obtain ⟨r1, hr1, h⟩ := bd_some h
  refine g_callVi hX (c_X9_notThere  _ hr1) mv_X9_notThere wm_1344 kd_false_0 rfl (by decide) (by decide) rfl rfl (Nat.le_of_ble_eq_true rfl) dX9_fits_2 ?_
  refine g_istore_n (lc' := [some _, some _, some _, none]) hX dX9_fits_5 rfl (by decide) rfl rfl ?_
  refine g_iload_n hX dX9_fits_6 rfl rfl ?_
  refine g_if_eq (tgt := 16) hX dX9_fits_7 (by decide) (fun q2 => ?_) (fun q2 => ?_)
  · rw [if_pos q2] at h
    refine g_aload_n hX dX9_fits_16 rfl rfl ?_
    refine g_getr hX kd_false_0 fg_9_6 tf_9_6 w_976 sr_false_0_6 dX9_fits_17 ?_
    refine g_iload_n hX dX9_fits_20 rfl rfl ?_
    obtain ⟨z3, h⟩ := ck_some h
    refine g_iald hX wk_9_6.1 wk_9_6.2 z3 dX9_fits_21 ?_
    refine g_aload_n hX dX9_fits_22 rfl rfl ?_
    refine g_getr hX kd_false_0 fg_9_0 tf_9_0 w_970 sr_false_0_0 dX9_fits_23 ?_
    refine g_iconst hX dX9_fits_26 k_3 ?_
    refine g_iald hX wk_9_0.1 wk_9_0.2 (by decide) dX9_fits_27 ?_
    refine g_icmp_le (tgt := 38) hX dX9_fits_28 (by decide) (fun q4 => ?_) (fun q4 => ?_)
    · rw [if_pos q4] at h
      refine g_aload_n hX dX9_fits_38 rfl rfl ?_
      obtain ⟨μ5, hμ5, h⟩ := bd_some h
      refine g_callVv hX (c_X9_thinks hμ5) mv_X9_thinks wm_1281 kd_false_0 rfl (by decide) (by decide) rfl rfl (Nat.le_of_ble_eq_true rfl) dX9_fits_39 ?_
      refine g_iconst hX dX9_fits_42 k_0 ?_
      refine g_istore_n (lc' := [some _, some _, some _, some _]) hX dX9_fits_43 rfl (by decide) rfl rfl ?_
      exact g_weak (lc' := [some _, some _, none, some _]) ⟨rfl, rfl, rfl, trivial⟩ (t_X9_fits_44 hX 2000 _ _ _ h)
    · rw [if_neg q4] at h
      refine g_aload_n hX dX9_fits_31 rfl rfl ?_
      refine g_ldc hX dX9_fits_32 wc_1296 ?_
      obtain ⟨r6, μ7, hr6, h⟩ := bd2_some h
      refine g_callVi hX (c_X9_error  _ hr6) mv_X9_error wm_1051 kd_false_0 rfl (by decide) (by decide) rfl rfl (Nat.le_of_ble_eq_true rfl) dX9_fits_34 ?_
      obtain ⟨rfl, rfl⟩ := pair_inj h
      exact g_iret hX rfl rfl dX9_fits_37
  · rw [if_neg q2] at h
    refine g_aload_n hX dX9_fits_10 rfl rfl ?_
    refine g_iload_n hX dX9_fits_11 rfl rfl ?_
    obtain ⟨r8, μ9, hr8, h⟩ := bd2_some h
    refine g_callVi hX (c_X9_error  _ hr8) mv_X9_error wm_1051 kd_false_0 rfl (by decide) (by decide) rfl rfl (Nat.le_of_ble_eq_true rfl) dX9_fits_12 ?_
    obtain ⟨rfl, rfl⟩ := pair_inj h
    exact g_iret hX rfl rfl dX9_fits_15
