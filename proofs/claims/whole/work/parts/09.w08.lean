set_option maxRecDepth 100000 in
set_option maxHeartbeats 4000000 in
theorem t_X8_then_19 {l : Launch} {D : DT} {X : XT} {r : Int32} {μ' : Mem} (hX : Cx l D true X 7 RX8 cX8_then 4 (some FieldType.int)) : ∀ (μ : Mem), f_X8_then_19 μ = some (r, μ') → G l D true X 4 (some (.int r)) μ' 19 [some (.ref (D.1 0)), none, none, none] [] μ := by
  intro μ h
  unfold f_X8_then_19 at h
  refine g_aload_n hX dX8_then_19 rfl rfl ?_
  refine g_iconst hX dX8_then_20 k_1 ?_
  obtain ⟨r1, μ2, hr1, h⟩ := bd2_some h
  refine g_callVi hX (c_X8_fail  _ hr1) mv_X8_fail wm_386 kd_true_0 rfl (by decide) (by decide) rfl rfl (Nat.le_of_ble_eq_true rfl) dX8_then_21 ?_
  obtain ⟨rfl, rfl⟩ := pair_inj h
  exact g_iret hX rfl rfl dX8_then_24
set_option maxRecDepth 100000 in
set_option maxHeartbeats 4000000 in
theorem t_X8_then_59 {l : Launch} {D : DT} {X : XT} {r : Int32} {μ' : Mem} (hX : Cx l D true X 7 RX8 cX8_then 4 (some FieldType.int)) : ∀ (v2 : Int32) (μ : Mem), f_X8_then_59 v2 μ = some (r, μ') → G l D true X 4 (some (.int r)) μ' 59 [some (.ref (D.1 0)), none, some (.int v2), none] [] μ := by
  intro v2 μ h
  unfold f_X8_then_59 at h
  refine g_iload_n hX dX8_then_59 rfl rfl ?_
  refine g_if_ne (tgt := 73) hX dX8_then_60 (by decide) (fun q1 => ?_) (fun q1 => ?_)
  · rw [if_neg q1] at h
    refine g_aload_n hX dX8_then_73 rfl rfl ?_
    refine g_getr hX kd_true_0 fg_8_2 tf_8_2 w_353 sr_true_0_2 dX8_then_74 ?_
    refine g_geti hX wk_8_2 fg_2_14 tf_2_14 w_183 dX8_then_77 ?_
    obtain ⟨rfl, rfl⟩ := pair_inj h
    exact g_iret hX rfl rfl dX8_then_80
  · rw [if_pos q1] at h
    refine g_aload_n hX dX8_then_63 rfl rfl ?_
    refine g_getr hX kd_true_0 fg_8_2 tf_8_2 w_353 sr_true_0_2 dX8_then_64 ?_
    obtain ⟨r2, hr2, h⟩ := bd_some h
    refine g_callVi hX (c_X2_openGates wk_8_2 hr2) mv_X2_openGates wm_719 wk_8_2 rfl (by decide) (by decide) rfl rfl (Nat.le_of_ble_eq_true rfl) dX8_then_67 ?_
    refine g_goto (tgt := 80) hX dX8_then_70 (by decide) ?_
    obtain ⟨rfl, rfl⟩ := pair_inj h
    exact g_iret hX rfl rfl dX8_then_80
set_option maxRecDepth 100000 in
set_option maxHeartbeats 4000000 in
theorem t_X8_then_41 {l : Launch} {D : DT} {X : XT} {r : Int32} {μ' : Mem} (hX : Cx l D true X 7 RX8 cX8_then 4 (some FieldType.int)) : ∀ (n : Nat) (v1 : Int32) (v2 : Int32) (v3 : Int32) (μ : Mem), f_X8_then_41 n v1 v2 v3 μ = some (r, μ') → G l D true X 4 (some (.int r)) μ' 41 [some (.ref (D.1 0)), some (.int v1), some (.int v2), some (.int v3)] [] μ := by
  intro n
  induction n with
  | zero => intro v1 v2 v3 μ h; exact absurd h (by simp [f_X8_then_41])
  | succ n ih =>
    intro v1 v2 v3 μ h
    rw [f_X8_then_41] at h
    refine g_iload_n hX dX8_then_41 rfl rfl ?_
    refine g_iload_n hX dX8_then_42 rfl rfl ?_
    refine g_icmp_ge (tgt := 59) hX dX8_then_43 (by decide) (fun q1 => ?_) (fun q1 => ?_)
    · rw [if_pos q1] at h
      exact g_weak (lc' := [some _, none, some _, none]) ⟨rfl, rfl, trivial⟩ (t_X8_then_59 hX _ _ h)
    · rw [if_neg q1] at h
      refine g_aload_n hX dX8_then_46 rfl rfl ?_
      refine g_getr hX kd_true_0 fg_8_2 tf_8_2 w_353 sr_true_0_2 dX8_then_47 ?_
      obtain ⟨μ2, hμ2, h⟩ := bd_some h
      refine g_callVv hX (c_X2_anHour wk_8_2 hμ2) mv_X2_anHour wm_694 wk_8_2 rfl (by decide) (by decide) rfl rfl (Nat.le_of_ble_eq_true rfl) dX8_then_50 ?_
      refine g_iinc (lc' := [some _, some _, some _, some _]) hX dX8_then_53 (by decide) rfl (congrArg _ k_1) rfl rfl ?_
      refine g_goto (tgt := 41) hX dX8_then_56 (by decide) ?_
      exact g_weak (lc' := [some _, some _, some _, some _]) ⟨rfl, rfl, rfl, rfl, trivial⟩ (ih _ _ _ _ h)
set_option maxRecDepth 100000 in
set_option maxHeartbeats 4000000 in
theorem c_X8_then {l : Launch} {D : DT} {μ : Mem} {r : Int32} {μ' : Mem} (v1 : Int32) (v2 : Int32) (h : f_X8_then v1 v2 μ = some (r, μ')) : Ct l D true 7 yX8_then cX8_then 4 (some FieldType.int) [.ref (D.1 0), .int v1, .int v2] μ (some (.int r)) μ' := by
  refine Ct.of (own := RX8) (lc0 := [some (.ref (D.1 0)), some (.int v1), some (.int v2), none]) pn_X8 rfl (Nat.le_of_ble_eq_true rfl) rfl mv_X8_then.2.2.2.1 (fun X hX => ?_)
  unfold f_X8_then at h
  refine g_iload_n hX dX8_then_0 rfl rfl ?_
  refine g_if_lt (tgt := 19) hX dX8_then_1 (by decide) (fun q1 => ?_) (fun q1 => ?_)
  · rw [if_pos q1] at h
    exact g_weak (lc' := [some _, none, none, none]) ⟨rfl, trivial⟩ (t_X8_then_19 hX _ h)
  · rw [if_neg q1] at h
    refine g_iload_n hX dX8_then_4 rfl rfl ?_
    refine g_bipush hX dX8_then_5 kb_60 ?_
    refine g_icmp_gt (tgt := 19) hX dX8_then_7 (by decide) (fun q2 => ?_) (fun q2 => ?_)
    · rw [if_pos q2] at h
      exact g_weak (lc' := [some _, none, none, none]) ⟨rfl, trivial⟩ (t_X8_then_19 hX _ h)
    · rw [if_neg q2] at h
      refine g_iload_n hX dX8_then_10 rfl rfl ?_
      refine g_if_lt (tgt := 19) hX dX8_then_11 (by decide) (fun q3 => ?_) (fun q3 => ?_)
      · rw [if_pos q3] at h
        exact g_weak (lc' := [some _, none, none, none]) ⟨rfl, trivial⟩ (t_X8_then_19 hX _ h)
      · rw [if_neg q3] at h
        refine g_iload_n hX dX8_then_14 rfl rfl ?_
        refine g_iconst hX dX8_then_15 k_1 ?_
        refine g_icmp_le (tgt := 25) hX dX8_then_16 (by decide) (fun q4 => ?_) (fun q4 => ?_)
        · rw [if_pos q4] at h
          refine g_aload_n hX dX8_then_25 rfl rfl ?_
          refine g_getr hX kd_true_0 fg_8_2 tf_8_2 w_353 sr_true_0_2 dX8_then_26 ?_
          refine g_aload_n hX dX8_then_29 rfl rfl ?_
          refine g_getr hX kd_true_0 fg_8_0 tf_8_0 w_351 sr_true_0_0 dX8_then_30 ?_
          refine g_getr hX wk_8_0 fg_0_2 tf_0_2 w_236 (wo_0_2 wk_8_0) dX8_then_33 ?_
          obtain ⟨μ5, hμ5, h⟩ := bd_some h
          refine g_callVv hX (c_X2_copyOf wk_8_2 (wk_0_2 wk_8_0) hμ5) mv_X2_copyOf wm_749 wk_8_2 rfl (by decide) (by decide) rfl rfl (Nat.le_of_ble_eq_true rfl) dX8_then_36 ?_
          refine g_iconst hX dX8_then_39 k_0 ?_
          refine g_istore_n (lc' := [some _, some _, some _, some _]) hX dX8_then_40 rfl (by decide) rfl rfl ?_
          exact g_weak (lc' := [some _, some _, some _, some _]) ⟨rfl, rfl, rfl, rfl, trivial⟩ (t_X8_then_41 hX 2000 _ _ _ _ h)
        · rw [if_neg q4] at h
          exact g_weak (lc' := [some _, none, none, none]) ⟨rfl, trivial⟩ (t_X8_then_19 hX _ h)
set_option maxRecDepth 100000 in
set_option maxHeartbeats 4000000 in
theorem t_X8_told_11 {l : Launch} {D : DT} {X : XT} {r : Int32} {μ' : Mem} (hX : Cx l D true X 2 RX8 cX8_told 2 (some FieldType.int)) : ∀ (μ : Mem), f_X8_told_11 μ = some (r, μ') → G l D true X 2 (some (.int r)) μ' 11 [some (.ref (D.1 0)), none] [] μ := by
  intro μ h
  unfold f_X8_told_11 at h
  refine g_aload_n hX dX8_told_11 rfl rfl ?_
  refine g_iconst hX dX8_told_12 k_1 ?_
  obtain ⟨r1, μ2, hr1, h⟩ := bd2_some h
  refine g_callVi hX (c_X8_fail  _ hr1) mv_X8_fail wm_386 kd_true_0 rfl (by decide) (by decide) rfl rfl (Nat.le_of_ble_eq_true rfl) dX8_told_13 ?_
  obtain ⟨rfl, rfl⟩ := pair_inj h
  exact g_iret hX rfl rfl dX8_told_16
set_option maxRecDepth 100000 in
set_option maxHeartbeats 4000000 in
theorem c_X8_told {l : Launch} {D : DT} {μ : Mem} {r : Int32} {μ' : Mem} (v1 : Int32) (h : f_X8_told v1 μ = some (r, μ')) : Ct l D true 2 yX8_told cX8_told 2 (some FieldType.int) [.ref (D.1 0), .int v1] μ (some (.int r)) μ' := by
  refine Ct.of (own := RX8) (lc0 := [some (.ref (D.1 0)), some (.int v1)]) pn_X8 rfl (Nat.le_of_ble_eq_true rfl) rfl mv_X8_told.2.2.2.1 (fun X hX => ?_)
  unfold f_X8_told at h
  refine g_iload_n hX dX8_told_0 rfl rfl ?_
  refine g_iconst hX dX8_told_1 k_1 ?_
  refine g_icmp_lt (tgt := 11) hX dX8_told_2 (by decide) (fun q1 => ?_) (fun q1 => ?_)
  · rw [if_pos q1] at h
    exact g_weak (lc' := [some _, none]) ⟨rfl, trivial⟩ (t_X8_told_11 hX _ h)
  · rw [if_neg q1] at h
    refine g_iload_n hX dX8_told_5 rfl rfl ?_
    refine g_bipush hX dX8_told_6 kb_6 ?_
    refine g_icmp_le (tgt := 17) hX dX8_told_8 (by decide) (fun q2 => ?_) (fun q2 => ?_)
    · rw [if_pos q2] at h
      refine g_aload_n hX dX8_told_17 rfl rfl ?_
      refine g_getr hX kd_true_0 fg_8_7 tf_8_7 w_358 sr_true_0_7 dX8_told_18 ?_
      refine g_iload_n hX dX8_told_21 rfl rfl ?_
      obtain ⟨z3, h⟩ := ck_some h
      refine g_iald hX wk_8_7.1 wk_8_7.2 z3 dX8_told_22 ?_
      obtain ⟨rfl, rfl⟩ := pair_inj h
      exact g_iret hX rfl rfl dX8_told_23
    · rw [if_neg q2] at h
      exact g_weak (lc' := [some _, none]) ⟨rfl, trivial⟩ (t_X8_told_11 hX _ h)
set_option maxRecDepth 100000 in
set_option maxHeartbeats 4000000 in
theorem t_X8_untell_34 {l : Launch} {D : DT} {X : XT} {r : Int32} {μ' : Mem} (hX : Cx l D true X 2 RX8 cX8_untell 4 (some FieldType.int)) : ∀ (v1 : Int32) (s0 : Int32) (μ : Mem), f_X8_untell_34 v1 s0 μ = some (r, μ') → G l D true X 4 (some (.int r)) μ' 34 [none, some (.int v1), some (.ref (D.1 (f_X0_lawOf 1 v1))), none] [.int s0] μ := by
  intro v1 s0 μ h
  unfold f_X8_untell_34 at h
  refine g_istore_n (lc' := [none, some _, some _, some _]) hX dX8_untell_34 rfl (by decide) rfl rfl ?_
  refine g_aload_n hX dX8_untell_35 rfl rfl ?_
  refine g_iconst hX dX8_untell_36 k_0 ?_
  obtain ⟨μ1, hμ1, h⟩ := wr_some h
  refine g_puti hX (ck_X0_lawOf wk_8_0) fg_1_4 tf_1_4 tyX1_ok nmX1 rfl w_128 dX8_untell_37 hμ1 ?_
  refine g_iload_n hX dX8_untell_40 rfl rfl ?_
  obtain ⟨rfl, rfl⟩ := pair_inj h
  exact g_iret hX rfl rfl dX8_untell_41
set_option maxRecDepth 100000 in
set_option maxHeartbeats 4000000 in
theorem c_X8_untell {l : Launch} {D : DT} {μ : Mem} {r : Int32} {μ' : Mem} (v1 : Int32) (h : f_X8_untell v1 μ = some (r, μ')) : Ct l D true 2 yX8_untell cX8_untell 4 (some FieldType.int) [.ref (D.1 0), .int v1] μ (some (.int r)) μ' := by
  refine Ct.of (own := RX8) (lc0 := [some (.ref (D.1 0)), some (.int v1), none, none]) pn_X8 rfl (Nat.le_of_ble_eq_true rfl) rfl mv_X8_untell.2.2.2.1 (fun X hX => ?_)
  unfold f_X8_untell at h
  refine g_iload_n hX dX8_untell_0 rfl rfl ?_
  refine g_callSi hX (c_X8_isUse  v1) mv_X8_isUse wm_529 (by decide) rfl rfl (Nat.le_of_ble_eq_true rfl) dX8_untell_1 ?_
  refine g_if_ne (tgt := 13) hX dX8_untell_4 (by decide) (fun q1 => ?_) (fun q1 => ?_)
  · rw [if_neg q1] at h
    refine g_aload_n hX dX8_untell_13 rfl rfl ?_
    refine g_getr hX kd_true_0 fg_8_0 tf_8_0 w_351 sr_true_0_0 dX8_untell_14 ?_
    refine g_iload_n hX dX8_untell_17 rfl rfl ?_
    refine g_callVr hX (c_X0_lawOf wk_8_0 v1) mv_X0_lawOf wm_532 wk_8_0 rfl (by decide) (by decide) rfl rfl (Nat.le_of_ble_eq_true rfl) dX8_untell_18 ?_
    refine g_astore_n (lc' := [some _, some _, some _, none]) hX dX8_untell_21 rfl (by decide) rfl rfl ?_
    refine g_aload_n hX dX8_untell_22 rfl rfl ?_
    refine g_callVi hX (c_X1_isTold (ck_X0_lawOf wk_8_0)) mv_X1_isTold wm_684 (ck_X0_lawOf wk_8_0) rfl (by decide) (by decide) rfl rfl (Nat.le_of_ble_eq_true rfl) dX8_untell_23 ?_
    refine g_if_eq (tgt := 33) hX dX8_untell_26 (by decide) (fun q2 => ?_) (fun q2 => ?_)
    · rw [if_pos q2] at h
      refine g_iconst hX dX8_untell_33 k_0 ?_
      exact g_weak (lc' := [none, some _, some _, none]) ⟨rfl, rfl, trivial⟩ (t_X8_untell_34 hX _ _ _ h)
    · rw [if_neg q2] at h
      refine g_iconst hX dX8_untell_29 k_1 ?_
      refine g_goto (tgt := 34) hX dX8_untell_30 (by decide) ?_
      exact g_weak (lc' := [none, some _, some _, none]) ⟨rfl, rfl, trivial⟩ (t_X8_untell_34 hX _ _ _ h)
  · rw [if_pos q1] at h
    refine g_aload_n hX dX8_untell_7 rfl rfl ?_
    refine g_iconst hX dX8_untell_8 k_1 ?_
    obtain ⟨r3, μ4, hr3, h⟩ := bd2_some h
    refine g_callVi hX (c_X8_fail  _ hr3) mv_X8_fail wm_386 kd_true_0 rfl (by decide) (by decide) rfl rfl (Nat.le_of_ble_eq_true rfl) dX8_untell_9 ?_
    obtain ⟨rfl, rfl⟩ := pair_inj h
    exact g_iret hX rfl rfl dX8_untell_12
set_option maxRecDepth 100000 in
set_option maxHeartbeats 4000000 in
theorem t_X8_voice_27 {l : Launch} {D : DT} {X : XT} {r : Int32} {μ' : Mem} (hX : Cx l D true X 65 RX8 cX8_voice 6 (some FieldType.int)) : ∀ (μ : Mem), f_X8_voice_27 μ = some (r, μ') → G l D true X 6 (some (.int r)) μ' 27 [some (.ref (D.1 0)), none, none, none, none, none] [] μ := by
  intro μ h
  unfold f_X8_voice_27 at h
  refine g_aload_n hX dX8_voice_27 rfl rfl ?_
  refine g_iconst hX dX8_voice_28 k_1 ?_
  obtain ⟨r1, μ2, hr1, h⟩ := bd2_some h
  refine g_callVi hX (c_X8_fail  _ hr1) mv_X8_fail wm_386 kd_true_0 rfl (by decide) (by decide) rfl rfl (Nat.le_of_ble_eq_true rfl) dX8_voice_29 ?_
  obtain ⟨rfl, rfl⟩ := pair_inj h
  exact g_iret hX rfl rfl dX8_voice_32
set_option maxRecDepth 100000 in
set_option maxHeartbeats 4000000 in
theorem c_X8_voice {l : Launch} {D : DT} {μ : Mem} {r : Int32} {μ' : Mem} (v1 : Int32) (v2 : Int32) (v3 : Int32) (h : f_X8_voice v1 v2 v3 μ = some (r, μ')) : Ct l D true 65 yX8_voice cX8_voice 6 (some FieldType.int) [.ref (D.1 0), .int v1, .int v2, .int v3] μ (some (.int r)) μ' := by
  refine Ct.of (own := RX8) (lc0 := [some (.ref (D.1 0)), some (.int v1), some (.int v2), some (.int v3), none, none]) pn_X8 rfl (Nat.le_of_ble_eq_true rfl) rfl mv_X8_voice.2.2.2.1 (fun X hX => ?_)
  unfold f_X8_voice at h
  refine g_aload_n hX dX8_voice_0 rfl rfl ?_
  refine g_getr hX kd_true_0 fg_8_0 tf_8_0 w_351 sr_true_0_0 dX8_voice_1 ?_
  refine g_getr hX wk_8_0 fg_0_2 tf_0_2 w_236 (wo_0_2 wk_8_0) dX8_voice_4 ?_
  refine g_astore (lc' := [some _, some _, some _, some _, some _, none]) hX dX8_voice_7 (by decide) rfl rfl ?_
  refine g_aload hX dX8_voice_9 rfl ?_
  refine g_iload_n hX dX8_voice_11 rfl rfl ?_
  refine g_callVi hX (c_X2_isOne (wk_0_2 wk_8_0) v1) mv_X2_isOne wm_399 (wk_0_2 wk_8_0) rfl (by decide) (by decide) rfl rfl (Nat.le_of_ble_eq_true rfl) dX8_voice_12 ?_
  refine g_if_eq (tgt := 27) hX dX8_voice_15 (by decide) (fun q1 => ?_) (fun q1 => ?_)
  · rw [if_pos q1] at h
    exact g_weak (lc' := [some _, none, none, none, none, none]) ⟨rfl, trivial⟩ (t_X8_voice_27 hX _ h)
  · rw [if_neg q1] at h
    refine g_iload_n hX dX8_voice_18 rfl rfl ?_
    refine g_if_lt (tgt := 27) hX dX8_voice_19 (by decide) (fun q2 => ?_) (fun q2 => ?_)
    · rw [if_pos q2] at h
      exact g_weak (lc' := [some _, none, none, none, none, none]) ⟨rfl, trivial⟩ (t_X8_voice_27 hX _ h)
    · rw [if_neg q2] at h
      refine g_iload_n hX dX8_voice_22 rfl rfl ?_
      refine g_iconst hX dX8_voice_23 k_4 ?_
      refine g_icmp_lt (tgt := 33) hX dX8_voice_24 (by decide) (fun q3 => ?_) (fun q3 => ?_)
      · rw [if_pos q3] at h
        refine g_aload_n hX dX8_voice_33 rfl rfl ?_
        refine g_getr hX kd_true_0 fg_8_5 tf_8_5 w_356 sr_true_0_5 dX8_voice_34 ?_
        refine g_aload hX dX8_voice_37 rfl ?_
        refine g_getr hX (wk_0_2 wk_8_0) fg_2_2 tf_2_2 w_152 (wo_2_2 (wk_0_2 wk_8_0)) dX8_voice_39 ?_
        refine g_iload_n hX dX8_voice_42 rfl rfl ?_
        obtain ⟨z4, h⟩ := ck_some h
        refine g_iald hX (wk_2_2 (wk_0_2 wk_8_0)).1 (wk_2_2 (wk_0_2 wk_8_0)).2 z4 dX8_voice_43 ?_
        refine g_iload_n hX dX8_voice_44 rfl rfl ?_
        refine g_aload hX dX8_voice_45 rfl ?_
        refine g_getr hX (wk_0_2 wk_8_0) fg_2_3 tf_2_3 w_154 (wo_2_3 (wk_0_2 wk_8_0)) dX8_voice_47 ?_
        refine g_iload_n hX dX8_voice_50 rfl rfl ?_
        obtain ⟨z5, h⟩ := ck_some h
        refine g_iald hX (wk_2_3 (wk_0_2 wk_8_0)).1 (wk_2_3 (wk_0_2 wk_8_0)).2 z5 dX8_voice_51 ?_
        refine g_iload_n hX dX8_voice_52 rfl rfl ?_
        refine g_iload_n hX dX8_voice_53 rfl rfl ?_
        obtain ⟨r6, μ7, hr6, h⟩ := bd2_some h
        refine g_callVi hX (c_X6_speak  _ _ _ _ _ hr6) mv_X6_speak wm_845 wk_8_5 rfl (by decide) (by decide) rfl rfl (Nat.le_of_ble_eq_true rfl) dX8_voice_54 ?_
        refine g_istore (lc' := [some _, some _, some _, some _, some _, some _]) hX dX8_voice_57 (by decide) rfl rfl ?_
        refine g_aload_n hX dX8_voice_59 rfl rfl ?_
        refine g_getr hX kd_true_0 fg_8_5 tf_8_5 w_356 sr_true_0_5 dX8_voice_60 ?_
        refine g_geti hX wk_8_5 fg_6_2 tf_6_2 w_314 dX8_voice_63 ?_
        refine g_if_eq (tgt := 78) hX dX8_voice_66 (by decide) (fun q8 => ?_) (fun q8 => ?_)
        · rw [if_pos q8] at h
          refine g_iload hX dX8_voice_78 rfl ?_
          obtain ⟨rfl, rfl⟩ := pair_inj h
          exact g_iret hX rfl rfl dX8_voice_80
        · rw [if_neg q8] at h
          refine g_aload_n hX dX8_voice_69 rfl rfl ?_
          refine g_bipush hX dX8_voice_70 kb_6 ?_
          obtain ⟨r9, μ10, hr9, h⟩ := bd2_some h
          refine g_callVi hX (c_X8_fail  _ hr9) mv_X8_fail wm_386 kd_true_0 rfl (by decide) (by decide) rfl rfl (Nat.le_of_ble_eq_true rfl) dX8_voice_72 ?_
          refine g_goto (tgt := 80) hX dX8_voice_75 (by decide) ?_
          obtain ⟨rfl, rfl⟩ := pair_inj h
          exact g_iret hX rfl rfl dX8_voice_80
      · rw [if_neg q3] at h
        exact g_weak (lc' := [some _, none, none, none, none, none]) ⟨rfl, trivial⟩ (t_X8_voice_27 hX _ h)
set_option maxRecDepth 100000 in
set_option maxHeartbeats 4000000 in
theorem t_X8_way_14 {l : Launch} {D : DT} {X : XT} {r : Int32} {μ' : Mem} (hX : Cx l D true X 3 RX8 cX8_way 4 (some FieldType.int)) : ∀ (μ : Mem), f_X8_way_14 μ = some (r, μ') → G l D true X 4 (some (.int r)) μ' 14 [some (.ref (D.1 0)), none, none, none] [] μ := by
  intro μ h
  unfold f_X8_way_14 at h
  refine g_aload_n hX dX8_way_14 rfl rfl ?_
  refine g_iconst hX dX8_way_15 k_1 ?_
  obtain ⟨r1, μ2, hr1, h⟩ := bd2_some h
  refine g_callVi hX (c_X8_fail  _ hr1) mv_X8_fail wm_386 kd_true_0 rfl (by decide) (by decide) rfl rfl (Nat.le_of_ble_eq_true rfl) dX8_way_16 ?_
  obtain ⟨rfl, rfl⟩ := pair_inj h
  exact g_iret hX rfl rfl dX8_way_19
set_option maxRecDepth 100000 in
set_option maxHeartbeats 4000000 in
theorem c_X8_way {l : Launch} {D : DT} {μ : Mem} {r : Int32} {μ' : Mem} (v1 : Int32) (v2 : Int32) (h : f_X8_way v1 v2 μ = some (r, μ')) : Ct l D true 3 yX8_way cX8_way 4 (some FieldType.int) [.ref (D.1 0), .int v1, .int v2] μ (some (.int r)) μ' := by
  refine Ct.of (own := RX8) (lc0 := [some (.ref (D.1 0)), some (.int v1), some (.int v2), none]) pn_X8 rfl (Nat.le_of_ble_eq_true rfl) rfl mv_X8_way.2.2.2.1 (fun X hX => ?_)
  unfold f_X8_way at h
  refine g_iload_n hX dX8_way_0 rfl rfl ?_
  refine g_callSi hX (c_X8_isField  v1) mv_X8_isField wm_473 (by decide) rfl rfl (Nat.le_of_ble_eq_true rfl) dX8_way_1 ?_
  refine g_if_eq (tgt := 14) hX dX8_way_4 (by decide) (fun q1 => ?_) (fun q1 => ?_)
  · rw [if_pos q1] at h
    exact g_weak (lc' := [some _, none, none, none]) ⟨rfl, trivial⟩ (t_X8_way_14 hX _ h)
  · rw [if_neg q1] at h
    refine g_iload_n hX dX8_way_7 rfl rfl ?_
    refine g_callSi hX (c_X8_isField  v2) mv_X8_isField wm_473 (by decide) rfl rfl (Nat.le_of_ble_eq_true rfl) dX8_way_8 ?_
    refine g_if_ne (tgt := 20) hX dX8_way_11 (by decide) (fun q2 => ?_) (fun q2 => ?_)
    · rw [if_neg q2] at h
      refine g_aload_n hX dX8_way_20 rfl rfl ?_
      refine g_getr hX kd_true_0 fg_8_0 tf_8_0 w_351 sr_true_0_0 dX8_way_21 ?_
      refine g_getr hX wk_8_0 fg_0_2 tf_0_2 w_236 (wo_0_2 wk_8_0) dX8_way_24 ?_
      refine g_iload_n hX dX8_way_27 rfl rfl ?_
      refine g_iload_n hX dX8_way_28 rfl rfl ?_
      obtain ⟨r3, hr3, h⟩ := bd_some h
      refine g_callVi hX (c_X2_steps (wk_0_2 wk_8_0) _ _ hr3) mv_X2_steps wm_781 (wk_0_2 wk_8_0) rfl (by decide) (by decide) rfl rfl (Nat.le_of_ble_eq_true rfl) dX8_way_29 ?_
      refine g_istore_n (lc' := [some _, some _, some _, some _]) hX dX8_way_32 rfl (by decide) rfl rfl ?_
      refine g_iload_n hX dX8_way_33 rfl rfl ?_
      refine g_if_ge (tgt := 45) hX dX8_way_34 (by decide) (fun q4 => ?_) (fun q4 => ?_)
      · rw [if_pos q4] at h
        refine g_iload_n hX dX8_way_45 rfl rfl ?_
        obtain ⟨rfl, rfl⟩ := pair_inj h
        exact g_iret hX rfl rfl dX8_way_46
      · rw [if_neg q4] at h
        refine g_aload_n hX dX8_way_37 rfl rfl ?_
        refine g_iconst hX dX8_way_38 k_2 ?_
        obtain ⟨r5, μ6, hr5, h⟩ := bd2_some h
        refine g_callVi hX (c_X8_fail  _ hr5) mv_X8_fail wm_386 kd_true_0 rfl (by decide) (by decide) rfl rfl (Nat.le_of_ble_eq_true rfl) dX8_way_39 ?_
        refine g_goto (tgt := 46) hX dX8_way_42 (by decide) ?_
        obtain ⟨rfl, rfl⟩ := pair_inj h
        exact g_iret hX rfl rfl dX8_way_46
    · rw [if_pos q2] at h
      exact g_weak (lc' := [some _, none, none, none]) ⟨rfl, trivial⟩ (t_X8_way_14 hX _ h)
set_option maxRecDepth 100000 in
set_option maxHeartbeats 4000000 in
theorem c_X9_about {l : Launch} {D : DT} {μ : Mem} {r : Int32} (v1 : Int32) (v2 : Int32) (h : f_X9_about v1 v2 μ = some r) : Ct l D false 1 yX9_about cX9_about 3 (some FieldType.int) [.ref (D.1 0), .int v1, .int v2] μ (some (.int r)) μ := by
  refine Ct.of (own := RX9) (lc0 := [some (.ref (D.1 0)), some (.int v1), some (.int v2)]) pn_X9 rfl (Nat.le_of_ble_eq_true rfl) rfl mv_X9_about.2.2.2.1 (fun X hX => ?_)
  unfold f_X9_about at h
  refine g_aload_n hX dX9_about_0 rfl rfl ?_
  refine g_getr hX kd_false_0 fg_9_0 tf_9_0 w_970 sr_false_0_0 dX9_about_1 ?_
  refine g_bipush hX dX9_about_4 kb_27 ?_
  refine g_iconst hX dX9_about_6 k_4 ?_
  refine g_iload_n hX dX9_about_7 rfl rfl ?_
  refine g_imul hX dX9_about_8 ?_
  refine g_iadd hX dX9_about_9 ?_
  refine g_iload_n hX dX9_about_10 rfl rfl ?_
  refine g_iadd hX dX9_about_11 ?_
  obtain ⟨z1, h⟩ := ck_some h
  refine g_iald hX wk_9_0.1 wk_9_0.2 z1 dX9_about_12 ?_
  obtain rfl := Option.some.inj h
  exact g_iret hX rfl rfl dX9_about_13
set_option maxRecDepth 100000 in
set_option maxHeartbeats 4000000 in
theorem c_X9_all {l : Launch} {D : DT} {μ : Mem} : Ct l D false 1 yX9_all cX9_all 1 (some FieldType.int) [.ref (D.1 0)] μ (some (.int (f_X9_all μ))) μ := by
  obtain ⟨r, h⟩ : ∃ r, f_X9_all μ = r := ⟨_, rfl⟩
  rw [h]
  refine Ct.of (own := RX9) (lc0 := [some (.ref (D.1 0))]) pn_X9 rfl (Nat.le_of_ble_eq_true rfl) rfl mv_X9_all.2.2.2.1 (fun X hX => ?_)
  unfold f_X9_all at h
  refine g_iconst hX dX9_all_0 k_1 ?_
  refine g_aload_n hX dX9_all_1 rfl rfl ?_
  refine g_getr hX kd_false_0 fg_9_0 tf_9_0 w_970 sr_false_0_0 dX9_all_2 ?_
  refine g_iconst hX dX9_all_5 k_3 ?_
  refine g_iald hX wk_9_0.1 wk_9_0.2 (by decide) dX9_all_6 ?_
  refine g_ishl hX dX9_all_7 ?_
  refine g_iconst hX dX9_all_8 k_1 ?_
  refine g_isub hX dX9_all_9 ?_
  subst h
  exact g_iret hX rfl rfl dX9_all_10
set_option maxRecDepth 100000 in
set_option maxHeartbeats 4000000 in
theorem c_X9_look {l : Launch} {D : DT} {μ : Mem} {r : Int32} (h : f_X9_look μ = some r) : Ct l D false 1 yX9_look cX9_look 1 (some FieldType.int) [.ref (D.1 0)] μ (some (.int r)) μ := by
  refine Ct.of (own := RX9) (lc0 := [some (.ref (D.1 0))]) pn_X9 rfl (Nat.le_of_ble_eq_true rfl) rfl mv_X9_look.2.2.2.1 (fun X hX => ?_)
  unfold f_X9_look at h
  refine g_aload_n hX dX9_look_0 rfl rfl ?_
  refine g_geti hX kd_false_0 fg_9_13 tf_9_13 w_983 dX9_look_1 ?_
  refine g_aload_n hX dX9_look_4 rfl rfl ?_
  refine g_getr hX kd_false_0 fg_9_0 tf_9_0 w_970 sr_false_0_0 dX9_look_5 ?_
  refine g_bipush hX dX9_look_8 kb_6 ?_
  refine g_iald hX wk_9_0.1 wk_9_0.2 (by decide) dX9_look_10 ?_
  refine g_icmp_ge (tgt := 29) hX dX9_look_11 (by decide) (fun q1 => ?_) (fun q1 => ?_)
  · rw [if_pos q1] at h
    refine g_iconst hX dX9_look_29 k_m1 ?_
    obtain rfl := Option.some.inj h
    exact g_iret hX rfl rfl dX9_look_30
  · rw [if_neg q1] at h
    refine g_aload_n hX dX9_look_14 rfl rfl ?_
    refine g_getr hX kd_false_0 fg_9_0 tf_9_0 w_970 sr_false_0_0 dX9_look_15 ?_
    refine g_bipush hX dX9_look_18 kb_69 ?_
    refine g_aload_n hX dX9_look_20 rfl rfl ?_
    refine g_geti hX kd_false_0 fg_9_13 tf_9_13 w_983 dX9_look_21 ?_
    refine g_iadd hX dX9_look_24 ?_
    obtain ⟨z2, h⟩ := ck_some h
    refine g_iald hX wk_9_0.1 wk_9_0.2 z2 dX9_look_25 ?_
    refine g_goto (tgt := 30) hX dX9_look_26 (by decide) ?_
    obtain rfl := Option.some.inj h
    exact g_iret hX rfl rfl dX9_look_30
set_option maxRecDepth 100000 in
set_option maxHeartbeats 4000000 in
theorem c_X9_nameOf {l : Launch} {D : DT} {μ : Mem} (v1 : Int32) : Ct l D false 1 yX9_nameOf cX9_nameOf 2 (some FieldType.int) [.ref (D.1 0), .int v1] μ (some (.int (f_X9_nameOf v1 μ))) μ := by
  obtain ⟨r, h⟩ : ∃ r, f_X9_nameOf v1 μ = r := ⟨_, rfl⟩
  rw [h]
  refine Ct.of (own := RX9) (lc0 := [some (.ref (D.1 0)), some (.int v1)]) pn_X9 rfl (Nat.le_of_ble_eq_true rfl) rfl mv_X9_nameOf.2.2.2.1 (fun X hX => ?_)
  unfold f_X9_nameOf at h
  refine g_iload_n hX dX9_nameOf_0 rfl rfl ?_
  by_cases q1 : v1 = 100 ∨ v1 = 102
  · rw [if_pos q1] at h
    refine g_ls (tgt := 88) (off := 87) hX dX9_nameOf_1 (by decide) (by rcases q1 with e | e <;> rw [e] <;> rfl) (by decide) ?_
    refine g_aload_n hX dX9_nameOf_88 rfl rfl ?_
    refine g_geti hX kd_false_0 fg_9_16 tf_9_16 w_986 dX9_nameOf_89 ?_
    refine g_iconst hX dX9_nameOf_92 k_1 ?_
    refine g_icmp_eq (tgt := 100) hX dX9_nameOf_93 (by decide) (fun q2 => ?_) (fun q2 => ?_)
    · rw [if_pos q2] at h
      refine g_iload_n hX dX9_nameOf_100 rfl rfl ?_
      refine g_bipush hX dX9_nameOf_101 kb_102 ?_
      refine g_icmp_ne (tgt := 110) hX dX9_nameOf_103 (by decide) (fun q3 => ?_) (fun q3 => ?_)
      · rw [if_neg q3] at h
        refine g_iconst hX dX9_nameOf_110 k_2 ?_
        subst h
        exact g_iret hX rfl rfl dX9_nameOf_111
      · rw [if_pos q3] at h
        refine g_iconst hX dX9_nameOf_106 k_1 ?_
        refine g_goto (tgt := 111) hX dX9_nameOf_107 (by decide) ?_
        subst h
        exact g_iret hX rfl rfl dX9_nameOf_111
    · rw [if_neg q2] at h
      refine g_iconst hX dX9_nameOf_96 k_m1 ?_
      refine g_goto (tgt := 111) hX dX9_nameOf_97 (by decide) ?_
      subst h
      exact g_iret hX rfl rfl dX9_nameOf_111
  rw [if_neg q1] at h
  have eq1_100 := ls_ne (c := 100) (k := 100) (fun e => q1 (Or.inl e)) (by decide)
  have eq1_102 := ls_ne (c := 102) (k := 102) (fun e => q1 (Or.inr e)) (by decide)
  by_cases q4 : v1 = 103
  · rw [if_pos q4] at h
    refine g_ls (tgt := 52) (off := 51) hX dX9_nameOf_1 (by decide) (by rw [q4] <;> rfl) (by decide) ?_
    refine g_aload_n hX dX9_nameOf_52 rfl rfl ?_
    refine g_geti hX kd_false_0 fg_9_16 tf_9_16 w_986 dX9_nameOf_53 ?_
    refine g_if_ne (tgt := 63) hX dX9_nameOf_56 (by decide) (fun q5 => ?_) (fun q5 => ?_)
    · rw [if_neg q5] at h
      refine g_iconst hX dX9_nameOf_63 k_0 ?_
      subst h
      exact g_iret hX rfl rfl dX9_nameOf_64
    · rw [if_pos q5] at h
      refine g_iconst hX dX9_nameOf_59 k_2 ?_
      refine g_goto (tgt := 64) hX dX9_nameOf_60 (by decide) ?_
      subst h
      exact g_iret hX rfl rfl dX9_nameOf_64
  rw [if_neg q4] at h
  have eq4_103 := ls_ne (c := 103) (k := 103) q4 (by decide)
  by_cases q6 : v1 = 104 ∨ v1 = 119
  · rw [if_pos q6] at h
    refine g_ls (tgt := 65) (off := 64) hX dX9_nameOf_1 (by decide) (by rcases q6 with e | e <;> rw [e] <;> rfl) (by decide) ?_
    refine g_aload_n hX dX9_nameOf_65 rfl rfl ?_
    refine g_geti hX kd_false_0 fg_9_16 tf_9_16 w_986 dX9_nameOf_66 ?_
    refine g_if_eq (tgt := 76) hX dX9_nameOf_69 (by decide) (fun q7 => ?_) (fun q7 => ?_)
    · rw [if_pos q7] at h
      refine g_iload_n hX dX9_nameOf_76 rfl rfl ?_
      refine g_bipush hX dX9_nameOf_77 kb_119 ?_
      refine g_icmp_ne (tgt := 86) hX dX9_nameOf_79 (by decide) (fun q8 => ?_) (fun q8 => ?_)
      · rw [if_neg q8] at h
        refine g_iconst hX dX9_nameOf_86 k_1 ?_
        subst h
        exact g_iret hX rfl rfl dX9_nameOf_87
      · rw [if_pos q8] at h
        refine g_iconst hX dX9_nameOf_82 k_0 ?_
        refine g_goto (tgt := 87) hX dX9_nameOf_83 (by decide) ?_
        subst h
        exact g_iret hX rfl rfl dX9_nameOf_87
    · rw [if_neg q7] at h
      refine g_iconst hX dX9_nameOf_72 k_m1 ?_
      refine g_goto (tgt := 87) hX dX9_nameOf_73 (by decide) ?_
      subst h
      exact g_iret hX rfl rfl dX9_nameOf_87
  rw [if_neg q6] at h
  have eq6_104 := ls_ne (c := 104) (k := 104) (fun e => q6 (Or.inl e)) (by decide)
  have eq6_119 := ls_ne (c := 119) (k := 119) (fun e => q6 (Or.inr e)) (by decide)
  refine g_ls (tgt := 112) (off := 111) hX dX9_nameOf_1 (by decide) (by simp [Op.lookupswitch.offset, eq1_100, eq1_102, eq4_103, eq6_104, eq6_119]) (by decide) ?_
  refine g_iconst hX dX9_nameOf_112 k_m1 ?_
  subst h
  exact g_iret hX rfl rfl dX9_nameOf_113
set_option maxRecDepth 100000 in
set_option maxHeartbeats 4000000 in
theorem c_X9_lays {l : Launch} {D : DT} {μ : Mem} {μ' : Mem} (v1 : Int32) (v2 : Int32) (h : f_X9_lays v1 v2 μ = some μ') : Ct l D false 1 yX9_lays cX9_lays 3 none [.ref (D.1 0), .int v1, .int v2] μ none μ' := by
  refine Ct.of (own := RX9) (lc0 := [some (.ref (D.1 0)), some (.int v1), some (.int v2)]) pn_X9 rfl (Nat.le_of_ble_eq_true rfl) rfl mv_X9_lays.2.2.2.1 (fun X hX => ?_)
  unfold f_X9_lays at h
  refine g_aload_n hX dX9_lays_0 rfl rfl ?_
  refine g_geti hX kd_false_0 fg_9_12 tf_9_12 w_982 dX9_lays_1 ?_
  refine g_aload_n hX dX9_lays_4 rfl rfl ?_
  refine g_getr hX kd_false_0 fg_9_8 tf_9_8 w_978 sr_false_0_8 dX9_lays_5 ?_
  refine g_alen hX wk_9_8.1 wk_9_8.2 len_60 dX9_lays_8 ?_
  refine g_icmp_ge (tgt := 42) hX dX9_lays_9 (by decide) (fun q1 => ?_) (fun q1 => ?_)
  · rw [if_pos q1] at h
    obtain rfl := Option.some.inj h
    exact g_vret hX rfl dX9_lays_42
  · rw [if_neg q1] at h
    refine g_aload_n hX dX9_lays_12 rfl rfl ?_
    refine g_getr hX kd_false_0 fg_9_8 tf_9_8 w_978 sr_false_0_8 dX9_lays_13 ?_
    refine g_aload_n hX dX9_lays_16 rfl rfl ?_
    refine g_geti hX kd_false_0 fg_9_12 tf_9_12 w_982 dX9_lays_17 ?_
    refine g_iload_n hX dX9_lays_20 rfl rfl ?_
    obtain ⟨z3, h⟩ := ck_some h
    obtain ⟨μ2, hμ2, h⟩ := wr_some h
    refine g_iastM hX wk_9_8.1 wk_9_8.2 z3 dX9_lays_21 hμ2 ?_
    refine g_aload_n hX dX9_lays_22 rfl rfl ?_
    refine g_getr hX kd_false_0 fg_9_9 tf_9_9 w_979 sr_false_0_9 dX9_lays_23 ?_
    refine g_aload_n hX dX9_lays_26 rfl rfl ?_
    refine g_geti hX kd_false_0 fg_9_12 tf_9_12 w_982 dX9_lays_27 ?_
    refine g_iload_n hX dX9_lays_30 rfl rfl ?_
    obtain ⟨z5, h⟩ := ck_some h
    obtain ⟨μ4, hμ4, h⟩ := wr_some h
    refine g_iastM hX wk_9_9.1 wk_9_9.2 z5 dX9_lays_31 hμ4 ?_
    refine g_aload_n hX dX9_lays_32 rfl rfl ?_
    refine g_dup hX dX9_lays_33 rfl ?_
    refine g_geti hX kd_false_0 fg_9_12 tf_9_12 w_982 dX9_lays_34 ?_
    refine g_iconst hX dX9_lays_37 k_1 ?_
    refine g_iadd hX dX9_lays_38 ?_
    obtain ⟨μ6, hμ6, h⟩ := wr_some h
    refine g_puti hX kd_false_0 fg_9_12 tf_9_12 tyX9_ok nmX9 rfl w_982 dX9_lays_39 hμ6 ?_
    obtain rfl := Option.some.inj h
    exact g_vret hX rfl dX9_lays_42
set_option maxRecDepth 100000 in
set_option maxHeartbeats 4000000 in
theorem c_X9_in {l : Launch} {D : DT} {μ : Mem} (v0 : Int32) (v1 : Int32) (v2 : Int32) : Ct l D false 1 yX9_in cX9_in 3 (some FieldType.boolean) [.int v0, .int v1, .int v2] μ (some (.int (f_X9_in v0 v1 v2))) μ := by
  obtain ⟨r, h⟩ : ∃ r, f_X9_in v0 v1 v2 = r := ⟨_, rfl⟩
  rw [h]
  refine Ct.of (own := RX9) (lc0 := [some (.int v0), some (.int v1), some (.int v2)]) pn_X9 rfl (Nat.le_of_ble_eq_true rfl) rfl mv_X9_in.2.2.1 (fun X hX => ?_)
  unfold f_X9_in at h
  refine g_iload_n hX dX9_in_0 rfl rfl ?_
  refine g_iload_n hX dX9_in_1 rfl rfl ?_
  refine g_icmp_lt (tgt := 14) hX dX9_in_2 (by decide) (fun q1 => ?_) (fun q1 => ?_)
  · rw [if_pos q1] at h
    refine g_iconst hX dX9_in_14 k_0 ?_
    subst h
    exact g_iret hX rfl rfl dX9_in_15
  · rw [if_neg q1] at h
    refine g_iload_n hX dX9_in_5 rfl rfl ?_
    refine g_iload_n hX dX9_in_6 rfl rfl ?_
    refine g_icmp_gt (tgt := 14) hX dX9_in_7 (by decide) (fun q2 => ?_) (fun q2 => ?_)
    · rw [if_pos q2] at h
      refine g_iconst hX dX9_in_14 k_0 ?_
      subst h
      exact g_iret hX rfl rfl dX9_in_15
    · rw [if_neg q2] at h
      refine g_iconst hX dX9_in_10 k_1 ?_
      refine g_goto (tgt := 15) hX dX9_in_11 (by decide) ?_
      subst h
      exact g_iret hX rfl rfl dX9_in_15
set_option maxRecDepth 100000 in
set_option maxHeartbeats 4000000 in
theorem t_X9_number_62 {l : Launch} {D : DT} {X : XT} {μ' : Mem} (hX : Cx l D false X 2 RX9 cX9_number 3 none) : ∀ (v1 : Int32) (s1 : Int32) (μ : Mem), f_X9_number_62 v1 s1 μ = some μ' → G l D false X 3 none μ' 62 [some (.ref (D.1 0)), some (.int v1), none] [.int s1, .ref (D.1 0)] μ := by
  intro v1 s1 μ h
  unfold f_X9_number_62 at h
  obtain ⟨z2, h⟩ := ck_some h
  obtain ⟨μ1, hμ1, h⟩ := wr_some h
  refine g_putz hX z2 kd_false_0 fg_9_15 tf_9_15 tyX9_ok nmX9 rfl w_985 dX9_number_62 hμ1 ?_
  refine g_aload_n hX dX9_number_65 rfl rfl ?_
  refine g_iconst hX dX9_number_66 k_1 ?_
  refine g_iload_n hX dX9_number_67 rfl rfl ?_
  obtain ⟨μ3, hμ3, h⟩ := bd_some h
  refine g_callVv hX (c_X9_lays  _ _ hμ3) mv_X9_lays wm_1207 kd_false_0 rfl (by decide) (by decide) rfl rfl (Nat.le_of_ble_eq_true rfl) dX9_number_68 ?_
  obtain rfl := Option.some.inj h
  exact g_vret hX rfl dX9_number_71
set_option maxRecDepth 100000 in
set_option maxHeartbeats 4000000 in
theorem t_X9_number_52 {l : Launch} {D : DT} {X : XT} {μ' : Mem} (hX : Cx l D false X 2 RX9 cX9_number 3 none) : ∀ (v1 : Int32) (v2 : Int32) (μ : Mem), f_X9_number_52 v1 v2 μ = some μ' → G l D false X 3 none μ' 52 [some (.ref (D.1 0)), some (.int v1), some (.int v2)] [] μ := by
  intro v1 v2 μ h
  unfold f_X9_number_52 at h
  refine g_aload_n hX dX9_number_52 rfl rfl ?_
  refine g_iload_n hX dX9_number_53 rfl rfl ?_
  refine g_if_ne (tgt := 61) hX dX9_number_54 (by decide) (fun q1 => ?_) (fun q1 => ?_)
  · rw [if_neg q1] at h
    refine g_iconst hX dX9_number_61 k_0 ?_
    exact g_weak (lc' := [some _, some _, none]) ⟨rfl, rfl, trivial⟩ (t_X9_number_62 hX _ _ _ h)
  · rw [if_pos q1] at h
    refine g_iconst hX dX9_number_57 k_1 ?_
    refine g_goto (tgt := 62) hX dX9_number_58 (by decide) ?_
    exact g_weak (lc' := [some _, some _, none]) ⟨rfl, rfl, trivial⟩ (t_X9_number_62 hX _ _ _ h)
set_option maxRecDepth 100000 in
set_option maxHeartbeats 4000000 in
theorem t_X9_number_4 {l : Launch} {D : DT} {X : XT} {μ' : Mem} (hX : Cx l D false X 2 RX9 cX9_number 3 none) : ∀ (n : Nat) (v1 : Int32) (v2 : Int32) (μ : Mem), f_X9_number_4 n v1 v2 μ = some μ' → G l D false X 3 none μ' 4 [some (.ref (D.1 0)), some (.int v1), some (.int v2)] [] μ := by
  intro n
  induction n with
  | zero => intro v1 v2 μ h; exact absurd h (by simp [f_X9_number_4])
  | succ n ih =>
    intro v1 v2 μ h
    rw [f_X9_number_4] at h
    refine g_iload_n hX dX9_number_4 rfl rfl ?_
    refine g_iconst hX dX9_number_5 k_4 ?_
    refine g_icmp_ge (tgt := 52) hX dX9_number_6 (by decide) (fun q1 => ?_) (fun q1 => ?_)
    · rw [if_pos q1] at h
      exact g_weak (lc' := [some _, some _, some _]) ⟨rfl, rfl, rfl, trivial⟩ (t_X9_number_52 hX _ _ _ h)
    · rw [if_neg q1] at h
      refine g_aload_n hX dX9_number_9 rfl rfl ?_
      obtain ⟨r2, hr2, h⟩ := bd_some h
      refine g_callVi hX (c_X9_look hr2) mv_X9_look wm_1199 kd_false_0 rfl (by decide) (by decide) rfl rfl (Nat.le_of_ble_eq_true rfl) dX9_number_10 ?_
      refine g_bipush hX dX9_number_13 kb_48 ?_
      refine g_bipush hX dX9_number_15 kb_57 ?_
      refine g_callSi hX (c_X9_in  r2 48 57) mv_X9_in wm_1047 (by decide) rfl rfl (Nat.le_of_ble_eq_true rfl) dX9_number_17 ?_
      refine g_if_eq (tgt := 52) hX dX9_number_20 (by decide) (fun q3 => ?_) (fun q3 => ?_)
      · rw [if_pos q3] at h
        exact g_weak (lc' := [some _, some _, some _]) ⟨rfl, rfl, rfl, trivial⟩ (t_X9_number_52 hX _ _ _ h)
      · rw [if_neg q3] at h
        refine g_bipush hX dX9_number_23 kb_10 ?_
        refine g_iload_n hX dX9_number_25 rfl rfl ?_
        refine g_imul hX dX9_number_26 ?_
        refine g_aload_n hX dX9_number_27 rfl rfl ?_
        obtain ⟨r4, hr4, h⟩ := bd_some h
        refine g_callVi hX (c_X9_look hr4) mv_X9_look wm_1199 kd_false_0 rfl (by decide) (by decide) rfl rfl (Nat.le_of_ble_eq_true rfl) dX9_number_28 ?_
        refine g_iadd hX dX9_number_31 ?_
        refine g_bipush hX dX9_number_32 kb_48 ?_
        refine g_isub hX dX9_number_34 ?_
        refine g_istore_n (lc' := [some _, some _, some _]) hX dX9_number_35 rfl (by decide) rfl rfl ?_
        refine g_aload_n hX dX9_number_36 rfl rfl ?_
        refine g_dup hX dX9_number_37 rfl ?_
        refine g_geti hX kd_false_0 fg_9_13 tf_9_13 w_983 dX9_number_38 ?_
        refine g_iconst hX dX9_number_41 k_1 ?_
        refine g_iadd hX dX9_number_42 ?_
        obtain ⟨μ5, hμ5, h⟩ := wr_some h
        refine g_puti hX kd_false_0 fg_9_13 tf_9_13 tyX9_ok nmX9 rfl w_983 dX9_number_43 hμ5 ?_
        refine g_iinc (lc' := [some _, some _, some _]) hX dX9_number_46 (by decide) rfl (congrArg _ k_1) rfl rfl ?_
        refine g_goto (tgt := 4) hX dX9_number_49 (by decide) ?_
        exact g_weak (lc' := [some _, some _, some _]) ⟨rfl, rfl, rfl, trivial⟩ (ih _ _ _ h)
set_option maxRecDepth 100000 in
set_option maxHeartbeats 4000000 in
theorem c_X9_number {l : Launch} {D : DT} {μ : Mem} {μ' : Mem} (h : f_X9_number μ = some μ') : Ct l D false 2 yX9_number cX9_number 3 none [.ref (D.1 0)] μ none μ' := by
  refine Ct.of (own := RX9) (lc0 := [some (.ref (D.1 0)), none, none]) pn_X9 rfl (Nat.le_of_ble_eq_true rfl) rfl mv_X9_number.2.2.2.1 (fun X hX => ?_)
  unfold f_X9_number at h
  refine g_iconst hX dX9_number_0 k_0 ?_
  refine g_istore_n (lc' := [some _, some _, none]) hX dX9_number_1 rfl (by decide) rfl rfl ?_
  refine g_iconst hX dX9_number_2 k_0 ?_
  refine g_istore_n (lc' := [some _, some _, some _]) hX dX9_number_3 rfl (by decide) rfl rfl ?_
  exact g_weak (lc' := [some _, some _, some _]) ⟨rfl, rfl, rfl, trivial⟩ (t_X9_number_4 hX 2000 _ _ _ h)
set_option maxRecDepth 100000 in
set_option maxHeartbeats 4000000 in
theorem t_X9_times_38 {l : Launch} {D : DT} {X : XT} {P : Mem → Option Mem} {dP : Nat} {k4 : Mem → Option Mem} {μ' : Mem} (hX : Cx l D false X (dP + 1) RX9 cX9_times 2 none) (hB : 2 ≤ dP) (hP : ∀ {μ μ' : Mem}, P μ = some μ' → Ct l D false dP yX9_one cX9_one 3 none [.ref (D.1 0)] μ none μ') (hk4 : ∀ (μ : Mem), k4 μ = some μ' → G l D false X 2 none μ' 4 [some (.ref (D.1 0)), none] [] μ) : ∀ (μ : Mem), f_X9_times_38 P k4 μ = some μ' → G l D false X 2 none μ' 38 [some (.ref (D.1 0)), none] [] μ := by
  intro μ h
  unfold f_X9_times_38 at h
  refine g_aload_n hX dX9_times_38 rfl rfl ?_
  obtain ⟨r1, hr1, h⟩ := bd_some h
  refine g_callVi hX (c_X9_look hr1) mv_X9_look wm_1199 kd_false_0 rfl (by decide) (by omega) rfl rfl (Nat.le_of_ble_eq_true rfl) dX9_times_39 ?_
  refine g_istore_n (lc' := [some _, some _]) hX dX9_times_42 rfl (by decide) rfl rfl ?_
  refine g_aload_n hX dX9_times_43 rfl rfl ?_
  refine g_dup hX dX9_times_44 rfl ?_
  refine g_geti hX kd_false_0 fg_9_13 tf_9_13 w_983 dX9_times_45 ?_
  refine g_iconst hX dX9_times_48 k_1 ?_
  refine g_iadd hX dX9_times_49 ?_
  obtain ⟨μ2, hμ2, h⟩ := wr_some h
  refine g_puti hX kd_false_0 fg_9_13 tf_9_13 tyX9_ok nmX9 rfl w_983 dX9_times_50 hμ2 ?_
  refine g_aload_n hX dX9_times_53 rfl rfl ?_
  obtain ⟨μ3, hμ3, h⟩ := bd_some h
  refine g_callVv hX (hP hμ3) mv_X9_one wm_1195 kd_false_0 rfl (by decide) (by omega) rfl rfl (Nat.le_of_ble_eq_true rfl) dX9_times_54 ?_
  refine g_aload_n hX dX9_times_57 rfl rfl ?_
  refine g_iload_n hX dX9_times_58 rfl rfl ?_
  refine g_iconst hX dX9_times_59 k_0 ?_
  obtain ⟨μ4, hμ4, h⟩ := bd_some h
  refine g_callVv hX (c_X9_lays  _ _ hμ4) mv_X9_lays wm_1207 kd_false_0 rfl (by decide) (by omega) rfl rfl (Nat.le_of_ble_eq_true rfl) dX9_times_60 ?_
  refine g_goto (tgt := 4) hX dX9_times_63 (by decide) ?_
  exact g_weak (lc' := [some _, none]) ⟨rfl, trivial⟩ (hk4 _ h)
set_option maxRecDepth 100000 in
set_option maxHeartbeats 4000000 in
theorem t_X9_times_4 {l : Launch} {D : DT} {X : XT} {P : Mem → Option Mem} {dP : Nat} {μ' : Mem} (hX : Cx l D false X (dP + 1) RX9 cX9_times 2 none) (hB : 2 ≤ dP) (hP : ∀ {μ μ' : Mem}, P μ = some μ' → Ct l D false dP yX9_one cX9_one 3 none [.ref (D.1 0)] μ none μ') : ∀ (n : Nat) (μ : Mem), f_X9_times_4 P n μ = some μ' → G l D false X 2 none μ' 4 [some (.ref (D.1 0)), none] [] μ := by
  intro n
  induction n with
  | zero => intro μ h; exact absurd h (by simp [f_X9_times_4])
  | succ n ih =>
    intro μ h
    rw [f_X9_times_4] at h
    refine g_aload_n hX dX9_times_4 rfl rfl ?_
    refine g_geti hX kd_false_0 fg_9_15 tf_9_15 w_985 dX9_times_5 ?_
    refine g_if_ne (tgt := 66) hX dX9_times_8 (by decide) (fun q1 => ?_) (fun q1 => ?_)
    · rw [if_neg q1] at h
      obtain rfl := Option.some.inj h
      exact g_vret hX rfl dX9_times_66
    · rw [if_pos q1] at h
      refine g_aload_n hX dX9_times_11 rfl rfl ?_
      obtain ⟨r2, hr2, h⟩ := bd_some h
      refine g_callVi hX (c_X9_look hr2) mv_X9_look wm_1199 kd_false_0 rfl (by decide) (by omega) rfl rfl (Nat.le_of_ble_eq_true rfl) dX9_times_12 ?_
      refine g_bipush hX dX9_times_15 kb_42 ?_
      refine g_icmp_eq (tgt := 38) hX dX9_times_17 (by decide) (fun q3 => ?_) (fun q3 => ?_)
      · rw [if_pos q3] at h
        exact g_weak (lc' := [some _, none]) ⟨rfl, trivial⟩ (t_X9_times_38 hX hB hP ih _ h)
      · rw [if_neg q3] at h
        refine g_aload_n hX dX9_times_20 rfl rfl ?_
        obtain ⟨r4, hr4, h⟩ := bd_some h
        refine g_callVi hX (c_X9_look hr4) mv_X9_look wm_1199 kd_false_0 rfl (by decide) (by omega) rfl rfl (Nat.le_of_ble_eq_true rfl) dX9_times_21 ?_
        refine g_bipush hX dX9_times_24 kb_47 ?_
        refine g_icmp_eq (tgt := 38) hX dX9_times_26 (by decide) (fun q5 => ?_) (fun q5 => ?_)
        · rw [if_pos q5] at h
          exact g_weak (lc' := [some _, none]) ⟨rfl, trivial⟩ (t_X9_times_38 hX hB hP ih _ h)
        · rw [if_neg q5] at h
          refine g_aload_n hX dX9_times_29 rfl rfl ?_
          obtain ⟨r6, hr6, h⟩ := bd_some h
          refine g_callVi hX (c_X9_look hr6) mv_X9_look wm_1199 kd_false_0 rfl (by decide) (by omega) rfl rfl (Nat.le_of_ble_eq_true rfl) dX9_times_30 ?_
          refine g_bipush hX dX9_times_33 kb_37 ?_
          refine g_icmp_ne (tgt := 66) hX dX9_times_35 (by decide) (fun q7 => ?_) (fun q7 => ?_)
          · rw [if_neg q7] at h
            obtain rfl := Option.some.inj h
            exact g_vret hX rfl dX9_times_66
          · rw [if_pos q7] at h
            exact g_weak (lc' := [some _, none]) ⟨rfl, trivial⟩ (t_X9_times_38 hX hB hP ih _ h)
set_option maxRecDepth 100000 in
set_option maxHeartbeats 4000000 in
theorem c_X9_times {l : Launch} {D : DT} {P : Mem → Option Mem} {dP : Nat} {μ : Mem} {μ' : Mem} (hB : 2 ≤ dP) (hP : ∀ {μ μ' : Mem}, P μ = some μ' → Ct l D false dP yX9_one cX9_one 3 none [.ref (D.1 0)] μ none μ') (h : f_X9_times P μ = some μ') : Ct l D false (dP + 1) yX9_times cX9_times 2 none [.ref (D.1 0)] μ none μ' := by
  refine Ct.of (own := RX9) (lc0 := [some (.ref (D.1 0)), none]) pn_X9 rfl (Nat.le_of_ble_eq_true rfl) rfl mv_X9_times.2.2.2.1 (fun X hX => ?_)
  unfold f_X9_times at h
  refine g_aload_n hX dX9_times_0 rfl rfl ?_
  obtain ⟨μ1, hμ1, h⟩ := bd_some h
  refine g_callVv hX (hP hμ1) mv_X9_one wm_1195 kd_false_0 rfl (by decide) (by omega) rfl rfl (Nat.le_of_ble_eq_true rfl) dX9_times_1 ?_
  exact g_weak (lc' := [some _, none]) ⟨rfl, trivial⟩ (t_X9_times_4 hX hB hP 2000 _ h)
set_option maxRecDepth 100000 in
set_option maxHeartbeats 4000000 in
theorem t_X9_sum_29 {l : Launch} {D : DT} {X : XT} {P : Mem → Option Mem} {dP : Nat} {k4 : Mem → Option Mem} {μ' : Mem} (hX : Cx l D false X (dP + 2) RX9 cX9_sum 2 none) (hB : 2 ≤ dP) (hP : ∀ {μ μ' : Mem}, P μ = some μ' → Ct l D false dP yX9_one cX9_one 3 none [.ref (D.1 0)] μ none μ') (hk4 : ∀ (μ : Mem), k4 μ = some μ' → G l D false X 2 none μ' 4 [some (.ref (D.1 0)), none] [] μ) : ∀ (μ : Mem), f_X9_sum_29 P k4 μ = some μ' → G l D false X 2 none μ' 29 [some (.ref (D.1 0)), none] [] μ := by
  intro μ h
  unfold f_X9_sum_29 at h
  refine g_aload_n hX dX9_sum_29 rfl rfl ?_
  obtain ⟨r1, hr1, h⟩ := bd_some h
  refine g_callVi hX (c_X9_look hr1) mv_X9_look wm_1199 kd_false_0 rfl (by decide) (by omega) rfl rfl (Nat.le_of_ble_eq_true rfl) dX9_sum_30 ?_
  refine g_istore_n (lc' := [some _, some _]) hX dX9_sum_33 rfl (by decide) rfl rfl ?_
  refine g_aload_n hX dX9_sum_34 rfl rfl ?_
  refine g_dup hX dX9_sum_35 rfl ?_
  refine g_geti hX kd_false_0 fg_9_13 tf_9_13 w_983 dX9_sum_36 ?_
  refine g_iconst hX dX9_sum_39 k_1 ?_
  refine g_iadd hX dX9_sum_40 ?_
  obtain ⟨μ2, hμ2, h⟩ := wr_some h
  refine g_puti hX kd_false_0 fg_9_13 tf_9_13 tyX9_ok nmX9 rfl w_983 dX9_sum_41 hμ2 ?_
  refine g_aload_n hX dX9_sum_44 rfl rfl ?_
  obtain ⟨μ3, hμ3, h⟩ := bd_some h
  refine g_callVv hX (c_X9_times hB hP hμ3) mv_X9_times wm_1191 kd_false_0 rfl (by decide) (by omega) rfl rfl (Nat.le_of_ble_eq_true rfl) dX9_sum_45 ?_
  refine g_aload_n hX dX9_sum_48 rfl rfl ?_
  refine g_iload_n hX dX9_sum_49 rfl rfl ?_
  refine g_iconst hX dX9_sum_50 k_0 ?_
  obtain ⟨μ4, hμ4, h⟩ := bd_some h
  refine g_callVv hX (c_X9_lays  _ _ hμ4) mv_X9_lays wm_1207 kd_false_0 rfl (by decide) (by omega) rfl rfl (Nat.le_of_ble_eq_true rfl) dX9_sum_51 ?_
  refine g_goto (tgt := 4) hX dX9_sum_54 (by decide) ?_
  exact g_weak (lc' := [some _, none]) ⟨rfl, trivial⟩ (hk4 _ h)
set_option maxRecDepth 100000 in
set_option maxHeartbeats 4000000 in
theorem t_X9_sum_4 {l : Launch} {D : DT} {X : XT} {P : Mem → Option Mem} {dP : Nat} {μ' : Mem} (hX : Cx l D false X (dP + 2) RX9 cX9_sum 2 none) (hB : 2 ≤ dP) (hP : ∀ {μ μ' : Mem}, P μ = some μ' → Ct l D false dP yX9_one cX9_one 3 none [.ref (D.1 0)] μ none μ') : ∀ (n : Nat) (μ : Mem), f_X9_sum_4 P n μ = some μ' → G l D false X 2 none μ' 4 [some (.ref (D.1 0)), none] [] μ := by
  intro n
  induction n with
  | zero => intro μ h; exact absurd h (by simp [f_X9_sum_4])
  | succ n ih =>
    intro μ h
    rw [f_X9_sum_4] at h
    refine g_aload_n hX dX9_sum_4 rfl rfl ?_
    refine g_geti hX kd_false_0 fg_9_15 tf_9_15 w_985 dX9_sum_5 ?_
    refine g_if_ne (tgt := 57) hX dX9_sum_8 (by decide) (fun q1 => ?_) (fun q1 => ?_)
    · rw [if_neg q1] at h
      obtain rfl := Option.some.inj h
      exact g_vret hX rfl dX9_sum_57
    · rw [if_pos q1] at h
      refine g_aload_n hX dX9_sum_11 rfl rfl ?_
      obtain ⟨r2, hr2, h⟩ := bd_some h
      refine g_callVi hX (c_X9_look hr2) mv_X9_look wm_1199 kd_false_0 rfl (by decide) (by omega) rfl rfl (Nat.le_of_ble_eq_true rfl) dX9_sum_12 ?_
      refine g_bipush hX dX9_sum_15 kb_43 ?_
      refine g_icmp_eq (tgt := 29) hX dX9_sum_17 (by decide) (fun q3 => ?_) (fun q3 => ?_)
      · rw [if_pos q3] at h
        exact g_weak (lc' := [some _, none]) ⟨rfl, trivial⟩ (t_X9_sum_29 hX hB hP ih _ h)
      · rw [if_neg q3] at h
        refine g_aload_n hX dX9_sum_20 rfl rfl ?_
        obtain ⟨r4, hr4, h⟩ := bd_some h
        refine g_callVi hX (c_X9_look hr4) mv_X9_look wm_1199 kd_false_0 rfl (by decide) (by omega) rfl rfl (Nat.le_of_ble_eq_true rfl) dX9_sum_21 ?_
        refine g_bipush hX dX9_sum_24 kb_45 ?_
        refine g_icmp_ne (tgt := 57) hX dX9_sum_26 (by decide) (fun q5 => ?_) (fun q5 => ?_)
        · rw [if_neg q5] at h
          obtain rfl := Option.some.inj h
          exact g_vret hX rfl dX9_sum_57
        · rw [if_pos q5] at h
          exact g_weak (lc' := [some _, none]) ⟨rfl, trivial⟩ (t_X9_sum_29 hX hB hP ih _ h)
set_option maxRecDepth 100000 in
set_option maxHeartbeats 4000000 in
theorem c_X9_sum {l : Launch} {D : DT} {P : Mem → Option Mem} {dP : Nat} {μ : Mem} {μ' : Mem} (hB : 2 ≤ dP) (hP : ∀ {μ μ' : Mem}, P μ = some μ' → Ct l D false dP yX9_one cX9_one 3 none [.ref (D.1 0)] μ none μ') (h : f_X9_sum P μ = some μ') : Ct l D false (dP + 2) yX9_sum cX9_sum 2 none [.ref (D.1 0)] μ none μ' := by
  refine Ct.of (own := RX9) (lc0 := [some (.ref (D.1 0)), none]) pn_X9 rfl (Nat.le_of_ble_eq_true rfl) rfl mv_X9_sum.2.2.2.1 (fun X hX => ?_)
  unfold f_X9_sum at h
  refine g_aload_n hX dX9_sum_0 rfl rfl ?_
  obtain ⟨μ1, hμ1, h⟩ := bd_some h
  refine g_callVv hX (c_X9_times hB hP hμ1) mv_X9_times wm_1191 kd_false_0 rfl (by decide) (by omega) rfl rfl (Nat.le_of_ble_eq_true rfl) dX9_sum_1 ?_
  exact g_weak (lc' := [some _, none]) ⟨rfl, trivial⟩ (t_X9_sum_4 hX hB hP 2000 _ h)
set_option maxRecDepth 100000 in
set_option maxHeartbeats 4000000 in
theorem t_X9_compares_34 {l : Launch} {D : DT} {X : XT} {P : Mem → Option Mem} {dP : Nat} {μ' : Mem} (hX : Cx l D false X (dP + 3) RX9 cX9_compares 2 none) (hB : 2 ≤ dP) (hP : ∀ {μ μ' : Mem}, P μ = some μ' → Ct l D false dP yX9_one cX9_one 3 none [.ref (D.1 0)] μ none μ') : ∀ (v1 : Int32) (μ : Mem), f_X9_compares_34 P v1 μ = some μ' → G l D false X 2 none μ' 34 [some (.ref (D.1 0)), some (.int v1)] [] μ := by
  intro v1 μ h
  unfold f_X9_compares_34 at h
  refine g_aload_n hX dX9_compares_34 rfl rfl ?_
  refine g_dup hX dX9_compares_35 rfl ?_
  refine g_geti hX kd_false_0 fg_9_13 tf_9_13 w_983 dX9_compares_36 ?_
  refine g_iconst hX dX9_compares_39 k_1 ?_
  refine g_iadd hX dX9_compares_40 ?_
  obtain ⟨μ1, hμ1, h⟩ := wr_some h
  refine g_puti hX kd_false_0 fg_9_13 tf_9_13 tyX9_ok nmX9 rfl w_983 dX9_compares_41 hμ1 ?_
  refine g_aload_n hX dX9_compares_44 rfl rfl ?_
  obtain ⟨μ2, hμ2, h⟩ := bd_some h
  refine g_callVv hX (c_X9_sum hB hP hμ2) mv_X9_sum wm_1187 kd_false_0 rfl (by decide) (by omega) rfl rfl (Nat.le_of_ble_eq_true rfl) dX9_compares_45 ?_
  refine g_aload_n hX dX9_compares_48 rfl rfl ?_
  refine g_iload_n hX dX9_compares_49 rfl rfl ?_
  refine g_iconst hX dX9_compares_50 k_0 ?_
  obtain ⟨μ3, hμ3, h⟩ := bd_some h
  refine g_callVv hX (c_X9_lays  _ _ hμ3) mv_X9_lays wm_1207 kd_false_0 rfl (by decide) (by omega) rfl rfl (Nat.le_of_ble_eq_true rfl) dX9_compares_51 ?_
  obtain rfl := Option.some.inj h
  exact g_vret hX rfl dX9_compares_54
set_option maxRecDepth 100000 in
set_option maxHeartbeats 4000000 in
theorem c_X9_compares {l : Launch} {D : DT} {P : Mem → Option Mem} {dP : Nat} {μ : Mem} {μ' : Mem} (hB : 2 ≤ dP) (hP : ∀ {μ μ' : Mem}, P μ = some μ' → Ct l D false dP yX9_one cX9_one 3 none [.ref (D.1 0)] μ none μ') (h : f_X9_compares P μ = some μ') : Ct l D false (dP + 3) yX9_compares cX9_compares 2 none [.ref (D.1 0)] μ none μ' := by
  refine Ct.of (own := RX9) (lc0 := [some (.ref (D.1 0)), none]) pn_X9 rfl (Nat.le_of_ble_eq_true rfl) rfl mv_X9_compares.2.2.2.1 (fun X hX => ?_)
  unfold f_X9_compares at h
  refine g_aload_n hX dX9_compares_0 rfl rfl ?_
  obtain ⟨μ1, hμ1, h⟩ := bd_some h
  refine g_callVv hX (c_X9_sum hB hP hμ1) mv_X9_sum wm_1187 kd_false_0 rfl (by decide) (by omega) rfl rfl (Nat.le_of_ble_eq_true rfl) dX9_compares_1 ?_
  refine g_aload_n hX dX9_compares_4 rfl rfl ?_
  obtain ⟨r2, hr2, h⟩ := bd_some h
  refine g_callVi hX (c_X9_look hr2) mv_X9_look wm_1199 kd_false_0 rfl (by decide) (by omega) rfl rfl (Nat.le_of_ble_eq_true rfl) dX9_compares_5 ?_
  refine g_istore_n (lc' := [some _, some _]) hX dX9_compares_8 rfl (by decide) rfl rfl ?_
  refine g_aload_n hX dX9_compares_9 rfl rfl ?_
  refine g_geti hX kd_false_0 fg_9_15 tf_9_15 w_985 dX9_compares_10 ?_
  refine g_if_ne (tgt := 54) hX dX9_compares_13 (by decide) (fun q3 => ?_) (fun q3 => ?_)
  · rw [if_neg q3] at h
    obtain rfl := Option.some.inj h
    exact g_vret hX rfl dX9_compares_54
  · rw [if_pos q3] at h
    refine g_iload_n hX dX9_compares_16 rfl rfl ?_
    refine g_bipush hX dX9_compares_17 kb_60 ?_
    refine g_icmp_eq (tgt := 34) hX dX9_compares_19 (by decide) (fun q4 => ?_) (fun q4 => ?_)
    · rw [if_pos q4] at h
      exact g_weak (lc' := [some _, some _]) ⟨rfl, rfl, trivial⟩ (t_X9_compares_34 hX hB hP _ _ h)
    · rw [if_neg q4] at h
      refine g_iload_n hX dX9_compares_22 rfl rfl ?_
      refine g_bipush hX dX9_compares_23 kb_61 ?_
      refine g_icmp_eq (tgt := 34) hX dX9_compares_25 (by decide) (fun q5 => ?_) (fun q5 => ?_)
      · rw [if_pos q5] at h
        exact g_weak (lc' := [some _, some _]) ⟨rfl, rfl, trivial⟩ (t_X9_compares_34 hX hB hP _ _ h)
      · rw [if_neg q5] at h
        refine g_iload_n hX dX9_compares_28 rfl rfl ?_
        refine g_bipush hX dX9_compares_29 kb_62 ?_
        refine g_icmp_ne (tgt := 54) hX dX9_compares_31 (by decide) (fun q6 => ?_) (fun q6 => ?_)
        · rw [if_neg q6] at h
          obtain rfl := Option.some.inj h
          exact g_vret hX rfl dX9_compares_54
        · rw [if_pos q6] at h
          exact g_weak (lc' := [some _, some _]) ⟨rfl, rfl, trivial⟩ (t_X9_compares_34 hX hB hP _ _ h)
set_option maxRecDepth 100000 in
set_option maxHeartbeats 4000000 in
theorem t_X9_allBy_4 {l : Launch} {D : DT} {X : XT} {P : Mem → Option Mem} {dP : Nat} {μ' : Mem} (hX : Cx l D false X (dP + 4) RX9 cX9_allBy 1 none) (hB : 2 ≤ dP) (hP : ∀ {μ μ' : Mem}, P μ = some μ' → Ct l D false dP yX9_one cX9_one 3 none [.ref (D.1 0)] μ none μ') : ∀ (n : Nat) (μ : Mem), f_X9_allBy_4 P n μ = some μ' → G l D false X 1 none μ' 4 [some (.ref (D.1 0))] [] μ := by
  intro n
  induction n with
  | zero => intro μ h; exact absurd h (by simp [f_X9_allBy_4])
  | succ n ih =>
    intro μ h
    rw [f_X9_allBy_4] at h
    refine g_aload_n hX dX9_allBy_4 rfl rfl ?_
    refine g_geti hX kd_false_0 fg_9_15 tf_9_15 w_985 dX9_allBy_5 ?_
    refine g_if_ne (tgt := 44) hX dX9_allBy_8 (by decide) (fun q1 => ?_) (fun q1 => ?_)
    · rw [if_neg q1] at h
      obtain rfl := Option.some.inj h
      exact g_vret hX rfl dX9_allBy_44
    · rw [if_pos q1] at h
      refine g_aload_n hX dX9_allBy_11 rfl rfl ?_
      obtain ⟨r2, hr2, h⟩ := bd_some h
      refine g_callVi hX (c_X9_look hr2) mv_X9_look wm_1199 kd_false_0 rfl (by decide) (by omega) rfl rfl (Nat.le_of_ble_eq_true rfl) dX9_allBy_12 ?_
      refine g_bipush hX dX9_allBy_15 kb_38 ?_
      refine g_icmp_ne (tgt := 44) hX dX9_allBy_17 (by decide) (fun q3 => ?_) (fun q3 => ?_)
      · rw [if_neg q3] at h
        obtain rfl := Option.some.inj h
        exact g_vret hX rfl dX9_allBy_44
      · rw [if_pos q3] at h
        refine g_aload_n hX dX9_allBy_20 rfl rfl ?_
        refine g_dup hX dX9_allBy_21 rfl ?_
        refine g_geti hX kd_false_0 fg_9_13 tf_9_13 w_983 dX9_allBy_22 ?_
        refine g_iconst hX dX9_allBy_25 k_1 ?_
        refine g_iadd hX dX9_allBy_26 ?_
        obtain ⟨μ4, hμ4, h⟩ := wr_some h
        refine g_puti hX kd_false_0 fg_9_13 tf_9_13 tyX9_ok nmX9 rfl w_983 dX9_allBy_27 hμ4 ?_
        refine g_aload_n hX dX9_allBy_30 rfl rfl ?_
        obtain ⟨μ5, hμ5, h⟩ := bd_some h
        refine g_callVv hX (c_X9_compares hB hP hμ5) mv_X9_compares wm_1183 kd_false_0 rfl (by decide) (by omega) rfl rfl (Nat.le_of_ble_eq_true rfl) dX9_allBy_31 ?_
        refine g_aload_n hX dX9_allBy_34 rfl rfl ?_
        refine g_bipush hX dX9_allBy_35 kb_38 ?_
        refine g_iconst hX dX9_allBy_37 k_0 ?_
        obtain ⟨μ6, hμ6, h⟩ := bd_some h
        refine g_callVv hX (c_X9_lays  _ _ hμ6) mv_X9_lays wm_1207 kd_false_0 rfl (by decide) (by omega) rfl rfl (Nat.le_of_ble_eq_true rfl) dX9_allBy_38 ?_
        refine g_goto (tgt := 4) hX dX9_allBy_41 (by decide) ?_
        exact g_weak (lc' := [some _]) ⟨rfl, trivial⟩ (ih _ h)
set_option maxRecDepth 100000 in
set_option maxHeartbeats 4000000 in
theorem c_X9_allBy {l : Launch} {D : DT} {P : Mem → Option Mem} {dP : Nat} {μ : Mem} {μ' : Mem} (hB : 2 ≤ dP) (hP : ∀ {μ μ' : Mem}, P μ = some μ' → Ct l D false dP yX9_one cX9_one 3 none [.ref (D.1 0)] μ none μ') (h : f_X9_allBy P μ = some μ') : Ct l D false (dP + 4) yX9_allBy cX9_allBy 1 none [.ref (D.1 0)] μ none μ' := by
  refine Ct.of (own := RX9) (lc0 := [some (.ref (D.1 0))]) pn_X9 rfl (Nat.le_of_ble_eq_true rfl) rfl mv_X9_allBy.2.2.2.1 (fun X hX => ?_)
  unfold f_X9_allBy at h
  refine g_aload_n hX dX9_allBy_0 rfl rfl ?_
  obtain ⟨μ1, hμ1, h⟩ := bd_some h
  refine g_callVv hX (c_X9_compares hB hP hμ1) mv_X9_compares wm_1183 kd_false_0 rfl (by decide) (by omega) rfl rfl (Nat.le_of_ble_eq_true rfl) dX9_allBy_1 ?_
  exact g_weak (lc' := [some _]) ⟨rfl, trivial⟩ (t_X9_allBy_4 hX hB hP 2000 _ h)
set_option maxRecDepth 100000 in
set_option maxHeartbeats 4000000 in
theorem t_X9_any_4 {l : Launch} {D : DT} {X : XT} {P : Mem → Option Mem} {dP : Nat} {μ' : Mem} (hX : Cx l D false X (dP + 5) RX9 cX9_any 1 none) (hB : 2 ≤ dP) (hP : ∀ {μ μ' : Mem}, P μ = some μ' → Ct l D false dP yX9_one cX9_one 3 none [.ref (D.1 0)] μ none μ') : ∀ (n : Nat) (μ : Mem), f_X9_any_4 P n μ = some μ' → G l D false X 1 none μ' 4 [some (.ref (D.1 0))] [] μ := by
  intro n
  induction n with
  | zero => intro μ h; exact absurd h (by simp [f_X9_any_4])
  | succ n ih =>
    intro μ h
    rw [f_X9_any_4] at h
    refine g_aload_n hX dX9_any_4 rfl rfl ?_
    refine g_geti hX kd_false_0 fg_9_15 tf_9_15 w_985 dX9_any_5 ?_
    refine g_if_ne (tgt := 44) hX dX9_any_8 (by decide) (fun q1 => ?_) (fun q1 => ?_)
    · rw [if_neg q1] at h
      obtain rfl := Option.some.inj h
      exact g_vret hX rfl dX9_any_44
    · rw [if_pos q1] at h
      refine g_aload_n hX dX9_any_11 rfl rfl ?_
      obtain ⟨r2, hr2, h⟩ := bd_some h
      refine g_callVi hX (c_X9_look hr2) mv_X9_look wm_1199 kd_false_0 rfl (by decide) (by omega) rfl rfl (Nat.le_of_ble_eq_true rfl) dX9_any_12 ?_
      refine g_bipush hX dX9_any_15 kb_124 ?_
      refine g_icmp_ne (tgt := 44) hX dX9_any_17 (by decide) (fun q3 => ?_) (fun q3 => ?_)
      · rw [if_neg q3] at h
        obtain rfl := Option.some.inj h
        exact g_vret hX rfl dX9_any_44
      · rw [if_pos q3] at h
        refine g_aload_n hX dX9_any_20 rfl rfl ?_
        refine g_dup hX dX9_any_21 rfl ?_
        refine g_geti hX kd_false_0 fg_9_13 tf_9_13 w_983 dX9_any_22 ?_
        refine g_iconst hX dX9_any_25 k_1 ?_
        refine g_iadd hX dX9_any_26 ?_
        obtain ⟨μ4, hμ4, h⟩ := wr_some h
        refine g_puti hX kd_false_0 fg_9_13 tf_9_13 tyX9_ok nmX9 rfl w_983 dX9_any_27 hμ4 ?_
        refine g_aload_n hX dX9_any_30 rfl rfl ?_
        obtain ⟨μ5, hμ5, h⟩ := bd_some h
        refine g_callVv hX (c_X9_allBy hB hP hμ5) mv_X9_allBy wm_1179 kd_false_0 rfl (by decide) (by omega) rfl rfl (Nat.le_of_ble_eq_true rfl) dX9_any_31 ?_
        refine g_aload_n hX dX9_any_34 rfl rfl ?_
        refine g_bipush hX dX9_any_35 kb_124 ?_
        refine g_iconst hX dX9_any_37 k_0 ?_
        obtain ⟨μ6, hμ6, h⟩ := bd_some h
        refine g_callVv hX (c_X9_lays  _ _ hμ6) mv_X9_lays wm_1207 kd_false_0 rfl (by decide) (by omega) rfl rfl (Nat.le_of_ble_eq_true rfl) dX9_any_38 ?_
        refine g_goto (tgt := 4) hX dX9_any_41 (by decide) ?_
        exact g_weak (lc' := [some _]) ⟨rfl, trivial⟩ (ih _ h)
set_option maxRecDepth 100000 in
set_option maxHeartbeats 4000000 in
theorem c_X9_any {l : Launch} {D : DT} {P : Mem → Option Mem} {dP : Nat} {μ : Mem} {μ' : Mem} (hB : 2 ≤ dP) (hP : ∀ {μ μ' : Mem}, P μ = some μ' → Ct l D false dP yX9_one cX9_one 3 none [.ref (D.1 0)] μ none μ') (h : f_X9_any P μ = some μ') : Ct l D false (dP + 5) yX9_any cX9_any 1 none [.ref (D.1 0)] μ none μ' := by
  refine Ct.of (own := RX9) (lc0 := [some (.ref (D.1 0))]) pn_X9 rfl (Nat.le_of_ble_eq_true rfl) rfl mv_X9_any.2.2.2.1 (fun X hX => ?_)
  unfold f_X9_any at h
  refine g_aload_n hX dX9_any_0 rfl rfl ?_
  obtain ⟨μ1, hμ1, h⟩ := bd_some h
  refine g_callVv hX (c_X9_allBy hB hP hμ1) mv_X9_allBy wm_1179 kd_false_0 rfl (by decide) (by omega) rfl rfl (Nat.le_of_ble_eq_true rfl) dX9_any_1 ?_
  exact g_weak (lc' := [some _]) ⟨rfl, trivial⟩ (t_X9_any_4 hX hB hP 2000 _ h)
