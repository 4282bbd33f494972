set_option maxRecDepth 100000 in
set_option maxHeartbeats 4000000 in
theorem t_X9_gate_18 {l : Launch} {D : DT} {X : XT} {r : Int32} {μ' : Mem} (hX : Cx l D false X 4 RX9 cX9_gate 5 (some FieldType.int)) : ∀ (μ : Mem), f_X9_gate_18 μ = some (r, μ') → G l D false X 5 (some (.int r)) μ' 18 [some (.ref (D.1 0)), none, none, none, none] [] μ := by
  intro μ h
  unfold f_X9_gate_18 at h
  refine g_aload_n hX dX9_gate_18 rfl rfl ?_
  refine g_ldc hX dX9_gate_19 wc_1050 ?_
  obtain ⟨r1, μ2, hr1, h⟩ := bd2_some h
  refine g_callVi hX (c_X9_error  _ hr1) mv_X9_error wm_1051 kd_false_0 rfl (by decide) (by decide) rfl rfl (Nat.le_of_ble_eq_true rfl) dX9_gate_21 ?_
  obtain ⟨rfl, rfl⟩ := pair_inj h
  exact g_iret hX rfl rfl dX9_gate_24
set_option maxRecDepth 100000 in
set_option maxHeartbeats 4000000 in
theorem c_X9_gate {l : Launch} {D : DT} {μ : Mem} {r : Int32} {μ' : Mem} (v1 : Int32) (v2 : Int32) (v3 : Int32) (h : f_X9_gate v1 v2 v3 μ = some (r, μ')) : Ct l D false 4 yX9_gate cX9_gate 5 (some FieldType.int) [.ref (D.1 0), .int v1, .int v2, .int v3] μ (some (.int r)) μ' := by
  refine Ct.of (own := RX9) (lc0 := [some (.ref (D.1 0)), some (.int v1), some (.int v2), some (.int v3), none]) pn_X9 rfl (Nat.le_of_ble_eq_true rfl) rfl mv_X9_gate.2.2.2.1 (fun X hX => ?_)
  unfold f_X9_gate at h
  refine g_iload_n hX dX9_gate_0 rfl rfl ?_
  refine g_iload_n hX dX9_gate_1 rfl rfl ?_
  refine g_callSi hX (c_X9_areTwo  v1 v2) mv_X9_areTwo wm_1128 (by decide) rfl rfl (Nat.le_of_ble_eq_true rfl) dX9_gate_2 ?_
  refine g_if_eq (tgt := 18) hX dX9_gate_5 (by decide) (fun q1 => ?_) (fun q1 => ?_)
  · rw [if_pos q1] at h
    exact g_weak (lc' := [some _, none, none, none, none]) ⟨rfl, trivial⟩ (t_X9_gate_18 hX _ h)
  · rw [if_neg q1] at h
    refine g_iload_n hX dX9_gate_8 rfl rfl ?_
    refine g_iconst hX dX9_gate_9 k_0 ?_
    refine g_bipush hX dX9_gate_10 kb_9 ?_
    refine g_callSi hX (c_X9_in  v3 0 9) mv_X9_in wm_1047 (by decide) rfl rfl (Nat.le_of_ble_eq_true rfl) dX9_gate_12 ?_
    refine g_if_ne (tgt := 25) hX dX9_gate_15 (by decide) (fun q2 => ?_) (fun q2 => ?_)
    · rw [if_neg q2] at h
      refine g_aload_n hX dX9_gate_25 rfl rfl ?_
      refine g_getr hX kd_false_0 fg_9_0 tf_9_0 w_970 sr_false_0_0 dX9_gate_26 ?_
      refine g_iconst hX dX9_gate_29 k_3 ?_
      refine g_iald hX wk_9_0.1 wk_9_0.2 (by decide) dX9_gate_30 ?_
      refine g_istore (lc' := [some _, some _, some _, some _, some _]) hX dX9_gate_31 (by decide) rfl rfl ?_
      refine g_iload hX dX9_gate_33 rfl ?_
      refine g_bipush hX dX9_gate_35 kb_9 ?_
      refine g_icmp_ne (tgt := 47) hX dX9_gate_37 (by decide) (fun q3 => ?_) (fun q3 => ?_)
      · rw [if_neg q3] at h
        refine g_aload_n hX dX9_gate_47 rfl rfl ?_
        refine g_getr hX kd_false_0 fg_9_0 tf_9_0 w_970 sr_false_0_0 dX9_gate_48 ?_
        refine g_iconst hX dX9_gate_51 k_3 ?_
        refine g_dup2 hX dX9_gate_52 rfl rfl ?_
        refine g_iald hX wk_9_0.1 wk_9_0.2 (by decide) dX9_gate_53 ?_
        refine g_iconst hX dX9_gate_54 k_1 ?_
        refine g_iadd hX dX9_gate_55 ?_
        obtain ⟨μ4, hμ4, h⟩ := wr_some h
        refine g_iastM hX wk_9_0.1 wk_9_0.2 (by decide) dX9_gate_56 hμ4 ?_
        refine g_aload_n hX dX9_gate_57 rfl rfl ?_
        refine g_iload hX dX9_gate_58 rfl ?_
        refine g_iconst hX dX9_gate_60 k_0 ?_
        refine g_iload_n hX dX9_gate_61 rfl rfl ?_
        obtain ⟨μ5, hμ5, h⟩ := bd_some h
        refine g_callVv hX (c_X9_lets  _ _ _ hμ5) mv_X9_lets wm_1134 kd_false_0 rfl (by decide) (by decide) rfl rfl (Nat.le_of_ble_eq_true rfl) dX9_gate_62 ?_
        refine g_aload_n hX dX9_gate_65 rfl rfl ?_
        refine g_iload hX dX9_gate_66 rfl ?_
        refine g_iconst hX dX9_gate_68 k_1 ?_
        refine g_iload_n hX dX9_gate_69 rfl rfl ?_
        obtain ⟨μ6, hμ6, h⟩ := bd_some h
        refine g_callVv hX (c_X9_lets  _ _ _ hμ6) mv_X9_lets wm_1134 kd_false_0 rfl (by decide) (by decide) rfl rfl (Nat.le_of_ble_eq_true rfl) dX9_gate_70 ?_
        refine g_aload_n hX dX9_gate_73 rfl rfl ?_
        refine g_iload hX dX9_gate_74 rfl ?_
        refine g_iconst hX dX9_gate_76 k_2 ?_
        refine g_iload_n hX dX9_gate_77 rfl rfl ?_
        obtain ⟨μ7, hμ7, h⟩ := bd_some h
        refine g_callVv hX (c_X9_lets  _ _ _ hμ7) mv_X9_lets wm_1134 kd_false_0 rfl (by decide) (by decide) rfl rfl (Nat.le_of_ble_eq_true rfl) dX9_gate_78 ?_
        refine g_aload_n hX dX9_gate_81 rfl rfl ?_
        refine g_iload hX dX9_gate_82 rfl ?_
        refine g_iconst hX dX9_gate_84 k_3 ?_
        refine g_iconst hX dX9_gate_85 k_m1 ?_
        obtain ⟨μ8, hμ8, h⟩ := bd_some h
        refine g_callVv hX (c_X9_lets  _ _ _ hμ8) mv_X9_lets wm_1134 kd_false_0 rfl (by decide) (by decide) rfl rfl (Nat.le_of_ble_eq_true rfl) dX9_gate_86 ?_
        refine g_iload hX dX9_gate_89 rfl ?_
        obtain ⟨rfl, rfl⟩ := pair_inj h
        exact g_iret hX rfl rfl dX9_gate_91
      · rw [if_pos q3] at h
        refine g_aload_n hX dX9_gate_40 rfl rfl ?_
        refine g_ldc hX dX9_gate_41 wc_1056 ?_
        obtain ⟨r9, μ10, hr9, h⟩ := bd2_some h
        refine g_callVi hX (c_X9_error  _ hr9) mv_X9_error wm_1051 kd_false_0 rfl (by decide) (by decide) rfl rfl (Nat.le_of_ble_eq_true rfl) dX9_gate_43 ?_
        obtain ⟨rfl, rfl⟩ := pair_inj h
        exact g_iret hX rfl rfl dX9_gate_46
    · rw [if_pos q2] at h
      exact g_weak (lc' := [some _, none, none, none, none]) ⟨rfl, trivial⟩ (t_X9_gate_18 hX _ h)
set_option maxRecDepth 100000 in
set_option maxHeartbeats 4000000 in
theorem t_X9_gateIs_26 {l : Launch} {D : DT} {X : XT} {r : Int32} {μ' : Mem} (hX : Cx l D false X 3 RX9 cX9_gateIs 3 (some FieldType.int)) : ∀ (μ : Mem), f_X9_gateIs_26 μ = some (r, μ') → G l D false X 3 (some (.int r)) μ' 26 [some (.ref (D.1 0)), none, none] [] μ := by
  intro μ h
  unfold f_X9_gateIs_26 at h
  refine g_aload_n hX dX9_gateIs_26 rfl rfl ?_
  refine g_ldc hX dX9_gateIs_27 wc_1050 ?_
  obtain ⟨r1, μ2, hr1, h⟩ := bd2_some h
  refine g_callVi hX (c_X9_error  _ hr1) mv_X9_error wm_1051 kd_false_0 rfl (by decide) (by decide) rfl rfl (Nat.le_of_ble_eq_true rfl) dX9_gateIs_29 ?_
  obtain ⟨rfl, rfl⟩ := pair_inj h
  exact g_iret hX rfl rfl dX9_gateIs_32
set_option maxRecDepth 100000 in
set_option maxHeartbeats 4000000 in
theorem c_X9_gateIs {l : Launch} {D : DT} {μ : Mem} {r : Int32} {μ' : Mem} (v1 : Int32) (v2 : Int32) (h : f_X9_gateIs v1 v2 μ = some (r, μ')) : Ct l D false 3 yX9_gateIs cX9_gateIs 3 (some FieldType.int) [.ref (D.1 0), .int v1, .int v2] μ (some (.int r)) μ' := by
  refine Ct.of (own := RX9) (lc0 := [some (.ref (D.1 0)), some (.int v1), some (.int v2)]) pn_X9 rfl (Nat.le_of_ble_eq_true rfl) rfl mv_X9_gateIs.2.2.2.1 (fun X hX => ?_)
  unfold f_X9_gateIs at h
  refine g_aload_n hX dX9_gateIs_0 rfl rfl ?_
  refine g_iload_n hX dX9_gateIs_1 rfl rfl ?_
  refine g_callVi hX (c_X9_isGate  v1) mv_X9_isGate wm_1142 kd_false_0 rfl (by decide) (by decide) rfl rfl (Nat.le_of_ble_eq_true rfl) dX9_gateIs_2 ?_
  refine g_if_eq (tgt := 26) hX dX9_gateIs_5 (by decide) (fun q1 => ?_) (fun q1 => ?_)
  · rw [if_pos q1] at h
    exact g_weak (lc' := [some _, none, none]) ⟨rfl, trivial⟩ (t_X9_gateIs_26 hX _ h)
  · rw [if_neg q1] at h
    refine g_iload_n hX dX9_gateIs_8 rfl rfl ?_
    refine g_iconst hX dX9_gateIs_9 k_0 ?_
    refine g_iconst hX dX9_gateIs_10 k_3 ?_
    refine g_callSi hX (c_X9_in  v2 0 3) mv_X9_in wm_1047 (by decide) rfl rfl (Nat.le_of_ble_eq_true rfl) dX9_gateIs_11 ?_
    refine g_if_eq (tgt := 26) hX dX9_gateIs_14 (by decide) (fun q2 => ?_) (fun q2 => ?_)
    · rw [if_pos q2] at h
      exact g_weak (lc' := [some _, none, none]) ⟨rfl, trivial⟩ (t_X9_gateIs_26 hX _ h)
    · rw [if_neg q2] at h
      refine g_aload_n hX dX9_gateIs_17 rfl rfl ?_
      refine g_iload_n hX dX9_gateIs_18 rfl rfl ?_
      refine g_iload_n hX dX9_gateIs_19 rfl rfl ?_
      obtain ⟨r3, hr3, h⟩ := bd_some h
      refine g_callVi hX (c_X9_about  _ _ hr3) mv_X9_about wm_1073 kd_false_0 rfl (by decide) (by decide) rfl rfl (Nat.le_of_ble_eq_true rfl) dX9_gateIs_20 ?_
      refine g_goto (tgt := 32) hX dX9_gateIs_23 (by decide) ?_
      obtain ⟨rfl, rfl⟩ := pair_inj h
      exact g_iret hX rfl rfl dX9_gateIs_32
set_option maxRecDepth 100000 in
set_option maxHeartbeats 4000000 in
theorem t_X9_grass_29 {l : Launch} {D : DT} {X : XT} {r : Int32} {μ' : Mem} (hX : Cx l D false X 3 RX9 cX9_grass 3 (some FieldType.int)) : ∀ (μ : Mem), f_X9_grass_29 μ = some (r, μ') → G l D false X 3 (some (.int r)) μ' 29 [some (.ref (D.1 0)), none, none] [] μ := by
  intro μ h
  unfold f_X9_grass_29 at h
  refine g_aload_n hX dX9_grass_29 rfl rfl ?_
  refine g_ldc hX dX9_grass_30 wc_1050 ?_
  obtain ⟨r1, μ2, hr1, h⟩ := bd2_some h
  refine g_callVi hX (c_X9_error  _ hr1) mv_X9_error wm_1051 kd_false_0 rfl (by decide) (by decide) rfl rfl (Nat.le_of_ble_eq_true rfl) dX9_grass_32 ?_
  obtain ⟨rfl, rfl⟩ := pair_inj h
  exact g_iret hX rfl rfl dX9_grass_35
set_option maxRecDepth 100000 in
set_option maxHeartbeats 4000000 in
theorem c_X9_grass {l : Launch} {D : DT} {μ : Mem} {r : Int32} {μ' : Mem} (v1 : Int32) (v2 : Int32) (h : f_X9_grass v1 v2 μ = some (r, μ')) : Ct l D false 3 yX9_grass cX9_grass 3 (some FieldType.int) [.ref (D.1 0), .int v1, .int v2] μ (some (.int r)) μ' := by
  refine Ct.of (own := RX9) (lc0 := [some (.ref (D.1 0)), some (.int v1), some (.int v2)]) pn_X9 rfl (Nat.le_of_ble_eq_true rfl) rfl mv_X9_grass.2.2.2.1 (fun X hX => ?_)
  unfold f_X9_grass at h
  refine g_iload_n hX dX9_grass_0 rfl rfl ?_
  refine g_callSi hX (c_X9_isField  v1) mv_X9_isField wm_1131 (by decide) rfl rfl (Nat.le_of_ble_eq_true rfl) dX9_grass_1 ?_
  refine g_if_eq (tgt := 29) hX dX9_grass_4 (by decide) (fun q1 => ?_) (fun q1 => ?_)
  · rw [if_pos q1] at h
    exact g_weak (lc' := [some _, none, none]) ⟨rfl, trivial⟩ (t_X9_grass_29 hX _ h)
  · rw [if_neg q1] at h
    refine g_iload_n hX dX9_grass_7 rfl rfl ?_
    refine g_iconst hX dX9_grass_8 k_0 ?_
    refine g_bipush hX dX9_grass_9 kb_99 ?_
    refine g_callSi hX (c_X9_in  v2 0 99) mv_X9_in wm_1047 (by decide) rfl rfl (Nat.le_of_ble_eq_true rfl) dX9_grass_11 ?_
    refine g_if_eq (tgt := 29) hX dX9_grass_14 (by decide) (fun q2 => ?_) (fun q2 => ?_)
    · rw [if_pos q2] at h
      exact g_weak (lc' := [some _, none, none]) ⟨rfl, trivial⟩ (t_X9_grass_29 hX _ h)
    · rw [if_neg q2] at h
      refine g_aload_n hX dX9_grass_17 rfl rfl ?_
      refine g_bipush hX dX9_grass_18 kb_8 ?_
      refine g_iload_n hX dX9_grass_20 rfl rfl ?_
      refine g_iadd hX dX9_grass_21 ?_
      refine g_iload_n hX dX9_grass_22 rfl rfl ?_
      obtain ⟨r3, μ4, hr3, h⟩ := bd2_some h
      refine g_callVi hX (c_X9_becomes  _ _ hr3) mv_X9_becomes wm_1115 kd_false_0 rfl (by decide) (by decide) rfl rfl (Nat.le_of_ble_eq_true rfl) dX9_grass_23 ?_
      refine g_goto (tgt := 35) hX dX9_grass_26 (by decide) ?_
      obtain ⟨rfl, rfl⟩ := pair_inj h
      exact g_iret hX rfl rfl dX9_grass_35
set_option maxRecDepth 100000 in
set_option maxHeartbeats 4000000 in
theorem t_X9_hold_26 {l : Launch} {D : DT} {X : XT} {r : Int32} {μ' : Mem} (hX : Cx l D false X 3 RX9 cX9_hold 4 (some FieldType.int)) : ∀ (v1 : Int32) (v2 : Int32) (s0 : Int32) (μ : Mem), f_X9_hold_26 v1 v2 s0 μ = some (r, μ') → G l D false X 4 (some (.int r)) μ' 26 [some (.ref (D.1 0)), some (.int v1), some (.int v2), none] [.int s0] μ := by
  intro v1 v2 s0 μ h
  unfold f_X9_hold_26 at h
  refine g_istore_n (lc' := [some _, some _, some _, some _]) hX dX9_hold_26 rfl (by decide) rfl rfl ?_
  refine g_iload_n hX dX9_hold_27 rfl rfl ?_
  refine g_if_eq (tgt := 47) hX dX9_hold_28 (by decide) (fun q1 => ?_) (fun q1 => ?_)
  · rw [if_pos q1] at h
    refine g_aload_n hX dX9_hold_47 rfl rfl ?_
    refine g_ldc hX dX9_hold_48 wc_1050 ?_
    obtain ⟨r2, μ3, hr2, h⟩ := bd2_some h
    refine g_callVi hX (c_X9_error  _ hr2) mv_X9_error wm_1051 kd_false_0 rfl (by decide) (by decide) rfl rfl (Nat.le_of_ble_eq_true rfl) dX9_hold_50 ?_
    obtain ⟨rfl, rfl⟩ := pair_inj h
    exact g_iret hX rfl rfl dX9_hold_53
  · rw [if_neg q1] at h
    refine g_aload_n hX dX9_hold_31 rfl rfl ?_
    refine g_bipush hX dX9_hold_32 kb_27 ?_
    refine g_iconst hX dX9_hold_34 k_4 ?_
    refine g_iload_n hX dX9_hold_35 rfl rfl ?_
    refine g_imul hX dX9_hold_36 ?_
    refine g_iadd hX dX9_hold_37 ?_
    refine g_iconst hX dX9_hold_38 k_3 ?_
    refine g_iadd hX dX9_hold_39 ?_
    refine g_iload_n hX dX9_hold_40 rfl rfl ?_
    obtain ⟨r4, μ5, hr4, h⟩ := bd2_some h
    refine g_callVi hX (c_X9_becomes  _ _ hr4) mv_X9_becomes wm_1115 kd_false_0 rfl (by decide) (by decide) rfl rfl (Nat.le_of_ble_eq_true rfl) dX9_hold_41 ?_
    refine g_goto (tgt := 53) hX dX9_hold_44 (by decide) ?_
    obtain ⟨rfl, rfl⟩ := pair_inj h
    exact g_iret hX rfl rfl dX9_hold_53
set_option maxRecDepth 100000 in
set_option maxHeartbeats 4000000 in
theorem t_X9_hold_25 {l : Launch} {D : DT} {X : XT} {r : Int32} {μ' : Mem} (hX : Cx l D false X 3 RX9 cX9_hold 4 (some FieldType.int)) : ∀ (v1 : Int32) (v2 : Int32) (μ : Mem), f_X9_hold_25 v1 v2 μ = some (r, μ') → G l D false X 4 (some (.int r)) μ' 25 [some (.ref (D.1 0)), some (.int v1), some (.int v2), none] [] μ := by
  intro v1 v2 μ h
  unfold f_X9_hold_25 at h
  refine g_iconst hX dX9_hold_25 k_0 ?_
  exact g_weak (lc' := [some _, some _, some _, none]) ⟨rfl, rfl, rfl, trivial⟩ (t_X9_hold_26 hX _ _ _ _ h)
set_option maxRecDepth 100000 in
set_option maxHeartbeats 4000000 in
theorem t_X9_hold_21 {l : Launch} {D : DT} {X : XT} {r : Int32} {μ' : Mem} (hX : Cx l D false X 3 RX9 cX9_hold 4 (some FieldType.int)) : ∀ (v1 : Int32) (v2 : Int32) (μ : Mem), f_X9_hold_21 v1 v2 μ = some (r, μ') → G l D false X 4 (some (.int r)) μ' 21 [some (.ref (D.1 0)), some (.int v1), some (.int v2), none] [] μ := by
  intro v1 v2 μ h
  unfold f_X9_hold_21 at h
  refine g_iconst hX dX9_hold_21 k_1 ?_
  refine g_goto (tgt := 26) hX dX9_hold_22 (by decide) ?_
  exact g_weak (lc' := [some _, some _, some _, none]) ⟨rfl, rfl, rfl, trivial⟩ (t_X9_hold_26 hX _ _ _ _ h)
set_option maxRecDepth 100000 in
set_option maxHeartbeats 4000000 in
theorem c_X9_hold {l : Launch} {D : DT} {μ : Mem} {r : Int32} {μ' : Mem} (v1 : Int32) (v2 : Int32) (h : f_X9_hold v1 v2 μ = some (r, μ')) : Ct l D false 3 yX9_hold cX9_hold 4 (some FieldType.int) [.ref (D.1 0), .int v1, .int v2] μ (some (.int r)) μ' := by
  refine Ct.of (own := RX9) (lc0 := [some (.ref (D.1 0)), some (.int v1), some (.int v2), none]) pn_X9 rfl (Nat.le_of_ble_eq_true rfl) rfl mv_X9_hold.2.2.2.1 (fun X hX => ?_)
  unfold f_X9_hold at h
  refine g_aload_n hX dX9_hold_0 rfl rfl ?_
  refine g_iload_n hX dX9_hold_1 rfl rfl ?_
  refine g_callVi hX (c_X9_isGate  v1) mv_X9_isGate wm_1142 kd_false_0 rfl (by decide) (by decide) rfl rfl (Nat.le_of_ble_eq_true rfl) dX9_hold_2 ?_
  refine g_if_eq (tgt := 25) hX dX9_hold_5 (by decide) (fun q1 => ?_) (fun q1 => ?_)
  · rw [if_pos q1] at h
    exact g_weak (lc' := [some _, some _, some _, none]) ⟨rfl, rfl, rfl, trivial⟩ (t_X9_hold_25 hX _ _ _ h)
  · rw [if_neg q1] at h
    refine g_iload_n hX dX9_hold_8 rfl rfl ?_
    refine g_iconst hX dX9_hold_9 k_m1 ?_
    refine g_icmp_eq (tgt := 21) hX dX9_hold_10 (by decide) (fun q2 => ?_) (fun q2 => ?_)
    · rw [if_pos q2] at h
      exact g_weak (lc' := [some _, some _, some _, none]) ⟨rfl, rfl, rfl, trivial⟩ (t_X9_hold_21 hX _ _ _ h)
    · rw [if_neg q2] at h
      refine g_aload_n hX dX9_hold_13 rfl rfl ?_
      refine g_iload_n hX dX9_hold_14 rfl rfl ?_
      refine g_callVi hX (c_X9_isPerson  v2) mv_X9_isPerson wm_1061 kd_false_0 rfl (by decide) (by decide) rfl rfl (Nat.le_of_ble_eq_true rfl) dX9_hold_15 ?_
      refine g_if_eq (tgt := 25) hX dX9_hold_18 (by decide) (fun q3 => ?_) (fun q3 => ?_)
      · rw [if_pos q3] at h
        exact g_weak (lc' := [some _, some _, some _, none]) ⟨rfl, rfl, rfl, trivial⟩ (t_X9_hold_25 hX _ _ _ h)
      · rw [if_neg q3] at h
        exact g_weak (lc' := [some _, some _, some _, none]) ⟨rfl, rfl, rfl, trivial⟩ (t_X9_hold_21 hX _ _ _ h)
set_option maxRecDepth 100000 in
set_option maxHeartbeats 4000000 in
theorem t_X9_holds_18 {l : Launch} {D : DT} {X : XT} {r : Int32} {μ' : Mem} (hX : Cx l D false X 4 RX9 cX9_holds 4 (some FieldType.int)) : ∀ (n : Nat) (v1 : Int32) (v3 : Int32) (μ : Mem), f_X9_holds_18 n v1 v3 μ = some (r, μ') → G l D false X 4 (some (.int r)) μ' 18 [some (.ref (D.1 0)), some (.int v1), none, some (.int v3)] [] μ := by
  intro n
  induction n with
  | zero => intro v1 v3 μ h; exact absurd h (by simp [f_X9_holds_18])
  | succ n ih =>
    intro v1 v3 μ h
    rw [f_X9_holds_18] at h
    refine g_iload_n hX dX9_holds_18 rfl rfl ?_
    refine g_aload_n hX dX9_holds_19 rfl rfl ?_
    refine g_getr hX kd_false_0 fg_9_6 tf_9_6 w_976 sr_false_0_6 dX9_holds_20 ?_
    refine g_iload_n hX dX9_holds_23 rfl rfl ?_
    obtain ⟨z1, h⟩ := ck_some h
    refine g_iald hX wk_9_6.1 wk_9_6.2 z1 dX9_holds_24 ?_
    refine g_icmp_ge (tgt := 87) hX dX9_holds_25 (by decide) (fun q2 => ?_) (fun q2 => ?_)
    · rw [if_pos q2] at h
      refine g_iload_n hX dX9_holds_87 rfl rfl ?_
      obtain ⟨rfl, rfl⟩ := pair_inj h
      exact g_iret hX rfl rfl dX9_holds_88
    · rw [if_neg q2] at h
      refine g_iload_n hX dX9_holds_28 rfl rfl ?_
      refine g_aload_n hX dX9_holds_29 rfl rfl ?_
      refine g_getr hX kd_false_0 fg_9_0 tf_9_0 w_970 sr_false_0_0 dX9_holds_30 ?_
      refine g_iconst hX dX9_holds_33 k_3 ?_
      refine g_iald hX wk_9_0.1 wk_9_0.2 (by decide) dX9_holds_34 ?_
      refine g_icmp_ge (tgt := 87) hX dX9_holds_35 (by decide) (fun q3 => ?_) (fun q3 => ?_)
      · rw [if_pos q3] at h
        refine g_iload_n hX dX9_holds_87 rfl rfl ?_
        obtain ⟨rfl, rfl⟩ := pair_inj h
        exact g_iret hX rfl rfl dX9_holds_88
      · rw [if_neg q3] at h
        refine g_aload_n hX dX9_holds_38 rfl rfl ?_
        refine g_getr hX kd_false_0 fg_9_7 tf_9_7 w_977 sr_false_0_7 dX9_holds_39 ?_
        refine g_bipush hX dX9_holds_42 kb_24 ?_
        refine g_iload_n hX dX9_holds_44 rfl rfl ?_
        refine g_imul hX dX9_holds_45 ?_
        refine g_iload_n hX dX9_holds_46 rfl rfl ?_
        refine g_iadd hX dX9_holds_47 ?_
        obtain ⟨z4, h⟩ := ck_some h
        refine g_iald hX wk_9_7.1 wk_9_7.2 z4 dX9_holds_48 ?_
        refine g_iconst hX dX9_holds_49 k_m1 ?_
        refine g_aload_n hX dX9_holds_50 rfl rfl ?_
        refine g_getr hX kd_false_0 fg_9_0 tf_9_0 w_970 sr_false_0_0 dX9_holds_51 ?_
        refine g_iconst hX dX9_holds_54 k_2 ?_
        refine g_iald hX wk_9_0.1 wk_9_0.2 (by decide) dX9_holds_55 ?_
        refine g_iconst hX dX9_holds_56 k_1 ?_
        refine g_isub hX dX9_holds_57 ?_
        refine g_callSi hX (c_X9_in  (μ 7 (ix ((24 * v1) + v3))) (-1) ((μ 1 (ix 2)) - 1)) mv_X9_in wm_1047 (by decide) rfl rfl (Nat.le_of_ble_eq_true rfl) dX9_holds_58 ?_
        refine g_if_eq (tgt := 87) hX dX9_holds_61 (by decide) (fun q5 => ?_) (fun q5 => ?_)
        · rw [if_pos q5] at h
          refine g_iload_n hX dX9_holds_87 rfl rfl ?_
          obtain ⟨rfl, rfl⟩ := pair_inj h
          exact g_iret hX rfl rfl dX9_holds_88
        · rw [if_neg q5] at h
          refine g_aload_n hX dX9_holds_64 rfl rfl ?_
          refine g_iload_n hX dX9_holds_65 rfl rfl ?_
          refine g_iconst hX dX9_holds_66 k_3 ?_
          refine g_aload_n hX dX9_holds_67 rfl rfl ?_
          refine g_getr hX kd_false_0 fg_9_7 tf_9_7 w_977 sr_false_0_7 dX9_holds_68 ?_
          refine g_bipush hX dX9_holds_71 kb_24 ?_
          refine g_iload_n hX dX9_holds_73 rfl rfl ?_
          refine g_imul hX dX9_holds_74 ?_
          refine g_iload_n hX dX9_holds_75 rfl rfl ?_
          refine g_iadd hX dX9_holds_76 ?_
          obtain ⟨z6, h⟩ := ck_some h
          refine g_iald hX wk_9_7.1 wk_9_7.2 z6 dX9_holds_77 ?_
          obtain ⟨μ7, hμ7, h⟩ := bd_some h
          refine g_callVv hX (c_X9_lets  _ _ _ hμ7) mv_X9_lets wm_1134 kd_false_0 rfl (by decide) (by decide) rfl rfl (Nat.le_of_ble_eq_true rfl) dX9_holds_78 ?_
          refine g_iinc (lc' := [some _, some _, none, some _]) hX dX9_holds_81 (by decide) rfl (congrArg _ k_1) rfl rfl ?_
          refine g_goto (tgt := 18) hX dX9_holds_84 (by decide) ?_
          exact g_weak (lc' := [some _, some _, none, some _]) ⟨rfl, rfl, rfl, trivial⟩ (ih _ _ _ h)
set_option maxRecDepth 100000 in
set_option maxHeartbeats 4000000 in
theorem c_X9_holds {l : Launch} {D : DT} {μ : Mem} {r : Int32} {μ' : Mem} (v1 : Int32) (h : f_X9_holds v1 μ = some (r, μ')) : Ct l D false 4 yX9_holds cX9_holds 4 (some FieldType.int) [.ref (D.1 0), .int v1] μ (some (.int r)) μ' := by
  refine Ct.of (own := RX9) (lc0 := [some (.ref (D.1 0)), some (.int v1), none, none]) pn_X9 rfl (Nat.le_of_ble_eq_true rfl) rfl mv_X9_holds.2.2.2.1 (fun X hX => ?_)
  unfold f_X9_holds at h
  refine g_aload_n hX dX9_holds_0 rfl rfl ?_
  refine g_iload_n hX dX9_holds_1 rfl rfl ?_
  obtain ⟨r1, hr1, h⟩ := bd_some h
  refine g_callVi hX (c_X9_notThere  _ hr1) mv_X9_notThere wm_1344 kd_false_0 rfl (by decide) (by decide) rfl rfl (Nat.le_of_ble_eq_true rfl) dX9_holds_2 ?_
  refine g_istore_n (lc' := [some _, some _, some _, none]) hX dX9_holds_5 rfl (by decide) rfl rfl ?_
  refine g_iload_n hX dX9_holds_6 rfl rfl ?_
  refine g_if_eq (tgt := 16) hX dX9_holds_7 (by decide) (fun q2 => ?_) (fun q2 => ?_)
  · rw [if_pos q2] at h
    refine g_iconst hX dX9_holds_16 k_0 ?_
    refine g_istore_n (lc' := [some _, some _, some _, some _]) hX dX9_holds_17 rfl (by decide) rfl rfl ?_
    exact g_weak (lc' := [some _, some _, none, some _]) ⟨rfl, rfl, rfl, trivial⟩ (t_X9_holds_18 hX 2000 _ _ _ h)
  · rw [if_neg q2] at h
    refine g_aload_n hX dX9_holds_10 rfl rfl ?_
    refine g_iload_n hX dX9_holds_11 rfl rfl ?_
    obtain ⟨r3, μ4, hr3, h⟩ := bd2_some h
    refine g_callVi hX (c_X9_error  _ hr3) mv_X9_error wm_1051 kd_false_0 rfl (by decide) (by decide) rfl rfl (Nat.le_of_ble_eq_true rfl) dX9_holds_12 ?_
    obtain ⟨rfl, rfl⟩ := pair_inj h
    exact g_iret hX rfl rfl dX9_holds_15
set_option maxRecDepth 100000 in
set_option maxHeartbeats 4000000 in
theorem c_X9_hour {l : Launch} {D : DT} {μ : Mem} {r : Int32} {μ' : Mem} (v1 : Int32) (h : f_X9_hour v1 μ = some (r, μ')) : Ct l D false 2 yX9_hour cX9_hour 2 (some FieldType.int) [.ref (D.1 0), .int v1] μ (some (.int r)) μ' := by
  refine Ct.of (own := RX9) (lc0 := [some (.ref (D.1 0)), some (.int v1)]) pn_X9 rfl (Nat.le_of_ble_eq_true rfl) rfl mv_X9_hour.2.2.2.1 (fun X hX => ?_)
  unfold f_X9_hour at h
  refine g_iload_n hX dX9_hour_0 rfl rfl ?_
  refine g_iconst hX dX9_hour_1 k_0 ?_
  refine g_sipush hX dX9_hour_2 ks_9999 ?_
  refine g_callSi hX (c_X9_in  v1 0 9999) mv_X9_in wm_1047 (by decide) rfl rfl (Nat.le_of_ble_eq_true rfl) dX9_hour_5 ?_
  refine g_if_eq (tgt := 20) hX dX9_hour_8 (by decide) (fun q1 => ?_) (fun q1 => ?_)
  · rw [if_pos q1] at h
    refine g_aload_n hX dX9_hour_20 rfl rfl ?_
    refine g_ldc hX dX9_hour_21 wc_1050 ?_
    obtain ⟨r2, μ3, hr2, h⟩ := bd2_some h
    refine g_callVi hX (c_X9_error  _ hr2) mv_X9_error wm_1051 kd_false_0 rfl (by decide) (by decide) rfl rfl (Nat.le_of_ble_eq_true rfl) dX9_hour_23 ?_
    obtain ⟨rfl, rfl⟩ := pair_inj h
    exact g_iret hX rfl rfl dX9_hour_26
  · rw [if_neg q1] at h
    refine g_aload_n hX dX9_hour_11 rfl rfl ?_
    refine g_iconst hX dX9_hour_12 k_0 ?_
    refine g_iload_n hX dX9_hour_13 rfl rfl ?_
    obtain ⟨r4, μ5, hr4, h⟩ := bd2_some h
    refine g_callVi hX (c_X9_becomes  _ _ hr4) mv_X9_becomes wm_1115 kd_false_0 rfl (by decide) (by decide) rfl rfl (Nat.le_of_ble_eq_true rfl) dX9_hour_14 ?_
    refine g_goto (tgt := 26) hX dX9_hour_17 (by decide) ?_
    obtain ⟨rfl, rfl⟩ := pair_inj h
    exact g_iret hX rfl rfl dX9_hour_26
set_option maxRecDepth 100000 in
set_option maxHeartbeats 4000000 in
theorem t_X9_hours_55 {l : Launch} {D : DT} {X : XT} {r : Int32} {μ' : Mem} (hX : Cx l D false X 8 RX9 cX9_hours 3 (some FieldType.int)) : ∀ (μ : Mem), f_X9_hours_55 μ = some (r, μ') → G l D false X 3 (some (.int r)) μ' 55 [some (.ref (D.1 0)), none, none] [] μ := by
  intro μ h
  unfold f_X9_hours_55 at h
  refine g_aload_n hX dX9_hours_55 rfl rfl ?_
  obtain ⟨r1, hr1, h⟩ := bd_some h
  refine g_callVi hX (c_X9_opened hr1) mv_X9_opened wm_1252 kd_false_0 rfl (by decide) (by decide) rfl rfl (Nat.le_of_ble_eq_true rfl) dX9_hours_56 ?_
  obtain ⟨rfl, rfl⟩ := pair_inj h
  exact g_iret hX rfl rfl dX9_hours_59
set_option maxRecDepth 100000 in
set_option maxHeartbeats 4000000 in
theorem t_X9_hours_40 {l : Launch} {D : DT} {X : XT} {r : Int32} {μ' : Mem} (hX : Cx l D false X 8 RX9 cX9_hours 3 (some FieldType.int)) : ∀ (n : Nat) (v1 : Int32) (v2 : Int32) (μ : Mem), f_X9_hours_40 n v1 v2 μ = some (r, μ') → G l D false X 3 (some (.int r)) μ' 40 [some (.ref (D.1 0)), some (.int v1), some (.int v2)] [] μ := by
  intro n
  induction n with
  | zero => intro v1 v2 μ h; exact absurd h (by simp [f_X9_hours_40])
  | succ n ih =>
    intro v1 v2 μ h
    rw [f_X9_hours_40] at h
    refine g_iload_n hX dX9_hours_40 rfl rfl ?_
    refine g_iload_n hX dX9_hours_41 rfl rfl ?_
    refine g_icmp_ge (tgt := 55) hX dX9_hours_42 (by decide) (fun q1 => ?_) (fun q1 => ?_)
    · rw [if_pos q1] at h
      exact g_weak (lc' := [some _, none, none]) ⟨rfl, trivial⟩ (t_X9_hours_55 hX _ h)
    · rw [if_neg q1] at h
      refine g_aload_n hX dX9_hours_45 rfl rfl ?_
      obtain ⟨μ2, hμ2, h⟩ := bd_some h
      refine g_callVv hX (c_X9_goes hμ2) mv_X9_goes wm_1232 kd_false_0 rfl (by decide) (by decide) rfl rfl (Nat.le_of_ble_eq_true rfl) dX9_hours_46 ?_
      refine g_iinc (lc' := [some _, some _, some _]) hX dX9_hours_49 (by decide) rfl (congrArg _ k_1) rfl rfl ?_
      refine g_goto (tgt := 40) hX dX9_hours_52 (by decide) ?_
      exact g_weak (lc' := [some _, some _, some _]) ⟨rfl, rfl, rfl, trivial⟩ (ih _ _ _ h)
set_option maxRecDepth 100000 in
set_option maxHeartbeats 4000000 in
theorem c_X9_hours {l : Launch} {D : DT} {μ : Mem} {r : Int32} {μ' : Mem} (v1 : Int32) (h : f_X9_hours v1 μ = some (r, μ')) : Ct l D false 8 yX9_hours cX9_hours 3 (some FieldType.int) [.ref (D.1 0), .int v1] μ (some (.int r)) μ' := by
  refine Ct.of (own := RX9) (lc0 := [some (.ref (D.1 0)), some (.int v1), none]) pn_X9 rfl (Nat.le_of_ble_eq_true rfl) rfl mv_X9_hours.2.2.2.1 (fun X hX => ?_)
  unfold f_X9_hours at h
  refine g_iload_n hX dX9_hours_0 rfl rfl ?_
  refine g_iconst hX dX9_hours_1 k_1 ?_
  refine g_bipush hX dX9_hours_2 kb_60 ?_
  refine g_callSi hX (c_X9_in  v1 1 60) mv_X9_in wm_1047 (by decide) rfl rfl (Nat.le_of_ble_eq_true rfl) dX9_hours_4 ?_
  refine g_if_ne (tgt := 17) hX dX9_hours_7 (by decide) (fun q1 => ?_) (fun q1 => ?_)
  · rw [if_neg q1] at h
    refine g_aload_n hX dX9_hours_17 rfl rfl ?_
    refine g_getr hX kd_false_0 fg_9_0 tf_9_0 w_970 sr_false_0_0 dX9_hours_18 ?_
    refine g_iconst hX dX9_hours_21 k_0 ?_
    refine g_iald hX wk_9_0.1 wk_9_0.2 (by decide) dX9_hours_22 ?_
    refine g_iload_n hX dX9_hours_23 rfl rfl ?_
    refine g_iadd hX dX9_hours_24 ?_
    refine g_sipush hX dX9_hours_25 ks_9999 ?_
    refine g_icmp_le (tgt := 38) hX dX9_hours_28 (by decide) (fun q2 => ?_) (fun q2 => ?_)
    · rw [if_pos q2] at h
      refine g_iconst hX dX9_hours_38 k_0 ?_
      refine g_istore_n (lc' := [some _, some _, some _]) hX dX9_hours_39 rfl (by decide) rfl rfl ?_
      exact g_weak (lc' := [some _, some _, some _]) ⟨rfl, rfl, rfl, trivial⟩ (t_X9_hours_40 hX 2000 _ _ _ h)
    · rw [if_neg q2] at h
      refine g_aload_n hX dX9_hours_31 rfl rfl ?_
      refine g_ldc hX dX9_hours_32 wc_1231 ?_
      obtain ⟨r3, μ4, hr3, h⟩ := bd2_some h
      refine g_callVi hX (c_X9_error  _ hr3) mv_X9_error wm_1051 kd_false_0 rfl (by decide) (by decide) rfl rfl (Nat.le_of_ble_eq_true rfl) dX9_hours_34 ?_
      obtain ⟨rfl, rfl⟩ := pair_inj h
      exact g_iret hX rfl rfl dX9_hours_37
  · rw [if_pos q1] at h
    refine g_aload_n hX dX9_hours_10 rfl rfl ?_
    refine g_ldc hX dX9_hours_11 wc_1050 ?_
    obtain ⟨r5, μ6, hr5, h⟩ := bd2_some h
    refine g_callVi hX (c_X9_error  _ hr5) mv_X9_error wm_1051 kd_false_0 rfl (by decide) (by decide) rfl rfl (Nat.le_of_ble_eq_true rfl) dX9_hours_13 ?_
    obtain ⟨rfl, rfl⟩ := pair_inj h
    exact g_iret hX rfl rfl dX9_hours_16
set_option maxRecDepth 100000 in
set_option maxHeartbeats 4000000 in
theorem c_X9_image {l : Launch} {D : DT} {μ : Mem} {r : Int32} {μ' : Mem} (h : f_X9_image μ = some (r, μ')) : Ct l D false 2 yX9_image cX9_image 1 (some FieldType.int) [.ref (D.1 0)] μ (some (.int r)) μ' := by
  refine Ct.of (own := RX9) (lc0 := [some (.ref (D.1 0))]) pn_X9 rfl (Nat.le_of_ble_eq_true rfl) rfl mv_X9_image.2.2.2.1 (fun X hX => ?_)
  unfold f_X9_image at h
  refine g_aload_n hX dX9_image_0 rfl rfl ?_
  refine g_getr hX kd_false_0 fg_9_0 tf_9_0 w_970 sr_false_0_0 dX9_image_1 ?_
  refine g_aload_n hX dX9_image_4 rfl rfl ?_
  refine g_getr hX kd_false_0 fg_9_1 tf_9_1 w_971 sr_false_0_1 dX9_image_5 ?_
  obtain ⟨μ1, hμ1, h⟩ := bd_some h
  refine g_callSv hX (c_X9_copyAll wk_9_0.1 wk_9_1.1 hμ1) mv_X9_copyAll wm_1285 (by decide) rfl rfl (Nat.le_of_ble_eq_true rfl) dX9_image_8 ?_
  refine g_aload_n hX dX9_image_11 rfl rfl ?_
  refine g_dup hX dX9_image_12 rfl ?_
  refine g_geti hX kd_false_0 fg_9_3 tf_9_3 w_973 dX9_image_13 ?_
  refine g_iconst hX dX9_image_16 k_1 ?_
  refine g_iadd hX dX9_image_17 ?_
  obtain ⟨μ2, hμ2, h⟩ := wr_some h
  refine g_puti hX kd_false_0 fg_9_3 tf_9_3 tyX9_ok nmX9 rfl w_973 dX9_image_18 hμ2 ?_
  refine g_aload_n hX dX9_image_21 rfl rfl ?_
  refine g_geti hX kd_false_0 fg_9_3 tf_9_3 w_973 dX9_image_22 ?_
  obtain ⟨rfl, rfl⟩ := pair_inj h
  exact g_iret hX rfl rfl dX9_image_25
set_option maxRecDepth 100000 in
set_option maxHeartbeats 4000000 in
theorem t_X9_judge_18 {l : Launch} {D : DT} {X : XT} {r : Int32} {μ' : Mem} (hX : Cx l D false X 4 RX9 cX9_judge 4 (some FieldType.int)) : ∀ (n : Nat) (v1 : Int32) (v3 : Int32) (μ : Mem), f_X9_judge_18 n v1 v3 μ = some (r, μ') → G l D false X 4 (some (.int r)) μ' 18 [some (.ref (D.1 0)), some (.int v1), none, some (.int v3)] [] μ := by
  intro n
  induction n with
  | zero => intro v1 v3 μ h; exact absurd h (by simp [f_X9_judge_18])
  | succ n ih =>
    intro v1 v3 μ h
    rw [f_X9_judge_18] at h
    refine g_iload_n hX dX9_judge_18 rfl rfl ?_
    refine g_aload_n hX dX9_judge_19 rfl rfl ?_
    refine g_getr hX kd_false_0 fg_9_6 tf_9_6 w_976 sr_false_0_6 dX9_judge_20 ?_
    refine g_iload_n hX dX9_judge_23 rfl rfl ?_
    obtain ⟨z1, h⟩ := ck_some h
    refine g_iald hX wk_9_6.1 wk_9_6.2 z1 dX9_judge_24 ?_
    refine g_icmp_ge (tgt := 63) hX dX9_judge_25 (by decide) (fun q2 => ?_) (fun q2 => ?_)
    · rw [if_pos q2] at h
      refine g_iload_n hX dX9_judge_63 rfl rfl ?_
      obtain ⟨rfl, rfl⟩ := pair_inj h
      exact g_iret hX rfl rfl dX9_judge_64
    · rw [if_neg q2] at h
      refine g_iload_n hX dX9_judge_28 rfl rfl ?_
      refine g_bipush hX dX9_judge_29 kb_7 ?_
      refine g_icmp_ge (tgt := 63) hX dX9_judge_31 (by decide) (fun q3 => ?_) (fun q3 => ?_)
      · rw [if_pos q3] at h
        refine g_iload_n hX dX9_judge_63 rfl rfl ?_
        obtain ⟨rfl, rfl⟩ := pair_inj h
        exact g_iret hX rfl rfl dX9_judge_64
      · rw [if_neg q3] at h
        refine g_aload_n hX dX9_judge_34 rfl rfl ?_
        refine g_getr hX kd_false_0 fg_9_7 tf_9_7 w_977 sr_false_0_7 dX9_judge_35 ?_
        refine g_bipush hX dX9_judge_38 kb_24 ?_
        refine g_iload_n hX dX9_judge_40 rfl rfl ?_
        refine g_imul hX dX9_judge_41 ?_
        refine g_iload_n hX dX9_judge_42 rfl rfl ?_
        refine g_iadd hX dX9_judge_43 ?_
        obtain ⟨z4, h⟩ := ck_some h
        refine g_iald hX wk_9_7.1 wk_9_7.2 z4 dX9_judge_44 ?_
        refine g_aload_n hX dX9_judge_45 rfl rfl ?_
        refine g_getr hX kd_false_0 fg_9_0 tf_9_0 w_970 sr_false_0_0 dX9_judge_46 ?_
        refine g_bipush hX dX9_judge_49 kb_8 ?_
        refine g_iload_n hX dX9_judge_51 rfl rfl ?_
        refine g_iadd hX dX9_judge_52 ?_
        obtain ⟨z5, h⟩ := ck_some h
        refine g_iald hX wk_9_0.1 wk_9_0.2 z5 dX9_judge_53 ?_
        refine g_icmp_ne (tgt := 63) hX dX9_judge_54 (by decide) (fun q6 => ?_) (fun q6 => ?_)
        · rw [if_neg q6] at h
          refine g_iload_n hX dX9_judge_63 rfl rfl ?_
          obtain ⟨rfl, rfl⟩ := pair_inj h
          exact g_iret hX rfl rfl dX9_judge_64
        · rw [if_pos q6] at h
          refine g_iinc (lc' := [some _, some _, none, some _]) hX dX9_judge_57 (by decide) rfl (congrArg _ k_1) rfl rfl ?_
          refine g_goto (tgt := 18) hX dX9_judge_60 (by decide) ?_
          exact g_weak (lc' := [some _, some _, none, some _]) ⟨rfl, rfl, rfl, trivial⟩ (ih _ _ _ h)
set_option maxRecDepth 100000 in
set_option maxHeartbeats 4000000 in
theorem c_X9_judge {l : Launch} {D : DT} {μ : Mem} {r : Int32} {μ' : Mem} (v1 : Int32) (h : f_X9_judge v1 μ = some (r, μ')) : Ct l D false 4 yX9_judge cX9_judge 4 (some FieldType.int) [.ref (D.1 0), .int v1] μ (some (.int r)) μ' := by
  refine Ct.of (own := RX9) (lc0 := [some (.ref (D.1 0)), some (.int v1), none, none]) pn_X9 rfl (Nat.le_of_ble_eq_true rfl) rfl mv_X9_judge.2.2.2.1 (fun X hX => ?_)
  unfold f_X9_judge at h
  refine g_aload_n hX dX9_judge_0 rfl rfl ?_
  refine g_iload_n hX dX9_judge_1 rfl rfl ?_
  obtain ⟨r1, hr1, h⟩ := bd_some h
  refine g_callVi hX (c_X9_notThere  _ hr1) mv_X9_notThere wm_1344 kd_false_0 rfl (by decide) (by decide) rfl rfl (Nat.le_of_ble_eq_true rfl) dX9_judge_2 ?_
  refine g_istore_n (lc' := [some _, some _, some _, none]) hX dX9_judge_5 rfl (by decide) rfl rfl ?_
  refine g_iload_n hX dX9_judge_6 rfl rfl ?_
  refine g_if_eq (tgt := 16) hX dX9_judge_7 (by decide) (fun q2 => ?_) (fun q2 => ?_)
  · rw [if_pos q2] at h
    refine g_iconst hX dX9_judge_16 k_0 ?_
    refine g_istore_n (lc' := [some _, some _, some _, some _]) hX dX9_judge_17 rfl (by decide) rfl rfl ?_
    exact g_weak (lc' := [some _, some _, none, some _]) ⟨rfl, rfl, rfl, trivial⟩ (t_X9_judge_18 hX 2000 _ _ _ h)
  · rw [if_neg q2] at h
    refine g_aload_n hX dX9_judge_10 rfl rfl ?_
    refine g_iload_n hX dX9_judge_11 rfl rfl ?_
    obtain ⟨r3, μ4, hr3, h⟩ := bd2_some h
    refine g_callVi hX (c_X9_error  _ hr3) mv_X9_error wm_1051 kd_false_0 rfl (by decide) (by decide) rfl rfl (Nat.le_of_ble_eq_true rfl) dX9_judge_12 ?_
    obtain ⟨rfl, rfl⟩ := pair_inj h
    exact g_iret hX rfl rfl dX9_judge_15
set_option maxRecDepth 100000 in
set_option maxHeartbeats 4000000 in
theorem c_X9_law {l : Launch} {D : DT} {μ : Mem} {r : Int32} {μ' : Mem} (v1 : Int32) (v2 : Int32) (v3 : Int32) (v4 : Int32) (h : f_X9_law v1 v2 v3 v4 μ = some (r, μ')) : Ct l D false 4 yX9_law cX9_law 5 (some FieldType.int) [.ref (D.1 0), .int v1, .int v2, .int v3, .int v4] μ (some (.int r)) μ' := by
  refine Ct.of (own := RX9) (lc0 := [some (.ref (D.1 0)), some (.int v1), some (.int v2), some (.int v3), some (.int v4)]) pn_X9 rfl (Nat.le_of_ble_eq_true rfl) rfl mv_X9_law.2.2.2.1 (fun X hX => ?_)
  unfold f_X9_law at h
  refine g_iload_n hX dX9_law_0 rfl rfl ?_
  refine g_iconst hX dX9_law_1 k_0 ?_
  refine g_iconst hX dX9_law_2 k_1 ?_
  refine g_callSi hX (c_X9_in  v1 0 1) mv_X9_in wm_1047 (by decide) rfl rfl (Nat.le_of_ble_eq_true rfl) dX9_law_3 ?_
  refine g_if_eq (tgt := 21) hX dX9_law_6 (by decide) (fun q1 => ?_) (fun q1 => ?_)
  · rw [if_pos q1] at h
    refine g_aload_n hX dX9_law_21 rfl rfl ?_
    refine g_ldc hX dX9_law_22 wc_1050 ?_
    obtain ⟨r2, μ3, hr2, h⟩ := bd2_some h
    refine g_callVi hX (c_X9_error  _ hr2) mv_X9_error wm_1051 kd_false_0 rfl (by decide) (by decide) rfl rfl (Nat.le_of_ble_eq_true rfl) dX9_law_24 ?_
    obtain ⟨rfl, rfl⟩ := pair_inj h
    exact g_iret hX rfl rfl dX9_law_27
  · rw [if_neg q1] at h
    refine g_aload_n hX dX9_law_9 rfl rfl ?_
    refine g_iload_n hX dX9_law_10 rfl rfl ?_
    refine g_iload_n hX dX9_law_11 rfl rfl ?_
    refine g_iload_n hX dX9_law_12 rfl rfl ?_
    refine g_iload hX dX9_law_13 rfl ?_
    obtain ⟨r4, μ5, hr4, h⟩ := bd2_some h
    refine g_callVi hX (c_X9_gives  _ _ _ _ hr4) mv_X9_gives wm_1093 kd_false_0 rfl (by decide) (by decide) rfl rfl (Nat.le_of_ble_eq_true rfl) dX9_law_15 ?_
    refine g_goto (tgt := 27) hX dX9_law_18 (by decide) ?_
    obtain ⟨rfl, rfl⟩ := pair_inj h
    exact g_iret hX rfl rfl dX9_law_27
set_option maxRecDepth 100000 in
set_option maxHeartbeats 4000000 in
theorem t_X9_loose_55 {l : Launch} {D : DT} {X : XT} {r : Int32} {μ' : Mem} (hX : Cx l D false X 9 RX9 cX9_loose 3 (some FieldType.int)) : ∀ (μ : Mem), f_X9_loose_55 μ = some (r, μ') → G l D false X 3 (some (.int r)) μ' 55 [some (.ref (D.1 0)), none, none] [] μ := by
  intro μ h
  unfold f_X9_loose_55 at h
  refine g_aload_n hX dX9_loose_55 rfl rfl ?_
  obtain ⟨r1, hr1, h⟩ := bd_some h
  refine g_callVi hX (c_X9_opened hr1) mv_X9_opened wm_1252 kd_false_0 rfl (by decide) (by decide) rfl rfl (Nat.le_of_ble_eq_true rfl) dX9_loose_56 ?_
  obtain ⟨rfl, rfl⟩ := pair_inj h
  exact g_iret hX rfl rfl dX9_loose_59
set_option maxRecDepth 100000 in
set_option maxHeartbeats 4000000 in
theorem t_X9_loose_40 {l : Launch} {D : DT} {X : XT} {r : Int32} {μ' : Mem} (hX : Cx l D false X 9 RX9 cX9_loose 3 (some FieldType.int)) : ∀ (n : Nat) (v1 : Int32) (v2 : Int32) (μ : Mem), f_X9_loose_40 n v1 v2 μ = some (r, μ') → G l D false X 3 (some (.int r)) μ' 40 [some (.ref (D.1 0)), some (.int v1), some (.int v2)] [] μ := by
  intro n
  induction n with
  | zero => intro v1 v2 μ h; exact absurd h (by simp [f_X9_loose_40])
  | succ n ih =>
    intro v1 v2 μ h
    rw [f_X9_loose_40] at h
    refine g_iload_n hX dX9_loose_40 rfl rfl ?_
    refine g_iload_n hX dX9_loose_41 rfl rfl ?_
    refine g_icmp_ge (tgt := 55) hX dX9_loose_42 (by decide) (fun q1 => ?_) (fun q1 => ?_)
    · rw [if_pos q1] at h
      exact g_weak (lc' := [some _, none, none]) ⟨rfl, trivial⟩ (t_X9_loose_55 hX _ h)
    · rw [if_neg q1] at h
      refine g_aload_n hX dX9_loose_45 rfl rfl ?_
      obtain ⟨μ2, hμ2, h⟩ := bd_some h
      refine g_callVv hX (c_X9_drawn hμ2) mv_X9_drawn wm_1260 kd_false_0 rfl (by decide) (by decide) rfl rfl (Nat.le_of_ble_eq_true rfl) dX9_loose_46 ?_
      refine g_iinc (lc' := [some _, some _, some _]) hX dX9_loose_49 (by decide) rfl (congrArg _ k_1) rfl rfl ?_
      refine g_goto (tgt := 40) hX dX9_loose_52 (by decide) ?_
      exact g_weak (lc' := [some _, some _, some _]) ⟨rfl, rfl, rfl, trivial⟩ (ih _ _ _ h)
set_option maxRecDepth 100000 in
set_option maxHeartbeats 4000000 in
theorem c_X9_loose {l : Launch} {D : DT} {μ : Mem} {r : Int32} {μ' : Mem} (v1 : Int32) (h : f_X9_loose v1 μ = some (r, μ')) : Ct l D false 9 yX9_loose cX9_loose 3 (some FieldType.int) [.ref (D.1 0), .int v1] μ (some (.int r)) μ' := by
  refine Ct.of (own := RX9) (lc0 := [some (.ref (D.1 0)), some (.int v1), none]) pn_X9 rfl (Nat.le_of_ble_eq_true rfl) rfl mv_X9_loose.2.2.2.1 (fun X hX => ?_)
  unfold f_X9_loose at h
  refine g_iload_n hX dX9_loose_0 rfl rfl ?_
  refine g_iconst hX dX9_loose_1 k_1 ?_
  refine g_bipush hX dX9_loose_2 kb_30 ?_
  refine g_callSi hX (c_X9_in  v1 1 30) mv_X9_in wm_1047 (by decide) rfl rfl (Nat.le_of_ble_eq_true rfl) dX9_loose_4 ?_
  refine g_if_ne (tgt := 17) hX dX9_loose_7 (by decide) (fun q1 => ?_) (fun q1 => ?_)
  · rw [if_neg q1] at h
    refine g_aload_n hX dX9_loose_17 rfl rfl ?_
    refine g_getr hX kd_false_0 fg_9_0 tf_9_0 w_970 sr_false_0_0 dX9_loose_18 ?_
    refine g_iconst hX dX9_loose_21 k_0 ?_
    refine g_iald hX wk_9_0.1 wk_9_0.2 (by decide) dX9_loose_22 ?_
    refine g_iload_n hX dX9_loose_23 rfl rfl ?_
    refine g_iadd hX dX9_loose_24 ?_
    refine g_sipush hX dX9_loose_25 ks_9999 ?_
    refine g_icmp_le (tgt := 38) hX dX9_loose_28 (by decide) (fun q2 => ?_) (fun q2 => ?_)
    · rw [if_pos q2] at h
      refine g_iconst hX dX9_loose_38 k_0 ?_
      refine g_istore_n (lc' := [some _, some _, some _]) hX dX9_loose_39 rfl (by decide) rfl rfl ?_
      exact g_weak (lc' := [some _, some _, some _]) ⟨rfl, rfl, rfl, trivial⟩ (t_X9_loose_40 hX 2000 _ _ _ h)
    · rw [if_neg q2] at h
      refine g_aload_n hX dX9_loose_31 rfl rfl ?_
      refine g_ldc hX dX9_loose_32 wc_1231 ?_
      obtain ⟨r3, μ4, hr3, h⟩ := bd2_some h
      refine g_callVi hX (c_X9_error  _ hr3) mv_X9_error wm_1051 kd_false_0 rfl (by decide) (by decide) rfl rfl (Nat.le_of_ble_eq_true rfl) dX9_loose_34 ?_
      obtain ⟨rfl, rfl⟩ := pair_inj h
      exact g_iret hX rfl rfl dX9_loose_37
  · rw [if_pos q1] at h
    refine g_aload_n hX dX9_loose_10 rfl rfl ?_
    refine g_ldc hX dX9_loose_11 wc_1050 ?_
    obtain ⟨r5, μ6, hr5, h⟩ := bd2_some h
    refine g_callVi hX (c_X9_error  _ hr5) mv_X9_error wm_1051 kd_false_0 rfl (by decide) (by decide) rfl rfl (Nat.le_of_ble_eq_true rfl) dX9_loose_13 ?_
    obtain ⟨rfl, rfl⟩ := pair_inj h
    exact g_iret hX rfl rfl dX9_loose_16
set_option maxRecDepth 100000 in
set_option maxHeartbeats 4000000 in
theorem c_X9_plainNods {l : Launch} {D : DT} {μ : Mem} {r : Int32} {μ' : Mem} (v1 : Int32) (v2 : Int32) (h : f_X9_plainNods v1 v2 μ = some (r, μ')) : Ct l D false 2 yX9_plainNods cX9_plainNods 3 (some FieldType.int) [.ref (D.1 0), .int v1, .int v2] μ (some (.int r)) μ' := by
  refine Ct.of (own := RX9) (lc0 := [some (.ref (D.1 0)), some (.int v1), some (.int v2)]) pn_X9 rfl (Nat.le_of_ble_eq_true rfl) rfl mv_X9_plainNods.2.2.2.1 (fun X hX => ?_)
  unfold f_X9_plainNods at h
  refine g_aload_n hX dX9_plainNods_0 rfl rfl ?_
  refine g_bipush hX dX9_plainNods_1 kb_10 ?_
  obtain ⟨μ1, hμ1, h⟩ := bd_some h
  refine g_callVv hX (c_X9_begins  _ hμ1) mv_X9_begins wm_1367 kd_false_0 rfl (by decide) (by decide) rfl rfl (Nat.le_of_ble_eq_true rfl) dX9_plainNods_3 ?_
  refine g_iload_n hX dX9_plainNods_6 rfl rfl ?_
  refine g_iload_n hX dX9_plainNods_7 rfl rfl ?_
  refine g_iadd hX dX9_plainNods_8 ?_
  obtain ⟨rfl, rfl⟩ := pair_inj h
  exact g_iret hX rfl rfl dX9_plainNods_9
set_option maxRecDepth 100000 in
set_option maxHeartbeats 4000000 in
theorem c_X9_loverNods {l : Launch} {D : DT} {μ : Mem} {r : Int32} {μ' : Mem} (v1 : Int32) (v2 : Int32) (h : f_X9_loverNods v1 v2 μ = some (r, μ')) : Ct l D false 3 yX9_loverNods cX9_loverNods 3 (some FieldType.int) [.ref (D.1 0), .int v1, .int v2] μ (some (.int r)) μ' := by
  refine Ct.of (own := RX9) (lc0 := [some (.ref (D.1 0)), some (.int v1), some (.int v2)]) pn_X9 rfl (Nat.le_of_ble_eq_true rfl) rfl mv_X9_loverNods.2.2.2.1 (fun X hX => ?_)
  unfold f_X9_loverNods at h
  refine g_aload_n hX dX9_loverNods_0 rfl rfl ?_
  refine g_bipush hX dX9_loverNods_1 kb_20 ?_
  obtain ⟨μ1, hμ1, h⟩ := bd_some h
  refine g_callVv hX (c_X9_begins  _ hμ1) mv_X9_begins wm_1367 kd_false_0 rfl (by decide) (by decide) rfl rfl (Nat.le_of_ble_eq_true rfl) dX9_loverNods_3 ?_
  refine g_aload_n hX dX9_loverNods_6 rfl rfl ?_
  refine g_iload_n hX dX9_loverNods_7 rfl rfl ?_
  refine g_iload_n hX dX9_loverNods_8 rfl rfl ?_
  obtain ⟨r2, μ3, hr2, h⟩ := bd2_some h
  refine g_callVi hX (c_X9_plainNods  _ _ hr2) mv_X9_plainNods wm_1371 kd_false_0 rfl (by decide) (by decide) rfl rfl (Nat.le_of_ble_eq_true rfl) dX9_loverNods_9 ?_
  refine g_iconst hX dX9_loverNods_12 k_4 ?_
  refine g_isub hX dX9_loverNods_13 ?_
  obtain ⟨rfl, rfl⟩ := pair_inj h
  exact g_iret hX rfl rfl dX9_loverNods_14
set_option maxRecDepth 100000 in
set_option maxHeartbeats 4000000 in
theorem c_X9_nods {l : Launch} {D : DT} {μ : Mem} {r : Int32} {μ' : Mem} (v1 : Int32) (v2 : Int32) (h : f_X9_nods v1 v2 μ = some (r, μ')) : Ct l D false 4 yX9_nods cX9_nods 3 (some FieldType.int) [.ref (D.1 0), .int v1, .int v2] μ (some (.int r)) μ' := by
  refine Ct.of (own := RX9) (lc0 := [some (.ref (D.1 0)), some (.int v1), some (.int v2)]) pn_X9 rfl (Nat.le_of_ble_eq_true rfl) rfl mv_X9_nods.2.2.2.1 (fun X hX => ?_)
  unfold f_X9_nods at h
  refine g_aload_n hX dX9_nods_0 rfl rfl ?_
  refine g_iload_n hX dX9_nods_1 rfl rfl ?_
  refine g_iconst hX dX9_nods_2 k_0 ?_
  obtain ⟨r1, hr1, h⟩ := bd_some h
  refine g_callVi hX (c_X9_of  _ _ hr1) mv_X9_of wm_1065 kd_false_0 rfl (by decide) (by decide) rfl rfl (Nat.le_of_ble_eq_true rfl) dX9_nods_3 ?_
  by_cases q2 : r1 = 1
  · rw [if_pos q2] at h
    refine g_ls (tgt := 40) (off := 34) hX dX9_nods_6 (by decide) (by rw [q2] <;> rfl) (by decide) ?_
    refine g_aload_n hX dX9_nods_40 rfl rfl ?_
    refine g_iload_n hX dX9_nods_41 rfl rfl ?_
    refine g_iload_n hX dX9_nods_42 rfl rfl ?_
    obtain ⟨r3, μ4, hr3, h⟩ := bd2_some h
    refine g_callVi hX (c_X9_loverNods  _ _ hr3) mv_X9_loverNods wm_1363 kd_false_0 rfl (by decide) (by decide) rfl rfl (Nat.le_of_ble_eq_true rfl) dX9_nods_43 ?_
    obtain ⟨rfl, rfl⟩ := pair_inj h
    exact g_iret hX rfl rfl dX9_nods_46
  rw [if_neg q2] at h
  have eq2_1 := ls_ne (c := 1) (k := 1) q2 (by decide)
  by_cases q5 : r1 = 4
  · rw [if_pos q5] at h
    refine g_ls (tgt := 47) (off := 41) hX dX9_nods_6 (by decide) (by rw [q5] <;> rfl) (by decide) ?_
    refine g_aload_n hX dX9_nods_47 rfl rfl ?_
    refine g_bipush hX dX9_nods_48 kb_50 ?_
    obtain ⟨μ6, hμ6, h⟩ := bd_some h
    refine g_callVv hX (c_X9_begins  _ hμ6) mv_X9_begins wm_1367 kd_false_0 rfl (by decide) (by decide) rfl rfl (Nat.le_of_ble_eq_true rfl) dX9_nods_50 ?_
    refine g_aload_n hX dX9_nods_53 rfl rfl ?_
    refine g_iload_n hX dX9_nods_54 rfl rfl ?_
    refine g_iload_n hX dX9_nods_55 rfl rfl ?_
    obtain ⟨r7, μ8, hr7, h⟩ := bd2_some h
    refine g_callVi hX (c_X9_loverNods  _ _ hr7) mv_X9_loverNods wm_1363 kd_false_0 rfl (by decide) (by decide) rfl rfl (Nat.le_of_ble_eq_true rfl) dX9_nods_56 ?_
    refine g_iconst hX dX9_nods_59 k_3 ?_
    refine g_imul hX dX9_nods_60 ?_
    obtain ⟨rfl, rfl⟩ := pair_inj h
    exact g_iret hX rfl rfl dX9_nods_61
  rw [if_neg q5] at h
  have eq5_4 := ls_ne (c := 4) (k := 4) q5 (by decide)
  by_cases q9 : r1 = 6
  · rw [if_pos q9] at h
    refine g_ls (tgt := 62) (off := 56) hX dX9_nods_6 (by decide) (by rw [q9] <;> rfl) (by decide) ?_
    refine g_aload_n hX dX9_nods_62 rfl rfl ?_
    refine g_bipush hX dX9_nods_63 kb_70 ?_
    obtain ⟨μ10, hμ10, h⟩ := bd_some h
    refine g_callVv hX (c_X9_begins  _ hμ10) mv_X9_begins wm_1367 kd_false_0 rfl (by decide) (by decide) rfl rfl (Nat.le_of_ble_eq_true rfl) dX9_nods_65 ?_
    refine g_bipush hX dX9_nods_68 kb_9 ?_
    obtain ⟨rfl, rfl⟩ := pair_inj h
    exact g_iret hX rfl rfl dX9_nods_70
  rw [if_neg q9] at h
  have eq9_6 := ls_ne (c := 6) (k := 6) q9 (by decide)
  refine g_ls (tgt := 71) (off := 65) hX dX9_nods_6 (by decide) (by simp [Op.lookupswitch.offset, eq2_1, eq5_4, eq9_6]) (by decide) ?_
  refine g_aload_n hX dX9_nods_71 rfl rfl ?_
  refine g_iload_n hX dX9_nods_72 rfl rfl ?_
  refine g_iload_n hX dX9_nods_73 rfl rfl ?_
  obtain ⟨r11, μ12, hr11, h⟩ := bd2_some h
  refine g_callVi hX (c_X9_plainNods  _ _ hr11) mv_X9_plainNods wm_1371 kd_false_0 rfl (by decide) (by decide) rfl rfl (Nat.le_of_ble_eq_true rfl) dX9_nods_74 ?_
  obtain ⟨rfl, rfl⟩ := pair_inj h
  exact g_iret hX rfl rfl dX9_nods_77
set_option maxRecDepth 100000 in
set_option maxHeartbeats 4000000 in
theorem c_X9_plainMinds {l : Launch} {D : DT} {μ : Mem} {r : Int32} {μ' : Mem} (v1 : Int32) (v2 : Int32) (h : f_X9_plainMinds v1 v2 μ = some (r, μ')) : Ct l D false 5 yX9_plainMinds cX9_plainMinds 3 (some FieldType.int) [.ref (D.1 0), .int v1, .int v2] μ (some (.int r)) μ' := by
  refine Ct.of (own := RX9) (lc0 := [some (.ref (D.1 0)), some (.int v1), some (.int v2)]) pn_X9 rfl (Nat.le_of_ble_eq_true rfl) rfl mv_X9_plainMinds.2.2.2.1 (fun X hX => ?_)
  unfold f_X9_plainMinds at h
  refine g_aload_n hX dX9_plainMinds_0 rfl rfl ?_
  refine g_bipush hX dX9_plainMinds_1 kb_11 ?_
  obtain ⟨μ1, hμ1, h⟩ := bd_some h
  refine g_callVv hX (c_X9_begins  _ hμ1) mv_X9_begins wm_1367 kd_false_0 rfl (by decide) (by decide) rfl rfl (Nat.le_of_ble_eq_true rfl) dX9_plainMinds_3 ?_
  refine g_aload_n hX dX9_plainMinds_6 rfl rfl ?_
  refine g_iload_n hX dX9_plainMinds_7 rfl rfl ?_
  refine g_iload_n hX dX9_plainMinds_8 rfl rfl ?_
  obtain ⟨r2, μ3, hr2, h⟩ := bd2_some h
  refine g_callVi hX (c_X9_nods  _ _ hr2) mv_X9_nods wm_1359 kd_false_0 rfl (by decide) (by decide) rfl rfl (Nat.le_of_ble_eq_true rfl) dX9_plainMinds_9 ?_
  refine g_iconst hX dX9_plainMinds_12 k_2 ?_
  refine g_imul hX dX9_plainMinds_13 ?_
  obtain ⟨rfl, rfl⟩ := pair_inj h
  exact g_iret hX rfl rfl dX9_plainMinds_14
set_option maxRecDepth 100000 in
set_option maxHeartbeats 4000000 in
theorem c_X9_thinkerMinds {l : Launch} {D : DT} {μ : Mem} {r : Int32} {μ' : Mem} (v1 : Int32) (v2 : Int32) (h : f_X9_thinkerMinds v1 v2 μ = some (r, μ')) : Ct l D false 6 yX9_thinkerMinds cX9_thinkerMinds 3 (some FieldType.int) [.ref (D.1 0), .int v1, .int v2] μ (some (.int r)) μ' := by
  refine Ct.of (own := RX9) (lc0 := [some (.ref (D.1 0)), some (.int v1), some (.int v2)]) pn_X9 rfl (Nat.le_of_ble_eq_true rfl) rfl mv_X9_thinkerMinds.2.2.2.1 (fun X hX => ?_)
  unfold f_X9_thinkerMinds at h
  refine g_aload_n hX dX9_thinkerMinds_0 rfl rfl ?_
  refine g_bipush hX dX9_thinkerMinds_1 kb_30 ?_
  obtain ⟨μ1, hμ1, h⟩ := bd_some h
  refine g_callVv hX (c_X9_begins  _ hμ1) mv_X9_begins wm_1367 kd_false_0 rfl (by decide) (by decide) rfl rfl (Nat.le_of_ble_eq_true rfl) dX9_thinkerMinds_3 ?_
  refine g_aload_n hX dX9_thinkerMinds_6 rfl rfl ?_
  refine g_iload_n hX dX9_thinkerMinds_7 rfl rfl ?_
  refine g_iload_n hX dX9_thinkerMinds_8 rfl rfl ?_
  obtain ⟨r2, μ3, hr2, h⟩ := bd2_some h
  refine g_callVi hX (c_X9_plainMinds  _ _ hr2) mv_X9_plainMinds wm_1383 kd_false_0 rfl (by decide) (by decide) rfl rfl (Nat.le_of_ble_eq_true rfl) dX9_thinkerMinds_9 ?_
  refine g_ineg hX dX9_thinkerMinds_12 ?_
  obtain ⟨rfl, rfl⟩ := pair_inj h
  exact g_iret hX rfl rfl dX9_thinkerMinds_13
set_option maxRecDepth 100000 in
set_option maxHeartbeats 4000000 in
theorem c_X9_minds {l : Launch} {D : DT} {μ : Mem} {r : Int32} {μ' : Mem} (v1 : Int32) (v2 : Int32) (h : f_X9_minds v1 v2 μ = some (r, μ')) : Ct l D false 7 yX9_minds cX9_minds 3 (some FieldType.int) [.ref (D.1 0), .int v1, .int v2] μ (some (.int r)) μ' := by
  refine Ct.of (own := RX9) (lc0 := [some (.ref (D.1 0)), some (.int v1), some (.int v2)]) pn_X9 rfl (Nat.le_of_ble_eq_true rfl) rfl mv_X9_minds.2.2.2.1 (fun X hX => ?_)
  unfold f_X9_minds at h
  refine g_aload_n hX dX9_minds_0 rfl rfl ?_
  refine g_iload_n hX dX9_minds_1 rfl rfl ?_
  refine g_iconst hX dX9_minds_2 k_0 ?_
  obtain ⟨r1, hr1, h⟩ := bd_some h
  refine g_callVi hX (c_X9_of  _ _ hr1) mv_X9_of wm_1065 kd_false_0 rfl (by decide) (by decide) rfl rfl (Nat.le_of_ble_eq_true rfl) dX9_minds_3 ?_
  by_cases q2 : r1 = 2
  · rw [if_pos q2] at h
    refine g_tsIn (tgt := 40) (off := 34) hX dX9_minds_6 (by rw [q2] <;> decide) (by rw [q2] <;> decide) (by rw [q2] <;> rfl) (by decide) ?_
    refine g_aload_n hX dX9_minds_40 rfl rfl ?_
    refine g_iload_n hX dX9_minds_41 rfl rfl ?_
    refine g_iload_n hX dX9_minds_42 rfl rfl ?_
    obtain ⟨r3, μ4, hr3, h⟩ := bd2_some h
    refine g_callVi hX (c_X9_thinkerMinds  _ _ hr3) mv_X9_thinkerMinds wm_1379 kd_false_0 rfl (by decide) (by decide) rfl rfl (Nat.le_of_ble_eq_true rfl) dX9_minds_43 ?_
    obtain ⟨rfl, rfl⟩ := pair_inj h
    exact g_iret hX rfl rfl dX9_minds_46
  rw [if_neg q2] at h
  have eq2_2 := ts_ne (c := 2) (k := 2) q2 (by decide)
  by_cases q5 : r1 = 5
  · rw [if_pos q5] at h
    refine g_tsIn (tgt := 47) (off := 41) hX dX9_minds_6 (by rw [q5] <;> decide) (by rw [q5] <;> decide) (by rw [q5] <;> rfl) (by decide) ?_
    refine g_aload_n hX dX9_minds_47 rfl rfl ?_
    refine g_bipush hX dX9_minds_48 kb_60 ?_
    obtain ⟨μ6, hμ6, h⟩ := bd_some h
    refine g_callVv hX (c_X9_begins  _ hμ6) mv_X9_begins wm_1367 kd_false_0 rfl (by decide) (by decide) rfl rfl (Nat.le_of_ble_eq_true rfl) dX9_minds_50 ?_
    refine g_aload_n hX dX9_minds_53 rfl rfl ?_
    refine g_iload_n hX dX9_minds_54 rfl rfl ?_
    refine g_iload_n hX dX9_minds_55 rfl rfl ?_
    refine g_iconst hX dX9_minds_56 k_1 ?_
    refine g_iadd hX dX9_minds_57 ?_
    obtain ⟨r7, μ8, hr7, h⟩ := bd2_some h
    refine g_callVi hX (c_X9_thinkerMinds  _ _ hr7) mv_X9_thinkerMinds wm_1379 kd_false_0 rfl (by decide) (by decide) rfl rfl (Nat.le_of_ble_eq_true rfl) dX9_minds_58 ?_
    obtain ⟨rfl, rfl⟩ := pair_inj h
    exact g_iret hX rfl rfl dX9_minds_61
  rw [if_neg q5] at h
  have eq5_5 := ts_ne (c := 5) (k := 5) q5 (by decide)
  by_cases q9 : r1 = 6
  · rw [if_pos q9] at h
    refine g_tsIn (tgt := 62) (off := 56) hX dX9_minds_6 (by rw [q9] <;> decide) (by rw [q9] <;> decide) (by rw [q9] <;> rfl) (by decide) ?_
    refine g_aload_n hX dX9_minds_62 rfl rfl ?_
    refine g_bipush hX dX9_minds_63 kb_71 ?_
    obtain ⟨μ10, hμ10, h⟩ := bd_some h
    refine g_callVv hX (c_X9_begins  _ hμ10) mv_X9_begins wm_1367 kd_false_0 rfl (by decide) (by decide) rfl rfl (Nat.le_of_ble_eq_true rfl) dX9_minds_65 ?_
    refine g_aload_n hX dX9_minds_68 rfl rfl ?_
    refine g_iload_n hX dX9_minds_69 rfl rfl ?_
    refine g_iload_n hX dX9_minds_70 rfl rfl ?_
    obtain ⟨r11, μ12, hr11, h⟩ := bd2_some h
    refine g_callVi hX (c_X9_plainMinds  _ _ hr11) mv_X9_plainMinds wm_1383 kd_false_0 rfl (by decide) (by decide) rfl rfl (Nat.le_of_ble_eq_true rfl) dX9_minds_71 ?_
    refine g_aload_n hX dX9_minds_74 rfl rfl ?_
    refine g_iload_n hX dX9_minds_75 rfl rfl ?_
    refine g_iconst hX dX9_minds_76 k_1 ?_
    obtain ⟨r13, hr13, h⟩ := bd_some h
    refine g_callVi hX (c_X9_of  _ _ hr13) mv_X9_of wm_1065 kd_false_0 rfl (by decide) (by decide) rfl rfl (Nat.le_of_ble_eq_true rfl) dX9_minds_77 ?_
    refine g_iadd hX dX9_minds_80 ?_
    obtain ⟨rfl, rfl⟩ := pair_inj h
    exact g_iret hX rfl rfl dX9_minds_81
  rw [if_neg q9] at h
  have eq9_6 := ts_ne (c := 6) (k := 6) q9 (by decide)
  refine g_tsD (tgt := 82) hX dX9_minds_6 ?_ (by decide) ?_
  · by_cases e3 : (r1 : Int32).toInt = 3
    · exact Or.inr ⟨by omega, by omega, by rw [e3]; rfl⟩
    by_cases e4 : (r1 : Int32).toInt = 4
    · exact Or.inr ⟨by omega, by omega, by rw [e4]; rfl⟩
    exact Or.inl (by omega)
  refine g_aload_n hX dX9_minds_82 rfl rfl ?_
  refine g_iload_n hX dX9_minds_83 rfl rfl ?_
  refine g_iload_n hX dX9_minds_84 rfl rfl ?_
  obtain ⟨r14, μ15, hr14, h⟩ := bd2_some h
  refine g_callVi hX (c_X9_plainMinds  _ _ hr14) mv_X9_plainMinds wm_1383 kd_false_0 rfl (by decide) (by decide) rfl rfl (Nat.le_of_ble_eq_true rfl) dX9_minds_85 ?_
  obtain ⟨rfl, rfl⟩ := pair_inj h
  exact g_iret hX rfl rfl dX9_minds_88
