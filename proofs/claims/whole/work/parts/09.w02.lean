set_option maxRecDepth 100000 in
set_option maxHeartbeats 4000000 in
theorem t_X2_letGo_58 {l : Launch} {D : DT} {X : XT} {o : Nat} {μ' : Mem} (hX : Cx l D true X 5 RX2 cX2_letGo 6 none) (ho : kd true o = 2) : ∀ (v2 : Int32) (μ : Mem), f_X2_letGo_58 o v2 μ = some μ' → G l D true X 6 none μ' 58 [some (.ref (D.1 o)), none, some (.int v2), none, none, none] [] μ := by
  intro v2 μ h
  unfold f_X2_letGo_58 at h
  refine g_aload_n hX dX2_letGo_58 rfl rfl ?_
  refine g_iload_n hX dX2_letGo_59 rfl rfl ?_
  refine g_callVi hX (c_X2_isGate ho v2) mv_X2_isGate wm_416 ho rfl (by decide) (by decide) rfl rfl (Nat.le_of_ble_eq_true rfl) dX2_letGo_60 ?_
  refine g_if_eq (tgt := 73) hX dX2_letGo_63 (by decide) (fun q1 => ?_) (fun q1 => ?_)
  · rw [if_pos q1] at h
    obtain rfl := Option.some.inj h
    exact g_vret hX rfl dX2_letGo_73
  · rw [if_neg q1] at h
    refine g_aload_n hX dX2_letGo_66 rfl rfl ?_
    refine g_getr hX ho fg_2_7 tf_2_7 w_161 (wo_2_7 ho) dX2_letGo_67 ?_
    refine g_iload_n hX dX2_letGo_70 rfl rfl ?_
    refine g_iconst hX dX2_letGo_71 k_m1 ?_
    obtain ⟨z3, h⟩ := ck_some h
    obtain ⟨μ2, hμ2, h⟩ := wr_some h
    refine g_iastM hX (wk_2_7 ho).1 (wk_2_7 ho).2 z3 dX2_letGo_72 hμ2 ?_
    obtain rfl := Option.some.inj h
    exact g_vret hX rfl dX2_letGo_73
set_option maxRecDepth 100000 in
set_option maxHeartbeats 4000000 in
theorem t_X2_letGo_38 {l : Launch} {D : DT} {X : XT} {o : Nat} {k7 : Int32 → Int32 → Int32 → Int32 → Mem → Option Mem} {μ' : Mem} (hX : Cx l D true X 5 RX2 cX2_letGo 6 none) (ho : kd true o = 2) (hk7 : ∀ (v1 : Int32) (v2 : Int32) (v3 : Int32) (v4 : Int32) (μ : Mem), k7 v1 v2 v3 v4 μ = some μ' → G l D true X 6 none μ' 7 [some (.ref (D.1 o)), some (.int v1), some (.int v2), some (.int v3), some (.int v4), none] [] μ) : ∀ (v1 : Int32) (v2 : Int32) (v3 : Int32) (v4 : Int32) (s0 : Int32) (μ : Mem), f_X2_letGo_38 k7 o v1 v2 v3 v4 s0 μ = some μ' → G l D true X 6 none μ' 38 [some (.ref (D.1 o)), some (.int v1), some (.int v2), some (.int v3), some (.int v4), none] [.int s0] μ := by
  intro v1 v2 v3 v4 s0 μ h
  unfold f_X2_letGo_38 at h
  refine g_istore (lc' := [some _, some _, some _, some _, some _, some _]) hX dX2_letGo_38 (by decide) rfl rfl ?_
  refine g_iload hX dX2_letGo_40 rfl ?_
  refine g_iload_n hX dX2_letGo_42 rfl rfl ?_
  refine g_icmp_le (tgt := 52) hX dX2_letGo_43 (by decide) (fun q1 => ?_) (fun q1 => ?_)
  · rw [if_pos q1] at h
    refine g_iinc (lc' := [some _, some _, some _, some _, some _, some _]) hX dX2_letGo_52 (by decide) rfl (congrArg _ k_1) rfl rfl ?_
    refine g_goto (tgt := 7) hX dX2_letGo_55 (by decide) ?_
    exact g_weak (lc' := [some _, some _, some _, some _, some _, none]) ⟨rfl, rfl, rfl, rfl, rfl, trivial⟩ (hk7 _ _ _ _ _ h)
  · rw [if_neg q1] at h
    refine g_iload hX dX2_letGo_46 rfl ?_
    refine g_istore_n (lc' := [some _, some _, some _, some _, some _, some _]) hX dX2_letGo_48 rfl (by decide) rfl rfl ?_
    refine g_iload hX dX2_letGo_49 rfl ?_
    refine g_istore_n (lc' := [some _, some _, some _, some _, some _, some _]) hX dX2_letGo_51 rfl (by decide) rfl rfl ?_
    refine g_iinc (lc' := [some _, some _, some _, some _, some _, some _]) hX dX2_letGo_52 (by decide) rfl (congrArg _ k_1) rfl rfl ?_
    refine g_goto (tgt := 7) hX dX2_letGo_55 (by decide) ?_
    exact g_weak (lc' := [some _, some _, some _, some _, some _, none]) ⟨rfl, rfl, rfl, rfl, rfl, trivial⟩ (hk7 _ _ _ _ _ h)
set_option maxRecDepth 100000 in
set_option maxHeartbeats 4000000 in
theorem t_X2_letGo_7 {l : Launch} {D : DT} {X : XT} {o : Nat} {μ' : Mem} (hX : Cx l D true X 5 RX2 cX2_letGo 6 none) (ho : kd true o = 2) : ∀ (n : Nat) (v1 : Int32) (v2 : Int32) (v3 : Int32) (v4 : Int32) (μ : Mem), f_X2_letGo_7 o n v1 v2 v3 v4 μ = some μ' → G l D true X 6 none μ' 7 [some (.ref (D.1 o)), some (.int v1), some (.int v2), some (.int v3), some (.int v4), none] [] μ := by
  intro n
  induction n with
  | zero => intro v1 v2 v3 v4 μ h; exact absurd h (by simp [f_X2_letGo_7])
  | succ n ih =>
    intro v1 v2 v3 v4 μ h
    rw [f_X2_letGo_7] at h
    refine g_iload hX dX2_letGo_7 rfl ?_
    refine g_aload_n hX dX2_letGo_9 rfl rfl ?_
    refine g_geti hX ho fg_2_11 tf_2_11 w_175 dX2_letGo_10 ?_
    refine g_icmp_ge (tgt := 58) hX dX2_letGo_13 (by decide) (fun q1 => ?_) (fun q1 => ?_)
    · rw [if_pos q1] at h
      exact g_weak (lc' := [some _, none, some _, none, none, none]) ⟨rfl, rfl, trivial⟩ (t_X2_letGo_58 hX ho _ _ h)
    · rw [if_neg q1] at h
      refine g_aload_n hX dX2_letGo_16 rfl rfl ?_
      refine g_getr hX ho fg_2_7 tf_2_7 w_161 (wo_2_7 ho) dX2_letGo_17 ?_
      refine g_iload hX dX2_letGo_20 rfl ?_
      obtain ⟨z2, h⟩ := ck_some h
      refine g_iald hX (wk_2_7 ho).1 (wk_2_7 ho).2 z2 dX2_letGo_22 ?_
      refine g_iload_n hX dX2_letGo_23 rfl rfl ?_
      refine g_icmp_ne (tgt := 37) hX dX2_letGo_24 (by decide) (fun q3 => ?_) (fun q3 => ?_)
      · rw [if_neg q3] at h
        refine g_iconst hX dX2_letGo_37 k_m1 ?_
        exact g_weak (lc' := [some _, some _, some _, some _, some _, none]) ⟨rfl, rfl, rfl, rfl, rfl, trivial⟩ (t_X2_letGo_38 hX ho ih _ _ _ _ _ _ h)
      · rw [if_pos q3] at h
        refine g_aload_n hX dX2_letGo_27 rfl rfl ?_
        refine g_iload_n hX dX2_letGo_28 rfl rfl ?_
        refine g_iload hX dX2_letGo_29 rfl ?_
        obtain ⟨r4, μ5, hr4, h⟩ := bd2_some h
        refine g_callVi hX (c_X2_weight ho _ _ hr4) mv_X2_weight wm_411 ho rfl (by decide) (by decide) rfl rfl (Nat.le_of_ble_eq_true rfl) dX2_letGo_31 ?_
        refine g_goto (tgt := 38) hX dX2_letGo_34 (by decide) ?_
        exact g_weak (lc' := [some _, some _, some _, some _, some _, none]) ⟨rfl, rfl, rfl, rfl, rfl, trivial⟩ (t_X2_letGo_38 hX ho ih _ _ _ _ _ _ h)
set_option maxRecDepth 100000 in
set_option maxHeartbeats 4000000 in
theorem c_X2_letGo {l : Launch} {D : DT} {o : Nat} {μ : Mem} {μ' : Mem} (ho : kd true o = 2) (v1 : Int32) (h : f_X2_letGo o v1 μ = some μ') : Ct l D true 5 yX2_letGo cX2_letGo 6 none [.ref (D.1 o), .int v1] μ none μ' := by
  refine Ct.of (own := RX2) (lc0 := [some (.ref (D.1 o)), some (.int v1), none, none, none, none]) pn_X2 rfl (Nat.le_of_ble_eq_true rfl) rfl mv_X2_letGo.2.2.2.1 (fun X hX => ?_)
  unfold f_X2_letGo at h
  refine g_iconst hX dX2_letGo_0 k_m1 ?_
  refine g_istore_n (lc' := [some _, some _, some _, none, none, none]) hX dX2_letGo_1 rfl (by decide) rfl rfl ?_
  refine g_iconst hX dX2_letGo_2 k_m1 ?_
  refine g_istore_n (lc' := [some _, some _, some _, some _, none, none]) hX dX2_letGo_3 rfl (by decide) rfl rfl ?_
  refine g_iconst hX dX2_letGo_4 k_0 ?_
  refine g_istore (lc' := [some _, some _, some _, some _, some _, none]) hX dX2_letGo_5 (by decide) rfl rfl ?_
  exact g_weak (lc' := [some _, some _, some _, some _, some _, none]) ⟨rfl, rfl, rfl, rfl, rfl, trivial⟩ (t_X2_letGo_7 hX ho 2000 _ _ _ _ _ h)
set_option maxRecDepth 100000 in
set_option maxHeartbeats 4000000 in
theorem c_X8_isField {l : Launch} {D : DT} {μ : Mem} (v0 : Int32) : Ct l D true 1 yX8_isField cX8_isField 1 (some FieldType.boolean) [.int v0] μ (some (.int (f_X8_isField v0))) μ := by
  obtain ⟨r, h⟩ : ∃ r, f_X8_isField v0 = r := ⟨_, rfl⟩
  rw [h]
  refine Ct.of (own := RX8) (lc0 := [some (.int v0)]) pn_X8 rfl (Nat.le_of_ble_eq_true rfl) rfl mv_X8_isField.2.2.1 (fun X hX => ?_)
  unfold f_X8_isField at h
  refine g_iload_n hX dX8_isField_0 rfl rfl ?_
  refine g_if_lt (tgt := 14) hX dX8_isField_1 (by decide) (fun q1 => ?_) (fun q1 => ?_)
  · rw [if_pos q1] at h
    refine g_iconst hX dX8_isField_14 k_0 ?_
    subst h
    exact g_iret hX rfl rfl dX8_isField_15
  · rw [if_neg q1] at h
    refine g_iload_n hX dX8_isField_4 rfl rfl ?_
    refine g_bipush hX dX8_isField_5 kb_7 ?_
    refine g_icmp_ge (tgt := 14) hX dX8_isField_7 (by decide) (fun q2 => ?_) (fun q2 => ?_)
    · rw [if_pos q2] at h
      refine g_iconst hX dX8_isField_14 k_0 ?_
      subst h
      exact g_iret hX rfl rfl dX8_isField_15
    · rw [if_neg q2] at h
      refine g_iconst hX dX8_isField_10 k_1 ?_
      refine g_goto (tgt := 15) hX dX8_isField_11 (by decide) ?_
      subst h
      exact g_iret hX rfl rfl dX8_isField_15
set_option maxRecDepth 100000 in
set_option maxHeartbeats 4000000 in
theorem c_X2_draw {l : Launch} {D : DT} {o : Nat} {μ : Mem} {r : Int32} {μ' : Mem} (ho : kd true o = 2) (v1 : Int32) (h : f_X2_draw o v1 μ = some (r, μ')) : Ct l D true 4 yX2_draw cX2_draw 2 (some FieldType.int) [.ref (D.1 o), .int v1] μ (some (.int r)) μ' := by
  refine Ct.of (own := RX2) (lc0 := [some (.ref (D.1 o)), some (.int v1)]) pn_X2 rfl (Nat.le_of_ble_eq_true rfl) rfl mv_X2_draw.2.2.2.1 (fun X hX => ?_)
  unfold f_X2_draw at h
  refine g_iload_n hX dX2_draw_0 rfl rfl ?_
  refine g_callSNi hX (c_X8_isField  v1) mv_X8_isField nl_1 (by decide) rfl rfl (Nat.le_of_ble_eq_true rfl) dX2_draw_1 ?_
  refine g_if_ne (tgt := 9) hX dX2_draw_4 (by decide) (fun q1 => ?_) (fun q1 => ?_)
  · rw [if_neg q1] at h
    refine g_aload_n hX dX2_draw_9 rfl rfl ?_
    refine g_getr hX ho fg_2_1 tf_2_1 w_150 rfl dX2_draw_10 ?_
    refine g_aload_n hX dX2_draw_13 rfl rfl ?_
    refine g_getr hX ho fg_2_9 tf_2_9 w_167 (wo_2_9 ho) dX2_draw_14 ?_
    refine g_iload_n hX dX2_draw_17 rfl rfl ?_
    obtain ⟨z2, h⟩ := ck_some h
    refine g_iald hX (wk_2_9 ho).1 (wk_2_9 ho).2 z2 dX2_draw_18 ?_
    refine g_iload_n hX dX2_draw_19 rfl rfl ?_
    refine g_aload_n hX dX2_draw_20 rfl rfl ?_
    refine g_geti hX ho fg_2_13 tf_2_13 w_180 dX2_draw_21 ?_
    refine g_bipush hX dX2_draw_24 kb_24 ?_
    refine g_irem hX (by decide) dX2_draw_26 ?_
    obtain ⟨r3, μ4, hr3, h⟩ := bd2_some h
    refine g_callVi hX (c_X1_gives (wk_2_1 ho) _ _ _ hr3) mv_X1_gives wm_424 (wk_2_1 ho) rfl (by decide) (by decide) rfl rfl (Nat.le_of_ble_eq_true rfl) dX2_draw_27 ?_
    obtain ⟨rfl, rfl⟩ := pair_inj h
    exact g_iret hX rfl rfl dX2_draw_30
  · rw [if_pos q1] at h
    refine g_iconst hX dX2_draw_7 k_0 ?_
    obtain ⟨rfl, rfl⟩ := pair_inj h
    exact g_iret hX rfl rfl dX2_draw_8
set_option maxRecDepth 100000 in
set_option maxHeartbeats 4000000 in
theorem t_X2_graze_113 {l : Launch} {D : DT} {X : XT} {o : Nat} {μ' : Mem} (hX : Cx l D true X 5 RX2 cX2_graze 8 none) (ho : kd true o = 2) : ∀ (v1 : Int32) (v3 : Int32) (μ : Mem), f_X2_graze_113 o v1 v3 μ = some μ' → G l D true X 8 none μ' 113 [some (.ref (D.1 o)), some (.int v1), none, some (.int v3), none, none, none, none] [] μ := by
  intro v1 v3 μ h
  unfold f_X2_graze_113 at h
  refine g_aload_n hX dX2_graze_113 rfl rfl ?_
  refine g_getr hX ho fg_2_8 tf_2_8 w_165 (wo_2_8 ho) dX2_graze_114 ?_
  refine g_iload_n hX dX2_graze_117 rfl rfl ?_
  refine g_iload_n hX dX2_graze_118 rfl rfl ?_
  obtain ⟨z2, h⟩ := ck_some h
  obtain ⟨μ1, hμ1, h⟩ := wr_some h
  refine g_iastM hX (wk_2_8 ho).1 (wk_2_8 ho).2 z2 dX2_graze_119 hμ1 ?_
  refine g_iload_n hX dX2_graze_120 rfl rfl ?_
  refine g_callSNi hX (c_X8_isField  v3) mv_X8_isField nl_1 (by decide) rfl rfl (Nat.le_of_ble_eq_true rfl) dX2_graze_121 ?_
  refine g_if_eq (tgt := 145) hX dX2_graze_124 (by decide) (fun q3 => ?_) (fun q3 => ?_)
  · rw [if_pos q3] at h
    obtain rfl := Option.some.inj h
    exact g_vret hX rfl dX2_graze_145
  · rw [if_neg q3] at h
    refine g_aload_n hX dX2_graze_127 rfl rfl ?_
    refine g_getr hX ho fg_2_9 tf_2_9 w_167 (wo_2_9 ho) dX2_graze_128 ?_
    refine g_iload_n hX dX2_graze_131 rfl rfl ?_
    refine g_aload_n hX dX2_graze_132 rfl rfl ?_
    refine g_getr hX ho fg_2_9 tf_2_9 w_167 (wo_2_9 ho) dX2_graze_133 ?_
    refine g_iload_n hX dX2_graze_136 rfl rfl ?_
    obtain ⟨z4, h⟩ := ck_some h
    refine g_iald hX (wk_2_9 ho).1 (wk_2_9 ho).2 z4 dX2_graze_137 ?_
    refine g_iconst hX dX2_graze_138 k_1 ?_
    refine g_isub hX dX2_graze_139 ?_
    refine g_iconst hX dX2_graze_140 k_0 ?_
    refine g_mmax hX mmw_max wm_718 (by decide) (Nat.le_of_ble_eq_true rfl) dX2_graze_141 ?_
    obtain ⟨z6, h⟩ := ck_some h
    obtain ⟨μ5, hμ5, h⟩ := wr_some h
    refine g_iastM hX (wk_2_9 ho).1 (wk_2_9 ho).2 z6 dX2_graze_144 hμ5 ?_
    obtain rfl := Option.some.inj h
    exact g_vret hX rfl dX2_graze_145
set_option maxRecDepth 100000 in
set_option maxHeartbeats 4000000 in
theorem t_X2_graze_92 {l : Launch} {D : DT} {X : XT} {o : Nat} {μ' : Mem} (hX : Cx l D true X 5 RX2 cX2_graze 8 none) (ho : kd true o = 2) : ∀ (v1 : Int32) (v2 : Int32) (v3 : Int32) (μ : Mem), f_X2_graze_92 o v1 v2 v3 μ = some μ' → G l D true X 8 none μ' 92 [some (.ref (D.1 o)), some (.int v1), some (.int v2), some (.int v3), none, none, none, none] [] μ := by
  intro v1 v2 v3 μ h
  unfold f_X2_graze_92 at h
  refine g_iload_n hX dX2_graze_92 rfl rfl ?_
  refine g_iload_n hX dX2_graze_93 rfl rfl ?_
  refine g_icmp_eq (tgt := 113) hX dX2_graze_94 (by decide) (fun q1 => ?_) (fun q1 => ?_)
  · rw [if_pos q1] at h
    exact g_weak (lc' := [some _, some _, none, some _, none, none, none, none]) ⟨rfl, rfl, rfl, trivial⟩ (t_X2_graze_113 hX ho _ _ _ h)
  · rw [if_neg q1] at h
    refine g_aload_n hX dX2_graze_97 rfl rfl ?_
    refine g_aload_n hX dX2_graze_98 rfl rfl ?_
    refine g_geti hX ho fg_2_14 tf_2_14 w_182 dX2_graze_99 ?_
    refine g_iconst hX dX2_graze_102 k_1 ?_
    refine g_iadd hX dX2_graze_103 ?_
    refine g_sipush hX dX2_graze_104 ks_9999 ?_
    refine g_mmin hX mmw_min wm_717 (by decide) (Nat.le_of_ble_eq_true rfl) dX2_graze_107 ?_
    obtain ⟨μ2, hμ2, h⟩ := wr_some h
    refine g_puti hX ho fg_2_14 tf_2_14 tyX2_ok nmX2 rfl w_182 dX2_graze_110 hμ2 ?_
    exact g_weak (lc' := [some _, some _, none, some _, none, none, none, none]) ⟨rfl, rfl, rfl, trivial⟩ (t_X2_graze_113 hX ho _ _ _ h)
set_option maxRecDepth 100000 in
set_option maxHeartbeats 4000000 in
theorem t_X2_graze_70 {l : Launch} {D : DT} {X : XT} {o : Nat} {k19 : Int32 → Int32 → Int32 → Int32 → Int32 → Mem → Option Mem} {μ' : Mem} (hX : Cx l D true X 5 RX2 cX2_graze 8 none) (ho : kd true o = 2) (hk19 : ∀ (v1 : Int32) (v2 : Int32) (v3 : Int32) (v4 : Int32) (v5 : Int32) (μ : Mem), k19 v1 v2 v3 v4 v5 μ = some μ' → G l D true X 8 none μ' 19 [some (.ref (D.1 o)), some (.int v1), some (.int v2), some (.int v3), some (.int v4), some (.int v5), none, none] [] μ) : ∀ (v1 : Int32) (v2 : Int32) (v3 : Int32) (v4 : Int32) (v5 : Int32) (v6 : Int32) (s0 : Int32) (μ : Mem), f_X2_graze_70 k19 o v1 v2 v3 v4 v5 v6 s0 μ = some μ' → G l D true X 8 none μ' 70 [some (.ref (D.1 o)), some (.int v1), some (.int v2), some (.int v3), some (.int v4), some (.int v5), some (.int v6), none] [.int s0] μ := by
  intro v1 v2 v3 v4 v5 v6 s0 μ h
  unfold f_X2_graze_70 at h
  refine g_istore (lc' := [some _, some _, some _, some _, some _, some _, some _, some _]) hX dX2_graze_70 (by decide) rfl rfl ?_
  refine g_iload hX dX2_graze_72 rfl ?_
  refine g_iload hX dX2_graze_74 rfl ?_
  refine g_icmp_le (tgt := 86) hX dX2_graze_76 (by decide) (fun q1 => ?_) (fun q1 => ?_)
  · rw [if_pos q1] at h
    refine g_iinc (lc' := [some _, some _, some _, some _, some _, some _, some _, some _]) hX dX2_graze_86 (by decide) rfl (congrArg _ k_1) rfl rfl ?_
    refine g_goto (tgt := 19) hX dX2_graze_89 (by decide) ?_
    exact g_weak (lc' := [some _, some _, some _, some _, some _, some _, none, none]) ⟨rfl, rfl, rfl, rfl, rfl, rfl, trivial⟩ (hk19 _ _ _ _ _ _ h)
  · rw [if_neg q1] at h
    refine g_iload hX dX2_graze_79 rfl ?_
    refine g_istore (lc' := [some _, some _, some _, some _, some _, some _, some _, some _]) hX dX2_graze_81 (by decide) rfl rfl ?_
    refine g_iload hX dX2_graze_83 rfl ?_
    refine g_istore_n (lc' := [some _, some _, some _, some _, some _, some _, some _, some _]) hX dX2_graze_85 rfl (by decide) rfl rfl ?_
    refine g_iinc (lc' := [some _, some _, some _, some _, some _, some _, some _, some _]) hX dX2_graze_86 (by decide) rfl (congrArg _ k_1) rfl rfl ?_
    refine g_goto (tgt := 19) hX dX2_graze_89 (by decide) ?_
    exact g_weak (lc' := [some _, some _, some _, some _, some _, some _, none, none]) ⟨rfl, rfl, rfl, rfl, rfl, rfl, trivial⟩ (hk19 _ _ _ _ _ _ h)
set_option maxRecDepth 100000 in
set_option maxHeartbeats 4000000 in
theorem t_X2_graze_50 {l : Launch} {D : DT} {X : XT} {o : Nat} {k19 : Int32 → Int32 → Int32 → Int32 → Int32 → Mem → Option Mem} {μ' : Mem} (hX : Cx l D true X 5 RX2 cX2_graze 8 none) (ho : kd true o = 2) (hk19 : ∀ (v1 : Int32) (v2 : Int32) (v3 : Int32) (v4 : Int32) (v5 : Int32) (μ : Mem), k19 v1 v2 v3 v4 v5 μ = some μ' → G l D true X 8 none μ' 19 [some (.ref (D.1 o)), some (.int v1), some (.int v2), some (.int v3), some (.int v4), some (.int v5), none, none] [] μ) : ∀ (v1 : Int32) (v2 : Int32) (v3 : Int32) (v4 : Int32) (v5 : Int32) (s0 : Int32) (μ : Mem), f_X2_graze_50 k19 o v1 v2 v3 v4 v5 s0 μ = some μ' → G l D true X 8 none μ' 50 [some (.ref (D.1 o)), some (.int v1), some (.int v2), some (.int v3), some (.int v4), some (.int v5), none, none] [.int s0] μ := by
  intro v1 v2 v3 v4 v5 s0 μ h
  unfold f_X2_graze_50 at h
  refine g_istore (lc' := [some _, some _, some _, some _, some _, some _, some _, none]) hX dX2_graze_50 (by decide) rfl rfl ?_
  refine g_iload hX dX2_graze_52 rfl ?_
  refine g_callSNi hX (c_X8_isField  s0) mv_X8_isField nl_1 (by decide) rfl rfl (Nat.le_of_ble_eq_true rfl) dX2_graze_54 ?_
  refine g_if_eq (tgt := 69) hX dX2_graze_57 (by decide) (fun q1 => ?_) (fun q1 => ?_)
  · rw [if_pos q1] at h
    refine g_iconst hX dX2_graze_69 k_m1 ?_
    exact g_weak (lc' := [some _, some _, some _, some _, some _, some _, some _, none]) ⟨rfl, rfl, rfl, rfl, rfl, rfl, rfl, trivial⟩ (t_X2_graze_70 hX ho hk19 _ _ _ _ _ _ _ _ h)
  · rw [if_neg q1] at h
    refine g_aload_n hX dX2_graze_60 rfl rfl ?_
    refine g_iload hX dX2_graze_61 rfl ?_
    obtain ⟨r2, μ3, hr2, h⟩ := bd2_some h
    refine g_callVi hX (c_X2_draw ho _ hr2) mv_X2_draw wm_708 ho rfl (by decide) (by decide) rfl rfl (Nat.le_of_ble_eq_true rfl) dX2_graze_63 ?_
    refine g_goto (tgt := 70) hX dX2_graze_66 (by decide) ?_
    exact g_weak (lc' := [some _, some _, some _, some _, some _, some _, some _, none]) ⟨rfl, rfl, rfl, rfl, rfl, rfl, rfl, trivial⟩ (t_X2_graze_70 hX ho hk19 _ _ _ _ _ _ _ _ h)
set_option maxRecDepth 100000 in
set_option maxHeartbeats 4000000 in
theorem t_X2_graze_19 {l : Launch} {D : DT} {X : XT} {o : Nat} {μ' : Mem} (hX : Cx l D true X 5 RX2 cX2_graze 8 none) (ho : kd true o = 2) : ∀ (n : Nat) (v1 : Int32) (v2 : Int32) (v3 : Int32) (v4 : Int32) (v5 : Int32) (μ : Mem), f_X2_graze_19 o n v1 v2 v3 v4 v5 μ = some μ' → G l D true X 8 none μ' 19 [some (.ref (D.1 o)), some (.int v1), some (.int v2), some (.int v3), some (.int v4), some (.int v5), none, none] [] μ := by
  intro n
  induction n with
  | zero => intro v1 v2 v3 v4 v5 μ h; exact absurd h (by simp [f_X2_graze_19])
  | succ n ih =>
    intro v1 v2 v3 v4 v5 μ h
    rw [f_X2_graze_19] at h
    refine g_iload hX dX2_graze_19 rfl ?_
    refine g_aload_n hX dX2_graze_21 rfl rfl ?_
    refine g_geti hX ho fg_2_11 tf_2_11 w_175 dX2_graze_22 ?_
    refine g_icmp_ge (tgt := 92) hX dX2_graze_25 (by decide) (fun q1 => ?_) (fun q1 => ?_)
    · rw [if_pos q1] at h
      exact g_weak (lc' := [some _, some _, some _, some _, none, none, none, none]) ⟨rfl, rfl, rfl, rfl, trivial⟩ (t_X2_graze_92 hX ho _ _ _ _ h)
    · rw [if_neg q1] at h
      refine g_aload_n hX dX2_graze_28 rfl rfl ?_
      refine g_getr hX ho fg_2_7 tf_2_7 w_161 (wo_2_7 ho) dX2_graze_29 ?_
      refine g_iload hX dX2_graze_32 rfl ?_
      obtain ⟨z2, h⟩ := ck_some h
      refine g_iald hX (wk_2_7 ho).1 (wk_2_7 ho).2 z2 dX2_graze_34 ?_
      refine g_iconst hX dX2_graze_35 k_m1 ?_
      refine g_icmp_ne (tgt := 49) hX dX2_graze_36 (by decide) (fun q3 => ?_) (fun q3 => ?_)
      · rw [if_neg q3] at h
        refine g_iconst hX dX2_graze_49 k_m1 ?_
        exact g_weak (lc' := [some _, some _, some _, some _, some _, some _, none, none]) ⟨rfl, rfl, rfl, rfl, rfl, rfl, trivial⟩ (t_X2_graze_50 hX ho ih _ _ _ _ _ _ _ h)
      · rw [if_pos q3] at h
        refine g_aload_n hX dX2_graze_39 rfl rfl ?_
        refine g_iload hX dX2_graze_40 rfl ?_
        refine g_iload_n hX dX2_graze_42 rfl rfl ?_
        obtain ⟨r4, hr4, h⟩ := bd_some h
        refine g_callVi hX (c_X2_across ho _ _ hr4) mv_X2_across wm_713 ho rfl (by decide) (by decide) rfl rfl (Nat.le_of_ble_eq_true rfl) dX2_graze_43 ?_
        refine g_goto (tgt := 50) hX dX2_graze_46 (by decide) ?_
        exact g_weak (lc' := [some _, some _, some _, some _, some _, some _, none, none]) ⟨rfl, rfl, rfl, rfl, rfl, rfl, trivial⟩ (t_X2_graze_50 hX ho ih _ _ _ _ _ _ _ h)
set_option maxRecDepth 100000 in
set_option maxHeartbeats 4000000 in
theorem c_X2_graze {l : Launch} {D : DT} {o : Nat} {μ : Mem} {μ' : Mem} (ho : kd true o = 2) (v1 : Int32) (h : f_X2_graze o v1 μ = some μ') : Ct l D true 5 yX2_graze cX2_graze 8 none [.ref (D.1 o), .int v1] μ none μ' := by
  refine Ct.of (own := RX2) (lc0 := [some (.ref (D.1 o)), some (.int v1), none, none, none, none, none, none]) pn_X2 rfl (Nat.le_of_ble_eq_true rfl) rfl mv_X2_graze.2.2.2.1 (fun X hX => ?_)
  unfold f_X2_graze at h
  refine g_aload_n hX dX2_graze_0 rfl rfl ?_
  refine g_getr hX ho fg_2_8 tf_2_8 w_165 (wo_2_8 ho) dX2_graze_1 ?_
  refine g_iload_n hX dX2_graze_4 rfl rfl ?_
  obtain ⟨z1, h⟩ := ck_some h
  refine g_iald hX (wk_2_8 ho).1 (wk_2_8 ho).2 z1 dX2_graze_5 ?_
  refine g_istore_n (lc' := [some _, some _, some _, none, none, none, none, none]) hX dX2_graze_6 rfl (by decide) rfl rfl ?_
  refine g_iload_n hX dX2_graze_7 rfl rfl ?_
  refine g_istore_n (lc' := [some _, some _, some _, some _, none, none, none, none]) hX dX2_graze_8 rfl (by decide) rfl rfl ?_
  refine g_aload_n hX dX2_graze_9 rfl rfl ?_
  refine g_iload_n hX dX2_graze_10 rfl rfl ?_
  obtain ⟨r2, μ3, hr2, h⟩ := bd2_some h
  refine g_callVi hX (c_X2_draw ho _ hr2) mv_X2_draw wm_708 ho rfl (by decide) (by decide) rfl rfl (Nat.le_of_ble_eq_true rfl) dX2_graze_11 ?_
  refine g_istore (lc' := [some _, some _, some _, some _, some _, none, none, none]) hX dX2_graze_14 (by decide) rfl rfl ?_
  refine g_iconst hX dX2_graze_16 k_0 ?_
  refine g_istore (lc' := [some _, some _, some _, some _, some _, some _, none, none]) hX dX2_graze_17 (by decide) rfl rfl ?_
  exact g_weak (lc' := [some _, some _, some _, some _, some _, some _, none, none]) ⟨rfl, rfl, rfl, rfl, rfl, rfl, trivial⟩ (t_X2_graze_19 hX ho 2000 _ _ _ _ _ _ h)
set_option maxRecDepth 100000 in
set_option maxHeartbeats 4000000 in
theorem t_X2_anHour_55 {l : Launch} {D : DT} {X : XT} {o : Nat} {μ' : Mem} (hX : Cx l D true X 6 RX2 cX2_anHour 2 none) (ho : kd true o = 2) : ∀ (μ : Mem), f_X2_anHour_55 o μ = some μ' → G l D true X 2 none μ' 55 [some (.ref (D.1 o)), none] [] μ := by
  intro μ h
  unfold f_X2_anHour_55 at h
  refine g_aload_n hX dX2_anHour_55 rfl rfl ?_
  refine g_dup hX dX2_anHour_56 rfl ?_
  refine g_geti hX ho fg_2_13 tf_2_13 w_180 dX2_anHour_57 ?_
  refine g_iconst hX dX2_anHour_60 k_1 ?_
  refine g_iadd hX dX2_anHour_61 ?_
  obtain ⟨μ1, hμ1, h⟩ := wr_some h
  refine g_puti hX ho fg_2_13 tf_2_13 tyX2_ok nmX2 rfl w_180 dX2_anHour_62 hμ1 ?_
  obtain rfl := Option.some.inj h
  exact g_vret hX rfl dX2_anHour_65
set_option maxRecDepth 100000 in
set_option maxHeartbeats 4000000 in
theorem t_X2_anHour_36 {l : Launch} {D : DT} {X : XT} {o : Nat} {μ' : Mem} (hX : Cx l D true X 6 RX2 cX2_anHour 2 none) (ho : kd true o = 2) : ∀ (n : Nat) (v1 : Int32) (μ : Mem), f_X2_anHour_36 o n v1 μ = some μ' → G l D true X 2 none μ' 36 [some (.ref (D.1 o)), some (.int v1)] [] μ := by
  intro n
  induction n with
  | zero => intro v1 μ h; exact absurd h (by simp [f_X2_anHour_36])
  | succ n ih =>
    intro v1 μ h
    rw [f_X2_anHour_36] at h
    refine g_iload_n hX dX2_anHour_36 rfl rfl ?_
    refine g_aload_n hX dX2_anHour_37 rfl rfl ?_
    refine g_geti hX ho fg_2_12 tf_2_12 w_178 dX2_anHour_38 ?_
    refine g_icmp_ge (tgt := 55) hX dX2_anHour_41 (by decide) (fun q1 => ?_) (fun q1 => ?_)
    · rw [if_pos q1] at h
      exact g_weak (lc' := [some _, none]) ⟨rfl, trivial⟩ (t_X2_anHour_55 hX ho _ h)
    · rw [if_neg q1] at h
      refine g_aload_n hX dX2_anHour_44 rfl rfl ?_
      refine g_iload_n hX dX2_anHour_45 rfl rfl ?_
      obtain ⟨μ2, hμ2, h⟩ := bd_some h
      refine g_callVv hX (c_X2_graze ho _ hμ2) mv_X2_graze wm_704 ho rfl (by decide) (by decide) rfl rfl (Nat.le_of_ble_eq_true rfl) dX2_anHour_46 ?_
      refine g_iinc (lc' := [some _, some _]) hX dX2_anHour_49 (by decide) rfl (congrArg _ k_1) rfl rfl ?_
      refine g_goto (tgt := 36) hX dX2_anHour_52 (by decide) ?_
      exact g_weak (lc' := [some _, some _]) ⟨rfl, rfl, trivial⟩ (ih _ _ h)
set_option maxRecDepth 100000 in
set_option maxHeartbeats 4000000 in
theorem t_X2_anHour_2 {l : Launch} {D : DT} {X : XT} {o : Nat} {μ' : Mem} (hX : Cx l D true X 6 RX2 cX2_anHour 2 none) (ho : kd true o = 2) : ∀ (n : Nat) (v1 : Int32) (μ : Mem), f_X2_anHour_2 o n v1 μ = some μ' → G l D true X 2 none μ' 2 [some (.ref (D.1 o)), some (.int v1)] [] μ := by
  intro n
  induction n with
  | zero => intro v1 μ h; exact absurd h (by simp [f_X2_anHour_2])
  | succ n ih =>
    intro v1 μ h
    rw [f_X2_anHour_2] at h
    refine g_iload_n hX dX2_anHour_2 rfl rfl ?_
    refine g_aload_n hX dX2_anHour_3 rfl rfl ?_
    refine g_geti hX ho fg_2_10 tf_2_10 w_172 dX2_anHour_4 ?_
    refine g_icmp_ge (tgt := 34) hX dX2_anHour_7 (by decide) (fun q1 => ?_) (fun q1 => ?_)
    · rw [if_pos q1] at h
      refine g_iconst hX dX2_anHour_34 k_0 ?_
      refine g_istore_n (lc' := [some _, some _]) hX dX2_anHour_35 rfl (by decide) rfl rfl ?_
      exact g_weak (lc' := [some _, some _]) ⟨rfl, rfl, trivial⟩ (t_X2_anHour_36 hX ho 2000 _ _ h)
    · rw [if_neg q1] at h
      refine g_aload_n hX dX2_anHour_10 rfl rfl ?_
      refine g_iload_n hX dX2_anHour_11 rfl rfl ?_
      obtain ⟨r2, μ3, hr2, h⟩ := bd2_some h
      refine g_callVi hX (c_X2_load ho _ hr2) mv_X2_load wm_698 ho rfl (by decide) (by decide) rfl rfl (Nat.le_of_ble_eq_true rfl) dX2_anHour_12 ?_
      refine g_aload_n hX dX2_anHour_15 rfl rfl ?_
      refine g_iload_n hX dX2_anHour_16 rfl rfl ?_
      obtain ⟨r4, hr4, h⟩ := bd_some h
      refine g_callVi hX (c_X2_room ho _ hr4) mv_X2_room wm_699 ho rfl (by decide) (by decide) rfl rfl (Nat.le_of_ble_eq_true rfl) dX2_anHour_17 ?_
      refine g_icmp_le (tgt := 28) hX dX2_anHour_20 (by decide) (fun q5 => ?_) (fun q5 => ?_)
      · rw [if_pos q5] at h
        refine g_iinc (lc' := [some _, some _]) hX dX2_anHour_28 (by decide) rfl (congrArg _ k_1) rfl rfl ?_
        refine g_goto (tgt := 2) hX dX2_anHour_31 (by decide) ?_
        exact g_weak (lc' := [some _, some _]) ⟨rfl, rfl, trivial⟩ (ih _ _ h)
      · rw [if_neg q5] at h
        refine g_aload_n hX dX2_anHour_23 rfl rfl ?_
        refine g_iload_n hX dX2_anHour_24 rfl rfl ?_
        obtain ⟨μ6, hμ6, h⟩ := bd_some h
        refine g_callVv hX (c_X2_letGo ho _ hμ6) mv_X2_letGo wm_700 ho rfl (by decide) (by decide) rfl rfl (Nat.le_of_ble_eq_true rfl) dX2_anHour_25 ?_
        refine g_iinc (lc' := [some _, some _]) hX dX2_anHour_28 (by decide) rfl (congrArg _ k_1) rfl rfl ?_
        refine g_goto (tgt := 2) hX dX2_anHour_31 (by decide) ?_
        exact g_weak (lc' := [some _, some _]) ⟨rfl, rfl, trivial⟩ (ih _ _ h)
set_option maxRecDepth 100000 in
set_option maxHeartbeats 4000000 in
theorem c_X2_anHour {l : Launch} {D : DT} {o : Nat} {μ : Mem} {μ' : Mem} (ho : kd true o = 2) (h : f_X2_anHour o μ = some μ') : Ct l D true 6 yX2_anHour cX2_anHour 2 none [.ref (D.1 o)] μ none μ' := by
  refine Ct.of (own := RX2) (lc0 := [some (.ref (D.1 o)), none]) pn_X2 rfl (Nat.le_of_ble_eq_true rfl) rfl mv_X2_anHour.2.2.2.1 (fun X hX => ?_)
  unfold f_X2_anHour at h
  refine g_iconst hX dX2_anHour_0 k_0 ?_
  refine g_istore_n (lc' := [some _, some _]) hX dX2_anHour_1 rfl (by decide) rfl rfl ?_
  exact g_weak (lc' := [some _, some _]) ⟨rfl, rfl, trivial⟩ (t_X2_anHour_2 hX ho 2000 _ _ h)
set_option maxRecDepth 100000 in
set_option maxHeartbeats 4000000 in
theorem t_X2_further_5 {l : Launch} {D : DT} {X : XT} {o : Nat} {μ : Mem} {r : Int32} (hX : Cx l D true X 1 RX2 cX2_further 6 (some FieldType.int)) (ho : kd true o = 2) : ∀ (n : Nat) (v1 : Int32) (v2 : Int32) (v3 : Int32) (v4 : Int32), f_X2_further_5 o μ n v1 v2 v3 v4 = some r → G l D true X 6 (some (.int r)) μ 5 [some (.ref (D.1 o)), some (.int v1), some (.int v2), some (.int v3), some (.int v4), none] [] μ := by
  intro n
  induction n with
  | zero => intro v1 v2 v3 v4 h; exact absurd h (by simp [f_X2_further_5])
  | succ n ih =>
    intro v1 v2 v3 v4 h
    rw [f_X2_further_5] at h
    refine g_iload hX dX2_further_5 rfl ?_
    refine g_aload_n hX dX2_further_7 rfl rfl ?_
    refine g_geti hX ho fg_2_11 tf_2_11 w_175 dX2_further_8 ?_
    refine g_icmp_ge (tgt := 62) hX dX2_further_11 (by decide) (fun q1 => ?_) (fun q1 => ?_)
    · rw [if_pos q1] at h
      refine g_iload_n hX dX2_further_62 rfl rfl ?_
      obtain rfl := Option.some.inj h
      exact g_iret hX rfl rfl dX2_further_63
    · rw [if_neg q1] at h
      refine g_iconst hX dX2_further_14 k_1 ?_
      refine g_aload_n hX dX2_further_15 rfl rfl ?_
      refine g_getr hX ho fg_2_4 tf_2_4 w_155 (wo_2_4 ho) dX2_further_16 ?_
      refine g_iload hX dX2_further_19 rfl ?_
      obtain ⟨z2, h⟩ := ck_some h
      refine g_iald hX (wk_2_4 ho).1 (wk_2_4 ho).2 z2 dX2_further_21 ?_
      refine g_ishl hX dX2_further_22 ?_
      refine g_iconst hX dX2_further_23 k_1 ?_
      refine g_aload_n hX dX2_further_24 rfl rfl ?_
      refine g_getr hX ho fg_2_5 tf_2_5 w_157 (wo_2_5 ho) dX2_further_25 ?_
      refine g_iload hX dX2_further_28 rfl ?_
      obtain ⟨z3, h⟩ := ck_some h
      refine g_iald hX (wk_2_5 ho).1 (wk_2_5 ho).2 z3 dX2_further_30 ?_
      refine g_ishl hX dX2_further_31 ?_
      refine g_ior hX dX2_further_32 ?_
      obtain ⟨x4, hx4, h⟩ := nm_some h
      refine g_istore' (lc' := [some _, some _, some _, some _, some _, some _]) hX hx4 dX2_further_33 (by decide) rfl rfl ?_
      refine g_iload_n hX dX2_further_35 rfl rfl ?_
      refine g_iconst hX dX2_further_36 k_1 ?_
      refine g_iload hX dX2_further_37 rfl ?_
      refine g_ishl hX dX2_further_39 ?_
      refine g_iand hX dX2_further_40 ?_
      refine g_if_eq (tgt := 56) hX dX2_further_41 (by decide) (fun q5 => ?_) (fun q5 => ?_)
      · rw [if_pos q5] at h
        refine g_iinc (lc' := [some _, some _, some _, some _, some _, some _]) hX dX2_further_56 (by decide) rfl (congrArg _ k_1) rfl rfl ?_
        refine g_goto (tgt := 5) hX dX2_further_59 (by decide) ?_
        exact g_weak (lc' := [some _, some _, some _, some _, some _, none]) ⟨rfl, rfl, rfl, rfl, rfl, trivial⟩ (ih _ _ _ _ h)
      · rw [if_neg q5] at h
        refine g_iload_n hX dX2_further_44 rfl rfl ?_
        refine g_iload hX dX2_further_45 rfl ?_
        refine g_iand hX dX2_further_47 ?_
        refine g_if_eq (tgt := 56) hX dX2_further_48 (by decide) (fun q6 => ?_) (fun q6 => ?_)
        · rw [if_pos q6] at h
          refine g_iinc (lc' := [some _, some _, some _, some _, some _, some _]) hX dX2_further_56 (by decide) rfl (congrArg _ k_1) rfl rfl ?_
          refine g_goto (tgt := 5) hX dX2_further_59 (by decide) ?_
          exact g_weak (lc' := [some _, some _, some _, some _, some _, none]) ⟨rfl, rfl, rfl, rfl, rfl, trivial⟩ (ih _ _ _ _ h)
        · rw [if_neg q6] at h
          refine g_iload_n hX dX2_further_51 rfl rfl ?_
          refine g_iload hX dX2_further_52 rfl ?_
          refine g_ior hX dX2_further_54 ?_
          refine g_istore_n (lc' := [some _, some _, some _, some _, some _, some _]) hX dX2_further_55 rfl (by decide) rfl rfl ?_
          refine g_iinc (lc' := [some _, some _, some _, some _, some _, some _]) hX dX2_further_56 (by decide) rfl (congrArg _ k_1) rfl rfl ?_
          refine g_goto (tgt := 5) hX dX2_further_59 (by decide) ?_
          exact g_weak (lc' := [some _, some _, some _, some _, some _, none]) ⟨rfl, rfl, rfl, rfl, rfl, trivial⟩ (ih _ _ _ _ h)
set_option maxRecDepth 100000 in
set_option maxHeartbeats 4000000 in
theorem c_X2_further {l : Launch} {D : DT} {o : Nat} {μ : Mem} {r : Int32} (ho : kd true o = 2) (v1 : Int32) (v2 : Int32) (h : f_X2_further o v1 v2 μ = some r) : Ct l D true 1 yX2_further cX2_further 6 (some FieldType.int) [.ref (D.1 o), .int v1, .int v2] μ (some (.int r)) μ := by
  refine Ct.of (own := RX2) (lc0 := [some (.ref (D.1 o)), some (.int v1), some (.int v2), none, none, none]) pn_X2 rfl (Nat.le_of_ble_eq_true rfl) rfl mv_X2_further.2.2.2.1 (fun X hX => ?_)
  unfold f_X2_further at h
  refine g_iload_n hX dX2_further_0 rfl rfl ?_
  refine g_istore_n (lc' := [some _, some _, some _, some _, none, none]) hX dX2_further_1 rfl (by decide) rfl rfl ?_
  refine g_iconst hX dX2_further_2 k_0 ?_
  refine g_istore (lc' := [some _, some _, some _, some _, some _, none]) hX dX2_further_3 (by decide) rfl rfl ?_
  exact g_weak (lc' := [some _, some _, some _, some _, some _, none]) ⟨rfl, rfl, rfl, rfl, rfl, trivial⟩ (t_X2_further_5 hX ho 2000 _ _ _ _ h)
set_option maxRecDepth 100000 in
set_option maxHeartbeats 4000000 in
theorem t_X2_openGates_4 {l : Launch} {D : DT} {X : XT} {o : Nat} {μ : Mem} {r : Int32} (hX : Cx l D true X 1 RX2 cX2_openGates 3 (some FieldType.int)) (ho : kd true o = 2) : ∀ (n : Nat) (v1 : Int32) (v2 : Int32), f_X2_openGates_4 o μ n v1 v2 = some r → G l D true X 3 (some (.int r)) μ 4 [some (.ref (D.1 o)), some (.int v1), some (.int v2)] [] μ := by
  intro n
  induction n with
  | zero => intro v1 v2 h; exact absurd h (by simp [f_X2_openGates_4])
  | succ n ih =>
    intro v1 v2 h
    rw [f_X2_openGates_4] at h
    refine g_iload_n hX dX2_openGates_4 rfl rfl ?_
    refine g_aload_n hX dX2_openGates_5 rfl rfl ?_
    refine g_geti hX ho fg_2_11 tf_2_11 w_175 dX2_openGates_6 ?_
    refine g_icmp_ge (tgt := 34) hX dX2_openGates_9 (by decide) (fun q1 => ?_) (fun q1 => ?_)
    · rw [if_pos q1] at h
      refine g_iload_n hX dX2_openGates_34 rfl rfl ?_
      obtain rfl := Option.some.inj h
      exact g_iret hX rfl rfl dX2_openGates_35
    · rw [if_neg q1] at h
      refine g_aload_n hX dX2_openGates_12 rfl rfl ?_
      refine g_getr hX ho fg_2_7 tf_2_7 w_161 (wo_2_7 ho) dX2_openGates_13 ?_
      refine g_iload_n hX dX2_openGates_16 rfl rfl ?_
      obtain ⟨z2, h⟩ := ck_some h
      refine g_iald hX (wk_2_7 ho).1 (wk_2_7 ho).2 z2 dX2_openGates_17 ?_
      refine g_iconst hX dX2_openGates_18 k_m1 ?_
      refine g_icmp_ne (tgt := 28) hX dX2_openGates_19 (by decide) (fun q3 => ?_) (fun q3 => ?_)
      · rw [if_neg q3] at h
        refine g_iinc (lc' := [some _, some _, some _]) hX dX2_openGates_28 (by decide) rfl (congrArg _ k_1) rfl rfl ?_
        refine g_goto (tgt := 4) hX dX2_openGates_31 (by decide) ?_
        exact g_weak (lc' := [some _, some _, some _]) ⟨rfl, rfl, rfl, trivial⟩ (ih _ _ h)
      · rw [if_pos q3] at h
        refine g_iload_n hX dX2_openGates_22 rfl rfl ?_
        refine g_iconst hX dX2_openGates_23 k_1 ?_
        refine g_iload_n hX dX2_openGates_24 rfl rfl ?_
        refine g_ishl hX dX2_openGates_25 ?_
        refine g_ior hX dX2_openGates_26 ?_
        refine g_istore_n (lc' := [some _, some _, some _]) hX dX2_openGates_27 rfl (by decide) rfl rfl ?_
        refine g_iinc (lc' := [some _, some _, some _]) hX dX2_openGates_28 (by decide) rfl (congrArg _ k_1) rfl rfl ?_
        refine g_goto (tgt := 4) hX dX2_openGates_31 (by decide) ?_
        exact g_weak (lc' := [some _, some _, some _]) ⟨rfl, rfl, rfl, trivial⟩ (ih _ _ h)
set_option maxRecDepth 100000 in
set_option maxHeartbeats 4000000 in
theorem c_X2_openGates {l : Launch} {D : DT} {o : Nat} {μ : Mem} {r : Int32} (ho : kd true o = 2) (h : f_X2_openGates o μ = some r) : Ct l D true 1 yX2_openGates cX2_openGates 3 (some FieldType.int) [.ref (D.1 o)] μ (some (.int r)) μ := by
  refine Ct.of (own := RX2) (lc0 := [some (.ref (D.1 o)), none, none]) pn_X2 rfl (Nat.le_of_ble_eq_true rfl) rfl mv_X2_openGates.2.2.2.1 (fun X hX => ?_)
  unfold f_X2_openGates at h
  refine g_iconst hX dX2_openGates_0 k_0 ?_
  refine g_istore_n (lc' := [some _, some _, none]) hX dX2_openGates_1 rfl (by decide) rfl rfl ?_
  refine g_iconst hX dX2_openGates_2 k_0 ?_
  refine g_istore_n (lc' := [some _, some _, some _]) hX dX2_openGates_3 rfl (by decide) rfl rfl ?_
  exact g_weak (lc' := [some _, some _, some _]) ⟨rfl, rfl, rfl, trivial⟩ (t_X2_openGates_4 hX ho 2000 _ _ h)
set_option maxRecDepth 100000 in
set_option maxHeartbeats 4000000 in
theorem t_X2_reached_7 {l : Launch} {D : DT} {X : XT} {o : Nat} {μ : Mem} {r : Int32} (hX : Cx l D true X 2 RX2 cX2_reached 6 (some FieldType.int)) (ho : kd true o = 2) : ∀ (n : Nat) (v2 : Int32) (v3 : Int32) (v4 : Int32), f_X2_reached_7 o μ n v2 v3 v4 = some r → G l D true X 6 (some (.int r)) μ 7 [some (.ref (D.1 o)), none, some (.int v2), some (.int v3), some (.int v4), none] [] μ := by
  intro n
  induction n with
  | zero => intro v2 v3 v4 h; exact absurd h (by simp [f_X2_reached_7])
  | succ n ih =>
    intro v2 v3 v4 h
    rw [f_X2_reached_7] at h
    refine g_iload hX dX2_reached_7 rfl ?_
    refine g_bipush hX dX2_reached_9 kb_7 ?_
    refine g_icmp_ge (tgt := 39) hX dX2_reached_11 (by decide) (fun q1 => ?_) (fun q1 => ?_)
    · rw [if_pos q1] at h
      refine g_iload_n hX dX2_reached_39 rfl rfl ?_
      obtain rfl := Option.some.inj h
      exact g_iret hX rfl rfl dX2_reached_40
    · rw [if_neg q1] at h
      refine g_aload_n hX dX2_reached_14 rfl rfl ?_
      refine g_iload_n hX dX2_reached_15 rfl rfl ?_
      refine g_iload_n hX dX2_reached_16 rfl rfl ?_
      obtain ⟨r2, hr2, h⟩ := bd_some h
      refine g_callVi hX (c_X2_further ho _ _ hr2) mv_X2_further wm_785 ho rfl (by decide) (by decide) rfl rfl (Nat.le_of_ble_eq_true rfl) dX2_reached_17 ?_
      refine g_istore (lc' := [some _, none, some _, some _, some _, some _]) hX dX2_reached_20 (by decide) rfl rfl ?_
      refine g_iload hX dX2_reached_22 rfl ?_
      refine g_iload_n hX dX2_reached_24 rfl rfl ?_
      refine g_icmp_ne (tgt := 30) hX dX2_reached_25 (by decide) (fun q3 => ?_) (fun q3 => ?_)
      · rw [if_neg q3] at h
        refine g_iload hX dX2_reached_30 rfl ?_
        refine g_istore_n (lc' := [some _, none, some _, some _, some _, some _]) hX dX2_reached_32 rfl (by decide) rfl rfl ?_
        refine g_iinc (lc' := [some _, none, some _, some _, some _, some _]) hX dX2_reached_33 (by decide) rfl (congrArg _ k_1) rfl rfl ?_
        refine g_goto (tgt := 7) hX dX2_reached_36 (by decide) ?_
        exact g_weak (lc' := [some _, none, some _, some _, some _, none]) ⟨rfl, rfl, rfl, rfl, trivial⟩ (ih _ _ _ h)
      · rw [if_pos q3] at h
        refine g_iload_n hX dX2_reached_28 rfl rfl ?_
        obtain rfl := Option.some.inj h
        exact g_iret hX rfl rfl dX2_reached_29
set_option maxRecDepth 100000 in
set_option maxHeartbeats 4000000 in
theorem c_X2_reached {l : Launch} {D : DT} {o : Nat} {μ : Mem} {r : Int32} (ho : kd true o = 2) (v1 : Int32) (v2 : Int32) (h : f_X2_reached o v1 v2 μ = some r) : Ct l D true 2 yX2_reached cX2_reached 6 (some FieldType.int) [.ref (D.1 o), .int v1, .int v2] μ (some (.int r)) μ := by
  refine Ct.of (own := RX2) (lc0 := [some (.ref (D.1 o)), some (.int v1), some (.int v2), none, none, none]) pn_X2 rfl (Nat.le_of_ble_eq_true rfl) rfl mv_X2_reached.2.2.2.1 (fun X hX => ?_)
  unfold f_X2_reached at h
  refine g_iconst hX dX2_reached_0 k_1 ?_
  refine g_iload_n hX dX2_reached_1 rfl rfl ?_
  refine g_ishl hX dX2_reached_2 ?_
  refine g_istore_n (lc' := [some _, some _, some _, some _, none, none]) hX dX2_reached_3 rfl (by decide) rfl rfl ?_
  refine g_iconst hX dX2_reached_4 k_1 ?_
  refine g_istore (lc' := [some _, some _, some _, some _, some _, none]) hX dX2_reached_5 (by decide) rfl rfl ?_
  exact g_weak (lc' := [some _, none, some _, some _, some _, none]) ⟨rfl, rfl, rfl, rfl, trivial⟩ (t_X2_reached_7 hX ho 2000 _ _ _ h)
set_option maxRecDepth 100000 in
set_option maxHeartbeats 4000000 in
theorem t_X2_gatesThatMatter_18 {l : Launch} {D : DT} {X : XT} {o : Nat} {μ : Mem} {r : Int32} (hX : Cx l D true X 3 RX2 cX2_gatesThatMatter 6 (some FieldType.int)) (ho : kd true o = 2) : ∀ (n : Nat) (v1 : Int32) (v2 : Int32) (v3 : Int32) (v4 : Int32) (v5 : Int32), f_X2_gatesThatMatter_18 o μ n v1 v2 v3 v4 v5 = some r → G l D true X 6 (some (.int r)) μ 18 [some (.ref (D.1 o)), some (.int v1), some (.int v2), some (.int v3), some (.int v4), some (.int v5)] [] μ := by
  intro n
  induction n with
  | zero => intro v1 v2 v3 v4 v5 h; exact absurd h (by simp [f_X2_gatesThatMatter_18])
  | succ n ih =>
    intro v1 v2 v3 v4 v5 h
    rw [f_X2_gatesThatMatter_18] at h
    refine g_iload hX dX2_gatesThatMatter_18 rfl ?_
    refine g_aload_n hX dX2_gatesThatMatter_20 rfl rfl ?_
    refine g_geti hX ho fg_2_11 tf_2_11 w_175 dX2_gatesThatMatter_21 ?_
    refine g_icmp_ge (tgt := 51) hX dX2_gatesThatMatter_24 (by decide) (fun q1 => ?_) (fun q1 => ?_)
    · rw [if_pos q1] at h
      refine g_iload hX dX2_gatesThatMatter_51 rfl ?_
      obtain rfl := Option.some.inj h
      exact g_iret hX rfl rfl dX2_gatesThatMatter_53
    · rw [if_neg q1] at h
      refine g_aload_n hX dX2_gatesThatMatter_27 rfl rfl ?_
      refine g_iload_n hX dX2_gatesThatMatter_28 rfl rfl ?_
      refine g_iload_n hX dX2_gatesThatMatter_29 rfl rfl ?_
      refine g_iconst hX dX2_gatesThatMatter_30 k_1 ?_
      refine g_iload hX dX2_gatesThatMatter_31 rfl ?_
      refine g_ishl hX dX2_gatesThatMatter_33 ?_
      refine g_ior hX dX2_gatesThatMatter_34 ?_
      obtain ⟨r2, hr2, h⟩ := bd_some h
      refine g_callVi hX (c_X2_reached ho _ _ hr2) mv_X2_reached wm_803 ho rfl (by decide) (by decide) rfl rfl (Nat.le_of_ble_eq_true rfl) dX2_gatesThatMatter_35 ?_
      refine g_iload_n hX dX2_gatesThatMatter_38 rfl rfl ?_
      refine g_icmp_eq (tgt := 45) hX dX2_gatesThatMatter_39 (by decide) (fun q3 => ?_) (fun q3 => ?_)
      · rw [if_pos q3] at h
        refine g_iinc (lc' := [some _, some _, some _, some _, some _, some _]) hX dX2_gatesThatMatter_45 (by decide) rfl (congrArg _ k_1) rfl rfl ?_
        refine g_goto (tgt := 18) hX dX2_gatesThatMatter_48 (by decide) ?_
        exact g_weak (lc' := [some _, some _, some _, some _, some _, some _]) ⟨rfl, rfl, rfl, rfl, rfl, rfl, trivial⟩ (ih _ _ _ _ _ h)
      · rw [if_neg q3] at h
        refine g_iinc (lc' := [some _, some _, some _, some _, some _, some _]) hX dX2_gatesThatMatter_42 (by decide) rfl (congrArg _ k_1) rfl rfl ?_
        refine g_iinc (lc' := [some _, some _, some _, some _, some _, some _]) hX dX2_gatesThatMatter_45 (by decide) rfl (congrArg _ k_1) rfl rfl ?_
        refine g_goto (tgt := 18) hX dX2_gatesThatMatter_48 (by decide) ?_
        exact g_weak (lc' := [some _, some _, some _, some _, some _, some _]) ⟨rfl, rfl, rfl, rfl, rfl, rfl, trivial⟩ (ih _ _ _ _ _ h)
set_option maxRecDepth 100000 in
set_option maxHeartbeats 4000000 in
theorem c_X2_gatesThatMatter {l : Launch} {D : DT} {o : Nat} {μ : Mem} {r : Int32} (ho : kd true o = 2) (v1 : Int32) (h : f_X2_gatesThatMatter o v1 μ = some r) : Ct l D true 3 yX2_gatesThatMatter cX2_gatesThatMatter 6 (some FieldType.int) [.ref (D.1 o), .int v1] μ (some (.int r)) μ := by
  refine Ct.of (own := RX2) (lc0 := [some (.ref (D.1 o)), some (.int v1), none, none, none, none]) pn_X2 rfl (Nat.le_of_ble_eq_true rfl) rfl mv_X2_gatesThatMatter.2.2.2.1 (fun X hX => ?_)
  unfold f_X2_gatesThatMatter at h
  refine g_aload_n hX dX2_gatesThatMatter_0 rfl rfl ?_
  obtain ⟨r1, hr1, h⟩ := bd_some h
  refine g_callVi hX (c_X2_openGates ho hr1) mv_X2_openGates wm_821 ho rfl (by decide) (by decide) rfl rfl (Nat.le_of_ble_eq_true rfl) dX2_gatesThatMatter_1 ?_
  refine g_istore_n (lc' := [some _, some _, some _, none, none, none]) hX dX2_gatesThatMatter_4 rfl (by decide) rfl rfl ?_
  refine g_aload_n hX dX2_gatesThatMatter_5 rfl rfl ?_
  refine g_iload_n hX dX2_gatesThatMatter_6 rfl rfl ?_
  refine g_iload_n hX dX2_gatesThatMatter_7 rfl rfl ?_
  obtain ⟨r2, hr2, h⟩ := bd_some h
  refine g_callVi hX (c_X2_reached ho _ _ hr2) mv_X2_reached wm_803 ho rfl (by decide) (by decide) rfl rfl (Nat.le_of_ble_eq_true rfl) dX2_gatesThatMatter_8 ?_
  refine g_istore_n (lc' := [some _, some _, some _, some _, none, none]) hX dX2_gatesThatMatter_11 rfl (by decide) rfl rfl ?_
  refine g_iconst hX dX2_gatesThatMatter_12 k_0 ?_
  refine g_istore (lc' := [some _, some _, some _, some _, some _, none]) hX dX2_gatesThatMatter_13 (by decide) rfl rfl ?_
  refine g_iconst hX dX2_gatesThatMatter_15 k_0 ?_
  refine g_istore (lc' := [some _, some _, some _, some _, some _, some _]) hX dX2_gatesThatMatter_16 (by decide) rfl rfl ?_
  exact g_weak (lc' := [some _, some _, some _, some _, some _, some _]) ⟨rfl, rfl, rfl, rfl, rfl, rfl, trivial⟩ (t_X2_gatesThatMatter_18 hX ho 2000 _ _ _ _ _ h)
set_option maxRecDepth 100000 in
set_option maxHeartbeats 4000000 in
theorem t_X2_handOver_5 {l : Launch} {D : DT} {X : XT} {o : Nat} {r : Int32} {μ' : Mem} (hX : Cx l D true X 1 RX2 cX2_handOver 5 (some FieldType.int)) (ho : kd true o = 2) : ∀ (n : Nat) (v1 : Int32) (v2 : Int32) (v3 : Int32) (v4 : Int32) (μ : Mem), f_X2_handOver_5 o n v1 v2 v3 v4 μ = some (r, μ') → G l D true X 5 (some (.int r)) μ' 5 [some (.ref (D.1 o)), some (.int v1), some (.int v2), some (.int v3), some (.int v4)] [] μ := by
  intro n
  induction n with
  | zero => intro v1 v2 v3 v4 μ h; exact absurd h (by simp [f_X2_handOver_5])
  | succ n ih =>
    intro v1 v2 v3 v4 μ h
    rw [f_X2_handOver_5] at h
    refine g_iload hX dX2_handOver_5 rfl ?_
    refine g_aload_n hX dX2_handOver_7 rfl rfl ?_
    refine g_geti hX ho fg_2_11 tf_2_11 w_175 dX2_handOver_8 ?_
    refine g_icmp_ge (tgt := 42) hX dX2_handOver_11 (by decide) (fun q1 => ?_) (fun q1 => ?_)
    · rw [if_pos q1] at h
      refine g_iload_n hX dX2_handOver_42 rfl rfl ?_
      obtain ⟨rfl, rfl⟩ := pair_inj h
      exact g_iret hX rfl rfl dX2_handOver_43
    · rw [if_neg q1] at h
      refine g_aload_n hX dX2_handOver_14 rfl rfl ?_
      refine g_getr hX ho fg_2_7 tf_2_7 w_161 (wo_2_7 ho) dX2_handOver_15 ?_
      refine g_iload hX dX2_handOver_18 rfl ?_
      obtain ⟨z2, h⟩ := ck_some h
      refine g_iald hX (wk_2_7 ho).1 (wk_2_7 ho).2 z2 dX2_handOver_20 ?_
      refine g_iload_n hX dX2_handOver_21 rfl rfl ?_
      refine g_icmp_ne (tgt := 36) hX dX2_handOver_22 (by decide) (fun q3 => ?_) (fun q3 => ?_)
      · rw [if_neg q3] at h
        refine g_iinc (lc' := [some _, some _, some _, some _, some _]) hX dX2_handOver_36 (by decide) rfl (congrArg _ k_1) rfl rfl ?_
        refine g_goto (tgt := 5) hX dX2_handOver_39 (by decide) ?_
        exact g_weak (lc' := [some _, some _, some _, some _, some _]) ⟨rfl, rfl, rfl, rfl, rfl, trivial⟩ (ih _ _ _ _ _ h)
      · rw [if_pos q3] at h
        refine g_aload_n hX dX2_handOver_25 rfl rfl ?_
        refine g_getr hX ho fg_2_7 tf_2_7 w_161 (wo_2_7 ho) dX2_handOver_26 ?_
        refine g_iload hX dX2_handOver_29 rfl ?_
        refine g_iload_n hX dX2_handOver_31 rfl rfl ?_
        obtain ⟨z5, h⟩ := ck_some h
        obtain ⟨μ4, hμ4, h⟩ := wr_some h
        refine g_iastM hX (wk_2_7 ho).1 (wk_2_7 ho).2 z5 dX2_handOver_32 hμ4 ?_
        refine g_iinc (lc' := [some _, some _, some _, some _, some _]) hX dX2_handOver_33 (by decide) rfl (congrArg _ k_1) rfl rfl ?_
        refine g_iinc (lc' := [some _, some _, some _, some _, some _]) hX dX2_handOver_36 (by decide) rfl (congrArg _ k_1) rfl rfl ?_
        refine g_goto (tgt := 5) hX dX2_handOver_39 (by decide) ?_
        exact g_weak (lc' := [some _, some _, some _, some _, some _]) ⟨rfl, rfl, rfl, rfl, rfl, trivial⟩ (ih _ _ _ _ _ h)
set_option maxRecDepth 100000 in
set_option maxHeartbeats 4000000 in
theorem c_X2_handOver {l : Launch} {D : DT} {o : Nat} {μ : Mem} {r : Int32} {μ' : Mem} (ho : kd true o = 2) (v1 : Int32) (v2 : Int32) (h : f_X2_handOver o v1 v2 μ = some (r, μ')) : Ct l D true 1 yX2_handOver cX2_handOver 5 (some FieldType.int) [.ref (D.1 o), .int v1, .int v2] μ (some (.int r)) μ' := by
  refine Ct.of (own := RX2) (lc0 := [some (.ref (D.1 o)), some (.int v1), some (.int v2), none, none]) pn_X2 rfl (Nat.le_of_ble_eq_true rfl) rfl mv_X2_handOver.2.2.2.1 (fun X hX => ?_)
  unfold f_X2_handOver at h
  refine g_iconst hX dX2_handOver_0 k_0 ?_
  refine g_istore_n (lc' := [some _, some _, some _, some _, none]) hX dX2_handOver_1 rfl (by decide) rfl rfl ?_
  refine g_iconst hX dX2_handOver_2 k_0 ?_
  refine g_istore (lc' := [some _, some _, some _, some _, some _]) hX dX2_handOver_3 (by decide) rfl rfl ?_
  exact g_weak (lc' := [some _, some _, some _, some _, some _]) ⟨rfl, rfl, rfl, rfl, rfl, trivial⟩ (t_X2_handOver_5 hX ho 2000 _ _ _ _ _ h)
set_option maxRecDepth 100000 in
set_option maxHeartbeats 4000000 in
theorem c_X2_isHolder {l : Launch} {D : DT} {o : Nat} {μ : Mem} (ho : kd true o = 2) (v1 : Int32) : Ct l D true 2 yX2_isHolder cX2_isHolder 2 (some FieldType.boolean) [.ref (D.1 o), .int v1] μ (some (.int (f_X2_isHolder o v1 μ))) μ := by
  obtain ⟨r, h⟩ : ∃ r, f_X2_isHolder o v1 μ = r := ⟨_, rfl⟩
  rw [h]
  refine Ct.of (own := RX2) (lc0 := [some (.ref (D.1 o)), some (.int v1)]) pn_X2 rfl (Nat.le_of_ble_eq_true rfl) rfl mv_X2_isHolder.2.2.2.1 (fun X hX => ?_)
  unfold f_X2_isHolder at h
  refine g_iload_n hX dX2_isHolder_0 rfl rfl ?_
  refine g_iconst hX dX2_isHolder_1 k_m1 ?_
  refine g_icmp_eq (tgt := 13) hX dX2_isHolder_2 (by decide) (fun q1 => ?_) (fun q1 => ?_)
  · rw [if_pos q1] at h
    refine g_iconst hX dX2_isHolder_13 k_1 ?_
    refine g_goto (tgt := 18) hX dX2_isHolder_14 (by decide) ?_
    subst h
    exact g_iret hX rfl rfl dX2_isHolder_18
  · rw [if_neg q1] at h
    refine g_aload_n hX dX2_isHolder_5 rfl rfl ?_
    refine g_iload_n hX dX2_isHolder_6 rfl rfl ?_
    refine g_callVi hX (c_X2_isOne ho v1) mv_X2_isOne wm_415 ho rfl (by decide) (by decide) rfl rfl (Nat.le_of_ble_eq_true rfl) dX2_isHolder_7 ?_
    refine g_if_eq (tgt := 17) hX dX2_isHolder_10 (by decide) (fun q2 => ?_) (fun q2 => ?_)
    · rw [if_pos q2] at h
      refine g_iconst hX dX2_isHolder_17 k_0 ?_
      subst h
      exact g_iret hX rfl rfl dX2_isHolder_18
    · rw [if_neg q2] at h
      refine g_iconst hX dX2_isHolder_13 k_1 ?_
      refine g_goto (tgt := 18) hX dX2_isHolder_14 (by decide) ?_
      subst h
      exact g_iret hX rfl rfl dX2_isHolder_18
set_option maxRecDepth 100000 in
set_option maxHeartbeats 4000000 in
theorem t_X2_leastCut_39 {l : Launch} {D : DT} {X : XT} {o : Nat} {μ : Mem} {k15 : Int32 → Int32 → Int32 → Int32 → Int32 → Option Int32} {r : Int32} (hX : Cx l D true X 3 RX2 cX2_leastCut 7 (some FieldType.int)) (ho : kd true o = 2) (hk15 : ∀ (v1 : Int32) (v2 : Int32) (v3 : Int32) (v4 : Int32) (v5 : Int32), k15 v1 v2 v3 v4 v5 = some r → G l D true X 7 (some (.int r)) μ 15 [some (.ref (D.1 o)), some (.int v1), some (.int v2), some (.int v3), some (.int v4), some (.int v5), none] [] μ) : ∀ (v1 : Int32) (v2 : Int32) (v3 : Int32) (v4 : Int32) (v5 : Int32) (s0 : Int32), f_X2_leastCut_39 k15 o μ v1 v2 v3 v4 v5 s0 = some r → G l D true X 7 (some (.int r)) μ 39 [some (.ref (D.1 o)), some (.int v1), some (.int v2), some (.int v3), some (.int v4), some (.int v5), none] [.int s0] μ := by
  intro v1 v2 v3 v4 v5 s0 h
  unfold f_X2_leastCut_39 at h
  refine g_istore (lc' := [some _, some _, some _, some _, some _, some _, some _]) hX dX2_leastCut_39 (by decide) rfl rfl ?_
  refine g_iload hX dX2_leastCut_41 rfl ?_
  refine g_if_eq (tgt := 68) hX dX2_leastCut_43 (by decide) (fun q1 => ?_) (fun q1 => ?_)
  · rw [if_pos q1] at h
    refine g_iinc (lc' := [some _, some _, some _, some _, some _, some _, some _]) hX dX2_leastCut_68 (by decide) rfl (congrArg _ k_1) rfl rfl ?_
    refine g_goto (tgt := 15) hX dX2_leastCut_71 (by decide) ?_
    exact g_weak (lc' := [some _, some _, some _, some _, some _, some _, none]) ⟨rfl, rfl, rfl, rfl, rfl, rfl, trivial⟩ (hk15 _ _ _ _ _ h)
  · rw [if_neg q1] at h
    refine g_aload_n hX dX2_leastCut_46 rfl rfl ?_
    refine g_iload_n hX dX2_leastCut_47 rfl rfl ?_
    refine g_iload_n hX dX2_leastCut_48 rfl rfl ?_
    refine g_iload hX dX2_leastCut_49 rfl ?_
    refine g_iconst hX dX2_leastCut_51 k_m1 ?_
    refine g_ixor hX dX2_leastCut_52 ?_
    refine g_iand hX dX2_leastCut_53 ?_
    obtain ⟨r2, hr2, h⟩ := bd_some h
    refine g_callVi hX (c_X2_reached ho _ _ hr2) mv_X2_reached wm_803 ho rfl (by decide) (by decide) rfl rfl (Nat.le_of_ble_eq_true rfl) dX2_leastCut_54 ?_
    refine g_iconst hX dX2_leastCut_57 k_1 ?_
    refine g_iload_n hX dX2_leastCut_58 rfl rfl ?_
    refine g_ishl hX dX2_leastCut_59 ?_
    refine g_iand hX dX2_leastCut_60 ?_
    refine g_if_ne (tgt := 68) hX dX2_leastCut_61 (by decide) (fun q3 => ?_) (fun q3 => ?_)
    · rw [if_neg q3] at h
      refine g_iinc (lc' := [some _, some _, some _, some _, some _, some _, some _]) hX dX2_leastCut_68 (by decide) rfl (congrArg _ k_1) rfl rfl ?_
      refine g_goto (tgt := 15) hX dX2_leastCut_71 (by decide) ?_
      exact g_weak (lc' := [some _, some _, some _, some _, some _, some _, none]) ⟨rfl, rfl, rfl, rfl, rfl, rfl, trivial⟩ (hk15 _ _ _ _ _ h)
    · rw [if_pos q3] at h
      refine g_iload hX dX2_leastCut_64 rfl ?_
      refine g_istore (lc' := [some _, some _, some _, some _, some _, some _, some _]) hX dX2_leastCut_66 (by decide) rfl rfl ?_
      refine g_iinc (lc' := [some _, some _, some _, some _, some _, some _, some _]) hX dX2_leastCut_68 (by decide) rfl (congrArg _ k_1) rfl rfl ?_
      refine g_goto (tgt := 15) hX dX2_leastCut_71 (by decide) ?_
      exact g_weak (lc' := [some _, some _, some _, some _, some _, some _, none]) ⟨rfl, rfl, rfl, rfl, rfl, rfl, trivial⟩ (hk15 _ _ _ _ _ h)
set_option maxRecDepth 100000 in
set_option maxHeartbeats 4000000 in
theorem t_X2_leastCut_15 {l : Launch} {D : DT} {X : XT} {o : Nat} {μ : Mem} {r : Int32} (hX : Cx l D true X 3 RX2 cX2_leastCut 7 (some FieldType.int)) (ho : kd true o = 2) : ∀ (n : Nat) (v1 : Int32) (v2 : Int32) (v3 : Int32) (v4 : Int32) (v5 : Int32), f_X2_leastCut_15 o μ n v1 v2 v3 v4 v5 = some r → G l D true X 7 (some (.int r)) μ 15 [some (.ref (D.1 o)), some (.int v1), some (.int v2), some (.int v3), some (.int v4), some (.int v5), none] [] μ := by
  intro n
  induction n with
  | zero => intro v1 v2 v3 v4 v5 h; exact absurd h (by simp [f_X2_leastCut_15])
  | succ n ih =>
    intro v1 v2 v3 v4 v5 h
    rw [f_X2_leastCut_15] at h
    refine g_iload hX dX2_leastCut_15 rfl ?_
    refine g_iload_n hX dX2_leastCut_17 rfl rfl ?_
    refine g_icmp_gt (tgt := 74) hX dX2_leastCut_18 (by decide) (fun q1 => ?_) (fun q1 => ?_)
    · rw [if_pos q1] at h
      refine g_iload hX dX2_leastCut_74 rfl ?_
      obtain rfl := Option.some.inj h
      exact g_iret hX rfl rfl dX2_leastCut_76
    · rw [if_neg q1] at h
      refine g_iload hX dX2_leastCut_21 rfl ?_
      refine g_callSi hX (c_J6_bitCount_0f7a4  v5) mv_J6_bitCount_0f7a4 wm_797 (by decide) rfl rfl (Nat.le_of_ble_eq_true rfl) dX2_leastCut_23 ?_
      refine g_iload hX dX2_leastCut_26 rfl ?_
      refine g_callSi hX (c_J6_bitCount_0f7a4  v4) mv_J6_bitCount_0f7a4 wm_797 (by decide) rfl rfl (Nat.le_of_ble_eq_true rfl) dX2_leastCut_28 ?_
      refine g_icmp_ge (tgt := 38) hX dX2_leastCut_31 (by decide) (fun q2 => ?_) (fun q2 => ?_)
      · rw [if_pos q2] at h
        refine g_iconst hX dX2_leastCut_38 k_0 ?_
        exact g_weak (lc' := [some _, some _, some _, some _, some _, some _, none]) ⟨rfl, rfl, rfl, rfl, rfl, rfl, trivial⟩ (t_X2_leastCut_39 hX ho ih _ _ _ _ _ _ h)
      · rw [if_neg q2] at h
        refine g_iconst hX dX2_leastCut_34 k_1 ?_
        refine g_goto (tgt := 39) hX dX2_leastCut_35 (by decide) ?_
        exact g_weak (lc' := [some _, some _, some _, some _, some _, some _, none]) ⟨rfl, rfl, rfl, rfl, rfl, rfl, trivial⟩ (t_X2_leastCut_39 hX ho ih _ _ _ _ _ _ h)
set_option maxRecDepth 100000 in
set_option maxHeartbeats 4000000 in
theorem c_X2_leastCut {l : Launch} {D : DT} {o : Nat} {μ : Mem} {r : Int32} (ho : kd true o = 2) (v1 : Int32) (v2 : Int32) (h : f_X2_leastCut o v1 v2 μ = some r) : Ct l D true 3 yX2_leastCut cX2_leastCut 7 (some FieldType.int) [.ref (D.1 o), .int v1, .int v2] μ (some (.int r)) μ := by
  refine Ct.of (own := RX2) (lc0 := [some (.ref (D.1 o)), some (.int v1), some (.int v2), none, none, none, none]) pn_X2 rfl (Nat.le_of_ble_eq_true rfl) rfl mv_X2_leastCut.2.2.2.1 (fun X hX => ?_)
  unfold f_X2_leastCut at h
  refine g_iconst hX dX2_leastCut_0 k_1 ?_
  refine g_aload_n hX dX2_leastCut_1 rfl rfl ?_
  refine g_geti hX ho fg_2_11 tf_2_11 w_175 dX2_leastCut_2 ?_
  refine g_ishl hX dX2_leastCut_5 ?_
  refine g_iconst hX dX2_leastCut_6 k_1 ?_
  refine g_isub hX dX2_leastCut_7 ?_
  refine g_istore_n (lc' := [some _, some _, some _, some _, none, none, none]) hX dX2_leastCut_8 rfl (by decide) rfl rfl ?_
  refine g_iload_n hX dX2_leastCut_9 rfl rfl ?_
  refine g_istore (lc' := [some _, some _, some _, some _, some _, none, none]) hX dX2_leastCut_10 (by decide) rfl rfl ?_
  refine g_iconst hX dX2_leastCut_12 k_0 ?_
  refine g_istore (lc' := [some _, some _, some _, some _, some _, some _, none]) hX dX2_leastCut_13 (by decide) rfl rfl ?_
  exact g_weak (lc' := [some _, some _, some _, some _, some _, some _, none]) ⟨rfl, rfl, rfl, rfl, rfl, rfl, trivial⟩ (t_X2_leastCut_15 hX ho 2000 _ _ _ _ _ h)
set_option maxRecDepth 100000 in
set_option maxHeartbeats 4000000 in
theorem t_X2_steps_7 {l : Launch} {D : DT} {X : XT} {o : Nat} {μ : Mem} {r : Int32} (hX : Cx l D true X 2 RX2 cX2_steps 5 (some FieldType.int)) (ho : kd true o = 2) : ∀ (n : Nat) (v2 : Int32) (v3 : Int32) (v4 : Int32), f_X2_steps_7 o μ n v2 v3 v4 = some r → G l D true X 5 (some (.int r)) μ 7 [some (.ref (D.1 o)), none, some (.int v2), some (.int v3), some (.int v4)] [] μ := by
  intro n
  induction n with
  | zero => intro v2 v3 v4 h; exact absurd h (by simp [f_X2_steps_7])
  | succ n ih =>
    intro v2 v3 v4 h
    rw [f_X2_steps_7] at h
    refine g_iload hX dX2_steps_7 rfl ?_
    refine g_bipush hX dX2_steps_9 kb_7 ?_
    refine g_icmp_ge (tgt := 38) hX dX2_steps_11 (by decide) (fun q1 => ?_) (fun q1 => ?_)
    · rw [if_pos q1] at h
      refine g_iconst hX dX2_steps_38 k_m1 ?_
      obtain rfl := Option.some.inj h
      exact g_iret hX rfl rfl dX2_steps_39
    · rw [if_neg q1] at h
      refine g_iload_n hX dX2_steps_14 rfl rfl ?_
      refine g_iconst hX dX2_steps_15 k_1 ?_
      refine g_iload_n hX dX2_steps_16 rfl rfl ?_
      refine g_ishl hX dX2_steps_17 ?_
      refine g_iand hX dX2_steps_18 ?_
      refine g_if_eq (tgt := 25) hX dX2_steps_19 (by decide) (fun q2 => ?_) (fun q2 => ?_)
      · rw [if_pos q2] at h
        refine g_aload_n hX dX2_steps_25 rfl rfl ?_
        refine g_iload_n hX dX2_steps_26 rfl rfl ?_
        refine g_iconst hX dX2_steps_27 k_m1 ?_
        obtain ⟨r3, hr3, h⟩ := bd_some h
        refine g_callVi hX (c_X2_further ho _ _ hr3) mv_X2_further wm_785 ho rfl (by decide) (by decide) rfl rfl (Nat.le_of_ble_eq_true rfl) dX2_steps_28 ?_
        refine g_istore_n (lc' := [some _, none, some _, some _, some _]) hX dX2_steps_31 rfl (by decide) rfl rfl ?_
        refine g_iinc (lc' := [some _, none, some _, some _, some _]) hX dX2_steps_32 (by decide) rfl (congrArg _ k_1) rfl rfl ?_
        refine g_goto (tgt := 7) hX dX2_steps_35 (by decide) ?_
        exact g_weak (lc' := [some _, none, some _, some _, some _]) ⟨rfl, rfl, rfl, rfl, trivial⟩ (ih _ _ _ h)
      · rw [if_neg q2] at h
        refine g_iload hX dX2_steps_22 rfl ?_
        obtain rfl := Option.some.inj h
        exact g_iret hX rfl rfl dX2_steps_24
set_option maxRecDepth 100000 in
set_option maxHeartbeats 4000000 in
theorem c_X2_steps {l : Launch} {D : DT} {o : Nat} {μ : Mem} {r : Int32} (ho : kd true o = 2) (v1 : Int32) (v2 : Int32) (h : f_X2_steps o v1 v2 μ = some r) : Ct l D true 2 yX2_steps cX2_steps 5 (some FieldType.int) [.ref (D.1 o), .int v1, .int v2] μ (some (.int r)) μ := by
  refine Ct.of (own := RX2) (lc0 := [some (.ref (D.1 o)), some (.int v1), some (.int v2), none, none]) pn_X2 rfl (Nat.le_of_ble_eq_true rfl) rfl mv_X2_steps.2.2.2.1 (fun X hX => ?_)
  unfold f_X2_steps at h
  refine g_iconst hX dX2_steps_0 k_1 ?_
  refine g_iload_n hX dX2_steps_1 rfl rfl ?_
  refine g_ishl hX dX2_steps_2 ?_
  refine g_istore_n (lc' := [some _, some _, some _, some _, none]) hX dX2_steps_3 rfl (by decide) rfl rfl ?_
  refine g_iconst hX dX2_steps_4 k_0 ?_
  refine g_istore (lc' := [some _, some _, some _, some _, some _]) hX dX2_steps_5 (by decide) rfl rfl ?_
  exact g_weak (lc' := [some _, none, some _, some _, some _]) ⟨rfl, rfl, rfl, rfl, trivial⟩ (t_X2_steps_7 hX ho 2000 _ _ _ h)
