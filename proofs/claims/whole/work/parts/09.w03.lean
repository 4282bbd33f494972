set_option maxRecDepth 100000 in
set_option maxHeartbeats 4000000 in
theorem t_X3_weighSets_37 {l : Launch} {D : DT} {X : XT} {a1 : Nat} {k10 : Int32 → Int32 → Int32 → Mem → Option Mem} {μ' : Mem} (hX : Cx l D true X 5 RX3 cX3_weighSets 8 none) (ha1 : kd true a1 = 2) (hk10 : ∀ (v2 : Int32) (v3 : Int32) (v4 : Int32) (μ : Mem), k10 v2 v3 v4 μ = some μ' → G l D true X 8 none μ' 10 [some (.ref (D.1 52)), some (.ref (D.1 a1)), some (.int v2), some (.int v3), some (.int v4), none, none, none] [] μ) : ∀ (n : Nat) (v2 : Int32) (v3 : Int32) (v4 : Int32) (v5 : Int32) (v6 : Int32) (v7 : Int32) (μ : Mem), f_X3_weighSets_37 k10 a1 n v2 v3 v4 v5 v6 v7 μ = some μ' → G l D true X 8 none μ' 37 [some (.ref (D.1 52)), some (.ref (D.1 a1)), some (.int v2), some (.int v3), some (.int v4), some (.int v5), some (.int v6), some (.int v7)] [] μ := by
  intro n
  induction n with
  | zero => intro v2 v3 v4 v5 v6 v7 μ h; exact absurd h (by simp [f_X3_weighSets_37])
  | succ n ih =>
    intro v2 v3 v4 v5 v6 v7 μ h
    rw [f_X3_weighSets_37] at h
    refine g_iload hX dX3_weighSets_37 rfl ?_
    refine g_iload hX dX3_weighSets_39 rfl ?_
    refine g_icmp_ge (tgt := 79) hX dX3_weighSets_41 (by decide) (fun q1 => ?_) (fun q1 => ?_)
    · rw [if_pos q1] at h
      refine g_iinc (lc' := [some _, some _, some _, some _, some _, some _, some _, some _]) hX dX3_weighSets_79 (by decide) rfl (congrArg _ k_1) rfl rfl ?_
      refine g_goto (tgt := 10) hX dX3_weighSets_82 (by decide) ?_
      exact g_weak (lc' := [some _, some _, some _, some _, some _, none, none, none]) ⟨rfl, rfl, rfl, rfl, rfl, trivial⟩ (hk10 _ _ _ _ h)
    · rw [if_neg q1] at h
      refine g_iload hX dX3_weighSets_44 rfl ?_
      refine g_iload hX dX3_weighSets_46 rfl ?_
      refine g_ior hX dX3_weighSets_48 ?_
      refine g_iload_n hX dX3_weighSets_49 rfl rfl ?_
      refine g_icmp_ge (tgt := 79) hX dX3_weighSets_50 (by decide) (fun q2 => ?_) (fun q2 => ?_)
      · rw [if_pos q2] at h
        refine g_iinc (lc' := [some _, some _, some _, some _, some _, some _, some _, some _]) hX dX3_weighSets_79 (by decide) rfl (congrArg _ k_1) rfl rfl ?_
        refine g_goto (tgt := 10) hX dX3_weighSets_82 (by decide) ?_
        exact g_weak (lc' := [some _, some _, some _, some _, some _, none, none, none]) ⟨rfl, rfl, rfl, rfl, rfl, trivial⟩ (hk10 _ _ _ _ h)
      · rw [if_neg q2] at h
        refine g_aload_n hX dX3_weighSets_53 rfl rfl ?_
        refine g_getr hX kd_true_52 fg_3_0 tf_3_0 w_296 sr_true_52_0 dX3_weighSets_54 ?_
        refine g_iload hX dX3_weighSets_57 rfl ?_
        refine g_iload hX dX3_weighSets_59 rfl ?_
        refine g_ior hX dX3_weighSets_61 ?_
        refine g_aload_n hX dX3_weighSets_62 rfl rfl ?_
        refine g_getr hX kd_true_52 fg_3_0 tf_3_0 w_296 sr_true_52_0 dX3_weighSets_63 ?_
        refine g_iload hX dX3_weighSets_66 rfl ?_
        obtain ⟨z3, h⟩ := ck_some h
        refine g_iald hX wk_3_0.1 wk_3_0.2 z3 dX3_weighSets_68 ?_
        refine g_iload hX dX3_weighSets_69 rfl ?_
        refine g_iadd hX dX3_weighSets_71 ?_
        obtain ⟨z5, h⟩ := ck_some h
        obtain ⟨μ4, hμ4, h⟩ := wr_some h
        refine g_iastM hX wk_3_0.1 wk_3_0.2 z5 dX3_weighSets_72 hμ4 ?_
        refine g_iinc (lc' := [some _, some _, some _, some _, some _, some _, some _, some _]) hX dX3_weighSets_73 (by decide) rfl (congrArg _ k_1) rfl rfl ?_
        refine g_goto (tgt := 37) hX dX3_weighSets_76 (by decide) ?_
        exact g_weak (lc' := [some _, some _, some _, some _, some _, some _, some _, some _]) ⟨rfl, rfl, rfl, rfl, rfl, rfl, rfl, rfl, trivial⟩ (ih _ _ _ _ _ _ _ h)
set_option maxRecDepth 100000 in
set_option maxHeartbeats 4000000 in
theorem t_X3_weighSets_10 {l : Launch} {D : DT} {X : XT} {a1 : Nat} {μ' : Mem} (hX : Cx l D true X 5 RX3 cX3_weighSets 8 none) (ha1 : kd true a1 = 2) : ∀ (n : Nat) (v2 : Int32) (v3 : Int32) (v4 : Int32) (μ : Mem), f_X3_weighSets_10 a1 n v2 v3 v4 μ = some μ' → G l D true X 8 none μ' 10 [some (.ref (D.1 52)), some (.ref (D.1 a1)), some (.int v2), some (.int v3), some (.int v4), none, none, none] [] μ := by
  intro n
  induction n with
  | zero => intro v2 v3 v4 μ h; exact absurd h (by simp [f_X3_weighSets_10])
  | succ n ih =>
    intro v2 v3 v4 μ h
    rw [f_X3_weighSets_10] at h
    refine g_iload hX dX3_weighSets_10 rfl ?_
    refine g_aload_n hX dX3_weighSets_12 rfl rfl ?_
    refine g_geti hX ha1 fg_2_11 tf_2_11 w_174 dX3_weighSets_13 ?_
    refine g_icmp_ge (tgt := 85) hX dX3_weighSets_16 (by decide) (fun q1 => ?_) (fun q1 => ?_)
    · rw [if_pos q1] at h
      obtain rfl := Option.some.inj h
      exact g_vret hX rfl dX3_weighSets_85
    · rw [if_neg q1] at h
      refine g_aload_n hX dX3_weighSets_19 rfl rfl ?_
      refine g_iload_n hX dX3_weighSets_20 rfl rfl ?_
      refine g_iload hX dX3_weighSets_21 rfl ?_
      obtain ⟨r2, μ3, hr2, h⟩ := bd2_some h
      refine g_callVi hX (c_X2_weight ha1 _ _ hr2) mv_X2_weight wm_770 ha1 rfl (by decide) (by decide) rfl rfl (Nat.le_of_ble_eq_true rfl) dX3_weighSets_23 ?_
      refine g_istore (lc' := [some _, some _, some _, some _, some _, some _, none, none]) hX dX3_weighSets_26 (by decide) rfl rfl ?_
      refine g_iconst hX dX3_weighSets_28 k_1 ?_
      refine g_iload hX dX3_weighSets_29 rfl ?_
      refine g_ishl hX dX3_weighSets_31 ?_
      refine g_istore (lc' := [some _, some _, some _, some _, some _, some _, some _, none]) hX dX3_weighSets_32 (by decide) rfl rfl ?_
      refine g_iconst hX dX3_weighSets_34 k_0 ?_
      refine g_istore (lc' := [some _, some _, some _, some _, some _, some _, some _, some _]) hX dX3_weighSets_35 (by decide) rfl rfl ?_
      exact g_weak (lc' := [some _, some _, some _, some _, some _, some _, some _, some _]) ⟨rfl, rfl, rfl, rfl, rfl, rfl, rfl, rfl, trivial⟩ (t_X3_weighSets_37 hX ha1 ih 2000 _ _ _ _ _ _ _ h)
set_option maxRecDepth 100000 in
set_option maxHeartbeats 4000000 in
theorem c_X3_weighSets {l : Launch} {D : DT} {a1 : Nat} {μ : Mem} {μ' : Mem} (ha1 : kd true a1 = 2) (v2 : Int32) (v3 : Int32) (h : f_X3_weighSets a1 v2 v3 μ = some μ') : Ct l D true 5 yX3_weighSets cX3_weighSets 8 none [.ref (D.1 52), .ref (D.1 a1), .int v2, .int v3] μ none μ' := by
  refine Ct.of (own := RX3) (lc0 := [some (.ref (D.1 52)), some (.ref (D.1 a1)), some (.int v2), some (.int v3), none, none, none, none]) pn_X3 rfl (Nat.le_of_ble_eq_true rfl) rfl mv_X3_weighSets.2.2.2.1 (fun X hX => ?_)
  unfold f_X3_weighSets at h
  refine g_aload_n hX dX3_weighSets_0 rfl rfl ?_
  refine g_getr hX kd_true_52 fg_3_0 tf_3_0 w_296 sr_true_52_0 dX3_weighSets_1 ?_
  refine g_iconst hX dX3_weighSets_4 k_0 ?_
  refine g_iconst hX dX3_weighSets_5 k_0 ?_
  obtain ⟨μ1, hμ1, h⟩ := wr_some h
  refine g_iastM hX wk_3_0.1 wk_3_0.2 (by decide) dX3_weighSets_6 hμ1 ?_
  refine g_iconst hX dX3_weighSets_7 k_0 ?_
  refine g_istore (lc' := [some _, some _, some _, some _, some _, none, none, none]) hX dX3_weighSets_8 (by decide) rfl rfl ?_
  exact g_weak (lc' := [some _, some _, some _, some _, some _, none, none, none]) ⟨rfl, rfl, rfl, rfl, rfl, trivial⟩ (t_X3_weighSets_10 hX ha1 2000 _ _ _ _ h)
set_option maxRecDepth 100000 in
set_option maxHeartbeats 4000000 in
theorem t_X3_letOneHold_53 {l : Launch} {D : DT} {X : XT} {k4 : Int32 → Int32 → Mem → Option Mem} {k11 : Int32 → Int32 → Int32 → Mem → Option Mem} {μ' : Mem} (hX : Cx l D true X 1 RX3 cX3_letOneHold 5 none) (hk4 : ∀ (v1 : Int32) (v3 : Int32) (μ : Mem), k4 v1 v3 μ = some μ' → G l D true X 5 none μ' 4 [some (.ref (D.1 52)), some (.int v1), none, some (.int v3), none] [] μ) (hk11 : ∀ (v1 : Int32) (v3 : Int32) (v4 : Int32) (μ : Mem), k11 v1 v3 v4 μ = some μ' → G l D true X 5 none μ' 11 [some (.ref (D.1 52)), some (.int v1), none, some (.int v3), some (.int v4)] [] μ) : ∀ (v1 : Int32) (v3 : Int32) (v4 : Int32) (μ : Mem), f_X3_letOneHold_53 k4 k11 v1 v3 v4 μ = some μ' → G l D true X 5 none μ' 53 [some (.ref (D.1 52)), some (.int v1), none, some (.int v3), some (.int v4)] [] μ := by
  intro v1 v3 v4 μ h
  unfold f_X3_letOneHold_53 at h
  refine g_iload hX dX3_letOneHold_53 rfl ?_
  refine g_iconst hX dX3_letOneHold_55 k_1 ?_
  refine g_isub hX dX3_letOneHold_56 ?_
  refine g_iload_n hX dX3_letOneHold_57 rfl rfl ?_
  refine g_iand hX dX3_letOneHold_58 ?_
  refine g_istore (lc' := [some _, some _, none, some _, some _]) hX dX3_letOneHold_59 (by decide) rfl rfl ?_
  refine g_goto (tgt := 11) hX dX3_letOneHold_61 (by decide) ?_
  exact g_weak (lc' := [some _, some _, none, some _, some _]) ⟨rfl, rfl, rfl, rfl, trivial⟩ (hk11 _ _ _ _ h)
set_option maxRecDepth 100000 in
set_option maxHeartbeats 4000000 in
theorem t_X3_letOneHold_11 {l : Launch} {D : DT} {X : XT} {k4 : Int32 → Int32 → Mem → Option Mem} {μ' : Mem} (hX : Cx l D true X 1 RX3 cX3_letOneHold 5 none) (hk4 : ∀ (v1 : Int32) (v3 : Int32) (μ : Mem), k4 v1 v3 μ = some μ' → G l D true X 5 none μ' 4 [some (.ref (D.1 52)), some (.int v1), none, some (.int v3), none] [] μ) : ∀ (n : Nat) (v1 : Int32) (v3 : Int32) (v4 : Int32) (μ : Mem), f_X3_letOneHold_11 k4 n v1 v3 v4 μ = some μ' → G l D true X 5 none μ' 11 [some (.ref (D.1 52)), some (.int v1), none, some (.int v3), some (.int v4)] [] μ := by
  intro n
  induction n with
  | zero => intro v1 v3 v4 μ h; exact absurd h (by simp [f_X3_letOneHold_11])
  | succ n ih =>
    intro v1 v3 v4 μ h
    rw [f_X3_letOneHold_11] at h
    refine g_iload hX dX3_letOneHold_11 rfl ?_
    refine g_if_le (tgt := 64) hX dX3_letOneHold_13 (by decide) (fun q1 => ?_) (fun q1 => ?_)
    · rw [if_pos q1] at h
      refine g_iinc (lc' := [some _, some _, none, some _, some _]) hX dX3_letOneHold_64 (by decide) rfl (congrArg _ k_m1) rfl rfl ?_
      refine g_goto (tgt := 4) hX dX3_letOneHold_67 (by decide) ?_
      exact g_weak (lc' := [some _, some _, none, some _, none]) ⟨rfl, rfl, rfl, trivial⟩ (hk4 _ _ _ h)
    · rw [if_neg q1] at h
      refine g_aload_n hX dX3_letOneHold_16 rfl rfl ?_
      refine g_getr hX kd_true_52 fg_3_0 tf_3_0 w_296 sr_true_52_0 dX3_letOneHold_17 ?_
      refine g_iload hX dX3_letOneHold_20 rfl ?_
      obtain ⟨z2, h⟩ := ck_some h
      refine g_iald hX wk_3_0.1 wk_3_0.2 z2 dX3_letOneHold_22 ?_
      refine g_iload_n hX dX3_letOneHold_23 rfl rfl ?_
      refine g_icmp_gt (tgt := 53) hX dX3_letOneHold_24 (by decide) (fun q3 => ?_) (fun q3 => ?_)
      · rw [if_pos q3] at h
        exact g_weak (lc' := [some _, some _, none, some _, some _]) ⟨rfl, rfl, rfl, rfl, trivial⟩ (t_X3_letOneHold_53 hX hk4 ih _ _ _ _ h)
      · rw [if_neg q3] at h
        refine g_aload_n hX dX3_letOneHold_27 rfl rfl ?_
        refine g_getr hX kd_true_52 fg_3_1 tf_3_1 w_297 sr_true_52_1 dX3_letOneHold_28 ?_
        refine g_iload_n hX dX3_letOneHold_31 rfl rfl ?_
        refine g_aload_n hX dX3_letOneHold_32 rfl rfl ?_
        refine g_getr hX kd_true_52 fg_3_1 tf_3_1 w_297 sr_true_52_1 dX3_letOneHold_33 ?_
        refine g_iload_n hX dX3_letOneHold_36 rfl rfl ?_
        obtain ⟨z4, h⟩ := ck_some h
        refine g_iald hX wk_3_1.1 wk_3_1.2 z4 dX3_letOneHold_37 ?_
        refine g_aload_n hX dX3_letOneHold_38 rfl rfl ?_
        refine g_getr hX kd_true_52 fg_3_1 tf_3_1 w_297 sr_true_52_1 dX3_letOneHold_39 ?_
        refine g_iload_n hX dX3_letOneHold_42 rfl rfl ?_
        refine g_iload hX dX3_letOneHold_43 rfl ?_
        refine g_ixor hX dX3_letOneHold_45 ?_
        obtain ⟨z5, h⟩ := ck_some h
        refine g_iald hX wk_3_1.1 wk_3_1.2 z5 dX3_letOneHold_46 ?_
        refine g_iconst hX dX3_letOneHold_47 k_1 ?_
        refine g_iadd hX dX3_letOneHold_48 ?_
        refine g_mmin hX mmw_min wm_776 (by decide) (Nat.le_of_ble_eq_true rfl) dX3_letOneHold_49 ?_
        obtain ⟨z7, h⟩ := ck_some h
        obtain ⟨μ6, hμ6, h⟩ := wr_some h
        refine g_iastM hX wk_3_1.1 wk_3_1.2 z7 dX3_letOneHold_52 hμ6 ?_
        exact g_weak (lc' := [some _, some _, none, some _, some _]) ⟨rfl, rfl, rfl, rfl, trivial⟩ (t_X3_letOneHold_53 hX hk4 ih _ _ _ _ h)
set_option maxRecDepth 100000 in
set_option maxHeartbeats 4000000 in
theorem t_X3_letOneHold_4 {l : Launch} {D : DT} {X : XT} {μ' : Mem} (hX : Cx l D true X 1 RX3 cX3_letOneHold 5 none) : ∀ (n : Nat) (v1 : Int32) (v3 : Int32) (μ : Mem), f_X3_letOneHold_4 n v1 v3 μ = some μ' → G l D true X 5 none μ' 4 [some (.ref (D.1 52)), some (.int v1), none, some (.int v3), none] [] μ := by
  intro n
  induction n with
  | zero => intro v1 v3 μ h; exact absurd h (by simp [f_X3_letOneHold_4])
  | succ n ih =>
    intro v1 v3 μ h
    rw [f_X3_letOneHold_4] at h
    refine g_iload_n hX dX3_letOneHold_4 rfl rfl ?_
    refine g_if_le (tgt := 70) hX dX3_letOneHold_5 (by decide) (fun q1 => ?_) (fun q1 => ?_)
    · rw [if_pos q1] at h
      obtain rfl := Option.some.inj h
      exact g_vret hX rfl dX3_letOneHold_70
    · rw [if_neg q1] at h
      refine g_iload_n hX dX3_letOneHold_8 rfl rfl ?_
      refine g_istore (lc' := [some _, some _, none, some _, some _]) hX dX3_letOneHold_9 (by decide) rfl rfl ?_
      exact g_weak (lc' := [some _, some _, none, some _, some _]) ⟨rfl, rfl, rfl, rfl, trivial⟩ (t_X3_letOneHold_11 hX ih 2000 _ _ _ _ h)
set_option maxRecDepth 100000 in
set_option maxHeartbeats 4000000 in
theorem c_X3_letOneHold {l : Launch} {D : DT} {μ : Mem} {μ' : Mem} (v1 : Int32) (v2 : Int32) (h : f_X3_letOneHold v1 v2 μ = some μ') : Ct l D true 1 yX3_letOneHold cX3_letOneHold 5 none [.ref (D.1 52), .int v1, .int v2] μ none μ' := by
  refine Ct.of (own := RX3) (lc0 := [some (.ref (D.1 52)), some (.int v1), some (.int v2), none, none]) pn_X3 rfl (Nat.le_of_ble_eq_true rfl) rfl mv_X3_letOneHold.2.2.2.1 (fun X hX => ?_)
  unfold f_X3_letOneHold at h
  refine g_iload_n hX dX3_letOneHold_0 rfl rfl ?_
  refine g_iconst hX dX3_letOneHold_1 k_1 ?_
  refine g_isub hX dX3_letOneHold_2 ?_
  refine g_istore_n (lc' := [some _, some _, some _, some _, none]) hX dX3_letOneHold_3 rfl (by decide) rfl rfl ?_
  exact g_weak (lc' := [some _, some _, none, some _, none]) ⟨rfl, rfl, rfl, trivial⟩ (t_X3_letOneHold_4 hX 2000 _ _ _ h)
set_option maxRecDepth 100000 in
set_option maxHeartbeats 4000000 in
theorem t_X3_fewestFor_86 {l : Launch} {D : DT} {X : XT} {a1 : Nat} {r : Int32} {μ' : Mem} (hX : Cx l D true X 6 RX3 cX3_fewestFor 4 (some FieldType.int)) (ha1 : kd true a1 = 2) : ∀ (v2 : Int32) (μ : Mem), f_X3_fewestFor_86 a1 v2 μ = some (r, μ') → G l D true X 4 (some (.int r)) μ' 86 [some (.ref (D.1 52)), none, some (.int v2), none] [] μ := by
  intro v2 μ h
  unfold f_X3_fewestFor_86 at h
  refine g_aload_n hX dX3_fewestFor_86 rfl rfl ?_
  refine g_getr hX kd_true_52 fg_3_1 tf_3_1 w_297 sr_true_52_1 dX3_fewestFor_87 ?_
  refine g_iload_n hX dX3_fewestFor_90 rfl rfl ?_
  refine g_iconst hX dX3_fewestFor_91 k_1 ?_
  refine g_isub hX dX3_fewestFor_92 ?_
  obtain ⟨z1, h⟩ := ck_some h
  refine g_iald hX wk_3_1.1 wk_3_1.2 z1 dX3_fewestFor_93 ?_
  refine g_istore_n (lc' := [some _, none, some _, some _]) hX dX3_fewestFor_94 rfl (by decide) rfl rfl ?_
  refine g_iload_n hX dX3_fewestFor_95 rfl rfl ?_
  refine g_bipush hX dX3_fewestFor_96 kb_7 ?_
  refine g_icmp_ge (tgt := 105) hX dX3_fewestFor_98 (by decide) (fun q2 => ?_) (fun q2 => ?_)
  · rw [if_pos q2] at h
    refine g_iconst hX dX3_fewestFor_105 k_m1 ?_
    obtain ⟨rfl, rfl⟩ := pair_inj h
    exact g_iret hX rfl rfl dX3_fewestFor_106
  · rw [if_neg q2] at h
    refine g_iload_n hX dX3_fewestFor_101 rfl rfl ?_
    refine g_goto (tgt := 106) hX dX3_fewestFor_102 (by decide) ?_
    obtain ⟨rfl, rfl⟩ := pair_inj h
    exact g_iret hX rfl rfl dX3_fewestFor_106
set_option maxRecDepth 100000 in
set_option maxHeartbeats 4000000 in
theorem t_X3_fewestFor_55 {l : Launch} {D : DT} {X : XT} {a1 : Nat} {r : Int32} {μ' : Mem} (hX : Cx l D true X 6 RX3 cX3_fewestFor 4 (some FieldType.int)) (ha1 : kd true a1 = 2) : ∀ (n : Nat) (v2 : Int32) (v3 : Int32) (μ : Mem), f_X3_fewestFor_55 a1 n v2 v3 μ = some (r, μ') → G l D true X 4 (some (.int r)) μ' 55 [some (.ref (D.1 52)), some (.ref (D.1 a1)), some (.int v2), some (.int v3)] [] μ := by
  intro n
  induction n with
  | zero => intro v2 v3 μ h; exact absurd h (by simp [f_X3_fewestFor_55])
  | succ n ih =>
    intro v2 v3 μ h
    rw [f_X3_fewestFor_55] at h
    refine g_iload_n hX dX3_fewestFor_55 rfl rfl ?_
    refine g_aload_n hX dX3_fewestFor_56 rfl rfl ?_
    refine g_geti hX ha1 fg_2_10 tf_2_10 w_171 dX3_fewestFor_57 ?_
    refine g_icmp_ge (tgt := 86) hX dX3_fewestFor_60 (by decide) (fun q1 => ?_) (fun q1 => ?_)
    · rw [if_pos q1] at h
      exact g_weak (lc' := [some _, none, some _, none]) ⟨rfl, rfl, trivial⟩ (t_X3_fewestFor_86 hX ha1 _ _ h)
    · rw [if_neg q1] at h
      refine g_aload_n hX dX3_fewestFor_63 rfl rfl ?_
      refine g_aload_n hX dX3_fewestFor_64 rfl rfl ?_
      refine g_iload_n hX dX3_fewestFor_65 rfl rfl ?_
      refine g_iload_n hX dX3_fewestFor_66 rfl rfl ?_
      obtain ⟨μ2, hμ2, h⟩ := bd_some h
      refine g_callVv hX (c_X3_weighSets ha1 _ _ hμ2) mv_X3_weighSets wm_766 kd_true_52 rfl (by decide) (by decide) rfl rfl (Nat.le_of_ble_eq_true rfl) dX3_fewestFor_67 ?_
      refine g_aload_n hX dX3_fewestFor_70 rfl rfl ?_
      refine g_aload_n hX dX3_fewestFor_71 rfl rfl ?_
      refine g_iload_n hX dX3_fewestFor_72 rfl rfl ?_
      obtain ⟨r3, hr3, h⟩ := bd_some h
      refine g_callVi hX (c_X2_room ha1 _ hr3) mv_X2_room wm_771 ha1 rfl (by decide) (by decide) rfl rfl (Nat.le_of_ble_eq_true rfl) dX3_fewestFor_73 ?_
      refine g_iload_n hX dX3_fewestFor_76 rfl rfl ?_
      obtain ⟨μ4, hμ4, h⟩ := bd_some h
      refine g_callVv hX (c_X3_letOneHold  _ _ hμ4) mv_X3_letOneHold wm_772 kd_true_52 rfl (by decide) (by decide) rfl rfl (Nat.le_of_ble_eq_true rfl) dX3_fewestFor_77 ?_
      refine g_iinc (lc' := [some _, some _, some _, some _]) hX dX3_fewestFor_80 (by decide) rfl (congrArg _ k_1) rfl rfl ?_
      refine g_goto (tgt := 55) hX dX3_fewestFor_83 (by decide) ?_
      exact g_weak (lc' := [some _, some _, some _, some _]) ⟨rfl, rfl, rfl, rfl, trivial⟩ (ih _ _ _ h)
set_option maxRecDepth 100000 in
set_option maxHeartbeats 4000000 in
theorem t_X3_fewestFor_34 {l : Launch} {D : DT} {X : XT} {a1 : Nat} {r : Int32} {μ' : Mem} (hX : Cx l D true X 6 RX3 cX3_fewestFor 4 (some FieldType.int)) (ha1 : kd true a1 = 2) : ∀ (n : Nat) (v2 : Int32) (v3 : Int32) (μ : Mem), f_X3_fewestFor_34 a1 n v2 v3 μ = some (r, μ') → G l D true X 4 (some (.int r)) μ' 34 [some (.ref (D.1 52)), some (.ref (D.1 a1)), some (.int v2), some (.int v3)] [] μ := by
  intro n
  induction n with
  | zero => intro v2 v3 μ h; exact absurd h (by simp [f_X3_fewestFor_34])
  | succ n ih =>
    intro v2 v3 μ h
    rw [f_X3_fewestFor_34] at h
    refine g_iload_n hX dX3_fewestFor_34 rfl rfl ?_
    refine g_iload_n hX dX3_fewestFor_35 rfl rfl ?_
    refine g_icmp_ge (tgt := 53) hX dX3_fewestFor_36 (by decide) (fun q1 => ?_) (fun q1 => ?_)
    · rw [if_pos q1] at h
      refine g_iconst hX dX3_fewestFor_53 k_0 ?_
      refine g_istore_n (lc' := [some _, some _, some _, some _]) hX dX3_fewestFor_54 rfl (by decide) rfl rfl ?_
      exact g_weak (lc' := [some _, some _, some _, some _]) ⟨rfl, rfl, rfl, rfl, trivial⟩ (t_X3_fewestFor_55 hX ha1 2000 _ _ _ h)
    · rw [if_neg q1] at h
      refine g_aload_n hX dX3_fewestFor_39 rfl rfl ?_
      refine g_getr hX kd_true_52 fg_3_1 tf_3_1 w_297 sr_true_52_1 dX3_fewestFor_40 ?_
      refine g_iload_n hX dX3_fewestFor_43 rfl rfl ?_
      refine g_bipush hX dX3_fewestFor_44 kb_7 ?_
      obtain ⟨z3, h⟩ := ck_some h
      obtain ⟨μ2, hμ2, h⟩ := wr_some h
      refine g_iastM hX wk_3_1.1 wk_3_1.2 z3 dX3_fewestFor_46 hμ2 ?_
      refine g_iinc (lc' := [some _, some _, some _, some _]) hX dX3_fewestFor_47 (by decide) rfl (congrArg _ k_1) rfl rfl ?_
      refine g_goto (tgt := 34) hX dX3_fewestFor_50 (by decide) ?_
      exact g_weak (lc' := [some _, some _, some _, some _]) ⟨rfl, rfl, rfl, rfl, trivial⟩ (ih _ _ _ h)
set_option maxRecDepth 100000 in
set_option maxHeartbeats 4000000 in
theorem c_X3_fewestFor {l : Launch} {D : DT} {a1 : Nat} {μ : Mem} {r : Int32} {μ' : Mem} (ha1 : kd true a1 = 2) (h : f_X3_fewestFor a1 μ = some (r, μ')) : Ct l D true 6 yX3_fewestFor cX3_fewestFor 4 (some FieldType.int) [.ref (D.1 52), .ref (D.1 a1)] μ (some (.int r)) μ' := by
  refine Ct.of (own := RX3) (lc0 := [some (.ref (D.1 52)), some (.ref (D.1 a1)), none, none]) pn_X3 rfl (Nat.le_of_ble_eq_true rfl) rfl mv_X3_fewestFor.2.2.2.1 (fun X hX => ?_)
  unfold f_X3_fewestFor at h
  refine g_aload_n hX dX3_fewestFor_0 rfl rfl ?_
  refine g_geti hX ha1 fg_2_11 tf_2_11 w_174 dX3_fewestFor_1 ?_
  refine g_if_lt (tgt := 16) hX dX3_fewestFor_4 (by decide) (fun q1 => ?_) (fun q1 => ?_)
  · rw [if_pos q1] at h
    refine g_iconst hX dX3_fewestFor_16 k_m1 ?_
    obtain ⟨rfl, rfl⟩ := pair_inj h
    exact g_iret hX rfl rfl dX3_fewestFor_17
  · rw [if_neg q1] at h
    refine g_aload_n hX dX3_fewestFor_7 rfl rfl ?_
    refine g_geti hX ha1 fg_2_11 tf_2_11 w_174 dX3_fewestFor_8 ?_
    refine g_bipush hX dX3_fewestFor_11 kb_9 ?_
    refine g_icmp_le (tgt := 18) hX dX3_fewestFor_13 (by decide) (fun q2 => ?_) (fun q2 => ?_)
    · rw [if_pos q2] at h
      refine g_iconst hX dX3_fewestFor_18 k_1 ?_
      refine g_aload_n hX dX3_fewestFor_19 rfl rfl ?_
      refine g_geti hX ha1 fg_2_11 tf_2_11 w_174 dX3_fewestFor_20 ?_
      refine g_ishl hX dX3_fewestFor_23 ?_
      refine g_istore_n (lc' := [some _, some _, some _, none]) hX dX3_fewestFor_24 rfl (by decide) rfl rfl ?_
      refine g_aload_n hX dX3_fewestFor_25 rfl rfl ?_
      refine g_getr hX kd_true_52 fg_3_1 tf_3_1 w_297 sr_true_52_1 dX3_fewestFor_26 ?_
      refine g_iconst hX dX3_fewestFor_29 k_0 ?_
      refine g_iconst hX dX3_fewestFor_30 k_0 ?_
      obtain ⟨μ3, hμ3, h⟩ := wr_some h
      refine g_iastM hX wk_3_1.1 wk_3_1.2 (by decide) dX3_fewestFor_31 hμ3 ?_
      refine g_iconst hX dX3_fewestFor_32 k_1 ?_
      refine g_istore_n (lc' := [some _, some _, some _, some _]) hX dX3_fewestFor_33 rfl (by decide) rfl rfl ?_
      exact g_weak (lc' := [some _, some _, some _, some _]) ⟨rfl, rfl, rfl, rfl, trivial⟩ (t_X3_fewestFor_34 hX ha1 2000 _ _ _ h)
    · rw [if_neg q2] at h
      refine g_iconst hX dX3_fewestFor_16 k_m1 ?_
      obtain ⟨rfl, rfl⟩ := pair_inj h
      exact g_iret hX rfl rfl dX3_fewestFor_17
set_option maxRecDepth 100000 in
set_option maxHeartbeats 4000000 in
theorem c_X4_isDigit {l : Launch} {D : DT} {μ : Mem} (v0 : Int32) : Ct l D true 1 yX4_isDigit cX4_isDigit 1 (some FieldType.boolean) [.int v0] μ (some (.int (f_X4_isDigit v0))) μ := by
  obtain ⟨r, h⟩ : ∃ r, f_X4_isDigit v0 = r := ⟨_, rfl⟩
  rw [h]
  refine Ct.of (own := RX4) (lc0 := [some (.int v0)]) pn_X4 rfl (Nat.le_of_ble_eq_true rfl) rfl mv_X4_isDigit.2.2.1 (fun X hX => ?_)
  unfold f_X4_isDigit at h
  refine g_iload_n hX dX4_isDigit_0 rfl rfl ?_
  refine g_bipush hX dX4_isDigit_1 kb_48 ?_
  refine g_icmp_lt (tgt := 16) hX dX4_isDigit_3 (by decide) (fun q1 => ?_) (fun q1 => ?_)
  · rw [if_pos q1] at h
    refine g_iconst hX dX4_isDigit_16 k_0 ?_
    subst h
    exact g_iret hX rfl rfl dX4_isDigit_17
  · rw [if_neg q1] at h
    refine g_iload_n hX dX4_isDigit_6 rfl rfl ?_
    refine g_bipush hX dX4_isDigit_7 kb_57 ?_
    refine g_icmp_gt (tgt := 16) hX dX4_isDigit_9 (by decide) (fun q2 => ?_) (fun q2 => ?_)
    · rw [if_pos q2] at h
      refine g_iconst hX dX4_isDigit_16 k_0 ?_
      subst h
      exact g_iret hX rfl rfl dX4_isDigit_17
    · rw [if_neg q2] at h
      refine g_iconst hX dX4_isDigit_12 k_1 ?_
      refine g_goto (tgt := 17) hX dX4_isDigit_13 (by decide) ?_
      subst h
      exact g_iret hX rfl rfl dX4_isDigit_17
set_option maxRecDepth 100000 in
set_option maxHeartbeats 4000000 in
theorem c_X4_miss {l : Launch} {D : DT} {μ : Mem} {μ' : Mem} (h : f_X4_miss μ = some μ') : Ct l D true 1 yX4_miss cX4_miss 1 none [.ref (D.1 48)] μ none μ' := by
  refine Ct.of (own := RX4) (lc0 := [some (.ref (D.1 48))]) pn_X4 rfl (Nat.le_of_ble_eq_true rfl) rfl mv_X4_miss.2.2.2.1 (fun X hX => ?_)
  unfold f_X4_miss at h
  refine g_aload_n hX dX4_miss_0 rfl rfl ?_
  refine g_geti hX kd_true_48 fg_4_5 tf_4_5 w_276 dX4_miss_1 ?_
  refine g_if_ge (tgt := 15) hX dX4_miss_4 (by decide) (fun q1 => ?_) (fun q1 => ?_)
  · rw [if_pos q1] at h
    obtain rfl := Option.some.inj h
    exact g_vret hX rfl dX4_miss_15
  · rw [if_neg q1] at h
    refine g_aload_n hX dX4_miss_7 rfl rfl ?_
    refine g_aload_n hX dX4_miss_8 rfl rfl ?_
    refine g_geti hX kd_true_48 fg_4_4 tf_4_4 w_275 dX4_miss_9 ?_
    obtain ⟨μ2, hμ2, h⟩ := wr_some h
    refine g_puti hX kd_true_48 fg_4_5 tf_4_5 tyX4_ok nmX4 rfl w_276 dX4_miss_12 hμ2 ?_
    obtain rfl := Option.some.inj h
    exact g_vret hX rfl dX4_miss_15
set_option maxRecDepth 100000 in
set_option maxHeartbeats 4000000 in
theorem c_X4_next {l : Launch} {D : DT} {μ : Mem} {r : Int32} (h : f_X4_next μ = some r) : Ct l D true 1 yX4_next cX4_next 1 (some FieldType.int) [.ref (D.1 48)] μ (some (.int r)) μ := by
  refine Ct.of (own := RX4) (lc0 := [some (.ref (D.1 48))]) pn_X4 rfl (Nat.le_of_ble_eq_true rfl) rfl mv_X4_next.2.2.2.1 (fun X hX => ?_)
  unfold f_X4_next at h
  refine g_aload_n hX dX4_next_0 rfl rfl ?_
  refine g_geti hX kd_true_48 fg_4_5 tf_4_5 w_276 dX4_next_1 ?_
  refine g_if_ge (tgt := 43) hX dX4_next_4 (by decide) (fun q1 => ?_) (fun q1 => ?_)
  · rw [if_pos q1] at h
    refine g_iconst hX dX4_next_43 k_m1 ?_
    obtain rfl := Option.some.inj h
    exact g_iret hX rfl rfl dX4_next_44
  · rw [if_neg q1] at h
    refine g_aload_n hX dX4_next_7 rfl rfl ?_
    refine g_geti hX kd_true_48 fg_4_4 tf_4_4 w_275 dX4_next_8 ?_
    refine g_if_lt (tgt := 43) hX dX4_next_11 (by decide) (fun q2 => ?_) (fun q2 => ?_)
    · rw [if_pos q2] at h
      refine g_iconst hX dX4_next_43 k_m1 ?_
      obtain rfl := Option.some.inj h
      exact g_iret hX rfl rfl dX4_next_44
    · rw [if_neg q2] at h
      refine g_aload_n hX dX4_next_14 rfl rfl ?_
      refine g_geti hX kd_true_48 fg_4_4 tf_4_4 w_275 dX4_next_15 ?_
      refine g_aload_n hX dX4_next_18 rfl rfl ?_
      obtain ⟨z3, h⟩ := ck_some h
      refine g_getd hX kd_true_48 fg_4_1 tf_4_1 w_272 dX4_next_19 ?_
      refine g_geti hX (eq_of_beq z3) fg_7_1 tf_7_1 w_224 dX4_next_22 ?_
      refine g_icmp_ge (tgt := 43) hX dX4_next_25 (by decide) (fun q4 => ?_) (fun q4 => ?_)
      · rw [if_pos q4] at h
        refine g_iconst hX dX4_next_43 k_m1 ?_
        obtain rfl := Option.some.inj h
        exact g_iret hX rfl rfl dX4_next_44
      · rw [if_neg q4] at h
        refine g_aload_n hX dX4_next_28 rfl rfl ?_
        refine g_geti hX kd_true_48 fg_4_4 tf_4_4 w_275 dX4_next_29 ?_
        refine g_aload_n hX dX4_next_32 rfl rfl ?_
        obtain ⟨z5, h⟩ := ck_some h
        refine g_getd hX kd_true_48 fg_4_1 tf_4_1 w_272 dX4_next_33 ?_
        refine g_getr hX (eq_of_beq z5) fg_7_0 tf_7_0 w_222 (wo_7_0 (eq_of_beq z5)) dX4_next_36 ?_
        refine g_alenB hX (wk_7_0 (eq_of_beq z5)).1 (wk_7_0 (eq_of_beq z5)).2 len_60 dX4_next_39 ?_
        refine g_icmp_lt (tgt := 45) hX dX4_next_40 (by decide) (fun q6 => ?_) (fun q6 => ?_)
        · rw [if_pos q6] at h
          refine g_aload_n hX dX4_next_45 rfl rfl ?_
          obtain ⟨z7, h⟩ := ck_some h
          refine g_getd hX kd_true_48 fg_4_1 tf_4_1 w_272 dX4_next_46 ?_
          refine g_getr hX (eq_of_beq z7) fg_7_0 tf_7_0 w_222 (wo_7_0 (eq_of_beq z7)) dX4_next_49 ?_
          refine g_aload_n hX dX4_next_52 rfl rfl ?_
          refine g_geti hX kd_true_48 fg_4_4 tf_4_4 w_275 dX4_next_53 ?_
          obtain ⟨z8, h⟩ := ck_some h
          refine g_bald hX (wk_7_0 (eq_of_beq z7)).1 (wk_7_0 (eq_of_beq z7)).2 z8 dX4_next_56 ?_
          refine g_sipush hX dX4_next_57 ks_255 ?_
          refine g_iand hX dX4_next_60 ?_
          obtain rfl := Option.some.inj h
          exact g_iret hX rfl rfl dX4_next_61
        · rw [if_neg q6] at h
          refine g_iconst hX dX4_next_43 k_m1 ?_
          obtain rfl := Option.some.inj h
          exact g_iret hX rfl rfl dX4_next_44
set_option maxRecDepth 100000 in
set_option maxHeartbeats 4000000 in
theorem c_X4_write {l : Launch} {D : DT} {μ : Mem} {μ' : Mem} (v1 : Int32) (h : f_X4_write v1 μ = some μ') : Ct l D true 1 yX4_write cX4_write 2 none [.ref (D.1 48), .int v1] μ none μ' := by
  refine Ct.of (own := RX4) (lc0 := [some (.ref (D.1 48)), some (.int v1)]) pn_X4 rfl (Nat.le_of_ble_eq_true rfl) rfl mv_X4_write.2.2.2.1 (fun X hX => ?_)
  unfold f_X4_write at h
  refine g_aload_n hX dX4_write_0 rfl rfl ?_
  refine g_geti hX kd_true_48 fg_4_5 tf_4_5 w_276 dX4_write_1 ?_
  refine g_if_ge (tgt := 39) hX dX4_write_4 (by decide) (fun q1 => ?_) (fun q1 => ?_)
  · rw [if_pos q1] at h
    obtain rfl := Option.some.inj h
    exact g_vret hX rfl dX4_write_39
  · rw [if_neg q1] at h
    refine g_aload_n hX dX4_write_7 rfl rfl ?_
    refine g_geti hX kd_true_48 fg_4_3 tf_4_3 w_274 dX4_write_8 ?_
    refine g_aload_n hX dX4_write_11 rfl rfl ?_
    refine g_getr hX kd_true_48 fg_4_0 tf_4_0 w_271 sr_true_48_0 dX4_write_12 ?_
    refine g_alen hX wk_4_0.1 wk_4_0.2 len_60 dX4_write_15 ?_
    refine g_icmp_ge (tgt := 39) hX dX4_write_16 (by decide) (fun q2 => ?_) (fun q2 => ?_)
    · rw [if_pos q2] at h
      obtain rfl := Option.some.inj h
      exact g_vret hX rfl dX4_write_39
    · rw [if_neg q2] at h
      refine g_aload_n hX dX4_write_19 rfl rfl ?_
      refine g_getr hX kd_true_48 fg_4_0 tf_4_0 w_271 sr_true_48_0 dX4_write_20 ?_
      refine g_aload_n hX dX4_write_23 rfl rfl ?_
      refine g_geti hX kd_true_48 fg_4_3 tf_4_3 w_274 dX4_write_24 ?_
      refine g_iload_n hX dX4_write_27 rfl rfl ?_
      obtain ⟨z4, h⟩ := ck_some h
      obtain ⟨μ3, hμ3, h⟩ := wr_some h
      refine g_iastM hX wk_4_0.1 wk_4_0.2 z4 dX4_write_28 hμ3 ?_
      refine g_aload_n hX dX4_write_29 rfl rfl ?_
      refine g_dup hX dX4_write_30 rfl ?_
      refine g_geti hX kd_true_48 fg_4_3 tf_4_3 w_274 dX4_write_31 ?_
      refine g_iconst hX dX4_write_34 k_1 ?_
      refine g_iadd hX dX4_write_35 ?_
      obtain ⟨μ5, hμ5, h⟩ := wr_some h
      refine g_puti hX kd_true_48 fg_4_3 tf_4_3 tyX4_ok nmX4 rfl w_274 dX4_write_36 hμ5 ?_
      obtain rfl := Option.some.inj h
      exact g_vret hX rfl dX4_write_39
set_option maxRecDepth 100000 in
set_option maxHeartbeats 4000000 in
theorem t_X4_readNumber_48 {l : Launch} {D : DT} {X : XT} {μ' : Mem} (hX : Cx l D true X 2 RX4 cX4_readNumber 3 none) : ∀ (v1 : Int32) (μ : Mem), f_X4_readNumber_48 v1 μ = some μ' → G l D true X 3 none μ' 48 [some (.ref (D.1 48)), some (.int v1), none] [] μ := by
  intro v1 μ h
  unfold f_X4_readNumber_48 at h
  refine g_aload_n hX dX4_readNumber_48 rfl rfl ?_
  refine g_iload_n hX dX4_readNumber_49 rfl rfl ?_
  obtain ⟨μ1, hμ1, h⟩ := bd_some h
  refine g_callVv hX (c_X4_write  _ hμ1) mv_X4_write wm_575 kd_true_48 rfl (by decide) (by decide) rfl rfl (Nat.le_of_ble_eq_true rfl) dX4_readNumber_50 ?_
  obtain rfl := Option.some.inj h
  exact g_vret hX rfl dX4_readNumber_53
set_option maxRecDepth 100000 in
set_option maxHeartbeats 4000000 in
theorem t_X4_readNumber_4 {l : Launch} {D : DT} {X : XT} {μ' : Mem} (hX : Cx l D true X 2 RX4 cX4_readNumber 3 none) : ∀ (n : Nat) (v1 : Int32) (v2 : Int32) (μ : Mem), f_X4_readNumber_4 n v1 v2 μ = some μ' → G l D true X 3 none μ' 4 [some (.ref (D.1 48)), some (.int v1), some (.int v2)] [] μ := by
  intro n
  induction n with
  | zero => intro v1 v2 μ h; exact absurd h (by simp [f_X4_readNumber_4])
  | succ n ih =>
    intro v1 v2 μ h
    rw [f_X4_readNumber_4] at h
    refine g_iload_n hX dX4_readNumber_4 rfl rfl ?_
    refine g_iconst hX dX4_readNumber_5 k_4 ?_
    refine g_icmp_ge (tgt := 48) hX dX4_readNumber_6 (by decide) (fun q1 => ?_) (fun q1 => ?_)
    · rw [if_pos q1] at h
      exact g_weak (lc' := [some _, some _, none]) ⟨rfl, rfl, trivial⟩ (t_X4_readNumber_48 hX _ _ h)
    · rw [if_neg q1] at h
      refine g_aload_n hX dX4_readNumber_9 rfl rfl ?_
      obtain ⟨r2, hr2, h⟩ := bd_some h
      refine g_callVi hX (c_X4_next hr2) mv_X4_next wm_564 kd_true_48 rfl (by decide) (by decide) rfl rfl (Nat.le_of_ble_eq_true rfl) dX4_readNumber_10 ?_
      refine g_callSi hX (c_X4_isDigit  r2) mv_X4_isDigit wm_568 (by decide) rfl rfl (Nat.le_of_ble_eq_true rfl) dX4_readNumber_13 ?_
      refine g_if_eq (tgt := 48) hX dX4_readNumber_16 (by decide) (fun q3 => ?_) (fun q3 => ?_)
      · rw [if_pos q3] at h
        exact g_weak (lc' := [some _, some _, none]) ⟨rfl, rfl, trivial⟩ (t_X4_readNumber_48 hX _ _ h)
      · rw [if_neg q3] at h
        refine g_iload_n hX dX4_readNumber_19 rfl rfl ?_
        refine g_bipush hX dX4_readNumber_20 kb_10 ?_
        refine g_imul hX dX4_readNumber_22 ?_
        refine g_aload_n hX dX4_readNumber_23 rfl rfl ?_
        obtain ⟨r4, hr4, h⟩ := bd_some h
        refine g_callVi hX (c_X4_next hr4) mv_X4_next wm_564 kd_true_48 rfl (by decide) (by decide) rfl rfl (Nat.le_of_ble_eq_true rfl) dX4_readNumber_24 ?_
        refine g_iadd hX dX4_readNumber_27 ?_
        refine g_bipush hX dX4_readNumber_28 kb_48 ?_
        refine g_isub hX dX4_readNumber_30 ?_
        refine g_istore_n (lc' := [some _, some _, some _]) hX dX4_readNumber_31 rfl (by decide) rfl rfl ?_
        refine g_aload_n hX dX4_readNumber_32 rfl rfl ?_
        refine g_dup hX dX4_readNumber_33 rfl ?_
        refine g_geti hX kd_true_48 fg_4_4 tf_4_4 w_275 dX4_readNumber_34 ?_
        refine g_iconst hX dX4_readNumber_37 k_1 ?_
        refine g_iadd hX dX4_readNumber_38 ?_
        obtain ⟨μ5, hμ5, h⟩ := wr_some h
        refine g_puti hX kd_true_48 fg_4_4 tf_4_4 tyX4_ok nmX4 rfl w_275 dX4_readNumber_39 hμ5 ?_
        refine g_iinc (lc' := [some _, some _, some _]) hX dX4_readNumber_42 (by decide) rfl (congrArg _ k_1) rfl rfl ?_
        refine g_goto (tgt := 4) hX dX4_readNumber_45 (by decide) ?_
        exact g_weak (lc' := [some _, some _, some _]) ⟨rfl, rfl, rfl, trivial⟩ (ih _ _ _ h)
set_option maxRecDepth 100000 in
set_option maxHeartbeats 4000000 in
theorem c_X4_readNumber {l : Launch} {D : DT} {μ : Mem} {μ' : Mem} (h : f_X4_readNumber μ = some μ') : Ct l D true 2 yX4_readNumber cX4_readNumber 3 none [.ref (D.1 48)] μ none μ' := by
  refine Ct.of (own := RX4) (lc0 := [some (.ref (D.1 48)), none, none]) pn_X4 rfl (Nat.le_of_ble_eq_true rfl) rfl mv_X4_readNumber.2.2.2.1 (fun X hX => ?_)
  unfold f_X4_readNumber at h
  refine g_iconst hX dX4_readNumber_0 k_0 ?_
  refine g_istore_n (lc' := [some _, some _, none]) hX dX4_readNumber_1 rfl (by decide) rfl rfl ?_
  refine g_iconst hX dX4_readNumber_2 k_0 ?_
  refine g_istore_n (lc' := [some _, some _, some _]) hX dX4_readNumber_3 rfl (by decide) rfl rfl ?_
  exact g_weak (lc' := [some _, some _, some _]) ⟨rfl, rfl, rfl, trivial⟩ (t_X4_readNumber_4 hX 2000 _ _ _ h)
set_option maxRecDepth 100000 in
set_option maxHeartbeats 4000000 in
theorem c_X4_readClosing {l : Launch} {D : DT} {μ : Mem} {μ' : Mem} (h : f_X4_readClosing μ = some μ') : Ct l D true 2 yX4_readClosing cX4_readClosing 1 none [.ref (D.1 48)] μ none μ' := by
  refine Ct.of (own := RX4) (lc0 := [some (.ref (D.1 48))]) pn_X4 rfl (Nat.le_of_ble_eq_true rfl) rfl mv_X4_readClosing.2.2.2.1 (fun X hX => ?_)
  unfold f_X4_readClosing at h
  refine g_aload_n hX dX4_readClosing_0 rfl rfl ?_
  obtain ⟨r1, hr1, h⟩ := bd_some h
  refine g_callVi hX (c_X4_next hr1) mv_X4_next wm_564 kd_true_48 rfl (by decide) (by decide) rfl rfl (Nat.le_of_ble_eq_true rfl) dX4_readClosing_1 ?_
  refine g_bipush hX dX4_readClosing_4 kb_41 ?_
  refine g_icmp_ne (tgt := 22) hX dX4_readClosing_6 (by decide) (fun q2 => ?_) (fun q2 => ?_)
  · rw [if_neg q2] at h
    refine g_aload_n hX dX4_readClosing_22 rfl rfl ?_
    obtain ⟨μ3, hμ3, h⟩ := bd_some h
    refine g_callVv hX (c_X4_miss hμ3) mv_X4_miss wm_583 kd_true_48 rfl (by decide) (by decide) rfl rfl (Nat.le_of_ble_eq_true rfl) dX4_readClosing_23 ?_
    obtain rfl := Option.some.inj h
    exact g_vret hX rfl dX4_readClosing_26
  · rw [if_pos q2] at h
    refine g_aload_n hX dX4_readClosing_9 rfl rfl ?_
    refine g_dup hX dX4_readClosing_10 rfl ?_
    refine g_geti hX kd_true_48 fg_4_4 tf_4_4 w_275 dX4_readClosing_11 ?_
    refine g_iconst hX dX4_readClosing_14 k_1 ?_
    refine g_iadd hX dX4_readClosing_15 ?_
    obtain ⟨μ4, hμ4, h⟩ := wr_some h
    refine g_puti hX kd_true_48 fg_4_4 tf_4_4 tyX4_ok nmX4 rfl w_275 dX4_readClosing_16 hμ4 ?_
    refine g_goto (tgt := 26) hX dX4_readClosing_19 (by decide) ?_
    obtain rfl := Option.some.inj h
    exact g_vret hX rfl dX4_readClosing_26
set_option maxRecDepth 100000 in
set_option maxHeartbeats 4000000 in
theorem t_X4_readName_17 {l : Launch} {D : DT} {X : XT} {μ' : Mem} (hX : Cx l D true X 5 RX4 cX4_readName 3 none) : ∀ (s0 : Int32) (μ : Mem), f_X4_readName_17 s0 μ = some μ' → G l D true X 3 none μ' 17 [some (.ref (D.1 48)), none, none] [.int s0] μ := by
  intro s0 μ h
  unfold f_X4_readName_17 at h
  refine g_istore_n (lc' := [some _, none, some _]) hX dX4_readName_17 rfl (by decide) rfl rfl ?_
  refine g_iload_n hX dX4_readName_18 rfl rfl ?_
  refine g_if_ge (tgt := 29) hX dX4_readName_19 (by decide) (fun q1 => ?_) (fun q1 => ?_)
  · rw [if_pos q1] at h
    refine g_aload_n hX dX4_readName_29 rfl rfl ?_
    refine g_dup hX dX4_readName_30 rfl ?_
    refine g_geti hX kd_true_48 fg_4_4 tf_4_4 w_275 dX4_readName_31 ?_
    refine g_iconst hX dX4_readName_34 k_1 ?_
    refine g_iadd hX dX4_readName_35 ?_
    obtain ⟨μ2, hμ2, h⟩ := wr_some h
    refine g_puti hX kd_true_48 fg_4_4 tf_4_4 tyX4_ok nmX4 rfl w_275 dX4_readName_36 hμ2 ?_
    refine g_aload_n hX dX4_readName_39 rfl rfl ?_
    refine g_iconst hX dX4_readName_40 k_m1 ?_
    refine g_iload_n hX dX4_readName_41 rfl rfl ?_
    refine g_isub hX dX4_readName_42 ?_
    obtain ⟨μ3, hμ3, h⟩ := bd_some h
    refine g_callVv hX (c_X4_write  _ hμ3) mv_X4_write wm_575 kd_true_48 rfl (by decide) (by decide) rfl rfl (Nat.le_of_ble_eq_true rfl) dX4_readName_43 ?_
    obtain rfl := Option.some.inj h
    exact g_vret hX rfl dX4_readName_46
  · rw [if_neg q1] at h
    refine g_aload_n hX dX4_readName_22 rfl rfl ?_
    obtain ⟨μ4, hμ4, h⟩ := bd_some h
    refine g_callVv hX (c_X4_miss hμ4) mv_X4_miss wm_583 kd_true_48 rfl (by decide) (by decide) rfl rfl (Nat.le_of_ble_eq_true rfl) dX4_readName_23 ?_
    refine g_goto (tgt := 46) hX dX4_readName_26 (by decide) ?_
    obtain rfl := Option.some.inj h
    exact g_vret hX rfl dX4_readName_46
set_option maxRecDepth 100000 in
set_option maxHeartbeats 4000000 in
theorem c_X4_readName {l : Launch} {D : DT} {μ : Mem} {μ' : Mem} (v1 : Int32) (h : f_X4_readName v1 μ = some μ') : Ct l D true 5 yX4_readName cX4_readName 3 none [.ref (D.1 48), .int v1] μ none μ' := by
  refine Ct.of (own := RX4) (lc0 := [some (.ref (D.1 48)), some (.int v1), none]) pn_X4 rfl (Nat.le_of_ble_eq_true rfl) rfl mv_X4_readName.2.2.2.1 (fun X hX => ?_)
  unfold f_X4_readName at h
  refine g_iload_n hX dX4_readName_0 rfl rfl ?_
  refine g_if_ge (tgt := 8) hX dX4_readName_1 (by decide) (fun q1 => ?_) (fun q1 => ?_)
  · rw [if_pos q1] at h
    refine g_aload_n hX dX4_readName_8 rfl rfl ?_
    obtain ⟨z2, h⟩ := ck_some h
    refine g_gets hX kd_true_48 fg_4_2 tf_4_2 w_273 z2 dX4_readName_9 ?_
    refine g_iload_n hX dX4_readName_12 rfl rfl ?_
    refine g_i2c hX dX4_readName_13 ?_
    obtain ⟨r3, hr3, h⟩ := bd_some h
    refine g_callVSi hX (c_J0_indexOf_0f7a4 (isStr_lt z2) _ hr3) mv_J0_indexOf_0f7a4 wm_591 (isStr_lt z2) rfl (by decide) rfl rfl (Nat.le_of_ble_eq_true rfl) dX4_readName_14 ?_
    exact g_weak (lc' := [some _, none, none]) ⟨rfl, trivial⟩ (t_X4_readName_17 hX _ _ h)
  · rw [if_neg q1] at h
    refine g_iconst hX dX4_readName_4 k_m1 ?_
    refine g_goto (tgt := 17) hX dX4_readName_5 (by decide) ?_
    exact g_weak (lc' := [some _, none, none]) ⟨rfl, trivial⟩ (t_X4_readName_17 hX _ _ h)
set_option maxRecDepth 100000 in
set_option maxHeartbeats 4000000 in
theorem t_X4_readProduct_36 {l : Launch} {D : DT} {X : XT} {P : Int32 → Mem → Option Mem} {dP : Nat} {k12 : Int32 → Int32 → Int32 → Mem → Option Mem} {μ' : Mem} (hX : Cx l D true X (dP + 1) RX4 cX4_readProduct 4 none) (hB : 5 ≤ dP) (hP : ∀ (v1 : Int32) {μ μ' : Mem}, P v1 μ = some μ' → Ct l D true dP yX4_readPart cX4_readPart 4 none [.ref (D.1 48), .int v1] μ none μ') (hk12 : ∀ (v1 : Int32) (v2 : Int32) (v3 : Int32) (μ : Mem), k12 v1 v2 v3 μ = some μ' → G l D true X 4 none μ' 12 [some (.ref (D.1 48)), some (.int v1), some (.int v2), some (.int v3)] [] μ) : ∀ (v1 : Int32) (v2 : Int32) (v3 : Int32) (μ : Mem), f_X4_readProduct_36 P k12 v1 v2 v3 μ = some μ' → G l D true X 4 none μ' 36 [some (.ref (D.1 48)), some (.int v1), some (.int v2), some (.int v3)] [] μ := by
  intro v1 v2 v3 μ h
  unfold f_X4_readProduct_36 at h
  refine g_aload_n hX dX4_readProduct_36 rfl rfl ?_
  refine g_dup hX dX4_readProduct_37 rfl ?_
  refine g_geti hX kd_true_48 fg_4_4 tf_4_4 w_275 dX4_readProduct_38 ?_
  refine g_iconst hX dX4_readProduct_41 k_1 ?_
  refine g_iadd hX dX4_readProduct_42 ?_
  obtain ⟨μ1, hμ1, h⟩ := wr_some h
  refine g_puti hX kd_true_48 fg_4_4 tf_4_4 tyX4_ok nmX4 rfl w_275 dX4_readProduct_43 hμ1 ?_
  refine g_aload_n hX dX4_readProduct_46 rfl rfl ?_
  refine g_iload_n hX dX4_readProduct_47 rfl rfl ?_
  obtain ⟨μ2, hμ2, h⟩ := bd_some h
  refine g_callVv hX (hP  _ hμ2) mv_X4_readPart wm_560 kd_true_48 rfl (by decide) (by omega) rfl rfl (Nat.le_of_ble_eq_true rfl) dX4_readProduct_48 ?_
  refine g_aload_n hX dX4_readProduct_51 rfl rfl ?_
  refine g_iload_n hX dX4_readProduct_52 rfl rfl ?_
  refine g_ineg hX dX4_readProduct_53 ?_
  obtain ⟨μ3, hμ3, h⟩ := bd_some h
  refine g_callVv hX (c_X4_write  _ hμ3) mv_X4_write wm_575 kd_true_48 rfl (by decide) (by omega) rfl rfl (Nat.le_of_ble_eq_true rfl) dX4_readProduct_54 ?_
  refine g_aload_n hX dX4_readProduct_57 rfl rfl ?_
  obtain ⟨r4, hr4, h⟩ := bd_some h
  refine g_callVi hX (c_X4_next hr4) mv_X4_next wm_564 kd_true_48 rfl (by decide) (by omega) rfl rfl (Nat.le_of_ble_eq_true rfl) dX4_readProduct_58 ?_
  refine g_istore_n (lc' := [some _, some _, some _, some _]) hX dX4_readProduct_61 rfl (by decide) rfl rfl ?_
  refine g_iinc (lc' := [some _, some _, some _, some _]) hX dX4_readProduct_62 (by decide) rfl (congrArg _ k_1) rfl rfl ?_
  refine g_goto (tgt := 12) hX dX4_readProduct_65 (by decide) ?_
  exact g_weak (lc' := [some _, some _, some _, some _]) ⟨rfl, rfl, rfl, rfl, trivial⟩ (hk12 _ _ _ _ h)
set_option maxRecDepth 100000 in
set_option maxHeartbeats 4000000 in
theorem t_X4_readProduct_12 {l : Launch} {D : DT} {X : XT} {P : Int32 → Mem → Option Mem} {dP : Nat} {μ' : Mem} (hX : Cx l D true X (dP + 1) RX4 cX4_readProduct 4 none) (hB : 5 ≤ dP) (hP : ∀ (v1 : Int32) {μ μ' : Mem}, P v1 μ = some μ' → Ct l D true dP yX4_readPart cX4_readPart 4 none [.ref (D.1 48), .int v1] μ none μ') : ∀ (n : Nat) (v1 : Int32) (v2 : Int32) (v3 : Int32) (μ : Mem), f_X4_readProduct_12 P n v1 v2 v3 μ = some μ' → G l D true X 4 none μ' 12 [some (.ref (D.1 48)), some (.int v1), some (.int v2), some (.int v3)] [] μ := by
  intro n
  induction n with
  | zero => intro v1 v2 v3 μ h; exact absurd h (by simp [f_X4_readProduct_12])
  | succ n ih =>
    intro v1 v2 v3 μ h
    rw [f_X4_readProduct_12] at h
    refine g_iload_n hX dX4_readProduct_12 rfl rfl ?_
    refine g_bipush hX dX4_readProduct_13 kb_60 ?_
    refine g_icmp_ge (tgt := 68) hX dX4_readProduct_15 (by decide) (fun q1 => ?_) (fun q1 => ?_)
    · rw [if_pos q1] at h
      obtain rfl := Option.some.inj h
      exact g_vret hX rfl dX4_readProduct_68
    · rw [if_neg q1] at h
      refine g_iload_n hX dX4_readProduct_18 rfl rfl ?_
      refine g_bipush hX dX4_readProduct_19 kb_42 ?_
      refine g_icmp_eq (tgt := 36) hX dX4_readProduct_21 (by decide) (fun q2 => ?_) (fun q2 => ?_)
      · rw [if_pos q2] at h
        exact g_weak (lc' := [some _, some _, some _, some _]) ⟨rfl, rfl, rfl, rfl, trivial⟩ (t_X4_readProduct_36 hX hB hP ih _ _ _ _ h)
      · rw [if_neg q2] at h
        refine g_iload_n hX dX4_readProduct_24 rfl rfl ?_
        refine g_bipush hX dX4_readProduct_25 kb_47 ?_
        refine g_icmp_eq (tgt := 36) hX dX4_readProduct_27 (by decide) (fun q3 => ?_) (fun q3 => ?_)
        · rw [if_pos q3] at h
          exact g_weak (lc' := [some _, some _, some _, some _]) ⟨rfl, rfl, rfl, rfl, trivial⟩ (t_X4_readProduct_36 hX hB hP ih _ _ _ _ h)
        · rw [if_neg q3] at h
          refine g_iload_n hX dX4_readProduct_30 rfl rfl ?_
          refine g_bipush hX dX4_readProduct_31 kb_37 ?_
          refine g_icmp_ne (tgt := 68) hX dX4_readProduct_33 (by decide) (fun q4 => ?_) (fun q4 => ?_)
          · rw [if_neg q4] at h
            obtain rfl := Option.some.inj h
            exact g_vret hX rfl dX4_readProduct_68
          · rw [if_pos q4] at h
            exact g_weak (lc' := [some _, some _, some _, some _]) ⟨rfl, rfl, rfl, rfl, trivial⟩ (t_X4_readProduct_36 hX hB hP ih _ _ _ _ h)
set_option maxRecDepth 100000 in
set_option maxHeartbeats 4000000 in
theorem c_X4_readProduct {l : Launch} {D : DT} {P : Int32 → Mem → Option Mem} {dP : Nat} {μ : Mem} {μ' : Mem} (hB : 5 ≤ dP) (hP : ∀ (v1 : Int32) {μ μ' : Mem}, P v1 μ = some μ' → Ct l D true dP yX4_readPart cX4_readPart 4 none [.ref (D.1 48), .int v1] μ none μ') (v1 : Int32) (h : f_X4_readProduct P v1 μ = some μ') : Ct l D true (dP + 1) yX4_readProduct cX4_readProduct 4 none [.ref (D.1 48), .int v1] μ none μ' := by
  refine Ct.of (own := RX4) (lc0 := [some (.ref (D.1 48)), some (.int v1), none, none]) pn_X4 rfl (Nat.le_of_ble_eq_true rfl) rfl mv_X4_readProduct.2.2.2.1 (fun X hX => ?_)
  unfold f_X4_readProduct at h
  refine g_aload_n hX dX4_readProduct_0 rfl rfl ?_
  refine g_iload_n hX dX4_readProduct_1 rfl rfl ?_
  obtain ⟨μ1, hμ1, h⟩ := bd_some h
  refine g_callVv hX (hP  _ hμ1) mv_X4_readPart wm_560 kd_true_48 rfl (by decide) (by omega) rfl rfl (Nat.le_of_ble_eq_true rfl) dX4_readProduct_2 ?_
  refine g_aload_n hX dX4_readProduct_5 rfl rfl ?_
  obtain ⟨r2, hr2, h⟩ := bd_some h
  refine g_callVi hX (c_X4_next hr2) mv_X4_next wm_564 kd_true_48 rfl (by decide) (by omega) rfl rfl (Nat.le_of_ble_eq_true rfl) dX4_readProduct_6 ?_
  refine g_istore_n (lc' := [some _, some _, some _, none]) hX dX4_readProduct_9 rfl (by decide) rfl rfl ?_
  refine g_iconst hX dX4_readProduct_10 k_0 ?_
  refine g_istore_n (lc' := [some _, some _, some _, some _]) hX dX4_readProduct_11 rfl (by decide) rfl rfl ?_
  exact g_weak (lc' := [some _, some _, some _, some _]) ⟨rfl, rfl, rfl, rfl, trivial⟩ (t_X4_readProduct_12 hX hB hP 2000 _ _ _ _ h)
set_option maxRecDepth 100000 in
set_option maxHeartbeats 4000000 in
theorem t_X4_readSum_30 {l : Launch} {D : DT} {X : XT} {P : Int32 → Mem → Option Mem} {dP : Nat} {k12 : Int32 → Int32 → Int32 → Mem → Option Mem} {μ' : Mem} (hX : Cx l D true X (dP + 2) RX4 cX4_readSum 4 none) (hB : 5 ≤ dP) (hP : ∀ (v1 : Int32) {μ μ' : Mem}, P v1 μ = some μ' → Ct l D true dP yX4_readPart cX4_readPart 4 none [.ref (D.1 48), .int v1] μ none μ') (hk12 : ∀ (v1 : Int32) (v2 : Int32) (v3 : Int32) (μ : Mem), k12 v1 v2 v3 μ = some μ' → G l D true X 4 none μ' 12 [some (.ref (D.1 48)), some (.int v1), some (.int v2), some (.int v3)] [] μ) : ∀ (v1 : Int32) (v2 : Int32) (v3 : Int32) (μ : Mem), f_X4_readSum_30 P k12 v1 v2 v3 μ = some μ' → G l D true X 4 none μ' 30 [some (.ref (D.1 48)), some (.int v1), some (.int v2), some (.int v3)] [] μ := by
  intro v1 v2 v3 μ h
  unfold f_X4_readSum_30 at h
  refine g_aload_n hX dX4_readSum_30 rfl rfl ?_
  refine g_dup hX dX4_readSum_31 rfl ?_
  refine g_geti hX kd_true_48 fg_4_4 tf_4_4 w_275 dX4_readSum_32 ?_
  refine g_iconst hX dX4_readSum_35 k_1 ?_
  refine g_iadd hX dX4_readSum_36 ?_
  obtain ⟨μ1, hμ1, h⟩ := wr_some h
  refine g_puti hX kd_true_48 fg_4_4 tf_4_4 tyX4_ok nmX4 rfl w_275 dX4_readSum_37 hμ1 ?_
  refine g_aload_n hX dX4_readSum_40 rfl rfl ?_
  refine g_iload_n hX dX4_readSum_41 rfl rfl ?_
  obtain ⟨μ2, hμ2, h⟩ := bd_some h
  refine g_callVv hX (c_X4_readProduct hB hP  _ hμ2) mv_X4_readProduct wm_556 kd_true_48 rfl (by decide) (by omega) rfl rfl (Nat.le_of_ble_eq_true rfl) dX4_readSum_42 ?_
  refine g_aload_n hX dX4_readSum_45 rfl rfl ?_
  refine g_iload_n hX dX4_readSum_46 rfl rfl ?_
  refine g_ineg hX dX4_readSum_47 ?_
  obtain ⟨μ3, hμ3, h⟩ := bd_some h
  refine g_callVv hX (c_X4_write  _ hμ3) mv_X4_write wm_575 kd_true_48 rfl (by decide) (by omega) rfl rfl (Nat.le_of_ble_eq_true rfl) dX4_readSum_48 ?_
  refine g_aload_n hX dX4_readSum_51 rfl rfl ?_
  obtain ⟨r4, hr4, h⟩ := bd_some h
  refine g_callVi hX (c_X4_next hr4) mv_X4_next wm_564 kd_true_48 rfl (by decide) (by omega) rfl rfl (Nat.le_of_ble_eq_true rfl) dX4_readSum_52 ?_
  refine g_istore_n (lc' := [some _, some _, some _, some _]) hX dX4_readSum_55 rfl (by decide) rfl rfl ?_
  refine g_iinc (lc' := [some _, some _, some _, some _]) hX dX4_readSum_56 (by decide) rfl (congrArg _ k_1) rfl rfl ?_
  refine g_goto (tgt := 12) hX dX4_readSum_59 (by decide) ?_
  exact g_weak (lc' := [some _, some _, some _, some _]) ⟨rfl, rfl, rfl, rfl, trivial⟩ (hk12 _ _ _ _ h)
set_option maxRecDepth 100000 in
set_option maxHeartbeats 4000000 in
theorem t_X4_readSum_12 {l : Launch} {D : DT} {X : XT} {P : Int32 → Mem → Option Mem} {dP : Nat} {μ' : Mem} (hX : Cx l D true X (dP + 2) RX4 cX4_readSum 4 none) (hB : 5 ≤ dP) (hP : ∀ (v1 : Int32) {μ μ' : Mem}, P v1 μ = some μ' → Ct l D true dP yX4_readPart cX4_readPart 4 none [.ref (D.1 48), .int v1] μ none μ') : ∀ (n : Nat) (v1 : Int32) (v2 : Int32) (v3 : Int32) (μ : Mem), f_X4_readSum_12 P n v1 v2 v3 μ = some μ' → G l D true X 4 none μ' 12 [some (.ref (D.1 48)), some (.int v1), some (.int v2), some (.int v3)] [] μ := by
  intro n
  induction n with
  | zero => intro v1 v2 v3 μ h; exact absurd h (by simp [f_X4_readSum_12])
  | succ n ih =>
    intro v1 v2 v3 μ h
    rw [f_X4_readSum_12] at h
    refine g_iload_n hX dX4_readSum_12 rfl rfl ?_
    refine g_bipush hX dX4_readSum_13 kb_60 ?_
    refine g_icmp_ge (tgt := 62) hX dX4_readSum_15 (by decide) (fun q1 => ?_) (fun q1 => ?_)
    · rw [if_pos q1] at h
      obtain rfl := Option.some.inj h
      exact g_vret hX rfl dX4_readSum_62
    · rw [if_neg q1] at h
      refine g_iload_n hX dX4_readSum_18 rfl rfl ?_
      refine g_bipush hX dX4_readSum_19 kb_43 ?_
      refine g_icmp_eq (tgt := 30) hX dX4_readSum_21 (by decide) (fun q2 => ?_) (fun q2 => ?_)
      · rw [if_pos q2] at h
        exact g_weak (lc' := [some _, some _, some _, some _]) ⟨rfl, rfl, rfl, rfl, trivial⟩ (t_X4_readSum_30 hX hB hP ih _ _ _ _ h)
      · rw [if_neg q2] at h
        refine g_iload_n hX dX4_readSum_24 rfl rfl ?_
        refine g_bipush hX dX4_readSum_25 kb_45 ?_
        refine g_icmp_ne (tgt := 62) hX dX4_readSum_27 (by decide) (fun q3 => ?_) (fun q3 => ?_)
        · rw [if_neg q3] at h
          obtain rfl := Option.some.inj h
          exact g_vret hX rfl dX4_readSum_62
        · rw [if_pos q3] at h
          exact g_weak (lc' := [some _, some _, some _, some _]) ⟨rfl, rfl, rfl, rfl, trivial⟩ (t_X4_readSum_30 hX hB hP ih _ _ _ _ h)
set_option maxRecDepth 100000 in
set_option maxHeartbeats 4000000 in
theorem c_X4_readSum {l : Launch} {D : DT} {P : Int32 → Mem → Option Mem} {dP : Nat} {μ : Mem} {μ' : Mem} (hB : 5 ≤ dP) (hP : ∀ (v1 : Int32) {μ μ' : Mem}, P v1 μ = some μ' → Ct l D true dP yX4_readPart cX4_readPart 4 none [.ref (D.1 48), .int v1] μ none μ') (v1 : Int32) (h : f_X4_readSum P v1 μ = some μ') : Ct l D true (dP + 2) yX4_readSum cX4_readSum 4 none [.ref (D.1 48), .int v1] μ none μ' := by
  refine Ct.of (own := RX4) (lc0 := [some (.ref (D.1 48)), some (.int v1), none, none]) pn_X4 rfl (Nat.le_of_ble_eq_true rfl) rfl mv_X4_readSum.2.2.2.1 (fun X hX => ?_)
  unfold f_X4_readSum at h
  refine g_aload_n hX dX4_readSum_0 rfl rfl ?_
  refine g_iload_n hX dX4_readSum_1 rfl rfl ?_
  obtain ⟨μ1, hμ1, h⟩ := bd_some h
  refine g_callVv hX (c_X4_readProduct hB hP  _ hμ1) mv_X4_readProduct wm_556 kd_true_48 rfl (by decide) (by omega) rfl rfl (Nat.le_of_ble_eq_true rfl) dX4_readSum_2 ?_
  refine g_aload_n hX dX4_readSum_5 rfl rfl ?_
  obtain ⟨r2, hr2, h⟩ := bd_some h
  refine g_callVi hX (c_X4_next hr2) mv_X4_next wm_564 kd_true_48 rfl (by decide) (by omega) rfl rfl (Nat.le_of_ble_eq_true rfl) dX4_readSum_6 ?_
  refine g_istore_n (lc' := [some _, some _, some _, none]) hX dX4_readSum_9 rfl (by decide) rfl rfl ?_
  refine g_iconst hX dX4_readSum_10 k_0 ?_
  refine g_istore_n (lc' := [some _, some _, some _, some _]) hX dX4_readSum_11 rfl (by decide) rfl rfl ?_
  exact g_weak (lc' := [some _, some _, some _, some _]) ⟨rfl, rfl, rfl, rfl, trivial⟩ (t_X4_readSum_12 hX hB hP 2000 _ _ _ _ h)
set_option maxRecDepth 100000 in
set_option maxHeartbeats 4000000 in
theorem t_X4_readCompared_28 {l : Launch} {D : DT} {X : XT} {P : Int32 → Mem → Option Mem} {dP : Nat} {μ' : Mem} (hX : Cx l D true X (dP + 3) RX4 cX4_readCompared 3 none) (hB : 5 ≤ dP) (hP : ∀ (v1 : Int32) {μ μ' : Mem}, P v1 μ = some μ' → Ct l D true dP yX4_readPart cX4_readPart 4 none [.ref (D.1 48), .int v1] μ none μ') : ∀ (v1 : Int32) (v2 : Int32) (μ : Mem), f_X4_readCompared_28 P v1 v2 μ = some μ' → G l D true X 3 none μ' 28 [some (.ref (D.1 48)), some (.int v1), some (.int v2)] [] μ := by
  intro v1 v2 μ h
  unfold f_X4_readCompared_28 at h
  refine g_aload_n hX dX4_readCompared_28 rfl rfl ?_
  refine g_dup hX dX4_readCompared_29 rfl ?_
  refine g_geti hX kd_true_48 fg_4_4 tf_4_4 w_275 dX4_readCompared_30 ?_
  refine g_iconst hX dX4_readCompared_33 k_1 ?_
  refine g_iadd hX dX4_readCompared_34 ?_
  obtain ⟨μ1, hμ1, h⟩ := wr_some h
  refine g_puti hX kd_true_48 fg_4_4 tf_4_4 tyX4_ok nmX4 rfl w_275 dX4_readCompared_35 hμ1 ?_
  refine g_aload_n hX dX4_readCompared_38 rfl rfl ?_
  refine g_iload_n hX dX4_readCompared_39 rfl rfl ?_
  obtain ⟨μ2, hμ2, h⟩ := bd_some h
  refine g_callVv hX (c_X4_readSum hB hP  _ hμ2) mv_X4_readSum wm_552 kd_true_48 rfl (by decide) (by omega) rfl rfl (Nat.le_of_ble_eq_true rfl) dX4_readCompared_40 ?_
  refine g_aload_n hX dX4_readCompared_43 rfl rfl ?_
  refine g_iload_n hX dX4_readCompared_44 rfl rfl ?_
  refine g_ineg hX dX4_readCompared_45 ?_
  obtain ⟨μ3, hμ3, h⟩ := bd_some h
  refine g_callVv hX (c_X4_write  _ hμ3) mv_X4_write wm_575 kd_true_48 rfl (by decide) (by omega) rfl rfl (Nat.le_of_ble_eq_true rfl) dX4_readCompared_46 ?_
  obtain rfl := Option.some.inj h
  exact g_vret hX rfl dX4_readCompared_49
set_option maxRecDepth 100000 in
set_option maxHeartbeats 4000000 in
theorem c_X4_readCompared {l : Launch} {D : DT} {P : Int32 → Mem → Option Mem} {dP : Nat} {μ : Mem} {μ' : Mem} (hB : 5 ≤ dP) (hP : ∀ (v1 : Int32) {μ μ' : Mem}, P v1 μ = some μ' → Ct l D true dP yX4_readPart cX4_readPart 4 none [.ref (D.1 48), .int v1] μ none μ') (v1 : Int32) (h : f_X4_readCompared P v1 μ = some μ') : Ct l D true (dP + 3) yX4_readCompared cX4_readCompared 3 none [.ref (D.1 48), .int v1] μ none μ' := by
  refine Ct.of (own := RX4) (lc0 := [some (.ref (D.1 48)), some (.int v1), none]) pn_X4 rfl (Nat.le_of_ble_eq_true rfl) rfl mv_X4_readCompared.2.2.2.1 (fun X hX => ?_)
  unfold f_X4_readCompared at h
  refine g_aload_n hX dX4_readCompared_0 rfl rfl ?_
  refine g_iload_n hX dX4_readCompared_1 rfl rfl ?_
  obtain ⟨μ1, hμ1, h⟩ := bd_some h
  refine g_callVv hX (c_X4_readSum hB hP  _ hμ1) mv_X4_readSum wm_552 kd_true_48 rfl (by decide) (by omega) rfl rfl (Nat.le_of_ble_eq_true rfl) dX4_readCompared_2 ?_
  refine g_aload_n hX dX4_readCompared_5 rfl rfl ?_
  obtain ⟨r2, hr2, h⟩ := bd_some h
  refine g_callVi hX (c_X4_next hr2) mv_X4_next wm_564 kd_true_48 rfl (by decide) (by omega) rfl rfl (Nat.le_of_ble_eq_true rfl) dX4_readCompared_6 ?_
  refine g_istore_n (lc' := [some _, some _, some _]) hX dX4_readCompared_9 rfl (by decide) rfl rfl ?_
  refine g_iload_n hX dX4_readCompared_10 rfl rfl ?_
  refine g_bipush hX dX4_readCompared_11 kb_60 ?_
  refine g_icmp_eq (tgt := 28) hX dX4_readCompared_13 (by decide) (fun q3 => ?_) (fun q3 => ?_)
  · rw [if_pos q3] at h
    exact g_weak (lc' := [some _, some _, some _]) ⟨rfl, rfl, rfl, trivial⟩ (t_X4_readCompared_28 hX hB hP _ _ _ h)
  · rw [if_neg q3] at h
    refine g_iload_n hX dX4_readCompared_16 rfl rfl ?_
    refine g_bipush hX dX4_readCompared_17 kb_61 ?_
    refine g_icmp_eq (tgt := 28) hX dX4_readCompared_19 (by decide) (fun q4 => ?_) (fun q4 => ?_)
    · rw [if_pos q4] at h
      exact g_weak (lc' := [some _, some _, some _]) ⟨rfl, rfl, rfl, trivial⟩ (t_X4_readCompared_28 hX hB hP _ _ _ h)
    · rw [if_neg q4] at h
      refine g_iload_n hX dX4_readCompared_22 rfl rfl ?_
      refine g_bipush hX dX4_readCompared_23 kb_62 ?_
      refine g_icmp_ne (tgt := 49) hX dX4_readCompared_25 (by decide) (fun q5 => ?_) (fun q5 => ?_)
      · rw [if_neg q5] at h
        obtain rfl := Option.some.inj h
        exact g_vret hX rfl dX4_readCompared_49
      · rw [if_pos q5] at h
        exact g_weak (lc' := [some _, some _, some _]) ⟨rfl, rfl, rfl, trivial⟩ (t_X4_readCompared_28 hX hB hP _ _ _ h)
set_option maxRecDepth 100000 in
set_option maxHeartbeats 4000000 in
theorem t_X4_readBoth_7 {l : Launch} {D : DT} {X : XT} {P : Int32 → Mem → Option Mem} {dP : Nat} {μ' : Mem} (hX : Cx l D true X (dP + 4) RX4 cX4_readBoth 3 none) (hB : 5 ≤ dP) (hP : ∀ (v1 : Int32) {μ μ' : Mem}, P v1 μ = some μ' → Ct l D true dP yX4_readPart cX4_readPart 4 none [.ref (D.1 48), .int v1] μ none μ') : ∀ (n : Nat) (v1 : Int32) (v2 : Int32) (μ : Mem), f_X4_readBoth_7 P n v1 v2 μ = some μ' → G l D true X 3 none μ' 7 [some (.ref (D.1 48)), some (.int v1), some (.int v2)] [] μ := by
  intro n
  induction n with
  | zero => intro v1 v2 μ h; exact absurd h (by simp [f_X4_readBoth_7])
  | succ n ih =>
    intro v1 v2 μ h
    rw [f_X4_readBoth_7] at h
    refine g_iload_n hX dX4_readBoth_7 rfl rfl ?_
    refine g_bipush hX dX4_readBoth_8 kb_60 ?_
    refine g_icmp_ge (tgt := 49) hX dX4_readBoth_10 (by decide) (fun q1 => ?_) (fun q1 => ?_)
    · rw [if_pos q1] at h
      obtain rfl := Option.some.inj h
      exact g_vret hX rfl dX4_readBoth_49
    · rw [if_neg q1] at h
      refine g_aload_n hX dX4_readBoth_13 rfl rfl ?_
      obtain ⟨r2, hr2, h⟩ := bd_some h
      refine g_callVi hX (c_X4_next hr2) mv_X4_next wm_564 kd_true_48 rfl (by decide) (by omega) rfl rfl (Nat.le_of_ble_eq_true rfl) dX4_readBoth_14 ?_
      refine g_bipush hX dX4_readBoth_17 kb_38 ?_
      refine g_icmp_ne (tgt := 49) hX dX4_readBoth_19 (by decide) (fun q3 => ?_) (fun q3 => ?_)
      · rw [if_neg q3] at h
        obtain rfl := Option.some.inj h
        exact g_vret hX rfl dX4_readBoth_49
      · rw [if_pos q3] at h
        refine g_aload_n hX dX4_readBoth_22 rfl rfl ?_
        refine g_dup hX dX4_readBoth_23 rfl ?_
        refine g_geti hX kd_true_48 fg_4_4 tf_4_4 w_275 dX4_readBoth_24 ?_
        refine g_iconst hX dX4_readBoth_27 k_1 ?_
        refine g_iadd hX dX4_readBoth_28 ?_
        obtain ⟨μ4, hμ4, h⟩ := wr_some h
        refine g_puti hX kd_true_48 fg_4_4 tf_4_4 tyX4_ok nmX4 rfl w_275 dX4_readBoth_29 hμ4 ?_
        refine g_aload_n hX dX4_readBoth_32 rfl rfl ?_
        refine g_iload_n hX dX4_readBoth_33 rfl rfl ?_
        obtain ⟨μ5, hμ5, h⟩ := bd_some h
        refine g_callVv hX (c_X4_readCompared hB hP  _ hμ5) mv_X4_readCompared wm_548 kd_true_48 rfl (by decide) (by omega) rfl rfl (Nat.le_of_ble_eq_true rfl) dX4_readBoth_34 ?_
        refine g_aload_n hX dX4_readBoth_37 rfl rfl ?_
        refine g_bipush hX dX4_readBoth_38 kb_m38 ?_
        obtain ⟨μ6, hμ6, h⟩ := bd_some h
        refine g_callVv hX (c_X4_write  _ hμ6) mv_X4_write wm_575 kd_true_48 rfl (by decide) (by omega) rfl rfl (Nat.le_of_ble_eq_true rfl) dX4_readBoth_40 ?_
        refine g_iinc (lc' := [some _, some _, some _]) hX dX4_readBoth_43 (by decide) rfl (congrArg _ k_1) rfl rfl ?_
        refine g_goto (tgt := 7) hX dX4_readBoth_46 (by decide) ?_
        exact g_weak (lc' := [some _, some _, some _]) ⟨rfl, rfl, rfl, trivial⟩ (ih _ _ _ h)
set_option maxRecDepth 100000 in
set_option maxHeartbeats 4000000 in
theorem c_X4_readBoth {l : Launch} {D : DT} {P : Int32 → Mem → Option Mem} {dP : Nat} {μ : Mem} {μ' : Mem} (hB : 5 ≤ dP) (hP : ∀ (v1 : Int32) {μ μ' : Mem}, P v1 μ = some μ' → Ct l D true dP yX4_readPart cX4_readPart 4 none [.ref (D.1 48), .int v1] μ none μ') (v1 : Int32) (h : f_X4_readBoth P v1 μ = some μ') : Ct l D true (dP + 4) yX4_readBoth cX4_readBoth 3 none [.ref (D.1 48), .int v1] μ none μ' := by
  refine Ct.of (own := RX4) (lc0 := [some (.ref (D.1 48)), some (.int v1), none]) pn_X4 rfl (Nat.le_of_ble_eq_true rfl) rfl mv_X4_readBoth.2.2.2.1 (fun X hX => ?_)
  unfold f_X4_readBoth at h
  refine g_aload_n hX dX4_readBoth_0 rfl rfl ?_
  refine g_iload_n hX dX4_readBoth_1 rfl rfl ?_
  obtain ⟨μ1, hμ1, h⟩ := bd_some h
  refine g_callVv hX (c_X4_readCompared hB hP  _ hμ1) mv_X4_readCompared wm_548 kd_true_48 rfl (by decide) (by omega) rfl rfl (Nat.le_of_ble_eq_true rfl) dX4_readBoth_2 ?_
  refine g_iconst hX dX4_readBoth_5 k_0 ?_
  refine g_istore_n (lc' := [some _, some _, some _]) hX dX4_readBoth_6 rfl (by decide) rfl rfl ?_
  exact g_weak (lc' := [some _, some _, some _]) ⟨rfl, rfl, rfl, trivial⟩ (t_X4_readBoth_7 hX hB hP 2000 _ _ _ h)
set_option maxRecDepth 100000 in
set_option maxHeartbeats 4000000 in
theorem t_X4_readEither_7 {l : Launch} {D : DT} {X : XT} {P : Int32 → Mem → Option Mem} {dP : Nat} {μ' : Mem} (hX : Cx l D true X (dP + 5) RX4 cX4_readEither 3 none) (hB : 5 ≤ dP) (hP : ∀ (v1 : Int32) {μ μ' : Mem}, P v1 μ = some μ' → Ct l D true dP yX4_readPart cX4_readPart 4 none [.ref (D.1 48), .int v1] μ none μ') : ∀ (n : Nat) (v1 : Int32) (v2 : Int32) (μ : Mem), f_X4_readEither_7 P n v1 v2 μ = some μ' → G l D true X 3 none μ' 7 [some (.ref (D.1 48)), some (.int v1), some (.int v2)] [] μ := by
  intro n
  induction n with
  | zero => intro v1 v2 μ h; exact absurd h (by simp [f_X4_readEither_7])
  | succ n ih =>
    intro v1 v2 μ h
    rw [f_X4_readEither_7] at h
    refine g_iload_n hX dX4_readEither_7 rfl rfl ?_
    refine g_bipush hX dX4_readEither_8 kb_60 ?_
    refine g_icmp_ge (tgt := 49) hX dX4_readEither_10 (by decide) (fun q1 => ?_) (fun q1 => ?_)
    · rw [if_pos q1] at h
      obtain rfl := Option.some.inj h
      exact g_vret hX rfl dX4_readEither_49
    · rw [if_neg q1] at h
      refine g_aload_n hX dX4_readEither_13 rfl rfl ?_
      obtain ⟨r2, hr2, h⟩ := bd_some h
      refine g_callVi hX (c_X4_next hr2) mv_X4_next wm_564 kd_true_48 rfl (by decide) (by omega) rfl rfl (Nat.le_of_ble_eq_true rfl) dX4_readEither_14 ?_
      refine g_bipush hX dX4_readEither_17 kb_124 ?_
      refine g_icmp_ne (tgt := 49) hX dX4_readEither_19 (by decide) (fun q3 => ?_) (fun q3 => ?_)
      · rw [if_neg q3] at h
        obtain rfl := Option.some.inj h
        exact g_vret hX rfl dX4_readEither_49
      · rw [if_pos q3] at h
        refine g_aload_n hX dX4_readEither_22 rfl rfl ?_
        refine g_dup hX dX4_readEither_23 rfl ?_
        refine g_geti hX kd_true_48 fg_4_4 tf_4_4 w_275 dX4_readEither_24 ?_
        refine g_iconst hX dX4_readEither_27 k_1 ?_
        refine g_iadd hX dX4_readEither_28 ?_
        obtain ⟨μ4, hμ4, h⟩ := wr_some h
        refine g_puti hX kd_true_48 fg_4_4 tf_4_4 tyX4_ok nmX4 rfl w_275 dX4_readEither_29 hμ4 ?_
        refine g_aload_n hX dX4_readEither_32 rfl rfl ?_
        refine g_iload_n hX dX4_readEither_33 rfl rfl ?_
        obtain ⟨μ5, hμ5, h⟩ := bd_some h
        refine g_callVv hX (c_X4_readBoth hB hP  _ hμ5) mv_X4_readBoth wm_544 kd_true_48 rfl (by decide) (by omega) rfl rfl (Nat.le_of_ble_eq_true rfl) dX4_readEither_34 ?_
        refine g_aload_n hX dX4_readEither_37 rfl rfl ?_
        refine g_bipush hX dX4_readEither_38 kb_m124 ?_
        obtain ⟨μ6, hμ6, h⟩ := bd_some h
        refine g_callVv hX (c_X4_write  _ hμ6) mv_X4_write wm_575 kd_true_48 rfl (by decide) (by omega) rfl rfl (Nat.le_of_ble_eq_true rfl) dX4_readEither_40 ?_
        refine g_iinc (lc' := [some _, some _, some _]) hX dX4_readEither_43 (by decide) rfl (congrArg _ k_1) rfl rfl ?_
        refine g_goto (tgt := 7) hX dX4_readEither_46 (by decide) ?_
        exact g_weak (lc' := [some _, some _, some _]) ⟨rfl, rfl, rfl, trivial⟩ (ih _ _ _ h)
set_option maxRecDepth 100000 in
set_option maxHeartbeats 4000000 in
theorem c_X4_readEither {l : Launch} {D : DT} {P : Int32 → Mem → Option Mem} {dP : Nat} {μ : Mem} {μ' : Mem} (hB : 5 ≤ dP) (hP : ∀ (v1 : Int32) {μ μ' : Mem}, P v1 μ = some μ' → Ct l D true dP yX4_readPart cX4_readPart 4 none [.ref (D.1 48), .int v1] μ none μ') (v1 : Int32) (h : f_X4_readEither P v1 μ = some μ') : Ct l D true (dP + 5) yX4_readEither cX4_readEither 3 none [.ref (D.1 48), .int v1] μ none μ' := by
  refine Ct.of (own := RX4) (lc0 := [some (.ref (D.1 48)), some (.int v1), none]) pn_X4 rfl (Nat.le_of_ble_eq_true rfl) rfl mv_X4_readEither.2.2.2.1 (fun X hX => ?_)
  unfold f_X4_readEither at h
  refine g_aload_n hX dX4_readEither_0 rfl rfl ?_
  refine g_iload_n hX dX4_readEither_1 rfl rfl ?_
  obtain ⟨μ1, hμ1, h⟩ := bd_some h
  refine g_callVv hX (c_X4_readBoth hB hP  _ hμ1) mv_X4_readBoth wm_544 kd_true_48 rfl (by decide) (by omega) rfl rfl (Nat.le_of_ble_eq_true rfl) dX4_readEither_2 ?_
  refine g_iconst hX dX4_readEither_5 k_0 ?_
  refine g_istore_n (lc' := [some _, some _, some _]) hX dX4_readEither_6 rfl (by decide) rfl rfl ?_
  exact g_weak (lc' := [some _, some _, some _]) ⟨rfl, rfl, rfl, trivial⟩ (t_X4_readEither_7 hX hB hP 2000 _ _ _ h)
