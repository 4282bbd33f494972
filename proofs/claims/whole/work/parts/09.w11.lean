set_option maxRecDepth 100000 in
set_option maxHeartbeats 4000000 in
theorem t_X9_onward_61 {l : Launch} {D : DT} {X : XT} {μ : Mem} {k5 : Int32 → Int32 → Int32 → Int32 → Option Int32} {r : Int32} (hX : Cx l D false X 2 RX9 cX9_onward 6 (some FieldType.int)) (hk5 : ∀ (v1 : Int32) (v2 : Int32) (v3 : Int32) (v4 : Int32), k5 v1 v2 v3 v4 = some r → G l D false X 6 (some (.int r)) μ 5 [some (.ref (D.1 0)), some (.int v1), some (.int v2), some (.int v3), some (.int v4), none] [] μ) : ∀ (v1 : Int32) (v2 : Int32) (v4 : Int32) (s0 : Int32) (s1 : Int32), f_X9_onward_61 k5 μ v1 v2 v4 s0 s1 = some r → G l D false X 6 (some (.int r)) μ 61 [some (.ref (D.1 0)), some (.int v1), some (.int v2), none, some (.int v4), none] [.int s1, .int s0] μ := by
  intro v1 v2 v4 s0 s1 h
  unfold f_X9_onward_61 at h
  refine g_ior hX dX9_onward_61 ?_
  refine g_istore_n (lc' := [some _, some _, some _, some _, some _, none]) hX dX9_onward_62 rfl (by decide) rfl rfl ?_
  refine g_iinc (lc' := [some _, some _, some _, some _, some _, none]) hX dX9_onward_63 (by decide) rfl (congrArg _ k_1) rfl rfl ?_
  refine g_goto (tgt := 5) hX dX9_onward_66 (by decide) ?_
  exact g_weak (lc' := [some _, some _, some _, some _, some _, none]) ⟨rfl, rfl, rfl, rfl, rfl, trivial⟩ (hk5 _ _ _ _ h)
set_option maxRecDepth 100000 in
set_option maxHeartbeats 4000000 in
theorem t_X9_onward_60 {l : Launch} {D : DT} {X : XT} {μ : Mem} {k5 : Int32 → Int32 → Int32 → Int32 → Option Int32} {r : Int32} (hX : Cx l D false X 2 RX9 cX9_onward 6 (some FieldType.int)) (hk5 : ∀ (v1 : Int32) (v2 : Int32) (v3 : Int32) (v4 : Int32), k5 v1 v2 v3 v4 = some r → G l D false X 6 (some (.int r)) μ 5 [some (.ref (D.1 0)), some (.int v1), some (.int v2), some (.int v3), some (.int v4), none] [] μ) : ∀ (v1 : Int32) (v2 : Int32) (v4 : Int32) (s0 : Int32), f_X9_onward_60 k5 μ v1 v2 v4 s0 = some r → G l D false X 6 (some (.int r)) μ 60 [some (.ref (D.1 0)), some (.int v1), some (.int v2), none, some (.int v4), none] [.int s0] μ := by
  intro v1 v2 v4 s0 h
  unfold f_X9_onward_60 at h
  refine g_iconst hX dX9_onward_60 k_0 ?_
  exact g_weak (lc' := [some _, some _, some _, none, some _, none]) ⟨rfl, rfl, rfl, rfl, trivial⟩ (t_X9_onward_61 hX hk5 _ _ _ _ _ h)
set_option maxRecDepth 100000 in
set_option maxHeartbeats 4000000 in
theorem t_X9_onward_5 {l : Launch} {D : DT} {X : XT} {μ : Mem} {r : Int32} (hX : Cx l D false X 2 RX9 cX9_onward 6 (some FieldType.int)) : ∀ (n : Nat) (v1 : Int32) (v2 : Int32) (v3 : Int32) (v4 : Int32), f_X9_onward_5 μ n v1 v2 v3 v4 = some r → G l D false X 6 (some (.int r)) μ 5 [some (.ref (D.1 0)), some (.int v1), some (.int v2), some (.int v3), some (.int v4), none] [] μ := by
  intro n
  induction n with
  | zero => intro v1 v2 v3 v4 h; exact absurd h (by simp [f_X9_onward_5])
  | succ n ih =>
    intro v1 v2 v3 v4 h
    rw [f_X9_onward_5] at h
    refine g_iload hX dX9_onward_5 rfl ?_
    refine g_aload_n hX dX9_onward_7 rfl rfl ?_
    refine g_getr hX kd_false_0 fg_9_0 tf_9_0 w_970 sr_false_0_0 dX9_onward_8 ?_
    refine g_iconst hX dX9_onward_11 k_3 ?_
    refine g_iald hX wk_9_0.1 wk_9_0.2 (by decide) dX9_onward_12 ?_
    refine g_icmp_ge (tgt := 69) hX dX9_onward_13 (by decide) (fun q1 => ?_) (fun q1 => ?_)
    · rw [if_pos q1] at h
      refine g_iload_n hX dX9_onward_69 rfl rfl ?_
      obtain rfl := Option.some.inj h
      exact g_iret hX rfl rfl dX9_onward_70
    · rw [if_neg q1] at h
      refine g_iconst hX dX9_onward_16 k_1 ?_
      refine g_aload_n hX dX9_onward_17 rfl rfl ?_
      refine g_iload hX dX9_onward_18 rfl ?_
      refine g_iconst hX dX9_onward_20 k_0 ?_
      obtain ⟨r2, hr2, h⟩ := bd_some h
      refine g_callVi hX (c_X9_about  _ _ hr2) mv_X9_about wm_1073 kd_false_0 rfl (by decide) (by decide) rfl rfl (Nat.le_of_ble_eq_true rfl) dX9_onward_21 ?_
      refine g_ishl hX dX9_onward_24 ?_
      refine g_iconst hX dX9_onward_25 k_1 ?_
      refine g_aload_n hX dX9_onward_26 rfl rfl ?_
      refine g_iload hX dX9_onward_27 rfl ?_
      refine g_iconst hX dX9_onward_29 k_1 ?_
      obtain ⟨r3, hr3, h⟩ := bd_some h
      refine g_callVi hX (c_X9_about  _ _ hr3) mv_X9_about wm_1073 kd_false_0 rfl (by decide) (by decide) rfl rfl (Nat.le_of_ble_eq_true rfl) dX9_onward_30 ?_
      refine g_ishl hX dX9_onward_33 ?_
      refine g_ior hX dX9_onward_34 ?_
      refine g_istore (lc' := [some _, some _, some _, some _, some _, some _]) hX dX9_onward_35 (by decide) rfl rfl ?_
      refine g_iload_n hX dX9_onward_37 rfl rfl ?_
      refine g_iload_n hX dX9_onward_38 rfl rfl ?_
      refine g_iload hX dX9_onward_39 rfl ?_
      refine g_ishr hX dX9_onward_41 ?_
      refine g_iconst hX dX9_onward_42 k_1 ?_
      refine g_iand hX dX9_onward_43 ?_
      refine g_iconst hX dX9_onward_44 k_1 ?_
      refine g_icmp_ne (tgt := 60) hX dX9_onward_45 (by decide) (fun q4 => ?_) (fun q4 => ?_)
      · rw [if_neg q4] at h
        exact g_weak (lc' := [some _, some _, some _, none, some _, none]) ⟨rfl, rfl, rfl, rfl, trivial⟩ (t_X9_onward_60 hX ih _ _ _ _ h)
      · rw [if_pos q4] at h
        refine g_iload_n hX dX9_onward_48 rfl rfl ?_
        refine g_iload hX dX9_onward_49 rfl ?_
        refine g_iand hX dX9_onward_51 ?_
        refine g_if_eq (tgt := 60) hX dX9_onward_52 (by decide) (fun q5 => ?_) (fun q5 => ?_)
        · rw [if_pos q5] at h
          exact g_weak (lc' := [some _, some _, some _, none, some _, none]) ⟨rfl, rfl, rfl, rfl, trivial⟩ (t_X9_onward_60 hX ih _ _ _ _ h)
        · rw [if_neg q5] at h
          refine g_iload hX dX9_onward_55 rfl ?_
          refine g_goto (tgt := 61) hX dX9_onward_57 (by decide) ?_
          exact g_weak (lc' := [some _, some _, some _, none, some _, none]) ⟨rfl, rfl, rfl, rfl, trivial⟩ (t_X9_onward_61 hX ih _ _ _ _ _ h)
set_option maxRecDepth 100000 in
set_option maxHeartbeats 4000000 in
theorem c_X9_onward {l : Launch} {D : DT} {μ : Mem} {r : Int32} (v1 : Int32) (v2 : Int32) (h : f_X9_onward v1 v2 μ = some r) : Ct l D false 2 yX9_onward cX9_onward 6 (some FieldType.int) [.ref (D.1 0), .int v1, .int v2] μ (some (.int r)) μ := by
  refine Ct.of (own := RX9) (lc0 := [some (.ref (D.1 0)), some (.int v1), some (.int v2), none, none, none]) pn_X9 rfl (Nat.le_of_ble_eq_true rfl) rfl mv_X9_onward.2.2.2.1 (fun X hX => ?_)
  unfold f_X9_onward at h
  refine g_iload_n hX dX9_onward_0 rfl rfl ?_
  refine g_istore_n (lc' := [some _, some _, some _, some _, none, none]) hX dX9_onward_1 rfl (by decide) rfl rfl ?_
  refine g_iconst hX dX9_onward_2 k_0 ?_
  refine g_istore (lc' := [some _, some _, some _, some _, some _, none]) hX dX9_onward_3 (by decide) rfl rfl ?_
  exact g_weak (lc' := [some _, some _, some _, some _, some _, none]) ⟨rfl, rfl, rfl, rfl, rfl, trivial⟩ (t_X9_onward_5 hX 2000 _ _ _ _ h)
set_option maxRecDepth 100000 in
set_option maxHeartbeats 4000000 in
theorem t_X9_roamsBy_7 {l : Launch} {D : DT} {X : XT} {μ : Mem} {r : Int32} (hX : Cx l D false X 3 RX9 cX9_roamsBy 5 (some FieldType.int)) : ∀ (n : Nat) (v2 : Int32) (v3 : Int32) (v4 : Int32), f_X9_roamsBy_7 μ n v2 v3 v4 = some r → G l D false X 5 (some (.int r)) μ 7 [some (.ref (D.1 0)), none, some (.int v2), some (.int v3), some (.int v4)] [] μ := by
  intro n
  induction n with
  | zero => intro v2 v3 v4 h; exact absurd h (by simp [f_X9_roamsBy_7])
  | succ n ih =>
    intro v2 v3 v4 h
    rw [f_X9_roamsBy_7] at h
    refine g_iload_n hX dX9_roamsBy_7 rfl rfl ?_
    refine g_iload hX dX9_roamsBy_8 rfl ?_
    refine g_icmp_eq (tgt := 26) hX dX9_roamsBy_10 (by decide) (fun q1 => ?_) (fun q1 => ?_)
    · rw [if_pos q1] at h
      refine g_iload_n hX dX9_roamsBy_26 rfl rfl ?_
      obtain rfl := Option.some.inj h
      exact g_iret hX rfl rfl dX9_roamsBy_27
    · rw [if_neg q1] at h
      refine g_iload_n hX dX9_roamsBy_13 rfl rfl ?_
      refine g_istore (lc' := [some _, none, some _, some _, some _]) hX dX9_roamsBy_14 (by decide) rfl rfl ?_
      refine g_aload_n hX dX9_roamsBy_16 rfl rfl ?_
      refine g_iload_n hX dX9_roamsBy_17 rfl rfl ?_
      refine g_iload_n hX dX9_roamsBy_18 rfl rfl ?_
      obtain ⟨r2, hr2, h⟩ := bd_some h
      refine g_callVi hX (c_X9_onward  _ _ hr2) mv_X9_onward wm_1317 kd_false_0 rfl (by decide) (by decide) rfl rfl (Nat.le_of_ble_eq_true rfl) dX9_roamsBy_19 ?_
      refine g_istore_n (lc' := [some _, none, some _, some _, some _]) hX dX9_roamsBy_22 rfl (by decide) rfl rfl ?_
      refine g_goto (tgt := 7) hX dX9_roamsBy_23 (by decide) ?_
      exact g_weak (lc' := [some _, none, some _, some _, some _]) ⟨rfl, rfl, rfl, rfl, trivial⟩ (ih _ _ _ h)
set_option maxRecDepth 100000 in
set_option maxHeartbeats 4000000 in
theorem c_X9_roamsBy {l : Launch} {D : DT} {μ : Mem} {r : Int32} (v1 : Int32) (v2 : Int32) (h : f_X9_roamsBy v1 v2 μ = some r) : Ct l D false 3 yX9_roamsBy cX9_roamsBy 5 (some FieldType.int) [.ref (D.1 0), .int v1, .int v2] μ (some (.int r)) μ := by
  refine Ct.of (own := RX9) (lc0 := [some (.ref (D.1 0)), some (.int v1), some (.int v2), none, none]) pn_X9 rfl (Nat.le_of_ble_eq_true rfl) rfl mv_X9_roamsBy.2.2.2.1 (fun X hX => ?_)
  unfold f_X9_roamsBy at h
  refine g_iconst hX dX9_roamsBy_0 k_1 ?_
  refine g_iload_n hX dX9_roamsBy_1 rfl rfl ?_
  refine g_ishl hX dX9_roamsBy_2 ?_
  refine g_istore_n (lc' := [some _, some _, some _, some _, none]) hX dX9_roamsBy_3 rfl (by decide) rfl rfl ?_
  refine g_iconst hX dX9_roamsBy_4 k_0 ?_
  refine g_istore (lc' := [some _, some _, some _, some _, some _]) hX dX9_roamsBy_5 (by decide) rfl rfl ?_
  exact g_weak (lc' := [some _, none, some _, some _, some _]) ⟨rfl, rfl, rfl, rfl, trivial⟩ (t_X9_roamsBy_7 hX 2000 _ _ _ h)
set_option maxRecDepth 100000 in
set_option maxHeartbeats 4000000 in
theorem t_X9_cut_17 {l : Launch} {D : DT} {X : XT} {r : Int32} {μ' : Mem} (hX : Cx l D false X 4 RX9 cX9_cut 7 (some FieldType.int)) : ∀ (μ : Mem), f_X9_cut_17 μ = some (r, μ') → G l D false X 7 (some (.int r)) μ' 17 [some (.ref (D.1 0)), none, none, none, none, none, none] [] μ := by
  intro μ h
  unfold f_X9_cut_17 at h
  refine g_aload_n hX dX9_cut_17 rfl rfl ?_
  refine g_ldc hX dX9_cut_18 wc_1050 ?_
  obtain ⟨r1, μ2, hr1, h⟩ := bd2_some h
  refine g_callVi hX (c_X9_error  _ hr1) mv_X9_error wm_1051 kd_false_0 rfl (by decide) (by decide) rfl rfl (Nat.le_of_ble_eq_true rfl) dX9_cut_20 ?_
  obtain ⟨rfl, rfl⟩ := pair_inj h
  exact g_iret hX rfl rfl dX9_cut_23
set_option maxRecDepth 100000 in
set_option maxHeartbeats 4000000 in
theorem t_X9_cut_105 {l : Launch} {D : DT} {X : XT} {r : Int32} {μ' : Mem} (hX : Cx l D false X 4 RX9 cX9_cut 7 (some FieldType.int)) : ∀ (v3 : Int32) (v4 : Int32) (μ : Mem), f_X9_cut_105 v3 v4 μ = some (r, μ') → G l D false X 7 (some (.int r)) μ' 105 [none, none, none, some (.int v3), some (.int v4), none, none] [] μ := by
  intro v3 v4 μ h
  unfold f_X9_cut_105 at h
  refine g_iload_n hX dX9_cut_105 rfl rfl ?_
  refine g_if_ne (tgt := 117) hX dX9_cut_106 (by decide) (fun q1 => ?_) (fun q1 => ?_)
  · rw [if_neg q1] at h
    refine g_iload hX dX9_cut_117 rfl ?_
    obtain ⟨rfl, rfl⟩ := pair_inj h
    exact g_iret hX rfl rfl dX9_cut_119
  · rw [if_pos q1] at h
    refine g_iload hX dX9_cut_109 rfl ?_
    obtain ⟨r2, hr2, h⟩ := bd_some h
    refine g_callSi hX (c_X9_bits  _ hr2) mv_X9_bits wm_1325 (by decide) rfl rfl (Nat.le_of_ble_eq_true rfl) dX9_cut_111 ?_
    refine g_goto (tgt := 119) hX dX9_cut_114 (by decide) ?_
    obtain ⟨rfl, rfl⟩ := pair_inj h
    exact g_iret hX rfl rfl dX9_cut_119
set_option maxRecDepth 100000 in
set_option maxHeartbeats 4000000 in
theorem t_X9_cut_95 {l : Launch} {D : DT} {X : XT} {k30 : Int32 → Int32 → Int32 → Int32 → Int32 → Mem → Option (Int32 × Mem)} {r : Int32} {μ' : Mem} (hX : Cx l D false X 4 RX9 cX9_cut 7 (some FieldType.int)) (hk30 : ∀ (v1 : Int32) (v2 : Int32) (v3 : Int32) (v4 : Int32) (v5 : Int32) (μ : Mem), k30 v1 v2 v3 v4 v5 μ = some (r, μ') → G l D false X 7 (some (.int r)) μ' 30 [some (.ref (D.1 0)), some (.int v1), some (.int v2), some (.int v3), some (.int v4), some (.int v5), none] [] μ) : ∀ (v1 : Int32) (v2 : Int32) (v3 : Int32) (v4 : Int32) (v5 : Int32) (μ : Mem), f_X9_cut_95 k30 v1 v2 v3 v4 v5 μ = some (r, μ') → G l D false X 7 (some (.int r)) μ' 95 [some (.ref (D.1 0)), some (.int v1), some (.int v2), some (.int v3), some (.int v4), some (.int v5), none] [] μ := by
  intro v1 v2 v3 v4 v5 μ h
  unfold f_X9_cut_95 at h
  refine g_iload hX dX9_cut_95 rfl ?_
  refine g_istore (lc' := [some _, some _, some _, some _, some _, some _, none]) hX dX9_cut_97 (by decide) rfl rfl ?_
  refine g_iinc (lc' := [some _, some _, some _, some _, some _, some _, none]) hX dX9_cut_99 (by decide) rfl (congrArg _ k_1) rfl rfl ?_
  refine g_goto (tgt := 30) hX dX9_cut_102 (by decide) ?_
  exact g_weak (lc' := [some _, some _, some _, some _, some _, some _, none]) ⟨rfl, rfl, rfl, rfl, rfl, rfl, trivial⟩ (hk30 _ _ _ _ _ _ h)
set_option maxRecDepth 100000 in
set_option maxHeartbeats 4000000 in
theorem t_X9_cut_62 {l : Launch} {D : DT} {X : XT} {k30 : Int32 → Int32 → Int32 → Int32 → Int32 → Mem → Option (Int32 × Mem)} {r : Int32} {μ' : Mem} (hX : Cx l D false X 4 RX9 cX9_cut 7 (some FieldType.int)) (hk30 : ∀ (v1 : Int32) (v2 : Int32) (v3 : Int32) (v4 : Int32) (v5 : Int32) (μ : Mem), k30 v1 v2 v3 v4 v5 μ = some (r, μ') → G l D false X 7 (some (.int r)) μ' 30 [some (.ref (D.1 0)), some (.int v1), some (.int v2), some (.int v3), some (.int v4), some (.int v5), none] [] μ) : ∀ (v1 : Int32) (v2 : Int32) (v3 : Int32) (v4 : Int32) (v5 : Int32) (s0 : Int32) (μ : Mem), f_X9_cut_62 k30 v1 v2 v3 v4 v5 s0 μ = some (r, μ') → G l D false X 7 (some (.int r)) μ' 62 [some (.ref (D.1 0)), some (.int v1), some (.int v2), some (.int v3), some (.int v4), some (.int v5), none] [.int s0] μ := by
  intro v1 v2 v3 v4 v5 s0 μ h
  unfold f_X9_cut_62 at h
  refine g_istore (lc' := [some _, some _, some _, some _, some _, some _, some _]) hX dX9_cut_62 (by decide) rfl rfl ?_
  refine g_iload hX dX9_cut_64 rfl ?_
  refine g_if_eq (tgt := 95) hX dX9_cut_66 (by decide) (fun q1 => ?_) (fun q1 => ?_)
  · rw [if_pos q1] at h
    exact g_weak (lc' := [some _, some _, some _, some _, some _, some _, none]) ⟨rfl, rfl, rfl, rfl, rfl, rfl, trivial⟩ (t_X9_cut_95 hX hk30 _ _ _ _ _ _ h)
  · rw [if_neg q1] at h
    refine g_aload_n hX dX9_cut_69 rfl rfl ?_
    refine g_iload_n hX dX9_cut_70 rfl rfl ?_
    refine g_aload_n hX dX9_cut_71 rfl rfl ?_
    refine g_callVi hX (c_X9_all) mv_X9_all wm_1313 kd_false_0 rfl (by decide) (by decide) rfl rfl (Nat.le_of_ble_eq_true rfl) dX9_cut_72 ?_
    refine g_iload hX dX9_cut_75 rfl ?_
    refine g_iconst hX dX9_cut_77 k_m1 ?_
    refine g_ixor hX dX9_cut_78 ?_
    refine g_iand hX dX9_cut_79 ?_
    obtain ⟨r2, hr2, h⟩ := bd_some h
    refine g_callVi hX (c_X9_roamsBy  _ _ hr2) mv_X9_roamsBy wm_1328 kd_false_0 rfl (by decide) (by decide) rfl rfl (Nat.le_of_ble_eq_true rfl) dX9_cut_80 ?_
    refine g_iload_n hX dX9_cut_83 rfl rfl ?_
    refine g_ishr hX dX9_cut_84 ?_
    refine g_iconst hX dX9_cut_85 k_1 ?_
    refine g_iand hX dX9_cut_86 ?_
    refine g_if_ne (tgt := 95) hX dX9_cut_87 (by decide) (fun q3 => ?_) (fun q3 => ?_)
    · rw [if_neg q3] at h
      exact g_weak (lc' := [some _, some _, some _, some _, some _, some _, none]) ⟨rfl, rfl, rfl, rfl, rfl, rfl, trivial⟩ (t_X9_cut_95 hX hk30 _ _ _ _ _ _ h)
    · rw [if_pos q3] at h
      refine g_iload hX dX9_cut_90 rfl ?_
      refine g_goto (tgt := 97) hX dX9_cut_92 (by decide) ?_
      refine g_istore (lc' := [some _, some _, some _, some _, some _, some _, some _]) hX dX9_cut_97 (by decide) rfl rfl ?_
      refine g_iinc (lc' := [some _, some _, some _, some _, some _, some _, some _]) hX dX9_cut_99 (by decide) rfl (congrArg _ k_1) rfl rfl ?_
      refine g_goto (tgt := 30) hX dX9_cut_102 (by decide) ?_
      exact g_weak (lc' := [some _, some _, some _, some _, some _, some _, none]) ⟨rfl, rfl, rfl, rfl, rfl, rfl, trivial⟩ (hk30 _ _ _ _ _ _ h)
set_option maxRecDepth 100000 in
set_option maxHeartbeats 4000000 in
theorem t_X9_cut_57 {l : Launch} {D : DT} {X : XT} {k30 : Int32 → Int32 → Int32 → Int32 → Int32 → Mem → Option (Int32 × Mem)} {r : Int32} {μ' : Mem} (hX : Cx l D false X 4 RX9 cX9_cut 7 (some FieldType.int)) (hk30 : ∀ (v1 : Int32) (v2 : Int32) (v3 : Int32) (v4 : Int32) (v5 : Int32) (μ : Mem), k30 v1 v2 v3 v4 v5 μ = some (r, μ') → G l D false X 7 (some (.int r)) μ' 30 [some (.ref (D.1 0)), some (.int v1), some (.int v2), some (.int v3), some (.int v4), some (.int v5), none] [] μ) : ∀ (v1 : Int32) (v2 : Int32) (v3 : Int32) (v4 : Int32) (v5 : Int32) (μ : Mem), f_X9_cut_57 k30 v1 v2 v3 v4 v5 μ = some (r, μ') → G l D false X 7 (some (.int r)) μ' 57 [some (.ref (D.1 0)), some (.int v1), some (.int v2), some (.int v3), some (.int v4), some (.int v5), none] [] μ := by
  intro v1 v2 v3 v4 v5 μ h
  unfold f_X9_cut_57 at h
  refine g_iconst hX dX9_cut_57 k_1 ?_
  refine g_goto (tgt := 62) hX dX9_cut_58 (by decide) ?_
  exact g_weak (lc' := [some _, some _, some _, some _, some _, some _, none]) ⟨rfl, rfl, rfl, rfl, rfl, rfl, trivial⟩ (t_X9_cut_62 hX hk30 _ _ _ _ _ _ _ h)
set_option maxRecDepth 100000 in
set_option maxHeartbeats 4000000 in
theorem t_X9_cut_30 {l : Launch} {D : DT} {X : XT} {r : Int32} {μ' : Mem} (hX : Cx l D false X 4 RX9 cX9_cut 7 (some FieldType.int)) : ∀ (n : Nat) (v1 : Int32) (v2 : Int32) (v3 : Int32) (v4 : Int32) (v5 : Int32) (μ : Mem), f_X9_cut_30 n v1 v2 v3 v4 v5 μ = some (r, μ') → G l D false X 7 (some (.int r)) μ' 30 [some (.ref (D.1 0)), some (.int v1), some (.int v2), some (.int v3), some (.int v4), some (.int v5), none] [] μ := by
  intro n
  induction n with
  | zero => intro v1 v2 v3 v4 v5 μ h; exact absurd h (by simp [f_X9_cut_30])
  | succ n ih =>
    intro v1 v2 v3 v4 v5 μ h
    rw [f_X9_cut_30] at h
    refine g_iload hX dX9_cut_30 rfl ?_
    refine g_aload_n hX dX9_cut_32 rfl rfl ?_
    refine g_callVi hX (c_X9_all) mv_X9_all wm_1313 kd_false_0 rfl (by decide) (by decide) rfl rfl (Nat.le_of_ble_eq_true rfl) dX9_cut_33 ?_
    refine g_icmp_gt (tgt := 105) hX dX9_cut_36 (by decide) (fun q1 => ?_) (fun q1 => ?_)
    · rw [if_pos q1] at h
      exact g_weak (lc' := [none, none, none, some _, some _, none, none]) ⟨rfl, rfl, trivial⟩ (t_X9_cut_105 hX _ _ _ h)
    · rw [if_neg q1] at h
      refine g_iload hX dX9_cut_39 rfl ?_
      refine g_if_lt (tgt := 57) hX dX9_cut_41 (by decide) (fun q2 => ?_) (fun q2 => ?_)
      · rw [if_pos q2] at h
        exact g_weak (lc' := [some _, some _, some _, some _, some _, some _, none]) ⟨rfl, rfl, rfl, rfl, rfl, rfl, trivial⟩ (t_X9_cut_57 hX ih _ _ _ _ _ _ h)
      · rw [if_neg q2] at h
        refine g_iload hX dX9_cut_44 rfl ?_
        obtain ⟨r3, hr3, h⟩ := bd_some h
        refine g_callSi hX (c_X9_bits  _ hr3) mv_X9_bits wm_1325 (by decide) rfl rfl (Nat.le_of_ble_eq_true rfl) dX9_cut_46 ?_
        refine g_iload hX dX9_cut_49 rfl ?_
        obtain ⟨r4, hr4, h⟩ := bd_some h
        refine g_callSi hX (c_X9_bits  _ hr4) mv_X9_bits wm_1325 (by decide) rfl rfl (Nat.le_of_ble_eq_true rfl) dX9_cut_51 ?_
        refine g_icmp_ge (tgt := 61) hX dX9_cut_54 (by decide) (fun q5 => ?_) (fun q5 => ?_)
        · rw [if_pos q5] at h
          refine g_iconst hX dX9_cut_61 k_0 ?_
          exact g_weak (lc' := [some _, some _, some _, some _, some _, some _, none]) ⟨rfl, rfl, rfl, rfl, rfl, rfl, trivial⟩ (t_X9_cut_62 hX ih _ _ _ _ _ _ _ h)
        · rw [if_neg q5] at h
          exact g_weak (lc' := [some _, some _, some _, some _, some _, some _, none]) ⟨rfl, rfl, rfl, rfl, rfl, rfl, trivial⟩ (t_X9_cut_57 hX ih _ _ _ _ _ _ h)
set_option maxRecDepth 100000 in
set_option maxHeartbeats 4000000 in
theorem c_X9_cut {l : Launch} {D : DT} {μ : Mem} {r : Int32} {μ' : Mem} (v1 : Int32) (v2 : Int32) (v3 : Int32) (h : f_X9_cut v1 v2 v3 μ = some (r, μ')) : Ct l D false 4 yX9_cut cX9_cut 7 (some FieldType.int) [.ref (D.1 0), .int v1, .int v2, .int v3] μ (some (.int r)) μ' := by
  refine Ct.of (own := RX9) (lc0 := [some (.ref (D.1 0)), some (.int v1), some (.int v2), some (.int v3), none, none, none]) pn_X9 rfl (Nat.le_of_ble_eq_true rfl) rfl mv_X9_cut.2.2.2.1 (fun X hX => ?_)
  unfold f_X9_cut at h
  refine g_iload_n hX dX9_cut_0 rfl rfl ?_
  refine g_iload_n hX dX9_cut_1 rfl rfl ?_
  refine g_callSi hX (c_X9_areTwo  v1 v2) mv_X9_areTwo wm_1128 (by decide) rfl rfl (Nat.le_of_ble_eq_true rfl) dX9_cut_2 ?_
  refine g_if_eq (tgt := 17) hX dX9_cut_5 (by decide) (fun q1 => ?_) (fun q1 => ?_)
  · rw [if_pos q1] at h
    exact g_weak (lc' := [some _, none, none, none, none, none, none]) ⟨rfl, trivial⟩ (t_X9_cut_17 hX _ h)
  · rw [if_neg q1] at h
    refine g_iload_n hX dX9_cut_8 rfl rfl ?_
    refine g_iconst hX dX9_cut_9 k_0 ?_
    refine g_iconst hX dX9_cut_10 k_1 ?_
    refine g_callSi hX (c_X9_in  v3 0 1) mv_X9_in wm_1047 (by decide) rfl rfl (Nat.le_of_ble_eq_true rfl) dX9_cut_11 ?_
    refine g_if_ne (tgt := 24) hX dX9_cut_14 (by decide) (fun q2 => ?_) (fun q2 => ?_)
    · rw [if_neg q2] at h
      refine g_iconst hX dX9_cut_24 k_m1 ?_
      refine g_istore (lc' := [some _, some _, some _, some _, some _, none, none]) hX dX9_cut_25 (by decide) rfl rfl ?_
      refine g_iconst hX dX9_cut_27 k_0 ?_
      refine g_istore (lc' := [some _, some _, some _, some _, some _, some _, none]) hX dX9_cut_28 (by decide) rfl rfl ?_
      exact g_weak (lc' := [some _, some _, some _, some _, some _, some _, none]) ⟨rfl, rfl, rfl, rfl, rfl, rfl, trivial⟩ (t_X9_cut_30 hX 2000 _ _ _ _ _ _ h)
    · rw [if_pos q2] at h
      exact g_weak (lc' := [some _, none, none, none, none, none, none]) ⟨rfl, trivial⟩ (t_X9_cut_17 hX _ h)
set_option maxRecDepth 100000 in
set_option maxHeartbeats 4000000 in
theorem c_X9_draw {l : Launch} {D : DT} {μ : Mem} {r : Int32} {μ' : Mem} (h : f_X9_draw μ = some (r, μ')) : Ct l D false 1 yX9_draw cX9_draw 1 (some FieldType.int) [.ref (D.1 0)] μ (some (.int r)) μ' := by
  refine Ct.of (own := RX9) (lc0 := [some (.ref (D.1 0))]) pn_X9 rfl (Nat.le_of_ble_eq_true rfl) rfl mv_X9_draw.2.2.2.1 (fun X hX => ?_)
  unfold f_X9_draw at h
  refine g_aload_n hX dX9_draw_0 rfl rfl ?_
  refine g_getr hX kd_false_0 fg_9_0 tf_9_0 w_970 sr_false_0_0 dX9_draw_1 ?_
  refine g_iconst hX dX9_draw_4 k_1 ?_
  refine g_aload_n hX dX9_draw_5 rfl rfl ?_
  refine g_getr hX kd_false_0 fg_9_0 tf_9_0 w_970 sr_false_0_0 dX9_draw_6 ?_
  refine g_iconst hX dX9_draw_9 k_1 ?_
  refine g_iald hX wk_9_0.1 wk_9_0.2 (by decide) dX9_draw_10 ?_
  refine g_ldc hX dX9_draw_11 wc_1268 ?_
  refine g_imul hX dX9_draw_13 ?_
  refine g_sipush hX dX9_draw_14 ks_12345 ?_
  refine g_iadd hX dX9_draw_17 ?_
  obtain ⟨μ1, hμ1, h⟩ := wr_some h
  refine g_iastM hX wk_9_0.1 wk_9_0.2 (by decide) dX9_draw_18 hμ1 ?_
  refine g_aload_n hX dX9_draw_19 rfl rfl ?_
  refine g_getr hX kd_false_0 fg_9_0 tf_9_0 w_970 sr_false_0_0 dX9_draw_20 ?_
  refine g_iconst hX dX9_draw_23 k_1 ?_
  refine g_iald hX wk_9_0.1 wk_9_0.2 (by decide) dX9_draw_24 ?_
  refine g_bipush hX dX9_draw_25 kb_8 ?_
  refine g_iushr hX dX9_draw_27 ?_
  obtain ⟨rfl, rfl⟩ := pair_inj h
  exact g_iret hX rfl rfl dX9_draw_28
set_option maxRecDepth 100000 in
set_option maxHeartbeats 4000000 in
theorem c_X9_lets {l : Launch} {D : DT} {μ : Mem} {μ' : Mem} (v1 : Int32) (v2 : Int32) (v3 : Int32) (h : f_X9_lets v1 v2 v3 μ = some μ') : Ct l D false 1 yX9_lets cX9_lets 4 none [.ref (D.1 0), .int v1, .int v2, .int v3] μ none μ' := by
  refine Ct.of (own := RX9) (lc0 := [some (.ref (D.1 0)), some (.int v1), some (.int v2), some (.int v3)]) pn_X9 rfl (Nat.le_of_ble_eq_true rfl) rfl mv_X9_lets.2.2.2.1 (fun X hX => ?_)
  unfold f_X9_lets at h
  refine g_aload_n hX dX9_lets_0 rfl rfl ?_
  refine g_getr hX kd_false_0 fg_9_0 tf_9_0 w_970 sr_false_0_0 dX9_lets_1 ?_
  refine g_bipush hX dX9_lets_4 kb_27 ?_
  refine g_iconst hX dX9_lets_6 k_4 ?_
  refine g_iload_n hX dX9_lets_7 rfl rfl ?_
  refine g_imul hX dX9_lets_8 ?_
  refine g_iadd hX dX9_lets_9 ?_
  refine g_iload_n hX dX9_lets_10 rfl rfl ?_
  refine g_iadd hX dX9_lets_11 ?_
  refine g_iload_n hX dX9_lets_12 rfl rfl ?_
  obtain ⟨z2, h⟩ := ck_some h
  obtain ⟨μ1, hμ1, h⟩ := wr_some h
  refine g_iastM hX wk_9_0.1 wk_9_0.2 z2 dX9_lets_13 hμ1 ?_
  obtain rfl := Option.some.inj h
  exact g_vret hX rfl dX9_lets_14
set_option maxRecDepth 100000 in
set_option maxHeartbeats 4000000 in
theorem t_X9_howManyBy_30 {l : Launch} {D : DT} {X : XT} {μ : Mem} {k4 : Int32 → Int32 → Int32 → Option Int32} {r : Int32} (hX : Cx l D false X 2 RX9 cX9_howManyBy 4 (some FieldType.int)) (hk4 : ∀ (v1 : Int32) (v2 : Int32) (v3 : Int32), k4 v1 v2 v3 = some r → G l D false X 4 (some (.int r)) μ 4 [some (.ref (D.1 0)), some (.int v1), some (.int v2), some (.int v3)] [] μ) : ∀ (v1 : Int32) (v3 : Int32) (s0 : Int32) (s1 : Int32), f_X9_howManyBy_30 k4 μ v1 v3 s0 s1 = some r → G l D false X 4 (some (.int r)) μ 30 [some (.ref (D.1 0)), some (.int v1), none, some (.int v3)] [.int s1, .int s0] μ := by
  intro v1 v3 s0 s1 h
  unfold f_X9_howManyBy_30 at h
  refine g_iadd hX dX9_howManyBy_30 ?_
  refine g_istore_n (lc' := [some _, some _, some _, some _]) hX dX9_howManyBy_31 rfl (by decide) rfl rfl ?_
  refine g_iinc (lc' := [some _, some _, some _, some _]) hX dX9_howManyBy_32 (by decide) rfl (congrArg _ k_1) rfl rfl ?_
  refine g_goto (tgt := 4) hX dX9_howManyBy_35 (by decide) ?_
  exact g_weak (lc' := [some _, some _, some _, some _]) ⟨rfl, rfl, rfl, rfl, trivial⟩ (hk4 _ _ _ h)
set_option maxRecDepth 100000 in
set_option maxHeartbeats 4000000 in
theorem t_X9_howManyBy_4 {l : Launch} {D : DT} {X : XT} {μ : Mem} {r : Int32} (hX : Cx l D false X 2 RX9 cX9_howManyBy 4 (some FieldType.int)) : ∀ (n : Nat) (v1 : Int32) (v2 : Int32) (v3 : Int32), f_X9_howManyBy_4 μ n v1 v2 v3 = some r → G l D false X 4 (some (.int r)) μ 4 [some (.ref (D.1 0)), some (.int v1), some (.int v2), some (.int v3)] [] μ := by
  intro n
  induction n with
  | zero => intro v1 v2 v3 h; exact absurd h (by simp [f_X9_howManyBy_4])
  | succ n ih =>
    intro v1 v2 v3 h
    rw [f_X9_howManyBy_4] at h
    refine g_iload_n hX dX9_howManyBy_4 rfl rfl ?_
    refine g_aload_n hX dX9_howManyBy_5 rfl rfl ?_
    refine g_getr hX kd_false_0 fg_9_0 tf_9_0 w_970 sr_false_0_0 dX9_howManyBy_6 ?_
    refine g_iconst hX dX9_howManyBy_9 k_3 ?_
    refine g_iald hX wk_9_0.1 wk_9_0.2 (by decide) dX9_howManyBy_10 ?_
    refine g_icmp_ge (tgt := 38) hX dX9_howManyBy_11 (by decide) (fun q1 => ?_) (fun q1 => ?_)
    · rw [if_pos q1] at h
      refine g_iload_n hX dX9_howManyBy_38 rfl rfl ?_
      obtain rfl := Option.some.inj h
      exact g_iret hX rfl rfl dX9_howManyBy_39
    · rw [if_neg q1] at h
      refine g_iload_n hX dX9_howManyBy_14 rfl rfl ?_
      refine g_aload_n hX dX9_howManyBy_15 rfl rfl ?_
      refine g_iload_n hX dX9_howManyBy_16 rfl rfl ?_
      refine g_iconst hX dX9_howManyBy_17 k_3 ?_
      obtain ⟨r2, hr2, h⟩ := bd_some h
      refine g_callVi hX (c_X9_about  _ _ hr2) mv_X9_about wm_1073 kd_false_0 rfl (by decide) (by decide) rfl rfl (Nat.le_of_ble_eq_true rfl) dX9_howManyBy_18 ?_
      refine g_iload_n hX dX9_howManyBy_21 rfl rfl ?_
      refine g_icmp_ne (tgt := 29) hX dX9_howManyBy_22 (by decide) (fun q3 => ?_) (fun q3 => ?_)
      · rw [if_neg q3] at h
        refine g_iconst hX dX9_howManyBy_29 k_0 ?_
        exact g_weak (lc' := [some _, some _, none, some _]) ⟨rfl, rfl, rfl, trivial⟩ (t_X9_howManyBy_30 hX ih _ _ _ _ h)
      · rw [if_pos q3] at h
        refine g_iconst hX dX9_howManyBy_25 k_1 ?_
        refine g_goto (tgt := 30) hX dX9_howManyBy_26 (by decide) ?_
        exact g_weak (lc' := [some _, some _, none, some _]) ⟨rfl, rfl, rfl, trivial⟩ (t_X9_howManyBy_30 hX ih _ _ _ _ h)
set_option maxRecDepth 100000 in
set_option maxHeartbeats 4000000 in
theorem c_X9_howManyBy {l : Launch} {D : DT} {μ : Mem} {r : Int32} (v1 : Int32) (h : f_X9_howManyBy v1 μ = some r) : Ct l D false 2 yX9_howManyBy cX9_howManyBy 4 (some FieldType.int) [.ref (D.1 0), .int v1] μ (some (.int r)) μ := by
  refine Ct.of (own := RX9) (lc0 := [some (.ref (D.1 0)), some (.int v1), none, none]) pn_X9 rfl (Nat.le_of_ble_eq_true rfl) rfl mv_X9_howManyBy.2.2.2.1 (fun X hX => ?_)
  unfold f_X9_howManyBy at h
  refine g_iconst hX dX9_howManyBy_0 k_0 ?_
  refine g_istore_n (lc' := [some _, some _, some _, none]) hX dX9_howManyBy_1 rfl (by decide) rfl rfl ?_
  refine g_iconst hX dX9_howManyBy_2 k_0 ?_
  refine g_istore_n (lc' := [some _, some _, some _, some _]) hX dX9_howManyBy_3 rfl (by decide) rfl rfl ?_
  exact g_weak (lc' := [some _, some _, some _, some _]) ⟨rfl, rfl, rfl, rfl, trivial⟩ (t_X9_howManyBy_4 hX 2000 _ _ _ h)
set_option maxRecDepth 100000 in
set_option maxHeartbeats 4000000 in
theorem c_X9_roomOf {l : Launch} {D : DT} {μ : Mem} {r : Int32} (v1 : Int32) (h : f_X9_roomOf v1 μ = some r) : Ct l D false 3 yX9_roomOf cX9_roomOf 3 (some FieldType.int) [.ref (D.1 0), .int v1] μ (some (.int r)) μ := by
  refine Ct.of (own := RX9) (lc0 := [some (.ref (D.1 0)), some (.int v1), none]) pn_X9 rfl (Nat.le_of_ble_eq_true rfl) rfl mv_X9_roomOf.2.2.2.1 (fun X hX => ?_)
  unfold f_X9_roomOf at h
  refine g_bipush hX dX9_roomOf_0 kb_10 ?_
  refine g_aload_n hX dX9_roomOf_2 rfl rfl ?_
  refine g_iload_n hX dX9_roomOf_3 rfl rfl ?_
  refine g_iconst hX dX9_roomOf_4 k_1 ?_
  obtain ⟨r1, hr1, h⟩ := bd_some h
  refine g_callVi hX (c_X9_of  _ _ hr1) mv_X9_of wm_1065 kd_false_0 rfl (by decide) (by decide) rfl rfl (Nat.le_of_ble_eq_true rfl) dX9_roomOf_5 ?_
  refine g_iadd hX dX9_roomOf_8 ?_
  refine g_istore_n (lc' := [some _, some _, some _]) hX dX9_roomOf_9 rfl (by decide) rfl rfl ?_
  refine g_aload_n hX dX9_roomOf_10 rfl rfl ?_
  refine g_iload_n hX dX9_roomOf_11 rfl rfl ?_
  refine g_iconst hX dX9_roomOf_12 k_0 ?_
  obtain ⟨r2, hr2, h⟩ := bd_some h
  refine g_callVi hX (c_X9_of  _ _ hr2) mv_X9_of wm_1065 kd_false_0 rfl (by decide) (by decide) rfl rfl (Nat.le_of_ble_eq_true rfl) dX9_roomOf_13 ?_
  by_cases q3 : r2 = 1
  · rw [if_pos q3] at h
    refine g_tsIn (tgt := 56) (off := 40) hX dX9_roomOf_16 (by rw [q3] <;> decide) (by rw [q3] <;> decide) (by rw [q3] <;> rfl) (by decide) ?_
    refine g_iload_n hX dX9_roomOf_56 rfl rfl ?_
    refine g_iconst hX dX9_roomOf_57 k_2 ?_
    refine g_idiv hX (by decide) dX9_roomOf_58 ?_
    obtain rfl := Option.some.inj h
    exact g_iret hX rfl rfl dX9_roomOf_59
  rw [if_neg q3] at h
  have eq3_1 := ts_ne (c := 1) (k := 1) q3 (by decide)
  by_cases q4 : r2 = 2
  · rw [if_pos q4] at h
    refine g_tsIn (tgt := 60) (off := 44) hX dX9_roomOf_16 (by rw [q4] <;> decide) (by rw [q4] <;> decide) (by rw [q4] <;> rfl) (by decide) ?_
    refine g_iconst hX dX9_roomOf_60 k_3 ?_
    refine g_iload_n hX dX9_roomOf_61 rfl rfl ?_
    refine g_imul hX dX9_roomOf_62 ?_
    obtain rfl := Option.some.inj h
    exact g_iret hX rfl rfl dX9_roomOf_63
  rw [if_neg q4] at h
  have eq4_2 := ts_ne (c := 2) (k := 2) q4 (by decide)
  by_cases q5 : r2 = 3
  · rw [if_pos q5] at h
    refine g_tsIn (tgt := 64) (off := 48) hX dX9_roomOf_16 (by rw [q5] <;> decide) (by rw [q5] <;> decide) (by rw [q5] <;> rfl) (by decide) ?_
    refine g_iload_n hX dX9_roomOf_64 rfl rfl ?_
    refine g_aload_n hX dX9_roomOf_65 rfl rfl ?_
    refine g_getr hX kd_false_0 fg_9_0 tf_9_0 w_970 sr_false_0_0 dX9_roomOf_66 ?_
    refine g_iconst hX dX9_roomOf_69 k_0 ?_
    refine g_iald hX wk_9_0.1 wk_9_0.2 (by decide) dX9_roomOf_70 ?_
    refine g_bipush hX dX9_roomOf_71 kb_6 ?_
    refine g_irem hX (by decide) dX9_roomOf_73 ?_
    refine g_isub hX dX9_roomOf_74 ?_
    obtain rfl := Option.some.inj h
    exact g_iret hX rfl rfl dX9_roomOf_75
  rw [if_neg q5] at h
  have eq5_3 := ts_ne (c := 3) (k := 3) q5 (by decide)
  by_cases q6 : r2 = 4
  · rw [if_pos q6] at h
    refine g_tsIn (tgt := 76) (off := 60) hX dX9_roomOf_16 (by rw [q6] <;> decide) (by rw [q6] <;> decide) (by rw [q6] <;> rfl) (by decide) ?_
    refine g_iload_n hX dX9_roomOf_76 rfl rfl ?_
    refine g_iconst hX dX9_roomOf_77 k_2 ?_
    refine g_idiv hX (by decide) dX9_roomOf_78 ?_
    refine g_aload_n hX dX9_roomOf_79 rfl rfl ?_
    refine g_iload_n hX dX9_roomOf_80 rfl rfl ?_
    obtain ⟨r7, hr7, h⟩ := bd_some h
    refine g_callVi hX (c_X9_howManyBy  _ hr7) mv_X9_howManyBy wm_1069 kd_false_0 rfl (by decide) (by decide) rfl rfl (Nat.le_of_ble_eq_true rfl) dX9_roomOf_81 ?_
    refine g_iadd hX dX9_roomOf_84 ?_
    obtain rfl := Option.some.inj h
    exact g_iret hX rfl rfl dX9_roomOf_85
  rw [if_neg q6] at h
  have eq6_4 := ts_ne (c := 4) (k := 4) q6 (by decide)
  by_cases q8 : r2 = 5
  · rw [if_pos q8] at h
    refine g_tsIn (tgt := 86) (off := 70) hX dX9_roomOf_16 (by rw [q8] <;> decide) (by rw [q8] <;> decide) (by rw [q8] <;> rfl) (by decide) ?_
    refine g_iconst hX dX9_roomOf_86 k_3 ?_
    refine g_iload_n hX dX9_roomOf_87 rfl rfl ?_
    refine g_imul hX dX9_roomOf_88 ?_
    refine g_iconst hX dX9_roomOf_89 k_5 ?_
    refine g_iadd hX dX9_roomOf_90 ?_
    obtain rfl := Option.some.inj h
    exact g_iret hX rfl rfl dX9_roomOf_91
  rw [if_neg q8] at h
  have eq8_5 := ts_ne (c := 5) (k := 5) q8 (by decide)
  by_cases q9 : r2 = 6
  · rw [if_pos q9] at h
    refine g_tsIn (tgt := 92) (off := 76) hX dX9_roomOf_16 (by rw [q9] <;> decide) (by rw [q9] <;> decide) (by rw [q9] <;> rfl) (by decide) ?_
    refine g_aload_n hX dX9_roomOf_92 rfl rfl ?_
    refine g_getr hX kd_false_0 fg_9_0 tf_9_0 w_970 sr_false_0_0 dX9_roomOf_93 ?_
    refine g_iconst hX dX9_roomOf_96 k_0 ?_
    refine g_iald hX wk_9_0.1 wk_9_0.2 (by decide) dX9_roomOf_97 ?_
    refine g_bipush hX dX9_roomOf_98 kb_24 ?_
    refine g_irem hX (by decide) dX9_roomOf_100 ?_
    refine g_bipush hX dX9_roomOf_101 kb_12 ?_
    refine g_icmp_ge (tgt := 110) hX dX9_roomOf_103 (by decide) (fun q10 => ?_) (fun q10 => ?_)
    · rw [if_pos q10] at h
      refine g_iload_n hX dX9_roomOf_110 rfl rfl ?_
      obtain rfl := Option.some.inj h
      exact g_iret hX rfl rfl dX9_roomOf_111
    · rw [if_neg q10] at h
      refine g_iconst hX dX9_roomOf_106 k_0 ?_
      refine g_goto (tgt := 111) hX dX9_roomOf_107 (by decide) ?_
      obtain rfl := Option.some.inj h
      exact g_iret hX rfl rfl dX9_roomOf_111
  rw [if_neg q9] at h
  have eq9_6 := ts_ne (c := 6) (k := 6) q9 (by decide)
  refine g_tsOut (tgt := 112) hX dX9_roomOf_16 (by omega) (by decide) ?_
  refine g_iload_n hX dX9_roomOf_112 rfl rfl ?_
  obtain rfl := Option.some.inj h
  exact g_iret hX rfl rfl dX9_roomOf_113
set_option maxRecDepth 100000 in
set_option maxHeartbeats 4000000 in
theorem t_X9_letsGo_88 {l : Launch} {D : DT} {X : XT} {μ' : Mem} (hX : Cx l D false X 6 RX9 cX9_letsGo 6 none) : ∀ (v2 : Int32) (μ : Mem), f_X9_letsGo_88 v2 μ = some μ' → G l D false X 6 none μ' 88 [some (.ref (D.1 0)), none, some (.int v2), none, none, none] [] μ := by
  intro v2 μ h
  unfold f_X9_letsGo_88 at h
  refine g_iload_n hX dX9_letsGo_88 rfl rfl ?_
  refine g_if_lt (tgt := 99) hX dX9_letsGo_89 (by decide) (fun q1 => ?_) (fun q1 => ?_)
  · rw [if_pos q1] at h
    obtain rfl := Option.some.inj h
    exact g_vret hX rfl dX9_letsGo_99
  · rw [if_neg q1] at h
    refine g_aload_n hX dX9_letsGo_92 rfl rfl ?_
    refine g_iload_n hX dX9_letsGo_93 rfl rfl ?_
    refine g_iconst hX dX9_letsGo_94 k_3 ?_
    refine g_iconst hX dX9_letsGo_95 k_m1 ?_
    obtain ⟨μ2, hμ2, h⟩ := bd_some h
    refine g_callVv hX (c_X9_lets  _ _ _ hμ2) mv_X9_lets wm_1134 kd_false_0 rfl (by decide) (by decide) rfl rfl (Nat.le_of_ble_eq_true rfl) dX9_letsGo_96 ?_
    obtain rfl := Option.some.inj h
    exact g_vret hX rfl dX9_letsGo_99
set_option maxRecDepth 100000 in
set_option maxHeartbeats 4000000 in
theorem t_X9_letsGo_68 {l : Launch} {D : DT} {X : XT} {k21 : Int32 → Int32 → Int32 → Int32 → Mem → Option Mem} {μ' : Mem} (hX : Cx l D false X 6 RX9 cX9_letsGo 6 none) (hk21 : ∀ (v1 : Int32) (v2 : Int32) (v3 : Int32) (v4 : Int32) (μ : Mem), k21 v1 v2 v3 v4 μ = some μ' → G l D false X 6 none μ' 21 [some (.ref (D.1 0)), some (.int v1), some (.int v2), some (.int v3), some (.int v4), none] [] μ) : ∀ (v1 : Int32) (v3 : Int32) (v4 : Int32) (v5 : Int32) (s0 : Int32) (μ : Mem), f_X9_letsGo_68 k21 v1 v3 v4 v5 s0 μ = some μ' → G l D false X 6 none μ' 68 [some (.ref (D.1 0)), some (.int v1), none, some (.int v3), some (.int v4), some (.int v5)] [.int s0] μ := by
  intro v1 v3 v4 v5 s0 μ h
  unfold f_X9_letsGo_68 at h
  refine g_istore_n (lc' := [some _, some _, some _, some _, some _, some _]) hX dX9_letsGo_68 rfl (by decide) rfl rfl ?_
  refine g_iload hX dX9_letsGo_69 rfl ?_
  refine g_iload_n hX dX9_letsGo_71 rfl rfl ?_
  refine g_icmp_le (tgt := 80) hX dX9_letsGo_72 (by decide) (fun q1 => ?_) (fun q1 => ?_)
  · rw [if_pos q1] at h
    refine g_iload_n hX dX9_letsGo_80 rfl rfl ?_
    refine g_istore_n (lc' := [some _, some _, some _, some _, some _, some _]) hX dX9_letsGo_81 rfl (by decide) rfl rfl ?_
    refine g_iinc (lc' := [some _, some _, some _, some _, some _, some _]) hX dX9_letsGo_82 (by decide) rfl (congrArg _ k_1) rfl rfl ?_
    refine g_goto (tgt := 21) hX dX9_letsGo_85 (by decide) ?_
    exact g_weak (lc' := [some _, some _, some _, some _, some _, none]) ⟨rfl, rfl, rfl, rfl, rfl, trivial⟩ (hk21 _ _ _ _ _ h)
  · rw [if_neg q1] at h
    refine g_iload hX dX9_letsGo_75 rfl ?_
    refine g_goto (tgt := 81) hX dX9_letsGo_77 (by decide) ?_
    refine g_istore_n (lc' := [some _, some _, some _, some _, some _, some _]) hX dX9_letsGo_81 rfl (by decide) rfl rfl ?_
    refine g_iinc (lc' := [some _, some _, some _, some _, some _, some _]) hX dX9_letsGo_82 (by decide) rfl (congrArg _ k_1) rfl rfl ?_
    refine g_goto (tgt := 21) hX dX9_letsGo_85 (by decide) ?_
    exact g_weak (lc' := [some _, some _, some _, some _, some _, none]) ⟨rfl, rfl, rfl, rfl, rfl, trivial⟩ (hk21 _ _ _ _ _ h)
set_option maxRecDepth 100000 in
set_option maxHeartbeats 4000000 in
theorem t_X9_letsGo_54 {l : Launch} {D : DT} {X : XT} {k21 : Int32 → Int32 → Int32 → Int32 → Mem → Option Mem} {μ' : Mem} (hX : Cx l D false X 6 RX9 cX9_letsGo 6 none) (hk21 : ∀ (v1 : Int32) (v2 : Int32) (v3 : Int32) (v4 : Int32) (μ : Mem), k21 v1 v2 v3 v4 μ = some μ' → G l D false X 6 none μ' 21 [some (.ref (D.1 0)), some (.int v1), some (.int v2), some (.int v3), some (.int v4), none] [] μ) : ∀ (v1 : Int32) (v2 : Int32) (v3 : Int32) (v4 : Int32) (s0 : Int32) (μ : Mem), f_X9_letsGo_54 k21 v1 v2 v3 v4 s0 μ = some μ' → G l D false X 6 none μ' 54 [some (.ref (D.1 0)), some (.int v1), some (.int v2), some (.int v3), some (.int v4), none] [.int s0] μ := by
  intro v1 v2 v3 v4 s0 μ h
  unfold f_X9_letsGo_54 at h
  refine g_istore (lc' := [some _, some _, some _, some _, some _, some _]) hX dX9_letsGo_54 (by decide) rfl rfl ?_
  refine g_iload hX dX9_letsGo_56 rfl ?_
  refine g_iload_n hX dX9_letsGo_58 rfl rfl ?_
  refine g_icmp_le (tgt := 67) hX dX9_letsGo_59 (by decide) (fun q1 => ?_) (fun q1 => ?_)
  · rw [if_pos q1] at h
    refine g_iload_n hX dX9_letsGo_67 rfl rfl ?_
    exact g_weak (lc' := [some _, some _, none, some _, some _, some _]) ⟨rfl, rfl, rfl, rfl, rfl, trivial⟩ (t_X9_letsGo_68 hX hk21 _ _ _ _ _ _ h)
  · rw [if_neg q1] at h
    refine g_iload hX dX9_letsGo_62 rfl ?_
    refine g_goto (tgt := 68) hX dX9_letsGo_64 (by decide) ?_
    exact g_weak (lc' := [some _, some _, none, some _, some _, some _]) ⟨rfl, rfl, rfl, rfl, rfl, trivial⟩ (t_X9_letsGo_68 hX hk21 _ _ _ _ _ _ h)
set_option maxRecDepth 100000 in
set_option maxHeartbeats 4000000 in
theorem t_X9_letsGo_21 {l : Launch} {D : DT} {X : XT} {μ' : Mem} (hX : Cx l D false X 6 RX9 cX9_letsGo 6 none) : ∀ (n : Nat) (v1 : Int32) (v2 : Int32) (v3 : Int32) (v4 : Int32) (μ : Mem), f_X9_letsGo_21 n v1 v2 v3 v4 μ = some μ' → G l D false X 6 none μ' 21 [some (.ref (D.1 0)), some (.int v1), some (.int v2), some (.int v3), some (.int v4), none] [] μ := by
  intro n
  induction n with
  | zero => intro v1 v2 v3 v4 μ h; exact absurd h (by simp [f_X9_letsGo_21])
  | succ n ih =>
    intro v1 v2 v3 v4 μ h
    rw [f_X9_letsGo_21] at h
    refine g_iload hX dX9_letsGo_21 rfl ?_
    refine g_aload_n hX dX9_letsGo_23 rfl rfl ?_
    refine g_getr hX kd_false_0 fg_9_0 tf_9_0 w_970 sr_false_0_0 dX9_letsGo_24 ?_
    refine g_iconst hX dX9_letsGo_27 k_3 ?_
    refine g_iald hX wk_9_0.1 wk_9_0.2 (by decide) dX9_letsGo_28 ?_
    refine g_icmp_ge (tgt := 88) hX dX9_letsGo_29 (by decide) (fun q1 => ?_) (fun q1 => ?_)
    · rw [if_pos q1] at h
      exact g_weak (lc' := [some _, none, some _, none, none, none]) ⟨rfl, rfl, trivial⟩ (t_X9_letsGo_88 hX _ _ h)
    · rw [if_neg q1] at h
      refine g_aload_n hX dX9_letsGo_32 rfl rfl ?_
      refine g_iload hX dX9_letsGo_33 rfl ?_
      refine g_iconst hX dX9_letsGo_35 k_3 ?_
      obtain ⟨r2, hr2, h⟩ := bd_some h
      refine g_callVi hX (c_X9_about  _ _ hr2) mv_X9_about wm_1073 kd_false_0 rfl (by decide) (by decide) rfl rfl (Nat.le_of_ble_eq_true rfl) dX9_letsGo_36 ?_
      refine g_iload_n hX dX9_letsGo_39 rfl rfl ?_
      refine g_icmp_ne (tgt := 53) hX dX9_letsGo_40 (by decide) (fun q3 => ?_) (fun q3 => ?_)
      · rw [if_neg q3] at h
        refine g_iconst hX dX9_letsGo_53 k_m1 ?_
        exact g_weak (lc' := [some _, some _, some _, some _, some _, none]) ⟨rfl, rfl, rfl, rfl, rfl, trivial⟩ (t_X9_letsGo_54 hX ih _ _ _ _ _ _ h)
      · rw [if_pos q3] at h
        refine g_aload_n hX dX9_letsGo_43 rfl rfl ?_
        refine g_iload_n hX dX9_letsGo_44 rfl rfl ?_
        refine g_iload hX dX9_letsGo_45 rfl ?_
        obtain ⟨r4, μ5, hr4, h⟩ := bd2_some h
        refine g_callVi hX (c_X9_weighsOn  _ _ hr4) mv_X9_weighsOn wm_1081 kd_false_0 rfl (by decide) (by decide) rfl rfl (Nat.le_of_ble_eq_true rfl) dX9_letsGo_47 ?_
        refine g_goto (tgt := 54) hX dX9_letsGo_50 (by decide) ?_
        exact g_weak (lc' := [some _, some _, some _, some _, some _, none]) ⟨rfl, rfl, rfl, rfl, rfl, trivial⟩ (t_X9_letsGo_54 hX ih _ _ _ _ _ _ h)
set_option maxRecDepth 100000 in
set_option maxHeartbeats 4000000 in
theorem c_X9_letsGo {l : Launch} {D : DT} {μ : Mem} {μ' : Mem} (v1 : Int32) (h : f_X9_letsGo v1 μ = some μ') : Ct l D false 6 yX9_letsGo cX9_letsGo 6 none [.ref (D.1 0), .int v1] μ none μ' := by
  refine Ct.of (own := RX9) (lc0 := [some (.ref (D.1 0)), some (.int v1), none, none, none, none]) pn_X9 rfl (Nat.le_of_ble_eq_true rfl) rfl mv_X9_letsGo.2.2.2.1 (fun X hX => ?_)
  unfold f_X9_letsGo at h
  refine g_aload_n hX dX9_letsGo_0 rfl rfl ?_
  refine g_iload_n hX dX9_letsGo_1 rfl rfl ?_
  obtain ⟨r1, μ2, hr1, h⟩ := bd2_some h
  refine g_callVi hX (c_X9_loadOf  _ hr1) mv_X9_loadOf wm_1077 kd_false_0 rfl (by decide) (by decide) rfl rfl (Nat.le_of_ble_eq_true rfl) dX9_letsGo_2 ?_
  refine g_aload_n hX dX9_letsGo_5 rfl rfl ?_
  refine g_iload_n hX dX9_letsGo_6 rfl rfl ?_
  obtain ⟨r3, hr3, h⟩ := bd_some h
  refine g_callVi hX (c_X9_roomOf  _ hr3) mv_X9_roomOf wm_1107 kd_false_0 rfl (by decide) (by decide) rfl rfl (Nat.le_of_ble_eq_true rfl) dX9_letsGo_7 ?_
  refine g_icmp_gt (tgt := 14) hX dX9_letsGo_10 (by decide) (fun q4 => ?_) (fun q4 => ?_)
  · rw [if_pos q4] at h
    refine g_iconst hX dX9_letsGo_14 k_m1 ?_
    refine g_istore_n (lc' := [some _, some _, some _, none, none, none]) hX dX9_letsGo_15 rfl (by decide) rfl rfl ?_
    refine g_iconst hX dX9_letsGo_16 k_m1 ?_
    refine g_istore_n (lc' := [some _, some _, some _, some _, none, none]) hX dX9_letsGo_17 rfl (by decide) rfl rfl ?_
    refine g_iconst hX dX9_letsGo_18 k_0 ?_
    refine g_istore (lc' := [some _, some _, some _, some _, some _, none]) hX dX9_letsGo_19 (by decide) rfl rfl ?_
    exact g_weak (lc' := [some _, some _, some _, some _, some _, none]) ⟨rfl, rfl, rfl, rfl, rfl, trivial⟩ (t_X9_letsGo_21 hX 2000 _ _ _ _ _ h)
  · rw [if_neg q4] at h
    obtain rfl := Option.some.inj h
    exact g_vret hX rfl dX9_letsGo_13
set_option maxRecDepth 100000 in
set_option maxHeartbeats 4000000 in
theorem c_X9_drawsOf {l : Launch} {D : DT} {μ : Mem} {r : Int32} {μ' : Mem} (v1 : Int32) (h : f_X9_drawsOf v1 μ = some (r, μ')) : Ct l D false 4 yX9_drawsOf cX9_drawsOf 2 (some FieldType.int) [.ref (D.1 0), .int v1] μ (some (.int r)) μ' := by
  refine Ct.of (own := RX9) (lc0 := [some (.ref (D.1 0)), some (.int v1)]) pn_X9 rfl (Nat.le_of_ble_eq_true rfl) rfl mv_X9_drawsOf.2.2.2.1 (fun X hX => ?_)
  unfold f_X9_drawsOf at h
  refine g_aload_n hX dX9_drawsOf_0 rfl rfl ?_
  refine g_iconst hX dX9_drawsOf_1 k_1 ?_
  refine g_aload_n hX dX9_drawsOf_2 rfl rfl ?_
  refine g_getr hX kd_false_0 fg_9_0 tf_9_0 w_970 sr_false_0_0 dX9_drawsOf_3 ?_
  refine g_bipush hX dX9_drawsOf_6 kb_8 ?_
  refine g_iload_n hX dX9_drawsOf_8 rfl rfl ?_
  refine g_iadd hX dX9_drawsOf_9 ?_
  obtain ⟨z1, h⟩ := ck_some h
  refine g_iald hX wk_9_0.1 wk_9_0.2 z1 dX9_drawsOf_10 ?_
  refine g_iload_n hX dX9_drawsOf_11 rfl rfl ?_
  refine g_aload_n hX dX9_drawsOf_12 rfl rfl ?_
  refine g_getr hX kd_false_0 fg_9_0 tf_9_0 w_970 sr_false_0_0 dX9_drawsOf_13 ?_
  refine g_iconst hX dX9_drawsOf_16 k_0 ?_
  refine g_iald hX wk_9_0.1 wk_9_0.2 (by decide) dX9_drawsOf_17 ?_
  refine g_bipush hX dX9_drawsOf_18 kb_24 ?_
  refine g_irem hX (by decide) dX9_drawsOf_20 ?_
  obtain ⟨r2, μ3, hr2, h⟩ := bd2_some h
  refine g_callVi hX (c_X9_gives  _ _ _ _ hr2) mv_X9_gives wm_1093 kd_false_0 rfl (by decide) (by decide) rfl rfl (Nat.le_of_ble_eq_true rfl) dX9_drawsOf_21 ?_
  obtain ⟨rfl, rfl⟩ := pair_inj h
  exact g_iret hX rfl rfl dX9_drawsOf_24
set_option maxRecDepth 100000 in
set_option maxHeartbeats 4000000 in
theorem t_X9_strays_129 {l : Launch} {D : DT} {X : XT} {μ' : Mem} (hX : Cx l D false X 5 RX9 cX9_strays 8 none) : ∀ (v1 : Int32) (v3 : Int32) (s1 : Int32) (s2 : Int32) (s3 : Int32) (μ : Mem), f_X9_strays_129 v1 v3 s1 s2 s3 μ = some μ' → G l D false X 8 none μ' 129 [some (.ref (D.1 0)), some (.int v1), none, some (.int v3), none, none, none, none] [.int s3, .int s2, .int s1, .ref (D.1 1)] μ := by
  intro v1 v3 s1 s2 s3 μ h
  unfold f_X9_strays_129 at h
  refine g_iadd hX dX9_strays_129 ?_
  refine g_iconst hX dX9_strays_130 k_0 ?_
  refine g_sipush hX dX9_strays_131 ks_9999 ?_
  refine g_callSi hX (c_X9_held  (s2 + s3) 0 9999) mv_X9_held wm_1104 (by decide) rfl rfl (Nat.le_of_ble_eq_true rfl) dX9_strays_134 ?_
  obtain ⟨z2, h⟩ := ck_some h
  obtain ⟨μ1, hμ1, h⟩ := wr_some h
  refine g_iastM hX wk_9_0.1 wk_9_0.2 z2 dX9_strays_137 hμ1 ?_
  refine g_aload_n hX dX9_strays_138 rfl rfl ?_
  refine g_getr hX kd_false_0 fg_9_0 tf_9_0 w_970 sr_false_0_0 dX9_strays_139 ?_
  refine g_bipush hX dX9_strays_142 kb_63 ?_
  refine g_iload_n hX dX9_strays_144 rfl rfl ?_
  refine g_iadd hX dX9_strays_145 ?_
  refine g_iload_n hX dX9_strays_146 rfl rfl ?_
  obtain ⟨z4, h⟩ := ck_some h
  obtain ⟨μ3, hμ3, h⟩ := wr_some h
  refine g_iastM hX wk_9_0.1 wk_9_0.2 z4 dX9_strays_147 hμ3 ?_
  refine g_aload_n hX dX9_strays_148 rfl rfl ?_
  refine g_getr hX kd_false_0 fg_9_0 tf_9_0 w_970 sr_false_0_0 dX9_strays_149 ?_
  refine g_bipush hX dX9_strays_152 kb_8 ?_
  refine g_iload_n hX dX9_strays_154 rfl rfl ?_
  refine g_iadd hX dX9_strays_155 ?_
  refine g_aload_n hX dX9_strays_156 rfl rfl ?_
  refine g_getr hX kd_false_0 fg_9_0 tf_9_0 w_970 sr_false_0_0 dX9_strays_157 ?_
  refine g_bipush hX dX9_strays_160 kb_8 ?_
  refine g_iload_n hX dX9_strays_162 rfl rfl ?_
  refine g_iadd hX dX9_strays_163 ?_
  obtain ⟨z5, h⟩ := ck_some h
  refine g_iald hX wk_9_0.1 wk_9_0.2 z5 dX9_strays_164 ?_
  refine g_iconst hX dX9_strays_165 k_1 ?_
  refine g_isub hX dX9_strays_166 ?_
  refine g_iconst hX dX9_strays_167 k_0 ?_
  refine g_bipush hX dX9_strays_168 kb_99 ?_
  refine g_callSi hX (c_X9_held  ((μ3 1 (ix (8 + v3))) - 1) 0 99) mv_X9_held wm_1104 (by decide) rfl rfl (Nat.le_of_ble_eq_true rfl) dX9_strays_170 ?_
  obtain ⟨z7, h⟩ := ck_some h
  obtain ⟨μ6, hμ6, h⟩ := wr_some h
  refine g_iastM hX wk_9_0.1 wk_9_0.2 z7 dX9_strays_173 hμ6 ?_
  obtain rfl := Option.some.inj h
  exact g_vret hX rfl dX9_strays_174
set_option maxRecDepth 100000 in
set_option maxHeartbeats 4000000 in
theorem t_X9_strays_108 {l : Launch} {D : DT} {X : XT} {μ' : Mem} (hX : Cx l D false X 5 RX9 cX9_strays 8 none) : ∀ (v1 : Int32) (v2 : Int32) (v3 : Int32) (μ : Mem), f_X9_strays_108 v1 v2 v3 μ = some μ' → G l D false X 8 none μ' 108 [some (.ref (D.1 0)), some (.int v1), some (.int v2), some (.int v3), none, none, none, none] [] μ := by
  intro v1 v2 v3 μ h
  unfold f_X9_strays_108 at h
  refine g_aload_n hX dX9_strays_108 rfl rfl ?_
  refine g_getr hX kd_false_0 fg_9_0 tf_9_0 w_970 sr_false_0_0 dX9_strays_109 ?_
  refine g_iconst hX dX9_strays_112 k_5 ?_
  refine g_aload_n hX dX9_strays_113 rfl rfl ?_
  refine g_getr hX kd_false_0 fg_9_0 tf_9_0 w_970 sr_false_0_0 dX9_strays_114 ?_
  refine g_iconst hX dX9_strays_117 k_5 ?_
  refine g_iald hX wk_9_0.1 wk_9_0.2 (by decide) dX9_strays_118 ?_
  refine g_iload_n hX dX9_strays_119 rfl rfl ?_
  refine g_iload_n hX dX9_strays_120 rfl rfl ?_
  refine g_icmp_ne (tgt := 128) hX dX9_strays_121 (by decide) (fun q1 => ?_) (fun q1 => ?_)
  · rw [if_neg q1] at h
    refine g_iconst hX dX9_strays_128 k_1 ?_
    exact g_weak (lc' := [some _, some _, none, some _, none, none, none, none]) ⟨rfl, rfl, rfl, trivial⟩ (t_X9_strays_129 hX _ _ _ _ _ _ h)
  · rw [if_pos q1] at h
    refine g_iconst hX dX9_strays_124 k_0 ?_
    refine g_goto (tgt := 129) hX dX9_strays_125 (by decide) ?_
    exact g_weak (lc' := [some _, some _, none, some _, none, none, none, none]) ⟨rfl, rfl, rfl, trivial⟩ (t_X9_strays_129 hX _ _ _ _ _ _ h)
set_option maxRecDepth 100000 in
set_option maxHeartbeats 4000000 in
theorem t_X9_strays_85 {l : Launch} {D : DT} {X : XT} {k22 : Int32 → Int32 → Int32 → Int32 → Int32 → Mem → Option Mem} {μ' : Mem} (hX : Cx l D false X 5 RX9 cX9_strays 8 none) (hk22 : ∀ (v1 : Int32) (v2 : Int32) (v3 : Int32) (v4 : Int32) (v5 : Int32) (μ : Mem), k22 v1 v2 v3 v4 v5 μ = some μ' → G l D false X 8 none μ' 22 [some (.ref (D.1 0)), some (.int v1), some (.int v2), some (.int v3), some (.int v4), some (.int v5), none, none] [] μ) : ∀ (v1 : Int32) (v2 : Int32) (v4 : Int32) (v5 : Int32) (v7 : Int32) (s0 : Int32) (μ : Mem), f_X9_strays_85 k22 v1 v2 v4 v5 v7 s0 μ = some μ' → G l D false X 8 none μ' 85 [some (.ref (D.1 0)), some (.int v1), some (.int v2), none, some (.int v4), some (.int v5), none, some (.int v7)] [.int s0] μ := by
  intro v1 v2 v4 v5 v7 s0 μ h
  unfold f_X9_strays_85 at h
  refine g_istore_n (lc' := [some _, some _, some _, some _, some _, some _, none, some _]) hX dX9_strays_85 rfl (by decide) rfl rfl ?_
  refine g_iload hX dX9_strays_86 rfl ?_
  refine g_iload hX dX9_strays_88 rfl ?_
  refine g_icmp_le (tgt := 98) hX dX9_strays_90 (by decide) (fun q1 => ?_) (fun q1 => ?_)
  · rw [if_pos q1] at h
    refine g_iload hX dX9_strays_98 rfl ?_
    refine g_istore (lc' := [some _, some _, some _, some _, some _, some _, none, some _]) hX dX9_strays_100 (by decide) rfl rfl ?_
    refine g_iinc (lc' := [some _, some _, some _, some _, some _, some _, none, some _]) hX dX9_strays_102 (by decide) rfl (congrArg _ k_1) rfl rfl ?_
    refine g_goto (tgt := 22) hX dX9_strays_105 (by decide) ?_
    exact g_weak (lc' := [some _, some _, some _, some _, some _, some _, none, none]) ⟨rfl, rfl, rfl, rfl, rfl, rfl, trivial⟩ (hk22 _ _ _ _ _ _ h)
  · rw [if_neg q1] at h
    refine g_iload hX dX9_strays_93 rfl ?_
    refine g_goto (tgt := 100) hX dX9_strays_95 (by decide) ?_
    refine g_istore (lc' := [some _, some _, some _, some _, some _, some _, none, some _]) hX dX9_strays_100 (by decide) rfl rfl ?_
    refine g_iinc (lc' := [some _, some _, some _, some _, some _, some _, none, some _]) hX dX9_strays_102 (by decide) rfl (congrArg _ k_1) rfl rfl ?_
    refine g_goto (tgt := 22) hX dX9_strays_105 (by decide) ?_
    exact g_weak (lc' := [some _, some _, some _, some _, some _, some _, none, none]) ⟨rfl, rfl, rfl, rfl, rfl, rfl, trivial⟩ (hk22 _ _ _ _ _ _ h)
set_option maxRecDepth 100000 in
set_option maxHeartbeats 4000000 in
theorem t_X9_strays_70 {l : Launch} {D : DT} {X : XT} {k22 : Int32 → Int32 → Int32 → Int32 → Int32 → Mem → Option Mem} {μ' : Mem} (hX : Cx l D false X 5 RX9 cX9_strays 8 none) (hk22 : ∀ (v1 : Int32) (v2 : Int32) (v3 : Int32) (v4 : Int32) (v5 : Int32) (μ : Mem), k22 v1 v2 v3 v4 v5 μ = some μ' → G l D false X 8 none μ' 22 [some (.ref (D.1 0)), some (.int v1), some (.int v2), some (.int v3), some (.int v4), some (.int v5), none, none] [] μ) : ∀ (v1 : Int32) (v2 : Int32) (v3 : Int32) (v4 : Int32) (v5 : Int32) (v6 : Int32) (s0 : Int32) (μ : Mem), f_X9_strays_70 k22 v1 v2 v3 v4 v5 v6 s0 μ = some μ' → G l D false X 8 none μ' 70 [some (.ref (D.1 0)), some (.int v1), some (.int v2), some (.int v3), some (.int v4), some (.int v5), some (.int v6), none] [.int s0] μ := by
  intro v1 v2 v3 v4 v5 v6 s0 μ h
  unfold f_X9_strays_70 at h
  refine g_istore (lc' := [some _, some _, some _, some _, some _, some _, some _, some _]) hX dX9_strays_70 (by decide) rfl rfl ?_
  refine g_iload hX dX9_strays_72 rfl ?_
  refine g_iload hX dX9_strays_74 rfl ?_
  refine g_icmp_le (tgt := 84) hX dX9_strays_76 (by decide) (fun q1 => ?_) (fun q1 => ?_)
  · rw [if_pos q1] at h
    refine g_iload_n hX dX9_strays_84 rfl rfl ?_
    exact g_weak (lc' := [some _, some _, some _, none, some _, some _, none, some _]) ⟨rfl, rfl, rfl, rfl, rfl, rfl, trivial⟩ (t_X9_strays_85 hX hk22 _ _ _ _ _ _ _ h)
  · rw [if_neg q1] at h
    refine g_iload hX dX9_strays_79 rfl ?_
    refine g_goto (tgt := 85) hX dX9_strays_81 (by decide) ?_
    exact g_weak (lc' := [some _, some _, some _, none, some _, some _, none, some _]) ⟨rfl, rfl, rfl, rfl, rfl, rfl, trivial⟩ (t_X9_strays_85 hX hk22 _ _ _ _ _ _ _ h)
set_option maxRecDepth 100000 in
set_option maxHeartbeats 4000000 in
theorem t_X9_strays_53 {l : Launch} {D : DT} {X : XT} {k22 : Int32 → Int32 → Int32 → Int32 → Int32 → Mem → Option Mem} {μ' : Mem} (hX : Cx l D false X 5 RX9 cX9_strays 8 none) (hk22 : ∀ (v1 : Int32) (v2 : Int32) (v3 : Int32) (v4 : Int32) (v5 : Int32) (μ : Mem), k22 v1 v2 v3 v4 v5 μ = some μ' → G l D false X 8 none μ' 22 [some (.ref (D.1 0)), some (.int v1), some (.int v2), some (.int v3), some (.int v4), some (.int v5), none, none] [] μ) : ∀ (v1 : Int32) (v2 : Int32) (v3 : Int32) (v4 : Int32) (v5 : Int32) (s0 : Int32) (μ : Mem), f_X9_strays_53 k22 v1 v2 v3 v4 v5 s0 μ = some μ' → G l D false X 8 none μ' 53 [some (.ref (D.1 0)), some (.int v1), some (.int v2), some (.int v3), some (.int v4), some (.int v5), none, none] [.int s0] μ := by
  intro v1 v2 v3 v4 v5 s0 μ h
  unfold f_X9_strays_53 at h
  refine g_istore (lc' := [some _, some _, some _, some _, some _, some _, some _, none]) hX dX9_strays_53 (by decide) rfl rfl ?_
  refine g_iload hX dX9_strays_55 rfl ?_
  refine g_if_ge (tgt := 64) hX dX9_strays_57 (by decide) (fun q1 => ?_) (fun q1 => ?_)
  · rw [if_pos q1] at h
    refine g_aload_n hX dX9_strays_64 rfl rfl ?_
    refine g_iload hX dX9_strays_65 rfl ?_
    obtain ⟨r2, μ3, hr2, h⟩ := bd2_some h
    refine g_callVi hX (c_X9_drawsOf  _ hr2) mv_X9_drawsOf wm_1244 kd_false_0 rfl (by decide) (by decide) rfl rfl (Nat.le_of_ble_eq_true rfl) dX9_strays_67 ?_
    exact g_weak (lc' := [some _, some _, some _, some _, some _, some _, some _, none]) ⟨rfl, rfl, rfl, rfl, rfl, rfl, rfl, trivial⟩ (t_X9_strays_70 hX hk22 _ _ _ _ _ _ _ _ h)
  · rw [if_neg q1] at h
    refine g_iconst hX dX9_strays_60 k_m1 ?_
    refine g_goto (tgt := 70) hX dX9_strays_61 (by decide) ?_
    exact g_weak (lc' := [some _, some _, some _, some _, some _, some _, some _, none]) ⟨rfl, rfl, rfl, rfl, rfl, rfl, rfl, trivial⟩ (t_X9_strays_70 hX hk22 _ _ _ _ _ _ _ _ h)
set_option maxRecDepth 100000 in
set_option maxHeartbeats 4000000 in
theorem t_X9_strays_22 {l : Launch} {D : DT} {X : XT} {μ' : Mem} (hX : Cx l D false X 5 RX9 cX9_strays 8 none) : ∀ (n : Nat) (v1 : Int32) (v2 : Int32) (v3 : Int32) (v4 : Int32) (v5 : Int32) (μ : Mem), f_X9_strays_22 n v1 v2 v3 v4 v5 μ = some μ' → G l D false X 8 none μ' 22 [some (.ref (D.1 0)), some (.int v1), some (.int v2), some (.int v3), some (.int v4), some (.int v5), none, none] [] μ := by
  intro n
  induction n with
  | zero => intro v1 v2 v3 v4 v5 μ h; exact absurd h (by simp [f_X9_strays_22])
  | succ n ih =>
    intro v1 v2 v3 v4 v5 μ h
    rw [f_X9_strays_22] at h
    refine g_iload hX dX9_strays_22 rfl ?_
    refine g_aload_n hX dX9_strays_24 rfl rfl ?_
    refine g_getr hX kd_false_0 fg_9_0 tf_9_0 w_970 sr_false_0_0 dX9_strays_25 ?_
    refine g_iconst hX dX9_strays_28 k_3 ?_
    refine g_iald hX wk_9_0.1 wk_9_0.2 (by decide) dX9_strays_29 ?_
    refine g_icmp_ge (tgt := 108) hX dX9_strays_30 (by decide) (fun q1 => ?_) (fun q1 => ?_)
    · rw [if_pos q1] at h
      exact g_weak (lc' := [some _, some _, some _, some _, none, none, none, none]) ⟨rfl, rfl, rfl, rfl, trivial⟩ (t_X9_strays_108 hX _ _ _ _ h)
    · rw [if_neg q1] at h
      refine g_aload_n hX dX9_strays_33 rfl rfl ?_
      refine g_iload hX dX9_strays_34 rfl ?_
      obtain ⟨r2, hr2, h⟩ := bd_some h
      refine g_callVi hX (c_X9_isOpen  _ hr2) mv_X9_isOpen wm_1089 kd_false_0 rfl (by decide) (by decide) rfl rfl (Nat.le_of_ble_eq_true rfl) dX9_strays_36 ?_
      refine g_if_eq (tgt := 52) hX dX9_strays_39 (by decide) (fun q3 => ?_) (fun q3 => ?_)
      · rw [if_pos q3] at h
        refine g_iconst hX dX9_strays_52 k_m1 ?_
        exact g_weak (lc' := [some _, some _, some _, some _, some _, some _, none, none]) ⟨rfl, rfl, rfl, rfl, rfl, rfl, trivial⟩ (t_X9_strays_53 hX ih _ _ _ _ _ _ _ h)
      · rw [if_neg q3] at h
        refine g_aload_n hX dX9_strays_42 rfl rfl ?_
        refine g_iload hX dX9_strays_43 rfl ?_
        refine g_iload_n hX dX9_strays_45 rfl rfl ?_
        obtain ⟨r4, hr4, h⟩ := bd_some h
        refine g_callVi hX (c_X9_beyond  _ _ hr4) mv_X9_beyond wm_1248 kd_false_0 rfl (by decide) (by decide) rfl rfl (Nat.le_of_ble_eq_true rfl) dX9_strays_46 ?_
        refine g_goto (tgt := 53) hX dX9_strays_49 (by decide) ?_
        exact g_weak (lc' := [some _, some _, some _, some _, some _, some _, none, none]) ⟨rfl, rfl, rfl, rfl, rfl, rfl, trivial⟩ (t_X9_strays_53 hX ih _ _ _ _ _ _ _ h)
set_option maxRecDepth 100000 in
set_option maxHeartbeats 4000000 in
theorem c_X9_strays {l : Launch} {D : DT} {μ : Mem} {μ' : Mem} (v1 : Int32) (h : f_X9_strays v1 μ = some μ') : Ct l D false 5 yX9_strays cX9_strays 8 none [.ref (D.1 0), .int v1] μ none μ' := by
  refine Ct.of (own := RX9) (lc0 := [some (.ref (D.1 0)), some (.int v1), none, none, none, none, none, none]) pn_X9 rfl (Nat.le_of_ble_eq_true rfl) rfl mv_X9_strays.2.2.2.1 (fun X hX => ?_)
  unfold f_X9_strays at h
  refine g_aload_n hX dX9_strays_0 rfl rfl ?_
  refine g_getr hX kd_false_0 fg_9_0 tf_9_0 w_970 sr_false_0_0 dX9_strays_1 ?_
  refine g_bipush hX dX9_strays_4 kb_63 ?_
  refine g_iload_n hX dX9_strays_6 rfl rfl ?_
  refine g_iadd hX dX9_strays_7 ?_
  obtain ⟨z1, h⟩ := ck_some h
  refine g_iald hX wk_9_0.1 wk_9_0.2 z1 dX9_strays_8 ?_
  refine g_istore_n (lc' := [some _, some _, some _, none, none, none, none, none]) hX dX9_strays_9 rfl (by decide) rfl rfl ?_
  refine g_iload_n hX dX9_strays_10 rfl rfl ?_
  refine g_istore_n (lc' := [some _, some _, some _, some _, none, none, none, none]) hX dX9_strays_11 rfl (by decide) rfl rfl ?_
  refine g_aload_n hX dX9_strays_12 rfl rfl ?_
  refine g_iload_n hX dX9_strays_13 rfl rfl ?_
  obtain ⟨r2, μ3, hr2, h⟩ := bd2_some h
  refine g_callVi hX (c_X9_drawsOf  _ hr2) mv_X9_drawsOf wm_1244 kd_false_0 rfl (by decide) (by decide) rfl rfl (Nat.le_of_ble_eq_true rfl) dX9_strays_14 ?_
  refine g_istore (lc' := [some _, some _, some _, some _, some _, none, none, none]) hX dX9_strays_17 (by decide) rfl rfl ?_
  refine g_iconst hX dX9_strays_19 k_0 ?_
  refine g_istore (lc' := [some _, some _, some _, some _, some _, some _, none, none]) hX dX9_strays_20 (by decide) rfl rfl ?_
  exact g_weak (lc' := [some _, some _, some _, some _, some _, some _, none, none]) ⟨rfl, rfl, rfl, rfl, rfl, rfl, trivial⟩ (t_X9_strays_22 hX 2000 _ _ _ _ _ _ h)
set_option maxRecDepth 100000 in
set_option maxHeartbeats 4000000 in
theorem t_X9_goes_46 {l : Launch} {D : DT} {X : XT} {μ' : Mem} (hX : Cx l D false X 7 RX9 cX9_goes 2 none) : ∀ (μ : Mem), f_X9_goes_46 μ = some μ' → G l D false X 2 none μ' 46 [some (.ref (D.1 0)), none] [] μ := by
  intro μ h
  unfold f_X9_goes_46 at h
  refine g_aload_n hX dX9_goes_46 rfl rfl ?_
  refine g_getr hX kd_false_0 fg_9_0 tf_9_0 w_970 sr_false_0_0 dX9_goes_47 ?_
  refine g_iconst hX dX9_goes_50 k_0 ?_
  refine g_dup2 hX dX9_goes_51 rfl rfl ?_
  refine g_iald hX wk_9_0.1 wk_9_0.2 (by decide) dX9_goes_52 ?_
  refine g_iconst hX dX9_goes_53 k_1 ?_
  refine g_iadd hX dX9_goes_54 ?_
  obtain ⟨μ1, hμ1, h⟩ := wr_some h
  refine g_iastM hX wk_9_0.1 wk_9_0.2 (by decide) dX9_goes_55 hμ1 ?_
  obtain rfl := Option.some.inj h
  exact g_vret hX rfl dX9_goes_56
set_option maxRecDepth 100000 in
set_option maxHeartbeats 4000000 in
theorem t_X9_goes_25 {l : Launch} {D : DT} {X : XT} {μ' : Mem} (hX : Cx l D false X 7 RX9 cX9_goes 2 none) : ∀ (n : Nat) (v1 : Int32) (μ : Mem), f_X9_goes_25 n v1 μ = some μ' → G l D false X 2 none μ' 25 [some (.ref (D.1 0)), some (.int v1)] [] μ := by
  intro n
  induction n with
  | zero => intro v1 μ h; exact absurd h (by simp [f_X9_goes_25])
  | succ n ih =>
    intro v1 μ h
    rw [f_X9_goes_25] at h
    refine g_iload_n hX dX9_goes_25 rfl rfl ?_
    refine g_aload_n hX dX9_goes_26 rfl rfl ?_
    refine g_getr hX kd_false_0 fg_9_0 tf_9_0 w_970 sr_false_0_0 dX9_goes_27 ?_
    refine g_iconst hX dX9_goes_30 k_4 ?_
    refine g_iald hX wk_9_0.1 wk_9_0.2 (by decide) dX9_goes_31 ?_
    refine g_icmp_ge (tgt := 46) hX dX9_goes_32 (by decide) (fun q1 => ?_) (fun q1 => ?_)
    · rw [if_pos q1] at h
      exact g_weak (lc' := [some _, none]) ⟨rfl, trivial⟩ (t_X9_goes_46 hX _ h)
    · rw [if_neg q1] at h
      refine g_aload_n hX dX9_goes_35 rfl rfl ?_
      refine g_iload_n hX dX9_goes_36 rfl rfl ?_
      obtain ⟨μ2, hμ2, h⟩ := bd_some h
      refine g_callVv hX (c_X9_strays  _ hμ2) mv_X9_strays wm_1240 kd_false_0 rfl (by decide) (by decide) rfl rfl (Nat.le_of_ble_eq_true rfl) dX9_goes_37 ?_
      refine g_iinc (lc' := [some _, some _]) hX dX9_goes_40 (by decide) rfl (congrArg _ k_1) rfl rfl ?_
      refine g_goto (tgt := 25) hX dX9_goes_43 (by decide) ?_
      exact g_weak (lc' := [some _, some _]) ⟨rfl, rfl, trivial⟩ (ih _ _ h)
set_option maxRecDepth 100000 in
set_option maxHeartbeats 4000000 in
theorem t_X9_goes_2 {l : Launch} {D : DT} {X : XT} {μ' : Mem} (hX : Cx l D false X 7 RX9 cX9_goes 2 none) : ∀ (n : Nat) (v1 : Int32) (μ : Mem), f_X9_goes_2 n v1 μ = some μ' → G l D false X 2 none μ' 2 [some (.ref (D.1 0)), some (.int v1)] [] μ := by
  intro n
  induction n with
  | zero => intro v1 μ h; exact absurd h (by simp [f_X9_goes_2])
  | succ n ih =>
    intro v1 μ h
    rw [f_X9_goes_2] at h
    refine g_iload_n hX dX9_goes_2 rfl rfl ?_
    refine g_aload_n hX dX9_goes_3 rfl rfl ?_
    refine g_getr hX kd_false_0 fg_9_0 tf_9_0 w_970 sr_false_0_0 dX9_goes_4 ?_
    refine g_iconst hX dX9_goes_7 k_2 ?_
    refine g_iald hX wk_9_0.1 wk_9_0.2 (by decide) dX9_goes_8 ?_
    refine g_icmp_ge (tgt := 23) hX dX9_goes_9 (by decide) (fun q1 => ?_) (fun q1 => ?_)
    · rw [if_pos q1] at h
      refine g_iconst hX dX9_goes_23 k_0 ?_
      refine g_istore_n (lc' := [some _, some _]) hX dX9_goes_24 rfl (by decide) rfl rfl ?_
      exact g_weak (lc' := [some _, some _]) ⟨rfl, rfl, trivial⟩ (t_X9_goes_25 hX 2000 _ _ h)
    · rw [if_neg q1] at h
      refine g_aload_n hX dX9_goes_12 rfl rfl ?_
      refine g_iload_n hX dX9_goes_13 rfl rfl ?_
      obtain ⟨μ2, hμ2, h⟩ := bd_some h
      refine g_callVv hX (c_X9_letsGo  _ hμ2) mv_X9_letsGo wm_1236 kd_false_0 rfl (by decide) (by decide) rfl rfl (Nat.le_of_ble_eq_true rfl) dX9_goes_14 ?_
      refine g_iinc (lc' := [some _, some _]) hX dX9_goes_17 (by decide) rfl (congrArg _ k_1) rfl rfl ?_
      refine g_goto (tgt := 2) hX dX9_goes_20 (by decide) ?_
      exact g_weak (lc' := [some _, some _]) ⟨rfl, rfl, trivial⟩ (ih _ _ h)
set_option maxRecDepth 100000 in
set_option maxHeartbeats 4000000 in
theorem c_X9_goes {l : Launch} {D : DT} {μ : Mem} {μ' : Mem} (h : f_X9_goes μ = some μ') : Ct l D false 7 yX9_goes cX9_goes 2 none [.ref (D.1 0)] μ none μ' := by
  refine Ct.of (own := RX9) (lc0 := [some (.ref (D.1 0)), none]) pn_X9 rfl (Nat.le_of_ble_eq_true rfl) rfl mv_X9_goes.2.2.2.1 (fun X hX => ?_)
  unfold f_X9_goes at h
  refine g_iconst hX dX9_goes_0 k_0 ?_
  refine g_istore_n (lc' := [some _, some _]) hX dX9_goes_1 rfl (by decide) rfl rfl ?_
  exact g_weak (lc' := [some _, some _]) ⟨rfl, rfl, trivial⟩ (t_X9_goes_2 hX 2000 _ _ h)
