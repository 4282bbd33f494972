set_option maxRecDepth 100000 in
set_option maxHeartbeats 4000000 in
theorem c_X9_roams {l : Launch} {D : DT} {μ : Mem} {r : Int32} {μ' : Mem} (v1 : Int32) (h : f_X9_roams v1 μ = some (r, μ')) : Ct l D false 4 yX9_roams cX9_roams 2 (some FieldType.int) [.ref (D.1 0), .int v1] μ (some (.int r)) μ' := by
  refine Ct.of (own := RX9) (lc0 := [some (.ref (D.1 0)), some (.int v1)]) pn_X9 rfl (Nat.le_of_ble_eq_true rfl) rfl mv_X9_roams.2.2.2.1 (fun X hX => ?_)
  unfold f_X9_roams at h
  refine g_iload_n hX dX9_roams_0 rfl rfl ?_
  refine g_callSi hX (c_X9_isField  v1) mv_X9_isField wm_1131 (by decide) rfl rfl (Nat.le_of_ble_eq_true rfl) dX9_roams_1 ?_
  refine g_if_eq (tgt := 19) hX dX9_roams_4 (by decide) (fun q1 => ?_) (fun q1 => ?_)
  · rw [if_pos q1] at h
    refine g_aload_n hX dX9_roams_19 rfl rfl ?_
    refine g_ldc hX dX9_roams_20 wc_1050 ?_
    obtain ⟨r2, μ3, hr2, h⟩ := bd2_some h
    refine g_callVi hX (c_X9_error  _ hr2) mv_X9_error wm_1051 kd_false_0 rfl (by decide) (by decide) rfl rfl (Nat.le_of_ble_eq_true rfl) dX9_roams_22 ?_
    obtain ⟨rfl, rfl⟩ := pair_inj h
    exact g_iret hX rfl rfl dX9_roams_25
  · rw [if_neg q1] at h
    refine g_aload_n hX dX9_roams_7 rfl rfl ?_
    refine g_iload_n hX dX9_roams_8 rfl rfl ?_
    refine g_aload_n hX dX9_roams_9 rfl rfl ?_
    obtain ⟨r4, hr4, h⟩ := bd_some h
    refine g_callVi hX (c_X9_opened hr4) mv_X9_opened wm_1252 kd_false_0 rfl (by decide) (by decide) rfl rfl (Nat.le_of_ble_eq_true rfl) dX9_roams_10 ?_
    obtain ⟨r5, hr5, h⟩ := bd_some h
    refine g_callVi hX (c_X9_roamsBy  _ _ hr5) mv_X9_roamsBy wm_1328 kd_false_0 rfl (by decide) (by decide) rfl rfl (Nat.le_of_ble_eq_true rfl) dX9_roams_13 ?_
    refine g_goto (tgt := 25) hX dX9_roams_16 (by decide) ?_
    obtain ⟨rfl, rfl⟩ := pair_inj h
    exact g_iret hX rfl rfl dX9_roams_25
set_option maxRecDepth 100000 in
set_option maxHeartbeats 4000000 in
theorem c_X9_seed {l : Launch} {D : DT} {μ : Mem} {r : Int32} {μ' : Mem} (v1 : Int32) (h : f_X9_seed v1 μ = some (r, μ')) : Ct l D false 2 yX9_seed cX9_seed 2 (some FieldType.int) [.ref (D.1 0), .int v1] μ (some (.int r)) μ' := by
  refine Ct.of (own := RX9) (lc0 := [some (.ref (D.1 0)), some (.int v1)]) pn_X9 rfl (Nat.le_of_ble_eq_true rfl) rfl mv_X9_seed.2.2.2.1 (fun X hX => ?_)
  unfold f_X9_seed at h
  refine g_aload_n hX dX9_seed_0 rfl rfl ?_
  refine g_iconst hX dX9_seed_1 k_1 ?_
  refine g_iload_n hX dX9_seed_2 rfl rfl ?_
  obtain ⟨r1, μ2, hr1, h⟩ := bd2_some h
  refine g_callVi hX (c_X9_becomes  _ _ hr1) mv_X9_becomes wm_1115 kd_false_0 rfl (by decide) (by decide) rfl rfl (Nat.le_of_ble_eq_true rfl) dX9_seed_3 ?_
  obtain ⟨rfl, rfl⟩ := pair_inj h
  exact g_iret hX rfl rfl dX9_seed_6
set_option maxRecDepth 100000 in
set_option maxHeartbeats 4000000 in
theorem t_X9_sheet_29 {l : Launch} {D : DT} {X : XT} {r : Int32} {μ' : Mem} (hX : Cx l D false X 3 RX9 cX9_sheet 5 (some FieldType.int)) : ∀ (μ : Mem), f_X9_sheet_29 μ = some (r, μ') → G l D false X 5 (some (.int r)) μ' 29 [some (.ref (D.1 0)), none, none, none, none] [] μ := by
  intro μ h
  unfold f_X9_sheet_29 at h
  refine g_aload_n hX dX9_sheet_29 rfl rfl ?_
  refine g_ldc hX dX9_sheet_30 wc_1050 ?_
  obtain ⟨r1, μ2, hr1, h⟩ := bd2_some h
  refine g_callVi hX (c_X9_error  _ hr1) mv_X9_error wm_1051 kd_false_0 rfl (by decide) (by decide) rfl rfl (Nat.le_of_ble_eq_true rfl) dX9_sheet_32 ?_
  obtain ⟨rfl, rfl⟩ := pair_inj h
  exact g_iret hX rfl rfl dX9_sheet_35
set_option maxRecDepth 100000 in
set_option maxHeartbeats 4000000 in
theorem t_X9_sheet_93 {l : Launch} {D : DT} {X : XT} {r : Int32} {μ' : Mem} (hX : Cx l D false X 3 RX9 cX9_sheet 5 (some FieldType.int)) : ∀ (n : Nat) (v1 : Int32) (v4 : Int32) (μ : Mem), f_X9_sheet_93 n v1 v4 μ = some (r, μ') → G l D false X 5 (some (.int r)) μ' 93 [some (.ref (D.1 0)), some (.int v1), none, none, some (.int v4)] [] μ := by
  intro n
  induction n with
  | zero => intro v1 v4 μ h; exact absurd h (by simp [f_X9_sheet_93])
  | succ n ih =>
    intro v1 v4 μ h
    rw [f_X9_sheet_93] at h
    refine g_iload hX dX9_sheet_93 rfl ?_
    refine g_bipush hX dX9_sheet_95 kb_24 ?_
    refine g_icmp_ge (tgt := 119) hX dX9_sheet_97 (by decide) (fun q1 => ?_) (fun q1 => ?_)
    · rw [if_pos q1] at h
      refine g_iconst hX dX9_sheet_119 k_1 ?_
      obtain ⟨rfl, rfl⟩ := pair_inj h
      exact g_iret hX rfl rfl dX9_sheet_120
    · rw [if_neg q1] at h
      refine g_aload_n hX dX9_sheet_100 rfl rfl ?_
      refine g_getr hX kd_false_0 fg_9_7 tf_9_7 w_977 sr_false_0_7 dX9_sheet_101 ?_
      refine g_bipush hX dX9_sheet_104 kb_24 ?_
      refine g_iload_n hX dX9_sheet_106 rfl rfl ?_
      refine g_imul hX dX9_sheet_107 ?_
      refine g_iload hX dX9_sheet_108 rfl ?_
      refine g_iadd hX dX9_sheet_110 ?_
      refine g_iconst hX dX9_sheet_111 k_0 ?_
      obtain ⟨z3, h⟩ := ck_some h
      obtain ⟨μ2, hμ2, h⟩ := wr_some h
      refine g_iastM hX wk_9_7.1 wk_9_7.2 z3 dX9_sheet_112 hμ2 ?_
      refine g_iinc (lc' := [some _, some _, none, none, some _]) hX dX9_sheet_113 (by decide) rfl (congrArg _ k_1) rfl rfl ?_
      refine g_goto (tgt := 93) hX dX9_sheet_116 (by decide) ?_
      exact g_weak (lc' := [some _, some _, none, none, some _]) ⟨rfl, rfl, rfl, trivial⟩ (ih _ _ _ h)
set_option maxRecDepth 100000 in
set_option maxHeartbeats 4000000 in
theorem t_X9_sheet_89 {l : Launch} {D : DT} {X : XT} {r : Int32} {μ' : Mem} (hX : Cx l D false X 3 RX9 cX9_sheet 5 (some FieldType.int)) : ∀ (v1 : Int32) (s1 : Int32) (s2 : Int32) (μ : Mem), f_X9_sheet_89 v1 s1 s2 μ = some (r, μ') → G l D false X 5 (some (.int r)) μ' 89 [some (.ref (D.1 0)), some (.int v1), none, none, none] [.int s2, .int s1, .ref (D.1 6)] μ := by
  intro v1 s1 s2 μ h
  unfold f_X9_sheet_89 at h
  obtain ⟨z2, h⟩ := ck_some h
  obtain ⟨μ1, hμ1, h⟩ := wr_some h
  refine g_iastM hX wk_9_6.1 wk_9_6.2 z2 dX9_sheet_89 hμ1 ?_
  refine g_iconst hX dX9_sheet_90 k_0 ?_
  refine g_istore (lc' := [some _, some _, none, none, some _]) hX dX9_sheet_91 (by decide) rfl rfl ?_
  exact g_weak (lc' := [some _, some _, none, none, some _]) ⟨rfl, rfl, rfl, trivial⟩ (t_X9_sheet_93 hX 2000 _ _ _ h)
set_option maxRecDepth 100000 in
set_option maxHeartbeats 4000000 in
theorem t_X9_sheet_68 {l : Launch} {D : DT} {X : XT} {r : Int32} {μ' : Mem} (hX : Cx l D false X 3 RX9 cX9_sheet 5 (some FieldType.int)) : ∀ (v1 : Int32) (v2 : Int32) (v3 : Int32) (μ : Mem), f_X9_sheet_68 v1 v2 v3 μ = some (r, μ') → G l D false X 5 (some (.int r)) μ' 68 [some (.ref (D.1 0)), some (.int v1), some (.int v2), some (.int v3), none] [] μ := by
  intro v1 v2 v3 μ h
  unfold f_X9_sheet_68 at h
  refine g_aload_n hX dX9_sheet_68 rfl rfl ?_
  refine g_getr hX kd_false_0 fg_9_5 tf_9_5 w_975 sr_false_0_5 dX9_sheet_69 ?_
  refine g_iload_n hX dX9_sheet_72 rfl rfl ?_
  refine g_iload_n hX dX9_sheet_73 rfl rfl ?_
  obtain ⟨z2, h⟩ := ck_some h
  obtain ⟨μ1, hμ1, h⟩ := wr_some h
  refine g_iastM hX wk_9_5.1 wk_9_5.2 z2 dX9_sheet_74 hμ1 ?_
  refine g_aload_n hX dX9_sheet_75 rfl rfl ?_
  refine g_getr hX kd_false_0 fg_9_6 tf_9_6 w_976 sr_false_0_6 dX9_sheet_76 ?_
  refine g_iload_n hX dX9_sheet_79 rfl rfl ?_
  refine g_iload_n hX dX9_sheet_80 rfl rfl ?_
  refine g_if_ne (tgt := 88) hX dX9_sheet_81 (by decide) (fun q3 => ?_) (fun q3 => ?_)
  · rw [if_neg q3] at h
    refine g_iload_n hX dX9_sheet_88 rfl rfl ?_
    exact g_weak (lc' := [some _, some _, none, none, none]) ⟨rfl, rfl, trivial⟩ (t_X9_sheet_89 hX _ _ _ _ h)
  · rw [if_pos q3] at h
    refine g_iconst hX dX9_sheet_84 k_0 ?_
    refine g_goto (tgt := 89) hX dX9_sheet_85 (by decide) ?_
    exact g_weak (lc' := [some _, some _, none, none, none]) ⟨rfl, rfl, trivial⟩ (t_X9_sheet_89 hX _ _ _ _ h)
set_option maxRecDepth 100000 in
set_option maxHeartbeats 4000000 in
theorem t_X9_sheet_51 {l : Launch} {D : DT} {X : XT} {r : Int32} {μ' : Mem} (hX : Cx l D false X 3 RX9 cX9_sheet 5 (some FieldType.int)) : ∀ (v1 : Int32) (v2 : Int32) (v3 : Int32) (μ : Mem), f_X9_sheet_51 v1 v2 v3 μ = some (r, μ') → G l D false X 5 (some (.int r)) μ' 51 [some (.ref (D.1 0)), some (.int v1), some (.int v2), some (.int v3), none] [] μ := by
  intro v1 v2 v3 μ h
  unfold f_X9_sheet_51 at h
  refine g_iload_n hX dX9_sheet_51 rfl rfl ?_
  refine g_if_le (tgt := 68) hX dX9_sheet_52 (by decide) (fun q1 => ?_) (fun q1 => ?_)
  · rw [if_pos q1] at h
    exact g_weak (lc' := [some _, some _, some _, some _, none]) ⟨rfl, rfl, rfl, rfl, trivial⟩ (t_X9_sheet_68 hX _ _ _ _ h)
  · rw [if_neg q1] at h
    refine g_iload_n hX dX9_sheet_55 rfl rfl ?_
    refine g_bipush hX dX9_sheet_56 kb_24 ?_
    refine g_icmp_le (tgt := 68) hX dX9_sheet_58 (by decide) (fun q2 => ?_) (fun q2 => ?_)
    · rw [if_pos q2] at h
      exact g_weak (lc' := [some _, some _, some _, some _, none]) ⟨rfl, rfl, rfl, rfl, trivial⟩ (t_X9_sheet_68 hX _ _ _ _ h)
    · rw [if_neg q2] at h
      refine g_aload_n hX dX9_sheet_61 rfl rfl ?_
      refine g_ldc hX dX9_sheet_62 wc_1050 ?_
      obtain ⟨r3, μ4, hr3, h⟩ := bd2_some h
      refine g_callVi hX (c_X9_error  _ hr3) mv_X9_error wm_1051 kd_false_0 rfl (by decide) (by decide) rfl rfl (Nat.le_of_ble_eq_true rfl) dX9_sheet_64 ?_
      obtain ⟨rfl, rfl⟩ := pair_inj h
      exact g_iret hX rfl rfl dX9_sheet_67
set_option maxRecDepth 100000 in
set_option maxHeartbeats 4000000 in
theorem t_X9_sheet_36 {l : Launch} {D : DT} {X : XT} {r : Int32} {μ' : Mem} (hX : Cx l D false X 3 RX9 cX9_sheet 5 (some FieldType.int)) : ∀ (v1 : Int32) (v2 : Int32) (v3 : Int32) (μ : Mem), f_X9_sheet_36 v1 v2 v3 μ = some (r, μ') → G l D false X 5 (some (.int r)) μ' 36 [some (.ref (D.1 0)), some (.int v1), some (.int v2), some (.int v3), none] [] μ := by
  intro v1 v2 v3 μ h
  unfold f_X9_sheet_36 at h
  refine g_iload_n hX dX9_sheet_36 rfl rfl ?_
  refine g_if_le (tgt := 51) hX dX9_sheet_37 (by decide) (fun q1 => ?_) (fun q1 => ?_)
  · rw [if_pos q1] at h
    exact g_weak (lc' := [some _, some _, some _, some _, none]) ⟨rfl, rfl, rfl, rfl, trivial⟩ (t_X9_sheet_51 hX _ _ _ _ h)
  · rw [if_neg q1] at h
    refine g_iload_n hX dX9_sheet_40 rfl rfl ?_
    refine g_if_ge (tgt := 51) hX dX9_sheet_41 (by decide) (fun q2 => ?_) (fun q2 => ?_)
    · rw [if_pos q2] at h
      exact g_weak (lc' := [some _, some _, some _, some _, none]) ⟨rfl, rfl, rfl, rfl, trivial⟩ (t_X9_sheet_51 hX _ _ _ _ h)
    · rw [if_neg q2] at h
      refine g_aload_n hX dX9_sheet_44 rfl rfl ?_
      refine g_ldc hX dX9_sheet_45 wc_1231 ?_
      obtain ⟨r3, μ4, hr3, h⟩ := bd2_some h
      refine g_callVi hX (c_X9_error  _ hr3) mv_X9_error wm_1051 kd_false_0 rfl (by decide) (by decide) rfl rfl (Nat.le_of_ble_eq_true rfl) dX9_sheet_47 ?_
      obtain ⟨rfl, rfl⟩ := pair_inj h
      exact g_iret hX rfl rfl dX9_sheet_50
set_option maxRecDepth 100000 in
set_option maxHeartbeats 4000000 in
theorem c_X9_sheet {l : Launch} {D : DT} {μ : Mem} {r : Int32} {μ' : Mem} (v1 : Int32) (v2 : Int32) (v3 : Int32) (h : f_X9_sheet v1 v2 v3 μ = some (r, μ')) : Ct l D false 3 yX9_sheet cX9_sheet 5 (some FieldType.int) [.ref (D.1 0), .int v1, .int v2, .int v3] μ (some (.int r)) μ' := by
  refine Ct.of (own := RX9) (lc0 := [some (.ref (D.1 0)), some (.int v1), some (.int v2), some (.int v3), none]) pn_X9 rfl (Nat.le_of_ble_eq_true rfl) rfl mv_X9_sheet.2.2.2.1 (fun X hX => ?_)
  unfold f_X9_sheet at h
  refine g_iload_n hX dX9_sheet_0 rfl rfl ?_
  refine g_callSi hX (c_X9_isSheet  v1) mv_X9_isSheet wm_1348 (by decide) rfl rfl (Nat.le_of_ble_eq_true rfl) dX9_sheet_1 ?_
  refine g_if_eq (tgt := 29) hX dX9_sheet_4 (by decide) (fun q1 => ?_) (fun q1 => ?_)
  · rw [if_pos q1] at h
    exact g_weak (lc' := [some _, none, none, none, none]) ⟨rfl, trivial⟩ (t_X9_sheet_29 hX _ h)
  · rw [if_neg q1] at h
    refine g_iload_n hX dX9_sheet_7 rfl rfl ?_
    refine g_if_eq (tgt := 36) hX dX9_sheet_8 (by decide) (fun q2 => ?_) (fun q2 => ?_)
    · rw [if_pos q2] at h
      exact g_weak (lc' := [some _, some _, some _, some _, none]) ⟨rfl, rfl, rfl, rfl, trivial⟩ (t_X9_sheet_36 hX _ _ _ _ h)
    · rw [if_neg q2] at h
      refine g_iload_n hX dX9_sheet_11 rfl rfl ?_
      refine g_bipush hX dX9_sheet_12 kb_8 ?_
      refine g_icmp_eq (tgt := 36) hX dX9_sheet_14 (by decide) (fun q3 => ?_) (fun q3 => ?_)
      · rw [if_pos q3] at h
        exact g_weak (lc' := [some _, some _, some _, some _, none]) ⟨rfl, rfl, rfl, rfl, trivial⟩ (t_X9_sheet_36 hX _ _ _ _ h)
      · rw [if_neg q3] at h
        refine g_iload_n hX dX9_sheet_17 rfl rfl ?_
        refine g_bipush hX dX9_sheet_18 kb_16 ?_
        refine g_icmp_eq (tgt := 36) hX dX9_sheet_20 (by decide) (fun q4 => ?_) (fun q4 => ?_)
        · rw [if_pos q4] at h
          exact g_weak (lc' := [some _, some _, some _, some _, none]) ⟨rfl, rfl, rfl, rfl, trivial⟩ (t_X9_sheet_36 hX _ _ _ _ h)
        · rw [if_neg q4] at h
          refine g_iload_n hX dX9_sheet_23 rfl rfl ?_
          refine g_bipush hX dX9_sheet_24 kb_32 ?_
          refine g_icmp_eq (tgt := 36) hX dX9_sheet_26 (by decide) (fun q5 => ?_) (fun q5 => ?_)
          · rw [if_pos q5] at h
            exact g_weak (lc' := [some _, some _, some _, some _, none]) ⟨rfl, rfl, rfl, rfl, trivial⟩ (t_X9_sheet_36 hX _ _ _ _ h)
          · rw [if_neg q5] at h
            exact g_weak (lc' := [some _, none, none, none, none]) ⟨rfl, trivial⟩ (t_X9_sheet_29 hX _ h)
set_option maxRecDepth 100000 in
set_option maxHeartbeats 4000000 in
theorem c_X9_stock {l : Launch} {D : DT} {μ : Mem} {r : Int32} {μ' : Mem} (v1 : Int32) (h : f_X9_stock v1 μ = some (r, μ')) : Ct l D false 3 yX9_stock cX9_stock 3 (some FieldType.int) [.ref (D.1 0), .int v1] μ (some (.int r)) μ' := by
  refine Ct.of (own := RX9) (lc0 := [some (.ref (D.1 0)), some (.int v1), none]) pn_X9 rfl (Nat.le_of_ble_eq_true rfl) rfl mv_X9_stock.2.2.2.1 (fun X hX => ?_)
  unfold f_X9_stock at h
  refine g_iload_n hX dX9_stock_0 rfl rfl ?_
  refine g_callSi hX (c_X9_isField  v1) mv_X9_isField wm_1131 (by decide) rfl rfl (Nat.le_of_ble_eq_true rfl) dX9_stock_1 ?_
  refine g_if_ne (tgt := 14) hX dX9_stock_4 (by decide) (fun q1 => ?_) (fun q1 => ?_)
  · rw [if_neg q1] at h
    refine g_aload_n hX dX9_stock_14 rfl rfl ?_
    refine g_getr hX kd_false_0 fg_9_0 tf_9_0 w_970 sr_false_0_0 dX9_stock_15 ?_
    refine g_iconst hX dX9_stock_18 k_4 ?_
    refine g_iald hX wk_9_0.1 wk_9_0.2 (by decide) dX9_stock_19 ?_
    refine g_istore_n (lc' := [some _, some _, some _]) hX dX9_stock_20 rfl (by decide) rfl rfl ?_
    refine g_iload_n hX dX9_stock_21 rfl rfl ?_
    refine g_bipush hX dX9_stock_22 kb_6 ?_
    refine g_icmp_ne (tgt := 34) hX dX9_stock_24 (by decide) (fun q2 => ?_) (fun q2 => ?_)
    · rw [if_neg q2] at h
      refine g_aload_n hX dX9_stock_34 rfl rfl ?_
      refine g_getr hX kd_false_0 fg_9_0 tf_9_0 w_970 sr_false_0_0 dX9_stock_35 ?_
      refine g_iconst hX dX9_stock_38 k_4 ?_
      refine g_dup2 hX dX9_stock_39 rfl rfl ?_
      refine g_iald hX wk_9_0.1 wk_9_0.2 (by decide) dX9_stock_40 ?_
      refine g_iconst hX dX9_stock_41 k_1 ?_
      refine g_iadd hX dX9_stock_42 ?_
      obtain ⟨μ3, hμ3, h⟩ := wr_some h
      refine g_iastM hX wk_9_0.1 wk_9_0.2 (by decide) dX9_stock_43 hμ3 ?_
      refine g_aload_n hX dX9_stock_44 rfl rfl ?_
      refine g_getr hX kd_false_0 fg_9_0 tf_9_0 w_970 sr_false_0_0 dX9_stock_45 ?_
      refine g_bipush hX dX9_stock_48 kb_63 ?_
      refine g_iload_n hX dX9_stock_50 rfl rfl ?_
      refine g_iadd hX dX9_stock_51 ?_
      refine g_iload_n hX dX9_stock_52 rfl rfl ?_
      obtain ⟨z5, h⟩ := ck_some h
      obtain ⟨μ4, hμ4, h⟩ := wr_some h
      refine g_iastM hX wk_9_0.1 wk_9_0.2 z5 dX9_stock_53 hμ4 ?_
      refine g_iload_n hX dX9_stock_54 rfl rfl ?_
      obtain ⟨rfl, rfl⟩ := pair_inj h
      exact g_iret hX rfl rfl dX9_stock_55
    · rw [if_pos q2] at h
      refine g_aload_n hX dX9_stock_27 rfl rfl ?_
      refine g_ldc hX dX9_stock_28 wc_1056 ?_
      obtain ⟨r6, μ7, hr6, h⟩ := bd2_some h
      refine g_callVi hX (c_X9_error  _ hr6) mv_X9_error wm_1051 kd_false_0 rfl (by decide) (by decide) rfl rfl (Nat.le_of_ble_eq_true rfl) dX9_stock_30 ?_
      obtain ⟨rfl, rfl⟩ := pair_inj h
      exact g_iret hX rfl rfl dX9_stock_33
  · rw [if_pos q1] at h
    refine g_aload_n hX dX9_stock_7 rfl rfl ?_
    refine g_ldc hX dX9_stock_8 wc_1050 ?_
    obtain ⟨r8, μ9, hr8, h⟩ := bd2_some h
    refine g_callVi hX (c_X9_error  _ hr8) mv_X9_error wm_1051 kd_false_0 rfl (by decide) (by decide) rfl rfl (Nat.le_of_ble_eq_true rfl) dX9_stock_10 ?_
    obtain ⟨rfl, rfl⟩ := pair_inj h
    exact g_iret hX rfl rfl dX9_stock_13
set_option maxRecDepth 100000 in
set_option maxHeartbeats 4000000 in
theorem c_X9_stockAt {l : Launch} {D : DT} {μ : Mem} {r : Int32} {μ' : Mem} (v1 : Int32) (h : f_X9_stockAt v1 μ = some (r, μ')) : Ct l D false 2 yX9_stockAt cX9_stockAt 2 (some FieldType.int) [.ref (D.1 0), .int v1] μ (some (.int r)) μ' := by
  refine Ct.of (own := RX9) (lc0 := [some (.ref (D.1 0)), some (.int v1)]) pn_X9 rfl (Nat.le_of_ble_eq_true rfl) rfl mv_X9_stockAt.2.2.2.1 (fun X hX => ?_)
  unfold f_X9_stockAt at h
  refine g_iload_n hX dX9_stockAt_0 rfl rfl ?_
  refine g_iconst hX dX9_stockAt_1 k_0 ?_
  refine g_aload_n hX dX9_stockAt_2 rfl rfl ?_
  refine g_getr hX kd_false_0 fg_9_0 tf_9_0 w_970 sr_false_0_0 dX9_stockAt_3 ?_
  refine g_iconst hX dX9_stockAt_6 k_4 ?_
  refine g_iald hX wk_9_0.1 wk_9_0.2 (by decide) dX9_stockAt_7 ?_
  refine g_iconst hX dX9_stockAt_8 k_1 ?_
  refine g_isub hX dX9_stockAt_9 ?_
  refine g_callSi hX (c_X9_in  v1 0 ((μ 1 (ix 4)) - 1)) mv_X9_in wm_1047 (by decide) rfl rfl (Nat.le_of_ble_eq_true rfl) dX9_stockAt_10 ?_
  refine g_if_eq (tgt := 28) hX dX9_stockAt_13 (by decide) (fun q1 => ?_) (fun q1 => ?_)
  · rw [if_pos q1] at h
    refine g_aload_n hX dX9_stockAt_28 rfl rfl ?_
    refine g_ldc hX dX9_stockAt_29 wc_1050 ?_
    obtain ⟨r2, μ3, hr2, h⟩ := bd2_some h
    refine g_callVi hX (c_X9_error  _ hr2) mv_X9_error wm_1051 kd_false_0 rfl (by decide) (by decide) rfl rfl (Nat.le_of_ble_eq_true rfl) dX9_stockAt_31 ?_
    obtain ⟨rfl, rfl⟩ := pair_inj h
    exact g_iret hX rfl rfl dX9_stockAt_34
  · rw [if_neg q1] at h
    refine g_aload_n hX dX9_stockAt_16 rfl rfl ?_
    refine g_getr hX kd_false_0 fg_9_0 tf_9_0 w_970 sr_false_0_0 dX9_stockAt_17 ?_
    refine g_bipush hX dX9_stockAt_20 kb_63 ?_
    refine g_iload_n hX dX9_stockAt_22 rfl rfl ?_
    refine g_iadd hX dX9_stockAt_23 ?_
    obtain ⟨z4, h⟩ := ck_some h
    refine g_iald hX wk_9_0.1 wk_9_0.2 z4 dX9_stockAt_24 ?_
    refine g_goto (tgt := 34) hX dX9_stockAt_25 (by decide) ?_
    obtain ⟨rfl, rfl⟩ := pair_inj h
    exact g_iret hX rfl rfl dX9_stockAt_34
set_option maxRecDepth 100000 in
set_option maxHeartbeats 4000000 in
theorem c_X9_tell {l : Launch} {D : DT} {μ : Mem} {r : Int32} {μ' : Mem} (v1 : Int32) (h : f_X9_tell v1 μ = some (r, μ')) : Ct l D false 2 yX9_tell cX9_tell 2 (some FieldType.int) [.ref (D.1 0), .int v1] μ (some (.int r)) μ' := by
  refine Ct.of (own := RX9) (lc0 := [some (.ref (D.1 0)), some (.int v1)]) pn_X9 rfl (Nat.le_of_ble_eq_true rfl) rfl mv_X9_tell.2.2.2.1 (fun X hX => ?_)
  unfold f_X9_tell at h
  refine g_aload_n hX dX9_tell_0 rfl rfl ?_
  refine g_getr hX kd_false_0 fg_9_0 tf_9_0 w_970 sr_false_0_0 dX9_tell_1 ?_
  refine g_bipush hX dX9_tell_4 kb_7 ?_
  refine g_iald hX wk_9_0.1 wk_9_0.2 (by decide) dX9_tell_6 ?_
  refine g_bipush hX dX9_tell_7 kb_24 ?_
  refine g_icmp_ne (tgt := 19) hX dX9_tell_9 (by decide) (fun q1 => ?_) (fun q1 => ?_)
  · rw [if_neg q1] at h
    refine g_aload_n hX dX9_tell_19 rfl rfl ?_
    refine g_getr hX kd_false_0 fg_9_0 tf_9_0 w_970 sr_false_0_0 dX9_tell_20 ?_
    refine g_sipush hX dX9_tell_23 ks_129 ?_
    refine g_aload_n hX dX9_tell_26 rfl rfl ?_
    refine g_getr hX kd_false_0 fg_9_0 tf_9_0 w_970 sr_false_0_0 dX9_tell_27 ?_
    refine g_bipush hX dX9_tell_30 kb_7 ?_
    refine g_iald hX wk_9_0.1 wk_9_0.2 (by decide) dX9_tell_32 ?_
    refine g_iadd hX dX9_tell_33 ?_
    refine g_iload_n hX dX9_tell_34 rfl rfl ?_
    obtain ⟨z3, h⟩ := ck_some h
    obtain ⟨μ2, hμ2, h⟩ := wr_some h
    refine g_iastM hX wk_9_0.1 wk_9_0.2 z3 dX9_tell_35 hμ2 ?_
    refine g_aload_n hX dX9_tell_36 rfl rfl ?_
    refine g_getr hX kd_false_0 fg_9_0 tf_9_0 w_970 sr_false_0_0 dX9_tell_37 ?_
    refine g_bipush hX dX9_tell_40 kb_7 ?_
    refine g_dup2 hX dX9_tell_42 rfl rfl ?_
    refine g_iald hX wk_9_0.1 wk_9_0.2 (by decide) dX9_tell_43 ?_
    refine g_iconst hX dX9_tell_44 k_1 ?_
    refine g_iadd hX dX9_tell_45 ?_
    obtain ⟨μ4, hμ4, h⟩ := wr_some h
    refine g_iastM hX wk_9_0.1 wk_9_0.2 (by decide) dX9_tell_46 hμ4 ?_
    refine g_aload_n hX dX9_tell_47 rfl rfl ?_
    refine g_getr hX kd_false_0 fg_9_0 tf_9_0 w_970 sr_false_0_0 dX9_tell_48 ?_
    refine g_bipush hX dX9_tell_51 kb_7 ?_
    refine g_iald hX wk_9_0.1 wk_9_0.2 (by decide) dX9_tell_53 ?_
    obtain ⟨rfl, rfl⟩ := pair_inj h
    exact g_iret hX rfl rfl dX9_tell_54
  · rw [if_pos q1] at h
    refine g_aload_n hX dX9_tell_12 rfl rfl ?_
    refine g_ldc hX dX9_tell_13 wc_1056 ?_
    obtain ⟨r5, μ6, hr5, h⟩ := bd2_some h
    refine g_callVi hX (c_X9_error  _ hr5) mv_X9_error wm_1051 kd_false_0 rfl (by decide) (by decide) rfl rfl (Nat.le_of_ble_eq_true rfl) dX9_tell_15 ?_
    obtain ⟨rfl, rfl⟩ := pair_inj h
    exact g_iret hX rfl rfl dX9_tell_18
set_option maxRecDepth 100000 in
set_option maxHeartbeats 4000000 in
theorem t_X9_text_119 {l : Launch} {D : DT} {X : XT} {r : Int32} {μ' : Mem} (hX : Cx l D false X 148 RX9 cX9_text 4 (some FieldType.int)) : ∀ (n : Nat) (v2 : Int32) (v3 : Int32) (μ : Mem), f_X9_text_119 n v2 v3 μ = some (r, μ') → G l D false X 4 (some (.int r)) μ' 119 [some (.ref (D.1 0)), none, some (.int v2), some (.int v3)] [] μ := by
  intro n
  induction n with
  | zero => intro v2 v3 μ h; exact absurd h (by simp [f_X9_text_119])
  | succ n ih =>
    intro v2 v3 μ h
    rw [f_X9_text_119] at h
    refine g_iload_n hX dX9_text_119 rfl rfl ?_
    refine g_aload_n hX dX9_text_120 rfl rfl ?_
    refine g_geti hX kd_false_0 fg_9_12 tf_9_12 w_982 dX9_text_121 ?_
    refine g_icmp_ge (tgt := 166) hX dX9_text_124 (by decide) (fun q1 => ?_) (fun q1 => ?_)
    · rw [if_pos q1] at h
      refine g_iconst hX dX9_text_166 k_1 ?_
      obtain ⟨rfl, rfl⟩ := pair_inj h
      exact g_iret hX rfl rfl dX9_text_167
    · rw [if_neg q1] at h
      refine g_aload_n hX dX9_text_127 rfl rfl ?_
      refine g_getr hX kd_false_0 fg_9_0 tf_9_0 w_970 sr_false_0_0 dX9_text_128 ?_
      refine g_iload_n hX dX9_text_131 rfl rfl ?_
      refine g_iconst hX dX9_text_132 k_1 ?_
      refine g_iadd hX dX9_text_133 ?_
      refine g_iload_n hX dX9_text_134 rfl rfl ?_
      refine g_iadd hX dX9_text_135 ?_
      refine g_aload_n hX dX9_text_136 rfl rfl ?_
      refine g_getr hX kd_false_0 fg_9_8 tf_9_8 w_978 sr_false_0_8 dX9_text_137 ?_
      refine g_iload_n hX dX9_text_140 rfl rfl ?_
      obtain ⟨z2, h⟩ := ck_some h
      refine g_iald hX wk_9_8.1 wk_9_8.2 z2 dX9_text_141 ?_
      obtain ⟨z4, h⟩ := ck_some h
      obtain ⟨μ3, hμ3, h⟩ := wr_some h
      refine g_iastM hX wk_9_0.1 wk_9_0.2 z4 dX9_text_142 hμ3 ?_
      refine g_aload_n hX dX9_text_143 rfl rfl ?_
      refine g_getr hX kd_false_0 fg_9_0 tf_9_0 w_970 sr_false_0_0 dX9_text_144 ?_
      refine g_iload_n hX dX9_text_147 rfl rfl ?_
      refine g_bipush hX dX9_text_148 kb_61 ?_
      refine g_iadd hX dX9_text_150 ?_
      refine g_iload_n hX dX9_text_151 rfl rfl ?_
      refine g_iadd hX dX9_text_152 ?_
      refine g_aload_n hX dX9_text_153 rfl rfl ?_
      refine g_getr hX kd_false_0 fg_9_9 tf_9_9 w_979 sr_false_0_9 dX9_text_154 ?_
      refine g_iload_n hX dX9_text_157 rfl rfl ?_
      obtain ⟨z5, h⟩ := ck_some h
      refine g_iald hX wk_9_9.1 wk_9_9.2 z5 dX9_text_158 ?_
      obtain ⟨z7, h⟩ := ck_some h
      obtain ⟨μ6, hμ6, h⟩ := wr_some h
      refine g_iastM hX wk_9_0.1 wk_9_0.2 z7 dX9_text_159 hμ6 ?_
      refine g_iinc (lc' := [some _, none, some _, some _]) hX dX9_text_160 (by decide) rfl (congrArg _ k_1) rfl rfl ?_
      refine g_goto (tgt := 119) hX dX9_text_163 (by decide) ?_
      exact g_weak (lc' := [some _, none, some _, some _]) ⟨rfl, rfl, rfl, trivial⟩ (ih _ _ _ h)
set_option maxRecDepth 100000 in
set_option maxHeartbeats 4000000 in
theorem t_X9_text_72 {l : Launch} {D : DT} {X : XT} {r : Int32} {μ' : Mem} (hX : Cx l D false X 148 RX9 cX9_text 4 (some FieldType.int)) : ∀ (v1 : Int32) (s1 : Int32) (μ : Mem), f_X9_text_72 v1 s1 μ = some (r, μ') → G l D false X 4 (some (.int r)) μ' 72 [some (.ref (D.1 0)), some (.int v1), none, none] [.int s1, .ref (D.1 0)] μ := by
  intro v1 s1 μ h
  unfold f_X9_text_72 at h
  obtain ⟨z2, h⟩ := ck_some h
  obtain ⟨μ1, hμ1, h⟩ := wr_some h
  refine g_putz hX z2 kd_false_0 fg_9_15 tf_9_15 tyX9_ok nmX9 rfl w_985 dX9_text_72 hμ1 ?_
  refine g_aload_n hX dX9_text_75 rfl rfl ?_
  refine g_getr hX kd_false_0 fg_9_0 tf_9_0 w_970 sr_false_0_0 dX9_text_76 ?_
  refine g_bipush hX dX9_text_79 kb_6 ?_
  refine g_iconst hX dX9_text_81 k_0 ?_
  obtain ⟨μ3, hμ3, h⟩ := wr_some h
  refine g_iastM hX wk_9_0.1 wk_9_0.2 (by decide) dX9_text_82 hμ3 ?_
  refine g_aload_n hX dX9_text_83 rfl rfl ?_
  refine g_geti hX kd_false_0 fg_9_15 tf_9_15 w_985 dX9_text_84 ?_
  refine g_if_eq (tgt := 98) hX dX9_text_87 (by decide) (fun q4 => ?_) (fun q4 => ?_)
  · rw [if_pos q4] at h
    refine g_sipush hX dX9_text_98 ks_153 ?_
    refine g_bipush hX dX9_text_101 kb_121 ?_
    refine g_iload_n hX dX9_text_103 rfl rfl ?_
    refine g_imul hX dX9_text_104 ?_
    refine g_iadd hX dX9_text_105 ?_
    refine g_istore_n (lc' := [some _, some _, some _, none]) hX dX9_text_106 rfl (by decide) rfl rfl ?_
    refine g_aload_n hX dX9_text_107 rfl rfl ?_
    refine g_getr hX kd_false_0 fg_9_0 tf_9_0 w_970 sr_false_0_0 dX9_text_108 ?_
    refine g_iload_n hX dX9_text_111 rfl rfl ?_
    refine g_aload_n hX dX9_text_112 rfl rfl ?_
    refine g_geti hX kd_false_0 fg_9_12 tf_9_12 w_982 dX9_text_113 ?_
    obtain ⟨z6, h⟩ := ck_some h
    obtain ⟨μ5, hμ5, h⟩ := wr_some h
    refine g_iastM hX wk_9_0.1 wk_9_0.2 z6 dX9_text_116 hμ5 ?_
    refine g_iconst hX dX9_text_117 k_0 ?_
    refine g_istore_n (lc' := [some _, some _, some _, some _]) hX dX9_text_118 rfl (by decide) rfl rfl ?_
    exact g_weak (lc' := [some _, none, some _, some _]) ⟨rfl, rfl, rfl, trivial⟩ (t_X9_text_119 hX 2000 _ _ _ h)
  · rw [if_neg q4] at h
    refine g_bipush hX dX9_text_90 kb_m10 ?_
    refine g_aload_n hX dX9_text_92 rfl rfl ?_
    refine g_geti hX kd_false_0 fg_9_13 tf_9_13 w_983 dX9_text_93 ?_
    refine g_isub hX dX9_text_96 ?_
    obtain ⟨rfl, rfl⟩ := pair_inj h
    exact g_iret hX rfl rfl dX9_text_97
set_option maxRecDepth 100000 in
set_option maxHeartbeats 4000000 in
theorem t_X9_text_67 {l : Launch} {D : DT} {X : XT} {r : Int32} {μ' : Mem} (hX : Cx l D false X 148 RX9 cX9_text 4 (some FieldType.int)) : ∀ (v1 : Int32) (μ : Mem), f_X9_text_67 v1 μ = some (r, μ') → G l D false X 4 (some (.int r)) μ' 67 [some (.ref (D.1 0)), some (.int v1), none, none] [.ref (D.1 0)] μ := by
  intro v1 μ h
  unfold f_X9_text_67 at h
  refine g_iconst hX dX9_text_67 k_1 ?_
  refine g_goto (tgt := 72) hX dX9_text_68 (by decide) ?_
  exact g_weak (lc' := [some _, some _, none, none]) ⟨rfl, rfl, trivial⟩ (t_X9_text_72 hX _ _ _ h)
set_option maxRecDepth 100000 in
set_option maxHeartbeats 4000000 in
theorem c_X9_text {l : Launch} {D : DT} {μ : Mem} {r : Int32} {μ' : Mem} (v1 : Int32) (h : f_X9_text v1 μ = some (r, μ')) : Ct l D false 148 yX9_text cX9_text 4 (some FieldType.int) [.ref (D.1 0), .int v1] μ (some (.int r)) μ' := by
  refine Ct.of (own := RX9) (lc0 := [some (.ref (D.1 0)), some (.int v1), none, none]) pn_X9 rfl (Nat.le_of_ble_eq_true rfl) rfl mv_X9_text.2.2.2.1 (fun X hX => ?_)
  unfold f_X9_text at h
  refine g_iload_n hX dX9_text_0 rfl rfl ?_
  refine g_iconst hX dX9_text_1 k_0 ?_
  refine g_iconst hX dX9_text_2 k_1 ?_
  refine g_callSi hX (c_X9_in  v1 0 1) mv_X9_in wm_1047 (by decide) rfl rfl (Nat.le_of_ble_eq_true rfl) dX9_text_3 ?_
  refine g_if_ne (tgt := 16) hX dX9_text_6 (by decide) (fun q1 => ?_) (fun q1 => ?_)
  · rw [if_neg q1] at h
    refine g_aload_n hX dX9_text_16 rfl rfl ?_
    refine g_iload_n hX dX9_text_17 rfl rfl ?_
    obtain ⟨μ2, hμ2, h⟩ := wr_some h
    refine g_puti hX kd_false_0 fg_9_16 tf_9_16 tyX9_ok nmX9 rfl w_986 dX9_text_18 hμ2 ?_
    refine g_aload_n hX dX9_text_21 rfl rfl ?_
    refine g_iconst hX dX9_text_22 k_0 ?_
    obtain ⟨μ3, hμ3, h⟩ := wr_some h
    refine g_puti hX kd_false_0 fg_9_12 tf_9_12 tyX9_ok nmX9 rfl w_982 dX9_text_23 hμ3 ?_
    refine g_aload_n hX dX9_text_26 rfl rfl ?_
    refine g_iconst hX dX9_text_27 k_0 ?_
    obtain ⟨μ4, hμ4, h⟩ := wr_some h
    refine g_puti hX kd_false_0 fg_9_13 tf_9_13 tyX9_ok nmX9 rfl w_983 dX9_text_28 hμ4 ?_
    refine g_aload_n hX dX9_text_31 rfl rfl ?_
    refine g_iconst hX dX9_text_32 k_0 ?_
    obtain ⟨μ5, hμ5, h⟩ := wr_some h
    refine g_puti hX kd_false_0 fg_9_14 tf_9_14 tyX9_ok nmX9 rfl w_984 dX9_text_33 hμ5 ?_
    refine g_aload_n hX dX9_text_36 rfl rfl ?_
    refine g_iconst hX dX9_text_37 k_0 ?_
    obtain ⟨μ6, hμ6, h⟩ := wr_some h
    refine g_putz hX rfl kd_false_0 fg_9_15 tf_9_15 tyX9_ok nmX9 rfl w_985 dX9_text_38 hμ6 ?_
    refine g_aload_n hX dX9_text_41 rfl rfl ?_
    obtain ⟨μ7, hμ7, h⟩ := bd_some h
    refine g_callVv hX (c_X9_any (P := (f_X9_one 20)) (dP := 2 + 7 * 20) (Nat.le_of_ble_eq_true rfl) (c_X9_one 20) hμ7) mv_X9_any wm_1175 kd_false_0 rfl (by decide) (by decide) rfl rfl (Nat.le_of_ble_eq_true rfl) dX9_text_42 ?_
    refine g_aload_n hX dX9_text_45 rfl rfl ?_
    refine g_aload_n hX dX9_text_46 rfl rfl ?_
    refine g_geti hX kd_false_0 fg_9_15 tf_9_15 w_985 dX9_text_47 ?_
    refine g_if_ne (tgt := 67) hX dX9_text_50 (by decide) (fun q8 => ?_) (fun q8 => ?_)
    · rw [if_neg q8] at h
      exact g_weak (lc' := [some _, some _, none, none]) ⟨rfl, rfl, trivial⟩ (t_X9_text_67 hX _ _ h)
    · rw [if_pos q8] at h
      refine g_aload_n hX dX9_text_53 rfl rfl ?_
      refine g_geti hX kd_false_0 fg_9_13 tf_9_13 w_983 dX9_text_54 ?_
      refine g_aload_n hX dX9_text_57 rfl rfl ?_
      refine g_getr hX kd_false_0 fg_9_0 tf_9_0 w_970 sr_false_0_0 dX9_text_58 ?_
      refine g_bipush hX dX9_text_61 kb_6 ?_
      refine g_iald hX wk_9_0.1 wk_9_0.2 (by decide) dX9_text_63 ?_
      refine g_icmp_ge (tgt := 71) hX dX9_text_64 (by decide) (fun q9 => ?_) (fun q9 => ?_)
      · rw [if_pos q9] at h
        refine g_iconst hX dX9_text_71 k_0 ?_
        exact g_weak (lc' := [some _, some _, none, none]) ⟨rfl, rfl, trivial⟩ (t_X9_text_72 hX _ _ _ h)
      · rw [if_neg q9] at h
        exact g_weak (lc' := [some _, some _, none, none]) ⟨rfl, rfl, trivial⟩ (t_X9_text_67 hX _ _ h)
  · rw [if_pos q1] at h
    refine g_aload_n hX dX9_text_9 rfl rfl ?_
    refine g_ldc hX dX9_text_10 wc_1050 ?_
    obtain ⟨r10, μ11, hr10, h⟩ := bd2_some h
    refine g_callVi hX (c_X9_error  _ hr10) mv_X9_error wm_1051 kd_false_0 rfl (by decide) (by decide) rfl rfl (Nat.le_of_ble_eq_true rfl) dX9_text_12 ?_
    obtain ⟨rfl, rfl⟩ := pair_inj h
    exact g_iret hX rfl rfl dX9_text_15
set_option maxRecDepth 100000 in
set_option maxHeartbeats 4000000 in
theorem t_X9_then_19 {l : Launch} {D : DT} {X : XT} {r : Int32} {μ' : Mem} (hX : Cx l D false X 8 RX9 cX9_then 4 (some FieldType.int)) : ∀ (μ : Mem), f_X9_then_19 μ = some (r, μ') → G l D false X 4 (some (.int r)) μ' 19 [some (.ref (D.1 0)), none, none, none] [] μ := by
  intro μ h
  unfold f_X9_then_19 at h
  refine g_aload_n hX dX9_then_19 rfl rfl ?_
  refine g_ldc hX dX9_then_20 wc_1050 ?_
  obtain ⟨r1, μ2, hr1, h⟩ := bd2_some h
  refine g_callVi hX (c_X9_error  _ hr1) mv_X9_error wm_1051 kd_false_0 rfl (by decide) (by decide) rfl rfl (Nat.le_of_ble_eq_true rfl) dX9_then_22 ?_
  obtain ⟨rfl, rfl⟩ := pair_inj h
  exact g_iret hX rfl rfl dX9_then_25
set_option maxRecDepth 100000 in
set_option maxHeartbeats 4000000 in
theorem t_X9_then_64 {l : Launch} {D : DT} {X : XT} {r : Int32} {μ' : Mem} (hX : Cx l D false X 8 RX9 cX9_then 4 (some FieldType.int)) : ∀ (s0 : Int32) (μ : Mem), f_X9_then_64 s0 μ = some (r, μ') → G l D false X 4 (some (.int r)) μ' 64 [some (.ref (D.1 0)), none, none, none] [.int s0] μ := by
  intro s0 μ h
  unfold f_X9_then_64 at h
  refine g_istore_n (lc' := [some _, none, none, some _]) hX dX9_then_64 rfl (by decide) rfl rfl ?_
  refine g_aload_n hX dX9_then_65 rfl rfl ?_
  obtain ⟨μ1, hμ1, h⟩ := bd_some h
  refine g_callVv hX (c_X9_putsBack hμ1) mv_X9_putsBack wm_1288 kd_false_0 rfl (by decide) (by decide) rfl rfl (Nat.le_of_ble_eq_true rfl) dX9_then_66 ?_
  refine g_iload_n hX dX9_then_69 rfl rfl ?_
  obtain ⟨rfl, rfl⟩ := pair_inj h
  exact g_iret hX rfl rfl dX9_then_70
set_option maxRecDepth 100000 in
set_option maxHeartbeats 4000000 in
theorem t_X9_then_47 {l : Launch} {D : DT} {X : XT} {r : Int32} {μ' : Mem} (hX : Cx l D false X 8 RX9 cX9_then 4 (some FieldType.int)) : ∀ (v2 : Int32) (μ : Mem), f_X9_then_47 v2 μ = some (r, μ') → G l D false X 4 (some (.int r)) μ' 47 [some (.ref (D.1 0)), none, some (.int v2), none] [] μ := by
  intro v2 μ h
  unfold f_X9_then_47 at h
  refine g_iload_n hX dX9_then_47 rfl rfl ?_
  refine g_if_ne (tgt := 58) hX dX9_then_48 (by decide) (fun q1 => ?_) (fun q1 => ?_)
  · rw [if_neg q1] at h
    refine g_aload_n hX dX9_then_58 rfl rfl ?_
    refine g_getr hX kd_false_0 fg_9_0 tf_9_0 w_970 sr_false_0_0 dX9_then_59 ?_
    refine g_iconst hX dX9_then_62 k_5 ?_
    refine g_iald hX wk_9_0.1 wk_9_0.2 (by decide) dX9_then_63 ?_
    exact g_weak (lc' := [some _, none, none, none]) ⟨rfl, trivial⟩ (t_X9_then_64 hX _ _ h)
  · rw [if_pos q1] at h
    refine g_aload_n hX dX9_then_51 rfl rfl ?_
    obtain ⟨r2, hr2, h⟩ := bd_some h
    refine g_callVi hX (c_X9_opened hr2) mv_X9_opened wm_1252 kd_false_0 rfl (by decide) (by decide) rfl rfl (Nat.le_of_ble_eq_true rfl) dX9_then_52 ?_
    refine g_goto (tgt := 64) hX dX9_then_55 (by decide) ?_
    exact g_weak (lc' := [some _, none, none, none]) ⟨rfl, trivial⟩ (t_X9_then_64 hX _ _ h)
set_option maxRecDepth 100000 in
set_option maxHeartbeats 4000000 in
theorem t_X9_then_32 {l : Launch} {D : DT} {X : XT} {r : Int32} {μ' : Mem} (hX : Cx l D false X 8 RX9 cX9_then 4 (some FieldType.int)) : ∀ (n : Nat) (v1 : Int32) (v2 : Int32) (v3 : Int32) (μ : Mem), f_X9_then_32 n v1 v2 v3 μ = some (r, μ') → G l D false X 4 (some (.int r)) μ' 32 [some (.ref (D.1 0)), some (.int v1), some (.int v2), some (.int v3)] [] μ := by
  intro n
  induction n with
  | zero => intro v1 v2 v3 μ h; exact absurd h (by simp [f_X9_then_32])
  | succ n ih =>
    intro v1 v2 v3 μ h
    rw [f_X9_then_32] at h
    refine g_iload_n hX dX9_then_32 rfl rfl ?_
    refine g_iload_n hX dX9_then_33 rfl rfl ?_
    refine g_icmp_ge (tgt := 47) hX dX9_then_34 (by decide) (fun q1 => ?_) (fun q1 => ?_)
    · rw [if_pos q1] at h
      exact g_weak (lc' := [some _, none, some _, none]) ⟨rfl, rfl, trivial⟩ (t_X9_then_47 hX _ _ h)
    · rw [if_neg q1] at h
      refine g_aload_n hX dX9_then_37 rfl rfl ?_
      obtain ⟨μ2, hμ2, h⟩ := bd_some h
      refine g_callVv hX (c_X9_goes hμ2) mv_X9_goes wm_1232 kd_false_0 rfl (by decide) (by decide) rfl rfl (Nat.le_of_ble_eq_true rfl) dX9_then_38 ?_
      refine g_iinc (lc' := [some _, some _, some _, some _]) hX dX9_then_41 (by decide) rfl (congrArg _ k_1) rfl rfl ?_
      refine g_goto (tgt := 32) hX dX9_then_44 (by decide) ?_
      exact g_weak (lc' := [some _, some _, some _, some _]) ⟨rfl, rfl, rfl, rfl, trivial⟩ (ih _ _ _ _ h)
set_option maxRecDepth 100000 in
set_option maxHeartbeats 4000000 in
theorem c_X9_then {l : Launch} {D : DT} {μ : Mem} {r : Int32} {μ' : Mem} (v1 : Int32) (v2 : Int32) (h : f_X9_then v1 v2 μ = some (r, μ')) : Ct l D false 8 yX9_then cX9_then 4 (some FieldType.int) [.ref (D.1 0), .int v1, .int v2] μ (some (.int r)) μ' := by
  refine Ct.of (own := RX9) (lc0 := [some (.ref (D.1 0)), some (.int v1), some (.int v2), none]) pn_X9 rfl (Nat.le_of_ble_eq_true rfl) rfl mv_X9_then.2.2.2.1 (fun X hX => ?_)
  unfold f_X9_then at h
  refine g_iload_n hX dX9_then_0 rfl rfl ?_
  refine g_iconst hX dX9_then_1 k_0 ?_
  refine g_bipush hX dX9_then_2 kb_60 ?_
  refine g_callSi hX (c_X9_in  v1 0 60) mv_X9_in wm_1047 (by decide) rfl rfl (Nat.le_of_ble_eq_true rfl) dX9_then_4 ?_
  refine g_if_eq (tgt := 19) hX dX9_then_7 (by decide) (fun q1 => ?_) (fun q1 => ?_)
  · rw [if_pos q1] at h
    exact g_weak (lc' := [some _, none, none, none]) ⟨rfl, trivial⟩ (t_X9_then_19 hX _ h)
  · rw [if_neg q1] at h
    refine g_iload_n hX dX9_then_10 rfl rfl ?_
    refine g_iconst hX dX9_then_11 k_0 ?_
    refine g_iconst hX dX9_then_12 k_1 ?_
    refine g_callSi hX (c_X9_in  v2 0 1) mv_X9_in wm_1047 (by decide) rfl rfl (Nat.le_of_ble_eq_true rfl) dX9_then_13 ?_
    refine g_if_ne (tgt := 26) hX dX9_then_16 (by decide) (fun q2 => ?_) (fun q2 => ?_)
    · rw [if_neg q2] at h
      refine g_aload_n hX dX9_then_26 rfl rfl ?_
      obtain ⟨μ3, hμ3, h⟩ := bd_some h
      refine g_callVv hX (c_X9_thinks hμ3) mv_X9_thinks wm_1281 kd_false_0 rfl (by decide) (by decide) rfl rfl (Nat.le_of_ble_eq_true rfl) dX9_then_27 ?_
      refine g_iconst hX dX9_then_30 k_0 ?_
      refine g_istore_n (lc' := [some _, some _, some _, some _]) hX dX9_then_31 rfl (by decide) rfl rfl ?_
      exact g_weak (lc' := [some _, some _, some _, some _]) ⟨rfl, rfl, rfl, rfl, trivial⟩ (t_X9_then_32 hX 2000 _ _ _ _ h)
    · rw [if_pos q2] at h
      exact g_weak (lc' := [some _, none, none, none]) ⟨rfl, trivial⟩ (t_X9_then_19 hX _ h)
set_option maxRecDepth 100000 in
set_option maxHeartbeats 4000000 in
theorem c_X9_told {l : Launch} {D : DT} {μ : Mem} {r : Int32} {μ' : Mem} (v1 : Int32) (h : f_X9_told v1 μ = some (r, μ')) : Ct l D false 2 yX9_told cX9_told 2 (some FieldType.int) [.ref (D.1 0), .int v1] μ (some (.int r)) μ' := by
  refine Ct.of (own := RX9) (lc0 := [some (.ref (D.1 0)), some (.int v1)]) pn_X9 rfl (Nat.le_of_ble_eq_true rfl) rfl mv_X9_told.2.2.2.1 (fun X hX => ?_)
  unfold f_X9_told at h
  refine g_iload_n hX dX9_told_0 rfl rfl ?_
  refine g_iconst hX dX9_told_1 k_1 ?_
  refine g_bipush hX dX9_told_2 kb_6 ?_
  refine g_callSi hX (c_X9_in  v1 1 6) mv_X9_in wm_1047 (by decide) rfl rfl (Nat.le_of_ble_eq_true rfl) dX9_told_4 ?_
  refine g_if_eq (tgt := 19) hX dX9_told_7 (by decide) (fun q1 => ?_) (fun q1 => ?_)
  · rw [if_pos q1] at h
    refine g_aload_n hX dX9_told_19 rfl rfl ?_
    refine g_ldc hX dX9_told_20 wc_1050 ?_
    obtain ⟨r2, μ3, hr2, h⟩ := bd2_some h
    refine g_callVi hX (c_X9_error  _ hr2) mv_X9_error wm_1051 kd_false_0 rfl (by decide) (by decide) rfl rfl (Nat.le_of_ble_eq_true rfl) dX9_told_22 ?_
    obtain ⟨rfl, rfl⟩ := pair_inj h
    exact g_iret hX rfl rfl dX9_told_25
  · rw [if_neg q1] at h
    refine g_aload_n hX dX9_told_10 rfl rfl ?_
    refine g_getr hX kd_false_0 fg_9_4 tf_9_4 w_974 sr_false_0_4 dX9_told_11 ?_
    refine g_iload_n hX dX9_told_14 rfl rfl ?_
    obtain ⟨z4, h⟩ := ck_some h
    refine g_iald hX wk_9_4.1 wk_9_4.2 z4 dX9_told_15 ?_
    refine g_goto (tgt := 25) hX dX9_told_16 (by decide) ?_
    obtain ⟨rfl, rfl⟩ := pair_inj h
    exact g_iret hX rfl rfl dX9_told_25
set_option maxRecDepth 100000 in
set_option maxHeartbeats 4000000 in
theorem c_X9_untell {l : Launch} {D : DT} {μ : Mem} {r : Int32} {μ' : Mem} (v1 : Int32) (h : f_X9_untell v1 μ = some (r, μ')) : Ct l D false 2 yX9_untell cX9_untell 2 (some FieldType.int) [.ref (D.1 0), .int v1] μ (some (.int r)) μ' := by
  refine Ct.of (own := RX9) (lc0 := [some (.ref (D.1 0)), some (.int v1)]) pn_X9 rfl (Nat.le_of_ble_eq_true rfl) rfl mv_X9_untell.2.2.2.1 (fun X hX => ?_)
  unfold f_X9_untell at h
  refine g_iload_n hX dX9_untell_0 rfl rfl ?_
  refine g_iconst hX dX9_untell_1 k_0 ?_
  refine g_iconst hX dX9_untell_2 k_1 ?_
  refine g_callSi hX (c_X9_in  v1 0 1) mv_X9_in wm_1047 (by decide) rfl rfl (Nat.le_of_ble_eq_true rfl) dX9_untell_3 ?_
  refine g_if_ne (tgt := 16) hX dX9_untell_6 (by decide) (fun q1 => ?_) (fun q1 => ?_)
  · rw [if_neg q1] at h
    refine g_aload_n hX dX9_untell_16 rfl rfl ?_
    refine g_sipush hX dX9_untell_17 ks_153 ?_
    refine g_bipush hX dX9_untell_20 kb_121 ?_
    refine g_iload_n hX dX9_untell_22 rfl rfl ?_
    refine g_imul hX dX9_untell_23 ?_
    refine g_iadd hX dX9_untell_24 ?_
    refine g_iconst hX dX9_untell_25 k_0 ?_
    obtain ⟨r2, μ3, hr2, h⟩ := bd2_some h
    refine g_callVi hX (c_X9_becomes  _ _ hr2) mv_X9_becomes wm_1115 kd_false_0 rfl (by decide) (by decide) rfl rfl (Nat.le_of_ble_eq_true rfl) dX9_untell_26 ?_
    refine g_if_le (tgt := 36) hX dX9_untell_29 (by decide) (fun q4 => ?_) (fun q4 => ?_)
    · rw [if_pos q4] at h
      refine g_iconst hX dX9_untell_36 k_0 ?_
      obtain ⟨rfl, rfl⟩ := pair_inj h
      exact g_iret hX rfl rfl dX9_untell_37
    · rw [if_neg q4] at h
      refine g_iconst hX dX9_untell_32 k_1 ?_
      refine g_goto (tgt := 37) hX dX9_untell_33 (by decide) ?_
      obtain ⟨rfl, rfl⟩ := pair_inj h
      exact g_iret hX rfl rfl dX9_untell_37
  · rw [if_pos q1] at h
    refine g_aload_n hX dX9_untell_9 rfl rfl ?_
    refine g_ldc hX dX9_untell_10 wc_1050 ?_
    obtain ⟨r5, μ6, hr5, h⟩ := bd2_some h
    refine g_callVi hX (c_X9_error  _ hr5) mv_X9_error wm_1051 kd_false_0 rfl (by decide) (by decide) rfl rfl (Nat.le_of_ble_eq_true rfl) dX9_untell_12 ?_
    obtain ⟨rfl, rfl⟩ := pair_inj h
    exact g_iret hX rfl rfl dX9_untell_15
set_option maxRecDepth 100000 in
set_option maxHeartbeats 4000000 in
theorem c_X9_whistles {l : Launch} {D : DT} {μ : Mem} {r : Int32} {μ' : Mem} (v1 : Int32) (v2 : Int32) (h : f_X9_whistles v1 v2 μ = some (r, μ')) : Ct l D false 9 yX9_whistles cX9_whistles 3 (some FieldType.int) [.ref (D.1 0), .int v1, .int v2] μ (some (.int r)) μ' := by
  refine Ct.of (own := RX9) (lc0 := [some (.ref (D.1 0)), some (.int v1), some (.int v2)]) pn_X9 rfl (Nat.le_of_ble_eq_true rfl) rfl mv_X9_whistles.2.2.2.1 (fun X hX => ?_)
  unfold f_X9_whistles at h
  refine g_aload_n hX dX9_whistles_0 rfl rfl ?_
  refine g_iload_n hX dX9_whistles_1 rfl rfl ?_
  refine g_iconst hX dX9_whistles_2 k_0 ?_
  obtain ⟨r1, hr1, h⟩ := bd_some h
  refine g_callVi hX (c_X9_of  _ _ hr1) mv_X9_of wm_1065 kd_false_0 rfl (by decide) (by decide) rfl rfl (Nat.le_of_ble_eq_true rfl) dX9_whistles_3 ?_
  by_cases q2 : r1 = 3
  · rw [if_pos q2] at h
    refine g_ls (tgt := 32) (off := 26) hX dX9_whistles_6 (by decide) (by rw [q2] <;> rfl) (by decide) ?_
    refine g_aload_n hX dX9_whistles_32 rfl rfl ?_
    refine g_bipush hX dX9_whistles_33 kb_40 ?_
    obtain ⟨μ3, hμ3, h⟩ := bd_some h
    refine g_callVv hX (c_X9_begins  _ hμ3) mv_X9_begins wm_1367 kd_false_0 rfl (by decide) (by decide) rfl rfl (Nat.le_of_ble_eq_true rfl) dX9_whistles_35 ?_
    refine g_aload_n hX dX9_whistles_38 rfl rfl ?_
    refine g_iload_n hX dX9_whistles_39 rfl rfl ?_
    refine g_iload_n hX dX9_whistles_40 rfl rfl ?_
    refine g_iconst hX dX9_whistles_41 k_2 ?_
    refine g_idiv hX (by decide) dX9_whistles_42 ?_
    obtain ⟨r4, μ5, hr4, h⟩ := bd2_some h
    refine g_callVi hX (c_X9_plainWhistles  _ _ hr4) mv_X9_plainWhistles wm_1391 kd_false_0 rfl (by decide) (by decide) rfl rfl (Nat.le_of_ble_eq_true rfl) dX9_whistles_43 ?_
    obtain ⟨rfl, rfl⟩ := pair_inj h
    exact g_iret hX rfl rfl dX9_whistles_46
  rw [if_neg q2] at h
  have eq2_3 := ls_ne (c := 3) (k := 3) q2 (by decide)
  by_cases q6 : r1 = 4
  · rw [if_pos q6] at h
    refine g_ls (tgt := 47) (off := 41) hX dX9_whistles_6 (by decide) (by rw [q6] <;> rfl) (by decide) ?_
    refine g_aload_n hX dX9_whistles_47 rfl rfl ?_
    refine g_bipush hX dX9_whistles_48 kb_51 ?_
    obtain ⟨μ7, hμ7, h⟩ := bd_some h
    refine g_callVv hX (c_X9_begins  _ hμ7) mv_X9_begins wm_1367 kd_false_0 rfl (by decide) (by decide) rfl rfl (Nat.le_of_ble_eq_true rfl) dX9_whistles_50 ?_
    refine g_aload_n hX dX9_whistles_53 rfl rfl ?_
    refine g_iload_n hX dX9_whistles_54 rfl rfl ?_
    refine g_iload_n hX dX9_whistles_55 rfl rfl ?_
    obtain ⟨r8, μ9, hr8, h⟩ := bd2_some h
    refine g_callVi hX (c_X9_plainWhistles  _ _ hr8) mv_X9_plainWhistles wm_1391 kd_false_0 rfl (by decide) (by decide) rfl rfl (Nat.le_of_ble_eq_true rfl) dX9_whistles_56 ?_
    refine g_iload_n hX dX9_whistles_59 rfl rfl ?_
    refine g_ixor hX dX9_whistles_60 ?_
    obtain ⟨rfl, rfl⟩ := pair_inj h
    exact g_iret hX rfl rfl dX9_whistles_61
  rw [if_neg q6] at h
  have eq6_4 := ls_ne (c := 4) (k := 4) q6 (by decide)
  refine g_ls (tgt := 62) (off := 56) hX dX9_whistles_6 (by decide) (by simp [Op.lookupswitch.offset, eq2_3, eq6_4]) (by decide) ?_
  refine g_aload_n hX dX9_whistles_62 rfl rfl ?_
  refine g_iload_n hX dX9_whistles_63 rfl rfl ?_
  refine g_iload_n hX dX9_whistles_64 rfl rfl ?_
  obtain ⟨r10, μ11, hr10, h⟩ := bd2_some h
  refine g_callVi hX (c_X9_plainWhistles  _ _ hr10) mv_X9_plainWhistles wm_1391 kd_false_0 rfl (by decide) (by decide) rfl rfl (Nat.le_of_ble_eq_true rfl) dX9_whistles_65 ?_
  obtain ⟨rfl, rfl⟩ := pair_inj h
  exact g_iret hX rfl rfl dX9_whistles_68
set_option maxRecDepth 100000 in
set_option maxHeartbeats 4000000 in
theorem t_X9_voice_17 {l : Launch} {D : DT} {X : XT} {r : Int32} {μ' : Mem} (hX : Cx l D false X 10 RX9 cX9_voice 5 (some FieldType.int)) : ∀ (μ : Mem), f_X9_voice_17 μ = some (r, μ') → G l D false X 5 (some (.int r)) μ' 17 [some (.ref (D.1 0)), none, none, none, none] [] μ := by
  intro μ h
  unfold f_X9_voice_17 at h
  refine g_aload_n hX dX9_voice_17 rfl rfl ?_
  refine g_ldc hX dX9_voice_18 wc_1050 ?_
  obtain ⟨r1, μ2, hr1, h⟩ := bd2_some h
  refine g_callVi hX (c_X9_error  _ hr1) mv_X9_error wm_1051 kd_false_0 rfl (by decide) (by decide) rfl rfl (Nat.le_of_ble_eq_true rfl) dX9_voice_20 ?_
  obtain ⟨rfl, rfl⟩ := pair_inj h
  exact g_iret hX rfl rfl dX9_voice_23
set_option maxRecDepth 100000 in
set_option maxHeartbeats 4000000 in
theorem t_X9_voice_81 {l : Launch} {D : DT} {X : XT} {r : Int32} {μ' : Mem} (hX : Cx l D false X 10 RX9 cX9_voice 5 (some FieldType.int)) : ∀ (s0 : Int32) (μ : Mem), f_X9_voice_81 s0 μ = some (r, μ') → G l D false X 5 (some (.int r)) μ' 81 [some (.ref (D.1 0)), none, none, none, none] [.int s0] μ := by
  intro s0 μ h
  unfold f_X9_voice_81 at h
  refine g_istore (lc' := [some _, none, none, none, some _]) hX dX9_voice_81 (by decide) rfl rfl ?_
  refine g_aload_n hX dX9_voice_83 rfl rfl ?_
  refine g_geti hX kd_false_0 fg_9_22 tf_9_22 w_992 dX9_voice_84 ?_
  refine g_if_eq (tgt := 100) hX dX9_voice_87 (by decide) (fun q1 => ?_) (fun q1 => ?_)
  · rw [if_pos q1] at h
    refine g_iload hX dX9_voice_100 rfl ?_
    obtain ⟨rfl, rfl⟩ := pair_inj h
    exact g_iret hX rfl rfl dX9_voice_102
  · rw [if_neg q1] at h
    refine g_aload_n hX dX9_voice_90 rfl rfl ?_
    refine g_ldcw hX dX9_voice_91 wc_1403 ?_
    obtain ⟨r2, μ3, hr2, h⟩ := bd2_some h
    refine g_callVi hX (c_X9_error  _ hr2) mv_X9_error wm_1051 kd_false_0 rfl (by decide) (by decide) rfl rfl (Nat.le_of_ble_eq_true rfl) dX9_voice_94 ?_
    refine g_goto (tgt := 102) hX dX9_voice_97 (by decide) ?_
    obtain ⟨rfl, rfl⟩ := pair_inj h
    exact g_iret hX rfl rfl dX9_voice_102
set_option maxRecDepth 100000 in
set_option maxHeartbeats 4000000 in
theorem c_X9_voice {l : Launch} {D : DT} {μ : Mem} {r : Int32} {μ' : Mem} (v1 : Int32) (v2 : Int32) (v3 : Int32) (h : f_X9_voice v1 v2 v3 μ = some (r, μ')) : Ct l D false 10 yX9_voice cX9_voice 5 (some FieldType.int) [.ref (D.1 0), .int v1, .int v2, .int v3] μ (some (.int r)) μ' := by
  refine Ct.of (own := RX9) (lc0 := [some (.ref (D.1 0)), some (.int v1), some (.int v2), some (.int v3), none]) pn_X9 rfl (Nat.le_of_ble_eq_true rfl) rfl mv_X9_voice.2.2.2.1 (fun X hX => ?_)
  unfold f_X9_voice at h
  refine g_aload_n hX dX9_voice_0 rfl rfl ?_
  refine g_iload_n hX dX9_voice_1 rfl rfl ?_
  refine g_callVi hX (c_X9_isPerson  v1) mv_X9_isPerson wm_1061 kd_false_0 rfl (by decide) (by decide) rfl rfl (Nat.le_of_ble_eq_true rfl) dX9_voice_2 ?_
  refine g_if_eq (tgt := 17) hX dX9_voice_5 (by decide) (fun q1 => ?_) (fun q1 => ?_)
  · rw [if_pos q1] at h
    exact g_weak (lc' := [some _, none, none, none, none]) ⟨rfl, trivial⟩ (t_X9_voice_17 hX _ h)
  · rw [if_neg q1] at h
    refine g_iload_n hX dX9_voice_8 rfl rfl ?_
    refine g_iconst hX dX9_voice_9 k_0 ?_
    refine g_iconst hX dX9_voice_10 k_3 ?_
    refine g_callSi hX (c_X9_in  v2 0 3) mv_X9_in wm_1047 (by decide) rfl rfl (Nat.le_of_ble_eq_true rfl) dX9_voice_11 ?_
    refine g_if_ne (tgt := 24) hX dX9_voice_14 (by decide) (fun q2 => ?_) (fun q2 => ?_)
    · rw [if_neg q2] at h
      refine g_aload_n hX dX9_voice_24 rfl rfl ?_
      refine g_iconst hX dX9_voice_25 k_0 ?_
      obtain ⟨μ3, hμ3, h⟩ := wr_some h
      refine g_puti hX kd_false_0 fg_9_21 tf_9_21 tyX9_ok nmX9 rfl w_991 dX9_voice_26 hμ3 ?_
      refine g_aload_n hX dX9_voice_29 rfl rfl ?_
      refine g_iconst hX dX9_voice_30 k_0 ?_
      obtain ⟨μ4, hμ4, h⟩ := wr_some h
      refine g_putz hX rfl kd_false_0 fg_9_22 tf_9_22 tyX9_ok nmX9 rfl w_992 dX9_voice_31 hμ4 ?_
      refine g_iload_n hX dX9_voice_34 rfl rfl ?_
      refine g_if_ne (tgt := 47) hX dX9_voice_35 (by decide) (fun q5 => ?_) (fun q5 => ?_)
      · rw [if_neg q5] at h
        refine g_iload_n hX dX9_voice_47 rfl rfl ?_
        refine g_iconst hX dX9_voice_48 k_1 ?_
        refine g_icmp_ne (tgt := 61) hX dX9_voice_49 (by decide) (fun q6 => ?_) (fun q6 => ?_)
        · rw [if_neg q6] at h
          refine g_iload_n hX dX9_voice_61 rfl rfl ?_
          refine g_iconst hX dX9_voice_62 k_2 ?_
          refine g_icmp_ne (tgt := 75) hX dX9_voice_63 (by decide) (fun q7 => ?_) (fun q7 => ?_)
          · rw [if_neg q7] at h
            refine g_aload_n hX dX9_voice_75 rfl rfl ?_
            refine g_iload_n hX dX9_voice_76 rfl rfl ?_
            refine g_iload_n hX dX9_voice_77 rfl rfl ?_
            obtain ⟨r8, μ9, hr8, h⟩ := bd2_some h
            refine g_callVi hX (c_X9_partsBy  _ _ hr8) mv_X9_partsBy wm_1395 kd_false_0 rfl (by decide) (by decide) rfl rfl (Nat.le_of_ble_eq_true rfl) dX9_voice_78 ?_
            exact g_weak (lc' := [some _, none, none, none, none]) ⟨rfl, trivial⟩ (t_X9_voice_81 hX _ _ h)
          · rw [if_pos q7] at h
            refine g_aload_n hX dX9_voice_66 rfl rfl ?_
            refine g_iload_n hX dX9_voice_67 rfl rfl ?_
            refine g_iload_n hX dX9_voice_68 rfl rfl ?_
            obtain ⟨r10, μ11, hr10, h⟩ := bd2_some h
            refine g_callVi hX (c_X9_whistles  _ _ hr10) mv_X9_whistles wm_1387 kd_false_0 rfl (by decide) (by decide) rfl rfl (Nat.le_of_ble_eq_true rfl) dX9_voice_69 ?_
            refine g_goto (tgt := 81) hX dX9_voice_72 (by decide) ?_
            exact g_weak (lc' := [some _, none, none, none, none]) ⟨rfl, trivial⟩ (t_X9_voice_81 hX _ _ h)
        · rw [if_pos q6] at h
          refine g_aload_n hX dX9_voice_52 rfl rfl ?_
          refine g_iload_n hX dX9_voice_53 rfl rfl ?_
          refine g_iload_n hX dX9_voice_54 rfl rfl ?_
          obtain ⟨r12, μ13, hr12, h⟩ := bd2_some h
          refine g_callVi hX (c_X9_minds  _ _ hr12) mv_X9_minds wm_1375 kd_false_0 rfl (by decide) (by decide) rfl rfl (Nat.le_of_ble_eq_true rfl) dX9_voice_55 ?_
          refine g_goto (tgt := 81) hX dX9_voice_58 (by decide) ?_
          exact g_weak (lc' := [some _, none, none, none, none]) ⟨rfl, trivial⟩ (t_X9_voice_81 hX _ _ h)
      · rw [if_pos q5] at h
        refine g_aload_n hX dX9_voice_38 rfl rfl ?_
        refine g_iload_n hX dX9_voice_39 rfl rfl ?_
        refine g_iload_n hX dX9_voice_40 rfl rfl ?_
        obtain ⟨r14, μ15, hr14, h⟩ := bd2_some h
        refine g_callVi hX (c_X9_nods  _ _ hr14) mv_X9_nods wm_1359 kd_false_0 rfl (by decide) (by decide) rfl rfl (Nat.le_of_ble_eq_true rfl) dX9_voice_41 ?_
        refine g_goto (tgt := 81) hX dX9_voice_44 (by decide) ?_
        exact g_weak (lc' := [some _, none, none, none, none]) ⟨rfl, trivial⟩ (t_X9_voice_81 hX _ _ h)
    · rw [if_pos q2] at h
      exact g_weak (lc' := [some _, none, none, none, none]) ⟨rfl, trivial⟩ (t_X9_voice_17 hX _ h)
set_option maxRecDepth 100000 in
set_option maxHeartbeats 4000000 in
theorem t_X9_way_14 {l : Launch} {D : DT} {X : XT} {r : Int32} {μ' : Mem} (hX : Cx l D false X 3 RX9 cX9_way 5 (some FieldType.int)) : ∀ (μ : Mem), f_X9_way_14 μ = some (r, μ') → G l D false X 5 (some (.int r)) μ' 14 [some (.ref (D.1 0)), none, none, none, none] [] μ := by
  intro μ h
  unfold f_X9_way_14 at h
  refine g_aload_n hX dX9_way_14 rfl rfl ?_
  refine g_ldc hX dX9_way_15 wc_1050 ?_
  obtain ⟨r1, μ2, hr1, h⟩ := bd2_some h
  refine g_callVi hX (c_X9_error  _ hr1) mv_X9_error wm_1051 kd_false_0 rfl (by decide) (by decide) rfl rfl (Nat.le_of_ble_eq_true rfl) dX9_way_17 ?_
  obtain ⟨rfl, rfl⟩ := pair_inj h
  exact g_iret hX rfl rfl dX9_way_20
set_option maxRecDepth 100000 in
set_option maxHeartbeats 4000000 in
theorem t_X9_way_63 {l : Launch} {D : DT} {X : XT} {r : Int32} {μ' : Mem} (hX : Cx l D false X 3 RX9 cX9_way 5 (some FieldType.int)) : ∀ (μ : Mem), f_X9_way_63 μ = some (r, μ') → G l D false X 5 (some (.int r)) μ' 63 [some (.ref (D.1 0)), none, none, none, none] [] μ := by
  intro μ h
  unfold f_X9_way_63 at h
  refine g_aload_n hX dX9_way_63 rfl rfl ?_
  refine g_ldc hX dX9_way_64 wc_1296 ?_
  obtain ⟨r1, μ2, hr1, h⟩ := bd2_some h
  refine g_callVi hX (c_X9_error  _ hr1) mv_X9_error wm_1051 kd_false_0 rfl (by decide) (by decide) rfl rfl (Nat.le_of_ble_eq_true rfl) dX9_way_66 ?_
  obtain ⟨rfl, rfl⟩ := pair_inj h
  exact g_iret hX rfl rfl dX9_way_69
set_option maxRecDepth 100000 in
set_option maxHeartbeats 4000000 in
theorem t_X9_way_28 {l : Launch} {D : DT} {X : XT} {r : Int32} {μ' : Mem} (hX : Cx l D false X 3 RX9 cX9_way 5 (some FieldType.int)) : ∀ (n : Nat) (v2 : Int32) (v3 : Int32) (v4 : Int32) (μ : Mem), f_X9_way_28 n v2 v3 v4 μ = some (r, μ') → G l D false X 5 (some (.int r)) μ' 28 [some (.ref (D.1 0)), none, some (.int v2), some (.int v3), some (.int v4)] [] μ := by
  intro n
  induction n with
  | zero => intro v2 v3 v4 μ h; exact absurd h (by simp [f_X9_way_28])
  | succ n ih =>
    intro v2 v3 v4 μ h
    rw [f_X9_way_28] at h
    refine g_iload hX dX9_way_28 rfl ?_
    refine g_bipush hX dX9_way_30 kb_7 ?_
    refine g_icmp_ge (tgt := 63) hX dX9_way_32 (by decide) (fun q1 => ?_) (fun q1 => ?_)
    · rw [if_pos q1] at h
      exact g_weak (lc' := [some _, none, none, none, none]) ⟨rfl, trivial⟩ (t_X9_way_63 hX _ h)
    · rw [if_neg q1] at h
      refine g_iload_n hX dX9_way_35 rfl rfl ?_
      refine g_iload_n hX dX9_way_36 rfl rfl ?_
      refine g_ishr hX dX9_way_37 ?_
      refine g_iconst hX dX9_way_38 k_1 ?_
      refine g_iand hX dX9_way_39 ?_
      refine g_iconst hX dX9_way_40 k_1 ?_
      refine g_icmp_ne (tgt := 47) hX dX9_way_41 (by decide) (fun q2 => ?_) (fun q2 => ?_)
      · rw [if_neg q2] at h
        refine g_aload_n hX dX9_way_47 rfl rfl ?_
        refine g_iload_n hX dX9_way_48 rfl rfl ?_
        refine g_aload_n hX dX9_way_49 rfl rfl ?_
        refine g_callVi hX (c_X9_all) mv_X9_all wm_1313 kd_false_0 rfl (by decide) (by decide) rfl rfl (Nat.le_of_ble_eq_true rfl) dX9_way_50 ?_
        obtain ⟨r3, hr3, h⟩ := bd_some h
        refine g_callVi hX (c_X9_onward  _ _ hr3) mv_X9_onward wm_1317 kd_false_0 rfl (by decide) (by decide) rfl rfl (Nat.le_of_ble_eq_true rfl) dX9_way_53 ?_
        refine g_istore_n (lc' := [some _, none, some _, some _, some _]) hX dX9_way_56 rfl (by decide) rfl rfl ?_
        refine g_iinc (lc' := [some _, none, some _, some _, some _]) hX dX9_way_57 (by decide) rfl (congrArg _ k_1) rfl rfl ?_
        refine g_goto (tgt := 28) hX dX9_way_60 (by decide) ?_
        exact g_weak (lc' := [some _, none, some _, some _, some _]) ⟨rfl, rfl, rfl, rfl, trivial⟩ (ih _ _ _ _ h)
      · rw [if_pos q2] at h
        refine g_iload hX dX9_way_44 rfl ?_
        obtain ⟨rfl, rfl⟩ := pair_inj h
        exact g_iret hX rfl rfl dX9_way_46
set_option maxRecDepth 100000 in
set_option maxHeartbeats 4000000 in
theorem c_X9_way {l : Launch} {D : DT} {μ : Mem} {r : Int32} {μ' : Mem} (v1 : Int32) (v2 : Int32) (h : f_X9_way v1 v2 μ = some (r, μ')) : Ct l D false 3 yX9_way cX9_way 5 (some FieldType.int) [.ref (D.1 0), .int v1, .int v2] μ (some (.int r)) μ' := by
  refine Ct.of (own := RX9) (lc0 := [some (.ref (D.1 0)), some (.int v1), some (.int v2), none, none]) pn_X9 rfl (Nat.le_of_ble_eq_true rfl) rfl mv_X9_way.2.2.2.1 (fun X hX => ?_)
  unfold f_X9_way at h
  refine g_iload_n hX dX9_way_0 rfl rfl ?_
  refine g_callSi hX (c_X9_isField  v1) mv_X9_isField wm_1131 (by decide) rfl rfl (Nat.le_of_ble_eq_true rfl) dX9_way_1 ?_
  refine g_if_eq (tgt := 14) hX dX9_way_4 (by decide) (fun q1 => ?_) (fun q1 => ?_)
  · rw [if_pos q1] at h
    exact g_weak (lc' := [some _, none, none, none, none]) ⟨rfl, trivial⟩ (t_X9_way_14 hX _ h)
  · rw [if_neg q1] at h
    refine g_iload_n hX dX9_way_7 rfl rfl ?_
    refine g_callSi hX (c_X9_isField  v2) mv_X9_isField wm_1131 (by decide) rfl rfl (Nat.le_of_ble_eq_true rfl) dX9_way_8 ?_
    refine g_if_ne (tgt := 21) hX dX9_way_11 (by decide) (fun q2 => ?_) (fun q2 => ?_)
    · rw [if_neg q2] at h
      refine g_iconst hX dX9_way_21 k_1 ?_
      refine g_iload_n hX dX9_way_22 rfl rfl ?_
      refine g_ishl hX dX9_way_23 ?_
      refine g_istore_n (lc' := [some _, some _, some _, some _, none]) hX dX9_way_24 rfl (by decide) rfl rfl ?_
      refine g_iconst hX dX9_way_25 k_0 ?_
      refine g_istore (lc' := [some _, some _, some _, some _, some _]) hX dX9_way_26 (by decide) rfl rfl ?_
      exact g_weak (lc' := [some _, none, some _, some _, some _]) ⟨rfl, rfl, rfl, rfl, trivial⟩ (t_X9_way_28 hX 2000 _ _ _ _ h)
    · rw [if_pos q2] at h
      exact g_weak (lc' := [some _, none, none, none, none]) ⟨rfl, trivial⟩ (t_X9_way_14 hX _ h)
