set_option maxRecDepth 100000 in
set_option maxHeartbeats 4000000 in
theorem t_X8_loose_11 {l : Launch} {D : DT} {X : XT} {r : Int32} {μ' : Mem} (hX : Cx l D true X 7 RX8 cX8_loose 3 (some FieldType.int)) : ∀ (μ : Mem), f_X8_loose_11 μ = some (r, μ') → G l D true X 3 (some (.int r)) μ' 11 [some (.ref (D.1 0)), none, none] [] μ := by
  intro μ h
  unfold f_X8_loose_11 at h
  refine g_aload_n hX dX8_loose_11 rfl rfl ?_
  refine g_iconst hX dX8_loose_12 k_1 ?_
  obtain ⟨r1, μ2, hr1, h⟩ := bd2_some h
  refine g_callVi hX (c_X8_fail  _ hr1) mv_X8_fail wm_386 kd_true_0 rfl (by decide) (by decide) rfl rfl (Nat.le_of_ble_eq_true rfl) dX8_loose_13 ?_
  obtain ⟨rfl, rfl⟩ := pair_inj h
  exact g_iret hX rfl rfl dX8_loose_16
set_option maxRecDepth 100000 in
set_option maxHeartbeats 4000000 in
theorem t_X8_loose_71 {l : Launch} {D : DT} {X : XT} {r : Int32} {μ' : Mem} (hX : Cx l D true X 7 RX8 cX8_loose 3 (some FieldType.int)) : ∀ (μ : Mem), f_X8_loose_71 μ = some (r, μ') → G l D true X 3 (some (.int r)) μ' 71 [some (.ref (D.1 0)), none, none] [] μ := by
  intro μ h
  unfold f_X8_loose_71 at h
  refine g_aload_n hX dX8_loose_71 rfl rfl ?_
  refine g_getr hX kd_true_0 fg_8_0 tf_8_0 w_351 sr_true_0_0 dX8_loose_72 ?_
  refine g_getr hX wk_8_0 fg_0_2 tf_0_2 w_236 (wo_0_2 wk_8_0) dX8_loose_75 ?_
  obtain ⟨r1, hr1, h⟩ := bd_some h
  refine g_callVi hX (c_X2_openGates (wk_0_2 wk_8_0) hr1) mv_X2_openGates wm_719 (wk_0_2 wk_8_0) rfl (by decide) (by decide) rfl rfl (Nat.le_of_ble_eq_true rfl) dX8_loose_78 ?_
  obtain ⟨rfl, rfl⟩ := pair_inj h
  exact g_iret hX rfl rfl dX8_loose_81
set_option maxRecDepth 100000 in
set_option maxHeartbeats 4000000 in
theorem t_X8_loose_43 {l : Launch} {D : DT} {X : XT} {r : Int32} {μ' : Mem} (hX : Cx l D true X 7 RX8 cX8_loose 3 (some FieldType.int)) : ∀ (n : Nat) (v1 : Int32) (v2 : Int32) (μ : Mem), f_X8_loose_43 n v1 v2 μ = some (r, μ') → G l D true X 3 (some (.int r)) μ' 43 [some (.ref (D.1 0)), some (.int v1), some (.int v2)] [] μ := by
  intro n
  induction n with
  | zero => intro v1 v2 μ h; exact absurd h (by simp [f_X8_loose_43])
  | succ n ih =>
    intro v1 v2 μ h
    rw [f_X8_loose_43] at h
    refine g_iload_n hX dX8_loose_43 rfl rfl ?_
    refine g_iload_n hX dX8_loose_44 rfl rfl ?_
    refine g_icmp_ge (tgt := 71) hX dX8_loose_45 (by decide) (fun q1 => ?_) (fun q1 => ?_)
    · rw [if_pos q1] at h
      exact g_weak (lc' := [some _, none, none]) ⟨rfl, trivial⟩ (t_X8_loose_71 hX _ h)
    · rw [if_neg q1] at h
      refine g_aload_n hX dX8_loose_48 rfl rfl ?_
      refine g_getr hX kd_true_0 fg_8_0 tf_8_0 w_351 sr_true_0_0 dX8_loose_49 ?_
      obtain ⟨μ2, hμ2, h⟩ := bd_some h
      refine g_callVv hX (c_X0_shuffle wk_8_0 hμ2) mv_X0_shuffle wm_727 wk_8_0 rfl (by decide) (by decide) rfl rfl (Nat.le_of_ble_eq_true rfl) dX8_loose_52 ?_
      refine g_aload_n hX dX8_loose_55 rfl rfl ?_
      refine g_getr hX kd_true_0 fg_8_0 tf_8_0 w_351 sr_true_0_0 dX8_loose_56 ?_
      refine g_getr hX wk_8_0 fg_0_2 tf_0_2 w_236 (wo_0_2 wk_8_0) dX8_loose_59 ?_
      obtain ⟨μ3, hμ3, h⟩ := bd_some h
      refine g_callVv hX (c_X2_anHour (wk_0_2 wk_8_0) hμ3) mv_X2_anHour wm_694 (wk_0_2 wk_8_0) rfl (by decide) (by decide) rfl rfl (Nat.le_of_ble_eq_true rfl) dX8_loose_62 ?_
      refine g_iinc (lc' := [some _, some _, some _]) hX dX8_loose_65 (by decide) rfl (congrArg _ k_1) rfl rfl ?_
      refine g_goto (tgt := 43) hX dX8_loose_68 (by decide) ?_
      exact g_weak (lc' := [some _, some _, some _]) ⟨rfl, rfl, rfl, trivial⟩ (ih _ _ _ h)
set_option maxRecDepth 100000 in
set_option maxHeartbeats 4000000 in
theorem c_X8_loose {l : Launch} {D : DT} {μ : Mem} {r : Int32} {μ' : Mem} (v1 : Int32) (h : f_X8_loose v1 μ = some (r, μ')) : Ct l D true 7 yX8_loose cX8_loose 3 (some FieldType.int) [.ref (D.1 0), .int v1] μ (some (.int r)) μ' := by
  refine Ct.of (own := RX8) (lc0 := [some (.ref (D.1 0)), some (.int v1), none]) pn_X8 rfl (Nat.le_of_ble_eq_true rfl) rfl mv_X8_loose.2.2.2.1 (fun X hX => ?_)
  unfold f_X8_loose at h
  refine g_iload_n hX dX8_loose_0 rfl rfl ?_
  refine g_iconst hX dX8_loose_1 k_1 ?_
  refine g_icmp_lt (tgt := 11) hX dX8_loose_2 (by decide) (fun q1 => ?_) (fun q1 => ?_)
  · rw [if_pos q1] at h
    exact g_weak (lc' := [some _, none, none]) ⟨rfl, trivial⟩ (t_X8_loose_11 hX _ h)
  · rw [if_neg q1] at h
    refine g_iload_n hX dX8_loose_5 rfl rfl ?_
    refine g_bipush hX dX8_loose_6 kb_30 ?_
    refine g_icmp_le (tgt := 17) hX dX8_loose_8 (by decide) (fun q2 => ?_) (fun q2 => ?_)
    · rw [if_pos q2] at h
      refine g_aload_n hX dX8_loose_17 rfl rfl ?_
      refine g_getr hX kd_true_0 fg_8_0 tf_8_0 w_351 sr_true_0_0 dX8_loose_18 ?_
      refine g_getr hX wk_8_0 fg_0_2 tf_0_2 w_236 (wo_0_2 wk_8_0) dX8_loose_21 ?_
      refine g_geti hX (wk_0_2 wk_8_0) fg_2_13 tf_2_13 w_181 dX8_loose_24 ?_
      refine g_iload_n hX dX8_loose_27 rfl rfl ?_
      refine g_iadd hX dX8_loose_28 ?_
      refine g_sipush hX dX8_loose_29 ks_9999 ?_
      refine g_icmp_le (tgt := 41) hX dX8_loose_32 (by decide) (fun q3 => ?_) (fun q3 => ?_)
      · rw [if_pos q3] at h
        refine g_iconst hX dX8_loose_41 k_0 ?_
        refine g_istore_n (lc' := [some _, some _, some _]) hX dX8_loose_42 rfl (by decide) rfl rfl ?_
        exact g_weak (lc' := [some _, some _, some _]) ⟨rfl, rfl, rfl, trivial⟩ (t_X8_loose_43 hX 2000 _ _ _ h)
      · rw [if_neg q3] at h
        refine g_aload_n hX dX8_loose_35 rfl rfl ?_
        refine g_iconst hX dX8_loose_36 k_3 ?_
        obtain ⟨r4, μ5, hr4, h⟩ := bd2_some h
        refine g_callVi hX (c_X8_fail  _ hr4) mv_X8_fail wm_386 kd_true_0 rfl (by decide) (by decide) rfl rfl (Nat.le_of_ble_eq_true rfl) dX8_loose_37 ?_
        obtain ⟨rfl, rfl⟩ := pair_inj h
        exact g_iret hX rfl rfl dX8_loose_40
    · rw [if_neg q2] at h
      exact g_weak (lc' := [some _, none, none]) ⟨rfl, trivial⟩ (t_X8_loose_11 hX _ h)
set_option maxRecDepth 100000 in
set_option maxHeartbeats 4000000 in
theorem t_X8_move_14 {l : Launch} {D : DT} {X : XT} {r : Int32} {μ' : Mem} (hX : Cx l D true X 2 RX8 cX8_move 8 (some FieldType.int)) : ∀ (μ : Mem), f_X8_move_14 μ = some (r, μ') → G l D true X 8 (some (.int r)) μ' 14 [some (.ref (D.1 0)), none, none, none, none, none, none, none] [] μ := by
  intro μ h
  unfold f_X8_move_14 at h
  refine g_aload_n hX dX8_move_14 rfl rfl ?_
  refine g_iconst hX dX8_move_15 k_1 ?_
  obtain ⟨r1, μ2, hr1, h⟩ := bd2_some h
  refine g_callVi hX (c_X8_fail  _ hr1) mv_X8_fail wm_386 kd_true_0 rfl (by decide) (by decide) rfl rfl (Nat.le_of_ble_eq_true rfl) dX8_move_16 ?_
  obtain ⟨rfl, rfl⟩ := pair_inj h
  exact g_iret hX rfl rfl dX8_move_19
set_option maxRecDepth 100000 in
set_option maxHeartbeats 4000000 in
theorem t_X8_move_52 {l : Launch} {D : DT} {X : XT} {r : Int32} {μ' : Mem} (hX : Cx l D true X 2 RX8 cX8_move 8 (some FieldType.int)) : ∀ (μ : Mem), f_X8_move_52 μ = some (r, μ') → G l D true X 8 (some (.int r)) μ' 52 [some (.ref (D.1 0)), none, none, none, none, none, none, none] [] μ := by
  intro μ h
  unfold f_X8_move_52 at h
  refine g_aload_n hX dX8_move_52 rfl rfl ?_
  refine g_iconst hX dX8_move_53 k_2 ?_
  obtain ⟨r1, μ2, hr1, h⟩ := bd2_some h
  refine g_callVi hX (c_X8_fail  _ hr1) mv_X8_fail wm_386 kd_true_0 rfl (by decide) (by decide) rfl rfl (Nat.le_of_ble_eq_true rfl) dX8_move_54 ?_
  obtain ⟨rfl, rfl⟩ := pair_inj h
  exact g_iret hX rfl rfl dX8_move_57
set_option maxRecDepth 100000 in
set_option maxHeartbeats 4000000 in
theorem t_X8_move_100 {l : Launch} {D : DT} {X : XT} {r : Int32} {μ' : Mem} (hX : Cx l D true X 2 RX8 cX8_move 8 (some FieldType.int)) : ∀ (μ : Mem), f_X8_move_100 μ = some (r, μ') → G l D true X 8 (some (.int r)) μ' 100 [some (.ref (D.1 0)), none, none, none, none, none, none, none] [] μ := by
  intro μ h
  unfold f_X8_move_100 at h
  refine g_aload_n hX dX8_move_100 rfl rfl ?_
  refine g_iconst hX dX8_move_101 k_1 ?_
  obtain ⟨r1, μ2, hr1, h⟩ := bd2_some h
  refine g_callVi hX (c_X8_fail  _ hr1) mv_X8_fail wm_386 kd_true_0 rfl (by decide) (by decide) rfl rfl (Nat.le_of_ble_eq_true rfl) dX8_move_102 ?_
  obtain ⟨rfl, rfl⟩ := pair_inj h
  exact g_iret hX rfl rfl dX8_move_105
set_option maxRecDepth 100000 in
set_option maxHeartbeats 4000000 in
theorem c_X8_move {l : Launch} {D : DT} {μ : Mem} {r : Int32} {μ' : Mem} (v1 : Int32) (v2 : Int32) (v3 : Int32) (v4 : Int32) (v5 : Int32) (h : f_X8_move v1 v2 v3 v4 v5 μ = some (r, μ')) : Ct l D true 2 yX8_move cX8_move 8 (some FieldType.int) [.ref (D.1 0), .int v1, .int v2, .int v3, .int v4, .int v5] μ (some (.int r)) μ' := by
  refine Ct.of (own := RX8) (lc0 := [some (.ref (D.1 0)), some (.int v1), some (.int v2), some (.int v3), some (.int v4), some (.int v5), none, none]) pn_X8 rfl (Nat.le_of_ble_eq_true rfl) rfl mv_X8_move.2.2.2.1 (fun X hX => ?_)
  unfold f_X8_move at h
  refine g_iload_n hX dX8_move_0 rfl rfl ?_
  refine g_callSi hX (c_X8_isSheet  v1) mv_X8_isSheet wm_829 (by decide) rfl rfl (Nat.le_of_ble_eq_true rfl) dX8_move_1 ?_
  refine g_if_eq (tgt := 14) hX dX8_move_4 (by decide) (fun q1 => ?_) (fun q1 => ?_)
  · rw [if_pos q1] at h
    exact g_weak (lc' := [some _, none, none, none, none, none, none, none]) ⟨rfl, trivial⟩ (t_X8_move_14 hX _ h)
  · rw [if_neg q1] at h
    refine g_iload_n hX dX8_move_7 rfl rfl ?_
    refine g_callSi hX (c_X8_isSheet  v3) mv_X8_isSheet wm_829 (by decide) rfl rfl (Nat.le_of_ble_eq_true rfl) dX8_move_8 ?_
    refine g_if_ne (tgt := 20) hX dX8_move_11 (by decide) (fun q2 => ?_) (fun q2 => ?_)
    · rw [if_neg q2] at h
      refine g_aload_n hX dX8_move_20 rfl rfl ?_
      refine g_getr hX kd_true_0 fg_8_6 tf_8_6 w_357 sr_true_0_6 dX8_move_21 ?_
      refine g_iload_n hX dX8_move_24 rfl rfl ?_
      obtain ⟨z3, h⟩ := ck_some h
      refine g_sheet hX z3 dX8_move_25 ?_
      refine g_astore (lc' := [some _, some _, some _, some _, some _, some _, some _, none]) hX dX8_move_26 (by decide) rfl rfl ?_
      refine g_aload_n hX dX8_move_28 rfl rfl ?_
      refine g_getr hX kd_true_0 fg_8_6 tf_8_6 w_357 sr_true_0_6 dX8_move_29 ?_
      refine g_iload_n hX dX8_move_32 rfl rfl ?_
      obtain ⟨z4, h⟩ := ck_some h
      refine g_sheet hX z4 dX8_move_33 ?_
      refine g_astore (lc' := [some _, some _, some _, some _, some _, some _, some _, some _]) hX dX8_move_34 (by decide) rfl rfl ?_
      refine g_aload hX dX8_move_36 rfl ?_
      refine g_callVi hX (c_X5_isMissing (sheet_kd z3)) mv_X5_isMissing wm_832 (sheet_kd z3) rfl (by decide) (by decide) rfl rfl (Nat.le_of_ble_eq_true rfl) dX8_move_38 ?_
      refine g_if_ne (tgt := 52) hX dX8_move_41 (by decide) (fun q5 => ?_) (fun q5 => ?_)
      · rw [if_neg q5] at h
        exact g_weak (lc' := [some _, none, none, none, none, none, none, none]) ⟨rfl, trivial⟩ (t_X8_move_52 hX _ h)
      · rw [if_pos q5] at h
        refine g_aload hX dX8_move_44 rfl ?_
        refine g_callVi hX (c_X5_isMissing (sheet_kd z4)) mv_X5_isMissing wm_832 (sheet_kd z4) rfl (by decide) (by decide) rfl rfl (Nat.le_of_ble_eq_true rfl) dX8_move_46 ?_
        refine g_if_eq (tgt := 58) hX dX8_move_49 (by decide) (fun q6 => ?_) (fun q6 => ?_)
        · rw [if_pos q6] at h
          refine g_aload hX dX8_move_58 rfl ?_
          refine g_geti hX (sheet_kd z3) fg_5_1 tf_5_1 w_341 dX8_move_60 ?_
          refine g_aload hX dX8_move_63 rfl ?_
          refine g_geti hX (sheet_kd z4) fg_5_1 tf_5_1 w_341 dX8_move_65 ?_
          refine g_icmp_eq (tgt := 77) hX dX8_move_68 (by decide) (fun q7 => ?_) (fun q7 => ?_)
          · rw [if_pos q7] at h
            refine g_aload hX dX8_move_77 rfl ?_
            refine g_iload_n hX dX8_move_79 rfl rfl ?_
            refine g_iload hX dX8_move_80 rfl ?_
            refine g_callVi hX (c_X5_hasPart (sheet_kd z3) v2 v5) mv_X5_hasPart wm_895 (sheet_kd z3) rfl (by decide) (by decide) rfl rfl (Nat.le_of_ble_eq_true rfl) dX8_move_82 ?_
            refine g_if_eq (tgt := 100) hX dX8_move_85 (by decide) (fun q8 => ?_) (fun q8 => ?_)
            · rw [if_pos q8] at h
              exact g_weak (lc' := [some _, none, none, none, none, none, none, none]) ⟨rfl, trivial⟩ (t_X8_move_100 hX _ h)
            · rw [if_neg q8] at h
              refine g_aload hX dX8_move_88 rfl ?_
              refine g_iload hX dX8_move_90 rfl ?_
              refine g_iload hX dX8_move_92 rfl ?_
              refine g_callVi hX (c_X5_hasPart (sheet_kd z4) v4 v5) mv_X5_hasPart wm_895 (sheet_kd z4) rfl (by decide) (by decide) rfl rfl (Nat.le_of_ble_eq_true rfl) dX8_move_94 ?_
              refine g_if_ne (tgt := 106) hX dX8_move_97 (by decide) (fun q9 => ?_) (fun q9 => ?_)
              · rw [if_neg q9] at h
                refine g_aload hX dX8_move_106 rfl ?_
                refine g_getr hX (sheet_kd z3) fg_5_0 tf_5_0 w_339 (wo_5_0 (sheet_kd z3)) dX8_move_108 ?_
                refine g_iload_n hX dX8_move_111 rfl rfl ?_
                refine g_aload hX dX8_move_112 rfl ?_
                refine g_getr hX (sheet_kd z4) fg_5_0 tf_5_0 w_339 (wo_5_0 (sheet_kd z4)) dX8_move_114 ?_
                refine g_iload hX dX8_move_117 rfl ?_
                refine g_iload hX dX8_move_119 rfl ?_
                obtain ⟨z10, h⟩ := ck_some h
                obtain ⟨μ11, hμ11, h⟩ := cpy_some h
                refine g_copyM hX cp_w wm_899 (wk_5_0 (sheet_kd z3)).1 (wk_5_0 (sheet_kd z4)).1 z10 (Nat.le_of_ble_eq_true rfl) (by decide) dX8_move_121 hμ11 ?_
                refine g_iload hX dX8_move_124 rfl ?_
                obtain ⟨rfl, rfl⟩ := pair_inj h
                exact g_iret hX rfl rfl dX8_move_126
              · rw [if_pos q9] at h
                exact g_weak (lc' := [some _, none, none, none, none, none, none, none]) ⟨rfl, trivial⟩ (t_X8_move_100 hX _ h)
          · rw [if_neg q7] at h
            refine g_aload_n hX dX8_move_71 rfl rfl ?_
            refine g_iconst hX dX8_move_72 k_5 ?_
            obtain ⟨r12, μ13, hr12, h⟩ := bd2_some h
            refine g_callVi hX (c_X8_fail  _ hr12) mv_X8_fail wm_386 kd_true_0 rfl (by decide) (by decide) rfl rfl (Nat.le_of_ble_eq_true rfl) dX8_move_73 ?_
            obtain ⟨rfl, rfl⟩ := pair_inj h
            exact g_iret hX rfl rfl dX8_move_76
        · rw [if_neg q6] at h
          exact g_weak (lc' := [some _, none, none, none, none, none, none, none]) ⟨rfl, trivial⟩ (t_X8_move_52 hX _ h)
    · rw [if_pos q2] at h
      exact g_weak (lc' := [some _, none, none, none, none, none, none, none]) ⟨rfl, trivial⟩ (t_X8_move_14 hX _ h)
set_option maxRecDepth 100000 in
set_option maxHeartbeats 4000000 in
theorem t_X8_odds_16 {l : Launch} {D : DT} {X : XT} {r : Int32} {μ' : Mem} (hX : Cx l D true X 4 RX8 cX8_odds 7 (some FieldType.int)) : ∀ (μ : Mem), f_X8_odds_16 μ = some (r, μ') → G l D true X 7 (some (.int r)) μ' 16 [some (.ref (D.1 0)), none, none, none, none, none, none] [] μ := by
  intro μ h
  unfold f_X8_odds_16 at h
  refine g_aload_n hX dX8_odds_16 rfl rfl ?_
  refine g_iconst hX dX8_odds_17 k_1 ?_
  obtain ⟨r1, μ2, hr1, h⟩ := bd2_some h
  refine g_callVi hX (c_X8_fail  _ hr1) mv_X8_fail wm_386 kd_true_0 rfl (by decide) (by decide) rfl rfl (Nat.le_of_ble_eq_true rfl) dX8_odds_18 ?_
  obtain ⟨rfl, rfl⟩ := pair_inj h
  exact g_iret hX rfl rfl dX8_odds_21
set_option maxRecDepth 100000 in
set_option maxHeartbeats 4000000 in
theorem t_X8_odds_74 {l : Launch} {D : DT} {X : XT} {r : Int32} {μ' : Mem} (hX : Cx l D true X 4 RX8 cX8_odds 7 (some FieldType.int)) : ∀ (v5 : Int32) (s0 : Int32) (μ : Mem), f_X8_odds_74 v5 s0 μ = some (r, μ') → G l D true X 7 (some (.int r)) μ' 74 [none, none, none, none, none, some (.int v5), none] [.int s0] μ := by
  intro v5 s0 μ h
  unfold f_X8_odds_74 at h
  refine g_istore (lc' := [none, none, none, none, none, some _, some _]) hX dX8_odds_74 (by decide) rfl rfl ?_
  refine g_iload hX dX8_odds_76 rfl ?_
  refine g_iconst hX dX8_odds_78 k_1 ?_
  refine g_icmp_le (tgt := 90) hX dX8_odds_79 (by decide) (fun q1 => ?_) (fun q1 => ?_)
  · rw [if_pos q1] at h
    refine g_iload hX dX8_odds_90 rfl ?_
    obtain ⟨rfl, rfl⟩ := pair_inj h
    exact g_iret hX rfl rfl dX8_odds_92
  · rw [if_neg q1] at h
    refine g_iload hX dX8_odds_82 rfl ?_
    refine g_iload hX dX8_odds_84 rfl ?_
    obtain ⟨z2, h⟩ := ck_some h
    refine g_idiv hX (nz_ne z2) dX8_odds_86 ?_
    refine g_goto (tgt := 92) hX dX8_odds_87 (by decide) ?_
    obtain ⟨rfl, rfl⟩ := pair_inj h
    exact g_iret hX rfl rfl dX8_odds_92
set_option maxRecDepth 100000 in
set_option maxHeartbeats 4000000 in
theorem c_X8_odds {l : Launch} {D : DT} {μ : Mem} {r : Int32} {μ' : Mem} (v1 : Int32) (v2 : Int32) (h : f_X8_odds v1 v2 μ = some (r, μ')) : Ct l D true 4 yX8_odds cX8_odds 7 (some FieldType.int) [.ref (D.1 0), .int v1, .int v2] μ (some (.int r)) μ' := by
  refine Ct.of (own := RX8) (lc0 := [some (.ref (D.1 0)), some (.int v1), some (.int v2), none, none, none, none]) pn_X8 rfl (Nat.le_of_ble_eq_true rfl) rfl mv_X8_odds.2.2.2.1 (fun X hX => ?_)
  unfold f_X8_odds at h
  refine g_iload_n hX dX8_odds_0 rfl rfl ?_
  refine g_callSi hX (c_X8_isField  v1) mv_X8_isField wm_473 (by decide) rfl rfl (Nat.le_of_ble_eq_true rfl) dX8_odds_1 ?_
  refine g_if_eq (tgt := 16) hX dX8_odds_4 (by decide) (fun q1 => ?_) (fun q1 => ?_)
  · rw [if_pos q1] at h
    exact g_weak (lc' := [some _, none, none, none, none, none, none]) ⟨rfl, trivial⟩ (t_X8_odds_16 hX _ h)
  · rw [if_neg q1] at h
    refine g_iload_n hX dX8_odds_7 rfl rfl ?_
    refine g_if_lt (tgt := 16) hX dX8_odds_8 (by decide) (fun q2 => ?_) (fun q2 => ?_)
    · rw [if_pos q2] at h
      exact g_weak (lc' := [some _, none, none, none, none, none, none]) ⟨rfl, trivial⟩ (t_X8_odds_16 hX _ h)
    · rw [if_neg q2] at h
      refine g_iload_n hX dX8_odds_11 rfl rfl ?_
      refine g_iconst hX dX8_odds_12 k_1 ?_
      refine g_icmp_le (tgt := 22) hX dX8_odds_13 (by decide) (fun q3 => ?_) (fun q3 => ?_)
      · rw [if_pos q3] at h
        refine g_aload_n hX dX8_odds_22 rfl rfl ?_
        refine g_getr hX kd_true_0 fg_8_0 tf_8_0 w_351 sr_true_0_0 dX8_odds_23 ?_
        refine g_getr hX wk_8_0 fg_0_2 tf_0_2 w_236 (wo_0_2 wk_8_0) dX8_odds_26 ?_
        refine g_geti hX (wk_0_2 wk_8_0) fg_2_11 tf_2_11 w_177 dX8_odds_29 ?_
        refine g_istore_n (lc' := [some _, some _, some _, some _, none, none, none]) hX dX8_odds_32 rfl (by decide) rfl rfl ?_
        refine g_iload_n hX dX8_odds_33 rfl rfl ?_
        refine g_if_gt (tgt := 43) hX dX8_odds_34 (by decide) (fun q4 => ?_) (fun q4 => ?_)
        · rw [if_pos q4] at h
          refine g_aload_n hX dX8_odds_43 rfl rfl ?_
          refine g_getr hX kd_true_0 fg_8_0 tf_8_0 w_351 sr_true_0_0 dX8_odds_44 ?_
          refine g_getr hX wk_8_0 fg_0_2 tf_0_2 w_236 (wo_0_2 wk_8_0) dX8_odds_47 ?_
          refine g_iload_n hX dX8_odds_50 rfl rfl ?_
          obtain ⟨r5, hr5, h⟩ := bd_some h
          refine g_callVi hX (c_X2_gatesThatMatter (wk_0_2 wk_8_0) _ hr5) mv_X2_gatesThatMatter wm_817 (wk_0_2 wk_8_0) rfl (by decide) (by decide) rfl rfl (Nat.le_of_ble_eq_true rfl) dX8_odds_51 ?_
          refine g_istore (lc' := [some _, some _, some _, some _, some _, none, none]) hX dX8_odds_54 (by decide) rfl rfl ?_
          refine g_iload hX dX8_odds_56 rfl ?_
          refine g_iload_n hX dX8_odds_58 rfl rfl ?_
          obtain ⟨r6, hr6, h⟩ := bd_some h
          refine g_callSi hX (c_X8_commonDivisor  _ _ hr6) mv_X8_commonDivisor wm_822 (by decide) rfl rfl (Nat.le_of_ble_eq_true rfl) dX8_odds_59 ?_
          refine g_istore (lc' := [some _, some _, some _, some _, some _, some _, none]) hX dX8_odds_62 (by decide) rfl rfl ?_
          refine g_iload_n hX dX8_odds_64 rfl rfl ?_
          refine g_if_ne (tgt := 73) hX dX8_odds_65 (by decide) (fun q7 => ?_) (fun q7 => ?_)
          · rw [if_neg q7] at h
            refine g_iload_n hX dX8_odds_73 rfl rfl ?_
            exact g_weak (lc' := [none, none, none, none, none, some _, none]) ⟨rfl, trivial⟩ (t_X8_odds_74 hX _ _ _ h)
          · rw [if_pos q7] at h
            refine g_iload hX dX8_odds_68 rfl ?_
            refine g_goto (tgt := 74) hX dX8_odds_70 (by decide) ?_
            exact g_weak (lc' := [none, none, none, none, none, some _, none]) ⟨rfl, trivial⟩ (t_X8_odds_74 hX _ _ _ h)
        · rw [if_neg q4] at h
          refine g_aload_n hX dX8_odds_37 rfl rfl ?_
          refine g_iconst hX dX8_odds_38 k_3 ?_
          obtain ⟨r8, μ9, hr8, h⟩ := bd2_some h
          refine g_callVi hX (c_X8_fail  _ hr8) mv_X8_fail wm_386 kd_true_0 rfl (by decide) (by decide) rfl rfl (Nat.le_of_ble_eq_true rfl) dX8_odds_39 ?_
          obtain ⟨rfl, rfl⟩ := pair_inj h
          exact g_iret hX rfl rfl dX8_odds_42
      · rw [if_neg q3] at h
        exact g_weak (lc' := [some _, none, none, none, none, none, none]) ⟨rfl, trivial⟩ (t_X8_odds_16 hX _ h)
set_option maxRecDepth 100000 in
set_option maxHeartbeats 4000000 in
theorem t_X8_pass_29 {l : Launch} {D : DT} {X : XT} {r : Int32} {μ' : Mem} (hX : Cx l D true X 2 RX8 cX8_pass 4 (some FieldType.int)) : ∀ (μ : Mem), f_X8_pass_29 μ = some (r, μ') → G l D true X 4 (some (.int r)) μ' 29 [some (.ref (D.1 0)), none, none, none] [] μ := by
  intro μ h
  unfold f_X8_pass_29 at h
  refine g_aload_n hX dX8_pass_29 rfl rfl ?_
  refine g_iconst hX dX8_pass_30 k_1 ?_
  obtain ⟨r1, μ2, hr1, h⟩ := bd2_some h
  refine g_callVi hX (c_X8_fail  _ hr1) mv_X8_fail wm_386 kd_true_0 rfl (by decide) (by decide) rfl rfl (Nat.le_of_ble_eq_true rfl) dX8_pass_31 ?_
  obtain ⟨rfl, rfl⟩ := pair_inj h
  exact g_iret hX rfl rfl dX8_pass_34
set_option maxRecDepth 100000 in
set_option maxHeartbeats 4000000 in
theorem c_X8_pass {l : Launch} {D : DT} {μ : Mem} {r : Int32} {μ' : Mem} (v1 : Int32) (v2 : Int32) (h : f_X8_pass v1 v2 μ = some (r, μ')) : Ct l D true 2 yX8_pass cX8_pass 4 (some FieldType.int) [.ref (D.1 0), .int v1, .int v2] μ (some (.int r)) μ' := by
  refine Ct.of (own := RX8) (lc0 := [some (.ref (D.1 0)), some (.int v1), some (.int v2), none]) pn_X8 rfl (Nat.le_of_ble_eq_true rfl) rfl mv_X8_pass.2.2.2.1 (fun X hX => ?_)
  unfold f_X8_pass at h
  refine g_aload_n hX dX8_pass_0 rfl rfl ?_
  refine g_getr hX kd_true_0 fg_8_0 tf_8_0 w_351 sr_true_0_0 dX8_pass_1 ?_
  refine g_getr hX wk_8_0 fg_0_2 tf_0_2 w_236 (wo_0_2 wk_8_0) dX8_pass_4 ?_
  refine g_astore_n (lc' := [some _, some _, some _, some _]) hX dX8_pass_7 rfl (by decide) rfl rfl ?_
  refine g_aload_n hX dX8_pass_8 rfl rfl ?_
  refine g_iload_n hX dX8_pass_9 rfl rfl ?_
  refine g_callVi hX (c_X2_isOne (wk_0_2 wk_8_0) v1) mv_X2_isOne wm_399 (wk_0_2 wk_8_0) rfl (by decide) (by decide) rfl rfl (Nat.le_of_ble_eq_true rfl) dX8_pass_10 ?_
  refine g_if_eq (tgt := 29) hX dX8_pass_13 (by decide) (fun q1 => ?_) (fun q1 => ?_)
  · rw [if_pos q1] at h
    exact g_weak (lc' := [some _, none, none, none]) ⟨rfl, trivial⟩ (t_X8_pass_29 hX _ h)
  · rw [if_neg q1] at h
    refine g_aload_n hX dX8_pass_16 rfl rfl ?_
    refine g_iload_n hX dX8_pass_17 rfl rfl ?_
    refine g_callVi hX (c_X2_isOne (wk_0_2 wk_8_0) v2) mv_X2_isOne wm_399 (wk_0_2 wk_8_0) rfl (by decide) (by decide) rfl rfl (Nat.le_of_ble_eq_true rfl) dX8_pass_18 ?_
    refine g_if_eq (tgt := 29) hX dX8_pass_21 (by decide) (fun q2 => ?_) (fun q2 => ?_)
    · rw [if_pos q2] at h
      exact g_weak (lc' := [some _, none, none, none]) ⟨rfl, trivial⟩ (t_X8_pass_29 hX _ h)
    · rw [if_neg q2] at h
      refine g_iload_n hX dX8_pass_24 rfl rfl ?_
      refine g_iload_n hX dX8_pass_25 rfl rfl ?_
      refine g_icmp_ne (tgt := 35) hX dX8_pass_26 (by decide) (fun q3 => ?_) (fun q3 => ?_)
      · rw [if_neg q3] at h
        refine g_aload_n hX dX8_pass_35 rfl rfl ?_
        refine g_iload_n hX dX8_pass_36 rfl rfl ?_
        refine g_iload_n hX dX8_pass_37 rfl rfl ?_
        obtain ⟨r4, μ5, hr4, h⟩ := bd2_some h
        refine g_callVi hX (c_X2_handOver (wk_0_2 wk_8_0) _ _ hr4) mv_X2_handOver wm_497 (wk_0_2 wk_8_0) rfl (by decide) (by decide) rfl rfl (Nat.le_of_ble_eq_true rfl) dX8_pass_38 ?_
        obtain ⟨rfl, rfl⟩ := pair_inj h
        exact g_iret hX rfl rfl dX8_pass_41
      · rw [if_pos q3] at h
        exact g_weak (lc' := [some _, none, none, none]) ⟨rfl, trivial⟩ (t_X8_pass_29 hX _ h)
set_option maxRecDepth 100000 in
set_option maxHeartbeats 4000000 in
theorem c_X8_person {l : Launch} {D : DT} {μ : Mem} {r : Int32} {μ' : Mem} (v1 : Int32) (h : f_X8_person v1 μ = some (r, μ')) : Ct l D true 2 yX8_person cX8_person 2 (some FieldType.int) [.ref (D.1 0), .int v1] μ (some (.int r)) μ' := by
  refine Ct.of (own := RX8) (lc0 := [some (.ref (D.1 0)), some (.int v1)]) pn_X8 rfl (Nat.le_of_ble_eq_true rfl) rfl mv_X8_person.2.2.2.1 (fun X hX => ?_)
  unfold f_X8_person at h
  refine g_iload_n hX dX8_person_0 rfl rfl ?_
  refine g_callSi hX (c_X8_isKindAndNumber  v1) mv_X8_isKindAndNumber wm_383 (by decide) rfl rfl (Nat.le_of_ble_eq_true rfl) dX8_person_1 ?_
  refine g_if_ne (tgt := 13) hX dX8_person_4 (by decide) (fun q1 => ?_) (fun q1 => ?_)
  · rw [if_neg q1] at h
    refine g_aload_n hX dX8_person_13 rfl rfl ?_
    refine g_getr hX kd_true_0 fg_8_0 tf_8_0 w_351 sr_true_0_0 dX8_person_14 ?_
    refine g_getr hX wk_8_0 fg_0_2 tf_0_2 w_236 (wo_0_2 wk_8_0) dX8_person_17 ?_
    refine g_geti hX (wk_0_2 wk_8_0) fg_2_10 tf_2_10 w_170 dX8_person_20 ?_
    refine g_bipush hX dX8_person_23 kb_6 ?_
    refine g_icmp_lt (tgt := 34) hX dX8_person_25 (by decide) (fun q2 => ?_) (fun q2 => ?_)
    · rw [if_pos q2] at h
      refine g_aload_n hX dX8_person_34 rfl rfl ?_
      refine g_getr hX kd_true_0 fg_8_0 tf_8_0 w_351 sr_true_0_0 dX8_person_35 ?_
      refine g_getr hX wk_8_0 fg_0_2 tf_0_2 w_236 (wo_0_2 wk_8_0) dX8_person_38 ?_
      refine g_iload_n hX dX8_person_41 rfl rfl ?_
      refine g_bipush hX dX8_person_42 kb_10 ?_
      refine g_idiv hX (by decide) dX8_person_44 ?_
      refine g_iload_n hX dX8_person_45 rfl rfl ?_
      refine g_bipush hX dX8_person_46 kb_10 ?_
      refine g_irem hX (by decide) dX8_person_48 ?_
      obtain ⟨r3, μ4, hr3, h⟩ := bd2_some h
      refine g_callVi hX (c_X2_addOne (wk_0_2 wk_8_0) _ _ hr3) mv_X2_addOne wm_391 (wk_0_2 wk_8_0) rfl (by decide) (by decide) rfl rfl (Nat.le_of_ble_eq_true rfl) dX8_person_49 ?_
      obtain ⟨rfl, rfl⟩ := pair_inj h
      exact g_iret hX rfl rfl dX8_person_52
    · rw [if_neg q2] at h
      refine g_aload_n hX dX8_person_28 rfl rfl ?_
      refine g_iconst hX dX8_person_29 k_4 ?_
      obtain ⟨r5, μ6, hr5, h⟩ := bd2_some h
      refine g_callVi hX (c_X8_fail  _ hr5) mv_X8_fail wm_386 kd_true_0 rfl (by decide) (by decide) rfl rfl (Nat.le_of_ble_eq_true rfl) dX8_person_30 ?_
      obtain ⟨rfl, rfl⟩ := pair_inj h
      exact g_iret hX rfl rfl dX8_person_33
  · rw [if_pos q1] at h
    refine g_aload_n hX dX8_person_7 rfl rfl ?_
    refine g_iconst hX dX8_person_8 k_1 ?_
    obtain ⟨r7, μ8, hr7, h⟩ := bd2_some h
    refine g_callVi hX (c_X8_fail  _ hr7) mv_X8_fail wm_386 kd_true_0 rfl (by decide) (by decide) rfl rfl (Nat.le_of_ble_eq_true rfl) dX8_person_9 ?_
    obtain ⟨rfl, rfl⟩ := pair_inj h
    exact g_iret hX rfl rfl dX8_person_12
set_option maxRecDepth 100000 in
set_option maxHeartbeats 4000000 in
theorem t_X8_personIs_25 {l : Launch} {D : DT} {X : XT} {r : Int32} {μ' : Mem} (hX : Cx l D true X 6 RX8 cX8_personIs 4 (some FieldType.int)) : ∀ (μ : Mem), f_X8_personIs_25 μ = some (r, μ') → G l D true X 4 (some (.int r)) μ' 25 [some (.ref (D.1 0)), none, none, none] [] μ := by
  intro μ h
  unfold f_X8_personIs_25 at h
  refine g_aload_n hX dX8_personIs_25 rfl rfl ?_
  refine g_iconst hX dX8_personIs_26 k_1 ?_
  obtain ⟨r1, μ2, hr1, h⟩ := bd2_some h
  refine g_callVi hX (c_X8_fail  _ hr1) mv_X8_fail wm_386 kd_true_0 rfl (by decide) (by decide) rfl rfl (Nat.le_of_ble_eq_true rfl) dX8_personIs_27 ?_
  obtain ⟨rfl, rfl⟩ := pair_inj h
  exact g_iret hX rfl rfl dX8_personIs_30
set_option maxRecDepth 100000 in
set_option maxHeartbeats 4000000 in
theorem c_X8_personIs {l : Launch} {D : DT} {μ : Mem} {r : Int32} {μ' : Mem} (v1 : Int32) (v2 : Int32) (h : f_X8_personIs v1 v2 μ = some (r, μ')) : Ct l D true 6 yX8_personIs cX8_personIs 4 (some FieldType.int) [.ref (D.1 0), .int v1, .int v2] μ (some (.int r)) μ' := by
  refine Ct.of (own := RX8) (lc0 := [some (.ref (D.1 0)), some (.int v1), some (.int v2), none]) pn_X8 rfl (Nat.le_of_ble_eq_true rfl) rfl mv_X8_personIs.2.2.2.1 (fun X hX => ?_)
  unfold f_X8_personIs at h
  refine g_aload_n hX dX8_personIs_0 rfl rfl ?_
  refine g_getr hX kd_true_0 fg_8_0 tf_8_0 w_351 sr_true_0_0 dX8_personIs_1 ?_
  refine g_getr hX wk_8_0 fg_0_2 tf_0_2 w_236 (wo_0_2 wk_8_0) dX8_personIs_4 ?_
  refine g_astore_n (lc' := [some _, some _, some _, some _]) hX dX8_personIs_7 rfl (by decide) rfl rfl ?_
  refine g_aload_n hX dX8_personIs_8 rfl rfl ?_
  refine g_iload_n hX dX8_personIs_9 rfl rfl ?_
  refine g_callVi hX (c_X2_isOne (wk_0_2 wk_8_0) v1) mv_X2_isOne wm_399 (wk_0_2 wk_8_0) rfl (by decide) (by decide) rfl rfl (Nat.le_of_ble_eq_true rfl) dX8_personIs_10 ?_
  refine g_if_eq (tgt := 25) hX dX8_personIs_13 (by decide) (fun q1 => ?_) (fun q1 => ?_)
  · rw [if_pos q1] at h
    exact g_weak (lc' := [some _, none, none, none]) ⟨rfl, trivial⟩ (t_X8_personIs_25 hX _ h)
  · rw [if_neg q1] at h
    refine g_iload_n hX dX8_personIs_16 rfl rfl ?_
    refine g_if_lt (tgt := 25) hX dX8_personIs_17 (by decide) (fun q2 => ?_) (fun q2 => ?_)
    · rw [if_pos q2] at h
      exact g_weak (lc' := [some _, none, none, none]) ⟨rfl, trivial⟩ (t_X8_personIs_25 hX _ h)
    · rw [if_neg q2] at h
      refine g_iload_n hX dX8_personIs_20 rfl rfl ?_
      refine g_iconst hX dX8_personIs_21 k_4 ?_
      refine g_icmp_le (tgt := 31) hX dX8_personIs_22 (by decide) (fun q3 => ?_) (fun q3 => ?_)
      · rw [if_pos q3] at h
        refine g_iload_n hX dX8_personIs_31 rfl rfl ?_
        by_cases q4 : v2 = 0
        · rw [if_pos q4] at h
          refine g_tsIn (tgt := 64) (off := 32) hX dX8_personIs_32 (by rw [q4] <;> decide) (by rw [q4] <;> decide) (by rw [q4] <;> rfl) (by decide) ?_
          refine g_aload_n hX dX8_personIs_64 rfl rfl ?_
          refine g_getr hX (wk_0_2 wk_8_0) fg_2_2 tf_2_2 w_152 (wo_2_2 (wk_0_2 wk_8_0)) dX8_personIs_65 ?_
          refine g_iload_n hX dX8_personIs_68 rfl rfl ?_
          obtain ⟨z5, h⟩ := ck_some h
          refine g_iald hX (wk_2_2 (wk_0_2 wk_8_0)).1 (wk_2_2 (wk_0_2 wk_8_0)).2 z5 dX8_personIs_69 ?_
          obtain ⟨rfl, rfl⟩ := pair_inj h
          exact g_iret hX rfl rfl dX8_personIs_70
        rw [if_neg q4] at h
        have eq4_0 := ts_ne (c := 0) (k := 0) q4 (by decide)
        by_cases q6 : v2 = 1
        · rw [if_pos q6] at h
          refine g_tsIn (tgt := 71) (off := 39) hX dX8_personIs_32 (by rw [q6] <;> decide) (by rw [q6] <;> decide) (by rw [q6] <;> rfl) (by decide) ?_
          refine g_aload_n hX dX8_personIs_71 rfl rfl ?_
          refine g_getr hX (wk_0_2 wk_8_0) fg_2_3 tf_2_3 w_154 (wo_2_3 (wk_0_2 wk_8_0)) dX8_personIs_72 ?_
          refine g_iload_n hX dX8_personIs_75 rfl rfl ?_
          obtain ⟨z7, h⟩ := ck_some h
          refine g_iald hX (wk_2_3 (wk_0_2 wk_8_0)).1 (wk_2_3 (wk_0_2 wk_8_0)).2 z7 dX8_personIs_76 ?_
          obtain ⟨rfl, rfl⟩ := pair_inj h
          exact g_iret hX rfl rfl dX8_personIs_77
        rw [if_neg q6] at h
        have eq6_1 := ts_ne (c := 1) (k := 1) q6 (by decide)
        by_cases q8 : v2 = 2
        · rw [if_pos q8] at h
          refine g_tsIn (tgt := 78) (off := 46) hX dX8_personIs_32 (by rw [q8] <;> decide) (by rw [q8] <;> decide) (by rw [q8] <;> rfl) (by decide) ?_
          refine g_aload_n hX dX8_personIs_78 rfl rfl ?_
          refine g_iload_n hX dX8_personIs_79 rfl rfl ?_
          obtain ⟨r9, hr9, h⟩ := bd_some h
          refine g_callVi hX (c_X2_heldBy (wk_0_2 wk_8_0) _ hr9) mv_X2_heldBy wm_403 (wk_0_2 wk_8_0) rfl (by decide) (by decide) rfl rfl (Nat.le_of_ble_eq_true rfl) dX8_personIs_80 ?_
          obtain ⟨rfl, rfl⟩ := pair_inj h
          exact g_iret hX rfl rfl dX8_personIs_83
        rw [if_neg q8] at h
        have eq8_2 := ts_ne (c := 2) (k := 2) q8 (by decide)
        by_cases q10 : v2 = 3
        · rw [if_pos q10] at h
          refine g_tsIn (tgt := 84) (off := 52) hX dX8_personIs_32 (by rw [q10] <;> decide) (by rw [q10] <;> decide) (by rw [q10] <;> rfl) (by decide) ?_
          refine g_aload_n hX dX8_personIs_84 rfl rfl ?_
          refine g_iload_n hX dX8_personIs_85 rfl rfl ?_
          obtain ⟨r11, μ12, hr11, h⟩ := bd2_some h
          refine g_callVi hX (c_X2_load (wk_0_2 wk_8_0) _ hr11) mv_X2_load wm_407 (wk_0_2 wk_8_0) rfl (by decide) (by decide) rfl rfl (Nat.le_of_ble_eq_true rfl) dX8_personIs_86 ?_
          obtain ⟨rfl, rfl⟩ := pair_inj h
          exact g_iret hX rfl rfl dX8_personIs_89
        rw [if_neg q10] at h
        have eq10_3 := ts_ne (c := 3) (k := 3) q10 (by decide)
        refine g_tsOut (tgt := 90) hX dX8_personIs_32 (by omega) (by decide) ?_
        refine g_aload_n hX dX8_personIs_90 rfl rfl ?_
        refine g_iload_n hX dX8_personIs_91 rfl rfl ?_
        obtain ⟨r13, hr13, h⟩ := bd_some h
        refine g_callVi hX (c_X2_room (wk_0_2 wk_8_0) _ hr13) mv_X2_room wm_448 (wk_0_2 wk_8_0) rfl (by decide) (by decide) rfl rfl (Nat.le_of_ble_eq_true rfl) dX8_personIs_92 ?_
        obtain ⟨rfl, rfl⟩ := pair_inj h
        exact g_iret hX rfl rfl dX8_personIs_95
      · rw [if_neg q3] at h
        exact g_weak (lc' := [some _, none, none, none]) ⟨rfl, trivial⟩ (t_X8_personIs_25 hX _ h)
set_option maxRecDepth 100000 in
set_option maxHeartbeats 4000000 in
theorem t_X8_put_48 {l : Launch} {D : DT} {X : XT} {r : Int32} {μ' : Mem} (hX : Cx l D true X 2 RX8 cX8_put 5 (some FieldType.int)) : ∀ (μ : Mem), f_X8_put_48 μ = some (r, μ') → G l D true X 5 (some (.int r)) μ' 48 [some (.ref (D.1 0)), none, none, none, none] [] μ := by
  intro μ h
  unfold f_X8_put_48 at h
  refine g_aload_n hX dX8_put_48 rfl rfl ?_
  refine g_iconst hX dX8_put_49 k_1 ?_
  obtain ⟨r1, μ2, hr1, h⟩ := bd2_some h
  refine g_callVi hX (c_X8_fail  _ hr1) mv_X8_fail wm_386 kd_true_0 rfl (by decide) (by decide) rfl rfl (Nat.le_of_ble_eq_true rfl) dX8_put_50 ?_
  obtain ⟨rfl, rfl⟩ := pair_inj h
  exact g_iret hX rfl rfl dX8_put_53
set_option maxRecDepth 100000 in
set_option maxHeartbeats 4000000 in
theorem c_X8_put {l : Launch} {D : DT} {μ : Mem} {r : Int32} {μ' : Mem} (v1 : Int32) (v2 : Int32) (v3 : Int32) (h : f_X8_put v1 v2 v3 μ = some (r, μ')) : Ct l D true 2 yX8_put cX8_put 5 (some FieldType.int) [.ref (D.1 0), .int v1, .int v2, .int v3] μ (some (.int r)) μ' := by
  refine Ct.of (own := RX8) (lc0 := [some (.ref (D.1 0)), some (.int v1), some (.int v2), some (.int v3), none]) pn_X8 rfl (Nat.le_of_ble_eq_true rfl) rfl mv_X8_put.2.2.2.1 (fun X hX => ?_)
  unfold f_X8_put at h
  refine g_iload_n hX dX8_put_0 rfl rfl ?_
  refine g_callSi hX (c_X8_isSheet  v1) mv_X8_isSheet wm_829 (by decide) rfl rfl (Nat.le_of_ble_eq_true rfl) dX8_put_1 ?_
  refine g_if_ne (tgt := 13) hX dX8_put_4 (by decide) (fun q1 => ?_) (fun q1 => ?_)
  · rw [if_neg q1] at h
    refine g_aload_n hX dX8_put_13 rfl rfl ?_
    refine g_getr hX kd_true_0 fg_8_6 tf_8_6 w_357 sr_true_0_6 dX8_put_14 ?_
    refine g_iload_n hX dX8_put_17 rfl rfl ?_
    obtain ⟨z2, h⟩ := ck_some h
    refine g_sheet hX z2 dX8_put_18 ?_
    refine g_astore (lc' := [some _, some _, some _, some _, some _]) hX dX8_put_19 (by decide) rfl rfl ?_
    refine g_aload hX dX8_put_21 rfl ?_
    refine g_callVi hX (c_X5_isMissing (sheet_kd z2)) mv_X5_isMissing wm_832 (sheet_kd z2) rfl (by decide) (by decide) rfl rfl (Nat.le_of_ble_eq_true rfl) dX8_put_23 ?_
    refine g_if_eq (tgt := 35) hX dX8_put_26 (by decide) (fun q3 => ?_) (fun q3 => ?_)
    · rw [if_pos q3] at h
      refine g_iload_n hX dX8_put_35 rfl rfl ?_
      refine g_if_lt (tgt := 48) hX dX8_put_36 (by decide) (fun q4 => ?_) (fun q4 => ?_)
      · rw [if_pos q4] at h
        exact g_weak (lc' := [some _, none, none, none, none]) ⟨rfl, trivial⟩ (t_X8_put_48 hX _ h)
      · rw [if_neg q4] at h
        refine g_iload_n hX dX8_put_39 rfl rfl ?_
        refine g_aload hX dX8_put_40 rfl ?_
        refine g_geti hX (sheet_kd z2) fg_5_2 tf_5_2 w_343 dX8_put_42 ?_
        refine g_icmp_lt (tgt := 54) hX dX8_put_45 (by decide) (fun q5 => ?_) (fun q5 => ?_)
        · rw [if_pos q5] at h
          refine g_aload hX dX8_put_54 rfl ?_
          refine g_getr hX (sheet_kd z2) fg_5_0 tf_5_0 w_339 (wo_5_0 (sheet_kd z2)) dX8_put_56 ?_
          refine g_iload_n hX dX8_put_59 rfl rfl ?_
          refine g_aload hX dX8_put_60 rfl ?_
          refine g_iload_n hX dX8_put_62 rfl rfl ?_
          refine g_callVi hX (c_X5_lowest (sheet_kd z2) v3) mv_X5_lowest wm_887 (sheet_kd z2) rfl (by decide) (by decide) rfl rfl (Nat.le_of_ble_eq_true rfl) dX8_put_63 ?_
          obtain ⟨z7, h⟩ := ck_some h
          obtain ⟨μ6, hμ6, h⟩ := wr_some h
          refine g_iastM hX (wk_5_0 (sheet_kd z2)).1 (wk_5_0 (sheet_kd z2)).2 z7 dX8_put_66 hμ6 ?_
          refine g_iconst hX dX8_put_67 k_1 ?_
          obtain ⟨rfl, rfl⟩ := pair_inj h
          exact g_iret hX rfl rfl dX8_put_68
        · rw [if_neg q5] at h
          exact g_weak (lc' := [some _, none, none, none, none]) ⟨rfl, trivial⟩ (t_X8_put_48 hX _ h)
    · rw [if_neg q3] at h
      refine g_aload_n hX dX8_put_29 rfl rfl ?_
      refine g_iconst hX dX8_put_30 k_2 ?_
      obtain ⟨r8, μ9, hr8, h⟩ := bd2_some h
      refine g_callVi hX (c_X8_fail  _ hr8) mv_X8_fail wm_386 kd_true_0 rfl (by decide) (by decide) rfl rfl (Nat.le_of_ble_eq_true rfl) dX8_put_31 ?_
      obtain ⟨rfl, rfl⟩ := pair_inj h
      exact g_iret hX rfl rfl dX8_put_34
  · rw [if_pos q1] at h
    refine g_aload_n hX dX8_put_7 rfl rfl ?_
    refine g_iconst hX dX8_put_8 k_1 ?_
    obtain ⟨r10, μ11, hr10, h⟩ := bd2_some h
    refine g_callVi hX (c_X8_fail  _ hr10) mv_X8_fail wm_386 kd_true_0 rfl (by decide) (by decide) rfl rfl (Nat.le_of_ble_eq_true rfl) dX8_put_9 ?_
    obtain ⟨rfl, rfl⟩ := pair_inj h
    exact g_iret hX rfl rfl dX8_put_12
set_option maxRecDepth 100000 in
set_option maxHeartbeats 4000000 in
theorem c_X8_restore {l : Launch} {D : DT} {μ : Mem} {r : Int32} {μ' : Mem} (h : f_X8_restore μ = some (r, μ')) : Ct l D true 5 yX8_restore cX8_restore 1 (some FieldType.int) [.ref (D.1 0)] μ (some (.int r)) μ' := by
  refine Ct.of (own := RX8) (lc0 := [some (.ref (D.1 0))]) pn_X8 rfl (Nat.le_of_ble_eq_true rfl) rfl mv_X8_restore.2.2.2.1 (fun X hX => ?_)
  unfold f_X8_restore at h
  refine g_aload_n hX dX8_restore_0 rfl rfl ?_
  refine g_geti hX kd_true_0 fg_8_8 tf_8_8 w_359 dX8_restore_1 ?_
  refine g_if_ne (tgt := 13) hX dX8_restore_4 (by decide) (fun q1 => ?_) (fun q1 => ?_)
  · rw [if_neg q1] at h
    refine g_aload_n hX dX8_restore_13 rfl rfl ?_
    refine g_getr hX kd_true_0 fg_8_0 tf_8_0 w_351 sr_true_0_0 dX8_restore_14 ?_
    refine g_aload_n hX dX8_restore_17 rfl rfl ?_
    refine g_getr hX kd_true_0 fg_8_1 tf_8_1 w_352 sr_true_0_1 dX8_restore_18 ?_
    obtain ⟨μ2, hμ2, h⟩ := bd_some h
    refine g_callVv hX (c_X0_copyOf wk_8_0 wk_8_1 hμ2) mv_X0_copyOf wm_922 wk_8_0 rfl (by decide) (by decide) rfl rfl (Nat.le_of_ble_eq_true rfl) dX8_restore_21 ?_
    refine g_aload_n hX dX8_restore_24 rfl rfl ?_
    refine g_getr hX kd_true_0 fg_8_0 tf_8_0 w_351 sr_true_0_0 dX8_restore_25 ?_
    refine g_getr hX wk_8_0 fg_0_2 tf_0_2 w_236 (wo_0_2 wk_8_0) dX8_restore_28 ?_
    refine g_geti hX (wk_0_2 wk_8_0) fg_2_13 tf_2_13 w_181 dX8_restore_31 ?_
    obtain ⟨rfl, rfl⟩ := pair_inj h
    exact g_iret hX rfl rfl dX8_restore_34
  · rw [if_pos q1] at h
    refine g_aload_n hX dX8_restore_7 rfl rfl ?_
    refine g_iconst hX dX8_restore_8 k_2 ?_
    obtain ⟨r3, μ4, hr3, h⟩ := bd2_some h
    refine g_callVi hX (c_X8_fail  _ hr3) mv_X8_fail wm_386 kd_true_0 rfl (by decide) (by decide) rfl rfl (Nat.le_of_ble_eq_true rfl) dX8_restore_9 ?_
    obtain ⟨rfl, rfl⟩ := pair_inj h
    exact g_iret hX rfl rfl dX8_restore_12
set_option maxRecDepth 100000 in
set_option maxHeartbeats 4000000 in
theorem c_X8_roams {l : Launch} {D : DT} {μ : Mem} {r : Int32} {μ' : Mem} (v1 : Int32) (h : f_X8_roams v1 μ = some (r, μ')) : Ct l D true 3 yX8_roams cX8_roams 2 (some FieldType.int) [.ref (D.1 0), .int v1] μ (some (.int r)) μ' := by
  refine Ct.of (own := RX8) (lc0 := [some (.ref (D.1 0)), some (.int v1)]) pn_X8 rfl (Nat.le_of_ble_eq_true rfl) rfl mv_X8_roams.2.2.2.1 (fun X hX => ?_)
  unfold f_X8_roams at h
  refine g_iload_n hX dX8_roams_0 rfl rfl ?_
  refine g_callSi hX (c_X8_isField  v1) mv_X8_isField wm_473 (by decide) rfl rfl (Nat.le_of_ble_eq_true rfl) dX8_roams_1 ?_
  refine g_if_ne (tgt := 13) hX dX8_roams_4 (by decide) (fun q1 => ?_) (fun q1 => ?_)
  · rw [if_neg q1] at h
    refine g_aload_n hX dX8_roams_13 rfl rfl ?_
    refine g_getr hX kd_true_0 fg_8_0 tf_8_0 w_351 sr_true_0_0 dX8_roams_14 ?_
    refine g_getr hX wk_8_0 fg_0_2 tf_0_2 w_236 (wo_0_2 wk_8_0) dX8_roams_17 ?_
    refine g_iload_n hX dX8_roams_20 rfl rfl ?_
    refine g_aload_n hX dX8_roams_21 rfl rfl ?_
    refine g_getr hX kd_true_0 fg_8_0 tf_8_0 w_351 sr_true_0_0 dX8_roams_22 ?_
    refine g_getr hX wk_8_0 fg_0_2 tf_0_2 w_236 (wo_0_2 wk_8_0) dX8_roams_25 ?_
    obtain ⟨r2, hr2, h⟩ := bd_some h
    refine g_callVi hX (c_X2_openGates (wk_0_2 wk_8_0) hr2) mv_X2_openGates wm_719 (wk_0_2 wk_8_0) rfl (by decide) (by decide) rfl rfl (Nat.le_of_ble_eq_true rfl) dX8_roams_28 ?_
    obtain ⟨r3, hr3, h⟩ := bd_some h
    refine g_callVi hX (c_X2_reached (wk_0_2 wk_8_0) _ _ hr3) mv_X2_reached wm_812 (wk_0_2 wk_8_0) rfl (by decide) (by decide) rfl rfl (Nat.le_of_ble_eq_true rfl) dX8_roams_31 ?_
    obtain ⟨rfl, rfl⟩ := pair_inj h
    exact g_iret hX rfl rfl dX8_roams_34
  · rw [if_pos q1] at h
    refine g_aload_n hX dX8_roams_7 rfl rfl ?_
    refine g_iconst hX dX8_roams_8 k_1 ?_
    obtain ⟨r4, μ5, hr4, h⟩ := bd2_some h
    refine g_callVi hX (c_X8_fail  _ hr4) mv_X8_fail wm_386 kd_true_0 rfl (by decide) (by decide) rfl rfl (Nat.le_of_ble_eq_true rfl) dX8_roams_9 ?_
    obtain ⟨rfl, rfl⟩ := pair_inj h
    exact g_iret hX rfl rfl dX8_roams_12
set_option maxRecDepth 100000 in
set_option maxHeartbeats 4000000 in
theorem c_X8_seed {l : Launch} {D : DT} {μ : Mem} {r : Int32} {μ' : Mem} (v1 : Int32) (h : f_X8_seed v1 μ = some (r, μ')) : Ct l D true 1 yX8_seed cX8_seed 3 (some FieldType.int) [.ref (D.1 0), .int v1] μ (some (.int r)) μ' := by
  refine Ct.of (own := RX8) (lc0 := [some (.ref (D.1 0)), some (.int v1), none]) pn_X8 rfl (Nat.le_of_ble_eq_true rfl) rfl mv_X8_seed.2.2.2.1 (fun X hX => ?_)
  unfold f_X8_seed at h
  refine g_aload_n hX dX8_seed_0 rfl rfl ?_
  refine g_getr hX kd_true_0 fg_8_0 tf_8_0 w_351 sr_true_0_0 dX8_seed_1 ?_
  refine g_geti hX wk_8_0 fg_0_6 tf_0_6 w_244 dX8_seed_4 ?_
  refine g_istore_n (lc' := [some _, some _, some _]) hX dX8_seed_7 rfl (by decide) rfl rfl ?_
  refine g_aload_n hX dX8_seed_8 rfl rfl ?_
  refine g_getr hX kd_true_0 fg_8_0 tf_8_0 w_351 sr_true_0_0 dX8_seed_9 ?_
  refine g_iload_n hX dX8_seed_12 rfl rfl ?_
  obtain ⟨μ1, hμ1, h⟩ := wr_some h
  refine g_puti hX wk_8_0 fg_0_6 tf_0_6 tyX0_ok nmX0 rfl w_244 dX8_seed_13 hμ1 ?_
  refine g_iload_n hX dX8_seed_16 rfl rfl ?_
  obtain ⟨rfl, rfl⟩ := pair_inj h
  exact g_iret hX rfl rfl dX8_seed_17
set_option maxRecDepth 100000 in
set_option maxHeartbeats 4000000 in
theorem t_X8_sheet_14 {l : Launch} {D : DT} {X : XT} {r : Int32} {μ' : Mem} (hX : Cx l D true X 2 RX8 cX8_sheet 4 (some FieldType.int)) : ∀ (μ : Mem), f_X8_sheet_14 μ = some (r, μ') → G l D true X 4 (some (.int r)) μ' 14 [some (.ref (D.1 0)), none, none, none] [] μ := by
  intro μ h
  unfold f_X8_sheet_14 at h
  refine g_aload_n hX dX8_sheet_14 rfl rfl ?_
  refine g_iconst hX dX8_sheet_15 k_1 ?_
  obtain ⟨r1, μ2, hr1, h⟩ := bd2_some h
  refine g_callVi hX (c_X8_fail  _ hr1) mv_X8_fail wm_386 kd_true_0 rfl (by decide) (by decide) rfl rfl (Nat.le_of_ble_eq_true rfl) dX8_sheet_16 ?_
  obtain ⟨rfl, rfl⟩ := pair_inj h
  exact g_iret hX rfl rfl dX8_sheet_19
set_option maxRecDepth 100000 in
set_option maxHeartbeats 4000000 in
theorem c_X8_sheet {l : Launch} {D : DT} {μ : Mem} {r : Int32} {μ' : Mem} (v1 : Int32) (v2 : Int32) (v3 : Int32) (h : f_X8_sheet v1 v2 v3 μ = some (r, μ')) : Ct l D true 2 yX8_sheet cX8_sheet 4 (some FieldType.int) [.ref (D.1 0), .int v1, .int v2, .int v3] μ (some (.int r)) μ' := by
  refine Ct.of (own := RX8) (lc0 := [some (.ref (D.1 0)), some (.int v1), some (.int v2), some (.int v3)]) pn_X8 rfl (Nat.le_of_ble_eq_true rfl) rfl mv_X8_sheet.2.2.2.1 (fun X hX => ?_)
  unfold f_X8_sheet at h
  refine g_iload_n hX dX8_sheet_0 rfl rfl ?_
  refine g_callSi hX (c_X8_isSheet  v1) mv_X8_isSheet wm_829 (by decide) rfl rfl (Nat.le_of_ble_eq_true rfl) dX8_sheet_1 ?_
  refine g_if_eq (tgt := 14) hX dX8_sheet_4 (by decide) (fun q1 => ?_) (fun q1 => ?_)
  · rw [if_pos q1] at h
    exact g_weak (lc' := [some _, none, none, none]) ⟨rfl, trivial⟩ (t_X8_sheet_14 hX _ h)
  · rw [if_neg q1] at h
    refine g_iload_n hX dX8_sheet_7 rfl rfl ?_
    refine g_callSi hX (c_X8_isWidth  v2) mv_X8_isWidth wm_876 (by decide) rfl rfl (Nat.le_of_ble_eq_true rfl) dX8_sheet_8 ?_
    refine g_if_ne (tgt := 20) hX dX8_sheet_11 (by decide) (fun q2 => ?_) (fun q2 => ?_)
    · rw [if_neg q2] at h
      refine g_iload_n hX dX8_sheet_20 rfl rfl ?_
      refine g_if_ne (tgt := 37) hX dX8_sheet_21 (by decide) (fun q3 => ?_) (fun q3 => ?_)
      · rw [if_neg q3] at h
        refine g_iload_n hX dX8_sheet_37 rfl rfl ?_
        refine g_if_ge (tgt := 47) hX dX8_sheet_38 (by decide) (fun q4 => ?_) (fun q4 => ?_)
        · rw [if_pos q4] at h
          refine g_iload_n hX dX8_sheet_47 rfl rfl ?_
          refine g_bipush hX dX8_sheet_48 kb_24 ?_
          refine g_icmp_le (tgt := 59) hX dX8_sheet_50 (by decide) (fun q5 => ?_) (fun q5 => ?_)
          · rw [if_pos q5] at h
            refine g_aload_n hX dX8_sheet_59 rfl rfl ?_
            refine g_getr hX kd_true_0 fg_8_6 tf_8_6 w_357 sr_true_0_6 dX8_sheet_60 ?_
            refine g_iload_n hX dX8_sheet_63 rfl rfl ?_
            obtain ⟨z6, h⟩ := ck_some h
            refine g_sheet hX z6 dX8_sheet_64 ?_
            refine g_iload_n hX dX8_sheet_65 rfl rfl ?_
            refine g_iload_n hX dX8_sheet_66 rfl rfl ?_
            obtain ⟨μ7, hμ7, h⟩ := bd_some h
            refine g_callVv hX (c_X5_begin (sheet_kd z6) _ _ hμ7) mv_X5_begin wm_879 (sheet_kd z6) rfl (by decide) (by decide) rfl rfl (Nat.le_of_ble_eq_true rfl) dX8_sheet_67 ?_
            refine g_iconst hX dX8_sheet_70 k_1 ?_
            obtain ⟨rfl, rfl⟩ := pair_inj h
            exact g_iret hX rfl rfl dX8_sheet_71
          · rw [if_neg q5] at h
            refine g_aload_n hX dX8_sheet_53 rfl rfl ?_
            refine g_iconst hX dX8_sheet_54 k_1 ?_
            obtain ⟨r8, μ9, hr8, h⟩ := bd2_some h
            refine g_callVi hX (c_X8_fail  _ hr8) mv_X8_fail wm_386 kd_true_0 rfl (by decide) (by decide) rfl rfl (Nat.le_of_ble_eq_true rfl) dX8_sheet_55 ?_
            obtain ⟨rfl, rfl⟩ := pair_inj h
            exact g_iret hX rfl rfl dX8_sheet_58
        · rw [if_neg q4] at h
          refine g_aload_n hX dX8_sheet_41 rfl rfl ?_
          refine g_iconst hX dX8_sheet_42 k_3 ?_
          obtain ⟨r10, μ11, hr10, h⟩ := bd2_some h
          refine g_callVi hX (c_X8_fail  _ hr10) mv_X8_fail wm_386 kd_true_0 rfl (by decide) (by decide) rfl rfl (Nat.le_of_ble_eq_true rfl) dX8_sheet_43 ?_
          obtain ⟨rfl, rfl⟩ := pair_inj h
          exact g_iret hX rfl rfl dX8_sheet_46
      · rw [if_pos q3] at h
        refine g_aload_n hX dX8_sheet_24 rfl rfl ?_
        refine g_getr hX kd_true_0 fg_8_6 tf_8_6 w_357 sr_true_0_6 dX8_sheet_25 ?_
        refine g_iload_n hX dX8_sheet_28 rfl rfl ?_
        obtain ⟨z12, h⟩ := ck_some h
        refine g_sheet hX z12 dX8_sheet_29 ?_
        refine g_iconst hX dX8_sheet_30 k_0 ?_
        refine g_iconst hX dX8_sheet_31 k_0 ?_
        obtain ⟨μ13, hμ13, h⟩ := bd_some h
        refine g_callVv hX (c_X5_begin (sheet_kd z12) _ _ hμ13) mv_X5_begin wm_879 (sheet_kd z12) rfl (by decide) (by decide) rfl rfl (Nat.le_of_ble_eq_true rfl) dX8_sheet_32 ?_
        refine g_iconst hX dX8_sheet_35 k_1 ?_
        obtain ⟨rfl, rfl⟩ := pair_inj h
        exact g_iret hX rfl rfl dX8_sheet_36
    · rw [if_pos q2] at h
      exact g_weak (lc' := [some _, none, none, none]) ⟨rfl, trivial⟩ (t_X8_sheet_14 hX _ h)
set_option maxRecDepth 100000 in
set_option maxHeartbeats 4000000 in
theorem c_X8_stock {l : Launch} {D : DT} {μ : Mem} {r : Int32} {μ' : Mem} (v1 : Int32) (h : f_X8_stock v1 μ = some (r, μ')) : Ct l D true 2 yX8_stock cX8_stock 2 (some FieldType.int) [.ref (D.1 0), .int v1] μ (some (.int r)) μ' := by
  refine Ct.of (own := RX8) (lc0 := [some (.ref (D.1 0)), some (.int v1)]) pn_X8 rfl (Nat.le_of_ble_eq_true rfl) rfl mv_X8_stock.2.2.2.1 (fun X hX => ?_)
  unfold f_X8_stock at h
  refine g_iload_n hX dX8_stock_0 rfl rfl ?_
  refine g_callSi hX (c_X8_isField  v1) mv_X8_isField wm_473 (by decide) rfl rfl (Nat.le_of_ble_eq_true rfl) dX8_stock_1 ?_
  refine g_if_ne (tgt := 13) hX dX8_stock_4 (by decide) (fun q1 => ?_) (fun q1 => ?_)
  · rw [if_neg q1] at h
    refine g_aload_n hX dX8_stock_13 rfl rfl ?_
    refine g_getr hX kd_true_0 fg_8_0 tf_8_0 w_351 sr_true_0_0 dX8_stock_14 ?_
    refine g_getr hX wk_8_0 fg_0_2 tf_0_2 w_236 (wo_0_2 wk_8_0) dX8_stock_17 ?_
    refine g_geti hX (wk_0_2 wk_8_0) fg_2_12 tf_2_12 w_179 dX8_stock_20 ?_
    refine g_bipush hX dX8_stock_23 kb_6 ?_
    refine g_icmp_lt (tgt := 34) hX dX8_stock_25 (by decide) (fun q2 => ?_) (fun q2 => ?_)
    · rw [if_pos q2] at h
      refine g_aload_n hX dX8_stock_34 rfl rfl ?_
      refine g_getr hX kd_true_0 fg_8_0 tf_8_0 w_351 sr_true_0_0 dX8_stock_35 ?_
      refine g_getr hX wk_8_0 fg_0_2 tf_0_2 w_236 (wo_0_2 wk_8_0) dX8_stock_38 ?_
      refine g_iload_n hX dX8_stock_41 rfl rfl ?_
      obtain ⟨r3, μ4, hr3, h⟩ := bd2_some h
      refine g_callVi hX (c_X2_addBeast (wk_0_2 wk_8_0) _ hr3) mv_X2_addBeast wm_505 (wk_0_2 wk_8_0) rfl (by decide) (by decide) rfl rfl (Nat.le_of_ble_eq_true rfl) dX8_stock_42 ?_
      obtain ⟨rfl, rfl⟩ := pair_inj h
      exact g_iret hX rfl rfl dX8_stock_45
    · rw [if_neg q2] at h
      refine g_aload_n hX dX8_stock_28 rfl rfl ?_
      refine g_iconst hX dX8_stock_29 k_4 ?_
      obtain ⟨r5, μ6, hr5, h⟩ := bd2_some h
      refine g_callVi hX (c_X8_fail  _ hr5) mv_X8_fail wm_386 kd_true_0 rfl (by decide) (by decide) rfl rfl (Nat.le_of_ble_eq_true rfl) dX8_stock_30 ?_
      obtain ⟨rfl, rfl⟩ := pair_inj h
      exact g_iret hX rfl rfl dX8_stock_33
  · rw [if_pos q1] at h
    refine g_aload_n hX dX8_stock_7 rfl rfl ?_
    refine g_iconst hX dX8_stock_8 k_1 ?_
    obtain ⟨r7, μ8, hr7, h⟩ := bd2_some h
    refine g_callVi hX (c_X8_fail  _ hr7) mv_X8_fail wm_386 kd_true_0 rfl (by decide) (by decide) rfl rfl (Nat.le_of_ble_eq_true rfl) dX8_stock_9 ?_
    obtain ⟨rfl, rfl⟩ := pair_inj h
    exact g_iret hX rfl rfl dX8_stock_12
set_option maxRecDepth 100000 in
set_option maxHeartbeats 4000000 in
theorem t_X8_stockAt_18 {l : Launch} {D : DT} {X : XT} {r : Int32} {μ' : Mem} (hX : Cx l D true X 2 RX8 cX8_stockAt 2 (some FieldType.int)) : ∀ (μ : Mem), f_X8_stockAt_18 μ = some (r, μ') → G l D true X 2 (some (.int r)) μ' 18 [some (.ref (D.1 0)), none] [] μ := by
  intro μ h
  unfold f_X8_stockAt_18 at h
  refine g_aload_n hX dX8_stockAt_18 rfl rfl ?_
  refine g_iconst hX dX8_stockAt_19 k_1 ?_
  obtain ⟨r1, μ2, hr1, h⟩ := bd2_some h
  refine g_callVi hX (c_X8_fail  _ hr1) mv_X8_fail wm_386 kd_true_0 rfl (by decide) (by decide) rfl rfl (Nat.le_of_ble_eq_true rfl) dX8_stockAt_20 ?_
  obtain ⟨rfl, rfl⟩ := pair_inj h
  exact g_iret hX rfl rfl dX8_stockAt_23
set_option maxRecDepth 100000 in
set_option maxHeartbeats 4000000 in
theorem c_X8_stockAt {l : Launch} {D : DT} {μ : Mem} {r : Int32} {μ' : Mem} (v1 : Int32) (h : f_X8_stockAt v1 μ = some (r, μ')) : Ct l D true 2 yX8_stockAt cX8_stockAt 2 (some FieldType.int) [.ref (D.1 0), .int v1] μ (some (.int r)) μ' := by
  refine Ct.of (own := RX8) (lc0 := [some (.ref (D.1 0)), some (.int v1)]) pn_X8 rfl (Nat.le_of_ble_eq_true rfl) rfl mv_X8_stockAt.2.2.2.1 (fun X hX => ?_)
  unfold f_X8_stockAt at h
  refine g_iload_n hX dX8_stockAt_0 rfl rfl ?_
  refine g_if_lt (tgt := 18) hX dX8_stockAt_1 (by decide) (fun q1 => ?_) (fun q1 => ?_)
  · rw [if_pos q1] at h
    exact g_weak (lc' := [some _, none]) ⟨rfl, trivial⟩ (t_X8_stockAt_18 hX _ h)
  · rw [if_neg q1] at h
    refine g_iload_n hX dX8_stockAt_4 rfl rfl ?_
    refine g_aload_n hX dX8_stockAt_5 rfl rfl ?_
    refine g_getr hX kd_true_0 fg_8_0 tf_8_0 w_351 sr_true_0_0 dX8_stockAt_6 ?_
    refine g_getr hX wk_8_0 fg_0_2 tf_0_2 w_236 (wo_0_2 wk_8_0) dX8_stockAt_9 ?_
    refine g_geti hX (wk_0_2 wk_8_0) fg_2_12 tf_2_12 w_179 dX8_stockAt_12 ?_
    refine g_icmp_lt (tgt := 24) hX dX8_stockAt_15 (by decide) (fun q2 => ?_) (fun q2 => ?_)
    · rw [if_pos q2] at h
      refine g_aload_n hX dX8_stockAt_24 rfl rfl ?_
      refine g_getr hX kd_true_0 fg_8_0 tf_8_0 w_351 sr_true_0_0 dX8_stockAt_25 ?_
      refine g_getr hX wk_8_0 fg_0_2 tf_0_2 w_236 (wo_0_2 wk_8_0) dX8_stockAt_28 ?_
      refine g_getr hX (wk_0_2 wk_8_0) fg_2_8 tf_2_8 w_166 (wo_2_8 (wk_0_2 wk_8_0)) dX8_stockAt_31 ?_
      refine g_iload_n hX dX8_stockAt_34 rfl rfl ?_
      obtain ⟨z3, h⟩ := ck_some h
      refine g_iald hX (wk_2_8 (wk_0_2 wk_8_0)).1 (wk_2_8 (wk_0_2 wk_8_0)).2 z3 dX8_stockAt_35 ?_
      obtain ⟨rfl, rfl⟩ := pair_inj h
      exact g_iret hX rfl rfl dX8_stockAt_36
    · rw [if_neg q2] at h
      exact g_weak (lc' := [some _, none]) ⟨rfl, trivial⟩ (t_X8_stockAt_18 hX _ h)
set_option maxRecDepth 100000 in
set_option maxHeartbeats 4000000 in
theorem c_X8_tell {l : Launch} {D : DT} {μ : Mem} {r : Int32} {μ' : Mem} (v1 : Int32) (h : f_X8_tell v1 μ = some (r, μ')) : Ct l D true 2 yX8_tell cX8_tell 2 (some FieldType.int) [.ref (D.1 0), .int v1] μ (some (.int r)) μ' := by
  refine Ct.of (own := RX8) (lc0 := [some (.ref (D.1 0)), some (.int v1)]) pn_X8 rfl (Nat.le_of_ble_eq_true rfl) rfl mv_X8_tell.2.2.2.1 (fun X hX => ?_)
  unfold f_X8_tell at h
  refine g_aload_n hX dX8_tell_0 rfl rfl ?_
  refine g_getr hX kd_true_0 fg_8_0 tf_8_0 w_351 sr_true_0_0 dX8_tell_1 ?_
  refine g_geti hX wk_8_0 fg_0_5 tf_0_5 w_242 dX8_tell_4 ?_
  refine g_bipush hX dX8_tell_7 kb_24 ?_
  refine g_icmp_lt (tgt := 18) hX dX8_tell_9 (by decide) (fun q1 => ?_) (fun q1 => ?_)
  · rw [if_pos q1] at h
    refine g_aload_n hX dX8_tell_18 rfl rfl ?_
    refine g_getr hX kd_true_0 fg_8_0 tf_8_0 w_351 sr_true_0_0 dX8_tell_19 ?_
    refine g_getr hX wk_8_0 fg_0_4 tf_0_4 w_240 (wo_0_4 wk_8_0) dX8_tell_22 ?_
    refine g_aload_n hX dX8_tell_25 rfl rfl ?_
    refine g_getr hX kd_true_0 fg_8_0 tf_8_0 w_351 sr_true_0_0 dX8_tell_26 ?_
    refine g_geti hX wk_8_0 fg_0_5 tf_0_5 w_242 dX8_tell_29 ?_
    refine g_iload_n hX dX8_tell_32 rfl rfl ?_
    obtain ⟨z3, h⟩ := ck_some h
    obtain ⟨μ2, hμ2, h⟩ := wr_some h
    refine g_iastM hX (wk_0_4 wk_8_0).1 (wk_0_4 wk_8_0).2 z3 dX8_tell_33 hμ2 ?_
    refine g_aload_n hX dX8_tell_34 rfl rfl ?_
    refine g_getr hX kd_true_0 fg_8_0 tf_8_0 w_351 sr_true_0_0 dX8_tell_35 ?_
    refine g_dup hX dX8_tell_38 rfl ?_
    refine g_geti hX wk_8_0 fg_0_5 tf_0_5 w_242 dX8_tell_39 ?_
    refine g_iconst hX dX8_tell_42 k_1 ?_
    refine g_iadd hX dX8_tell_43 ?_
    obtain ⟨μ4, hμ4, h⟩ := wr_some h
    refine g_puti hX wk_8_0 fg_0_5 tf_0_5 tyX0_ok nmX0 rfl w_242 dX8_tell_44 hμ4 ?_
    refine g_aload_n hX dX8_tell_47 rfl rfl ?_
    refine g_getr hX kd_true_0 fg_8_0 tf_8_0 w_351 sr_true_0_0 dX8_tell_48 ?_
    refine g_geti hX wk_8_0 fg_0_5 tf_0_5 w_242 dX8_tell_51 ?_
    obtain ⟨rfl, rfl⟩ := pair_inj h
    exact g_iret hX rfl rfl dX8_tell_54
  · rw [if_neg q1] at h
    refine g_aload_n hX dX8_tell_12 rfl rfl ?_
    refine g_iconst hX dX8_tell_13 k_4 ?_
    obtain ⟨r5, μ6, hr5, h⟩ := bd2_some h
    refine g_callVi hX (c_X8_fail  _ hr5) mv_X8_fail wm_386 kd_true_0 rfl (by decide) (by decide) rfl rfl (Nat.le_of_ble_eq_true rfl) dX8_tell_14 ?_
    obtain ⟨rfl, rfl⟩ := pair_inj h
    exact g_iret hX rfl rfl dX8_tell_17
set_option maxRecDepth 100000 in
set_option maxHeartbeats 4000000 in
theorem c_X8_text {l : Launch} {D : DT} {μ : Mem} {r : Int32} {μ' : Mem} (v1 : Int32) (h : f_X8_text v1 μ = some (r, μ')) : Ct l D true 132 yX8_text cX8_text 3 (some FieldType.int) [.ref (D.1 0), .int v1] μ (some (.int r)) μ' := by
  refine Ct.of (own := RX8) (lc0 := [some (.ref (D.1 0)), some (.int v1), none]) pn_X8 rfl (Nat.le_of_ble_eq_true rfl) rfl mv_X8_text.2.2.2.1 (fun X hX => ?_)
  unfold f_X8_text at h
  refine g_iload_n hX dX8_text_0 rfl rfl ?_
  refine g_callSi hX (c_X8_isUse  v1) mv_X8_isUse wm_529 (by decide) rfl rfl (Nat.le_of_ble_eq_true rfl) dX8_text_1 ?_
  refine g_if_ne (tgt := 13) hX dX8_text_4 (by decide) (fun q1 => ?_) (fun q1 => ?_)
  · rw [if_neg q1] at h
    refine g_aload_n hX dX8_text_13 rfl rfl ?_
    refine g_getr hX kd_true_0 fg_8_3 tf_8_3 w_354 sr_true_0_3 dX8_text_14 ?_
    refine g_aload_n hX dX8_text_17 rfl rfl ?_
    refine g_getr hX kd_true_0 fg_8_0 tf_8_0 w_351 sr_true_0_0 dX8_text_18 ?_
    refine g_getr hX wk_8_0 fg_0_3 tf_0_3 w_238 (wo_0_3 wk_8_0) dX8_text_21 ?_
    refine g_aload_n hX dX8_text_24 rfl rfl ?_
    refine g_getr hX kd_true_0 fg_8_0 tf_8_0 w_351 sr_true_0_0 dX8_text_25 ?_
    refine g_iload_n hX dX8_text_28 rfl rfl ?_
    refine g_callVr hX (c_X0_lawOf wk_8_0 v1) mv_X0_lawOf wm_532 wk_8_0 rfl (by decide) (by decide) rfl rfl (Nat.le_of_ble_eq_true rfl) dX8_text_29 ?_
    obtain ⟨r2, μ3, hr2, h⟩ := bd2_some h
    refine g_callVi hX (c_X4_readInto (wk_0_3 wk_8_0) (ck_X0_lawOf wk_8_0) hr2) mv_X4_readInto wm_536 wk_8_3 rfl (by decide) (by decide) rfl rfl (Nat.le_of_ble_eq_true rfl) dX8_text_32 ?_
    refine g_istore_n (lc' := [some _, some _, some _]) hX dX8_text_35 rfl (by decide) rfl rfl ?_
    refine g_aload_n hX dX8_text_36 rfl rfl ?_
    refine g_getr hX kd_true_0 fg_8_0 tf_8_0 w_351 sr_true_0_0 dX8_text_37 ?_
    refine g_getr hX wk_8_0 fg_0_3 tf_0_3 w_238 (wo_0_3 wk_8_0) dX8_text_40 ?_
    refine g_iconst hX dX8_text_43 k_0 ?_
    obtain ⟨μ4, hμ4, h⟩ := wr_some h
    refine g_puti hX (wk_0_3 wk_8_0) fg_7_1 tf_7_1 tyX7_ok nmX7 rfl w_225 dX8_text_44 hμ4 ?_
    refine g_iload_n hX dX8_text_47 rfl rfl ?_
    refine g_if_ge (tgt := 55) hX dX8_text_48 (by decide) (fun q5 => ?_) (fun q5 => ?_)
    · rw [if_pos q5] at h
      refine g_bipush hX dX8_text_55 kb_m10 ?_
      refine g_iload_n hX dX8_text_57 rfl rfl ?_
      refine g_isub hX dX8_text_58 ?_
      obtain ⟨rfl, rfl⟩ := pair_inj h
      exact g_iret hX rfl rfl dX8_text_59
    · rw [if_neg q5] at h
      refine g_iconst hX dX8_text_51 k_1 ?_
      refine g_goto (tgt := 59) hX dX8_text_52 (by decide) ?_
      obtain ⟨rfl, rfl⟩ := pair_inj h
      exact g_iret hX rfl rfl dX8_text_59
  · rw [if_pos q1] at h
    refine g_aload_n hX dX8_text_7 rfl rfl ?_
    refine g_iconst hX dX8_text_8 k_1 ?_
    obtain ⟨r6, μ7, hr6, h⟩ := bd2_some h
    refine g_callVi hX (c_X8_fail  _ hr6) mv_X8_fail wm_386 kd_true_0 rfl (by decide) (by decide) rfl rfl (Nat.le_of_ble_eq_true rfl) dX8_text_9 ?_
    obtain ⟨rfl, rfl⟩ := pair_inj h
    exact g_iret hX rfl rfl dX8_text_12
