set_option maxRecDepth 100000 in
set_option maxHeartbeats 4000000 in
theorem t_X9_notMoved_102 {l : Launch} {D : DT} {X : XT} {μ : Mem} {r : Int32} (hX : Cx l D false X 3 RX9 cX9_notMoved 7 (some FieldType.int)) : ∀ (s0 : Int32), f_X9_notMoved_102 μ s0 = some r → G l D false X 7 (some (.int r)) μ 102 [none, none, none, none, none, none, none] [.int s0] μ := by
  intro s0 h
  unfold f_X9_notMoved_102 at h
  refine g_istore (lc' := [none, none, none, none, none, none, some _]) hX dX9_notMoved_102 (by decide) rfl rfl ?_
  refine g_iload hX dX9_notMoved_104 rfl ?_
  refine g_if_eq (tgt := 113) hX dX9_notMoved_106 (by decide) (fun q1 => ?_) (fun q1 => ?_)
  · rw [if_pos q1] at h
    refine g_ldc hX dX9_notMoved_113 wc_1050 ?_
    obtain rfl := Option.some.inj h
    exact g_iret hX rfl rfl dX9_notMoved_115
  · rw [if_neg q1] at h
    refine g_iconst hX dX9_notMoved_109 k_0 ?_
    refine g_goto (tgt := 115) hX dX9_notMoved_110 (by decide) ?_
    obtain rfl := Option.some.inj h
    exact g_iret hX rfl rfl dX9_notMoved_115
set_option maxRecDepth 100000 in
set_option maxHeartbeats 4000000 in
theorem t_X9_notMoved_101 {l : Launch} {D : DT} {X : XT} {μ : Mem} {r : Int32} (hX : Cx l D false X 3 RX9 cX9_notMoved 7 (some FieldType.int)) : f_X9_notMoved_101 μ = some r → G l D false X 7 (some (.int r)) μ 101 [none, none, none, none, none, none, none] [] μ := by
  intro  h
  unfold f_X9_notMoved_101 at h
  refine g_iconst hX dX9_notMoved_101 k_0 ?_
  exact g_weak (lc' := [none, none, none, none, none, none, none]) trivial (t_X9_notMoved_102 hX _ h)
set_option maxRecDepth 100000 in
set_option maxHeartbeats 4000000 in
theorem c_X9_notMoved {l : Launch} {D : DT} {μ : Mem} {r : Int32} (v1 : Int32) (v2 : Int32) (v3 : Int32) (v4 : Int32) (v5 : Int32) (h : f_X9_notMoved v1 v2 v3 v4 v5 μ = some r) : Ct l D false 3 yX9_notMoved cX9_notMoved 7 (some FieldType.int) [.ref (D.1 0), .int v1, .int v2, .int v3, .int v4, .int v5] μ (some (.int r)) μ := by
  refine Ct.of (own := RX9) (lc0 := [some (.ref (D.1 0)), some (.int v1), some (.int v2), some (.int v3), some (.int v4), some (.int v5), none]) pn_X9 rfl (Nat.le_of_ble_eq_true rfl) rfl mv_X9_notMoved.2.2.2.1 (fun X hX => ?_)
  unfold f_X9_notMoved at h
  refine g_iload_n hX dX9_notMoved_0 rfl rfl ?_
  refine g_callSi hX (c_X9_isSheet  v1) mv_X9_isSheet wm_1348 (by decide) rfl rfl (Nat.le_of_ble_eq_true rfl) dX9_notMoved_1 ?_
  refine g_if_eq (tgt := 14) hX dX9_notMoved_4 (by decide) (fun q1 => ?_) (fun q1 => ?_)
  · rw [if_pos q1] at h
    refine g_ldc hX dX9_notMoved_14 wc_1050 ?_
    obtain rfl := Option.some.inj h
    exact g_iret hX rfl rfl dX9_notMoved_16
  · rw [if_neg q1] at h
    refine g_iload_n hX dX9_notMoved_7 rfl rfl ?_
    refine g_callSi hX (c_X9_isSheet  v3) mv_X9_isSheet wm_1348 (by decide) rfl rfl (Nat.le_of_ble_eq_true rfl) dX9_notMoved_8 ?_
    refine g_if_ne (tgt := 17) hX dX9_notMoved_11 (by decide) (fun q2 => ?_) (fun q2 => ?_)
    · rw [if_neg q2] at h
      refine g_aload_n hX dX9_notMoved_17 rfl rfl ?_
      refine g_getr hX kd_false_0 fg_9_5 tf_9_5 w_975 sr_false_0_5 dX9_notMoved_18 ?_
      refine g_iload_n hX dX9_notMoved_21 rfl rfl ?_
      obtain ⟨z3, h⟩ := ck_some h
      refine g_iald hX wk_9_5.1 wk_9_5.2 z3 dX9_notMoved_22 ?_
      refine g_if_eq (tgt := 35) hX dX9_notMoved_23 (by decide) (fun q4 => ?_) (fun q4 => ?_)
      · rw [if_pos q4] at h
        refine g_ldc hX dX9_notMoved_35 wc_1296 ?_
        obtain rfl := Option.some.inj h
        exact g_iret hX rfl rfl dX9_notMoved_37
      · rw [if_neg q4] at h
        refine g_aload_n hX dX9_notMoved_26 rfl rfl ?_
        refine g_getr hX kd_false_0 fg_9_5 tf_9_5 w_975 sr_false_0_5 dX9_notMoved_27 ?_
        refine g_iload_n hX dX9_notMoved_30 rfl rfl ?_
        obtain ⟨z5, h⟩ := ck_some h
        refine g_iald hX wk_9_5.1 wk_9_5.2 z5 dX9_notMoved_31 ?_
        refine g_if_ne (tgt := 38) hX dX9_notMoved_32 (by decide) (fun q6 => ?_) (fun q6 => ?_)
        · rw [if_neg q6] at h
          refine g_aload_n hX dX9_notMoved_38 rfl rfl ?_
          refine g_getr hX kd_false_0 fg_9_5 tf_9_5 w_975 sr_false_0_5 dX9_notMoved_39 ?_
          refine g_iload_n hX dX9_notMoved_42 rfl rfl ?_
          obtain ⟨z7, h⟩ := ck_some h
          refine g_iald hX wk_9_5.1 wk_9_5.2 z7 dX9_notMoved_43 ?_
          refine g_aload_n hX dX9_notMoved_44 rfl rfl ?_
          refine g_getr hX kd_false_0 fg_9_5 tf_9_5 w_975 sr_false_0_5 dX9_notMoved_45 ?_
          refine g_iload_n hX dX9_notMoved_48 rfl rfl ?_
          obtain ⟨z8, h⟩ := ck_some h
          refine g_iald hX wk_9_5.1 wk_9_5.2 z8 dX9_notMoved_49 ?_
          refine g_icmp_eq (tgt := 56) hX dX9_notMoved_50 (by decide) (fun q9 => ?_) (fun q9 => ?_)
          · rw [if_pos q9] at h
            refine g_iload hX dX9_notMoved_56 rfl ?_
            refine g_if_lt (tgt := 101) hX dX9_notMoved_58 (by decide) (fun q10 => ?_) (fun q10 => ?_)
            · rw [if_pos q10] at h
              exact g_weak (lc' := [none, none, none, none, none, none, none]) trivial (t_X9_notMoved_101 hX h)
            · rw [if_neg q10] at h
              refine g_iload_n hX dX9_notMoved_61 rfl rfl ?_
              refine g_if_lt (tgt := 101) hX dX9_notMoved_62 (by decide) (fun q11 => ?_) (fun q11 => ?_)
              · rw [if_pos q11] at h
                exact g_weak (lc' := [none, none, none, none, none, none, none]) trivial (t_X9_notMoved_101 hX h)
              · rw [if_neg q11] at h
                refine g_iload hX dX9_notMoved_65 rfl ?_
                refine g_if_lt (tgt := 101) hX dX9_notMoved_67 (by decide) (fun q12 => ?_) (fun q12 => ?_)
                · rw [if_pos q12] at h
                  exact g_weak (lc' := [none, none, none, none, none, none, none]) trivial (t_X9_notMoved_101 hX h)
                · rw [if_neg q12] at h
                  refine g_iload hX dX9_notMoved_70 rfl ?_
                  refine g_aload_n hX dX9_notMoved_72 rfl rfl ?_
                  refine g_getr hX kd_false_0 fg_9_6 tf_9_6 w_976 sr_false_0_6 dX9_notMoved_73 ?_
                  refine g_iload_n hX dX9_notMoved_76 rfl rfl ?_
                  obtain ⟨z13, h⟩ := ck_some h
                  refine g_iald hX wk_9_6.1 wk_9_6.2 z13 dX9_notMoved_77 ?_
                  refine g_iload_n hX dX9_notMoved_78 rfl rfl ?_
                  refine g_isub hX dX9_notMoved_79 ?_
                  refine g_icmp_gt (tgt := 101) hX dX9_notMoved_80 (by decide) (fun q14 => ?_) (fun q14 => ?_)
                  · rw [if_pos q14] at h
                    exact g_weak (lc' := [none, none, none, none, none, none, none]) trivial (t_X9_notMoved_101 hX h)
                  · rw [if_neg q14] at h
                    refine g_iload hX dX9_notMoved_83 rfl ?_
                    refine g_aload_n hX dX9_notMoved_85 rfl rfl ?_
                    refine g_getr hX kd_false_0 fg_9_6 tf_9_6 w_976 sr_false_0_6 dX9_notMoved_86 ?_
                    refine g_iload_n hX dX9_notMoved_89 rfl rfl ?_
                    obtain ⟨z15, h⟩ := ck_some h
                    refine g_iald hX wk_9_6.1 wk_9_6.2 z15 dX9_notMoved_90 ?_
                    refine g_iload hX dX9_notMoved_91 rfl ?_
                    refine g_isub hX dX9_notMoved_93 ?_
                    refine g_icmp_gt (tgt := 101) hX dX9_notMoved_94 (by decide) (fun q16 => ?_) (fun q16 => ?_)
                    · rw [if_pos q16] at h
                      exact g_weak (lc' := [none, none, none, none, none, none, none]) trivial (t_X9_notMoved_101 hX h)
                    · rw [if_neg q16] at h
                      refine g_iconst hX dX9_notMoved_97 k_1 ?_
                      refine g_goto (tgt := 102) hX dX9_notMoved_98 (by decide) ?_
                      exact g_weak (lc' := [none, none, none, none, none, none, none]) trivial (t_X9_notMoved_102 hX _ h)
          · rw [if_neg q9] at h
            refine g_ldc hX dX9_notMoved_53 wc_1123 ?_
            obtain rfl := Option.some.inj h
            exact g_iret hX rfl rfl dX9_notMoved_55
        · rw [if_pos q6] at h
          refine g_ldc hX dX9_notMoved_35 wc_1296 ?_
          obtain rfl := Option.some.inj h
          exact g_iret hX rfl rfl dX9_notMoved_37
    · rw [if_pos q2] at h
      refine g_ldc hX dX9_notMoved_14 wc_1050 ?_
      obtain rfl := Option.some.inj h
      exact g_iret hX rfl rfl dX9_notMoved_16
set_option maxRecDepth 100000 in
set_option maxHeartbeats 4000000 in
theorem t_X9_move_53 {l : Launch} {D : DT} {X : XT} {k28 : Int32 → Int32 → Int32 → Int32 → Int32 → Int32 → Mem → Option (Int32 × Mem)} {r : Int32} {μ' : Mem} (hX : Cx l D false X 4 RX9 cX9_move 9 (some FieldType.int)) (hk28 : ∀ (v1 : Int32) (v2 : Int32) (v3 : Int32) (v4 : Int32) (v5 : Int32) (v7 : Int32) (μ : Mem), k28 v1 v2 v3 v4 v5 v7 μ = some (r, μ') → G l D false X 9 (some (.int r)) μ' 28 [some (.ref (D.1 0)), some (.int v1), some (.int v2), some (.int v3), some (.int v4), some (.int v5), none, some (.int v7), none] [] μ) : ∀ (v1 : Int32) (v2 : Int32) (v3 : Int32) (v4 : Int32) (v5 : Int32) (v7 : Int32) (s0 : Int32) (μ : Mem), f_X9_move_53 k28 v1 v2 v3 v4 v5 v7 s0 μ = some (r, μ') → G l D false X 9 (some (.int r)) μ' 53 [some (.ref (D.1 0)), some (.int v1), some (.int v2), some (.int v3), some (.int v4), some (.int v5), none, some (.int v7), none] [.int s0] μ := by
  intro v1 v2 v3 v4 v5 v7 s0 μ h
  unfold f_X9_move_53 at h
  refine g_istore (lc' := [some _, some _, some _, some _, some _, some _, none, some _, some _]) hX dX9_move_53 (by decide) rfl rfl ?_
  refine g_aload_n hX dX9_move_55 rfl rfl ?_
  refine g_getr hX kd_false_0 fg_9_7 tf_9_7 w_977 sr_false_0_7 dX9_move_56 ?_
  refine g_bipush hX dX9_move_59 kb_24 ?_
  refine g_iload_n hX dX9_move_61 rfl rfl ?_
  refine g_imul hX dX9_move_62 ?_
  refine g_iload hX dX9_move_63 rfl ?_
  refine g_iadd hX dX9_move_65 ?_
  refine g_iload hX dX9_move_66 rfl ?_
  refine g_iadd hX dX9_move_68 ?_
  refine g_aload_n hX dX9_move_69 rfl rfl ?_
  refine g_getr hX kd_false_0 fg_9_7 tf_9_7 w_977 sr_false_0_7 dX9_move_70 ?_
  refine g_bipush hX dX9_move_73 kb_24 ?_
  refine g_iload_n hX dX9_move_75 rfl rfl ?_
  refine g_imul hX dX9_move_76 ?_
  refine g_iload_n hX dX9_move_77 rfl rfl ?_
  refine g_iadd hX dX9_move_78 ?_
  refine g_iload hX dX9_move_79 rfl ?_
  refine g_iadd hX dX9_move_81 ?_
  obtain ⟨z1, h⟩ := ck_some h
  refine g_iald hX wk_9_7.1 wk_9_7.2 z1 dX9_move_82 ?_
  obtain ⟨z3, h⟩ := ck_some h
  obtain ⟨μ2, hμ2, h⟩ := wr_some h
  refine g_iastM hX wk_9_7.1 wk_9_7.2 z3 dX9_move_83 hμ2 ?_
  refine g_iinc (lc' := [some _, some _, some _, some _, some _, some _, none, some _, some _]) hX dX9_move_84 (by decide) rfl (congrArg _ k_1) rfl rfl ?_
  refine g_goto (tgt := 28) hX dX9_move_87 (by decide) ?_
  exact g_weak (lc' := [some _, some _, some _, some _, some _, some _, none, some _, none]) ⟨rfl, rfl, rfl, rfl, rfl, rfl, rfl, trivial⟩ (hk28 _ _ _ _ _ _ _ h)
set_option maxRecDepth 100000 in
set_option maxHeartbeats 4000000 in
theorem t_X9_move_28 {l : Launch} {D : DT} {X : XT} {r : Int32} {μ' : Mem} (hX : Cx l D false X 4 RX9 cX9_move 9 (some FieldType.int)) : ∀ (n : Nat) (v1 : Int32) (v2 : Int32) (v3 : Int32) (v4 : Int32) (v5 : Int32) (v7 : Int32) (μ : Mem), f_X9_move_28 n v1 v2 v3 v4 v5 v7 μ = some (r, μ') → G l D false X 9 (some (.int r)) μ' 28 [some (.ref (D.1 0)), some (.int v1), some (.int v2), some (.int v3), some (.int v4), some (.int v5), none, some (.int v7), none] [] μ := by
  intro n
  induction n with
  | zero => intro v1 v2 v3 v4 v5 v7 μ h; exact absurd h (by simp [f_X9_move_28])
  | succ n ih =>
    intro v1 v2 v3 v4 v5 v7 μ h
    rw [f_X9_move_28] at h
    refine g_iload hX dX9_move_28 rfl ?_
    refine g_iload hX dX9_move_30 rfl ?_
    refine g_icmp_ge (tgt := 90) hX dX9_move_32 (by decide) (fun q1 => ?_) (fun q1 => ?_)
    · rw [if_pos q1] at h
      refine g_iload hX dX9_move_90 rfl ?_
      obtain ⟨rfl, rfl⟩ := pair_inj h
      exact g_iret hX rfl rfl dX9_move_92
    · rw [if_neg q1] at h
      refine g_iload_n hX dX9_move_35 rfl rfl ?_
      refine g_iload hX dX9_move_36 rfl ?_
      refine g_icmp_ge (tgt := 51) hX dX9_move_38 (by decide) (fun q2 => ?_) (fun q2 => ?_)
      · rw [if_pos q2] at h
        refine g_iload hX dX9_move_51 rfl ?_
        exact g_weak (lc' := [some _, some _, some _, some _, some _, some _, none, some _, none]) ⟨rfl, rfl, rfl, rfl, rfl, rfl, rfl, trivial⟩ (t_X9_move_53 hX ih _ _ _ _ _ _ _ _ h)
      · rw [if_neg q2] at h
        refine g_iload hX dX9_move_41 rfl ?_
        refine g_iconst hX dX9_move_43 k_1 ?_
        refine g_isub hX dX9_move_44 ?_
        refine g_iload hX dX9_move_45 rfl ?_
        refine g_isub hX dX9_move_47 ?_
        refine g_goto (tgt := 53) hX dX9_move_48 (by decide) ?_
        exact g_weak (lc' := [some _, some _, some _, some _, some _, some _, none, some _, none]) ⟨rfl, rfl, rfl, rfl, rfl, rfl, rfl, trivial⟩ (t_X9_move_53 hX ih _ _ _ _ _ _ _ _ h)
set_option maxRecDepth 100000 in
set_option maxHeartbeats 4000000 in
theorem c_X9_move {l : Launch} {D : DT} {μ : Mem} {r : Int32} {μ' : Mem} (v1 : Int32) (v2 : Int32) (v3 : Int32) (v4 : Int32) (v5 : Int32) (h : f_X9_move v1 v2 v3 v4 v5 μ = some (r, μ')) : Ct l D false 4 yX9_move cX9_move 9 (some FieldType.int) [.ref (D.1 0), .int v1, .int v2, .int v3, .int v4, .int v5] μ (some (.int r)) μ' := by
  refine Ct.of (own := RX9) (lc0 := [some (.ref (D.1 0)), some (.int v1), some (.int v2), some (.int v3), some (.int v4), some (.int v5), none, none, none]) pn_X9 rfl (Nat.le_of_ble_eq_true rfl) rfl mv_X9_move.2.2.2.1 (fun X hX => ?_)
  unfold f_X9_move at h
  refine g_aload_n hX dX9_move_0 rfl rfl ?_
  refine g_iload_n hX dX9_move_1 rfl rfl ?_
  refine g_iload_n hX dX9_move_2 rfl rfl ?_
  refine g_iload_n hX dX9_move_3 rfl rfl ?_
  refine g_iload hX dX9_move_4 rfl ?_
  refine g_iload hX dX9_move_6 rfl ?_
  obtain ⟨r1, hr1, h⟩ := bd_some h
  refine g_callVi hX (c_X9_notMoved  _ _ _ _ _ hr1) mv_X9_notMoved wm_1420 kd_false_0 rfl (by decide) (by decide) rfl rfl (Nat.le_of_ble_eq_true rfl) dX9_move_8 ?_
  refine g_istore (lc' := [some _, some _, some _, some _, some _, some _, some _, none, none]) hX dX9_move_11 (by decide) rfl rfl ?_
  refine g_iload hX dX9_move_13 rfl ?_
  refine g_if_eq (tgt := 25) hX dX9_move_15 (by decide) (fun q2 => ?_) (fun q2 => ?_)
  · rw [if_pos q2] at h
    refine g_iconst hX dX9_move_25 k_0 ?_
    refine g_istore (lc' := [some _, some _, some _, some _, some _, some _, some _, some _, none]) hX dX9_move_26 (by decide) rfl rfl ?_
    exact g_weak (lc' := [some _, some _, some _, some _, some _, some _, none, some _, none]) ⟨rfl, rfl, rfl, rfl, rfl, rfl, rfl, trivial⟩ (t_X9_move_28 hX 2000 _ _ _ _ _ _ _ h)
  · rw [if_neg q2] at h
    refine g_aload_n hX dX9_move_18 rfl rfl ?_
    refine g_iload hX dX9_move_19 rfl ?_
    obtain ⟨r3, μ4, hr3, h⟩ := bd2_some h
    refine g_callVi hX (c_X9_error  _ hr3) mv_X9_error wm_1051 kd_false_0 rfl (by decide) (by decide) rfl rfl (Nat.le_of_ble_eq_true rfl) dX9_move_21 ?_
    obtain ⟨rfl, rfl⟩ := pair_inj h
    exact g_iret hX rfl rfl dX9_move_24
set_option maxRecDepth 100000 in
set_option maxHeartbeats 4000000 in
theorem t_X9_odds_16 {l : Launch} {D : DT} {X : XT} {r : Int32} {μ' : Mem} (hX : Cx l D false X 4 RX9 cX9_odds 7 (some FieldType.int)) : ∀ (μ : Mem), f_X9_odds_16 μ = some (r, μ') → G l D false X 7 (some (.int r)) μ' 16 [some (.ref (D.1 0)), none, none, none, none, none, none] [] μ := by
  intro μ h
  unfold f_X9_odds_16 at h
  refine g_aload_n hX dX9_odds_16 rfl rfl ?_
  refine g_ldc hX dX9_odds_17 wc_1050 ?_
  obtain ⟨r1, μ2, hr1, h⟩ := bd2_some h
  refine g_callVi hX (c_X9_error  _ hr1) mv_X9_error wm_1051 kd_false_0 rfl (by decide) (by decide) rfl rfl (Nat.le_of_ble_eq_true rfl) dX9_odds_19 ?_
  obtain ⟨rfl, rfl⟩ := pair_inj h
  exact g_iret hX rfl rfl dX9_odds_22
set_option maxRecDepth 100000 in
set_option maxHeartbeats 4000000 in
theorem t_X9_odds_146 {l : Launch} {D : DT} {X : XT} {r : Int32} {μ' : Mem} (hX : Cx l D false X 4 RX9 cX9_odds 7 (some FieldType.int)) : ∀ (v2 : Int32) (v3 : Int32) (v5 : Int32) (μ : Mem), f_X9_odds_146 v2 v3 v5 μ = some (r, μ') → G l D false X 7 (some (.int r)) μ' 146 [none, none, some (.int v2), some (.int v3), none, some (.int v5), none] [] μ := by
  intro v2 v3 v5 μ h
  unfold f_X9_odds_146 at h
  refine g_iload_n hX dX9_odds_146 rfl rfl ?_
  refine g_if_ne (tgt := 155) hX dX9_odds_147 (by decide) (fun q1 => ?_) (fun q1 => ?_)
  · rw [if_neg q1] at h
    refine g_iload_n hX dX9_odds_155 rfl rfl ?_
    obtain ⟨rfl, rfl⟩ := pair_inj h
    exact g_iret hX rfl rfl dX9_odds_156
  · rw [if_pos q1] at h
    refine g_iload hX dX9_odds_150 rfl ?_
    refine g_goto (tgt := 156) hX dX9_odds_152 (by decide) ?_
    obtain ⟨rfl, rfl⟩ := pair_inj h
    exact g_iret hX rfl rfl dX9_odds_156
set_option maxRecDepth 100000 in
set_option maxHeartbeats 4000000 in
theorem t_X9_odds_107 {l : Launch} {D : DT} {X : XT} {r : Int32} {μ' : Mem} (hX : Cx l D false X 4 RX9 cX9_odds 7 (some FieldType.int)) : ∀ (n : Nat) (v2 : Int32) (v3 : Int32) (v5 : Int32) (v6 : Int32) (μ : Mem), f_X9_odds_107 n v2 v3 v5 v6 μ = some (r, μ') → G l D false X 7 (some (.int r)) μ' 107 [none, none, some (.int v2), some (.int v3), none, some (.int v5), some (.int v6)] [] μ := by
  intro n
  induction n with
  | zero => intro v2 v3 v5 v6 μ h; exact absurd h (by simp [f_X9_odds_107])
  | succ n ih =>
    intro v2 v3 v5 v6 μ h
    rw [f_X9_odds_107] at h
    refine g_iload hX dX9_odds_107 rfl ?_
    refine g_iconst hX dX9_odds_109 k_1 ?_
    refine g_icmp_le (tgt := 146) hX dX9_odds_110 (by decide) (fun q1 => ?_) (fun q1 => ?_)
    · rw [if_pos q1] at h
      exact g_weak (lc' := [none, none, some _, some _, none, some _, none]) ⟨rfl, rfl, rfl, trivial⟩ (t_X9_odds_146 hX _ _ _ _ h)
    · rw [if_neg q1] at h
      refine g_iload hX dX9_odds_113 rfl ?_
      refine g_iload hX dX9_odds_115 rfl ?_
      obtain ⟨z2, h⟩ := ck_some h
      refine g_irem hX (nz_ne z2) dX9_odds_117 ?_
      refine g_if_ne (tgt := 140) hX dX9_odds_118 (by decide) (fun q3 => ?_) (fun q3 => ?_)
      · rw [if_neg q3] at h
        refine g_iinc (lc' := [none, none, some _, some _, none, some _, some _]) hX dX9_odds_140 (by decide) rfl (congrArg _ k_m1) rfl rfl ?_
        refine g_goto (tgt := 107) hX dX9_odds_143 (by decide) ?_
        exact g_weak (lc' := [none, none, some _, some _, none, some _, some _]) ⟨rfl, rfl, rfl, rfl, trivial⟩ (ih _ _ _ _ _ h)
      · rw [if_pos q3] at h
        refine g_iload_n hX dX9_odds_121 rfl rfl ?_
        refine g_iload hX dX9_odds_122 rfl ?_
        obtain ⟨z4, h⟩ := ck_some h
        refine g_irem hX (nz_ne z4) dX9_odds_124 ?_
        refine g_if_ne (tgt := 140) hX dX9_odds_125 (by decide) (fun q5 => ?_) (fun q5 => ?_)
        · rw [if_neg q5] at h
          refine g_iinc (lc' := [none, none, some _, some _, none, some _, some _]) hX dX9_odds_140 (by decide) rfl (congrArg _ k_m1) rfl rfl ?_
          refine g_goto (tgt := 107) hX dX9_odds_143 (by decide) ?_
          exact g_weak (lc' := [none, none, some _, some _, none, some _, some _]) ⟨rfl, rfl, rfl, rfl, trivial⟩ (ih _ _ _ _ _ h)
        · rw [if_pos q5] at h
          refine g_iload hX dX9_odds_128 rfl ?_
          refine g_iload hX dX9_odds_130 rfl ?_
          obtain ⟨z6, h⟩ := ck_some h
          refine g_idiv hX (nz_ne z6) dX9_odds_132 ?_
          refine g_istore (lc' := [none, none, some _, some _, none, some _, some _]) hX dX9_odds_133 (by decide) rfl rfl ?_
          refine g_iload_n hX dX9_odds_135 rfl rfl ?_
          refine g_iload hX dX9_odds_136 rfl ?_
          obtain ⟨z7, h⟩ := ck_some h
          refine g_idiv hX (nz_ne z7) dX9_odds_138 ?_
          refine g_istore_n (lc' := [none, none, some _, some _, none, some _, some _]) hX dX9_odds_139 rfl (by decide) rfl rfl ?_
          refine g_iinc (lc' := [none, none, some _, some _, none, some _, some _]) hX dX9_odds_140 (by decide) rfl (congrArg _ k_m1) rfl rfl ?_
          refine g_goto (tgt := 107) hX dX9_odds_143 (by decide) ?_
          exact g_weak (lc' := [none, none, some _, some _, none, some _, some _]) ⟨rfl, rfl, rfl, rfl, trivial⟩ (ih _ _ _ _ _ h)
set_option maxRecDepth 100000 in
set_option maxHeartbeats 4000000 in
theorem t_X9_odds_95 {l : Launch} {D : DT} {X : XT} {k58 : Int32 → Int32 → Int32 → Int32 → Int32 → Int32 → Mem → Option (Int32 × Mem)} {r : Int32} {μ' : Mem} (hX : Cx l D false X 4 RX9 cX9_odds 7 (some FieldType.int)) (hk58 : ∀ (v1 : Int32) (v2 : Int32) (v3 : Int32) (v4 : Int32) (v5 : Int32) (v6 : Int32) (μ : Mem), k58 v1 v2 v3 v4 v5 v6 μ = some (r, μ') → G l D false X 7 (some (.int r)) μ' 58 [some (.ref (D.1 0)), some (.int v1), some (.int v2), some (.int v3), some (.int v4), some (.int v5), some (.int v6)] [] μ) : ∀ (v1 : Int32) (v2 : Int32) (v3 : Int32) (v4 : Int32) (v6 : Int32) (s0 : Int32) (s1 : Int32) (μ : Mem), f_X9_odds_95 k58 v1 v2 v3 v4 v6 s0 s1 μ = some (r, μ') → G l D false X 7 (some (.int r)) μ' 95 [some (.ref (D.1 0)), some (.int v1), some (.int v2), some (.int v3), some (.int v4), none, some (.int v6)] [.int s1, .int s0] μ := by
  intro v1 v2 v3 v4 v6 s0 s1 μ h
  unfold f_X9_odds_95 at h
  refine g_iadd hX dX9_odds_95 ?_
  refine g_istore (lc' := [some _, some _, some _, some _, some _, some _, some _]) hX dX9_odds_96 (by decide) rfl rfl ?_
  refine g_iinc (lc' := [some _, some _, some _, some _, some _, some _, some _]) hX dX9_odds_98 (by decide) rfl (congrArg _ k_1) rfl rfl ?_
  refine g_goto (tgt := 58) hX dX9_odds_101 (by decide) ?_
  exact g_weak (lc' := [some _, some _, some _, some _, some _, some _, some _]) ⟨rfl, rfl, rfl, rfl, rfl, rfl, rfl, trivial⟩ (hk58 _ _ _ _ _ _ _ h)
set_option maxRecDepth 100000 in
set_option maxHeartbeats 4000000 in
theorem t_X9_odds_58 {l : Launch} {D : DT} {X : XT} {r : Int32} {μ' : Mem} (hX : Cx l D false X 4 RX9 cX9_odds 7 (some FieldType.int)) : ∀ (n : Nat) (v1 : Int32) (v2 : Int32) (v3 : Int32) (v4 : Int32) (v5 : Int32) (v6 : Int32) (μ : Mem), f_X9_odds_58 n v1 v2 v3 v4 v5 v6 μ = some (r, μ') → G l D false X 7 (some (.int r)) μ' 58 [some (.ref (D.1 0)), some (.int v1), some (.int v2), some (.int v3), some (.int v4), some (.int v5), some (.int v6)] [] μ := by
  intro n
  induction n with
  | zero => intro v1 v2 v3 v4 v5 v6 μ h; exact absurd h (by simp [f_X9_odds_58])
  | succ n ih =>
    intro v1 v2 v3 v4 v5 v6 μ h
    rw [f_X9_odds_58] at h
    refine g_iload hX dX9_odds_58 rfl ?_
    refine g_aload_n hX dX9_odds_60 rfl rfl ?_
    refine g_getr hX kd_false_0 fg_9_0 tf_9_0 w_970 sr_false_0_0 dX9_odds_61 ?_
    refine g_iconst hX dX9_odds_64 k_3 ?_
    refine g_iald hX wk_9_0.1 wk_9_0.2 (by decide) dX9_odds_65 ?_
    refine g_icmp_ge (tgt := 104) hX dX9_odds_66 (by decide) (fun q1 => ?_) (fun q1 => ?_)
    · rw [if_pos q1] at h
      refine g_iload_n hX dX9_odds_104 rfl rfl ?_
      refine g_istore (lc' := [some _, some _, some _, some _, some _, some _, some _]) hX dX9_odds_105 (by decide) rfl rfl ?_
      exact g_weak (lc' := [none, none, some _, some _, none, some _, some _]) ⟨rfl, rfl, rfl, rfl, trivial⟩ (t_X9_odds_107 hX 2000 _ _ _ _ _ h)
    · rw [if_neg q1] at h
      refine g_iload hX dX9_odds_69 rfl ?_
      refine g_aload_n hX dX9_odds_71 rfl rfl ?_
      refine g_iload_n hX dX9_odds_72 rfl rfl ?_
      refine g_aload_n hX dX9_odds_73 rfl rfl ?_
      obtain ⟨r2, hr2, h⟩ := bd_some h
      refine g_callVi hX (c_X9_opened hr2) mv_X9_opened wm_1252 kd_false_0 rfl (by decide) (by decide) rfl rfl (Nat.le_of_ble_eq_true rfl) dX9_odds_74 ?_
      refine g_iconst hX dX9_odds_77 k_1 ?_
      refine g_iload hX dX9_odds_78 rfl ?_
      refine g_ishl hX dX9_odds_80 ?_
      refine g_ior hX dX9_odds_81 ?_
      obtain ⟨r3, hr3, h⟩ := bd_some h
      refine g_callVi hX (c_X9_roamsBy  _ _ hr3) mv_X9_roamsBy wm_1328 kd_false_0 rfl (by decide) (by decide) rfl rfl (Nat.le_of_ble_eq_true rfl) dX9_odds_82 ?_
      refine g_iload hX dX9_odds_85 rfl ?_
      refine g_icmp_ne (tgt := 94) hX dX9_odds_87 (by decide) (fun q4 => ?_) (fun q4 => ?_)
      · rw [if_neg q4] at h
        refine g_iconst hX dX9_odds_94 k_1 ?_
        exact g_weak (lc' := [some _, some _, some _, some _, some _, none, some _]) ⟨rfl, rfl, rfl, rfl, rfl, rfl, trivial⟩ (t_X9_odds_95 hX ih _ _ _ _ _ _ _ _ h)
      · rw [if_pos q4] at h
        refine g_iconst hX dX9_odds_90 k_0 ?_
        refine g_goto (tgt := 95) hX dX9_odds_91 (by decide) ?_
        exact g_weak (lc' := [some _, some _, some _, some _, some _, none, some _]) ⟨rfl, rfl, rfl, rfl, rfl, rfl, trivial⟩ (t_X9_odds_95 hX ih _ _ _ _ _ _ _ _ h)
set_option maxRecDepth 100000 in
set_option maxHeartbeats 4000000 in
theorem c_X9_odds {l : Launch} {D : DT} {μ : Mem} {r : Int32} {μ' : Mem} (v1 : Int32) (v2 : Int32) (h : f_X9_odds v1 v2 μ = some (r, μ')) : Ct l D false 4 yX9_odds cX9_odds 7 (some FieldType.int) [.ref (D.1 0), .int v1, .int v2] μ (some (.int r)) μ' := by
  refine Ct.of (own := RX9) (lc0 := [some (.ref (D.1 0)), some (.int v1), some (.int v2), none, none, none, none]) pn_X9 rfl (Nat.le_of_ble_eq_true rfl) rfl mv_X9_odds.2.2.2.1 (fun X hX => ?_)
  unfold f_X9_odds at h
  refine g_iload_n hX dX9_odds_0 rfl rfl ?_
  refine g_callSi hX (c_X9_isField  v1) mv_X9_isField wm_1131 (by decide) rfl rfl (Nat.le_of_ble_eq_true rfl) dX9_odds_1 ?_
  refine g_if_eq (tgt := 16) hX dX9_odds_4 (by decide) (fun q1 => ?_) (fun q1 => ?_)
  · rw [if_pos q1] at h
    exact g_weak (lc' := [some _, none, none, none, none, none, none]) ⟨rfl, trivial⟩ (t_X9_odds_16 hX _ h)
  · rw [if_neg q1] at h
    refine g_iload_n hX dX9_odds_7 rfl rfl ?_
    refine g_iconst hX dX9_odds_8 k_0 ?_
    refine g_iconst hX dX9_odds_9 k_1 ?_
    refine g_callSi hX (c_X9_in  v2 0 1) mv_X9_in wm_1047 (by decide) rfl rfl (Nat.le_of_ble_eq_true rfl) dX9_odds_10 ?_
    refine g_if_ne (tgt := 23) hX dX9_odds_13 (by decide) (fun q2 => ?_) (fun q2 => ?_)
    · rw [if_neg q2] at h
      refine g_aload_n hX dX9_odds_23 rfl rfl ?_
      refine g_getr hX kd_false_0 fg_9_0 tf_9_0 w_970 sr_false_0_0 dX9_odds_24 ?_
      refine g_iconst hX dX9_odds_27 k_3 ?_
      refine g_iald hX wk_9_0.1 wk_9_0.2 (by decide) dX9_odds_28 ?_
      refine g_istore_n (lc' := [some _, some _, some _, some _, none, none, none]) hX dX9_odds_29 rfl (by decide) rfl rfl ?_
      refine g_iload_n hX dX9_odds_30 rfl rfl ?_
      refine g_if_ne (tgt := 41) hX dX9_odds_31 (by decide) (fun q3 => ?_) (fun q3 => ?_)
      · rw [if_neg q3] at h
        refine g_aload_n hX dX9_odds_41 rfl rfl ?_
        refine g_iload_n hX dX9_odds_42 rfl rfl ?_
        refine g_aload_n hX dX9_odds_43 rfl rfl ?_
        obtain ⟨r4, hr4, h⟩ := bd_some h
        refine g_callVi hX (c_X9_opened hr4) mv_X9_opened wm_1252 kd_false_0 rfl (by decide) (by decide) rfl rfl (Nat.le_of_ble_eq_true rfl) dX9_odds_44 ?_
        obtain ⟨r5, hr5, h⟩ := bd_some h
        refine g_callVi hX (c_X9_roamsBy  _ _ hr5) mv_X9_roamsBy wm_1328 kd_false_0 rfl (by decide) (by decide) rfl rfl (Nat.le_of_ble_eq_true rfl) dX9_odds_47 ?_
        refine g_istore (lc' := [some _, some _, some _, some _, some _, none, none]) hX dX9_odds_50 (by decide) rfl rfl ?_
        refine g_iconst hX dX9_odds_52 k_0 ?_
        refine g_istore (lc' := [some _, some _, some _, some _, some _, some _, none]) hX dX9_odds_53 (by decide) rfl rfl ?_
        refine g_iconst hX dX9_odds_55 k_0 ?_
        refine g_istore (lc' := [some _, some _, some _, some _, some _, some _, some _]) hX dX9_odds_56 (by decide) rfl rfl ?_
        exact g_weak (lc' := [some _, some _, some _, some _, some _, some _, some _]) ⟨rfl, rfl, rfl, rfl, rfl, rfl, rfl, trivial⟩ (t_X9_odds_58 hX 2000 _ _ _ _ _ _ _ h)
      · rw [if_pos q3] at h
        refine g_aload_n hX dX9_odds_34 rfl rfl ?_
        refine g_ldc hX dX9_odds_35 wc_1231 ?_
        obtain ⟨r6, μ7, hr6, h⟩ := bd2_some h
        refine g_callVi hX (c_X9_error  _ hr6) mv_X9_error wm_1051 kd_false_0 rfl (by decide) (by decide) rfl rfl (Nat.le_of_ble_eq_true rfl) dX9_odds_37 ?_
        obtain ⟨rfl, rfl⟩ := pair_inj h
        exact g_iret hX rfl rfl dX9_odds_40
    · rw [if_pos q2] at h
      exact g_weak (lc' := [some _, none, none, none, none, none, none]) ⟨rfl, trivial⟩ (t_X9_odds_16 hX _ h)
set_option maxRecDepth 100000 in
set_option maxHeartbeats 4000000 in
theorem t_X9_plainParts_25 {l : Launch} {D : DT} {X : XT} {r : Int32} {μ' : Mem} (hX : Cx l D false X 2 RX9 cX9_plainParts 4 (some FieldType.int)) : ∀ (v2 : Int32) (v3 : Int32) (s1 : Int32) (μ : Mem), f_X9_plainParts_25 v2 v3 s1 μ = some (r, μ') → G l D false X 4 (some (.int r)) μ' 25 [some (.ref (D.1 0)), none, some (.int v2), some (.int v3)] [.int s1, .ref (D.1 0)] μ := by
  intro v2 v3 s1 μ h
  unfold f_X9_plainParts_25 at h
  obtain ⟨z2, h⟩ := ck_some h
  obtain ⟨μ1, hμ1, h⟩ := wr_some h
  refine g_putz hX z2 kd_false_0 fg_9_22 tf_9_22 tyX9_ok nmX9 rfl w_992 dX9_plainParts_25 hμ1 ?_
  refine g_aload_n hX dX9_plainParts_28 rfl rfl ?_
  refine g_geti hX kd_false_0 fg_9_22 tf_9_22 w_992 dX9_plainParts_29 ?_
  refine g_if_eq (tgt := 39) hX dX9_plainParts_32 (by decide) (fun q3 => ?_) (fun q3 => ?_)
  · rw [if_pos q3] at h
    refine g_iload_n hX dX9_plainParts_39 rfl rfl ?_
    refine g_iload_n hX dX9_plainParts_40 rfl rfl ?_
    obtain ⟨z4, h⟩ := ck_some h
    refine g_idiv hX (nz_ne z4) dX9_plainParts_41 ?_
    obtain ⟨rfl, rfl⟩ := pair_inj h
    exact g_iret hX rfl rfl dX9_plainParts_42
  · rw [if_neg q3] at h
    refine g_iconst hX dX9_plainParts_35 k_0 ?_
    refine g_goto (tgt := 42) hX dX9_plainParts_36 (by decide) ?_
    obtain ⟨rfl, rfl⟩ := pair_inj h
    exact g_iret hX rfl rfl dX9_plainParts_42
set_option maxRecDepth 100000 in
set_option maxHeartbeats 4000000 in
theorem c_X9_plainParts {l : Launch} {D : DT} {μ : Mem} {r : Int32} {μ' : Mem} (v1 : Int32) (v2 : Int32) (h : f_X9_plainParts v1 v2 μ = some (r, μ')) : Ct l D false 2 yX9_plainParts cX9_plainParts 4 (some FieldType.int) [.ref (D.1 0), .int v1, .int v2] μ (some (.int r)) μ' := by
  refine Ct.of (own := RX9) (lc0 := [some (.ref (D.1 0)), some (.int v1), some (.int v2), none]) pn_X9 rfl (Nat.le_of_ble_eq_true rfl) rfl mv_X9_plainParts.2.2.2.1 (fun X hX => ?_)
  unfold f_X9_plainParts at h
  refine g_aload_n hX dX9_plainParts_0 rfl rfl ?_
  refine g_bipush hX dX9_plainParts_1 kb_13 ?_
  obtain ⟨μ1, hμ1, h⟩ := bd_some h
  refine g_callVv hX (c_X9_begins  _ hμ1) mv_X9_begins wm_1367 kd_false_0 rfl (by decide) (by decide) rfl rfl (Nat.le_of_ble_eq_true rfl) dX9_plainParts_3 ?_
  refine g_aload_n hX dX9_plainParts_6 rfl rfl ?_
  refine g_iload_n hX dX9_plainParts_7 rfl rfl ?_
  refine g_iconst hX dX9_plainParts_8 k_1 ?_
  obtain ⟨r2, hr2, h⟩ := bd_some h
  refine g_callVi hX (c_X9_of  _ _ hr2) mv_X9_of wm_1065 kd_false_0 rfl (by decide) (by decide) rfl rfl (Nat.le_of_ble_eq_true rfl) dX9_plainParts_9 ?_
  refine g_iload_n hX dX9_plainParts_12 rfl rfl ?_
  refine g_isub hX dX9_plainParts_13 ?_
  refine g_istore_n (lc' := [some _, some _, some _, some _]) hX dX9_plainParts_14 rfl (by decide) rfl rfl ?_
  refine g_aload_n hX dX9_plainParts_15 rfl rfl ?_
  refine g_iload_n hX dX9_plainParts_16 rfl rfl ?_
  refine g_if_ne (tgt := 24) hX dX9_plainParts_17 (by decide) (fun q3 => ?_) (fun q3 => ?_)
  · rw [if_neg q3] at h
    refine g_iconst hX dX9_plainParts_24 k_0 ?_
    exact g_weak (lc' := [some _, none, some _, some _]) ⟨rfl, rfl, rfl, trivial⟩ (t_X9_plainParts_25 hX _ _ _ _ h)
  · rw [if_pos q3] at h
    refine g_iconst hX dX9_plainParts_20 k_1 ?_
    refine g_goto (tgt := 25) hX dX9_plainParts_21 (by decide) ?_
    exact g_weak (lc' := [some _, none, some _, some _]) ⟨rfl, rfl, rfl, trivial⟩ (t_X9_plainParts_25 hX _ _ _ _ h)
set_option maxRecDepth 100000 in
set_option maxHeartbeats 4000000 in
theorem t_X9_partsBy_20 {l : Launch} {D : DT} {X : XT} {r : Int32} {μ' : Mem} (hX : Cx l D false X 8 RX9 cX9_partsBy 4 (some FieldType.int)) : ∀ (v1 : Int32) (v2 : Int32) (μ : Mem), f_X9_partsBy_20 v1 v2 μ = some (r, μ') → G l D false X 4 (some (.int r)) μ' 20 [some (.ref (D.1 0)), some (.int v1), some (.int v2), none] [] μ := by
  intro v1 v2 μ h
  unfold f_X9_partsBy_20 at h
  refine g_aload_n hX dX9_partsBy_20 rfl rfl ?_
  refine g_bipush hX dX9_partsBy_21 kb_21 ?_
  obtain ⟨μ1, hμ1, h⟩ := bd_some h
  refine g_callVv hX (c_X9_begins  _ hμ1) mv_X9_begins wm_1367 kd_false_0 rfl (by decide) (by decide) rfl rfl (Nat.le_of_ble_eq_true rfl) dX9_partsBy_23 ?_
  refine g_aload_n hX dX9_partsBy_26 rfl rfl ?_
  refine g_iload_n hX dX9_partsBy_27 rfl rfl ?_
  refine g_iload_n hX dX9_partsBy_28 rfl rfl ?_
  obtain ⟨r2, μ3, hr2, h⟩ := bd2_some h
  refine g_callVi hX (c_X9_plainParts  _ _ hr2) mv_X9_plainParts wm_1399 kd_false_0 rfl (by decide) (by decide) rfl rfl (Nat.le_of_ble_eq_true rfl) dX9_partsBy_29 ?_
  refine g_istore_n (lc' := [some _, some _, some _, some _]) hX dX9_partsBy_32 rfl (by decide) rfl rfl ?_
  refine g_aload_n hX dX9_partsBy_33 rfl rfl ?_
  refine g_geti hX kd_false_0 fg_9_22 tf_9_22 w_992 dX9_partsBy_34 ?_
  refine g_if_eq (tgt := 44) hX dX9_partsBy_37 (by decide) (fun q4 => ?_) (fun q4 => ?_)
  · rw [if_pos q4] at h
    refine g_iload_n hX dX9_partsBy_44 rfl rfl ?_
    refine g_aload_n hX dX9_partsBy_45 rfl rfl ?_
    refine g_iload_n hX dX9_partsBy_46 rfl rfl ?_
    refine g_iconst hX dX9_partsBy_47 k_1 ?_
    obtain ⟨r5, μ6, hr5, h⟩ := bd2_some h
    refine g_callVi hX (c_X9_minds  _ _ hr5) mv_X9_minds wm_1375 kd_false_0 rfl (by decide) (by decide) rfl rfl (Nat.le_of_ble_eq_true rfl) dX9_partsBy_48 ?_
    refine g_iadd hX dX9_partsBy_51 ?_
    obtain ⟨rfl, rfl⟩ := pair_inj h
    exact g_iret hX rfl rfl dX9_partsBy_52
  · rw [if_neg q4] at h
    refine g_iconst hX dX9_partsBy_40 k_0 ?_
    refine g_goto (tgt := 52) hX dX9_partsBy_41 (by decide) ?_
    obtain ⟨rfl, rfl⟩ := pair_inj h
    exact g_iret hX rfl rfl dX9_partsBy_52
set_option maxRecDepth 100000 in
set_option maxHeartbeats 4000000 in
theorem c_X9_partsBy {l : Launch} {D : DT} {μ : Mem} {r : Int32} {μ' : Mem} (v1 : Int32) (v2 : Int32) (h : f_X9_partsBy v1 v2 μ = some (r, μ')) : Ct l D false 8 yX9_partsBy cX9_partsBy 4 (some FieldType.int) [.ref (D.1 0), .int v1, .int v2] μ (some (.int r)) μ' := by
  refine Ct.of (own := RX9) (lc0 := [some (.ref (D.1 0)), some (.int v1), some (.int v2), none]) pn_X9 rfl (Nat.le_of_ble_eq_true rfl) rfl mv_X9_partsBy.2.2.2.1 (fun X hX => ?_)
  unfold f_X9_partsBy at h
  refine g_aload_n hX dX9_partsBy_0 rfl rfl ?_
  refine g_iload_n hX dX9_partsBy_1 rfl rfl ?_
  refine g_iconst hX dX9_partsBy_2 k_0 ?_
  obtain ⟨r1, hr1, h⟩ := bd_some h
  refine g_callVi hX (c_X9_of  _ _ hr1) mv_X9_of wm_1065 kd_false_0 rfl (by decide) (by decide) rfl rfl (Nat.le_of_ble_eq_true rfl) dX9_partsBy_3 ?_
  refine g_iconst hX dX9_partsBy_6 k_1 ?_
  refine g_icmp_eq (tgt := 20) hX dX9_partsBy_7 (by decide) (fun q2 => ?_) (fun q2 => ?_)
  · rw [if_pos q2] at h
    exact g_weak (lc' := [some _, some _, some _, none]) ⟨rfl, rfl, rfl, trivial⟩ (t_X9_partsBy_20 hX _ _ _ h)
  · rw [if_neg q2] at h
    refine g_aload_n hX dX9_partsBy_10 rfl rfl ?_
    refine g_iload_n hX dX9_partsBy_11 rfl rfl ?_
    refine g_iconst hX dX9_partsBy_12 k_0 ?_
    obtain ⟨r3, hr3, h⟩ := bd_some h
    refine g_callVi hX (c_X9_of  _ _ hr3) mv_X9_of wm_1065 kd_false_0 rfl (by decide) (by decide) rfl rfl (Nat.le_of_ble_eq_true rfl) dX9_partsBy_13 ?_
    refine g_iconst hX dX9_partsBy_16 k_4 ?_
    refine g_icmp_ne (tgt := 53) hX dX9_partsBy_17 (by decide) (fun q4 => ?_) (fun q4 => ?_)
    · rw [if_neg q4] at h
      refine g_aload_n hX dX9_partsBy_53 rfl rfl ?_
      refine g_iload_n hX dX9_partsBy_54 rfl rfl ?_
      refine g_iload_n hX dX9_partsBy_55 rfl rfl ?_
      obtain ⟨r5, μ6, hr5, h⟩ := bd2_some h
      refine g_callVi hX (c_X9_plainParts  _ _ hr5) mv_X9_plainParts wm_1399 kd_false_0 rfl (by decide) (by decide) rfl rfl (Nat.le_of_ble_eq_true rfl) dX9_partsBy_56 ?_
      obtain ⟨rfl, rfl⟩ := pair_inj h
      exact g_iret hX rfl rfl dX9_partsBy_59
    · rw [if_pos q4] at h
      exact g_weak (lc' := [some _, some _, some _, none]) ⟨rfl, rfl, rfl, trivial⟩ (t_X9_partsBy_20 hX _ _ _ h)
set_option maxRecDepth 100000 in
set_option maxHeartbeats 4000000 in
theorem t_X9_pass_21 {l : Launch} {D : DT} {X : XT} {r : Int32} {μ' : Mem} (hX : Cx l D false X 3 RX9 cX9_pass 5 (some FieldType.int)) : ∀ (μ : Mem), f_X9_pass_21 μ = some (r, μ') → G l D false X 5 (some (.int r)) μ' 21 [some (.ref (D.1 0)), none, none, none, none] [] μ := by
  intro μ h
  unfold f_X9_pass_21 at h
  refine g_aload_n hX dX9_pass_21 rfl rfl ?_
  refine g_ldc hX dX9_pass_22 wc_1050 ?_
  obtain ⟨r1, μ2, hr1, h⟩ := bd2_some h
  refine g_callVi hX (c_X9_error  _ hr1) mv_X9_error wm_1051 kd_false_0 rfl (by decide) (by decide) rfl rfl (Nat.le_of_ble_eq_true rfl) dX9_pass_24 ?_
  obtain ⟨rfl, rfl⟩ := pair_inj h
  exact g_iret hX rfl rfl dX9_pass_27
set_option maxRecDepth 100000 in
set_option maxHeartbeats 4000000 in
theorem t_X9_pass_33 {l : Launch} {D : DT} {X : XT} {r : Int32} {μ' : Mem} (hX : Cx l D false X 3 RX9 cX9_pass 5 (some FieldType.int)) : ∀ (n : Nat) (v1 : Int32) (v2 : Int32) (v3 : Int32) (v4 : Int32) (μ : Mem), f_X9_pass_33 n v1 v2 v3 v4 μ = some (r, μ') → G l D false X 5 (some (.int r)) μ' 33 [some (.ref (D.1 0)), some (.int v1), some (.int v2), some (.int v3), some (.int v4)] [] μ := by
  intro n
  induction n with
  | zero => intro v1 v2 v3 v4 μ h; exact absurd h (by simp [f_X9_pass_33])
  | succ n ih =>
    intro v1 v2 v3 v4 μ h
    rw [f_X9_pass_33] at h
    refine g_iload hX dX9_pass_33 rfl ?_
    refine g_aload_n hX dX9_pass_35 rfl rfl ?_
    refine g_getr hX kd_false_0 fg_9_0 tf_9_0 w_970 sr_false_0_0 dX9_pass_36 ?_
    refine g_iconst hX dX9_pass_39 k_3 ?_
    refine g_iald hX wk_9_0.1 wk_9_0.2 (by decide) dX9_pass_40 ?_
    refine g_icmp_ge (tgt := 72) hX dX9_pass_41 (by decide) (fun q1 => ?_) (fun q1 => ?_)
    · rw [if_pos q1] at h
      refine g_iload_n hX dX9_pass_72 rfl rfl ?_
      obtain ⟨rfl, rfl⟩ := pair_inj h
      exact g_iret hX rfl rfl dX9_pass_73
    · rw [if_neg q1] at h
      refine g_aload_n hX dX9_pass_44 rfl rfl ?_
      refine g_iload hX dX9_pass_45 rfl ?_
      refine g_iconst hX dX9_pass_47 k_3 ?_
      obtain ⟨r2, hr2, h⟩ := bd_some h
      refine g_callVi hX (c_X9_about  _ _ hr2) mv_X9_about wm_1073 kd_false_0 rfl (by decide) (by decide) rfl rfl (Nat.le_of_ble_eq_true rfl) dX9_pass_48 ?_
      refine g_iload_n hX dX9_pass_51 rfl rfl ?_
      refine g_icmp_ne (tgt := 66) hX dX9_pass_52 (by decide) (fun q3 => ?_) (fun q3 => ?_)
      · rw [if_neg q3] at h
        refine g_iinc (lc' := [some _, some _, some _, some _, some _]) hX dX9_pass_66 (by decide) rfl (congrArg _ k_1) rfl rfl ?_
        refine g_goto (tgt := 33) hX dX9_pass_69 (by decide) ?_
        exact g_weak (lc' := [some _, some _, some _, some _, some _]) ⟨rfl, rfl, rfl, rfl, rfl, trivial⟩ (ih _ _ _ _ _ h)
      · rw [if_pos q3] at h
        refine g_aload_n hX dX9_pass_55 rfl rfl ?_
        refine g_iload hX dX9_pass_56 rfl ?_
        refine g_iconst hX dX9_pass_58 k_3 ?_
        refine g_iload_n hX dX9_pass_59 rfl rfl ?_
        obtain ⟨μ4, hμ4, h⟩ := bd_some h
        refine g_callVv hX (c_X9_lets  _ _ _ hμ4) mv_X9_lets wm_1134 kd_false_0 rfl (by decide) (by decide) rfl rfl (Nat.le_of_ble_eq_true rfl) dX9_pass_60 ?_
        refine g_iinc (lc' := [some _, some _, some _, some _, some _]) hX dX9_pass_63 (by decide) rfl (congrArg _ k_1) rfl rfl ?_
        refine g_iinc (lc' := [some _, some _, some _, some _, some _]) hX dX9_pass_66 (by decide) rfl (congrArg _ k_1) rfl rfl ?_
        refine g_goto (tgt := 33) hX dX9_pass_69 (by decide) ?_
        exact g_weak (lc' := [some _, some _, some _, some _, some _]) ⟨rfl, rfl, rfl, rfl, rfl, trivial⟩ (ih _ _ _ _ _ h)
set_option maxRecDepth 100000 in
set_option maxHeartbeats 4000000 in
theorem c_X9_pass {l : Launch} {D : DT} {μ : Mem} {r : Int32} {μ' : Mem} (v1 : Int32) (v2 : Int32) (h : f_X9_pass v1 v2 μ = some (r, μ')) : Ct l D false 3 yX9_pass cX9_pass 5 (some FieldType.int) [.ref (D.1 0), .int v1, .int v2] μ (some (.int r)) μ' := by
  refine Ct.of (own := RX9) (lc0 := [some (.ref (D.1 0)), some (.int v1), some (.int v2), none, none]) pn_X9 rfl (Nat.le_of_ble_eq_true rfl) rfl mv_X9_pass.2.2.2.1 (fun X hX => ?_)
  unfold f_X9_pass at h
  refine g_aload_n hX dX9_pass_0 rfl rfl ?_
  refine g_iload_n hX dX9_pass_1 rfl rfl ?_
  refine g_callVi hX (c_X9_isPerson  v1) mv_X9_isPerson wm_1061 kd_false_0 rfl (by decide) (by decide) rfl rfl (Nat.le_of_ble_eq_true rfl) dX9_pass_2 ?_
  refine g_if_eq (tgt := 21) hX dX9_pass_5 (by decide) (fun q1 => ?_) (fun q1 => ?_)
  · rw [if_pos q1] at h
    exact g_weak (lc' := [some _, none, none, none, none]) ⟨rfl, trivial⟩ (t_X9_pass_21 hX _ h)
  · rw [if_neg q1] at h
    refine g_aload_n hX dX9_pass_8 rfl rfl ?_
    refine g_iload_n hX dX9_pass_9 rfl rfl ?_
    refine g_callVi hX (c_X9_isPerson  v2) mv_X9_isPerson wm_1061 kd_false_0 rfl (by decide) (by decide) rfl rfl (Nat.le_of_ble_eq_true rfl) dX9_pass_10 ?_
    refine g_if_eq (tgt := 21) hX dX9_pass_13 (by decide) (fun q2 => ?_) (fun q2 => ?_)
    · rw [if_pos q2] at h
      exact g_weak (lc' := [some _, none, none, none, none]) ⟨rfl, trivial⟩ (t_X9_pass_21 hX _ h)
    · rw [if_neg q2] at h
      refine g_iload_n hX dX9_pass_16 rfl rfl ?_
      refine g_iload_n hX dX9_pass_17 rfl rfl ?_
      refine g_icmp_ne (tgt := 28) hX dX9_pass_18 (by decide) (fun q3 => ?_) (fun q3 => ?_)
      · rw [if_neg q3] at h
        refine g_iconst hX dX9_pass_28 k_0 ?_
        refine g_istore_n (lc' := [some _, some _, some _, some _, none]) hX dX9_pass_29 rfl (by decide) rfl rfl ?_
        refine g_iconst hX dX9_pass_30 k_0 ?_
        refine g_istore (lc' := [some _, some _, some _, some _, some _]) hX dX9_pass_31 (by decide) rfl rfl ?_
        exact g_weak (lc' := [some _, some _, some _, some _, some _]) ⟨rfl, rfl, rfl, rfl, rfl, trivial⟩ (t_X9_pass_33 hX 2000 _ _ _ _ _ h)
      · rw [if_pos q3] at h
        exact g_weak (lc' := [some _, none, none, none, none]) ⟨rfl, trivial⟩ (t_X9_pass_21 hX _ h)
set_option maxRecDepth 100000 in
set_option maxHeartbeats 4000000 in
theorem c_X9_person {l : Launch} {D : DT} {μ : Mem} {r : Int32} {μ' : Mem} (v1 : Int32) (h : f_X9_person v1 μ = some (r, μ')) : Ct l D false 3 yX9_person cX9_person 3 (some FieldType.int) [.ref (D.1 0), .int v1] μ (some (.int r)) μ' := by
  refine Ct.of (own := RX9) (lc0 := [some (.ref (D.1 0)), some (.int v1), none]) pn_X9 rfl (Nat.le_of_ble_eq_true rfl) rfl mv_X9_person.2.2.2.1 (fun X hX => ?_)
  unfold f_X9_person at h
  refine g_iload_n hX dX9_person_0 rfl rfl ?_
  refine g_callSi hX (c_X9_isKm  v1) mv_X9_isKm wm_1044 (by decide) rfl rfl (Nat.le_of_ble_eq_true rfl) dX9_person_1 ?_
  refine g_if_ne (tgt := 14) hX dX9_person_4 (by decide) (fun q1 => ?_) (fun q1 => ?_)
  · rw [if_neg q1] at h
    refine g_aload_n hX dX9_person_14 rfl rfl ?_
    refine g_getr hX kd_false_0 fg_9_0 tf_9_0 w_970 sr_false_0_0 dX9_person_15 ?_
    refine g_iconst hX dX9_person_18 k_2 ?_
    refine g_iald hX wk_9_0.1 wk_9_0.2 (by decide) dX9_person_19 ?_
    refine g_istore_n (lc' := [some _, some _, some _]) hX dX9_person_20 rfl (by decide) rfl rfl ?_
    refine g_iload_n hX dX9_person_21 rfl rfl ?_
    refine g_bipush hX dX9_person_22 kb_6 ?_
    refine g_icmp_ne (tgt := 34) hX dX9_person_24 (by decide) (fun q2 => ?_) (fun q2 => ?_)
    · rw [if_neg q2] at h
      refine g_aload_n hX dX9_person_34 rfl rfl ?_
      refine g_getr hX kd_false_0 fg_9_0 tf_9_0 w_970 sr_false_0_0 dX9_person_35 ?_
      refine g_iconst hX dX9_person_38 k_2 ?_
      refine g_dup2 hX dX9_person_39 rfl rfl ?_
      refine g_iald hX wk_9_0.1 wk_9_0.2 (by decide) dX9_person_40 ?_
      refine g_iconst hX dX9_person_41 k_1 ?_
      refine g_iadd hX dX9_person_42 ?_
      obtain ⟨μ3, hμ3, h⟩ := wr_some h
      refine g_iastM hX wk_9_0.1 wk_9_0.2 (by decide) dX9_person_43 hμ3 ?_
      refine g_aload_n hX dX9_person_44 rfl rfl ?_
      refine g_getr hX kd_false_0 fg_9_0 tf_9_0 w_970 sr_false_0_0 dX9_person_45 ?_
      refine g_bipush hX dX9_person_48 kb_15 ?_
      refine g_iconst hX dX9_person_50 k_2 ?_
      refine g_iload_n hX dX9_person_51 rfl rfl ?_
      refine g_imul hX dX9_person_52 ?_
      refine g_iadd hX dX9_person_53 ?_
      refine g_iload_n hX dX9_person_54 rfl rfl ?_
      refine g_bipush hX dX9_person_55 kb_10 ?_
      refine g_idiv hX (by decide) dX9_person_57 ?_
      obtain ⟨z5, h⟩ := ck_some h
      obtain ⟨μ4, hμ4, h⟩ := wr_some h
      refine g_iastM hX wk_9_0.1 wk_9_0.2 z5 dX9_person_58 hμ4 ?_
      refine g_aload_n hX dX9_person_59 rfl rfl ?_
      refine g_getr hX kd_false_0 fg_9_0 tf_9_0 w_970 sr_false_0_0 dX9_person_60 ?_
      refine g_bipush hX dX9_person_63 kb_15 ?_
      refine g_iconst hX dX9_person_65 k_2 ?_
      refine g_iload_n hX dX9_person_66 rfl rfl ?_
      refine g_imul hX dX9_person_67 ?_
      refine g_iadd hX dX9_person_68 ?_
      refine g_iconst hX dX9_person_69 k_1 ?_
      refine g_iadd hX dX9_person_70 ?_
      refine g_iload_n hX dX9_person_71 rfl rfl ?_
      refine g_bipush hX dX9_person_72 kb_10 ?_
      refine g_irem hX (by decide) dX9_person_74 ?_
      obtain ⟨z7, h⟩ := ck_some h
      obtain ⟨μ6, hμ6, h⟩ := wr_some h
      refine g_iastM hX wk_9_0.1 wk_9_0.2 z7 dX9_person_75 hμ6 ?_
      refine g_iload_n hX dX9_person_76 rfl rfl ?_
      obtain ⟨rfl, rfl⟩ := pair_inj h
      exact g_iret hX rfl rfl dX9_person_77
    · rw [if_pos q2] at h
      refine g_aload_n hX dX9_person_27 rfl rfl ?_
      refine g_ldc hX dX9_person_28 wc_1056 ?_
      obtain ⟨r8, μ9, hr8, h⟩ := bd2_some h
      refine g_callVi hX (c_X9_error  _ hr8) mv_X9_error wm_1051 kd_false_0 rfl (by decide) (by decide) rfl rfl (Nat.le_of_ble_eq_true rfl) dX9_person_30 ?_
      obtain ⟨rfl, rfl⟩ := pair_inj h
      exact g_iret hX rfl rfl dX9_person_33
  · rw [if_pos q1] at h
    refine g_aload_n hX dX9_person_7 rfl rfl ?_
    refine g_ldc hX dX9_person_8 wc_1050 ?_
    obtain ⟨r10, μ11, hr10, h⟩ := bd2_some h
    refine g_callVi hX (c_X9_error  _ hr10) mv_X9_error wm_1051 kd_false_0 rfl (by decide) (by decide) rfl rfl (Nat.le_of_ble_eq_true rfl) dX9_person_10 ?_
    obtain ⟨rfl, rfl⟩ := pair_inj h
    exact g_iret hX rfl rfl dX9_person_13
set_option maxRecDepth 100000 in
set_option maxHeartbeats 4000000 in
theorem c_X9_personIs {l : Launch} {D : DT} {μ : Mem} {r : Int32} {μ' : Mem} (v1 : Int32) (v2 : Int32) (h : f_X9_personIs v1 v2 μ = some (r, μ')) : Ct l D false 6 yX9_personIs cX9_personIs 3 (some FieldType.int) [.ref (D.1 0), .int v1, .int v2] μ (some (.int r)) μ' := by
  refine Ct.of (own := RX9) (lc0 := [some (.ref (D.1 0)), some (.int v1), some (.int v2)]) pn_X9 rfl (Nat.le_of_ble_eq_true rfl) rfl mv_X9_personIs.2.2.2.1 (fun X hX => ?_)
  unfold f_X9_personIs at h
  refine g_aload_n hX dX9_personIs_0 rfl rfl ?_
  refine g_iload_n hX dX9_personIs_1 rfl rfl ?_
  refine g_callVi hX (c_X9_isPerson  v1) mv_X9_isPerson wm_1061 kd_false_0 rfl (by decide) (by decide) rfl rfl (Nat.le_of_ble_eq_true rfl) dX9_personIs_2 ?_
  refine g_if_ne (tgt := 15) hX dX9_personIs_5 (by decide) (fun q1 => ?_) (fun q1 => ?_)
  · rw [if_neg q1] at h
    refine g_iload_n hX dX9_personIs_15 rfl rfl ?_
    by_cases q2 : v2 = 0 ∨ v2 = 1
    · rw [if_pos q2] at h
      refine g_tsIn (tgt := 52) (off := 36) hX dX9_personIs_16 (by rcases q2 with e | e <;> rw [e] <;> decide) (by rcases q2 with e | e <;> rw [e] <;> decide) (by rcases q2 with e | e <;> rw [e] <;> rfl) (by decide) ?_
      refine g_aload_n hX dX9_personIs_52 rfl rfl ?_
      refine g_iload_n hX dX9_personIs_53 rfl rfl ?_
      refine g_iload_n hX dX9_personIs_54 rfl rfl ?_
      obtain ⟨r3, hr3, h⟩ := bd_some h
      refine g_callVi hX (c_X9_of  _ _ hr3) mv_X9_of wm_1065 kd_false_0 rfl (by decide) (by decide) rfl rfl (Nat.le_of_ble_eq_true rfl) dX9_personIs_55 ?_
      obtain ⟨rfl, rfl⟩ := pair_inj h
      exact g_iret hX rfl rfl dX9_personIs_58
    rw [if_neg q2] at h
    have eq2_0 := ts_ne (c := 0) (k := 0) (fun e => q2 (Or.inl e)) (by decide)
    have eq2_1 := ts_ne (c := 1) (k := 1) (fun e => q2 (Or.inr e)) (by decide)
    by_cases q4 : v2 = 2
    · rw [if_pos q4] at h
      refine g_tsIn (tgt := 59) (off := 43) hX dX9_personIs_16 (by rw [q4] <;> decide) (by rw [q4] <;> decide) (by rw [q4] <;> rfl) (by decide) ?_
      refine g_aload_n hX dX9_personIs_59 rfl rfl ?_
      refine g_iload_n hX dX9_personIs_60 rfl rfl ?_
      obtain ⟨r5, hr5, h⟩ := bd_some h
      refine g_callVi hX (c_X9_howManyBy  _ hr5) mv_X9_howManyBy wm_1069 kd_false_0 rfl (by decide) (by decide) rfl rfl (Nat.le_of_ble_eq_true rfl) dX9_personIs_61 ?_
      obtain ⟨rfl, rfl⟩ := pair_inj h
      exact g_iret hX rfl rfl dX9_personIs_64
    rw [if_neg q4] at h
    have eq4_2 := ts_ne (c := 2) (k := 2) q4 (by decide)
    by_cases q6 : v2 = 3
    · rw [if_pos q6] at h
      refine g_tsIn (tgt := 65) (off := 49) hX dX9_personIs_16 (by rw [q6] <;> decide) (by rw [q6] <;> decide) (by rw [q6] <;> rfl) (by decide) ?_
      refine g_aload_n hX dX9_personIs_65 rfl rfl ?_
      refine g_iload_n hX dX9_personIs_66 rfl rfl ?_
      obtain ⟨r7, μ8, hr7, h⟩ := bd2_some h
      refine g_callVi hX (c_X9_loadOf  _ hr7) mv_X9_loadOf wm_1077 kd_false_0 rfl (by decide) (by decide) rfl rfl (Nat.le_of_ble_eq_true rfl) dX9_personIs_67 ?_
      obtain ⟨rfl, rfl⟩ := pair_inj h
      exact g_iret hX rfl rfl dX9_personIs_70
    rw [if_neg q6] at h
    have eq6_3 := ts_ne (c := 3) (k := 3) q6 (by decide)
    by_cases q9 : v2 = 4
    · rw [if_pos q9] at h
      refine g_tsIn (tgt := 71) (off := 55) hX dX9_personIs_16 (by rw [q9] <;> decide) (by rw [q9] <;> decide) (by rw [q9] <;> rfl) (by decide) ?_
      refine g_aload_n hX dX9_personIs_71 rfl rfl ?_
      refine g_iload_n hX dX9_personIs_72 rfl rfl ?_
      obtain ⟨r10, hr10, h⟩ := bd_some h
      refine g_callVi hX (c_X9_roomOf  _ hr10) mv_X9_roomOf wm_1107 kd_false_0 rfl (by decide) (by decide) rfl rfl (Nat.le_of_ble_eq_true rfl) dX9_personIs_73 ?_
      obtain ⟨rfl, rfl⟩ := pair_inj h
      exact g_iret hX rfl rfl dX9_personIs_76
    rw [if_neg q9] at h
    have eq9_4 := ts_ne (c := 4) (k := 4) q9 (by decide)
    refine g_tsOut (tgt := 77) hX dX9_personIs_16 (by omega) (by decide) ?_
    refine g_aload_n hX dX9_personIs_77 rfl rfl ?_
    refine g_ldc hX dX9_personIs_78 wc_1050 ?_
    obtain ⟨r11, μ12, hr11, h⟩ := bd2_some h
    refine g_callVi hX (c_X9_error  _ hr11) mv_X9_error wm_1051 kd_false_0 rfl (by decide) (by decide) rfl rfl (Nat.le_of_ble_eq_true rfl) dX9_personIs_80 ?_
    obtain ⟨rfl, rfl⟩ := pair_inj h
    exact g_iret hX rfl rfl dX9_personIs_83
  · rw [if_pos q1] at h
    refine g_aload_n hX dX9_personIs_8 rfl rfl ?_
    refine g_ldc hX dX9_personIs_9 wc_1050 ?_
    obtain ⟨r13, μ14, hr13, h⟩ := bd2_some h
    refine g_callVi hX (c_X9_error  _ hr13) mv_X9_error wm_1051 kd_false_0 rfl (by decide) (by decide) rfl rfl (Nat.le_of_ble_eq_true rfl) dX9_personIs_11 ?_
    obtain ⟨rfl, rfl⟩ := pair_inj h
    exact g_iret hX rfl rfl dX9_personIs_14
set_option maxRecDepth 100000 in
set_option maxHeartbeats 4000000 in
theorem c_X9_plainWhistles {l : Launch} {D : DT} {μ : Mem} {r : Int32} {μ' : Mem} (v1 : Int32) (v2 : Int32) (h : f_X9_plainWhistles v1 v2 μ = some (r, μ')) : Ct l D false 8 yX9_plainWhistles cX9_plainWhistles 3 (some FieldType.int) [.ref (D.1 0), .int v1, .int v2] μ (some (.int r)) μ' := by
  refine Ct.of (own := RX9) (lc0 := [some (.ref (D.1 0)), some (.int v1), some (.int v2)]) pn_X9 rfl (Nat.le_of_ble_eq_true rfl) rfl mv_X9_plainWhistles.2.2.2.1 (fun X hX => ?_)
  unfold f_X9_plainWhistles at h
  refine g_aload_n hX dX9_plainWhistles_0 rfl rfl ?_
  refine g_bipush hX dX9_plainWhistles_1 kb_12 ?_
  obtain ⟨μ1, hμ1, h⟩ := bd_some h
  refine g_callVv hX (c_X9_begins  _ hμ1) mv_X9_begins wm_1367 kd_false_0 rfl (by decide) (by decide) rfl rfl (Nat.le_of_ble_eq_true rfl) dX9_plainWhistles_3 ?_
  refine g_aload_n hX dX9_plainWhistles_6 rfl rfl ?_
  refine g_iload_n hX dX9_plainWhistles_7 rfl rfl ?_
  refine g_iload_n hX dX9_plainWhistles_8 rfl rfl ?_
  obtain ⟨r2, μ3, hr2, h⟩ := bd2_some h
  refine g_callVi hX (c_X9_minds  _ _ hr2) mv_X9_minds wm_1375 kd_false_0 rfl (by decide) (by decide) rfl rfl (Nat.le_of_ble_eq_true rfl) dX9_plainWhistles_9 ?_
  refine g_aload_n hX dX9_plainWhistles_12 rfl rfl ?_
  refine g_iload_n hX dX9_plainWhistles_13 rfl rfl ?_
  refine g_iconst hX dX9_plainWhistles_14 k_1 ?_
  obtain ⟨r4, hr4, h⟩ := bd_some h
  refine g_callVi hX (c_X9_of  _ _ hr4) mv_X9_of wm_1065 kd_false_0 rfl (by decide) (by decide) rfl rfl (Nat.le_of_ble_eq_true rfl) dX9_plainWhistles_15 ?_
  refine g_isub hX dX9_plainWhistles_18 ?_
  obtain ⟨rfl, rfl⟩ := pair_inj h
  exact g_iret hX rfl rfl dX9_plainWhistles_19
set_option maxRecDepth 100000 in
set_option maxHeartbeats 4000000 in
theorem t_X9_put_92 {l : Launch} {D : DT} {X : XT} {r : Int32} {μ' : Mem} (hX : Cx l D false X 4 RX9 cX9_put 5 (some FieldType.int)) : ∀ (s1 : Int32) (s2 : Int32) (μ : Mem), f_X9_put_92 s1 s2 μ = some (r, μ') → G l D false X 5 (some (.int r)) μ' 92 [none, none, none, none, none] [.int s2, .int s1, .ref (D.1 7)] μ := by
  intro s1 s2 μ h
  unfold f_X9_put_92 at h
  obtain ⟨z2, h⟩ := ck_some h
  obtain ⟨μ1, hμ1, h⟩ := wr_some h
  refine g_iastM hX wk_9_7.1 wk_9_7.2 z2 dX9_put_92 hμ1 ?_
  refine g_iconst hX dX9_put_93 k_1 ?_
  obtain ⟨rfl, rfl⟩ := pair_inj h
  exact g_iret hX rfl rfl dX9_put_94
set_option maxRecDepth 100000 in
set_option maxHeartbeats 4000000 in
theorem t_X9_put_35 {l : Launch} {D : DT} {X : XT} {r : Int32} {μ' : Mem} (hX : Cx l D false X 4 RX9 cX9_put 5 (some FieldType.int)) : ∀ (v1 : Int32) (v2 : Int32) (v3 : Int32) (s0 : Int32) (μ : Mem), f_X9_put_35 v1 v2 v3 s0 μ = some (r, μ') → G l D false X 5 (some (.int r)) μ' 35 [some (.ref (D.1 0)), some (.int v1), some (.int v2), some (.int v3), none] [.int s0] μ := by
  intro v1 v2 v3 s0 μ h
  unfold f_X9_put_35 at h
  refine g_istore (lc' := [some _, some _, some _, some _, some _]) hX dX9_put_35 (by decide) rfl rfl ?_
  refine g_iload hX dX9_put_37 rfl ?_
  refine g_if_eq (tgt := 49) hX dX9_put_39 (by decide) (fun q1 => ?_) (fun q1 => ?_)
  · rw [if_pos q1] at h
    refine g_aload_n hX dX9_put_49 rfl rfl ?_
    refine g_getr hX kd_false_0 fg_9_7 tf_9_7 w_977 sr_false_0_7 dX9_put_50 ?_
    refine g_bipush hX dX9_put_53 kb_24 ?_
    refine g_iload_n hX dX9_put_55 rfl rfl ?_
    refine g_imul hX dX9_put_56 ?_
    refine g_iload_n hX dX9_put_57 rfl rfl ?_
    refine g_iadd hX dX9_put_58 ?_
    refine g_aload_n hX dX9_put_59 rfl rfl ?_
    refine g_getr hX kd_false_0 fg_9_5 tf_9_5 w_975 sr_false_0_5 dX9_put_60 ?_
    refine g_iload_n hX dX9_put_63 rfl rfl ?_
    obtain ⟨z2, h⟩ := ck_some h
    refine g_iald hX wk_9_5.1 wk_9_5.2 z2 dX9_put_64 ?_
    refine g_bipush hX dX9_put_65 kb_8 ?_
    refine g_icmp_ne (tgt := 75) hX dX9_put_67 (by decide) (fun q3 => ?_) (fun q3 => ?_)
    · rw [if_neg q3] at h
      refine g_aload_n hX dX9_put_75 rfl rfl ?_
      refine g_getr hX kd_false_0 fg_9_5 tf_9_5 w_975 sr_false_0_5 dX9_put_76 ?_
      refine g_iload_n hX dX9_put_79 rfl rfl ?_
      obtain ⟨z4, h⟩ := ck_some h
      refine g_iald hX wk_9_5.1 wk_9_5.2 z4 dX9_put_80 ?_
      refine g_bipush hX dX9_put_81 kb_16 ?_
      refine g_icmp_ne (tgt := 91) hX dX9_put_83 (by decide) (fun q5 => ?_) (fun q5 => ?_)
      · rw [if_neg q5] at h
        refine g_iload_n hX dX9_put_91 rfl rfl ?_
        exact g_weak (lc' := [none, none, none, none, none]) trivial (t_X9_put_92 hX _ _ _ h)
      · rw [if_pos q5] at h
        refine g_iload_n hX dX9_put_86 rfl rfl ?_
        refine g_i2s hX dX9_put_87 ?_
        refine g_goto (tgt := 92) hX dX9_put_88 (by decide) ?_
        exact g_weak (lc' := [none, none, none, none, none]) trivial (t_X9_put_92 hX _ _ _ h)
    · rw [if_pos q3] at h
      refine g_iload_n hX dX9_put_70 rfl rfl ?_
      refine g_i2b hX dX9_put_71 ?_
      refine g_goto (tgt := 92) hX dX9_put_72 (by decide) ?_
      exact g_weak (lc' := [none, none, none, none, none]) trivial (t_X9_put_92 hX _ _ _ h)
  · rw [if_neg q1] at h
    refine g_aload_n hX dX9_put_42 rfl rfl ?_
    refine g_iload hX dX9_put_43 rfl ?_
    obtain ⟨r6, μ7, hr6, h⟩ := bd2_some h
    refine g_callVi hX (c_X9_error  _ hr6) mv_X9_error wm_1051 kd_false_0 rfl (by decide) (by decide) rfl rfl (Nat.le_of_ble_eq_true rfl) dX9_put_45 ?_
    obtain ⟨rfl, rfl⟩ := pair_inj h
    exact g_iret hX rfl rfl dX9_put_48
set_option maxRecDepth 100000 in
set_option maxHeartbeats 4000000 in
theorem t_X9_put_33 {l : Launch} {D : DT} {X : XT} {r : Int32} {μ' : Mem} (hX : Cx l D false X 4 RX9 cX9_put 5 (some FieldType.int)) : ∀ (v1 : Int32) (v2 : Int32) (v3 : Int32) (v4 : Int32) (μ : Mem), f_X9_put_33 v1 v2 v3 v4 μ = some (r, μ') → G l D false X 5 (some (.int r)) μ' 33 [some (.ref (D.1 0)), some (.int v1), some (.int v2), some (.int v3), some (.int v4)] [] μ := by
  intro v1 v2 v3 v4 μ h
  unfold f_X9_put_33 at h
  refine g_iload hX dX9_put_33 rfl ?_
  exact g_weak (lc' := [some _, some _, some _, some _, none]) ⟨rfl, rfl, rfl, rfl, trivial⟩ (t_X9_put_35 hX _ _ _ _ _ h)
set_option maxRecDepth 100000 in
set_option maxHeartbeats 4000000 in
theorem c_X9_put {l : Launch} {D : DT} {μ : Mem} {r : Int32} {μ' : Mem} (v1 : Int32) (v2 : Int32) (v3 : Int32) (h : f_X9_put v1 v2 v3 μ = some (r, μ')) : Ct l D false 4 yX9_put cX9_put 5 (some FieldType.int) [.ref (D.1 0), .int v1, .int v2, .int v3] μ (some (.int r)) μ' := by
  refine Ct.of (own := RX9) (lc0 := [some (.ref (D.1 0)), some (.int v1), some (.int v2), some (.int v3), none]) pn_X9 rfl (Nat.le_of_ble_eq_true rfl) rfl mv_X9_put.2.2.2.1 (fun X hX => ?_)
  unfold f_X9_put at h
  refine g_aload_n hX dX9_put_0 rfl rfl ?_
  refine g_iload_n hX dX9_put_1 rfl rfl ?_
  obtain ⟨r1, hr1, h⟩ := bd_some h
  refine g_callVi hX (c_X9_notThere  _ hr1) mv_X9_notThere wm_1344 kd_false_0 rfl (by decide) (by decide) rfl rfl (Nat.le_of_ble_eq_true rfl) dX9_put_2 ?_
  refine g_istore (lc' := [some _, some _, some _, some _, some _]) hX dX9_put_5 (by decide) rfl rfl ?_
  refine g_iload hX dX9_put_7 rfl ?_
  refine g_if_ne (tgt := 33) hX dX9_put_9 (by decide) (fun q2 => ?_) (fun q2 => ?_)
  · rw [if_neg q2] at h
    exact g_weak (lc' := [some _, some _, some _, some _, some _]) ⟨rfl, rfl, rfl, rfl, rfl, trivial⟩ (t_X9_put_33 hX _ _ _ _ _ h)
  · rw [if_pos q2] at h
    refine g_iload_n hX dX9_put_12 rfl rfl ?_
    refine g_iconst hX dX9_put_13 k_0 ?_
    refine g_aload_n hX dX9_put_14 rfl rfl ?_
    refine g_getr hX kd_false_0 fg_9_6 tf_9_6 w_976 sr_false_0_6 dX9_put_15 ?_
    refine g_iload_n hX dX9_put_18 rfl rfl ?_
    obtain ⟨z3, h⟩ := ck_some h
    refine g_iald hX wk_9_6.1 wk_9_6.2 z3 dX9_put_19 ?_
    refine g_iconst hX dX9_put_20 k_1 ?_
    refine g_isub hX dX9_put_21 ?_
    refine g_callSi hX (c_X9_in  v2 0 ((μ 6 (ix v1)) - 1)) mv_X9_in wm_1047 (by decide) rfl rfl (Nat.le_of_ble_eq_true rfl) dX9_put_22 ?_
    refine g_if_ne (tgt := 33) hX dX9_put_25 (by decide) (fun q4 => ?_) (fun q4 => ?_)
    · rw [if_neg q4] at h
      exact g_weak (lc' := [some _, some _, some _, some _, some _]) ⟨rfl, rfl, rfl, rfl, rfl, trivial⟩ (t_X9_put_33 hX _ _ _ _ _ h)
    · rw [if_pos q4] at h
      refine g_ldc hX dX9_put_28 wc_1050 ?_
      refine g_goto (tgt := 35) hX dX9_put_30 (by decide) ?_
      exact g_weak (lc' := [some _, some _, some _, some _, none]) ⟨rfl, rfl, rfl, rfl, trivial⟩ (t_X9_put_35 hX _ _ _ _ _ h)
set_option maxRecDepth 100000 in
set_option maxHeartbeats 4000000 in
theorem c_X9_restore {l : Launch} {D : DT} {μ : Mem} {r : Int32} {μ' : Mem} (h : f_X9_restore μ = some (r, μ')) : Ct l D false 2 yX9_restore cX9_restore 1 (some FieldType.int) [.ref (D.1 0)] μ (some (.int r)) μ' := by
  refine Ct.of (own := RX9) (lc0 := [some (.ref (D.1 0))]) pn_X9 rfl (Nat.le_of_ble_eq_true rfl) rfl mv_X9_restore.2.2.2.1 (fun X hX => ?_)
  unfold f_X9_restore at h
  refine g_aload_n hX dX9_restore_0 rfl rfl ?_
  refine g_geti hX kd_false_0 fg_9_3 tf_9_3 w_973 dX9_restore_1 ?_
  refine g_if_ne (tgt := 14) hX dX9_restore_4 (by decide) (fun q1 => ?_) (fun q1 => ?_)
  · rw [if_neg q1] at h
    refine g_aload_n hX dX9_restore_14 rfl rfl ?_
    refine g_getr hX kd_false_0 fg_9_1 tf_9_1 w_971 sr_false_0_1 dX9_restore_15 ?_
    refine g_aload_n hX dX9_restore_18 rfl rfl ?_
    refine g_getr hX kd_false_0 fg_9_0 tf_9_0 w_970 sr_false_0_0 dX9_restore_19 ?_
    obtain ⟨μ2, hμ2, h⟩ := bd_some h
    refine g_callSv hX (c_X9_copyAll wk_9_1.1 wk_9_0.1 hμ2) mv_X9_copyAll wm_1285 (by decide) rfl rfl (Nat.le_of_ble_eq_true rfl) dX9_restore_22 ?_
    refine g_aload_n hX dX9_restore_25 rfl rfl ?_
    refine g_getr hX kd_false_0 fg_9_0 tf_9_0 w_970 sr_false_0_0 dX9_restore_26 ?_
    refine g_iconst hX dX9_restore_29 k_0 ?_
    refine g_iald hX wk_9_0.1 wk_9_0.2 (by decide) dX9_restore_30 ?_
    obtain ⟨rfl, rfl⟩ := pair_inj h
    exact g_iret hX rfl rfl dX9_restore_31
  · rw [if_pos q1] at h
    refine g_aload_n hX dX9_restore_7 rfl rfl ?_
    refine g_ldc hX dX9_restore_8 wc_1296 ?_
    obtain ⟨r3, μ4, hr3, h⟩ := bd2_some h
    refine g_callVi hX (c_X9_error  _ hr3) mv_X9_error wm_1051 kd_false_0 rfl (by decide) (by decide) rfl rfl (Nat.le_of_ble_eq_true rfl) dX9_restore_10 ?_
    obtain ⟨rfl, rfl⟩ := pair_inj h
    exact g_iret hX rfl rfl dX9_restore_13
