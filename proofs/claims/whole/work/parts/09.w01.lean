set_option maxRecDepth 100000 in
set_option maxHeartbeats 4000000 in
theorem t_X1_workedOut_159 {l : Launch} {D : DT} {X : XT} {o : Nat} {r : Int32} {μ' : Mem} (hX : Cx l D true X 2 RX1 cX1_workedOut 7 (some FieldType.int)) (ho : kd true o = 1) : ∀ (μ : Mem), f_X1_workedOut_159 o μ = some (r, μ') → G l D true X 7 (some (.int r)) μ' 159 [some (.ref (D.1 o)), none, none, none, none, none, none] [] μ := by
  intro μ h
  unfold f_X1_workedOut_159 at h
  refine g_aload_n hX dX1_workedOut_159 rfl rfl ?_
  refine g_getr hX ho fg_1_3 tf_1_3 w_126 (wo_1_3 ho) dX1_workedOut_160 ?_
  refine g_iconst hX dX1_workedOut_163 k_0 ?_
  refine g_iald hX (wk_1_3 ho).1 (wk_1_3 ho).2 (by decide) dX1_workedOut_164 ?_
  obtain ⟨rfl, rfl⟩ := pair_inj h
  exact g_iret hX rfl rfl dX1_workedOut_165
set_option maxRecDepth 100000 in
set_option maxHeartbeats 4000000 in
theorem t_X1_workedOut_113 {l : Launch} {D : DT} {X : XT} {o : Nat} {k6 : Int32 → Int32 → Int32 → Int32 → Int32 → Mem → Option (Int32 × Mem)} {r : Int32} {μ' : Mem} (hX : Cx l D true X 2 RX1 cX1_workedOut 7 (some FieldType.int)) (ho : kd true o = 1) (hk6 : ∀ (v1 : Int32) (v2 : Int32) (v3 : Int32) (v4 : Int32) (v5 : Int32) (μ : Mem), k6 v1 v2 v3 v4 v5 μ = some (r, μ') → G l D true X 7 (some (.int r)) μ' 6 [some (.ref (D.1 o)), some (.int v1), some (.int v2), some (.int v3), some (.int v4), some (.int v5), none] [] μ) : ∀ (v1 : Int32) (v2 : Int32) (v3 : Int32) (v4 : Int32) (v5 : Int32) (v6 : Int32) (μ : Mem), f_X1_workedOut_113 k6 o v1 v2 v3 v4 v5 v6 μ = some (r, μ') → G l D true X 7 (some (.int r)) μ' 113 [some (.ref (D.1 o)), some (.int v1), some (.int v2), some (.int v3), some (.int v4), some (.int v5), some (.int v6)] [] μ := by
  intro v1 v2 v3 v4 v5 v6 μ h
  unfold f_X1_workedOut_113 at h
  refine g_iload hX dX1_workedOut_113 rfl ?_
  refine g_iconst hX dX1_workedOut_115 k_1 ?_
  refine g_icmp_le (tgt := 153) hX dX1_workedOut_116 (by decide) (fun q1 => ?_) (fun q1 => ?_)
  · rw [if_pos q1] at h
    refine g_iinc (lc' := [some _, some _, some _, some _, some _, some _, some _]) hX dX1_workedOut_153 (by decide) rfl (congrArg _ k_1) rfl rfl ?_
    refine g_goto (tgt := 6) hX dX1_workedOut_156 (by decide) ?_
    exact g_weak (lc' := [some _, some _, some _, some _, some _, some _, none]) ⟨rfl, rfl, rfl, rfl, rfl, rfl, trivial⟩ (hk6 _ _ _ _ _ _ h)
  · rw [if_neg q1] at h
    refine g_iinc (lc' := [some _, some _, some _, some _, some _, some _, some _]) hX dX1_workedOut_119 (by decide) rfl (congrArg _ k_m1) rfl rfl ?_
    refine g_aload_n hX dX1_workedOut_122 rfl rfl ?_
    refine g_getr hX ho fg_1_3 tf_1_3 w_126 (wo_1_3 ho) dX1_workedOut_123 ?_
    refine g_iload hX dX1_workedOut_126 rfl ?_
    refine g_iconst hX dX1_workedOut_128 k_1 ?_
    refine g_isub hX dX1_workedOut_129 ?_
    refine g_iload hX dX1_workedOut_130 rfl ?_
    refine g_ineg hX dX1_workedOut_132 ?_
    refine g_aload_n hX dX1_workedOut_133 rfl rfl ?_
    refine g_getr hX ho fg_1_3 tf_1_3 w_126 (wo_1_3 ho) dX1_workedOut_134 ?_
    refine g_iload hX dX1_workedOut_137 rfl ?_
    refine g_iconst hX dX1_workedOut_139 k_1 ?_
    refine g_isub hX dX1_workedOut_140 ?_
    obtain ⟨z2, h⟩ := ck_some h
    refine g_iald hX (wk_1_3 ho).1 (wk_1_3 ho).2 z2 dX1_workedOut_141 ?_
    refine g_aload_n hX dX1_workedOut_142 rfl rfl ?_
    refine g_getr hX ho fg_1_3 tf_1_3 w_126 (wo_1_3 ho) dX1_workedOut_143 ?_
    refine g_iload hX dX1_workedOut_146 rfl ?_
    obtain ⟨z3, h⟩ := ck_some h
    refine g_iald hX (wk_1_3 ho).1 (wk_1_3 ho).2 z3 dX1_workedOut_148 ?_
    obtain ⟨r4, hr4, h⟩ := bd_some h
    refine g_callSi hX (c_X1_joined  _ _ _ hr4) mv_X1_joined wm_439 (by decide) rfl rfl (Nat.le_of_ble_eq_true rfl) dX1_workedOut_149 ?_
    obtain ⟨z6, h⟩ := ck_some h
    obtain ⟨μ5, hμ5, h⟩ := wr_some h
    refine g_iastM hX (wk_1_3 ho).1 (wk_1_3 ho).2 z6 dX1_workedOut_152 hμ5 ?_
    refine g_iinc (lc' := [some _, some _, some _, some _, some _, some _, some _]) hX dX1_workedOut_153 (by decide) rfl (congrArg _ k_1) rfl rfl ?_
    refine g_goto (tgt := 6) hX dX1_workedOut_156 (by decide) ?_
    exact g_weak (lc' := [some _, some _, some _, some _, some _, some _, none]) ⟨rfl, rfl, rfl, rfl, rfl, rfl, trivial⟩ (hk6 _ _ _ _ _ _ h)
set_option maxRecDepth 100000 in
set_option maxHeartbeats 4000000 in
theorem t_X1_workedOut_109 {l : Launch} {D : DT} {X : XT} {o : Nat} {k6 : Int32 → Int32 → Int32 → Int32 → Int32 → Mem → Option (Int32 × Mem)} {r : Int32} {μ' : Mem} (hX : Cx l D true X 2 RX1 cX1_workedOut 7 (some FieldType.int)) (ho : kd true o = 1) (hk6 : ∀ (v1 : Int32) (v2 : Int32) (v3 : Int32) (v4 : Int32) (v5 : Int32) (μ : Mem), k6 v1 v2 v3 v4 v5 μ = some (r, μ') → G l D true X 7 (some (.int r)) μ' 6 [some (.ref (D.1 o)), some (.int v1), some (.int v2), some (.int v3), some (.int v4), some (.int v5), none] [] μ) : ∀ (v1 : Int32) (v2 : Int32) (v3 : Int32) (v4 : Int32) (v5 : Int32) (s1 : Int32) (s2 : Int32) (μ : Mem), f_X1_workedOut_109 k6 o v1 v2 v3 v4 v5 s1 s2 μ = some (r, μ') → G l D true X 7 (some (.int r)) μ' 109 [some (.ref (D.1 o)), some (.int v1), some (.int v2), some (.int v3), some (.int v4), some (.int v5), none] [.int s2, .int s1, .ref (D.1 (o + 2))] μ := by
  intro v1 v2 v3 v4 v5 s1 s2 μ h
  unfold f_X1_workedOut_109 at h
  obtain ⟨z2, h⟩ := ck_some h
  obtain ⟨μ1, hμ1, h⟩ := wr_some h
  refine g_iastM hX (wk_1_3 ho).1 (wk_1_3 ho).2 z2 dX1_workedOut_109 hμ1 ?_
  refine g_goto (tgt := 153) hX dX1_workedOut_110 (by decide) ?_
  refine g_iinc (lc' := [some _, some _, some _, some _, some _, some _, none]) hX dX1_workedOut_153 (by decide) rfl (congrArg _ k_1) rfl rfl ?_
  refine g_goto (tgt := 6) hX dX1_workedOut_156 (by decide) ?_
  exact g_weak (lc' := [some _, some _, some _, some _, some _, some _, none]) ⟨rfl, rfl, rfl, rfl, rfl, rfl, trivial⟩ (hk6 _ _ _ _ _ _ h)
set_option maxRecDepth 100000 in
set_option maxHeartbeats 4000000 in
theorem t_X1_workedOut_72 {l : Launch} {D : DT} {X : XT} {o : Nat} {k6 : Int32 → Int32 → Int32 → Int32 → Int32 → Mem → Option (Int32 × Mem)} {r : Int32} {μ' : Mem} (hX : Cx l D true X 2 RX1 cX1_workedOut 7 (some FieldType.int)) (ho : kd true o = 1) (hk6 : ∀ (v1 : Int32) (v2 : Int32) (v3 : Int32) (v4 : Int32) (v5 : Int32) (μ : Mem), k6 v1 v2 v3 v4 v5 μ = some (r, μ') → G l D true X 7 (some (.int r)) μ' 6 [some (.ref (D.1 o)), some (.int v1), some (.int v2), some (.int v3), some (.int v4), some (.int v5), none] [] μ) : ∀ (v1 : Int32) (v2 : Int32) (v3 : Int32) (v4 : Int32) (v5 : Int32) (v6 : Int32) (μ : Mem), f_X1_workedOut_72 k6 o v1 v2 v3 v4 v5 v6 μ = some (r, μ') → G l D true X 7 (some (.int r)) μ' 72 [some (.ref (D.1 o)), some (.int v1), some (.int v2), some (.int v3), some (.int v4), some (.int v5), some (.int v6)] [] μ := by
  intro v1 v2 v3 v4 v5 v6 μ h
  unfold f_X1_workedOut_72 at h
  refine g_iload hX dX1_workedOut_72 rfl ?_
  refine g_bipush hX dX1_workedOut_74 kb_m33 ?_
  refine g_icmp_ne (tgt := 113) hX dX1_workedOut_76 (by decide) (fun q1 => ?_) (fun q1 => ?_)
  · rw [if_neg q1] at h
    exact g_weak (lc' := [some _, some _, some _, some _, some _, some _, some _]) ⟨rfl, rfl, rfl, rfl, rfl, rfl, rfl, trivial⟩ (t_X1_workedOut_113 hX ho hk6 _ _ _ _ _ _ _ h)
  · rw [if_pos q1] at h
    refine g_iload hX dX1_workedOut_79 rfl ?_
    refine g_if_le (tgt := 113) hX dX1_workedOut_81 (by decide) (fun q2 => ?_) (fun q2 => ?_)
    · rw [if_pos q2] at h
      exact g_weak (lc' := [some _, some _, some _, some _, some _, some _, some _]) ⟨rfl, rfl, rfl, rfl, rfl, rfl, rfl, trivial⟩ (t_X1_workedOut_113 hX ho hk6 _ _ _ _ _ _ _ h)
    · rw [if_neg q2] at h
      refine g_aload_n hX dX1_workedOut_84 rfl rfl ?_
      refine g_getr hX ho fg_1_3 tf_1_3 w_126 (wo_1_3 ho) dX1_workedOut_85 ?_
      refine g_iload hX dX1_workedOut_88 rfl ?_
      refine g_iconst hX dX1_workedOut_90 k_1 ?_
      refine g_isub hX dX1_workedOut_91 ?_
      refine g_aload_n hX dX1_workedOut_92 rfl rfl ?_
      refine g_getr hX ho fg_1_3 tf_1_3 w_126 (wo_1_3 ho) dX1_workedOut_93 ?_
      refine g_iload hX dX1_workedOut_96 rfl ?_
      refine g_iconst hX dX1_workedOut_98 k_1 ?_
      refine g_isub hX dX1_workedOut_99 ?_
      obtain ⟨z3, h⟩ := ck_some h
      refine g_iald hX (wk_1_3 ho).1 (wk_1_3 ho).2 z3 dX1_workedOut_100 ?_
      refine g_if_ne (tgt := 108) hX dX1_workedOut_101 (by decide) (fun q4 => ?_) (fun q4 => ?_)
      · rw [if_neg q4] at h
        refine g_iconst hX dX1_workedOut_108 k_0 ?_
        exact g_weak (lc' := [some _, some _, some _, some _, some _, some _, none]) ⟨rfl, rfl, rfl, rfl, rfl, rfl, trivial⟩ (t_X1_workedOut_109 hX ho hk6 _ _ _ _ _ _ _ _ h)
      · rw [if_pos q4] at h
        refine g_iconst hX dX1_workedOut_104 k_1 ?_
        refine g_goto (tgt := 109) hX dX1_workedOut_105 (by decide) ?_
        exact g_weak (lc' := [some _, some _, some _, some _, some _, some _, none]) ⟨rfl, rfl, rfl, rfl, rfl, rfl, trivial⟩ (t_X1_workedOut_109 hX ho hk6 _ _ _ _ _ _ _ _ h)
set_option maxRecDepth 100000 in
set_option maxHeartbeats 4000000 in
theorem t_X1_workedOut_6 {l : Launch} {D : DT} {X : XT} {o : Nat} {r : Int32} {μ' : Mem} (hX : Cx l D true X 2 RX1 cX1_workedOut 7 (some FieldType.int)) (ho : kd true o = 1) : ∀ (n : Nat) (v1 : Int32) (v2 : Int32) (v3 : Int32) (v4 : Int32) (v5 : Int32) (μ : Mem), f_X1_workedOut_6 o n v1 v2 v3 v4 v5 μ = some (r, μ') → G l D true X 7 (some (.int r)) μ' 6 [some (.ref (D.1 o)), some (.int v1), some (.int v2), some (.int v3), some (.int v4), some (.int v5), none] [] μ := by
  intro n
  induction n with
  | zero => intro v1 v2 v3 v4 v5 μ h; exact absurd h (by simp [f_X1_workedOut_6])
  | succ n ih =>
    intro v1 v2 v3 v4 v5 μ h
    rw [f_X1_workedOut_6] at h
    refine g_iload hX dX1_workedOut_6 rfl ?_
    refine g_aload_n hX dX1_workedOut_8 rfl rfl ?_
    refine g_geti hX ho fg_1_4 tf_1_4 w_127 dX1_workedOut_9 ?_
    refine g_icmp_ge (tgt := 159) hX dX1_workedOut_12 (by decide) (fun q1 => ?_) (fun q1 => ?_)
    · rw [if_pos q1] at h
      exact g_weak (lc' := [some _, none, none, none, none, none, none]) ⟨rfl, trivial⟩ (t_X1_workedOut_159 hX ho _ h)
    · rw [if_neg q1] at h
      refine g_iload hX dX1_workedOut_15 rfl ?_
      refine g_aload_n hX dX1_workedOut_17 rfl rfl ?_
      refine g_getr hX ho fg_1_2 tf_1_2 w_125 (wo_1_2 ho) dX1_workedOut_18 ?_
      refine g_alen hX (wk_1_2 ho).1 (wk_1_2 ho).2 len_60 dX1_workedOut_21 ?_
      refine g_icmp_ge (tgt := 159) hX dX1_workedOut_22 (by decide) (fun q2 => ?_) (fun q2 => ?_)
      · rw [if_pos q2] at h
        exact g_weak (lc' := [some _, none, none, none, none, none, none]) ⟨rfl, trivial⟩ (t_X1_workedOut_159 hX ho _ h)
      · rw [if_neg q2] at h
        refine g_aload_n hX dX1_workedOut_25 rfl rfl ?_
        refine g_getr hX ho fg_1_2 tf_1_2 w_125 (wo_1_2 ho) dX1_workedOut_26 ?_
        refine g_iload hX dX1_workedOut_29 rfl ?_
        obtain ⟨z3, h⟩ := ck_some h
        refine g_iald hX (wk_1_2 ho).1 (wk_1_2 ho).2 z3 dX1_workedOut_31 ?_
        refine g_istore (lc' := [some _, some _, some _, some _, some _, some _, some _]) hX dX1_workedOut_32 (by decide) rfl rfl ?_
        refine g_iload hX dX1_workedOut_34 rfl ?_
        refine g_bipush hX dX1_workedOut_36 kb_m3 ?_
        refine g_icmp_lt (tgt := 72) hX dX1_workedOut_38 (by decide) (fun q4 => ?_) (fun q4 => ?_)
        · rw [if_pos q4] at h
          exact g_weak (lc' := [some _, some _, some _, some _, some _, some _, some _]) ⟨rfl, rfl, rfl, rfl, rfl, rfl, rfl, trivial⟩ (t_X1_workedOut_72 hX ho ih _ _ _ _ _ _ _ h)
        · rw [if_neg q4] at h
          refine g_iload hX dX1_workedOut_41 rfl ?_
          refine g_aload_n hX dX1_workedOut_43 rfl rfl ?_
          refine g_getr hX ho fg_1_3 tf_1_3 w_126 (wo_1_3 ho) dX1_workedOut_44 ?_
          refine g_alen hX (wk_1_3 ho).1 (wk_1_3 ho).2 len_60 dX1_workedOut_47 ?_
          refine g_icmp_ge (tgt := 72) hX dX1_workedOut_48 (by decide) (fun q5 => ?_) (fun q5 => ?_)
          · rw [if_pos q5] at h
            exact g_weak (lc' := [some _, some _, some _, some _, some _, some _, some _]) ⟨rfl, rfl, rfl, rfl, rfl, rfl, rfl, trivial⟩ (t_X1_workedOut_72 hX ho ih _ _ _ _ _ _ _ h)
          · rw [if_neg q5] at h
            refine g_aload_n hX dX1_workedOut_51 rfl rfl ?_
            refine g_getr hX ho fg_1_3 tf_1_3 w_126 (wo_1_3 ho) dX1_workedOut_52 ?_
            refine g_iload hX dX1_workedOut_55 rfl ?_
            refine g_iload hX dX1_workedOut_57 rfl ?_
            refine g_iload_n hX dX1_workedOut_59 rfl rfl ?_
            refine g_iload_n hX dX1_workedOut_60 rfl rfl ?_
            refine g_iload_n hX dX1_workedOut_61 rfl rfl ?_
            refine g_callSi hX (c_X1_meant  (μ (o + 1) (ix v5)) v1 v2 v3) mv_X1_meant wm_436 (by decide) rfl rfl (Nat.le_of_ble_eq_true rfl) dX1_workedOut_62 ?_
            obtain ⟨z7, h⟩ := ck_some h
            obtain ⟨μ6, hμ6, h⟩ := wr_some h
            refine g_iastM hX (wk_1_3 ho).1 (wk_1_3 ho).2 z7 dX1_workedOut_65 hμ6 ?_
            refine g_iinc (lc' := [some _, some _, some _, some _, some _, some _, some _]) hX dX1_workedOut_66 (by decide) rfl (congrArg _ k_1) rfl rfl ?_
            refine g_goto (tgt := 153) hX dX1_workedOut_69 (by decide) ?_
            refine g_iinc (lc' := [some _, some _, some _, some _, some _, some _, some _]) hX dX1_workedOut_153 (by decide) rfl (congrArg _ k_1) rfl rfl ?_
            refine g_goto (tgt := 6) hX dX1_workedOut_156 (by decide) ?_
            exact g_weak (lc' := [some _, some _, some _, some _, some _, some _, none]) ⟨rfl, rfl, rfl, rfl, rfl, rfl, trivial⟩ (ih _ _ _ _ _ _ h)
set_option maxRecDepth 100000 in
set_option maxHeartbeats 4000000 in
theorem c_X1_workedOut {l : Launch} {D : DT} {o : Nat} {μ : Mem} {r : Int32} {μ' : Mem} (ho : kd true o = 1) (v1 : Int32) (v2 : Int32) (v3 : Int32) (h : f_X1_workedOut o v1 v2 v3 μ = some (r, μ')) : Ct l D true 2 yX1_workedOut cX1_workedOut 7 (some FieldType.int) [.ref (D.1 o), .int v1, .int v2, .int v3] μ (some (.int r)) μ' := by
  refine Ct.of (own := RX1) (lc0 := [some (.ref (D.1 o)), some (.int v1), some (.int v2), some (.int v3), none, none, none]) pn_X1 rfl (Nat.le_of_ble_eq_true rfl) rfl mv_X1_workedOut.2.2.2.1 (fun X hX => ?_)
  unfold f_X1_workedOut at h
  refine g_iconst hX dX1_workedOut_0 k_0 ?_
  refine g_istore (lc' := [some _, some _, some _, some _, some _, none, none]) hX dX1_workedOut_1 (by decide) rfl rfl ?_
  refine g_iconst hX dX1_workedOut_3 k_0 ?_
  refine g_istore (lc' := [some _, some _, some _, some _, some _, some _, none]) hX dX1_workedOut_4 (by decide) rfl rfl ?_
  exact g_weak (lc' := [some _, some _, some _, some _, some _, some _, none]) ⟨rfl, rfl, rfl, rfl, rfl, rfl, trivial⟩ (t_X1_workedOut_6 hX ho 2000 _ _ _ _ _ _ h)
set_option maxRecDepth 100000 in
set_option maxHeartbeats 4000000 in
theorem t_X1_gives_18 {l : Launch} {D : DT} {X : XT} {o : Nat} {r : Int32} {μ' : Mem} (hX : Cx l D true X 3 RX1 cX1_gives 5 (some FieldType.int)) (ho : kd true o = 1) : ∀ (s0 : Int32) (μ : Mem), f_X1_gives_18 o s0 μ = some (r, μ') → G l D true X 5 (some (.int r)) μ' 18 [some (.ref (D.1 o)), none, none, none, none] [.int s0] μ := by
  intro s0 μ h
  unfold f_X1_gives_18 at h
  refine g_istore (lc' := [some _, none, none, none, some _]) hX dX1_gives_18 (by decide) rfl rfl ?_
  refine g_iconst hX dX1_gives_20 k_0 ?_
  refine g_aload_n hX dX1_gives_21 rfl rfl ?_
  refine g_geti hX ho fg_1_1 tf_1_1 w_124 dX1_gives_22 ?_
  refine g_iload hX dX1_gives_25 rfl ?_
  refine g_mmin hX mmw_min wm_442 (by decide) (Nat.le_of_ble_eq_true rfl) dX1_gives_27 ?_
  refine g_mmax hX mmw_max wm_445 (by decide) (Nat.le_of_ble_eq_true rfl) dX1_gives_30 ?_
  obtain ⟨rfl, rfl⟩ := pair_inj h
  exact g_iret hX rfl rfl dX1_gives_33
set_option maxRecDepth 100000 in
set_option maxHeartbeats 4000000 in
theorem c_X1_gives {l : Launch} {D : DT} {o : Nat} {μ : Mem} {r : Int32} {μ' : Mem} (ho : kd true o = 1) (v1 : Int32) (v2 : Int32) (v3 : Int32) (h : f_X1_gives o v1 v2 v3 μ = some (r, μ')) : Ct l D true 3 yX1_gives cX1_gives 5 (some FieldType.int) [.ref (D.1 o), .int v1, .int v2, .int v3] μ (some (.int r)) μ' := by
  refine Ct.of (own := RX1) (lc0 := [some (.ref (D.1 o)), some (.int v1), some (.int v2), some (.int v3), none]) pn_X1 rfl (Nat.le_of_ble_eq_true rfl) rfl mv_X1_gives.2.2.2.1 (fun X hX => ?_)
  unfold f_X1_gives at h
  refine g_aload_n hX dX1_gives_0 rfl rfl ?_
  refine g_callVi hX (c_X1_isTold ho) mv_X1_isTold wm_428 ho rfl (by decide) (by decide) rfl rfl (Nat.le_of_ble_eq_true rfl) dX1_gives_1 ?_
  refine g_if_eq (tgt := 17) hX dX1_gives_4 (by decide) (fun q1 => ?_) (fun q1 => ?_)
  · rw [if_pos q1] at h
    refine g_iload_n hX dX1_gives_17 rfl rfl ?_
    exact g_weak (lc' := [some _, none, none, none, none]) ⟨rfl, trivial⟩ (t_X1_gives_18 hX ho _ _ h)
  · rw [if_neg q1] at h
    refine g_aload_n hX dX1_gives_7 rfl rfl ?_
    refine g_iload_n hX dX1_gives_8 rfl rfl ?_
    refine g_iload_n hX dX1_gives_9 rfl rfl ?_
    refine g_iload_n hX dX1_gives_10 rfl rfl ?_
    obtain ⟨r2, μ3, hr2, h⟩ := bd2_some h
    refine g_callVi hX (c_X1_workedOut ho _ _ _ hr2) mv_X1_workedOut wm_432 ho rfl (by decide) (by decide) rfl rfl (Nat.le_of_ble_eq_true rfl) dX1_gives_11 ?_
    refine g_goto (tgt := 18) hX dX1_gives_14 (by decide) ?_
    exact g_weak (lc' := [some _, none, none, none, none]) ⟨rfl, trivial⟩ (t_X1_gives_18 hX ho _ _ h)
set_option maxRecDepth 100000 in
set_option maxHeartbeats 4000000 in
theorem c_X2_weight {l : Launch} {D : DT} {o : Nat} {μ : Mem} {r : Int32} {μ' : Mem} (ho : kd true o = 2) (v1 : Int32) (v2 : Int32) (h : f_X2_weight o v1 v2 μ = some (r, μ')) : Ct l D true 4 yX2_weight cX2_weight 3 (some FieldType.int) [.ref (D.1 o), .int v1, .int v2] μ (some (.int r)) μ' := by
  refine Ct.of (own := RX2) (lc0 := [some (.ref (D.1 o)), some (.int v1), some (.int v2)]) pn_X2 rfl (Nat.le_of_ble_eq_true rfl) rfl mv_X2_weight.2.2.2.1 (fun X hX => ?_)
  unfold f_X2_weight at h
  refine g_aload_n hX dX2_weight_0 rfl rfl ?_
  refine g_iload_n hX dX2_weight_1 rfl rfl ?_
  refine g_callVi hX (c_X2_isOne ho v1) mv_X2_isOne wm_415 ho rfl (by decide) (by decide) rfl rfl (Nat.le_of_ble_eq_true rfl) dX2_weight_2 ?_
  refine g_if_eq (tgt := 16) hX dX2_weight_5 (by decide) (fun q1 => ?_) (fun q1 => ?_)
  · rw [if_pos q1] at h
    refine g_iconst hX dX2_weight_16 k_0 ?_
    obtain ⟨rfl, rfl⟩ := pair_inj h
    exact g_iret hX rfl rfl dX2_weight_17
  · rw [if_neg q1] at h
    refine g_aload_n hX dX2_weight_8 rfl rfl ?_
    refine g_iload_n hX dX2_weight_9 rfl rfl ?_
    refine g_callVi hX (c_X2_isGate ho v2) mv_X2_isGate wm_416 ho rfl (by decide) (by decide) rfl rfl (Nat.le_of_ble_eq_true rfl) dX2_weight_10 ?_
    refine g_if_ne (tgt := 18) hX dX2_weight_13 (by decide) (fun q2 => ?_) (fun q2 => ?_)
    · rw [if_neg q2] at h
      refine g_aload_n hX dX2_weight_18 rfl rfl ?_
      refine g_getr hX ho fg_2_0 tf_2_0 w_149 rfl dX2_weight_19 ?_
      refine g_aload_n hX dX2_weight_22 rfl rfl ?_
      refine g_iload_n hX dX2_weight_23 rfl rfl ?_
      refine g_iload_n hX dX2_weight_24 rfl rfl ?_
      obtain ⟨r3, hr3, h⟩ := bd_some h
      refine g_callVi hX (c_X2_cost ho _ _ hr3) mv_X2_cost wm_420 ho rfl (by decide) (by decide) rfl rfl (Nat.le_of_ble_eq_true rfl) dX2_weight_25 ?_
      refine g_aload_n hX dX2_weight_28 rfl rfl ?_
      refine g_geti hX ho fg_2_13 tf_2_13 w_180 dX2_weight_29 ?_
      refine g_bipush hX dX2_weight_32 kb_24 ?_
      refine g_irem hX (by decide) dX2_weight_34 ?_
      refine g_iload_n hX dX2_weight_35 rfl rfl ?_
      obtain ⟨r4, μ5, hr4, h⟩ := bd2_some h
      refine g_callVi hX (c_X1_gives (wk_2_0 ho) _ _ _ hr4) mv_X1_gives wm_424 (wk_2_0 ho) rfl (by decide) (by decide) rfl rfl (Nat.le_of_ble_eq_true rfl) dX2_weight_36 ?_
      obtain ⟨rfl, rfl⟩ := pair_inj h
      exact g_iret hX rfl rfl dX2_weight_39
    · rw [if_pos q2] at h
      refine g_iconst hX dX2_weight_16 k_0 ?_
      obtain ⟨rfl, rfl⟩ := pair_inj h
      exact g_iret hX rfl rfl dX2_weight_17
set_option maxRecDepth 100000 in
set_option maxHeartbeats 4000000 in
theorem t_X2_load_4 {l : Launch} {D : DT} {X : XT} {o : Nat} {r : Int32} {μ' : Mem} (hX : Cx l D true X 5 RX2 cX2_load 4 (some FieldType.int)) (ho : kd true o = 2) : ∀ (n : Nat) (v1 : Int32) (v2 : Int32) (v3 : Int32) (μ : Mem), f_X2_load_4 o n v1 v2 v3 μ = some (r, μ') → G l D true X 4 (some (.int r)) μ' 4 [some (.ref (D.1 o)), some (.int v1), some (.int v2), some (.int v3)] [] μ := by
  intro n
  induction n with
  | zero => intro v1 v2 v3 μ h; exact absurd h (by simp [f_X2_load_4])
  | succ n ih =>
    intro v1 v2 v3 μ h
    rw [f_X2_load_4] at h
    refine g_iload_n hX dX2_load_4 rfl rfl ?_
    refine g_aload_n hX dX2_load_5 rfl rfl ?_
    refine g_geti hX ho fg_2_11 tf_2_11 w_175 dX2_load_6 ?_
    refine g_icmp_ge (tgt := 37) hX dX2_load_9 (by decide) (fun q1 => ?_) (fun q1 => ?_)
    · rw [if_pos q1] at h
      refine g_iload_n hX dX2_load_37 rfl rfl ?_
      obtain ⟨rfl, rfl⟩ := pair_inj h
      exact g_iret hX rfl rfl dX2_load_38
    · rw [if_neg q1] at h
      refine g_aload_n hX dX2_load_12 rfl rfl ?_
      refine g_getr hX ho fg_2_7 tf_2_7 w_161 (wo_2_7 ho) dX2_load_13 ?_
      refine g_iload_n hX dX2_load_16 rfl rfl ?_
      obtain ⟨z2, h⟩ := ck_some h
      refine g_iald hX (wk_2_7 ho).1 (wk_2_7 ho).2 z2 dX2_load_17 ?_
      refine g_iload_n hX dX2_load_18 rfl rfl ?_
      refine g_icmp_ne (tgt := 31) hX dX2_load_19 (by decide) (fun q3 => ?_) (fun q3 => ?_)
      · rw [if_neg q3] at h
        refine g_iinc (lc' := [some _, some _, some _, some _]) hX dX2_load_31 (by decide) rfl (congrArg _ k_1) rfl rfl ?_
        refine g_goto (tgt := 4) hX dX2_load_34 (by decide) ?_
        exact g_weak (lc' := [some _, some _, some _, some _]) ⟨rfl, rfl, rfl, rfl, trivial⟩ (ih _ _ _ _ h)
      · rw [if_pos q3] at h
        refine g_iload_n hX dX2_load_22 rfl rfl ?_
        refine g_aload_n hX dX2_load_23 rfl rfl ?_
        refine g_iload_n hX dX2_load_24 rfl rfl ?_
        refine g_iload_n hX dX2_load_25 rfl rfl ?_
        obtain ⟨r4, μ5, hr4, h⟩ := bd2_some h
        refine g_callVi hX (c_X2_weight ho _ _ hr4) mv_X2_weight wm_411 ho rfl (by decide) (by decide) rfl rfl (Nat.le_of_ble_eq_true rfl) dX2_load_26 ?_
        refine g_iadd hX dX2_load_29 ?_
        refine g_istore_n (lc' := [some _, some _, some _, some _]) hX dX2_load_30 rfl (by decide) rfl rfl ?_
        refine g_iinc (lc' := [some _, some _, some _, some _]) hX dX2_load_31 (by decide) rfl (congrArg _ k_1) rfl rfl ?_
        refine g_goto (tgt := 4) hX dX2_load_34 (by decide) ?_
        exact g_weak (lc' := [some _, some _, some _, some _]) ⟨rfl, rfl, rfl, rfl, trivial⟩ (ih _ _ _ _ h)
set_option maxRecDepth 100000 in
set_option maxHeartbeats 4000000 in
theorem c_X2_load {l : Launch} {D : DT} {o : Nat} {μ : Mem} {r : Int32} {μ' : Mem} (ho : kd true o = 2) (v1 : Int32) (h : f_X2_load o v1 μ = some (r, μ')) : Ct l D true 5 yX2_load cX2_load 4 (some FieldType.int) [.ref (D.1 o), .int v1] μ (some (.int r)) μ' := by
  refine Ct.of (own := RX2) (lc0 := [some (.ref (D.1 o)), some (.int v1), none, none]) pn_X2 rfl (Nat.le_of_ble_eq_true rfl) rfl mv_X2_load.2.2.2.1 (fun X hX => ?_)
  unfold f_X2_load at h
  refine g_iconst hX dX2_load_0 k_0 ?_
  refine g_istore_n (lc' := [some _, some _, some _, none]) hX dX2_load_1 rfl (by decide) rfl rfl ?_
  refine g_iconst hX dX2_load_2 k_0 ?_
  refine g_istore_n (lc' := [some _, some _, some _, some _]) hX dX2_load_3 rfl (by decide) rfl rfl ?_
  exact g_weak (lc' := [some _, some _, some _, some _]) ⟨rfl, rfl, rfl, rfl, trivial⟩ (t_X2_load_4 hX ho 2000 _ _ _ _ h)
set_option maxRecDepth 100000 in
set_option maxHeartbeats 4000000 in
theorem t_X0_firstWrongLoad_2 {l : Launch} {D : DT} {X : XT} {o : Nat} {r : Int32} {μ' : Mem} (hX : Cx l D true X 6 RX0 cX0_firstWrongLoad 2 (some FieldType.int)) (ho : kd true o = 0) : ∀ (n : Nat) (v1 : Int32) (μ : Mem), f_X0_firstWrongLoad_2 o n v1 μ = some (r, μ') → G l D true X 2 (some (.int r)) μ' 2 [some (.ref (D.1 o)), some (.int v1)] [] μ := by
  intro n
  induction n with
  | zero => intro v1 μ h; exact absurd h (by simp [f_X0_firstWrongLoad_2])
  | succ n ih =>
    intro v1 μ h
    rw [f_X0_firstWrongLoad_2] at h
    refine g_iload_n hX dX0_firstWrongLoad_2 rfl rfl ?_
    refine g_aload_n hX dX0_firstWrongLoad_3 rfl rfl ?_
    refine g_geti hX ho fg_0_5 tf_0_5 w_241 dX0_firstWrongLoad_4 ?_
    refine g_icmp_ge (tgt := 55) hX dX0_firstWrongLoad_7 (by decide) (fun q1 => ?_) (fun q1 => ?_)
    · rw [if_pos q1] at h
      refine g_iconst hX dX0_firstWrongLoad_55 k_m1 ?_
      obtain ⟨rfl, rfl⟩ := pair_inj h
      exact g_iret hX rfl rfl dX0_firstWrongLoad_56
    · rw [if_neg q1] at h
      refine g_iload_n hX dX0_firstWrongLoad_10 rfl rfl ?_
      refine g_aload_n hX dX0_firstWrongLoad_11 rfl rfl ?_
      refine g_getr hX ho fg_0_4 tf_0_4 w_239 (wo_0_4 ho) dX0_firstWrongLoad_12 ?_
      refine g_alen hX (wk_0_4 ho).1 (wk_0_4 ho).2 len_24 dX0_firstWrongLoad_15 ?_
      refine g_icmp_ge (tgt := 55) hX dX0_firstWrongLoad_16 (by decide) (fun q2 => ?_) (fun q2 => ?_)
      · rw [if_pos q2] at h
        refine g_iconst hX dX0_firstWrongLoad_55 k_m1 ?_
        obtain ⟨rfl, rfl⟩ := pair_inj h
        exact g_iret hX rfl rfl dX0_firstWrongLoad_56
      · rw [if_neg q2] at h
        refine g_aload_n hX dX0_firstWrongLoad_19 rfl rfl ?_
        refine g_getr hX ho fg_0_2 tf_0_2 w_235 (wo_0_2 ho) dX0_firstWrongLoad_20 ?_
        refine g_iload_n hX dX0_firstWrongLoad_23 rfl rfl ?_
        refine g_callVi hX (c_X2_isOne (wk_0_2 ho) v1) mv_X2_isOne wm_954 (wk_0_2 ho) rfl (by decide) (by decide) rfl rfl (Nat.le_of_ble_eq_true rfl) dX0_firstWrongLoad_24 ?_
        refine g_if_eq (tgt := 47) hX dX0_firstWrongLoad_27 (by decide) (fun q3 => ?_) (fun q3 => ?_)
        · rw [if_pos q3] at h
          refine g_iload_n hX dX0_firstWrongLoad_47 rfl rfl ?_
          obtain ⟨rfl, rfl⟩ := pair_inj h
          exact g_iret hX rfl rfl dX0_firstWrongLoad_48
        · rw [if_neg q3] at h
          refine g_aload_n hX dX0_firstWrongLoad_30 rfl rfl ?_
          refine g_getr hX ho fg_0_4 tf_0_4 w_239 (wo_0_4 ho) dX0_firstWrongLoad_31 ?_
          refine g_iload_n hX dX0_firstWrongLoad_34 rfl rfl ?_
          obtain ⟨z4, h⟩ := ck_some h
          refine g_iald hX (wk_0_4 ho).1 (wk_0_4 ho).2 z4 dX0_firstWrongLoad_35 ?_
          refine g_aload_n hX dX0_firstWrongLoad_36 rfl rfl ?_
          refine g_getr hX ho fg_0_2 tf_0_2 w_235 (wo_0_2 ho) dX0_firstWrongLoad_37 ?_
          refine g_iload_n hX dX0_firstWrongLoad_40 rfl rfl ?_
          obtain ⟨r5, μ6, hr5, h⟩ := bd2_some h
          refine g_callVi hX (c_X2_load (wk_0_2 ho) _ hr5) mv_X2_load wm_955 (wk_0_2 ho) rfl (by decide) (by decide) rfl rfl (Nat.le_of_ble_eq_true rfl) dX0_firstWrongLoad_41 ?_
          refine g_icmp_eq (tgt := 49) hX dX0_firstWrongLoad_44 (by decide) (fun q7 => ?_) (fun q7 => ?_)
          · rw [if_pos q7] at h
            refine g_iinc (lc' := [some _, some _]) hX dX0_firstWrongLoad_49 (by decide) rfl (congrArg _ k_1) rfl rfl ?_
            refine g_goto (tgt := 2) hX dX0_firstWrongLoad_52 (by decide) ?_
            exact g_weak (lc' := [some _, some _]) ⟨rfl, rfl, trivial⟩ (ih _ _ h)
          · rw [if_neg q7] at h
            refine g_iload_n hX dX0_firstWrongLoad_47 rfl rfl ?_
            obtain ⟨rfl, rfl⟩ := pair_inj h
            exact g_iret hX rfl rfl dX0_firstWrongLoad_48
set_option maxRecDepth 100000 in
set_option maxHeartbeats 4000000 in
theorem c_X0_firstWrongLoad {l : Launch} {D : DT} {o : Nat} {μ : Mem} {r : Int32} {μ' : Mem} (ho : kd true o = 0) (h : f_X0_firstWrongLoad o μ = some (r, μ')) : Ct l D true 6 yX0_firstWrongLoad cX0_firstWrongLoad 2 (some FieldType.int) [.ref (D.1 o)] μ (some (.int r)) μ' := by
  refine Ct.of (own := RX0) (lc0 := [some (.ref (D.1 o)), none]) pn_X0 rfl (Nat.le_of_ble_eq_true rfl) rfl mv_X0_firstWrongLoad.2.2.2.1 (fun X hX => ?_)
  unfold f_X0_firstWrongLoad at h
  refine g_iconst hX dX0_firstWrongLoad_0 k_0 ?_
  refine g_istore_n (lc' := [some _, some _]) hX dX0_firstWrongLoad_1 rfl (by decide) rfl rfl ?_
  exact g_weak (lc' := [some _, some _]) ⟨rfl, rfl, trivial⟩ (t_X0_firstWrongLoad_2 hX ho 2000 _ _ h)
set_option maxRecDepth 100000 in
set_option maxHeartbeats 4000000 in
theorem c_X0_lawOf {l : Launch} {D : DT} {o : Nat} {μ : Mem} (ho : kd true o = 0) (v1 : Int32) : Ct l D true 1 yX0_lawOf cX0_lawOf 2 (some (FieldType.object "GateMinds$Law")) [.ref (D.1 o), .int v1] μ (some (.ref (D.1 (f_X0_lawOf o v1)))) μ := by
  obtain ⟨r, h⟩ : ∃ r, f_X0_lawOf o v1 = r := ⟨_, rfl⟩
  rw [h]
  refine Ct.of (own := RX0) (lc0 := [some (.ref (D.1 o)), some (.int v1)]) pn_X0 rfl (Nat.le_of_ble_eq_true rfl) rfl mv_X0_lawOf.2.2.2.1 (fun X hX => ?_)
  unfold f_X0_lawOf at h
  refine g_iload_n hX dX0_lawOf_0 rfl rfl ?_
  refine g_if_ne (tgt := 11) hX dX0_lawOf_1 (by decide) (fun q1 => ?_) (fun q1 => ?_)
  · rw [if_neg q1] at h
    refine g_aload_n hX dX0_lawOf_11 rfl rfl ?_
    refine g_getr hX ho fg_0_1 tf_0_1 w_233 (wo_0_1 ho) dX0_lawOf_12 ?_
    subst h
    exact g_aret hX rfl dX0_lawOf_15
  · rw [if_pos q1] at h
    refine g_aload_n hX dX0_lawOf_4 rfl rfl ?_
    refine g_getr hX ho fg_0_0 tf_0_0 w_231 (wo_0_0 ho) dX0_lawOf_5 ?_
    refine g_goto (tgt := 15) hX dX0_lawOf_8 (by decide) ?_
    subst h
    exact g_aret hX rfl dX0_lawOf_15
set_option maxRecDepth 100000 in
set_option maxHeartbeats 4000000 in
theorem c_X0_nextDraw {l : Launch} {D : DT} {o : Nat} {μ : Mem} {r : Int32} {μ' : Mem} (ho : kd true o = 0) (h : f_X0_nextDraw o μ = some (r, μ')) : Ct l D true 1 yX0_nextDraw cX0_nextDraw 1 (some FieldType.int) [.ref (D.1 o)] μ (some (.int r)) μ' := by
  refine Ct.of (own := RX0) (lc0 := [some (.ref (D.1 o))]) pn_X0 rfl (Nat.le_of_ble_eq_true rfl) rfl mv_X0_nextDraw.2.2.2.1 (fun X hX => ?_)
  unfold f_X0_nextDraw at h
  refine g_aload_n hX dX0_nextDraw_0 rfl rfl ?_
  refine g_aload_n hX dX0_nextDraw_1 rfl rfl ?_
  refine g_geti hX ho fg_0_6 tf_0_6 w_243 dX0_nextDraw_2 ?_
  refine g_ldc hX dX0_nextDraw_5 wc_735 ?_
  refine g_imul hX dX0_nextDraw_7 ?_
  refine g_sipush hX dX0_nextDraw_8 ks_12345 ?_
  refine g_iadd hX dX0_nextDraw_11 ?_
  obtain ⟨μ1, hμ1, h⟩ := wr_some h
  refine g_puti hX ho fg_0_6 tf_0_6 tyX0_ok nmX0 rfl w_243 dX0_nextDraw_12 hμ1 ?_
  refine g_aload_n hX dX0_nextDraw_15 rfl rfl ?_
  refine g_geti hX ho fg_0_6 tf_0_6 w_243 dX0_nextDraw_16 ?_
  refine g_bipush hX dX0_nextDraw_19 kb_8 ?_
  refine g_iushr hX dX0_nextDraw_21 ?_
  obtain ⟨rfl, rfl⟩ := pair_inj h
  exact g_iret hX rfl rfl dX0_nextDraw_22
set_option maxRecDepth 100000 in
set_option maxHeartbeats 4000000 in
theorem t_X0_shuffle_86 {l : Launch} {D : DT} {X : XT} {o : Nat} {μ' : Mem} (hX : Cx l D true X 2 RX0 cX0_shuffle 6 none) (ho : kd true o = 0) : ∀ (s1 : Int32) (s2 : Int32) (μ : Mem), f_X0_shuffle_86 o s1 s2 μ = some μ' → G l D true X 6 none μ' 86 [none, none, none, none, none, none] [.int s2, .int s1, .ref (D.1 ((o + 7) + 6))] μ := by
  intro s1 s2 μ h
  unfold f_X0_shuffle_86 at h
  obtain ⟨z2, h⟩ := ck_some h
  obtain ⟨μ1, hμ1, h⟩ := wr_some h
  refine g_iastM hX (wk_2_7 (wk_0_2 ho)).1 (wk_2_7 (wk_0_2 ho)).2 z2 dX0_shuffle_86 hμ1 ?_
  obtain rfl := Option.some.inj h
  exact g_vret hX rfl dX0_shuffle_87
set_option maxRecDepth 100000 in
set_option maxHeartbeats 4000000 in
theorem t_X0_shuffle_54 {l : Launch} {D : DT} {X : XT} {o : Nat} {μ' : Mem} (hX : Cx l D true X 2 RX0 cX0_shuffle 6 none) (ho : kd true o = 0) : ∀ (v3 : Int32) (v4 : Int32) (s0 : Int32) (μ : Mem), f_X0_shuffle_54 o v3 v4 s0 μ = some μ' → G l D true X 6 none μ' 54 [some (.ref (D.1 o)), none, none, some (.int v3), some (.int v4), none] [.int s0] μ := by
  intro v3 v4 s0 μ h
  unfold f_X0_shuffle_54 at h
  refine g_istore (lc' := [some _, none, none, some _, some _, some _]) hX dX0_shuffle_54 (by decide) rfl rfl ?_
  refine g_aload_n hX dX0_shuffle_56 rfl rfl ?_
  refine g_getr hX ho fg_0_2 tf_0_2 w_235 (wo_0_2 ho) dX0_shuffle_57 ?_
  refine g_iload_n hX dX0_shuffle_60 rfl rfl ?_
  refine g_callVi hX (c_X2_isGate (wk_0_2 ho) v3) mv_X2_isGate wm_736 (wk_0_2 ho) rfl (by decide) (by decide) rfl rfl (Nat.le_of_ble_eq_true rfl) dX0_shuffle_61 ?_
  refine g_if_eq (tgt := 87) hX dX0_shuffle_64 (by decide) (fun q1 => ?_) (fun q1 => ?_)
  · rw [if_pos q1] at h
    obtain rfl := Option.some.inj h
    exact g_vret hX rfl dX0_shuffle_87
  · rw [if_neg q1] at h
    refine g_aload_n hX dX0_shuffle_67 rfl rfl ?_
    refine g_getr hX ho fg_0_2 tf_0_2 w_235 (wo_0_2 ho) dX0_shuffle_68 ?_
    refine g_getr hX (wk_0_2 ho) fg_2_7 tf_2_7 w_162 (wo_2_7 (wk_0_2 ho)) dX0_shuffle_71 ?_
    refine g_iload_n hX dX0_shuffle_74 rfl rfl ?_
    refine g_iload hX dX0_shuffle_75 rfl ?_
    refine g_if_eq (tgt := 84) hX dX0_shuffle_77 (by decide) (fun q2 => ?_) (fun q2 => ?_)
    · rw [if_pos q2] at h
      refine g_iload hX dX0_shuffle_84 rfl ?_
      exact g_weak (lc' := [none, none, none, none, none, none]) trivial (t_X0_shuffle_86 hX ho _ _ _ h)
    · rw [if_neg q2] at h
      refine g_iconst hX dX0_shuffle_80 k_m1 ?_
      refine g_goto (tgt := 86) hX dX0_shuffle_81 (by decide) ?_
      exact g_weak (lc' := [none, none, none, none, none, none]) trivial (t_X0_shuffle_86 hX ho _ _ _ h)
set_option maxRecDepth 100000 in
set_option maxHeartbeats 4000000 in
theorem c_X0_shuffle {l : Launch} {D : DT} {o : Nat} {μ : Mem} {μ' : Mem} (ho : kd true o = 0) (h : f_X0_shuffle o μ = some μ') : Ct l D true 2 yX0_shuffle cX0_shuffle 6 none [.ref (D.1 o)] μ none μ' := by
  refine Ct.of (own := RX0) (lc0 := [some (.ref (D.1 o)), none, none, none, none, none]) pn_X0 rfl (Nat.le_of_ble_eq_true rfl) rfl mv_X0_shuffle.2.2.2.1 (fun X hX => ?_)
  unfold f_X0_shuffle at h
  refine g_aload_n hX dX0_shuffle_0 rfl rfl ?_
  refine g_getr hX ho fg_0_2 tf_0_2 w_235 (wo_0_2 ho) dX0_shuffle_1 ?_
  refine g_geti hX (wk_0_2 ho) fg_2_10 tf_2_10 w_173 dX0_shuffle_4 ?_
  refine g_istore_n (lc' := [some _, some _, none, none, none, none]) hX dX0_shuffle_7 rfl (by decide) rfl rfl ?_
  refine g_aload_n hX dX0_shuffle_8 rfl rfl ?_
  refine g_getr hX ho fg_0_2 tf_0_2 w_235 (wo_0_2 ho) dX0_shuffle_9 ?_
  refine g_geti hX (wk_0_2 ho) fg_2_11 tf_2_11 w_176 dX0_shuffle_12 ?_
  refine g_istore_n (lc' := [some _, some _, some _, none, none, none]) hX dX0_shuffle_15 rfl (by decide) rfl rfl ?_
  refine g_iload_n hX dX0_shuffle_16 rfl rfl ?_
  refine g_if_le (tgt := 24) hX dX0_shuffle_17 (by decide) (fun q1 => ?_) (fun q1 => ?_)
  · rw [if_pos q1] at h
    obtain rfl := Option.some.inj h
    exact g_vret hX rfl dX0_shuffle_24
  · rw [if_neg q1] at h
    refine g_iload_n hX dX0_shuffle_20 rfl rfl ?_
    refine g_if_gt (tgt := 25) hX dX0_shuffle_21 (by decide) (fun q2 => ?_) (fun q2 => ?_)
    · rw [if_pos q2] at h
      refine g_aload_n hX dX0_shuffle_25 rfl rfl ?_
      obtain ⟨r3, μ4, hr3, h⟩ := bd2_some h
      refine g_callVi hX (c_X0_nextDraw ho hr3) mv_X0_nextDraw wm_731 ho rfl (by decide) (by decide) rfl rfl (Nat.le_of_ble_eq_true rfl) dX0_shuffle_26 ?_
      refine g_iload_n hX dX0_shuffle_29 rfl rfl ?_
      obtain ⟨z5, h⟩ := ck_some h
      refine g_irem hX (nz_ne z5) dX0_shuffle_30 ?_
      refine g_istore_n (lc' := [some _, some _, some _, some _, none, none]) hX dX0_shuffle_31 rfl (by decide) rfl rfl ?_
      refine g_aload_n hX dX0_shuffle_32 rfl rfl ?_
      obtain ⟨r6, μ7, hr6, h⟩ := bd2_some h
      refine g_callVi hX (c_X0_nextDraw ho hr6) mv_X0_nextDraw wm_731 ho rfl (by decide) (by decide) rfl rfl (Nat.le_of_ble_eq_true rfl) dX0_shuffle_33 ?_
      refine g_iload_n hX dX0_shuffle_36 rfl rfl ?_
      obtain ⟨z8, h⟩ := ck_some h
      refine g_irem hX (nz_ne z8) dX0_shuffle_37 ?_
      refine g_istore (lc' := [some _, some _, some _, some _, some _, none]) hX dX0_shuffle_38 (by decide) rfl rfl ?_
      refine g_aload_n hX dX0_shuffle_40 rfl rfl ?_
      obtain ⟨r9, μ10, hr9, h⟩ := bd2_some h
      refine g_callVi hX (c_X0_nextDraw ho hr9) mv_X0_nextDraw wm_731 ho rfl (by decide) (by decide) rfl rfl (Nat.le_of_ble_eq_true rfl) dX0_shuffle_41 ?_
      refine g_iconst hX dX0_shuffle_44 k_4 ?_
      refine g_irem hX (by decide) dX0_shuffle_45 ?_
      refine g_if_ne (tgt := 53) hX dX0_shuffle_46 (by decide) (fun q11 => ?_) (fun q11 => ?_)
      · rw [if_neg q11] at h
        refine g_iconst hX dX0_shuffle_53 k_0 ?_
        exact g_weak (lc' := [some _, none, none, some _, some _, none]) ⟨rfl, rfl, rfl, trivial⟩ (t_X0_shuffle_54 hX ho _ _ _ _ h)
      · rw [if_pos q11] at h
        refine g_iconst hX dX0_shuffle_49 k_1 ?_
        refine g_goto (tgt := 54) hX dX0_shuffle_50 (by decide) ?_
        exact g_weak (lc' := [some _, none, none, some _, some _, none]) ⟨rfl, rfl, rfl, trivial⟩ (t_X0_shuffle_54 hX ho _ _ _ _ h)
    · rw [if_neg q2] at h
      obtain rfl := Option.some.inj h
      exact g_vret hX rfl dX0_shuffle_24
set_option maxRecDepth 100000 in
set_option maxHeartbeats 4000000 in
theorem c_X2_across {l : Launch} {D : DT} {o : Nat} {μ : Mem} {r : Int32} (ho : kd true o = 2) (v1 : Int32) (v2 : Int32) (h : f_X2_across o v1 v2 μ = some r) : Ct l D true 1 yX2_across cX2_across 3 (some FieldType.int) [.ref (D.1 o), .int v1, .int v2] μ (some (.int r)) μ := by
  refine Ct.of (own := RX2) (lc0 := [some (.ref (D.1 o)), some (.int v1), some (.int v2)]) pn_X2 rfl (Nat.le_of_ble_eq_true rfl) rfl mv_X2_across.2.2.2.1 (fun X hX => ?_)
  unfold f_X2_across at h
  refine g_aload_n hX dX2_across_0 rfl rfl ?_
  refine g_getr hX ho fg_2_4 tf_2_4 w_155 (wo_2_4 ho) dX2_across_1 ?_
  refine g_iload_n hX dX2_across_4 rfl rfl ?_
  obtain ⟨z1, h⟩ := ck_some h
  refine g_iald hX (wk_2_4 ho).1 (wk_2_4 ho).2 z1 dX2_across_5 ?_
  refine g_iload_n hX dX2_across_6 rfl rfl ?_
  refine g_icmp_ne (tgt := 17) hX dX2_across_7 (by decide) (fun q2 => ?_) (fun q2 => ?_)
  · rw [if_neg q2] at h
    refine g_aload_n hX dX2_across_17 rfl rfl ?_
    refine g_getr hX ho fg_2_5 tf_2_5 w_157 (wo_2_5 ho) dX2_across_18 ?_
    refine g_iload_n hX dX2_across_21 rfl rfl ?_
    obtain ⟨z3, h⟩ := ck_some h
    refine g_iald hX (wk_2_5 ho).1 (wk_2_5 ho).2 z3 dX2_across_22 ?_
    refine g_iload_n hX dX2_across_23 rfl rfl ?_
    refine g_icmp_ne (tgt := 36) hX dX2_across_24 (by decide) (fun q4 => ?_) (fun q4 => ?_)
    · rw [if_neg q4] at h
      refine g_iconst hX dX2_across_36 k_m1 ?_
      obtain rfl := Option.some.inj h
      exact g_iret hX rfl rfl dX2_across_37
    · rw [if_pos q4] at h
      refine g_aload_n hX dX2_across_27 rfl rfl ?_
      refine g_getr hX ho fg_2_4 tf_2_4 w_155 (wo_2_4 ho) dX2_across_28 ?_
      refine g_iload_n hX dX2_across_31 rfl rfl ?_
      obtain ⟨z5, h⟩ := ck_some h
      refine g_iald hX (wk_2_4 ho).1 (wk_2_4 ho).2 z5 dX2_across_32 ?_
      refine g_goto (tgt := 37) hX dX2_across_33 (by decide) ?_
      obtain rfl := Option.some.inj h
      exact g_iret hX rfl rfl dX2_across_37
  · rw [if_pos q2] at h
    refine g_aload_n hX dX2_across_10 rfl rfl ?_
    refine g_getr hX ho fg_2_5 tf_2_5 w_157 (wo_2_5 ho) dX2_across_11 ?_
    refine g_iload_n hX dX2_across_14 rfl rfl ?_
    obtain ⟨z6, h⟩ := ck_some h
    refine g_iald hX (wk_2_5 ho).1 (wk_2_5 ho).2 z6 dX2_across_15 ?_
    obtain rfl := Option.some.inj h
    exact g_iret hX rfl rfl dX2_across_16
set_option maxRecDepth 100000 in
set_option maxHeartbeats 4000000 in
theorem c_X2_addBeast {l : Launch} {D : DT} {o : Nat} {μ : Mem} {r : Int32} {μ' : Mem} (ho : kd true o = 2) (v1 : Int32) (h : f_X2_addBeast o v1 μ = some (r, μ')) : Ct l D true 1 yX2_addBeast cX2_addBeast 2 (some FieldType.int) [.ref (D.1 o), .int v1] μ (some (.int r)) μ' := by
  refine Ct.of (own := RX2) (lc0 := [some (.ref (D.1 o)), some (.int v1)]) pn_X2 rfl (Nat.le_of_ble_eq_true rfl) rfl mv_X2_addBeast.2.2.2.1 (fun X hX => ?_)
  unfold f_X2_addBeast at h
  refine g_aload_n hX dX2_addBeast_0 rfl rfl ?_
  refine g_geti hX ho fg_2_12 tf_2_12 w_178 dX2_addBeast_1 ?_
  refine g_bipush hX dX2_addBeast_4 kb_6 ?_
  refine g_icmp_lt (tgt := 11) hX dX2_addBeast_6 (by decide) (fun q1 => ?_) (fun q1 => ?_)
  · rw [if_pos q1] at h
    refine g_aload_n hX dX2_addBeast_11 rfl rfl ?_
    refine g_getr hX ho fg_2_8 tf_2_8 w_165 (wo_2_8 ho) dX2_addBeast_12 ?_
    refine g_aload_n hX dX2_addBeast_15 rfl rfl ?_
    refine g_geti hX ho fg_2_12 tf_2_12 w_178 dX2_addBeast_16 ?_
    refine g_iload_n hX dX2_addBeast_19 rfl rfl ?_
    obtain ⟨z3, h⟩ := ck_some h
    obtain ⟨μ2, hμ2, h⟩ := wr_some h
    refine g_iastM hX (wk_2_8 ho).1 (wk_2_8 ho).2 z3 dX2_addBeast_20 hμ2 ?_
    refine g_aload_n hX dX2_addBeast_21 rfl rfl ?_
    refine g_dup hX dX2_addBeast_22 rfl ?_
    refine g_geti hX ho fg_2_12 tf_2_12 w_178 dX2_addBeast_23 ?_
    refine g_iconst hX dX2_addBeast_26 k_1 ?_
    refine g_iadd hX dX2_addBeast_27 ?_
    obtain ⟨μ4, hμ4, h⟩ := wr_some h
    refine g_puti hX ho fg_2_12 tf_2_12 tyX2_ok nmX2 rfl w_178 dX2_addBeast_28 hμ4 ?_
    refine g_aload_n hX dX2_addBeast_31 rfl rfl ?_
    refine g_geti hX ho fg_2_12 tf_2_12 w_178 dX2_addBeast_32 ?_
    refine g_iconst hX dX2_addBeast_35 k_1 ?_
    refine g_isub hX dX2_addBeast_36 ?_
    obtain ⟨rfl, rfl⟩ := pair_inj h
    exact g_iret hX rfl rfl dX2_addBeast_37
  · rw [if_neg q1] at h
    refine g_iconst hX dX2_addBeast_9 k_m1 ?_
    obtain ⟨rfl, rfl⟩ := pair_inj h
    exact g_iret hX rfl rfl dX2_addBeast_10
set_option maxRecDepth 100000 in
set_option maxHeartbeats 4000000 in
theorem c_X2_addGate {l : Launch} {D : DT} {o : Nat} {μ : Mem} {r : Int32} {μ' : Mem} (ho : kd true o = 2) (v1 : Int32) (v2 : Int32) (v3 : Int32) (h : f_X2_addGate o v1 v2 v3 μ = some (r, μ')) : Ct l D true 1 yX2_addGate cX2_addGate 4 (some FieldType.int) [.ref (D.1 o), .int v1, .int v2, .int v3] μ (some (.int r)) μ' := by
  refine Ct.of (own := RX2) (lc0 := [some (.ref (D.1 o)), some (.int v1), some (.int v2), some (.int v3)]) pn_X2 rfl (Nat.le_of_ble_eq_true rfl) rfl mv_X2_addGate.2.2.2.1 (fun X hX => ?_)
  unfold f_X2_addGate at h
  refine g_aload_n hX dX2_addGate_0 rfl rfl ?_
  refine g_geti hX ho fg_2_11 tf_2_11 w_175 dX2_addGate_1 ?_
  refine g_bipush hX dX2_addGate_4 kb_9 ?_
  refine g_icmp_lt (tgt := 11) hX dX2_addGate_6 (by decide) (fun q1 => ?_) (fun q1 => ?_)
  · rw [if_pos q1] at h
    refine g_aload_n hX dX2_addGate_11 rfl rfl ?_
    refine g_getr hX ho fg_2_4 tf_2_4 w_155 (wo_2_4 ho) dX2_addGate_12 ?_
    refine g_aload_n hX dX2_addGate_15 rfl rfl ?_
    refine g_geti hX ho fg_2_11 tf_2_11 w_175 dX2_addGate_16 ?_
    refine g_iload_n hX dX2_addGate_19 rfl rfl ?_
    obtain ⟨z3, h⟩ := ck_some h
    obtain ⟨μ2, hμ2, h⟩ := wr_some h
    refine g_iastM hX (wk_2_4 ho).1 (wk_2_4 ho).2 z3 dX2_addGate_20 hμ2 ?_
    refine g_aload_n hX dX2_addGate_21 rfl rfl ?_
    refine g_getr hX ho fg_2_5 tf_2_5 w_157 (wo_2_5 ho) dX2_addGate_22 ?_
    refine g_aload_n hX dX2_addGate_25 rfl rfl ?_
    refine g_geti hX ho fg_2_11 tf_2_11 w_175 dX2_addGate_26 ?_
    refine g_iload_n hX dX2_addGate_29 rfl rfl ?_
    obtain ⟨z5, h⟩ := ck_some h
    obtain ⟨μ4, hμ4, h⟩ := wr_some h
    refine g_iastM hX (wk_2_5 ho).1 (wk_2_5 ho).2 z5 dX2_addGate_30 hμ4 ?_
    refine g_aload_n hX dX2_addGate_31 rfl rfl ?_
    refine g_getr hX ho fg_2_6 tf_2_6 w_159 (wo_2_6 ho) dX2_addGate_32 ?_
    refine g_aload_n hX dX2_addGate_35 rfl rfl ?_
    refine g_geti hX ho fg_2_11 tf_2_11 w_175 dX2_addGate_36 ?_
    refine g_iload_n hX dX2_addGate_39 rfl rfl ?_
    obtain ⟨z7, h⟩ := ck_some h
    obtain ⟨μ6, hμ6, h⟩ := wr_some h
    refine g_iastM hX (wk_2_6 ho).1 (wk_2_6 ho).2 z7 dX2_addGate_40 hμ6 ?_
    refine g_aload_n hX dX2_addGate_41 rfl rfl ?_
    refine g_getr hX ho fg_2_7 tf_2_7 w_161 (wo_2_7 ho) dX2_addGate_42 ?_
    refine g_aload_n hX dX2_addGate_45 rfl rfl ?_
    refine g_geti hX ho fg_2_11 tf_2_11 w_175 dX2_addGate_46 ?_
    refine g_iconst hX dX2_addGate_49 k_m1 ?_
    obtain ⟨z9, h⟩ := ck_some h
    obtain ⟨μ8, hμ8, h⟩ := wr_some h
    refine g_iastM hX (wk_2_7 ho).1 (wk_2_7 ho).2 z9 dX2_addGate_50 hμ8 ?_
    refine g_aload_n hX dX2_addGate_51 rfl rfl ?_
    refine g_dup hX dX2_addGate_52 rfl ?_
    refine g_geti hX ho fg_2_11 tf_2_11 w_175 dX2_addGate_53 ?_
    refine g_iconst hX dX2_addGate_56 k_1 ?_
    refine g_iadd hX dX2_addGate_57 ?_
    obtain ⟨μ10, hμ10, h⟩ := wr_some h
    refine g_puti hX ho fg_2_11 tf_2_11 tyX2_ok nmX2 rfl w_175 dX2_addGate_58 hμ10 ?_
    refine g_aload_n hX dX2_addGate_61 rfl rfl ?_
    refine g_geti hX ho fg_2_11 tf_2_11 w_175 dX2_addGate_62 ?_
    refine g_iconst hX dX2_addGate_65 k_1 ?_
    refine g_isub hX dX2_addGate_66 ?_
    obtain ⟨rfl, rfl⟩ := pair_inj h
    exact g_iret hX rfl rfl dX2_addGate_67
  · rw [if_neg q1] at h
    refine g_iconst hX dX2_addGate_9 k_m1 ?_
    obtain ⟨rfl, rfl⟩ := pair_inj h
    exact g_iret hX rfl rfl dX2_addGate_10
set_option maxRecDepth 100000 in
set_option maxHeartbeats 4000000 in
theorem c_X2_addOne {l : Launch} {D : DT} {o : Nat} {μ : Mem} {r : Int32} {μ' : Mem} (ho : kd true o = 2) (v1 : Int32) (v2 : Int32) (h : f_X2_addOne o v1 v2 μ = some (r, μ')) : Ct l D true 1 yX2_addOne cX2_addOne 3 (some FieldType.int) [.ref (D.1 o), .int v1, .int v2] μ (some (.int r)) μ' := by
  refine Ct.of (own := RX2) (lc0 := [some (.ref (D.1 o)), some (.int v1), some (.int v2)]) pn_X2 rfl (Nat.le_of_ble_eq_true rfl) rfl mv_X2_addOne.2.2.2.1 (fun X hX => ?_)
  unfold f_X2_addOne at h
  refine g_aload_n hX dX2_addOne_0 rfl rfl ?_
  refine g_geti hX ho fg_2_10 tf_2_10 w_172 dX2_addOne_1 ?_
  refine g_bipush hX dX2_addOne_4 kb_6 ?_
  refine g_icmp_lt (tgt := 11) hX dX2_addOne_6 (by decide) (fun q1 => ?_) (fun q1 => ?_)
  · rw [if_pos q1] at h
    refine g_aload_n hX dX2_addOne_11 rfl rfl ?_
    refine g_getr hX ho fg_2_2 tf_2_2 w_151 (wo_2_2 ho) dX2_addOne_12 ?_
    refine g_aload_n hX dX2_addOne_15 rfl rfl ?_
    refine g_geti hX ho fg_2_10 tf_2_10 w_172 dX2_addOne_16 ?_
    refine g_iload_n hX dX2_addOne_19 rfl rfl ?_
    obtain ⟨z3, h⟩ := ck_some h
    obtain ⟨μ2, hμ2, h⟩ := wr_some h
    refine g_iastM hX (wk_2_2 ho).1 (wk_2_2 ho).2 z3 dX2_addOne_20 hμ2 ?_
    refine g_aload_n hX dX2_addOne_21 rfl rfl ?_
    refine g_getr hX ho fg_2_3 tf_2_3 w_153 (wo_2_3 ho) dX2_addOne_22 ?_
    refine g_aload_n hX dX2_addOne_25 rfl rfl ?_
    refine g_geti hX ho fg_2_10 tf_2_10 w_172 dX2_addOne_26 ?_
    refine g_iload_n hX dX2_addOne_29 rfl rfl ?_
    obtain ⟨z5, h⟩ := ck_some h
    obtain ⟨μ4, hμ4, h⟩ := wr_some h
    refine g_iastM hX (wk_2_3 ho).1 (wk_2_3 ho).2 z5 dX2_addOne_30 hμ4 ?_
    refine g_aload_n hX dX2_addOne_31 rfl rfl ?_
    refine g_dup hX dX2_addOne_32 rfl ?_
    refine g_geti hX ho fg_2_10 tf_2_10 w_172 dX2_addOne_33 ?_
    refine g_iconst hX dX2_addOne_36 k_1 ?_
    refine g_iadd hX dX2_addOne_37 ?_
    obtain ⟨μ6, hμ6, h⟩ := wr_some h
    refine g_puti hX ho fg_2_10 tf_2_10 tyX2_ok nmX2 rfl w_172 dX2_addOne_38 hμ6 ?_
    refine g_aload_n hX dX2_addOne_41 rfl rfl ?_
    refine g_geti hX ho fg_2_10 tf_2_10 w_172 dX2_addOne_42 ?_
    refine g_iconst hX dX2_addOne_45 k_1 ?_
    refine g_isub hX dX2_addOne_46 ?_
    obtain ⟨rfl, rfl⟩ := pair_inj h
    exact g_iret hX rfl rfl dX2_addOne_47
  · rw [if_neg q1] at h
    refine g_iconst hX dX2_addOne_9 k_m1 ?_
    obtain ⟨rfl, rfl⟩ := pair_inj h
    exact g_iret hX rfl rfl dX2_addOne_10
set_option maxRecDepth 100000 in
set_option maxHeartbeats 4000000 in
theorem t_X2_heldBy_4 {l : Launch} {D : DT} {X : XT} {o : Nat} {μ : Mem} {r : Int32} (hX : Cx l D true X 1 RX2 cX2_heldBy 4 (some FieldType.int)) (ho : kd true o = 2) : ∀ (n : Nat) (v1 : Int32) (v2 : Int32) (v3 : Int32), f_X2_heldBy_4 o μ n v1 v2 v3 = some r → G l D true X 4 (some (.int r)) μ 4 [some (.ref (D.1 o)), some (.int v1), some (.int v2), some (.int v3)] [] μ := by
  intro n
  induction n with
  | zero => intro v1 v2 v3 h; exact absurd h (by simp [f_X2_heldBy_4])
  | succ n ih =>
    intro v1 v2 v3 h
    rw [f_X2_heldBy_4] at h
    refine g_iload_n hX dX2_heldBy_4 rfl rfl ?_
    refine g_aload_n hX dX2_heldBy_5 rfl rfl ?_
    refine g_geti hX ho fg_2_11 tf_2_11 w_175 dX2_heldBy_6 ?_
    refine g_icmp_ge (tgt := 31) hX dX2_heldBy_9 (by decide) (fun q1 => ?_) (fun q1 => ?_)
    · rw [if_pos q1] at h
      refine g_iload_n hX dX2_heldBy_31 rfl rfl ?_
      obtain rfl := Option.some.inj h
      exact g_iret hX rfl rfl dX2_heldBy_32
    · rw [if_neg q1] at h
      refine g_aload_n hX dX2_heldBy_12 rfl rfl ?_
      refine g_getr hX ho fg_2_7 tf_2_7 w_161 (wo_2_7 ho) dX2_heldBy_13 ?_
      refine g_iload_n hX dX2_heldBy_16 rfl rfl ?_
      obtain ⟨z2, h⟩ := ck_some h
      refine g_iald hX (wk_2_7 ho).1 (wk_2_7 ho).2 z2 dX2_heldBy_17 ?_
      refine g_iload_n hX dX2_heldBy_18 rfl rfl ?_
      refine g_icmp_ne (tgt := 25) hX dX2_heldBy_19 (by decide) (fun q3 => ?_) (fun q3 => ?_)
      · rw [if_neg q3] at h
        refine g_iinc (lc' := [some _, some _, some _, some _]) hX dX2_heldBy_25 (by decide) rfl (congrArg _ k_1) rfl rfl ?_
        refine g_goto (tgt := 4) hX dX2_heldBy_28 (by decide) ?_
        exact g_weak (lc' := [some _, some _, some _, some _]) ⟨rfl, rfl, rfl, rfl, trivial⟩ (ih _ _ _ h)
      · rw [if_pos q3] at h
        refine g_iinc (lc' := [some _, some _, some _, some _]) hX dX2_heldBy_22 (by decide) rfl (congrArg _ k_1) rfl rfl ?_
        refine g_iinc (lc' := [some _, some _, some _, some _]) hX dX2_heldBy_25 (by decide) rfl (congrArg _ k_1) rfl rfl ?_
        refine g_goto (tgt := 4) hX dX2_heldBy_28 (by decide) ?_
        exact g_weak (lc' := [some _, some _, some _, some _]) ⟨rfl, rfl, rfl, rfl, trivial⟩ (ih _ _ _ h)
set_option maxRecDepth 100000 in
set_option maxHeartbeats 4000000 in
theorem c_X2_heldBy {l : Launch} {D : DT} {o : Nat} {μ : Mem} {r : Int32} (ho : kd true o = 2) (v1 : Int32) (h : f_X2_heldBy o v1 μ = some r) : Ct l D true 1 yX2_heldBy cX2_heldBy 4 (some FieldType.int) [.ref (D.1 o), .int v1] μ (some (.int r)) μ := by
  refine Ct.of (own := RX2) (lc0 := [some (.ref (D.1 o)), some (.int v1), none, none]) pn_X2 rfl (Nat.le_of_ble_eq_true rfl) rfl mv_X2_heldBy.2.2.2.1 (fun X hX => ?_)
  unfold f_X2_heldBy at h
  refine g_iconst hX dX2_heldBy_0 k_0 ?_
  refine g_istore_n (lc' := [some _, some _, some _, none]) hX dX2_heldBy_1 rfl (by decide) rfl rfl ?_
  refine g_iconst hX dX2_heldBy_2 k_0 ?_
  refine g_istore_n (lc' := [some _, some _, some _, some _]) hX dX2_heldBy_3 rfl (by decide) rfl rfl ?_
  exact g_weak (lc' := [some _, some _, some _, some _]) ⟨rfl, rfl, rfl, rfl, trivial⟩ (t_X2_heldBy_4 hX ho 2000 _ _ _ h)
set_option maxRecDepth 100000 in
set_option maxHeartbeats 4000000 in
theorem c_X2_room {l : Launch} {D : DT} {o : Nat} {μ : Mem} {r : Int32} (ho : kd true o = 2) (v1 : Int32) (h : f_X2_room o v1 μ = some r) : Ct l D true 2 yX2_room cX2_room 3 (some FieldType.int) [.ref (D.1 o), .int v1] μ (some (.int r)) μ := by
  refine Ct.of (own := RX2) (lc0 := [some (.ref (D.1 o)), some (.int v1), none]) pn_X2 rfl (Nat.le_of_ble_eq_true rfl) rfl mv_X2_room.2.2.2.1 (fun X hX => ?_)
  unfold f_X2_room at h
  refine g_aload_n hX dX2_room_0 rfl rfl ?_
  refine g_iload_n hX dX2_room_1 rfl rfl ?_
  refine g_callVi hX (c_X2_isOne ho v1) mv_X2_isOne wm_415 ho rfl (by decide) (by decide) rfl rfl (Nat.le_of_ble_eq_true rfl) dX2_room_2 ?_
  refine g_if_ne (tgt := 10) hX dX2_room_5 (by decide) (fun q1 => ?_) (fun q1 => ?_)
  · rw [if_neg q1] at h
    refine g_bipush hX dX2_room_10 kb_10 ?_
    refine g_aload_n hX dX2_room_12 rfl rfl ?_
    refine g_getr hX ho fg_2_3 tf_2_3 w_153 (wo_2_3 ho) dX2_room_13 ?_
    refine g_iload_n hX dX2_room_16 rfl rfl ?_
    obtain ⟨z2, h⟩ := ck_some h
    refine g_iald hX (wk_2_3 ho).1 (wk_2_3 ho).2 z2 dX2_room_17 ?_
    refine g_iadd hX dX2_room_18 ?_
    refine g_istore_n (lc' := [some _, some _, some _]) hX dX2_room_19 rfl (by decide) rfl rfl ?_
    refine g_aload_n hX dX2_room_20 rfl rfl ?_
    refine g_getr hX ho fg_2_2 tf_2_2 w_151 (wo_2_2 ho) dX2_room_21 ?_
    refine g_iload_n hX dX2_room_24 rfl rfl ?_
    obtain ⟨z3, h⟩ := ck_some h
    refine g_iald hX (wk_2_2 ho).1 (wk_2_2 ho).2 z3 dX2_room_25 ?_
    by_cases q4 : (μ (o + 1) (ix v1)) = 1
    · rw [if_pos q4] at h
      refine g_tsIn (tgt := 64) (off := 38) hX dX2_room_26 (by rw [q4] <;> decide) (by rw [q4] <;> decide) (by rw [q4] <;> rfl) (by decide) ?_
      refine g_iload_n hX dX2_room_64 rfl rfl ?_
      refine g_iconst hX dX2_room_65 k_2 ?_
      refine g_idiv hX (by decide) dX2_room_66 ?_
      obtain rfl := Option.some.inj h
      exact g_iret hX rfl rfl dX2_room_67
    rw [if_neg q4] at h
    have eq4_1 := ts_ne (c := 1) (k := 1) q4 (by decide)
    by_cases q5 : (μ (o + 1) (ix v1)) = 2
    · rw [if_pos q5] at h
      refine g_tsIn (tgt := 68) (off := 42) hX dX2_room_26 (by rw [q5] <;> decide) (by rw [q5] <;> decide) (by rw [q5] <;> rfl) (by decide) ?_
      refine g_iconst hX dX2_room_68 k_3 ?_
      refine g_iload_n hX dX2_room_69 rfl rfl ?_
      refine g_imul hX dX2_room_70 ?_
      obtain rfl := Option.some.inj h
      exact g_iret hX rfl rfl dX2_room_71
    rw [if_neg q5] at h
    have eq5_2 := ts_ne (c := 2) (k := 2) q5 (by decide)
    by_cases q6 : (μ (o + 1) (ix v1)) = 3
    · rw [if_pos q6] at h
      refine g_tsIn (tgt := 72) (off := 46) hX dX2_room_26 (by rw [q6] <;> decide) (by rw [q6] <;> decide) (by rw [q6] <;> rfl) (by decide) ?_
      refine g_iload_n hX dX2_room_72 rfl rfl ?_
      refine g_aload_n hX dX2_room_73 rfl rfl ?_
      refine g_geti hX ho fg_2_13 tf_2_13 w_180 dX2_room_74 ?_
      refine g_bipush hX dX2_room_77 kb_6 ?_
      refine g_irem hX (by decide) dX2_room_79 ?_
      refine g_isub hX dX2_room_80 ?_
      obtain rfl := Option.some.inj h
      exact g_iret hX rfl rfl dX2_room_81
    rw [if_neg q6] at h
    have eq6_3 := ts_ne (c := 3) (k := 3) q6 (by decide)
    by_cases q7 : (μ (o + 1) (ix v1)) = 4
    · rw [if_pos q7] at h
      refine g_tsIn (tgt := 82) (off := 56) hX dX2_room_26 (by rw [q7] <;> decide) (by rw [q7] <;> decide) (by rw [q7] <;> rfl) (by decide) ?_
      refine g_iload_n hX dX2_room_82 rfl rfl ?_
      refine g_iconst hX dX2_room_83 k_2 ?_
      refine g_idiv hX (by decide) dX2_room_84 ?_
      refine g_aload_n hX dX2_room_85 rfl rfl ?_
      refine g_iload_n hX dX2_room_86 rfl rfl ?_
      obtain ⟨r8, hr8, h⟩ := bd_some h
      refine g_callVi hX (c_X2_heldBy ho _ hr8) mv_X2_heldBy wm_452 ho rfl (by decide) (by decide) rfl rfl (Nat.le_of_ble_eq_true rfl) dX2_room_87 ?_
      refine g_iadd hX dX2_room_90 ?_
      obtain rfl := Option.some.inj h
      exact g_iret hX rfl rfl dX2_room_91
    rw [if_neg q7] at h
    have eq7_4 := ts_ne (c := 4) (k := 4) q7 (by decide)
    by_cases q9 : (μ (o + 1) (ix v1)) = 5
    · rw [if_pos q9] at h
      refine g_tsIn (tgt := 92) (off := 66) hX dX2_room_26 (by rw [q9] <;> decide) (by rw [q9] <;> decide) (by rw [q9] <;> rfl) (by decide) ?_
      refine g_iconst hX dX2_room_92 k_3 ?_
      refine g_iload_n hX dX2_room_93 rfl rfl ?_
      refine g_imul hX dX2_room_94 ?_
      refine g_iconst hX dX2_room_95 k_5 ?_
      refine g_iadd hX dX2_room_96 ?_
      obtain rfl := Option.some.inj h
      exact g_iret hX rfl rfl dX2_room_97
    rw [if_neg q9] at h
    have eq9_5 := ts_ne (c := 5) (k := 5) q9 (by decide)
    by_cases q10 : (μ (o + 1) (ix v1)) = 6
    · rw [if_pos q10] at h
      refine g_tsIn (tgt := 98) (off := 72) hX dX2_room_26 (by rw [q10] <;> decide) (by rw [q10] <;> decide) (by rw [q10] <;> rfl) (by decide) ?_
      refine g_aload_n hX dX2_room_98 rfl rfl ?_
      refine g_geti hX ho fg_2_13 tf_2_13 w_180 dX2_room_99 ?_
      refine g_bipush hX dX2_room_102 kb_24 ?_
      refine g_irem hX (by decide) dX2_room_104 ?_
      refine g_bipush hX dX2_room_105 kb_12 ?_
      refine g_icmp_ge (tgt := 114) hX dX2_room_107 (by decide) (fun q11 => ?_) (fun q11 => ?_)
      · rw [if_pos q11] at h
        refine g_iload_n hX dX2_room_114 rfl rfl ?_
        obtain rfl := Option.some.inj h
        exact g_iret hX rfl rfl dX2_room_115
      · rw [if_neg q11] at h
        refine g_iconst hX dX2_room_110 k_0 ?_
        refine g_goto (tgt := 115) hX dX2_room_111 (by decide) ?_
        obtain rfl := Option.some.inj h
        exact g_iret hX rfl rfl dX2_room_115
    rw [if_neg q10] at h
    have eq10_6 := ts_ne (c := 6) (k := 6) q10 (by decide)
    refine g_tsOut (tgt := 116) hX dX2_room_26 (by omega) (by decide) ?_
    refine g_iload_n hX dX2_room_116 rfl rfl ?_
    obtain rfl := Option.some.inj h
    exact g_iret hX rfl rfl dX2_room_117
  · rw [if_pos q1] at h
    refine g_iconst hX dX2_room_8 k_0 ?_
    obtain rfl := Option.some.inj h
    exact g_iret hX rfl rfl dX2_room_9
