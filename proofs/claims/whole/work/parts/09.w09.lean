set_option maxRecDepth 100000 in
set_option maxHeartbeats 4000000 in
theorem t_X9_opens_103 {l : Launch} {D : DT} {X : XT} {P : Mem → Option Mem} {dP : Nat} {μ' : Mem} (hX : Cx l D false X (dP + 6) RX9 cX9_opens 2 none) (hB : 2 ≤ dP) (hP : ∀ {μ μ' : Mem}, P μ = some μ' → Ct l D false dP yX9_one cX9_one 3 none [.ref (D.1 0)] μ none μ') : ∀ (μ : Mem), f_X9_opens_103 P μ = some μ' → G l D false X 2 none μ' 103 [some (.ref (D.1 0)), none] [] μ := by
  intro μ h
  unfold f_X9_opens_103 at h
  refine g_aload_n hX dX9_opens_103 rfl rfl ?_
  refine g_dup hX dX9_opens_104 rfl ?_
  refine g_geti hX kd_false_0 fg_9_14 tf_9_14 w_984 dX9_opens_105 ?_
  refine g_iconst hX dX9_opens_108 k_1 ?_
  refine g_isub hX dX9_opens_109 ?_
  obtain ⟨μ1, hμ1, h⟩ := wr_some h
  refine g_puti hX kd_false_0 fg_9_14 tf_9_14 tyX9_ok nmX9 rfl w_984 dX9_opens_110 hμ1 ?_
  obtain rfl := Option.some.inj h
  exact g_vret hX rfl dX9_opens_113
set_option maxRecDepth 100000 in
set_option maxHeartbeats 4000000 in
theorem t_X9_opens_99 {l : Launch} {D : DT} {X : XT} {P : Mem → Option Mem} {dP : Nat} {μ' : Mem} (hX : Cx l D false X (dP + 6) RX9 cX9_opens 2 none) (hB : 2 ≤ dP) (hP : ∀ {μ μ' : Mem}, P μ = some μ' → Ct l D false dP yX9_one cX9_one 3 none [.ref (D.1 0)] μ none μ') : ∀ (s1 : Int32) (s2 : Int32) (μ : Mem), f_X9_opens_99 P s1 s2 μ = some μ' → G l D false X 2 none μ' 99 [some (.ref (D.1 0)), none] [.int s2, .int s1, .ref (D.1 0)] μ := by
  intro s1 s2 μ h
  unfold f_X9_opens_99 at h
  refine g_iadd hX dX9_opens_99 ?_
  obtain ⟨μ1, hμ1, h⟩ := wr_some h
  refine g_puti hX kd_false_0 fg_9_13 tf_9_13 tyX9_ok nmX9 rfl w_983 dX9_opens_100 hμ1 ?_
  exact g_weak (lc' := [some _, none]) ⟨rfl, trivial⟩ (t_X9_opens_103 hX hB hP _ h)
set_option maxRecDepth 100000 in
set_option maxHeartbeats 4000000 in
theorem t_X9_opens_79 {l : Launch} {D : DT} {X : XT} {P : Mem → Option Mem} {dP : Nat} {μ' : Mem} (hX : Cx l D false X (dP + 6) RX9 cX9_opens 2 none) (hB : 2 ≤ dP) (hP : ∀ {μ μ' : Mem}, P μ = some μ' → Ct l D false dP yX9_one cX9_one 3 none [.ref (D.1 0)] μ none μ') : ∀ (s1 : Int32) (μ : Mem), f_X9_opens_79 P s1 μ = some μ' → G l D false X 2 none μ' 79 [some (.ref (D.1 0)), none] [.int s1, .ref (D.1 0)] μ := by
  intro s1 μ h
  unfold f_X9_opens_79 at h
  obtain ⟨z2, h⟩ := ck_some h
  obtain ⟨μ1, hμ1, h⟩ := wr_some h
  refine g_putz hX z2 kd_false_0 fg_9_15 tf_9_15 tyX9_ok nmX9 rfl w_985 dX9_opens_79 hμ1 ?_
  refine g_aload_n hX dX9_opens_82 rfl rfl ?_
  refine g_dup hX dX9_opens_83 rfl ?_
  refine g_geti hX kd_false_0 fg_9_13 tf_9_13 w_983 dX9_opens_84 ?_
  refine g_aload_n hX dX9_opens_87 rfl rfl ?_
  refine g_geti hX kd_false_0 fg_9_15 tf_9_15 w_985 dX9_opens_88 ?_
  refine g_if_eq (tgt := 98) hX dX9_opens_91 (by decide) (fun q3 => ?_) (fun q3 => ?_)
  · rw [if_pos q3] at h
    refine g_iconst hX dX9_opens_98 k_1 ?_
    exact g_weak (lc' := [some _, none]) ⟨rfl, trivial⟩ (t_X9_opens_99 hX hB hP _ _ _ h)
  · rw [if_neg q3] at h
    refine g_iconst hX dX9_opens_94 k_0 ?_
    refine g_goto (tgt := 99) hX dX9_opens_95 (by decide) ?_
    exact g_weak (lc' := [some _, none]) ⟨rfl, trivial⟩ (t_X9_opens_99 hX hB hP _ _ _ h)
set_option maxRecDepth 100000 in
set_option maxHeartbeats 4000000 in
theorem t_X9_opens_74 {l : Launch} {D : DT} {X : XT} {P : Mem → Option Mem} {dP : Nat} {μ' : Mem} (hX : Cx l D false X (dP + 6) RX9 cX9_opens 2 none) (hB : 2 ≤ dP) (hP : ∀ {μ μ' : Mem}, P μ = some μ' → Ct l D false dP yX9_one cX9_one 3 none [.ref (D.1 0)] μ none μ') : ∀ (μ : Mem), f_X9_opens_74 P μ = some μ' → G l D false X 2 none μ' 74 [some (.ref (D.1 0)), none] [.ref (D.1 0)] μ := by
  intro μ h
  unfold f_X9_opens_74 at h
  refine g_iconst hX dX9_opens_74 k_1 ?_
  refine g_goto (tgt := 79) hX dX9_opens_75 (by decide) ?_
  exact g_weak (lc' := [some _, none]) ⟨rfl, trivial⟩ (t_X9_opens_79 hX hB hP _ _ h)
set_option maxRecDepth 100000 in
set_option maxHeartbeats 4000000 in
theorem c_X9_opens {l : Launch} {D : DT} {P : Mem → Option Mem} {dP : Nat} {μ : Mem} {μ' : Mem} (hB : 2 ≤ dP) (hP : ∀ {μ μ' : Mem}, P μ = some μ' → Ct l D false dP yX9_one cX9_one 3 none [.ref (D.1 0)] μ none μ') (v1 : Int32) (h : f_X9_opens P v1 μ = some μ') : Ct l D false (dP + 6) yX9_opens cX9_opens 2 none [.ref (D.1 0), .int v1] μ none μ' := by
  refine Ct.of (own := RX9) (lc0 := [some (.ref (D.1 0)), some (.int v1)]) pn_X9 rfl (Nat.le_of_ble_eq_true rfl) rfl mv_X9_opens.2.2.2.1 (fun X hX => ?_)
  unfold f_X9_opens at h
  refine g_aload_n hX dX9_opens_0 rfl rfl ?_
  refine g_geti hX kd_false_0 fg_9_14 tf_9_14 w_984 dX9_opens_1 ?_
  refine g_iconst hX dX9_opens_4 k_5 ?_
  refine g_icmp_ne (tgt := 14) hX dX9_opens_5 (by decide) (fun q1 => ?_) (fun q1 => ?_)
  · rw [if_neg q1] at h
    refine g_aload_n hX dX9_opens_14 rfl rfl ?_
    refine g_dup hX dX9_opens_15 rfl ?_
    refine g_geti hX kd_false_0 fg_9_14 tf_9_14 w_984 dX9_opens_16 ?_
    refine g_iconst hX dX9_opens_19 k_1 ?_
    refine g_iadd hX dX9_opens_20 ?_
    obtain ⟨μ2, hμ2, h⟩ := wr_some h
    refine g_puti hX kd_false_0 fg_9_14 tf_9_14 tyX9_ok nmX9 rfl w_984 dX9_opens_21 hμ2 ?_
    refine g_aload_n hX dX9_opens_24 rfl rfl ?_
    refine g_dup hX dX9_opens_25 rfl ?_
    refine g_geti hX kd_false_0 fg_9_13 tf_9_13 w_983 dX9_opens_26 ?_
    refine g_iconst hX dX9_opens_29 k_1 ?_
    refine g_iadd hX dX9_opens_30 ?_
    obtain ⟨μ3, hμ3, h⟩ := wr_some h
    refine g_puti hX kd_false_0 fg_9_13 tf_9_13 tyX9_ok nmX9 rfl w_983 dX9_opens_31 hμ3 ?_
    refine g_iload_n hX dX9_opens_34 rfl rfl ?_
    refine g_bipush hX dX9_opens_35 kb_33 ?_
    refine g_icmp_ne (tgt := 53) hX dX9_opens_37 (by decide) (fun q4 => ?_) (fun q4 => ?_)
    · rw [if_neg q4] at h
      refine g_aload_n hX dX9_opens_53 rfl rfl ?_
      obtain ⟨μ5, hμ5, h⟩ := bd_some h
      refine g_callVv hX (c_X9_any hB hP hμ5) mv_X9_any wm_1175 kd_false_0 rfl (by decide) (by omega) rfl rfl (Nat.le_of_ble_eq_true rfl) dX9_opens_54 ?_
      refine g_aload_n hX dX9_opens_57 rfl rfl ?_
      refine g_aload_n hX dX9_opens_58 rfl rfl ?_
      refine g_geti hX kd_false_0 fg_9_15 tf_9_15 w_985 dX9_opens_59 ?_
      refine g_if_ne (tgt := 74) hX dX9_opens_62 (by decide) (fun q6 => ?_) (fun q6 => ?_)
      · rw [if_neg q6] at h
        exact g_weak (lc' := [some _, none]) ⟨rfl, trivial⟩ (t_X9_opens_74 hX hB hP _ h)
      · rw [if_pos q6] at h
        refine g_aload_n hX dX9_opens_65 rfl rfl ?_
        obtain ⟨r7, hr7, h⟩ := bd_some h
        refine g_callVi hX (c_X9_look hr7) mv_X9_look wm_1199 kd_false_0 rfl (by decide) (by omega) rfl rfl (Nat.le_of_ble_eq_true rfl) dX9_opens_66 ?_
        refine g_bipush hX dX9_opens_69 kb_41 ?_
        refine g_icmp_eq (tgt := 78) hX dX9_opens_71 (by decide) (fun q8 => ?_) (fun q8 => ?_)
        · rw [if_pos q8] at h
          refine g_iconst hX dX9_opens_78 k_0 ?_
          exact g_weak (lc' := [some _, none]) ⟨rfl, trivial⟩ (t_X9_opens_79 hX hB hP _ _ h)
        · rw [if_neg q8] at h
          exact g_weak (lc' := [some _, none]) ⟨rfl, trivial⟩ (t_X9_opens_74 hX hB hP _ h)
    · rw [if_pos q4] at h
      refine g_aload_n hX dX9_opens_40 rfl rfl ?_
      obtain ⟨μ9, hμ9, h⟩ := bd_some h
      refine g_callVv hX (hP hμ9) mv_X9_one wm_1195 kd_false_0 rfl (by decide) (by omega) rfl rfl (Nat.le_of_ble_eq_true rfl) dX9_opens_41 ?_
      refine g_aload_n hX dX9_opens_44 rfl rfl ?_
      refine g_iconst hX dX9_opens_45 k_3 ?_
      refine g_iconst hX dX9_opens_46 k_0 ?_
      obtain ⟨μ10, hμ10, h⟩ := bd_some h
      refine g_callVv hX (c_X9_lays  _ _ hμ10) mv_X9_lays wm_1207 kd_false_0 rfl (by decide) (by omega) rfl rfl (Nat.le_of_ble_eq_true rfl) dX9_opens_47 ?_
      refine g_goto (tgt := 103) hX dX9_opens_50 (by decide) ?_
      exact g_weak (lc' := [some _, none]) ⟨rfl, trivial⟩ (t_X9_opens_103 hX hB hP _ h)
  · rw [if_pos q1] at h
    refine g_aload_n hX dX9_opens_8 rfl rfl ?_
    refine g_iconst hX dX9_opens_9 k_1 ?_
    obtain ⟨μ11, hμ11, h⟩ := wr_some h
    refine g_putz hX rfl kd_false_0 fg_9_15 tf_9_15 tyX9_ok nmX9 rfl w_985 dX9_opens_10 hμ11 ?_
    obtain rfl := Option.some.inj h
    exact g_vret hX rfl dX9_opens_13
set_option maxRecDepth 100000 in
set_option maxHeartbeats 4000000 in
theorem t_X9_oneb_46 {l : Launch} {D : DT} {X : XT} {P : Mem → Option Mem} {dP : Nat} {μ' : Mem} (hX : Cx l D false X (dP + 7) RX9 cX9_one 3 none) (hB : 2 ≤ dP) (hP : ∀ {μ μ' : Mem}, P μ = some μ' → Ct l D false dP yX9_one cX9_one 3 none [.ref (D.1 0)] μ none μ') : ∀ (v1 : Int32) (μ : Mem), f_X9_oneb_46 P v1 μ = some μ' → G l D false X 3 none μ' 46 [some (.ref (D.1 0)), some (.int v1), none] [] μ := by
  intro v1 μ h
  unfold f_X9_oneb_46 at h
  refine g_aload_n hX dX9_one_46 rfl rfl ?_
  refine g_iload_n hX dX9_one_47 rfl rfl ?_
  obtain ⟨μ1, hμ1, h⟩ := bd_some h
  refine g_callVv hX (c_X9_opens hB hP  _ hμ1) mv_X9_opens wm_1211 kd_false_0 rfl (by decide) (by omega) rfl rfl (Nat.le_of_ble_eq_true rfl) dX9_one_48 ?_
  refine g_goto (tgt := 58) hX dX9_one_51 (by decide) ?_
  obtain rfl := Option.some.inj h
  exact g_vret hX rfl dX9_one_58
set_option maxRecDepth 100000 in
set_option maxHeartbeats 4000000 in
theorem c_X9_one_b {l : Launch} {D : DT} {P : Mem → Option Mem} {dP : Nat} {μ : Mem} {μ' : Mem} (hB : 2 ≤ dP) (hP : ∀ {μ μ' : Mem}, P μ = some μ' → Ct l D false dP yX9_one cX9_one 3 none [.ref (D.1 0)] μ none μ') (h : f_X9_oneb P μ = some μ') : Ct l D false (dP + 7) yX9_one cX9_one 3 none [.ref (D.1 0)] μ none μ' := by
  refine Ct.of (own := RX9) (lc0 := [some (.ref (D.1 0)), none, none]) pn_X9 rfl (Nat.le_of_ble_eq_true rfl) rfl mv_X9_one.2.2.2.1 (fun X hX => ?_)
  unfold f_X9_oneb at h
  refine g_aload_n hX dX9_one_0 rfl rfl ?_
  obtain ⟨r1, hr1, h⟩ := bd_some h
  refine g_callVi hX (c_X9_look hr1) mv_X9_look wm_1199 kd_false_0 rfl (by decide) (by omega) rfl rfl (Nat.le_of_ble_eq_true rfl) dX9_one_1 ?_
  refine g_istore_n (lc' := [some _, some _, none]) hX dX9_one_4 rfl (by decide) rfl rfl ?_
  refine g_aload_n hX dX9_one_5 rfl rfl ?_
  refine g_iload_n hX dX9_one_6 rfl rfl ?_
  refine g_callVi hX (c_X9_nameOf  r1) mv_X9_nameOf wm_1203 kd_false_0 rfl (by decide) (by omega) rfl rfl (Nat.le_of_ble_eq_true rfl) dX9_one_7 ?_
  refine g_istore_n (lc' := [some _, some _, some _]) hX dX9_one_10 rfl (by decide) rfl rfl ?_
  refine g_iload_n hX dX9_one_11 rfl rfl ?_
  refine g_if_lt (tgt := 34) hX dX9_one_12 (by decide) (fun q2 => ?_) (fun q2 => ?_)
  · rw [if_pos q2] at h
    refine g_iload_n hX dX9_one_34 rfl rfl ?_
    refine g_bipush hX dX9_one_35 kb_33 ?_
    refine g_icmp_eq (tgt := 46) hX dX9_one_37 (by decide) (fun q3 => ?_) (fun q3 => ?_)
    · rw [if_pos q3] at h
      exact g_weak (lc' := [some _, some _, none]) ⟨rfl, rfl, trivial⟩ (t_X9_oneb_46 hX hB hP _ _ h)
    · rw [if_neg q3] at h
      refine g_iload_n hX dX9_one_40 rfl rfl ?_
      refine g_bipush hX dX9_one_41 kb_40 ?_
      refine g_icmp_ne (tgt := 54) hX dX9_one_43 (by decide) (fun q4 => ?_) (fun q4 => ?_)
      · rw [if_neg q4] at h
        refine g_aload_n hX dX9_one_54 rfl rfl ?_
        obtain ⟨μ5, hμ5, h⟩ := bd_some h
        refine g_callVv hX (c_X9_number hμ5) mv_X9_number wm_1215 kd_false_0 rfl (by decide) (by omega) rfl rfl (Nat.le_of_ble_eq_true rfl) dX9_one_55 ?_
        obtain rfl := Option.some.inj h
        exact g_vret hX rfl dX9_one_58
      · rw [if_pos q4] at h
        exact g_weak (lc' := [some _, some _, none]) ⟨rfl, rfl, trivial⟩ (t_X9_oneb_46 hX hB hP _ _ h)
  · rw [if_neg q2] at h
    refine g_aload_n hX dX9_one_15 rfl rfl ?_
    refine g_dup hX dX9_one_16 rfl ?_
    refine g_geti hX kd_false_0 fg_9_13 tf_9_13 w_983 dX9_one_17 ?_
    refine g_iconst hX dX9_one_20 k_1 ?_
    refine g_iadd hX dX9_one_21 ?_
    obtain ⟨μ6, hμ6, h⟩ := wr_some h
    refine g_puti hX kd_false_0 fg_9_13 tf_9_13 tyX9_ok nmX9 rfl w_983 dX9_one_22 hμ6 ?_
    refine g_aload_n hX dX9_one_25 rfl rfl ?_
    refine g_iconst hX dX9_one_26 k_2 ?_
    refine g_iload_n hX dX9_one_27 rfl rfl ?_
    obtain ⟨μ7, hμ7, h⟩ := bd_some h
    refine g_callVv hX (c_X9_lays  _ _ hμ7) mv_X9_lays wm_1207 kd_false_0 rfl (by decide) (by omega) rfl rfl (Nat.le_of_ble_eq_true rfl) dX9_one_28 ?_
    refine g_goto (tgt := 58) hX dX9_one_31 (by decide) ?_
    obtain rfl := Option.some.inj h
    exact g_vret hX rfl dX9_one_58
theorem c_X9_one {l : Launch} {D : DT} : ∀ (n : Nat) {μ : Mem} {μ' : Mem} , f_X9_one n μ = some μ' → Ct l D false (2 + 7 * n) yX9_one cX9_one 3 none [.ref (D.1 0)] μ none μ' := by
  intro n
  induction n with
  | zero => intro μ μ' h; exact absurd h (by simp [f_X9_one])
  | succ n ih =>
    intro μ μ' h
    rw [f_X9_one] at h
    rw [show 2 + 7 * (n + 1) = (2 + 7 * n) + 7 by omega]
    exact c_X9_one_b (Nat.le_add_right _ _) ih  h
set_option maxRecDepth 100000 in
set_option maxHeartbeats 4000000 in
theorem c_X9_isField {l : Launch} {D : DT} {μ : Mem} (v0 : Int32) : Ct l D false 2 yX9_isField cX9_isField 1 (some FieldType.boolean) [.int v0] μ (some (.int (f_X9_isField v0))) μ := by
  obtain ⟨r, h⟩ : ∃ r, f_X9_isField v0 = r := ⟨_, rfl⟩
  rw [h]
  refine Ct.of (own := RX9) (lc0 := [some (.int v0)]) pn_X9 rfl (Nat.le_of_ble_eq_true rfl) rfl mv_X9_isField.2.2.1 (fun X hX => ?_)
  unfold f_X9_isField at h
  refine g_iload_n hX dX9_isField_0 rfl rfl ?_
  refine g_iconst hX dX9_isField_1 k_0 ?_
  refine g_bipush hX dX9_isField_2 kb_6 ?_
  refine g_callSi hX (c_X9_in  v0 0 6) mv_X9_in wm_1047 (by decide) rfl rfl (Nat.le_of_ble_eq_true rfl) dX9_isField_4 ?_
  subst h
  exact g_iret hX rfl (nar_bl (bz_X9_in v0 0 6)) dX9_isField_7
set_option maxRecDepth 100000 in
set_option maxHeartbeats 4000000 in
theorem c_X9_areTwo {l : Launch} {D : DT} {μ : Mem} (v0 : Int32) (v1 : Int32) : Ct l D false 3 yX9_areTwo cX9_areTwo 2 (some FieldType.boolean) [.int v0, .int v1] μ (some (.int (f_X9_areTwo v0 v1))) μ := by
  obtain ⟨r, h⟩ : ∃ r, f_X9_areTwo v0 v1 = r := ⟨_, rfl⟩
  rw [h]
  refine Ct.of (own := RX9) (lc0 := [some (.int v0), some (.int v1)]) pn_X9 rfl (Nat.le_of_ble_eq_true rfl) rfl mv_X9_areTwo.2.2.1 (fun X hX => ?_)
  unfold f_X9_areTwo at h
  refine g_iload_n hX dX9_areTwo_0 rfl rfl ?_
  refine g_callSi hX (c_X9_isField  v0) mv_X9_isField wm_1131 (by decide) rfl rfl (Nat.le_of_ble_eq_true rfl) dX9_areTwo_1 ?_
  refine g_if_eq (tgt := 23) hX dX9_areTwo_4 (by decide) (fun q1 => ?_) (fun q1 => ?_)
  · rw [if_pos q1] at h
    refine g_iconst hX dX9_areTwo_23 k_0 ?_
    subst h
    exact g_iret hX rfl rfl dX9_areTwo_24
  · rw [if_neg q1] at h
    refine g_iload_n hX dX9_areTwo_7 rfl rfl ?_
    refine g_callSi hX (c_X9_isField  v1) mv_X9_isField wm_1131 (by decide) rfl rfl (Nat.le_of_ble_eq_true rfl) dX9_areTwo_8 ?_
    refine g_if_eq (tgt := 23) hX dX9_areTwo_11 (by decide) (fun q2 => ?_) (fun q2 => ?_)
    · rw [if_pos q2] at h
      refine g_iconst hX dX9_areTwo_23 k_0 ?_
      subst h
      exact g_iret hX rfl rfl dX9_areTwo_24
    · rw [if_neg q2] at h
      refine g_iload_n hX dX9_areTwo_14 rfl rfl ?_
      refine g_iload_n hX dX9_areTwo_15 rfl rfl ?_
      refine g_icmp_eq (tgt := 23) hX dX9_areTwo_16 (by decide) (fun q3 => ?_) (fun q3 => ?_)
      · rw [if_pos q3] at h
        refine g_iconst hX dX9_areTwo_23 k_0 ?_
        subst h
        exact g_iret hX rfl rfl dX9_areTwo_24
      · rw [if_neg q3] at h
        refine g_iconst hX dX9_areTwo_19 k_1 ?_
        refine g_goto (tgt := 24) hX dX9_areTwo_20 (by decide) ?_
        subst h
        exact g_iret hX rfl rfl dX9_areTwo_24
set_option maxRecDepth 100000 in
set_option maxHeartbeats 4000000 in
theorem c_X9_isPerson {l : Launch} {D : DT} {μ : Mem} (v1 : Int32) : Ct l D false 2 yX9_isPerson cX9_isPerson 2 (some FieldType.boolean) [.ref (D.1 0), .int v1] μ (some (.int (f_X9_isPerson v1 μ))) μ := by
  obtain ⟨r, h⟩ : ∃ r, f_X9_isPerson v1 μ = r := ⟨_, rfl⟩
  rw [h]
  refine Ct.of (own := RX9) (lc0 := [some (.ref (D.1 0)), some (.int v1)]) pn_X9 rfl (Nat.le_of_ble_eq_true rfl) rfl mv_X9_isPerson.2.2.2.1 (fun X hX => ?_)
  unfold f_X9_isPerson at h
  refine g_iload_n hX dX9_isPerson_0 rfl rfl ?_
  refine g_iconst hX dX9_isPerson_1 k_0 ?_
  refine g_aload_n hX dX9_isPerson_2 rfl rfl ?_
  refine g_getr hX kd_false_0 fg_9_0 tf_9_0 w_970 sr_false_0_0 dX9_isPerson_3 ?_
  refine g_iconst hX dX9_isPerson_6 k_2 ?_
  refine g_iald hX wk_9_0.1 wk_9_0.2 (by decide) dX9_isPerson_7 ?_
  refine g_iconst hX dX9_isPerson_8 k_1 ?_
  refine g_isub hX dX9_isPerson_9 ?_
  refine g_callSi hX (c_X9_in  v1 0 ((μ 1 (ix 2)) - 1)) mv_X9_in wm_1047 (by decide) rfl rfl (Nat.le_of_ble_eq_true rfl) dX9_isPerson_10 ?_
  subst h
  exact g_iret hX rfl (nar_bl (bz_X9_in v1 0 ((μ 1 (ix 2)) - 1))) dX9_isPerson_13
set_option maxRecDepth 100000 in
set_option maxHeartbeats 4000000 in
theorem c_X9_error {l : Launch} {D : DT} {μ : Mem} {r : Int32} {μ' : Mem} (v1 : Int32) (h : f_X9_error v1 μ = some (r, μ')) : Ct l D false 1 yX9_error cX9_error 2 (some FieldType.int) [.ref (D.1 0), .int v1] μ (some (.int r)) μ' := by
  refine Ct.of (own := RX9) (lc0 := [some (.ref (D.1 0)), some (.int v1)]) pn_X9 rfl (Nat.le_of_ble_eq_true rfl) rfl mv_X9_error.2.2.2.1 (fun X hX => ?_)
  unfold f_X9_error at h
  refine g_aload_n hX dX9_error_0 rfl rfl ?_
  refine g_getr hX kd_false_0 fg_9_4 tf_9_4 w_974 sr_false_0_4 dX9_error_1 ?_
  refine g_ldc hX dX9_error_4 wc_1055 ?_
  refine g_iload_n hX dX9_error_6 rfl rfl ?_
  refine g_isub hX dX9_error_7 ?_
  refine g_dup2 hX dX9_error_8 rfl rfl ?_
  obtain ⟨z1, h⟩ := ck_some h
  refine g_iald hX wk_9_4.1 wk_9_4.2 z1 dX9_error_9 ?_
  refine g_iconst hX dX9_error_10 k_1 ?_
  refine g_iadd hX dX9_error_11 ?_
  obtain ⟨z3, h⟩ := ck_some h
  obtain ⟨μ2, hμ2, h⟩ := wr_some h
  refine g_iastM hX wk_9_4.1 wk_9_4.2 z3 dX9_error_12 hμ2 ?_
  refine g_iload_n hX dX9_error_13 rfl rfl ?_
  obtain ⟨rfl, rfl⟩ := pair_inj h
  exact g_iret hX rfl rfl dX9_error_14
set_option maxRecDepth 100000 in
set_option maxHeartbeats 4000000 in
theorem c_X9_of {l : Launch} {D : DT} {μ : Mem} {r : Int32} (v1 : Int32) (v2 : Int32) (h : f_X9_of v1 v2 μ = some r) : Ct l D false 1 yX9_of cX9_of 3 (some FieldType.int) [.ref (D.1 0), .int v1, .int v2] μ (some (.int r)) μ := by
  refine Ct.of (own := RX9) (lc0 := [some (.ref (D.1 0)), some (.int v1), some (.int v2)]) pn_X9 rfl (Nat.le_of_ble_eq_true rfl) rfl mv_X9_of.2.2.2.1 (fun X hX => ?_)
  unfold f_X9_of at h
  refine g_aload_n hX dX9_of_0 rfl rfl ?_
  refine g_getr hX kd_false_0 fg_9_0 tf_9_0 w_970 sr_false_0_0 dX9_of_1 ?_
  refine g_bipush hX dX9_of_4 kb_15 ?_
  refine g_iconst hX dX9_of_6 k_2 ?_
  refine g_iload_n hX dX9_of_7 rfl rfl ?_
  refine g_imul hX dX9_of_8 ?_
  refine g_iadd hX dX9_of_9 ?_
  refine g_iload_n hX dX9_of_10 rfl rfl ?_
  refine g_iadd hX dX9_of_11 ?_
  obtain ⟨z1, h⟩ := ck_some h
  refine g_iald hX wk_9_0.1 wk_9_0.2 z1 dX9_of_12 ?_
  obtain rfl := Option.some.inj h
  exact g_iret hX rfl rfl dX9_of_13
set_option maxRecDepth 100000 in
set_option maxHeartbeats 4000000 in
theorem t_X9_as_18 {l : Launch} {D : DT} {X : XT} {r : Int32} {μ' : Mem} (hX : Cx l D false X 3 RX9 cX9_as 5 (some FieldType.int)) : ∀ (μ : Mem), f_X9_as_18 μ = some (r, μ') → G l D false X 5 (some (.int r)) μ' 18 [some (.ref (D.1 0)), none, none, none, none] [] μ := by
  intro μ h
  unfold f_X9_as_18 at h
  refine g_aload_n hX dX9_as_18 rfl rfl ?_
  refine g_ldc hX dX9_as_19 wc_1050 ?_
  obtain ⟨r1, μ2, hr1, h⟩ := bd2_some h
  refine g_callVi hX (c_X9_error  _ hr1) mv_X9_error wm_1051 kd_false_0 rfl (by decide) (by decide) rfl rfl (Nat.le_of_ble_eq_true rfl) dX9_as_21 ?_
  obtain ⟨rfl, rfl⟩ := pair_inj h
  exact g_iret hX rfl rfl dX9_as_24
set_option maxRecDepth 100000 in
set_option maxHeartbeats 4000000 in
theorem t_X9_as_66 {l : Launch} {D : DT} {X : XT} {r : Int32} {μ' : Mem} (hX : Cx l D false X 3 RX9 cX9_as 5 (some FieldType.int)) : ∀ (v1 : Int32) (s0 : Int32) (μ : Mem), f_X9_as_66 v1 s0 μ = some (r, μ') → G l D false X 5 (some (.int r)) μ' 66 [some (.ref (D.1 0)), some (.int v1), none, none, none] [.int s0] μ := by
  intro v1 s0 μ h
  unfold f_X9_as_66 at h
  refine g_istore (lc' := [some _, some _, none, none, some _]) hX dX9_as_66 (by decide) rfl rfl ?_
  refine g_iload hX dX9_as_68 rfl ?_
  refine g_if_eq (tgt := 82) hX dX9_as_70 (by decide) (fun q1 => ?_) (fun q1 => ?_)
  · rw [if_pos q1] at h
    refine g_aload_n hX dX9_as_82 rfl rfl ?_
    refine g_ldc hX dX9_as_83 wc_1123 ?_
    obtain ⟨r2, μ3, hr2, h⟩ := bd2_some h
    refine g_callVi hX (c_X9_error  _ hr2) mv_X9_error wm_1051 kd_false_0 rfl (by decide) (by decide) rfl rfl (Nat.le_of_ble_eq_true rfl) dX9_as_85 ?_
    obtain ⟨rfl, rfl⟩ := pair_inj h
    exact g_iret hX rfl rfl dX9_as_88
  · rw [if_neg q1] at h
    refine g_aload_n hX dX9_as_73 rfl rfl ?_
    refine g_iload_n hX dX9_as_74 rfl rfl ?_
    refine g_iconst hX dX9_as_75 k_1 ?_
    obtain ⟨r4, hr4, h⟩ := bd_some h
    refine g_callVi hX (c_X9_of  _ _ hr4) mv_X9_of wm_1065 kd_false_0 rfl (by decide) (by decide) rfl rfl (Nat.le_of_ble_eq_true rfl) dX9_as_76 ?_
    refine g_goto (tgt := 88) hX dX9_as_79 (by decide) ?_
    obtain ⟨rfl, rfl⟩ := pair_inj h
    exact g_iret hX rfl rfl dX9_as_88
set_option maxRecDepth 100000 in
set_option maxHeartbeats 4000000 in
theorem t_X9_as_61 {l : Launch} {D : DT} {X : XT} {r : Int32} {μ' : Mem} (hX : Cx l D false X 3 RX9 cX9_as 5 (some FieldType.int)) : ∀ (v1 : Int32) (μ : Mem), f_X9_as_61 v1 μ = some (r, μ') → G l D false X 5 (some (.int r)) μ' 61 [some (.ref (D.1 0)), some (.int v1), none, none, none] [] μ := by
  intro v1 μ h
  unfold f_X9_as_61 at h
  refine g_iconst hX dX9_as_61 k_1 ?_
  refine g_goto (tgt := 66) hX dX9_as_62 (by decide) ?_
  exact g_weak (lc' := [some _, some _, none, none, none]) ⟨rfl, rfl, trivial⟩ (t_X9_as_66 hX _ _ _ h)
set_option maxRecDepth 100000 in
set_option maxHeartbeats 4000000 in
theorem t_X9_as_65 {l : Launch} {D : DT} {X : XT} {r : Int32} {μ' : Mem} (hX : Cx l D false X 3 RX9 cX9_as 5 (some FieldType.int)) : ∀ (v1 : Int32) (μ : Mem), f_X9_as_65 v1 μ = some (r, μ') → G l D false X 5 (some (.int r)) μ' 65 [some (.ref (D.1 0)), some (.int v1), none, none, none] [] μ := by
  intro v1 μ h
  unfold f_X9_as_65 at h
  refine g_iconst hX dX9_as_65 k_0 ?_
  exact g_weak (lc' := [some _, some _, none, none, none]) ⟨rfl, rfl, trivial⟩ (t_X9_as_66 hX _ _ _ h)
set_option maxRecDepth 100000 in
set_option maxHeartbeats 4000000 in
theorem t_X9_as_51 {l : Launch} {D : DT} {X : XT} {r : Int32} {μ' : Mem} (hX : Cx l D false X 3 RX9 cX9_as 5 (some FieldType.int)) : ∀ (v1 : Int32) (v2 : Int32) (v3 : Int32) (μ : Mem), f_X9_as_51 v1 v2 v3 μ = some (r, μ') → G l D false X 5 (some (.int r)) μ' 51 [some (.ref (D.1 0)), some (.int v1), some (.int v2), some (.int v3), none] [] μ := by
  intro v1 v2 v3 μ h
  unfold f_X9_as_51 at h
  refine g_iload_n hX dX9_as_51 rfl rfl ?_
  refine g_iconst hX dX9_as_52 k_2 ?_
  refine g_icmp_ne (tgt := 65) hX dX9_as_53 (by decide) (fun q1 => ?_) (fun q1 => ?_)
  · rw [if_neg q1] at h
    exact g_weak (lc' := [some _, some _, none, none, none]) ⟨rfl, rfl, trivial⟩ (t_X9_as_65 hX _ _ h)
  · rw [if_pos q1] at h
    refine g_iload_n hX dX9_as_56 rfl rfl ?_
    refine g_iconst hX dX9_as_57 k_5 ?_
    refine g_icmp_ne (tgt := 65) hX dX9_as_58 (by decide) (fun q2 => ?_) (fun q2 => ?_)
    · rw [if_neg q2] at h
      exact g_weak (lc' := [some _, some _, none, none, none]) ⟨rfl, rfl, trivial⟩ (t_X9_as_65 hX _ _ h)
    · rw [if_pos q2] at h
      exact g_weak (lc' := [some _, some _, none, none, none]) ⟨rfl, rfl, trivial⟩ (t_X9_as_61 hX _ _ h)
set_option maxRecDepth 100000 in
set_option maxHeartbeats 4000000 in
theorem c_X9_as {l : Launch} {D : DT} {μ : Mem} {r : Int32} {μ' : Mem} (v1 : Int32) (v2 : Int32) (h : f_X9_as v1 v2 μ = some (r, μ')) : Ct l D false 3 yX9_as cX9_as 5 (some FieldType.int) [.ref (D.1 0), .int v1, .int v2] μ (some (.int r)) μ' := by
  refine Ct.of (own := RX9) (lc0 := [some (.ref (D.1 0)), some (.int v1), some (.int v2), none, none]) pn_X9 rfl (Nat.le_of_ble_eq_true rfl) rfl mv_X9_as.2.2.2.1 (fun X hX => ?_)
  unfold f_X9_as at h
  refine g_aload_n hX dX9_as_0 rfl rfl ?_
  refine g_iload_n hX dX9_as_1 rfl rfl ?_
  refine g_callVi hX (c_X9_isPerson  v1) mv_X9_isPerson wm_1061 kd_false_0 rfl (by decide) (by decide) rfl rfl (Nat.le_of_ble_eq_true rfl) dX9_as_2 ?_
  refine g_if_eq (tgt := 18) hX dX9_as_5 (by decide) (fun q1 => ?_) (fun q1 => ?_)
  · rw [if_pos q1] at h
    exact g_weak (lc' := [some _, none, none, none, none]) ⟨rfl, trivial⟩ (t_X9_as_18 hX _ h)
  · rw [if_neg q1] at h
    refine g_iload_n hX dX9_as_8 rfl rfl ?_
    refine g_iconst hX dX9_as_9 k_0 ?_
    refine g_bipush hX dX9_as_10 kb_6 ?_
    refine g_callSi hX (c_X9_in  v2 0 6) mv_X9_in wm_1047 (by decide) rfl rfl (Nat.le_of_ble_eq_true rfl) dX9_as_12 ?_
    refine g_if_ne (tgt := 25) hX dX9_as_15 (by decide) (fun q2 => ?_) (fun q2 => ?_)
    · rw [if_neg q2] at h
      refine g_aload_n hX dX9_as_25 rfl rfl ?_
      refine g_iload_n hX dX9_as_26 rfl rfl ?_
      refine g_iconst hX dX9_as_27 k_0 ?_
      obtain ⟨r3, hr3, h⟩ := bd_some h
      refine g_callVi hX (c_X9_of  _ _ hr3) mv_X9_of wm_1065 kd_false_0 rfl (by decide) (by decide) rfl rfl (Nat.le_of_ble_eq_true rfl) dX9_as_28 ?_
      refine g_istore_n (lc' := [some _, some _, some _, some _, none]) hX dX9_as_31 rfl (by decide) rfl rfl ?_
      refine g_iload_n hX dX9_as_32 rfl rfl ?_
      refine g_if_eq (tgt := 61) hX dX9_as_33 (by decide) (fun q4 => ?_) (fun q4 => ?_)
      · rw [if_pos q4] at h
        exact g_weak (lc' := [some _, some _, none, none, none]) ⟨rfl, rfl, trivial⟩ (t_X9_as_61 hX _ _ h)
      · rw [if_neg q4] at h
        refine g_iload_n hX dX9_as_36 rfl rfl ?_
        refine g_iload_n hX dX9_as_37 rfl rfl ?_
        refine g_icmp_eq (tgt := 61) hX dX9_as_38 (by decide) (fun q5 => ?_) (fun q5 => ?_)
        · rw [if_pos q5] at h
          exact g_weak (lc' := [some _, some _, none, none, none]) ⟨rfl, rfl, trivial⟩ (t_X9_as_61 hX _ _ h)
        · rw [if_neg q5] at h
          refine g_iload_n hX dX9_as_41 rfl rfl ?_
          refine g_iconst hX dX9_as_42 k_1 ?_
          refine g_icmp_ne (tgt := 51) hX dX9_as_43 (by decide) (fun q6 => ?_) (fun q6 => ?_)
          · rw [if_neg q6] at h
            exact g_weak (lc' := [some _, some _, some _, some _, none]) ⟨rfl, rfl, rfl, rfl, trivial⟩ (t_X9_as_51 hX _ _ _ _ h)
          · rw [if_pos q6] at h
            refine g_iload_n hX dX9_as_46 rfl rfl ?_
            refine g_iconst hX dX9_as_47 k_4 ?_
            refine g_icmp_eq (tgt := 61) hX dX9_as_48 (by decide) (fun q7 => ?_) (fun q7 => ?_)
            · rw [if_pos q7] at h
              exact g_weak (lc' := [some _, some _, none, none, none]) ⟨rfl, rfl, trivial⟩ (t_X9_as_61 hX _ _ h)
            · rw [if_neg q7] at h
              exact g_weak (lc' := [some _, some _, some _, some _, none]) ⟨rfl, rfl, rfl, rfl, trivial⟩ (t_X9_as_51 hX _ _ _ _ h)
    · rw [if_pos q2] at h
      exact g_weak (lc' := [some _, none, none, none, none]) ⟨rfl, trivial⟩ (t_X9_as_18 hX _ h)
set_option maxRecDepth 100000 in
set_option maxHeartbeats 4000000 in
theorem c_X9_isKm {l : Launch} {D : DT} {μ : Mem} (v0 : Int32) : Ct l D false 2 yX9_isKm cX9_isKm 1 (some FieldType.boolean) [.int v0] μ (some (.int (f_X9_isKm v0))) μ := by
  obtain ⟨r, h⟩ : ∃ r, f_X9_isKm v0 = r := ⟨_, rfl⟩
  rw [h]
  refine Ct.of (own := RX9) (lc0 := [some (.int v0)]) pn_X9 rfl (Nat.le_of_ble_eq_true rfl) rfl mv_X9_isKm.2.2.1 (fun X hX => ?_)
  unfold f_X9_isKm at h
  refine g_iload_n hX dX9_isKm_0 rfl rfl ?_
  refine g_iconst hX dX9_isKm_1 k_0 ?_
  refine g_bipush hX dX9_isKm_2 kb_69 ?_
  refine g_callSi hX (c_X9_in  v0 0 69) mv_X9_in wm_1047 (by decide) rfl rfl (Nat.le_of_ble_eq_true rfl) dX9_isKm_4 ?_
  subst h
  exact g_iret hX rfl (nar_bl (bz_X9_in v0 0 69)) dX9_isKm_7
set_option maxRecDepth 100000 in
set_option maxHeartbeats 4000000 in
theorem c_X9_becomes {l : Launch} {D : DT} {μ : Mem} {r : Int32} {μ' : Mem} (v1 : Int32) (v2 : Int32) (h : f_X9_becomes v1 v2 μ = some (r, μ')) : Ct l D false 1 yX9_becomes cX9_becomes 4 (some FieldType.int) [.ref (D.1 0), .int v1, .int v2] μ (some (.int r)) μ' := by
  refine Ct.of (own := RX9) (lc0 := [some (.ref (D.1 0)), some (.int v1), some (.int v2), none]) pn_X9 rfl (Nat.le_of_ble_eq_true rfl) rfl mv_X9_becomes.2.2.2.1 (fun X hX => ?_)
  unfold f_X9_becomes at h
  refine g_aload_n hX dX9_becomes_0 rfl rfl ?_
  refine g_getr hX kd_false_0 fg_9_0 tf_9_0 w_970 sr_false_0_0 dX9_becomes_1 ?_
  refine g_iload_n hX dX9_becomes_4 rfl rfl ?_
  obtain ⟨z1, h⟩ := ck_some h
  refine g_iald hX wk_9_0.1 wk_9_0.2 z1 dX9_becomes_5 ?_
  refine g_istore_n (lc' := [some _, some _, some _, some _]) hX dX9_becomes_6 rfl (by decide) rfl rfl ?_
  refine g_aload_n hX dX9_becomes_7 rfl rfl ?_
  refine g_getr hX kd_false_0 fg_9_0 tf_9_0 w_970 sr_false_0_0 dX9_becomes_8 ?_
  refine g_iload_n hX dX9_becomes_11 rfl rfl ?_
  refine g_iload_n hX dX9_becomes_12 rfl rfl ?_
  obtain ⟨z3, h⟩ := ck_some h
  obtain ⟨μ2, hμ2, h⟩ := wr_some h
  refine g_iastM hX wk_9_0.1 wk_9_0.2 z3 dX9_becomes_13 hμ2 ?_
  refine g_iload_n hX dX9_becomes_14 rfl rfl ?_
  obtain ⟨rfl, rfl⟩ := pair_inj h
  exact g_iret hX rfl rfl dX9_becomes_15
set_option maxRecDepth 100000 in
set_option maxHeartbeats 4000000 in
theorem t_X9_become_15 {l : Launch} {D : DT} {X : XT} {r : Int32} {μ' : Mem} (hX : Cx l D false X 3 RX9 cX9_become 3 (some FieldType.int)) : ∀ (μ : Mem), f_X9_become_15 μ = some (r, μ') → G l D false X 3 (some (.int r)) μ' 15 [some (.ref (D.1 0)), none, none] [] μ := by
  intro μ h
  unfold f_X9_become_15 at h
  refine g_aload_n hX dX9_become_15 rfl rfl ?_
  refine g_ldc hX dX9_become_16 wc_1050 ?_
  obtain ⟨r1, μ2, hr1, h⟩ := bd2_some h
  refine g_callVi hX (c_X9_error  _ hr1) mv_X9_error wm_1051 kd_false_0 rfl (by decide) (by decide) rfl rfl (Nat.le_of_ble_eq_true rfl) dX9_become_18 ?_
  obtain ⟨rfl, rfl⟩ := pair_inj h
  exact g_iret hX rfl rfl dX9_become_21
set_option maxRecDepth 100000 in
set_option maxHeartbeats 4000000 in
theorem c_X9_become {l : Launch} {D : DT} {μ : Mem} {r : Int32} {μ' : Mem} (v1 : Int32) (v2 : Int32) (h : f_X9_become v1 v2 μ = some (r, μ')) : Ct l D false 3 yX9_become cX9_become 3 (some FieldType.int) [.ref (D.1 0), .int v1, .int v2] μ (some (.int r)) μ' := by
  refine Ct.of (own := RX9) (lc0 := [some (.ref (D.1 0)), some (.int v1), some (.int v2)]) pn_X9 rfl (Nat.le_of_ble_eq_true rfl) rfl mv_X9_become.2.2.2.1 (fun X hX => ?_)
  unfold f_X9_become at h
  refine g_aload_n hX dX9_become_0 rfl rfl ?_
  refine g_iload_n hX dX9_become_1 rfl rfl ?_
  refine g_callVi hX (c_X9_isPerson  v1) mv_X9_isPerson wm_1061 kd_false_0 rfl (by decide) (by decide) rfl rfl (Nat.le_of_ble_eq_true rfl) dX9_become_2 ?_
  refine g_if_eq (tgt := 15) hX dX9_become_5 (by decide) (fun q1 => ?_) (fun q1 => ?_)
  · rw [if_pos q1] at h
    exact g_weak (lc' := [some _, none, none]) ⟨rfl, trivial⟩ (t_X9_become_15 hX _ h)
  · rw [if_neg q1] at h
    refine g_iload_n hX dX9_become_8 rfl rfl ?_
    refine g_callSi hX (c_X9_isKm  v2) mv_X9_isKm wm_1044 (by decide) rfl rfl (Nat.le_of_ble_eq_true rfl) dX9_become_9 ?_
    refine g_if_ne (tgt := 22) hX dX9_become_12 (by decide) (fun q2 => ?_) (fun q2 => ?_)
    · rw [if_neg q2] at h
      refine g_aload_n hX dX9_become_22 rfl rfl ?_
      refine g_getr hX kd_false_0 fg_9_0 tf_9_0 w_970 sr_false_0_0 dX9_become_23 ?_
      refine g_bipush hX dX9_become_26 kb_15 ?_
      refine g_iconst hX dX9_become_28 k_2 ?_
      refine g_iload_n hX dX9_become_29 rfl rfl ?_
      refine g_imul hX dX9_become_30 ?_
      refine g_iadd hX dX9_become_31 ?_
      refine g_iconst hX dX9_become_32 k_1 ?_
      refine g_iadd hX dX9_become_33 ?_
      refine g_iload_n hX dX9_become_34 rfl rfl ?_
      refine g_bipush hX dX9_become_35 kb_10 ?_
      refine g_irem hX (by decide) dX9_become_37 ?_
      obtain ⟨z4, h⟩ := ck_some h
      obtain ⟨μ3, hμ3, h⟩ := wr_some h
      refine g_iastM hX wk_9_0.1 wk_9_0.2 z4 dX9_become_38 hμ3 ?_
      refine g_aload_n hX dX9_become_39 rfl rfl ?_
      refine g_bipush hX dX9_become_40 kb_15 ?_
      refine g_iconst hX dX9_become_42 k_2 ?_
      refine g_iload_n hX dX9_become_43 rfl rfl ?_
      refine g_imul hX dX9_become_44 ?_
      refine g_iadd hX dX9_become_45 ?_
      refine g_iload_n hX dX9_become_46 rfl rfl ?_
      refine g_bipush hX dX9_become_47 kb_10 ?_
      refine g_idiv hX (by decide) dX9_become_49 ?_
      obtain ⟨r5, μ6, hr5, h⟩ := bd2_some h
      refine g_callVi hX (c_X9_becomes  _ _ hr5) mv_X9_becomes wm_1115 kd_false_0 rfl (by decide) (by decide) rfl rfl (Nat.le_of_ble_eq_true rfl) dX9_become_50 ?_
      obtain ⟨rfl, rfl⟩ := pair_inj h
      exact g_iret hX rfl rfl dX9_become_53
    · rw [if_pos q2] at h
      exact g_weak (lc' := [some _, none, none]) ⟨rfl, trivial⟩ (t_X9_become_15 hX _ h)
set_option maxRecDepth 100000 in
set_option maxHeartbeats 4000000 in
theorem c_X9_begins {l : Launch} {D : DT} {μ : Mem} {μ' : Mem} (v1 : Int32) (h : f_X9_begins v1 μ = some μ') : Ct l D false 1 yX9_begins cX9_begins 2 none [.ref (D.1 0), .int v1] μ none μ' := by
  refine Ct.of (own := RX9) (lc0 := [some (.ref (D.1 0)), some (.int v1)]) pn_X9 rfl (Nat.le_of_ble_eq_true rfl) rfl mv_X9_begins.2.2.2.1 (fun X hX => ?_)
  unfold f_X9_begins at h
  refine g_aload_n hX dX9_begins_0 rfl rfl ?_
  refine g_geti hX kd_false_0 fg_9_21 tf_9_21 w_991 dX9_begins_1 ?_
  refine g_bipush hX dX9_begins_4 kb_30 ?_
  refine g_icmp_ge (tgt := 29) hX dX9_begins_6 (by decide) (fun q1 => ?_) (fun q1 => ?_)
  · rw [if_pos q1] at h
    obtain rfl := Option.some.inj h
    exact g_vret hX rfl dX9_begins_29
  · rw [if_neg q1] at h
    refine g_aload_n hX dX9_begins_9 rfl rfl ?_
    refine g_getr hX kd_false_0 fg_9_20 tf_9_20 w_990 sr_false_0_20 dX9_begins_10 ?_
    refine g_aload_n hX dX9_begins_13 rfl rfl ?_
    refine g_geti hX kd_false_0 fg_9_21 tf_9_21 w_991 dX9_begins_14 ?_
    refine g_iload_n hX dX9_begins_17 rfl rfl ?_
    obtain ⟨z3, h⟩ := ck_some h
    obtain ⟨μ2, hμ2, h⟩ := wr_some h
    refine g_iastM hX wk_9_20.1 wk_9_20.2 z3 dX9_begins_18 hμ2 ?_
    refine g_aload_n hX dX9_begins_19 rfl rfl ?_
    refine g_dup hX dX9_begins_20 rfl ?_
    refine g_geti hX kd_false_0 fg_9_21 tf_9_21 w_991 dX9_begins_21 ?_
    refine g_iconst hX dX9_begins_24 k_1 ?_
    refine g_iadd hX dX9_begins_25 ?_
    obtain ⟨μ4, hμ4, h⟩ := wr_some h
    refine g_puti hX kd_false_0 fg_9_21 tf_9_21 tyX9_ok nmX9 rfl w_991 dX9_begins_26 hμ4 ?_
    obtain rfl := Option.some.inj h
    exact g_vret hX rfl dX9_begins_29
set_option maxRecDepth 100000 in
set_option maxHeartbeats 4000000 in
theorem c_X9_beyond {l : Launch} {D : DT} {μ : Mem} {r : Int32} (v1 : Int32) (v2 : Int32) (h : f_X9_beyond v1 v2 μ = some r) : Ct l D false 2 yX9_beyond cX9_beyond 3 (some FieldType.int) [.ref (D.1 0), .int v1, .int v2] μ (some (.int r)) μ := by
  refine Ct.of (own := RX9) (lc0 := [some (.ref (D.1 0)), some (.int v1), some (.int v2)]) pn_X9 rfl (Nat.le_of_ble_eq_true rfl) rfl mv_X9_beyond.2.2.2.1 (fun X hX => ?_)
  unfold f_X9_beyond at h
  refine g_aload_n hX dX9_beyond_0 rfl rfl ?_
  refine g_iload_n hX dX9_beyond_1 rfl rfl ?_
  refine g_iconst hX dX9_beyond_2 k_0 ?_
  obtain ⟨r1, hr1, h⟩ := bd_some h
  refine g_callVi hX (c_X9_about  _ _ hr1) mv_X9_about wm_1073 kd_false_0 rfl (by decide) (by decide) rfl rfl (Nat.le_of_ble_eq_true rfl) dX9_beyond_3 ?_
  refine g_iload_n hX dX9_beyond_6 rfl rfl ?_
  refine g_icmp_ne (tgt := 19) hX dX9_beyond_7 (by decide) (fun q2 => ?_) (fun q2 => ?_)
  · rw [if_neg q2] at h
    refine g_aload_n hX dX9_beyond_19 rfl rfl ?_
    refine g_iload_n hX dX9_beyond_20 rfl rfl ?_
    refine g_iconst hX dX9_beyond_21 k_1 ?_
    obtain ⟨r3, hr3, h⟩ := bd_some h
    refine g_callVi hX (c_X9_about  _ _ hr3) mv_X9_about wm_1073 kd_false_0 rfl (by decide) (by decide) rfl rfl (Nat.le_of_ble_eq_true rfl) dX9_beyond_22 ?_
    refine g_iload_n hX dX9_beyond_25 rfl rfl ?_
    refine g_icmp_ne (tgt := 38) hX dX9_beyond_26 (by decide) (fun q4 => ?_) (fun q4 => ?_)
    · rw [if_neg q4] at h
      refine g_iconst hX dX9_beyond_38 k_m1 ?_
      obtain rfl := Option.some.inj h
      exact g_iret hX rfl rfl dX9_beyond_39
    · rw [if_pos q4] at h
      refine g_aload_n hX dX9_beyond_29 rfl rfl ?_
      refine g_iload_n hX dX9_beyond_30 rfl rfl ?_
      refine g_iconst hX dX9_beyond_31 k_0 ?_
      obtain ⟨r5, hr5, h⟩ := bd_some h
      refine g_callVi hX (c_X9_about  _ _ hr5) mv_X9_about wm_1073 kd_false_0 rfl (by decide) (by decide) rfl rfl (Nat.le_of_ble_eq_true rfl) dX9_beyond_32 ?_
      refine g_goto (tgt := 39) hX dX9_beyond_35 (by decide) ?_
      obtain rfl := Option.some.inj h
      exact g_iret hX rfl rfl dX9_beyond_39
  · rw [if_pos q2] at h
    refine g_aload_n hX dX9_beyond_10 rfl rfl ?_
    refine g_iload_n hX dX9_beyond_11 rfl rfl ?_
    refine g_iconst hX dX9_beyond_12 k_1 ?_
    obtain ⟨r6, hr6, h⟩ := bd_some h
    refine g_callVi hX (c_X9_about  _ _ hr6) mv_X9_about wm_1073 kd_false_0 rfl (by decide) (by decide) rfl rfl (Nat.le_of_ble_eq_true rfl) dX9_beyond_13 ?_
    refine g_goto (tgt := 39) hX dX9_beyond_16 (by decide) ?_
    obtain rfl := Option.some.inj h
    exact g_iret hX rfl rfl dX9_beyond_39
set_option maxRecDepth 100000 in
set_option maxHeartbeats 4000000 in
theorem t_X9_bits_4 {l : Launch} {D : DT} {X : XT} {μ : Mem} {r : Int32} (hX : Cx l D false X 1 RX9 cX9_bits 3 (some FieldType.int)) : ∀ (n : Nat) (v1 : Int32) (v2 : Int32), f_X9_bits_4 n v1 v2 = some r → G l D false X 3 (some (.int r)) μ 4 [none, some (.int v1), some (.int v2)] [] μ := by
  intro n
  induction n with
  | zero => intro v1 v2 h; exact absurd h (by simp [f_X9_bits_4])
  | succ n ih =>
    intro v1 v2 h
    rw [f_X9_bits_4] at h
    refine g_iload_n hX dX9_bits_4 rfl rfl ?_
    refine g_if_eq (tgt := 20) hX dX9_bits_5 (by decide) (fun q1 => ?_) (fun q1 => ?_)
    · rw [if_pos q1] at h
      refine g_iload_n hX dX9_bits_20 rfl rfl ?_
      obtain rfl := Option.some.inj h
      exact g_iret hX rfl rfl dX9_bits_21
    · rw [if_neg q1] at h
      refine g_iinc (lc' := [none, some _, some _]) hX dX9_bits_8 (by decide) rfl (congrArg _ k_1) rfl rfl ?_
      refine g_iload_n hX dX9_bits_11 rfl rfl ?_
      refine g_iload_n hX dX9_bits_12 rfl rfl ?_
      refine g_iconst hX dX9_bits_13 k_1 ?_
      refine g_isub hX dX9_bits_14 ?_
      refine g_iand hX dX9_bits_15 ?_
      refine g_istore_n (lc' := [none, some _, some _]) hX dX9_bits_16 rfl (by decide) rfl rfl ?_
      refine g_goto (tgt := 4) hX dX9_bits_17 (by decide) ?_
      exact g_weak (lc' := [none, some _, some _]) ⟨rfl, rfl, trivial⟩ (ih _ _ h)
set_option maxRecDepth 100000 in
set_option maxHeartbeats 4000000 in
theorem c_X9_bits {l : Launch} {D : DT} {μ : Mem} {r : Int32} (v0 : Int32) (h : f_X9_bits v0 = some r) : Ct l D false 1 yX9_bits cX9_bits 3 (some FieldType.int) [.int v0] μ (some (.int r)) μ := by
  refine Ct.of (own := RX9) (lc0 := [some (.int v0), none, none]) pn_X9 rfl (Nat.le_of_ble_eq_true rfl) rfl mv_X9_bits.2.2.1 (fun X hX => ?_)
  unfold f_X9_bits at h
  refine g_iconst hX dX9_bits_0 k_0 ?_
  refine g_istore_n (lc' := [some _, some _, none]) hX dX9_bits_1 rfl (by decide) rfl rfl ?_
  refine g_iload_n hX dX9_bits_2 rfl rfl ?_
  refine g_istore_n (lc' := [some _, some _, some _]) hX dX9_bits_3 rfl (by decide) rfl rfl ?_
  exact g_weak (lc' := [none, some _, some _]) ⟨rfl, rfl, trivial⟩ (t_X9_bits_4 hX 2000 _ _ h)
set_option maxRecDepth 100000 in
set_option maxHeartbeats 4000000 in
theorem c_X9_body {l : Launch} {D : DT} {μ : Mem} {r : Int32} {μ' : Mem} (v1 : Int32) (h : f_X9_body v1 μ = some (r, μ')) : Ct l D false 2 yX9_body cX9_body 2 (some FieldType.int) [.ref (D.1 0), .int v1] μ (some (.int r)) μ' := by
  refine Ct.of (own := RX9) (lc0 := [some (.ref (D.1 0)), some (.int v1)]) pn_X9 rfl (Nat.le_of_ble_eq_true rfl) rfl mv_X9_body.2.2.2.1 (fun X hX => ?_)
  unfold f_X9_body at h
  refine g_iload_n hX dX9_body_0 rfl rfl ?_
  refine g_iconst hX dX9_body_1 k_0 ?_
  refine g_aload_n hX dX9_body_2 rfl rfl ?_
  refine g_geti hX kd_false_0 fg_9_21 tf_9_21 w_991 dX9_body_3 ?_
  refine g_iconst hX dX9_body_6 k_1 ?_
  refine g_isub hX dX9_body_7 ?_
  refine g_callSi hX (c_X9_in  v1 0 ((μ 0 21) - 1)) mv_X9_in wm_1047 (by decide) rfl rfl (Nat.le_of_ble_eq_true rfl) dX9_body_8 ?_
  refine g_if_eq (tgt := 23) hX dX9_body_11 (by decide) (fun q1 => ?_) (fun q1 => ?_)
  · rw [if_pos q1] at h
    refine g_aload_n hX dX9_body_23 rfl rfl ?_
    refine g_ldc hX dX9_body_24 wc_1296 ?_
    obtain ⟨r2, μ3, hr2, h⟩ := bd2_some h
    refine g_callVi hX (c_X9_error  _ hr2) mv_X9_error wm_1051 kd_false_0 rfl (by decide) (by decide) rfl rfl (Nat.le_of_ble_eq_true rfl) dX9_body_26 ?_
    obtain ⟨rfl, rfl⟩ := pair_inj h
    exact g_iret hX rfl rfl dX9_body_29
  · rw [if_neg q1] at h
    refine g_aload_n hX dX9_body_14 rfl rfl ?_
    refine g_getr hX kd_false_0 fg_9_20 tf_9_20 w_990 sr_false_0_20 dX9_body_15 ?_
    refine g_iload_n hX dX9_body_18 rfl rfl ?_
    obtain ⟨z4, h⟩ := ck_some h
    refine g_iald hX wk_9_20.1 wk_9_20.2 z4 dX9_body_19 ?_
    refine g_goto (tgt := 29) hX dX9_body_20 (by decide) ?_
    obtain ⟨rfl, rfl⟩ := pair_inj h
    exact g_iret hX rfl rfl dX9_body_29
set_option maxRecDepth 100000 in
set_option maxHeartbeats 4000000 in
theorem c_X9_isOpen {l : Launch} {D : DT} {μ : Mem} {r : Int32} (v1 : Int32) (h : f_X9_isOpen v1 μ = some r) : Ct l D false 2 yX9_isOpen cX9_isOpen 2 (some FieldType.boolean) [.ref (D.1 0), .int v1] μ (some (.int r)) μ := by
  refine Ct.of (own := RX9) (lc0 := [some (.ref (D.1 0)), some (.int v1)]) pn_X9 rfl (Nat.le_of_ble_eq_true rfl) rfl mv_X9_isOpen.2.2.2.1 (fun X hX => ?_)
  unfold f_X9_isOpen at h
  refine g_aload_n hX dX9_isOpen_0 rfl rfl ?_
  refine g_iload_n hX dX9_isOpen_1 rfl rfl ?_
  refine g_iconst hX dX9_isOpen_2 k_3 ?_
  obtain ⟨r1, hr1, h⟩ := bd_some h
  refine g_callVi hX (c_X9_about  _ _ hr1) mv_X9_about wm_1073 kd_false_0 rfl (by decide) (by decide) rfl rfl (Nat.le_of_ble_eq_true rfl) dX9_isOpen_3 ?_
  refine g_if_ge (tgt := 13) hX dX9_isOpen_6 (by decide) (fun q2 => ?_) (fun q2 => ?_)
  · rw [if_pos q2] at h
    refine g_iconst hX dX9_isOpen_13 k_0 ?_
    obtain rfl := Option.some.inj h
    exact g_iret hX rfl rfl dX9_isOpen_14
  · rw [if_neg q2] at h
    refine g_iconst hX dX9_isOpen_9 k_1 ?_
    refine g_goto (tgt := 14) hX dX9_isOpen_10 (by decide) ?_
    obtain rfl := Option.some.inj h
    exact g_iret hX rfl rfl dX9_isOpen_14
set_option maxRecDepth 100000 in
set_option maxHeartbeats 4000000 in
theorem c_X9_costsOf {l : Launch} {D : DT} {μ : Mem} {r : Int32} (v1 : Int32) (v2 : Int32) (h : f_X9_costsOf v1 v2 μ = some r) : Ct l D false 3 yX9_costsOf cX9_costsOf 4 (some FieldType.int) [.ref (D.1 0), .int v1, .int v2] μ (some (.int r)) μ := by
  refine Ct.of (own := RX9) (lc0 := [some (.ref (D.1 0)), some (.int v1), some (.int v2), none]) pn_X9 rfl (Nat.le_of_ble_eq_true rfl) rfl mv_X9_costsOf.2.2.2.1 (fun X hX => ?_)
  unfold f_X9_costsOf at h
  refine g_aload_n hX dX9_costsOf_0 rfl rfl ?_
  refine g_iload_n hX dX9_costsOf_1 rfl rfl ?_
  refine g_iconst hX dX9_costsOf_2 k_2 ?_
  obtain ⟨r1, hr1, h⟩ := bd_some h
  refine g_callVi hX (c_X9_about  _ _ hr1) mv_X9_about wm_1073 kd_false_0 rfl (by decide) (by decide) rfl rfl (Nat.le_of_ble_eq_true rfl) dX9_costsOf_3 ?_
  refine g_istore_n (lc' := [some _, some _, some _, some _]) hX dX9_costsOf_6 rfl (by decide) rfl rfl ?_
  refine g_aload_n hX dX9_costsOf_7 rfl rfl ?_
  refine g_iload_n hX dX9_costsOf_8 rfl rfl ?_
  refine g_iconst hX dX9_costsOf_9 k_0 ?_
  obtain ⟨r2, hr2, h⟩ := bd_some h
  refine g_callVi hX (c_X9_of  _ _ hr2) mv_X9_of wm_1065 kd_false_0 rfl (by decide) (by decide) rfl rfl (Nat.le_of_ble_eq_true rfl) dX9_costsOf_10 ?_
  by_cases q3 : r2 = 1
  · rw [if_pos q3] at h
    refine g_tsIn (tgt := 52) (off := 39) hX dX9_costsOf_13 (by rw [q3] <;> decide) (by rw [q3] <;> decide) (by rw [q3] <;> rfl) (by decide) ?_
    refine g_iload_n hX dX9_costsOf_52 rfl rfl ?_
    refine g_iconst hX dX9_costsOf_53 k_1 ?_
    refine g_iadd hX dX9_costsOf_54 ?_
    obtain rfl := Option.some.inj h
    exact g_iret hX rfl rfl dX9_costsOf_55
  rw [if_neg q3] at h
  have eq3_1 := ts_ne (c := 1) (k := 1) q3 (by decide)
  by_cases q4 : r2 = 2
  · rw [if_pos q4] at h
    refine g_tsIn (tgt := 56) (off := 43) hX dX9_costsOf_13 (by rw [q4] <;> decide) (by rw [q4] <;> decide) (by rw [q4] <;> rfl) (by decide) ?_
    refine g_iconst hX dX9_costsOf_56 k_2 ?_
    refine g_iload_n hX dX9_costsOf_57 rfl rfl ?_
    refine g_imul hX dX9_costsOf_58 ?_
    obtain rfl := Option.some.inj h
    exact g_iret hX rfl rfl dX9_costsOf_59
  rw [if_neg q4] at h
  have eq4_2 := ts_ne (c := 2) (k := 2) q4 (by decide)
  by_cases q5 : r2 = 4
  · rw [if_pos q5] at h
    refine g_tsIn (tgt := 60) (off := 47) hX dX9_costsOf_13 (by rw [q5] <;> decide) (by rw [q5] <;> decide) (by rw [q5] <;> rfl) (by decide) ?_
    refine g_iload_n hX dX9_costsOf_60 rfl rfl ?_
    refine g_iconst hX dX9_costsOf_61 k_1 ?_
    refine g_iadd hX dX9_costsOf_62 ?_
    refine g_iload_n hX dX9_costsOf_63 rfl rfl ?_
    refine g_iconst hX dX9_costsOf_64 k_2 ?_
    refine g_idiv hX (by decide) dX9_costsOf_65 ?_
    refine g_isub hX dX9_costsOf_66 ?_
    obtain rfl := Option.some.inj h
    exact g_iret hX rfl rfl dX9_costsOf_67
  rw [if_neg q5] at h
  have eq5_4 := ts_ne (c := 4) (k := 4) q5 (by decide)
  by_cases q6 : r2 = 5
  · rw [if_pos q6] at h
    refine g_tsIn (tgt := 68) (off := 55) hX dX9_costsOf_13 (by rw [q6] <;> decide) (by rw [q6] <;> decide) (by rw [q6] <;> rfl) (by decide) ?_
    refine g_aload_n hX dX9_costsOf_68 rfl rfl ?_
    refine g_iload_n hX dX9_costsOf_69 rfl rfl ?_
    obtain ⟨r7, hr7, h⟩ := bd_some h
    refine g_callVi hX (c_X9_isOpen  _ hr7) mv_X9_isOpen wm_1089 kd_false_0 rfl (by decide) (by decide) rfl rfl (Nat.le_of_ble_eq_true rfl) dX9_costsOf_70 ?_
    refine g_if_eq (tgt := 80) hX dX9_costsOf_73 (by decide) (fun q8 => ?_) (fun q8 => ?_)
    · rw [if_pos q8] at h
      refine g_iconst hX dX9_costsOf_80 k_2 ?_
      refine g_iload_n hX dX9_costsOf_81 rfl rfl ?_
      refine g_imul hX dX9_costsOf_82 ?_
      obtain rfl := Option.some.inj h
      exact g_iret hX rfl rfl dX9_costsOf_83
    · rw [if_neg q8] at h
      refine g_iconst hX dX9_costsOf_76 k_0 ?_
      refine g_goto (tgt := 83) hX dX9_costsOf_77 (by decide) ?_
      obtain rfl := Option.some.inj h
      exact g_iret hX rfl rfl dX9_costsOf_83
  rw [if_neg q6] at h
  have eq6_5 := ts_ne (c := 5) (k := 5) q6 (by decide)
  by_cases q9 : r2 = 6
  · rw [if_pos q9] at h
    refine g_tsIn (tgt := 84) (off := 71) hX dX9_costsOf_13 (by rw [q9] <;> decide) (by rw [q9] <;> decide) (by rw [q9] <;> rfl) (by decide) ?_
    refine g_iload_n hX dX9_costsOf_84 rfl rfl ?_
    refine g_iload_n hX dX9_costsOf_85 rfl rfl ?_
    refine g_iconst hX dX9_costsOf_86 k_3 ?_
    refine g_irem hX (by decide) dX9_costsOf_87 ?_
    refine g_iadd hX dX9_costsOf_88 ?_
    obtain rfl := Option.some.inj h
    exact g_iret hX rfl rfl dX9_costsOf_89
  rw [if_neg q9] at h
  have eq9_6 := ts_ne (c := 6) (k := 6) q9 (by decide)
  refine g_tsD (tgt := 90) hX dX9_costsOf_13 ?_ (by decide) ?_
  · by_cases e3 : (r2 : Int32).toInt = 3
    · exact Or.inr ⟨by omega, by omega, by rw [e3]; rfl⟩
    exact Or.inl (by omega)
  refine g_iload_n hX dX9_costsOf_90 rfl rfl ?_
  obtain rfl := Option.some.inj h
  exact g_iret hX rfl rfl dX9_costsOf_91
