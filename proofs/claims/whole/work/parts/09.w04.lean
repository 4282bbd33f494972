set_option maxRecDepth 100000 in
set_option maxHeartbeats 4000000 in
theorem t_X4_readPartb_100 {l : Launch} {D : DT} {X : XT} {P : Int32 → Mem → Option Mem} {dP : Nat} {μ' : Mem} (hX : Cx l D true X (dP + 6) RX4 cX4_readPart 4 none) (hB : 5 ≤ dP) (hP : ∀ (v1 : Int32) {μ μ' : Mem}, P v1 μ = some μ' → Ct l D true dP yX4_readPart cX4_readPart 4 none [.ref (D.1 48), .int v1] μ none μ') : ∀ (v2 : Int32) (μ : Mem), f_X4_readPartb_100 P v2 μ = some μ' → G l D true X 4 none μ' 100 [some (.ref (D.1 48)), none, some (.int v2), none] [] μ := by
  intro v2 μ h
  unfold f_X4_readPartb_100 at h
  refine g_aload_n hX dX4_readPart_100 rfl rfl ?_
  refine g_iload_n hX dX4_readPart_101 rfl rfl ?_
  obtain ⟨μ1, hμ1, h⟩ := bd_some h
  refine g_callVv hX (c_X4_readName  _ hμ1) mv_X4_readName wm_587 kd_true_48 rfl (by decide) (by omega) rfl rfl (Nat.le_of_ble_eq_true rfl) dX4_readPart_102 ?_
  obtain rfl := Option.some.inj h
  exact g_vret hX rfl dX4_readPart_105
set_option maxRecDepth 100000 in
set_option maxHeartbeats 4000000 in
theorem t_X4_readPartb_66 {l : Launch} {D : DT} {X : XT} {P : Int32 → Mem → Option Mem} {dP : Nat} {μ' : Mem} (hX : Cx l D true X (dP + 6) RX4 cX4_readPart 4 none) (hB : 5 ≤ dP) (hP : ∀ (v1 : Int32) {μ μ' : Mem}, P v1 μ = some μ' → Ct l D true dP yX4_readPart cX4_readPart 4 none [.ref (D.1 48), .int v1] μ none μ') : ∀ (v1 : Int32) (v2 : Int32) (v3 : Int32) (μ : Mem), f_X4_readPartb_66 P v1 v2 v3 μ = some μ' → G l D true X 4 none μ' 66 [some (.ref (D.1 48)), some (.int v1), some (.int v2), some (.int v3)] [] μ := by
  intro v1 v2 v3 μ h
  unfold f_X4_readPartb_66 at h
  refine g_iload_n hX dX4_readPart_66 rfl rfl ?_
  refine g_bipush hX dX4_readPart_67 kb_40 ?_
  refine g_icmp_ne (tgt := 100) hX dX4_readPart_69 (by decide) (fun q1 => ?_) (fun q1 => ?_)
  · rw [if_neg q1] at h
    exact g_weak (lc' := [some _, none, some _, none]) ⟨rfl, rfl, trivial⟩ (t_X4_readPartb_100 hX hB hP _ _ h)
  · rw [if_pos q1] at h
    refine g_iload_n hX dX4_readPart_72 rfl rfl ?_
    refine g_if_eq (tgt := 100) hX dX4_readPart_73 (by decide) (fun q2 => ?_) (fun q2 => ?_)
    · rw [if_pos q2] at h
      exact g_weak (lc' := [some _, none, some _, none]) ⟨rfl, rfl, trivial⟩ (t_X4_readPartb_100 hX hB hP _ _ h)
    · rw [if_neg q2] at h
      refine g_aload_n hX dX4_readPart_76 rfl rfl ?_
      refine g_dup hX dX4_readPart_77 rfl ?_
      refine g_geti hX kd_true_48 fg_4_4 tf_4_4 w_275 dX4_readPart_78 ?_
      refine g_iconst hX dX4_readPart_81 k_1 ?_
      refine g_iadd hX dX4_readPart_82 ?_
      obtain ⟨μ3, hμ3, h⟩ := wr_some h
      refine g_puti hX kd_true_48 fg_4_4 tf_4_4 tyX4_ok nmX4 rfl w_275 dX4_readPart_83 hμ3 ?_
      refine g_aload_n hX dX4_readPart_86 rfl rfl ?_
      refine g_iload_n hX dX4_readPart_87 rfl rfl ?_
      refine g_iconst hX dX4_readPart_88 k_1 ?_
      refine g_iadd hX dX4_readPart_89 ?_
      obtain ⟨μ4, hμ4, h⟩ := bd_some h
      refine g_callVv hX (c_X4_readEither hB hP  _ hμ4) mv_X4_readEither wm_540 kd_true_48 rfl (by decide) (by omega) rfl rfl (Nat.le_of_ble_eq_true rfl) dX4_readPart_90 ?_
      refine g_aload_n hX dX4_readPart_93 rfl rfl ?_
      obtain ⟨μ5, hμ5, h⟩ := bd_some h
      refine g_callVv hX (c_X4_readClosing hμ5) mv_X4_readClosing wm_579 kd_true_48 rfl (by decide) (by omega) rfl rfl (Nat.le_of_ble_eq_true rfl) dX4_readPart_94 ?_
      refine g_goto (tgt := 105) hX dX4_readPart_97 (by decide) ?_
      obtain rfl := Option.some.inj h
      exact g_vret hX rfl dX4_readPart_105
set_option maxRecDepth 100000 in
set_option maxHeartbeats 4000000 in
theorem t_X4_readPartb_15 {l : Launch} {D : DT} {X : XT} {P : Int32 → Mem → Option Mem} {dP : Nat} {μ' : Mem} (hX : Cx l D true X (dP + 6) RX4 cX4_readPart 4 none) (hB : 5 ≤ dP) (hP : ∀ (v1 : Int32) {μ μ' : Mem}, P v1 μ = some μ' → Ct l D true dP yX4_readPart cX4_readPart 4 none [.ref (D.1 48), .int v1] μ none μ') : ∀ (v1 : Int32) (v2 : Int32) (s0 : Int32) (μ : Mem), f_X4_readPartb_15 P v1 v2 s0 μ = some μ' → G l D true X 4 none μ' 15 [some (.ref (D.1 48)), some (.int v1), some (.int v2), none] [.int s0] μ := by
  intro v1 v2 s0 μ h
  unfold f_X4_readPartb_15 at h
  refine g_istore_n (lc' := [some _, some _, some _, some _]) hX dX4_readPart_15 rfl (by decide) rfl rfl ?_
  refine g_iload_n hX dX4_readPart_16 rfl rfl ?_
  refine g_callSi hX (c_X4_isDigit  v2) mv_X4_isDigit wm_568 (by omega) rfl rfl (Nat.le_of_ble_eq_true rfl) dX4_readPart_17 ?_
  refine g_if_eq (tgt := 30) hX dX4_readPart_20 (by decide) (fun q1 => ?_) (fun q1 => ?_)
  · rw [if_pos q1] at h
    refine g_iload_n hX dX4_readPart_30 rfl rfl ?_
    refine g_bipush hX dX4_readPart_31 kb_33 ?_
    refine g_icmp_ne (tgt := 66) hX dX4_readPart_33 (by decide) (fun q2 => ?_) (fun q2 => ?_)
    · rw [if_neg q2] at h
      exact g_weak (lc' := [some _, some _, some _, some _]) ⟨rfl, rfl, rfl, rfl, trivial⟩ (t_X4_readPartb_66 hX hB hP _ _ _ _ h)
    · rw [if_pos q2] at h
      refine g_iload_n hX dX4_readPart_36 rfl rfl ?_
      refine g_if_eq (tgt := 66) hX dX4_readPart_37 (by decide) (fun q3 => ?_) (fun q3 => ?_)
      · rw [if_pos q3] at h
        exact g_weak (lc' := [some _, some _, some _, some _]) ⟨rfl, rfl, rfl, rfl, trivial⟩ (t_X4_readPartb_66 hX hB hP _ _ _ _ h)
      · rw [if_neg q3] at h
        refine g_aload_n hX dX4_readPart_40 rfl rfl ?_
        refine g_dup hX dX4_readPart_41 rfl ?_
        refine g_geti hX kd_true_48 fg_4_4 tf_4_4 w_275 dX4_readPart_42 ?_
        refine g_iconst hX dX4_readPart_45 k_1 ?_
        refine g_iadd hX dX4_readPart_46 ?_
        obtain ⟨μ4, hμ4, h⟩ := wr_some h
        refine g_puti hX kd_true_48 fg_4_4 tf_4_4 tyX4_ok nmX4 rfl w_275 dX4_readPart_47 hμ4 ?_
        refine g_aload_n hX dX4_readPart_50 rfl rfl ?_
        refine g_iload_n hX dX4_readPart_51 rfl rfl ?_
        refine g_iconst hX dX4_readPart_52 k_1 ?_
        refine g_iadd hX dX4_readPart_53 ?_
        obtain ⟨μ5, hμ5, h⟩ := bd_some h
        refine g_callVv hX (hP  _ hμ5) mv_X4_readPart wm_560 kd_true_48 rfl (by decide) (by omega) rfl rfl (Nat.le_of_ble_eq_true rfl) dX4_readPart_54 ?_
        refine g_aload_n hX dX4_readPart_57 rfl rfl ?_
        refine g_bipush hX dX4_readPart_58 kb_m33 ?_
        obtain ⟨μ6, hμ6, h⟩ := bd_some h
        refine g_callVv hX (c_X4_write  _ hμ6) mv_X4_write wm_575 kd_true_48 rfl (by decide) (by omega) rfl rfl (Nat.le_of_ble_eq_true rfl) dX4_readPart_60 ?_
        refine g_goto (tgt := 105) hX dX4_readPart_63 (by decide) ?_
        obtain rfl := Option.some.inj h
        exact g_vret hX rfl dX4_readPart_105
  · rw [if_neg q1] at h
    refine g_aload_n hX dX4_readPart_23 rfl rfl ?_
    obtain ⟨μ7, hμ7, h⟩ := bd_some h
    refine g_callVv hX (c_X4_readNumber hμ7) mv_X4_readNumber wm_571 kd_true_48 rfl (by decide) (by omega) rfl rfl (Nat.le_of_ble_eq_true rfl) dX4_readPart_24 ?_
    refine g_goto (tgt := 105) hX dX4_readPart_27 (by decide) ?_
    obtain rfl := Option.some.inj h
    exact g_vret hX rfl dX4_readPart_105
set_option maxRecDepth 100000 in
set_option maxHeartbeats 4000000 in
theorem c_X4_readPart_b {l : Launch} {D : DT} {P : Int32 → Mem → Option Mem} {dP : Nat} {μ : Mem} {μ' : Mem} (hB : 5 ≤ dP) (hP : ∀ (v1 : Int32) {μ μ' : Mem}, P v1 μ = some μ' → Ct l D true dP yX4_readPart cX4_readPart 4 none [.ref (D.1 48), .int v1] μ none μ') (v1 : Int32) (h : f_X4_readPartb P v1 μ = some μ') : Ct l D true (dP + 6) yX4_readPart cX4_readPart 4 none [.ref (D.1 48), .int v1] μ none μ' := by
  refine Ct.of (own := RX4) (lc0 := [some (.ref (D.1 48)), some (.int v1), none, none]) pn_X4 rfl (Nat.le_of_ble_eq_true rfl) rfl mv_X4_readPart.2.2.2.1 (fun X hX => ?_)
  unfold f_X4_readPartb at h
  refine g_aload_n hX dX4_readPart_0 rfl rfl ?_
  obtain ⟨r1, hr1, h⟩ := bd_some h
  refine g_callVi hX (c_X4_next hr1) mv_X4_next wm_564 kd_true_48 rfl (by decide) (by omega) rfl rfl (Nat.le_of_ble_eq_true rfl) dX4_readPart_1 ?_
  refine g_istore_n (lc' := [some _, some _, some _, none]) hX dX4_readPart_4 rfl (by decide) rfl rfl ?_
  refine g_iload_n hX dX4_readPart_5 rfl rfl ?_
  refine g_iconst hX dX4_readPart_6 k_5 ?_
  refine g_icmp_ge (tgt := 14) hX dX4_readPart_7 (by decide) (fun q2 => ?_) (fun q2 => ?_)
  · rw [if_pos q2] at h
    refine g_iconst hX dX4_readPart_14 k_0 ?_
    exact g_weak (lc' := [some _, some _, some _, none]) ⟨rfl, rfl, rfl, trivial⟩ (t_X4_readPartb_15 hX hB hP _ _ _ _ h)
  · rw [if_neg q2] at h
    refine g_iconst hX dX4_readPart_10 k_1 ?_
    refine g_goto (tgt := 15) hX dX4_readPart_11 (by decide) ?_
    exact g_weak (lc' := [some _, some _, some _, none]) ⟨rfl, rfl, rfl, trivial⟩ (t_X4_readPartb_15 hX hB hP _ _ _ _ h)
theorem c_X4_readPart {l : Launch} {D : DT} : ∀ (n : Nat) (v1 : Int32) {μ : Mem} {μ' : Mem} , f_X4_readPart n v1 μ = some μ' → Ct l D true (5 + 6 * n) yX4_readPart cX4_readPart 4 none [.ref (D.1 48), .int v1] μ none μ' := by
  intro n
  induction n with
  | zero => intro v1 μ μ' h; exact absurd h (by simp [f_X4_readPart])
  | succ n ih =>
    intro v1 μ μ' h
    rw [f_X4_readPart] at h
    rw [show 5 + 6 * (n + 1) = (5 + 6 * n) + 6 by omega]
    exact c_X4_readPart_b (Nat.le_add_right _ _) ih _ h
set_option maxRecDepth 100000 in
set_option maxHeartbeats 4000000 in
theorem t_X4_readInto_70 {l : Launch} {D : DT} {X : XT} {a1 : Nat} {a2 : Nat} {r : Int32} {μ' : Mem} (hX : Cx l D true X 131 RX4 cX4_readInto 3 (some FieldType.int)) (ha1 : kd true a1 = 7) (ha2 : kd true a2 = 1) : ∀ (μ : Mem), f_X4_readInto_70 a1 a2 μ = some (r, μ') → G l D true X 3 (some (.int r)) μ' 70 [some (.ref (D.1 48)), none, none] [] μ := by
  intro μ h
  unfold f_X4_readInto_70 at h
  refine g_aload_n hX dX4_readInto_70 rfl rfl ?_
  refine g_geti hX kd_true_48 fg_4_5 tf_4_5 w_276 dX4_readInto_71 ?_
  obtain ⟨rfl, rfl⟩ := pair_inj h
  exact g_iret hX rfl rfl dX4_readInto_74
set_option maxRecDepth 100000 in
set_option maxHeartbeats 4000000 in
theorem t_X4_readInto_51 {l : Launch} {D : DT} {X : XT} {a1 : Nat} {a2 : Nat} {r : Int32} {μ' : Mem} (hX : Cx l D true X 131 RX4 cX4_readInto 3 (some FieldType.int)) (ha1 : kd true a1 = 7) (ha2 : kd true a2 = 1) : ∀ (μ : Mem), f_X4_readInto_51 a1 a2 μ = some (r, μ') → G l D true X 3 (some (.int r)) μ' 51 [some (.ref (D.1 48)), none, some (.ref (D.1 a2))] [] μ := by
  intro μ h
  unfold f_X4_readInto_51 at h
  refine g_aload_n hX dX4_readInto_51 rfl rfl ?_
  refine g_geti hX kd_true_48 fg_4_5 tf_4_5 w_276 dX4_readInto_52 ?_
  refine g_if_ge (tgt := 70) hX dX4_readInto_55 (by decide) (fun q1 => ?_) (fun q1 => ?_)
  · rw [if_pos q1] at h
    exact g_weak (lc' := [some _, none, none]) ⟨rfl, trivial⟩ (t_X4_readInto_70 hX ha1 ha2 _ h)
  · rw [if_neg q1] at h
    refine g_aload_n hX dX4_readInto_58 rfl rfl ?_
    refine g_aload_n hX dX4_readInto_59 rfl rfl ?_
    refine g_getr hX kd_true_48 fg_4_0 tf_4_0 w_271 sr_true_48_0 dX4_readInto_60 ?_
    refine g_aload_n hX dX4_readInto_63 rfl rfl ?_
    refine g_geti hX kd_true_48 fg_4_3 tf_4_3 w_274 dX4_readInto_64 ?_
    obtain ⟨μ2, hμ2, h⟩ := bd_some h
    refine g_callVv hX (c_X1_take ha2 wk_4_0.1 _ hμ2) mv_X1_take wm_673 ha2 rfl (by decide) (by decide) rfl rfl (Nat.le_of_ble_eq_true rfl) dX4_readInto_67 ?_
    exact g_weak (lc' := [some _, none, none]) ⟨rfl, trivial⟩ (t_X4_readInto_70 hX ha1 ha2 _ h)
set_option maxRecDepth 100000 in
set_option maxHeartbeats 4000000 in
theorem c_X4_readInto {l : Launch} {D : DT} {a1 : Nat} {a2 : Nat} {μ : Mem} {r : Int32} {μ' : Mem} (ha1 : kd true a1 = 7) (ha2 : kd true a2 = 1) (h : f_X4_readInto a1 a2 μ = some (r, μ')) : Ct l D true 131 yX4_readInto cX4_readInto 3 (some FieldType.int) [.ref (D.1 48), .ref (D.1 a1), .ref (D.1 a2)] μ (some (.int r)) μ' := by
  refine Ct.of (own := RX4) (lc0 := [some (.ref (D.1 48)), some (.ref (D.1 a1)), some (.ref (D.1 a2))]) pn_X4 rfl (Nat.le_of_ble_eq_true rfl) rfl mv_X4_readInto.2.2.2.1 (fun X hX => ?_)
  unfold f_X4_readInto at h
  refine g_aload_n hX dX4_readInto_0 rfl rfl ?_
  refine g_aload_n hX dX4_readInto_1 rfl rfl ?_
  obtain ⟨μ1, hμ1, h⟩ := wr_some h
  refine g_putd hX (kd_31 ha1 (by decide)) kd_true_48 fg_4_1 tf_4_1 tyX4_ok nmX4 rfl w_272 dX4_readInto_2 hμ1 ?_
  refine g_aload_n hX dX4_readInto_5 rfl rfl ?_
  refine g_aload_n hX dX4_readInto_6 rfl rfl ?_
  refine g_getr hX ha2 fg_1_0 tf_1_0 w_123 rfl dX4_readInto_7 ?_
  obtain ⟨μ2, hμ2, h⟩ := wr_some h
  refine g_putd hX (str_31 (wk_1_0 ha2)) kd_true_48 fg_4_2 tf_4_2 tyX4_ok nmX4 rfl w_273 dX4_readInto_10 hμ2 ?_
  refine g_aload_n hX dX4_readInto_13 rfl rfl ?_
  refine g_iconst hX dX4_readInto_14 k_0 ?_
  obtain ⟨μ3, hμ3, h⟩ := wr_some h
  refine g_puti hX kd_true_48 fg_4_3 tf_4_3 tyX4_ok nmX4 rfl w_274 dX4_readInto_15 hμ3 ?_
  refine g_aload_n hX dX4_readInto_18 rfl rfl ?_
  refine g_iconst hX dX4_readInto_19 k_0 ?_
  obtain ⟨μ4, hμ4, h⟩ := wr_some h
  refine g_puti hX kd_true_48 fg_4_4 tf_4_4 tyX4_ok nmX4 rfl w_275 dX4_readInto_20 hμ4 ?_
  refine g_aload_n hX dX4_readInto_23 rfl rfl ?_
  refine g_iconst hX dX4_readInto_24 k_m1 ?_
  obtain ⟨μ5, hμ5, h⟩ := wr_some h
  refine g_puti hX kd_true_48 fg_4_5 tf_4_5 tyX4_ok nmX4 rfl w_276 dX4_readInto_25 hμ5 ?_
  refine g_aload_n hX dX4_readInto_28 rfl rfl ?_
  refine g_iconst hX dX4_readInto_29 k_0 ?_
  obtain ⟨μ6, hμ6, h⟩ := bd_some h
  refine g_callVv hX (c_X4_readEither (P := (f_X4_readPart 20)) (dP := 5 + 6 * 20) (Nat.le_of_ble_eq_true rfl) (c_X4_readPart 20)  _ hμ6) mv_X4_readEither wm_540 kd_true_48 rfl (by decide) (by decide) rfl rfl (Nat.le_of_ble_eq_true rfl) dX4_readInto_30 ?_
  refine g_aload_n hX dX4_readInto_33 rfl rfl ?_
  refine g_geti hX kd_true_48 fg_4_4 tf_4_4 w_275 dX4_readInto_34 ?_
  refine g_aload_n hX dX4_readInto_37 rfl rfl ?_
  obtain ⟨z7, h⟩ := ck_some h
  refine g_getd hX kd_true_48 fg_4_1 tf_4_1 w_272 dX4_readInto_38 ?_
  refine g_geti hX (eq_of_beq z7) fg_7_1 tf_7_1 w_224 dX4_readInto_41 ?_
  refine g_icmp_ge (tgt := 51) hX dX4_readInto_44 (by decide) (fun q8 => ?_) (fun q8 => ?_)
  · rw [if_pos q8] at h
    exact g_weak (lc' := [some _, none, some _]) ⟨rfl, rfl, trivial⟩ (t_X4_readInto_51 hX ha1 ha2 _ h)
  · rw [if_neg q8] at h
    refine g_aload_n hX dX4_readInto_47 rfl rfl ?_
    obtain ⟨μ9, hμ9, h⟩ := bd_some h
    refine g_callVv hX (c_X4_miss hμ9) mv_X4_miss wm_583 kd_true_48 rfl (by decide) (by decide) rfl rfl (Nat.le_of_ble_eq_true rfl) dX4_readInto_48 ?_
    exact g_weak (lc' := [some _, none, some _]) ⟨rfl, rfl, trivial⟩ (t_X4_readInto_51 hX ha1 ha2 _ h)
set_option maxRecDepth 100000 in
set_option maxHeartbeats 4000000 in
theorem t_X5_begin_12 {l : Launch} {D : DT} {X : XT} {o : Nat} {μ' : Mem} (hX : Cx l D true X 1 RX5 cX5_begin 4 none) (ho : kd true o = 5) : ∀ (n : Nat) (v3 : Int32) (μ : Mem), f_X5_begin_12 o n v3 μ = some μ' → G l D true X 4 none μ' 12 [some (.ref (D.1 o)), none, none, some (.int v3)] [] μ := by
  intro n
  induction n with
  | zero => intro v3 μ h; exact absurd h (by simp [f_X5_begin_12])
  | succ n ih =>
    intro v3 μ h
    rw [f_X5_begin_12] at h
    refine g_iload_n hX dX5_begin_12 rfl rfl ?_
    refine g_bipush hX dX5_begin_13 kb_24 ?_
    refine g_icmp_ge (tgt := 31) hX dX5_begin_15 (by decide) (fun q1 => ?_) (fun q1 => ?_)
    · rw [if_pos q1] at h
      obtain rfl := Option.some.inj h
      exact g_vret hX rfl dX5_begin_31
    · rw [if_neg q1] at h
      refine g_aload_n hX dX5_begin_18 rfl rfl ?_
      refine g_getr hX ho fg_5_0 tf_5_0 w_338 (wo_5_0 ho) dX5_begin_19 ?_
      refine g_iload_n hX dX5_begin_22 rfl rfl ?_
      refine g_iconst hX dX5_begin_23 k_0 ?_
      obtain ⟨z3, h⟩ := ck_some h
      obtain ⟨μ2, hμ2, h⟩ := wr_some h
      refine g_iastM hX (wk_5_0 ho).1 (wk_5_0 ho).2 z3 dX5_begin_24 hμ2 ?_
      refine g_iinc (lc' := [some _, none, none, some _]) hX dX5_begin_25 (by decide) rfl (congrArg _ k_1) rfl rfl ?_
      refine g_goto (tgt := 12) hX dX5_begin_28 (by decide) ?_
      exact g_weak (lc' := [some _, none, none, some _]) ⟨rfl, rfl, trivial⟩ (ih _ _ h)
set_option maxRecDepth 100000 in
set_option maxHeartbeats 4000000 in
theorem c_X5_begin {l : Launch} {D : DT} {o : Nat} {μ : Mem} {μ' : Mem} (ho : kd true o = 5) (v1 : Int32) (v2 : Int32) (h : f_X5_begin o v1 v2 μ = some μ') : Ct l D true 1 yX5_begin cX5_begin 4 none [.ref (D.1 o), .int v1, .int v2] μ none μ' := by
  refine Ct.of (own := RX5) (lc0 := [some (.ref (D.1 o)), some (.int v1), some (.int v2), none]) pn_X5 rfl (Nat.le_of_ble_eq_true rfl) rfl mv_X5_begin.2.2.2.1 (fun X hX => ?_)
  unfold f_X5_begin at h
  refine g_aload_n hX dX5_begin_0 rfl rfl ?_
  refine g_iload_n hX dX5_begin_1 rfl rfl ?_
  obtain ⟨μ1, hμ1, h⟩ := wr_some h
  refine g_puti hX ho fg_5_1 tf_5_1 tyX5_ok nmX5 rfl w_340 dX5_begin_2 hμ1 ?_
  refine g_aload_n hX dX5_begin_5 rfl rfl ?_
  refine g_iload_n hX dX5_begin_6 rfl rfl ?_
  obtain ⟨μ2, hμ2, h⟩ := wr_some h
  refine g_puti hX ho fg_5_2 tf_5_2 tyX5_ok nmX5 rfl w_342 dX5_begin_7 hμ2 ?_
  refine g_iconst hX dX5_begin_10 k_0 ?_
  refine g_istore_n (lc' := [some _, some _, some _, some _]) hX dX5_begin_11 rfl (by decide) rfl rfl ?_
  exact g_weak (lc' := [some _, none, none, some _]) ⟨rfl, rfl, trivial⟩ (t_X5_begin_12 hX ho 2000 _ _ h)
set_option maxRecDepth 100000 in
set_option maxHeartbeats 4000000 in
theorem t_X5_giveHolders_60 {l : Launch} {D : DT} {X : XT} {o : Nat} {a1 : Nat} {r : Int32} {μ' : Mem} (hX : Cx l D true X 3 RX5 cX5_giveHolders 3 (some FieldType.int)) (ho : kd true o = 5) (ha1 : kd true a1 = 2) : ∀ (μ : Mem), f_X5_giveHolders_60 o a1 μ = some (r, μ') → G l D true X 3 (some (.int r)) μ' 60 [some (.ref (D.1 o)), none, none] [] μ := by
  intro μ h
  unfold f_X5_giveHolders_60 at h
  refine g_aload_n hX dX5_giveHolders_60 rfl rfl ?_
  refine g_geti hX ho fg_5_2 tf_5_2 w_342 dX5_giveHolders_61 ?_
  obtain ⟨rfl, rfl⟩ := pair_inj h
  exact g_iret hX rfl rfl dX5_giveHolders_64
set_option maxRecDepth 100000 in
set_option maxHeartbeats 4000000 in
theorem t_X5_giveHolders_2 {l : Launch} {D : DT} {X : XT} {o : Nat} {a1 : Nat} {r : Int32} {μ' : Mem} (hX : Cx l D true X 3 RX5 cX5_giveHolders 3 (some FieldType.int)) (ho : kd true o = 5) (ha1 : kd true a1 = 2) : ∀ (n : Nat) (v2 : Int32) (μ : Mem), f_X5_giveHolders_2 o a1 n v2 μ = some (r, μ') → G l D true X 3 (some (.int r)) μ' 2 [some (.ref (D.1 o)), some (.ref (D.1 a1)), some (.int v2)] [] μ := by
  intro n
  induction n with
  | zero => intro v2 μ h; exact absurd h (by simp [f_X5_giveHolders_2])
  | succ n ih =>
    intro v2 μ h
    rw [f_X5_giveHolders_2] at h
    refine g_iload_n hX dX5_giveHolders_2 rfl rfl ?_
    refine g_aload_n hX dX5_giveHolders_3 rfl rfl ?_
    refine g_geti hX ho fg_5_2 tf_5_2 w_342 dX5_giveHolders_4 ?_
    refine g_icmp_ge (tgt := 60) hX dX5_giveHolders_7 (by decide) (fun q1 => ?_) (fun q1 => ?_)
    · rw [if_pos q1] at h
      exact g_weak (lc' := [some _, none, none]) ⟨rfl, trivial⟩ (t_X5_giveHolders_60 hX ho ha1 _ h)
    · rw [if_neg q1] at h
      refine g_iload_n hX dX5_giveHolders_10 rfl rfl ?_
      refine g_aload_n hX dX5_giveHolders_11 rfl rfl ?_
      refine g_getr hX ho fg_5_0 tf_5_0 w_338 (wo_5_0 ho) dX5_giveHolders_12 ?_
      refine g_alen hX (wk_5_0 ho).1 (wk_5_0 ho).2 len_24 dX5_giveHolders_15 ?_
      refine g_icmp_ge (tgt := 60) hX dX5_giveHolders_16 (by decide) (fun q2 => ?_) (fun q2 => ?_)
      · rw [if_pos q2] at h
        exact g_weak (lc' := [some _, none, none]) ⟨rfl, trivial⟩ (t_X5_giveHolders_60 hX ho ha1 _ h)
      · rw [if_neg q2] at h
        refine g_aload_n hX dX5_giveHolders_19 rfl rfl ?_
        refine g_iload_n hX dX5_giveHolders_20 rfl rfl ?_
        refine g_callVi hX (c_X2_isGate ha1 v2) mv_X2_isGate wm_840 ha1 rfl (by decide) (by decide) rfl rfl (Nat.le_of_ble_eq_true rfl) dX5_giveHolders_21 ?_
        refine g_if_eq (tgt := 40) hX dX5_giveHolders_24 (by decide) (fun q3 => ?_) (fun q3 => ?_)
        · rw [if_pos q3] at h
          refine g_iload_n hX dX5_giveHolders_40 rfl rfl ?_
          obtain ⟨rfl, rfl⟩ := pair_inj h
          exact g_iret hX rfl rfl dX5_giveHolders_41
        · rw [if_neg q3] at h
          refine g_aload_n hX dX5_giveHolders_27 rfl rfl ?_
          refine g_aload_n hX dX5_giveHolders_28 rfl rfl ?_
          refine g_getr hX ho fg_5_0 tf_5_0 w_338 (wo_5_0 ho) dX5_giveHolders_29 ?_
          refine g_iload_n hX dX5_giveHolders_32 rfl rfl ?_
          obtain ⟨z4, h⟩ := ck_some h
          refine g_iald hX (wk_5_0 ho).1 (wk_5_0 ho).2 z4 dX5_giveHolders_33 ?_
          refine g_callVi hX (c_X2_isHolder ha1 (μ (o + 1) (ix v2))) mv_X2_isHolder wm_908 ha1 rfl (by decide) (by decide) rfl rfl (Nat.le_of_ble_eq_true rfl) dX5_giveHolders_34 ?_
          refine g_if_ne (tgt := 42) hX dX5_giveHolders_37 (by decide) (fun q5 => ?_) (fun q5 => ?_)
          · rw [if_neg q5] at h
            refine g_aload_n hX dX5_giveHolders_42 rfl rfl ?_
            refine g_getr hX ha1 fg_2_7 tf_2_7 w_163 (wo_2_7 ha1) dX5_giveHolders_43 ?_
            refine g_iload_n hX dX5_giveHolders_46 rfl rfl ?_
            refine g_aload_n hX dX5_giveHolders_47 rfl rfl ?_
            refine g_getr hX ho fg_5_0 tf_5_0 w_338 (wo_5_0 ho) dX5_giveHolders_48 ?_
            refine g_iload_n hX dX5_giveHolders_51 rfl rfl ?_
            obtain ⟨z6, h⟩ := ck_some h
            refine g_iald hX (wk_5_0 ho).1 (wk_5_0 ho).2 z6 dX5_giveHolders_52 ?_
            obtain ⟨z8, h⟩ := ck_some h
            obtain ⟨μ7, hμ7, h⟩ := wr_some h
            refine g_iastM hX (wk_2_7 ha1).1 (wk_2_7 ha1).2 z8 dX5_giveHolders_53 hμ7 ?_
            refine g_iinc (lc' := [some _, some _, some _]) hX dX5_giveHolders_54 (by decide) rfl (congrArg _ k_1) rfl rfl ?_
            refine g_goto (tgt := 2) hX dX5_giveHolders_57 (by decide) ?_
            exact g_weak (lc' := [some _, some _, some _]) ⟨rfl, rfl, rfl, trivial⟩ (ih _ _ h)
          · rw [if_pos q5] at h
            refine g_iload_n hX dX5_giveHolders_40 rfl rfl ?_
            obtain ⟨rfl, rfl⟩ := pair_inj h
            exact g_iret hX rfl rfl dX5_giveHolders_41
set_option maxRecDepth 100000 in
set_option maxHeartbeats 4000000 in
theorem c_X5_giveHolders {l : Launch} {D : DT} {o : Nat} {a1 : Nat} {μ : Mem} {r : Int32} {μ' : Mem} (ho : kd true o = 5) (ha1 : kd true a1 = 2) (h : f_X5_giveHolders o a1 μ = some (r, μ')) : Ct l D true 3 yX5_giveHolders cX5_giveHolders 3 (some FieldType.int) [.ref (D.1 o), .ref (D.1 a1)] μ (some (.int r)) μ' := by
  refine Ct.of (own := RX5) (lc0 := [some (.ref (D.1 o)), some (.ref (D.1 a1)), none]) pn_X5 rfl (Nat.le_of_ble_eq_true rfl) rfl mv_X5_giveHolders.2.2.2.1 (fun X hX => ?_)
  unfold f_X5_giveHolders at h
  refine g_iconst hX dX5_giveHolders_0 k_0 ?_
  refine g_istore_n (lc' := [some _, some _, some _]) hX dX5_giveHolders_1 rfl (by decide) rfl rfl ?_
  exact g_weak (lc' := [some _, some _, some _]) ⟨rfl, rfl, rfl, trivial⟩ (t_X5_giveHolders_2 hX ho ha1 2000 _ _ h)
set_option maxRecDepth 100000 in
set_option maxHeartbeats 4000000 in
theorem c_X5_hasPart {l : Launch} {D : DT} {o : Nat} {μ : Mem} (ho : kd true o = 5) (v1 : Int32) (v2 : Int32) : Ct l D true 1 yX5_hasPart cX5_hasPart 3 (some FieldType.boolean) [.ref (D.1 o), .int v1, .int v2] μ (some (.int (f_X5_hasPart o v1 v2 μ))) μ := by
  obtain ⟨r, h⟩ : ∃ r, f_X5_hasPart o v1 v2 μ = r := ⟨_, rfl⟩
  rw [h]
  refine Ct.of (own := RX5) (lc0 := [some (.ref (D.1 o)), some (.int v1), some (.int v2)]) pn_X5 rfl (Nat.le_of_ble_eq_true rfl) rfl mv_X5_hasPart.2.2.2.1 (fun X hX => ?_)
  unfold f_X5_hasPart at h
  refine g_iload_n hX dX5_hasPart_0 rfl rfl ?_
  refine g_if_lt (tgt := 30) hX dX5_hasPart_1 (by decide) (fun q1 => ?_) (fun q1 => ?_)
  · rw [if_pos q1] at h
    refine g_iconst hX dX5_hasPart_30 k_0 ?_
    subst h
    exact g_iret hX rfl rfl dX5_hasPart_31
  · rw [if_neg q1] at h
    refine g_iload_n hX dX5_hasPart_4 rfl rfl ?_
    refine g_if_lt (tgt := 30) hX dX5_hasPart_5 (by decide) (fun q2 => ?_) (fun q2 => ?_)
    · rw [if_pos q2] at h
      refine g_iconst hX dX5_hasPart_30 k_0 ?_
      subst h
      exact g_iret hX rfl rfl dX5_hasPart_31
    · rw [if_neg q2] at h
      refine g_iload_n hX dX5_hasPart_8 rfl rfl ?_
      refine g_aload_n hX dX5_hasPart_9 rfl rfl ?_
      refine g_geti hX ho fg_5_2 tf_5_2 w_342 dX5_hasPart_10 ?_
      refine g_icmp_gt (tgt := 30) hX dX5_hasPart_13 (by decide) (fun q3 => ?_) (fun q3 => ?_)
      · rw [if_pos q3] at h
        refine g_iconst hX dX5_hasPart_30 k_0 ?_
        subst h
        exact g_iret hX rfl rfl dX5_hasPart_31
      · rw [if_neg q3] at h
        refine g_iload_n hX dX5_hasPart_16 rfl rfl ?_
        refine g_aload_n hX dX5_hasPart_17 rfl rfl ?_
        refine g_geti hX ho fg_5_2 tf_5_2 w_342 dX5_hasPart_18 ?_
        refine g_iload_n hX dX5_hasPart_21 rfl rfl ?_
        refine g_isub hX dX5_hasPart_22 ?_
        refine g_icmp_gt (tgt := 30) hX dX5_hasPart_23 (by decide) (fun q4 => ?_) (fun q4 => ?_)
        · rw [if_pos q4] at h
          refine g_iconst hX dX5_hasPart_30 k_0 ?_
          subst h
          exact g_iret hX rfl rfl dX5_hasPart_31
        · rw [if_neg q4] at h
          refine g_iconst hX dX5_hasPart_26 k_1 ?_
          refine g_goto (tgt := 31) hX dX5_hasPart_27 (by decide) ?_
          subst h
          exact g_iret hX rfl rfl dX5_hasPart_31
set_option maxRecDepth 100000 in
set_option maxHeartbeats 4000000 in
theorem c_X5_isMissing {l : Launch} {D : DT} {o : Nat} {μ : Mem} (ho : kd true o = 5) : Ct l D true 1 yX5_isMissing cX5_isMissing 1 (some FieldType.boolean) [.ref (D.1 o)] μ (some (.int (f_X5_isMissing o μ))) μ := by
  obtain ⟨r, h⟩ : ∃ r, f_X5_isMissing o μ = r := ⟨_, rfl⟩
  rw [h]
  refine Ct.of (own := RX5) (lc0 := [some (.ref (D.1 o))]) pn_X5 rfl (Nat.le_of_ble_eq_true rfl) rfl mv_X5_isMissing.2.2.2.1 (fun X hX => ?_)
  unfold f_X5_isMissing at h
  refine g_aload_n hX dX5_isMissing_0 rfl rfl ?_
  refine g_geti hX ho fg_5_1 tf_5_1 w_340 dX5_isMissing_1 ?_
  refine g_if_ne (tgt := 11) hX dX5_isMissing_4 (by decide) (fun q1 => ?_) (fun q1 => ?_)
  · rw [if_neg q1] at h
    refine g_iconst hX dX5_isMissing_11 k_0 ?_
    subst h
    exact g_iret hX rfl rfl dX5_isMissing_12
  · rw [if_pos q1] at h
    refine g_iconst hX dX5_isMissing_7 k_1 ?_
    refine g_goto (tgt := 12) hX dX5_isMissing_8 (by decide) ?_
    subst h
    exact g_iret hX rfl rfl dX5_isMissing_12
set_option maxRecDepth 100000 in
set_option maxHeartbeats 4000000 in
theorem c_X5_lowest {l : Launch} {D : DT} {o : Nat} {μ : Mem} (ho : kd true o = 5) (v1 : Int32) : Ct l D true 1 yX5_lowest cX5_lowest 2 (some FieldType.int) [.ref (D.1 o), .int v1] μ (some (.int (f_X5_lowest o v1 μ))) μ := by
  obtain ⟨r, h⟩ : ∃ r, f_X5_lowest o v1 μ = r := ⟨_, rfl⟩
  rw [h]
  refine Ct.of (own := RX5) (lc0 := [some (.ref (D.1 o)), some (.int v1)]) pn_X5 rfl (Nat.le_of_ble_eq_true rfl) rfl mv_X5_lowest.2.2.2.1 (fun X hX => ?_)
  unfold f_X5_lowest at h
  refine g_aload_n hX dX5_lowest_0 rfl rfl ?_
  refine g_geti hX ho fg_5_1 tf_5_1 w_340 dX5_lowest_1 ?_
  refine g_bipush hX dX5_lowest_4 kb_8 ?_
  refine g_icmp_ne (tgt := 12) hX dX5_lowest_6 (by decide) (fun q1 => ?_) (fun q1 => ?_)
  · rw [if_neg q1] at h
    refine g_aload_n hX dX5_lowest_12 rfl rfl ?_
    refine g_geti hX ho fg_5_1 tf_5_1 w_340 dX5_lowest_13 ?_
    refine g_bipush hX dX5_lowest_16 kb_16 ?_
    refine g_icmp_ne (tgt := 26) hX dX5_lowest_18 (by decide) (fun q2 => ?_) (fun q2 => ?_)
    · rw [if_neg q2] at h
      refine g_iload_n hX dX5_lowest_26 rfl rfl ?_
      subst h
      exact g_iret hX rfl rfl dX5_lowest_27
    · rw [if_pos q2] at h
      refine g_iload_n hX dX5_lowest_21 rfl rfl ?_
      refine g_i2s hX dX5_lowest_22 ?_
      refine g_goto (tgt := 27) hX dX5_lowest_23 (by decide) ?_
      subst h
      exact g_iret hX rfl rfl dX5_lowest_27
  · rw [if_pos q1] at h
    refine g_iload_n hX dX5_lowest_9 rfl rfl ?_
    refine g_i2b hX dX5_lowest_10 ?_
    subst h
    exact g_iret hX rfl rfl dX5_lowest_11
set_option maxRecDepth 100000 in
set_option maxHeartbeats 4000000 in
theorem t_X5_rightGrass_49 {l : Launch} {D : DT} {X : XT} {o : Nat} {a1 : Nat} {μ : Mem} {r : Int32} (hX : Cx l D true X 2 RX5 cX5_rightGrass 3 (some FieldType.int)) (ho : kd true o = 5) (ha1 : kd true a1 = 2) : f_X5_rightGrass_49 o a1 μ = some r → G l D true X 3 (some (.int r)) μ 49 [some (.ref (D.1 o)), none, none] [] μ := by
  intro  h
  unfold f_X5_rightGrass_49 at h
  refine g_aload_n hX dX5_rightGrass_49 rfl rfl ?_
  refine g_geti hX ho fg_5_2 tf_5_2 w_342 dX5_rightGrass_50 ?_
  obtain rfl := Option.some.inj h
  exact g_iret hX rfl rfl dX5_rightGrass_53
set_option maxRecDepth 100000 in
set_option maxHeartbeats 4000000 in
theorem t_X5_rightGrass_2 {l : Launch} {D : DT} {X : XT} {o : Nat} {a1 : Nat} {μ : Mem} {r : Int32} (hX : Cx l D true X 2 RX5 cX5_rightGrass 3 (some FieldType.int)) (ho : kd true o = 5) (ha1 : kd true a1 = 2) : ∀ (n : Nat) (v2 : Int32), f_X5_rightGrass_2 o a1 μ n v2 = some r → G l D true X 3 (some (.int r)) μ 2 [some (.ref (D.1 o)), some (.ref (D.1 a1)), some (.int v2)] [] μ := by
  intro n
  induction n with
  | zero => intro v2 h; exact absurd h (by simp [f_X5_rightGrass_2])
  | succ n ih =>
    intro v2 h
    rw [f_X5_rightGrass_2] at h
    refine g_iload_n hX dX5_rightGrass_2 rfl rfl ?_
    refine g_aload_n hX dX5_rightGrass_3 rfl rfl ?_
    refine g_geti hX ho fg_5_2 tf_5_2 w_342 dX5_rightGrass_4 ?_
    refine g_icmp_ge (tgt := 49) hX dX5_rightGrass_7 (by decide) (fun q1 => ?_) (fun q1 => ?_)
    · rw [if_pos q1] at h
      exact g_weak (lc' := [some _, none, none]) ⟨rfl, trivial⟩ (t_X5_rightGrass_49 hX ho ha1 h)
    · rw [if_neg q1] at h
      refine g_iload_n hX dX5_rightGrass_10 rfl rfl ?_
      refine g_aload_n hX dX5_rightGrass_11 rfl rfl ?_
      refine g_getr hX ho fg_5_0 tf_5_0 w_338 (wo_5_0 ho) dX5_rightGrass_12 ?_
      refine g_alen hX (wk_5_0 ho).1 (wk_5_0 ho).2 len_24 dX5_rightGrass_15 ?_
      refine g_icmp_ge (tgt := 49) hX dX5_rightGrass_16 (by decide) (fun q2 => ?_) (fun q2 => ?_)
      · rw [if_pos q2] at h
        exact g_weak (lc' := [some _, none, none]) ⟨rfl, trivial⟩ (t_X5_rightGrass_49 hX ho ha1 h)
      · rw [if_neg q2] at h
        refine g_iload_n hX dX5_rightGrass_19 rfl rfl ?_
        refine g_callSNi hX (c_X8_isField  v2) mv_X8_isField nl_2 (by decide) rfl rfl (Nat.le_of_ble_eq_true rfl) dX5_rightGrass_20 ?_
        refine g_if_eq (tgt := 41) hX dX5_rightGrass_23 (by decide) (fun q3 => ?_) (fun q3 => ?_)
        · rw [if_pos q3] at h
          refine g_iload_n hX dX5_rightGrass_41 rfl rfl ?_
          obtain rfl := Option.some.inj h
          exact g_iret hX rfl rfl dX5_rightGrass_42
        · rw [if_neg q3] at h
          refine g_aload_n hX dX5_rightGrass_26 rfl rfl ?_
          refine g_getr hX ho fg_5_0 tf_5_0 w_338 (wo_5_0 ho) dX5_rightGrass_27 ?_
          refine g_iload_n hX dX5_rightGrass_30 rfl rfl ?_
          obtain ⟨z4, h⟩ := ck_some h
          refine g_iald hX (wk_5_0 ho).1 (wk_5_0 ho).2 z4 dX5_rightGrass_31 ?_
          refine g_aload_n hX dX5_rightGrass_32 rfl rfl ?_
          refine g_getr hX ha1 fg_2_9 tf_2_9 w_168 (wo_2_9 ha1) dX5_rightGrass_33 ?_
          refine g_iload_n hX dX5_rightGrass_36 rfl rfl ?_
          obtain ⟨z5, h⟩ := ck_some h
          refine g_iald hX (wk_2_9 ha1).1 (wk_2_9 ha1).2 z5 dX5_rightGrass_37 ?_
          refine g_icmp_eq (tgt := 43) hX dX5_rightGrass_38 (by decide) (fun q6 => ?_) (fun q6 => ?_)
          · rw [if_pos q6] at h
            refine g_iinc (lc' := [some _, some _, some _]) hX dX5_rightGrass_43 (by decide) rfl (congrArg _ k_1) rfl rfl ?_
            refine g_goto (tgt := 2) hX dX5_rightGrass_46 (by decide) ?_
            exact g_weak (lc' := [some _, some _, some _]) ⟨rfl, rfl, rfl, trivial⟩ (ih _ h)
          · rw [if_neg q6] at h
            refine g_iload_n hX dX5_rightGrass_41 rfl rfl ?_
            obtain rfl := Option.some.inj h
            exact g_iret hX rfl rfl dX5_rightGrass_42
set_option maxRecDepth 100000 in
set_option maxHeartbeats 4000000 in
theorem c_X5_rightGrass {l : Launch} {D : DT} {o : Nat} {a1 : Nat} {μ : Mem} {r : Int32} (ho : kd true o = 5) (ha1 : kd true a1 = 2) (h : f_X5_rightGrass o a1 μ = some r) : Ct l D true 2 yX5_rightGrass cX5_rightGrass 3 (some FieldType.int) [.ref (D.1 o), .ref (D.1 a1)] μ (some (.int r)) μ := by
  refine Ct.of (own := RX5) (lc0 := [some (.ref (D.1 o)), some (.ref (D.1 a1)), none]) pn_X5 rfl (Nat.le_of_ble_eq_true rfl) rfl mv_X5_rightGrass.2.2.2.1 (fun X hX => ?_)
  unfold f_X5_rightGrass at h
  refine g_iconst hX dX5_rightGrass_0 k_0 ?_
  refine g_istore_n (lc' := [some _, some _, some _]) hX dX5_rightGrass_1 rfl (by decide) rfl rfl ?_
  exact g_weak (lc' := [some _, some _, some _]) ⟨rfl, rfl, rfl, trivial⟩ (t_X5_rightGrass_2 hX ho ha1 2000 _ h)
set_option maxRecDepth 100000 in
set_option maxHeartbeats 4000000 in
theorem t_X5_tellsHolders_2 {l : Launch} {D : DT} {X : XT} {o : Nat} {a1 : Nat} {μ : Mem} {r : Int32} (hX : Cx l D true X 2 RX5 cX5_tellsHolders 3 (some FieldType.boolean)) (ho : kd true o = 5) (ha1 : kd true a1 = 2) : ∀ (n : Nat) (v2 : Int32), f_X5_tellsHolders_2 o a1 μ n v2 = some r → G l D true X 3 (some (.int r)) μ 2 [some (.ref (D.1 o)), some (.ref (D.1 a1)), some (.int v2)] [] μ := by
  intro n
  induction n with
  | zero => intro v2 h; exact absurd h (by simp [f_X5_tellsHolders_2])
  | succ n ih =>
    intro v2 h
    rw [f_X5_tellsHolders_2] at h
    refine g_iload_n hX dX5_tellsHolders_2 rfl rfl ?_
    refine g_aload_n hX dX5_tellsHolders_3 rfl rfl ?_
    refine g_geti hX ho fg_5_2 tf_5_2 w_342 dX5_tellsHolders_4 ?_
    refine g_icmp_ge (tgt := 50) hX dX5_tellsHolders_7 (by decide) (fun q1 => ?_) (fun q1 => ?_)
    · rw [if_pos q1] at h
      refine g_iconst hX dX5_tellsHolders_50 k_1 ?_
      obtain rfl := Option.some.inj h
      exact g_iret hX rfl rfl dX5_tellsHolders_51
    · rw [if_neg q1] at h
      refine g_iload_n hX dX5_tellsHolders_10 rfl rfl ?_
      refine g_aload_n hX dX5_tellsHolders_11 rfl rfl ?_
      refine g_getr hX ho fg_5_0 tf_5_0 w_338 (wo_5_0 ho) dX5_tellsHolders_12 ?_
      refine g_alen hX (wk_5_0 ho).1 (wk_5_0 ho).2 len_24 dX5_tellsHolders_15 ?_
      refine g_icmp_ge (tgt := 50) hX dX5_tellsHolders_16 (by decide) (fun q2 => ?_) (fun q2 => ?_)
      · rw [if_pos q2] at h
        refine g_iconst hX dX5_tellsHolders_50 k_1 ?_
        obtain rfl := Option.some.inj h
        exact g_iret hX rfl rfl dX5_tellsHolders_51
      · rw [if_neg q2] at h
        refine g_aload_n hX dX5_tellsHolders_19 rfl rfl ?_
        refine g_iload_n hX dX5_tellsHolders_20 rfl rfl ?_
        refine g_callVi hX (c_X2_isGate ha1 v2) mv_X2_isGate wm_840 ha1 rfl (by decide) (by decide) rfl rfl (Nat.le_of_ble_eq_true rfl) dX5_tellsHolders_21 ?_
        refine g_if_eq (tgt := 42) hX dX5_tellsHolders_24 (by decide) (fun q3 => ?_) (fun q3 => ?_)
        · rw [if_pos q3] at h
          refine g_iconst hX dX5_tellsHolders_42 k_0 ?_
          obtain rfl := Option.some.inj h
          exact g_iret hX rfl rfl dX5_tellsHolders_43
        · rw [if_neg q3] at h
          refine g_aload_n hX dX5_tellsHolders_27 rfl rfl ?_
          refine g_getr hX ha1 fg_2_7 tf_2_7 w_163 (wo_2_7 ha1) dX5_tellsHolders_28 ?_
          refine g_iload_n hX dX5_tellsHolders_31 rfl rfl ?_
          obtain ⟨z4, h⟩ := ck_some h
          refine g_iald hX (wk_2_7 ha1).1 (wk_2_7 ha1).2 z4 dX5_tellsHolders_32 ?_
          refine g_aload_n hX dX5_tellsHolders_33 rfl rfl ?_
          refine g_getr hX ho fg_5_0 tf_5_0 w_338 (wo_5_0 ho) dX5_tellsHolders_34 ?_
          refine g_iload_n hX dX5_tellsHolders_37 rfl rfl ?_
          obtain ⟨z5, h⟩ := ck_some h
          refine g_iald hX (wk_5_0 ho).1 (wk_5_0 ho).2 z5 dX5_tellsHolders_38 ?_
          refine g_icmp_eq (tgt := 44) hX dX5_tellsHolders_39 (by decide) (fun q6 => ?_) (fun q6 => ?_)
          · rw [if_pos q6] at h
            refine g_iinc (lc' := [some _, some _, some _]) hX dX5_tellsHolders_44 (by decide) rfl (congrArg _ k_1) rfl rfl ?_
            refine g_goto (tgt := 2) hX dX5_tellsHolders_47 (by decide) ?_
            exact g_weak (lc' := [some _, some _, some _]) ⟨rfl, rfl, rfl, trivial⟩ (ih _ h)
          · rw [if_neg q6] at h
            refine g_iconst hX dX5_tellsHolders_42 k_0 ?_
            obtain rfl := Option.some.inj h
            exact g_iret hX rfl rfl dX5_tellsHolders_43
set_option maxRecDepth 100000 in
set_option maxHeartbeats 4000000 in
theorem c_X5_tellsHolders {l : Launch} {D : DT} {o : Nat} {a1 : Nat} {μ : Mem} {r : Int32} (ho : kd true o = 5) (ha1 : kd true a1 = 2) (h : f_X5_tellsHolders o a1 μ = some r) : Ct l D true 2 yX5_tellsHolders cX5_tellsHolders 3 (some FieldType.boolean) [.ref (D.1 o), .ref (D.1 a1)] μ (some (.int r)) μ := by
  refine Ct.of (own := RX5) (lc0 := [some (.ref (D.1 o)), some (.ref (D.1 a1)), none]) pn_X5 rfl (Nat.le_of_ble_eq_true rfl) rfl mv_X5_tellsHolders.2.2.2.1 (fun X hX => ?_)
  unfold f_X5_tellsHolders at h
  refine g_iconst hX dX5_tellsHolders_0 k_0 ?_
  refine g_istore_n (lc' := [some _, some _, some _]) hX dX5_tellsHolders_1 rfl (by decide) rfl rfl ?_
  exact g_weak (lc' := [some _, some _, some _]) ⟨rfl, rfl, rfl, trivial⟩ (t_X5_tellsHolders_2 hX ho ha1 2000 _ h)
set_option maxRecDepth 100000 in
set_option maxHeartbeats 4000000 in
theorem c_X6_divided {l : Launch} {D : DT} {μ : Mem} {r : Int32} {μ' : Mem} (v1 : Int32) (h : f_X6_divided v1 μ = some (r, μ')) : Ct l D true 1 yX6_divided cX6_divided 3 (some FieldType.int) [.ref (D.1 55), .int v1] μ (some (.int r)) μ' := by
  refine Ct.of (own := RX6) (lc0 := [some (.ref (D.1 55)), some (.int v1), none]) pn_X6 rfl (Nat.le_of_ble_eq_true rfl) rfl mv_X6_divided.2.2.2.1 (fun X hX => ?_)
  unfold f_X6_divided at h
  refine g_aload_n hX dX6_divided_0 rfl rfl ?_
  refine g_geti hX kd_true_55 fg_6_5 tf_6_5 w_317 dX6_divided_1 ?_
  refine g_aload_n hX dX6_divided_4 rfl rfl ?_
  refine g_geti hX kd_true_55 fg_6_4 tf_6_4 w_316 dX6_divided_5 ?_
  refine g_isub hX dX6_divided_8 ?_
  refine g_istore_n (lc' := [some _, some _, some _]) hX dX6_divided_9 rfl (by decide) rfl rfl ?_
  refine g_iload_n hX dX6_divided_10 rfl rfl ?_
  refine g_if_ne (tgt := 21) hX dX6_divided_11 (by decide) (fun q1 => ?_) (fun q1 => ?_)
  · rw [if_neg q1] at h
    refine g_iload_n hX dX6_divided_21 rfl rfl ?_
    refine g_iload_n hX dX6_divided_22 rfl rfl ?_
    obtain ⟨z2, h⟩ := ck_some h
    refine g_idiv hX (nz_ne z2) dX6_divided_23 ?_
    obtain ⟨rfl, rfl⟩ := pair_inj h
    exact g_iret hX rfl rfl dX6_divided_24
  · rw [if_pos q1] at h
    refine g_aload_n hX dX6_divided_14 rfl rfl ?_
    refine g_iconst hX dX6_divided_15 k_1 ?_
    obtain ⟨μ3, hμ3, h⟩ := wr_some h
    refine g_putz hX rfl kd_true_55 fg_6_2 tf_6_2 tyX6_ok nmX6 rfl w_313 dX6_divided_16 hμ3 ?_
    refine g_iconst hX dX6_divided_19 k_0 ?_
    obtain ⟨rfl, rfl⟩ := pair_inj h
    exact g_iret hX rfl rfl dX6_divided_20
set_option maxRecDepth 100000 in
set_option maxHeartbeats 4000000 in
theorem t_X6_from_76 {l : Launch} {D : DT} {X : XT} {P : Int32 → Int32 → Int32 → Int32 → Mem → Option (Int32 × Mem)} {dP : Nat} {k6 : Int32 → Int32 → Int32 → Int32 → Int32 → Mem → Option (Int32 × Mem)} {r : Int32} {μ' : Mem} (hX : Cx l D true X (dP + 1) RX6 cX6_from 8 (some FieldType.int)) (hB : 1 ≤ dP) (hP : ∀ (v1 : Int32) (v2 : Int32) (v3 : Int32) (v4 : Int32) {μ : Mem} {r : Int32} {μ' : Mem}, P v1 v2 v3 v4 μ = some (r, μ') → Ct l D true dP yX6_work cX6_work 6 (some FieldType.int) [.ref (D.1 55), .int v1, .int v2, .int v3, .int v4] μ (some (.int r)) μ') (hk6 : ∀ (v2 : Int32) (v3 : Int32) (v4 : Int32) (v5 : Int32) (v6 : Int32) (μ : Mem), k6 v2 v3 v4 v5 v6 μ = some (r, μ') → G l D true X 8 (some (.int r)) μ' 6 [some (.ref (D.1 55)), none, some (.int v2), some (.int v3), some (.int v4), some (.int v5), some (.int v6), none] [] μ) : ∀ (v2 : Int32) (v3 : Int32) (v4 : Int32) (v5 : Int32) (v6 : Int32) (μ : Mem), f_X6_from_76 P k6 v2 v3 v4 v5 v6 μ = some (r, μ') → G l D true X 8 (some (.int r)) μ' 76 [some (.ref (D.1 55)), none, some (.int v2), some (.int v3), some (.int v4), some (.int v5), some (.int v6), none] [] μ := by
  intro v2 v3 v4 v5 v6 μ h
  unfold f_X6_from_76 at h
  refine g_KAN hX nl_0 dX6_from_76 ?_
  refine g_iload hX dX6_from_79 rfl ?_
  obtain ⟨z1, h⟩ := ck_some h
  refine g_KAld hX z1 dX6_from_81 ?_
  refine g_istore (lc' := [some _, none, some _, some _, some _, some _, some _, none]) hX dX6_from_82 (by decide) rfl rfl ?_
  refine g_iinc (lc' := [some _, none, some _, some _, some _, some _, some _, none]) hX dX6_from_84 (by decide) rfl (congrArg _ k_1) rfl rfl ?_
  refine g_goto (tgt := 6) hX dX6_from_87 (by decide) ?_
  exact g_weak (lc' := [some _, none, some _, some _, some _, some _, some _, none]) ⟨rfl, rfl, rfl, rfl, rfl, rfl, trivial⟩ (hk6 _ _ _ _ _ _ h)
set_option maxRecDepth 100000 in
set_option maxHeartbeats 4000000 in
theorem t_X6_from_56 {l : Launch} {D : DT} {X : XT} {P : Int32 → Int32 → Int32 → Int32 → Mem → Option (Int32 × Mem)} {dP : Nat} {r : Int32} {μ' : Mem} (hX : Cx l D true X (dP + 1) RX6 cX6_from 8 (some FieldType.int)) (hB : 1 ≤ dP) (hP : ∀ (v1 : Int32) (v2 : Int32) (v3 : Int32) (v4 : Int32) {μ : Mem} {r : Int32} {μ' : Mem}, P v1 v2 v3 v4 μ = some (r, μ') → Ct l D true dP yX6_work cX6_work 6 (some FieldType.int) [.ref (D.1 55), .int v1, .int v2, .int v3, .int v4] μ (some (.int r)) μ') : ∀ (v3 : Int32) (v4 : Int32) (v5 : Int32) (v7 : Int32) (μ : Mem), f_X6_from_56 P v3 v4 v5 v7 μ = some (r, μ') → G l D true X 8 (some (.int r)) μ' 56 [some (.ref (D.1 55)), none, none, some (.int v3), some (.int v4), some (.int v5), none, some (.int v7)] [] μ := by
  intro v3 v4 v5 v7 μ h
  unfold f_X6_from_56 at h
  refine g_aload_n hX dX6_from_56 rfl rfl ?_
  refine g_BO hX w_857 dX6_from_57 ?_
  refine g_iload hX dX6_from_60 rfl ?_
  obtain ⟨z1, h⟩ := ck_some h
  refine g_BOld hX z1 dX6_from_62 ?_
  refine g_KAN hX nl_0 dX6_from_63 ?_
  refine g_iload hX dX6_from_66 rfl ?_
  obtain ⟨z2, h⟩ := ck_some h
  refine g_KAld hX z2 dX6_from_68 ?_
  refine g_iload_n hX dX6_from_69 rfl rfl ?_
  refine g_iload hX dX6_from_70 rfl ?_
  obtain ⟨r3, μ4, hr3, h⟩ := bd2_some h
  refine g_callVi hX (hP  _ _ _ _ hr3) mv_X6_work wm_860 kd_true_55 rfl (by decide) (by omega) rfl rfl (Nat.le_of_ble_eq_true rfl) dX6_from_72 ?_
  obtain ⟨rfl, rfl⟩ := pair_inj h
  exact g_iret hX rfl rfl dX6_from_75
set_option maxRecDepth 100000 in
set_option maxHeartbeats 4000000 in
theorem t_X6_from_6 {l : Launch} {D : DT} {X : XT} {P : Int32 → Int32 → Int32 → Int32 → Mem → Option (Int32 × Mem)} {dP : Nat} {r : Int32} {μ' : Mem} (hX : Cx l D true X (dP + 1) RX6 cX6_from 8 (some FieldType.int)) (hB : 1 ≤ dP) (hP : ∀ (v1 : Int32) (v2 : Int32) (v3 : Int32) (v4 : Int32) {μ : Mem} {r : Int32} {μ' : Mem}, P v1 v2 v3 v4 μ = some (r, μ') → Ct l D true dP yX6_work cX6_work 6 (some FieldType.int) [.ref (D.1 55), .int v1, .int v2, .int v3, .int v4] μ (some (.int r)) μ') : ∀ (n : Nat) (v2 : Int32) (v3 : Int32) (v4 : Int32) (v5 : Int32) (v6 : Int32) (μ : Mem), f_X6_from_6 P n v2 v3 v4 v5 v6 μ = some (r, μ') → G l D true X 8 (some (.int r)) μ' 6 [some (.ref (D.1 55)), none, some (.int v2), some (.int v3), some (.int v4), some (.int v5), some (.int v6), none] [] μ := by
  intro n
  induction n with
  | zero => intro v2 v3 v4 v5 v6 μ h; exact absurd h (by simp [f_X6_from_6])
  | succ n ih =>
    intro v2 v3 v4 v5 v6 μ h
    rw [f_X6_from_6] at h
    refine g_iload hX dX6_from_6 rfl ?_
    refine g_bipush hX dX6_from_8 kb_7 ?_
    refine g_icmp_ge (tgt := 90) hX dX6_from_10 (by decide) (fun q1 => ?_) (fun q1 => ?_)
    · rw [if_pos q1] at h
      refine g_iconst hX dX6_from_90 k_0 ?_
      obtain ⟨rfl, rfl⟩ := pair_inj h
      exact g_iret hX rfl rfl dX6_from_91
    · rw [if_neg q1] at h
      refine g_iload hX dX6_from_13 rfl ?_
      refine g_if_lt (tgt := 90) hX dX6_from_15 (by decide) (fun q2 => ?_) (fun q2 => ?_)
      · rw [if_pos q2] at h
        refine g_iconst hX dX6_from_90 k_0 ?_
        obtain ⟨rfl, rfl⟩ := pair_inj h
        exact g_iret hX rfl rfl dX6_from_91
      · rw [if_neg q2] at h
        refine g_iload hX dX6_from_18 rfl ?_
        refine g_bipush hX dX6_from_20 kb_7 ?_
        refine g_icmp_ge (tgt := 90) hX dX6_from_22 (by decide) (fun q3 => ?_) (fun q3 => ?_)
        · rw [if_pos q3] at h
          refine g_iconst hX dX6_from_90 k_0 ?_
          obtain ⟨rfl, rfl⟩ := pair_inj h
          exact g_iret hX rfl rfl dX6_from_91
        · rw [if_neg q3] at h
          refine g_iload hX dX6_from_25 rfl ?_
          refine g_iconst hX dX6_from_27 k_4 ?_
          refine g_imul hX dX6_from_28 ?_
          refine g_iload_n hX dX6_from_29 rfl rfl ?_
          refine g_iadd hX dX6_from_30 ?_
          refine g_istore (lc' := [some _, none, some _, some _, some _, some _, some _, some _]) hX dX6_from_31 (by decide) rfl rfl ?_
          refine g_iload hX dX6_from_33 rfl ?_
          refine g_if_lt (tgt := 76) hX dX6_from_35 (by decide) (fun q4 => ?_) (fun q4 => ?_)
          · rw [if_pos q4] at h
            exact g_weak (lc' := [some _, none, some _, some _, some _, some _, some _, none]) ⟨rfl, rfl, rfl, rfl, rfl, rfl, trivial⟩ (t_X6_from_76 hX hB hP ih _ _ _ _ _ _ h)
          · rw [if_neg q4] at h
            refine g_iload hX dX6_from_38 rfl ?_
            refine g_BO hX w_857 dX6_from_40 ?_
            refine g_BOlen hX dX6_from_43 ?_
            refine g_icmp_ge (tgt := 76) hX dX6_from_44 (by decide) (fun q5 => ?_) (fun q5 => ?_)
            · rw [if_pos q5] at h
              exact g_weak (lc' := [some _, none, some _, some _, some _, some _, some _, none]) ⟨rfl, rfl, rfl, rfl, rfl, rfl, trivial⟩ (t_X6_from_76 hX hB hP ih _ _ _ _ _ _ h)
            · rw [if_neg q5] at h
              refine g_BO hX w_857 dX6_from_47 ?_
              refine g_iload hX dX6_from_50 rfl ?_
              obtain ⟨z6, h⟩ := ck_some h
              refine g_BOld hX z6 dX6_from_52 ?_
              refine g_if_eq (tgt := 76) hX dX6_from_53 (by decide) (fun q7 => ?_) (fun q7 => ?_)
              · rw [if_pos q7] at h
                exact g_weak (lc' := [some _, none, some _, some _, some _, some _, some _, none]) ⟨rfl, rfl, rfl, rfl, rfl, rfl, trivial⟩ (t_X6_from_76 hX hB hP ih _ _ _ _ _ _ h)
              · rw [if_neg q7] at h
                exact g_weak (lc' := [some _, none, none, some _, some _, some _, none, some _]) ⟨rfl, rfl, rfl, rfl, rfl, trivial⟩ (t_X6_from_56 hX hB hP _ _ _ _ _ h)
set_option maxRecDepth 100000 in
set_option maxHeartbeats 4000000 in
theorem c_X6_from {l : Launch} {D : DT} {P : Int32 → Int32 → Int32 → Int32 → Mem → Option (Int32 × Mem)} {dP : Nat} {μ : Mem} {r : Int32} {μ' : Mem} (hB : 1 ≤ dP) (hP : ∀ (v1 : Int32) (v2 : Int32) (v3 : Int32) (v4 : Int32) {μ : Mem} {r : Int32} {μ' : Mem}, P v1 v2 v3 v4 μ = some (r, μ') → Ct l D true dP yX6_work cX6_work 6 (some FieldType.int) [.ref (D.1 55), .int v1, .int v2, .int v3, .int v4] μ (some (.int r)) μ') (v1 : Int32) (v2 : Int32) (v3 : Int32) (v4 : Int32) (h : f_X6_from P v1 v2 v3 v4 μ = some (r, μ')) : Ct l D true (dP + 1) yX6_from cX6_from 8 (some FieldType.int) [.ref (D.1 55), .int v1, .int v2, .int v3, .int v4] μ (some (.int r)) μ' := by
  refine Ct.of (own := RX6) (lc0 := [some (.ref (D.1 55)), some (.int v1), some (.int v2), some (.int v3), some (.int v4), none, none, none]) pn_X6 rfl (Nat.le_of_ble_eq_true rfl) rfl mv_X6_from.2.2.2.1 (fun X hX => ?_)
  unfold f_X6_from at h
  refine g_iload_n hX dX6_from_0 rfl rfl ?_
  refine g_istore (lc' := [some _, some _, some _, some _, some _, some _, none, none]) hX dX6_from_1 (by decide) rfl rfl ?_
  refine g_iconst hX dX6_from_3 k_0 ?_
  refine g_istore (lc' := [some _, some _, some _, some _, some _, some _, some _, none]) hX dX6_from_4 (by decide) rfl rfl ?_
  exact g_weak (lc' := [some _, none, some _, some _, some _, some _, some _, none]) ⟨rfl, rfl, rfl, rfl, rfl, rfl, trivial⟩ (t_X6_from_6 hX hB hP 2000 _ _ _ _ _ _ h)
set_option maxRecDepth 100000 in
set_option maxHeartbeats 4000000 in
theorem c_X6_own {l : Launch} {D : DT} {P : Int32 → Int32 → Int32 → Int32 → Mem → Option (Int32 × Mem)} {dP : Nat} {μ : Mem} {r : Int32} {μ' : Mem} (hB : 1 ≤ dP) (hP : ∀ (v1 : Int32) (v2 : Int32) (v3 : Int32) (v4 : Int32) {μ : Mem} {r : Int32} {μ' : Mem}, P v1 v2 v3 v4 μ = some (r, μ') → Ct l D true dP yX6_work cX6_work 6 (some FieldType.int) [.ref (D.1 55), .int v1, .int v2, .int v3, .int v4] μ (some (.int r)) μ') (v1 : Int32) (v2 : Int32) (v3 : Int32) (h : f_X6_own P v1 v2 v3 μ = some (r, μ')) : Ct l D true (dP + 2) yX6_own cX6_own 4 (some FieldType.int) [.ref (D.1 55), .int v1, .int v2, .int v3] μ (some (.int r)) μ' := by
  refine Ct.of (own := RX6) (lc0 := [some (.ref (D.1 55)), some (.int v1), some (.int v2), some (.int v3)]) pn_X6 rfl (Nat.le_of_ble_eq_true rfl) rfl mv_X6_own.2.2.2.1 (fun X hX => ?_)
  unfold f_X6_own at h
  refine g_aload_n hX dX6_own_0 rfl rfl ?_
  refine g_aload_n hX dX6_own_1 rfl rfl ?_
  refine g_geti hX kd_true_55 fg_6_3 tf_6_3 w_315 dX6_own_2 ?_
  refine g_iload_n hX dX6_own_5 rfl rfl ?_
  refine g_iload_n hX dX6_own_6 rfl rfl ?_
  refine g_iload_n hX dX6_own_7 rfl rfl ?_
  obtain ⟨r1, μ2, hr1, h⟩ := bd2_some h
  refine g_callVi hX (c_X6_from hB hP  _ _ _ _ hr1) mv_X6_from wm_853 kd_true_55 rfl (by decide) (by omega) rfl rfl (Nat.le_of_ble_eq_true rfl) dX6_own_8 ?_
  obtain ⟨rfl, rfl⟩ := pair_inj h
  exact g_iret hX rfl rfl dX6_own_11
