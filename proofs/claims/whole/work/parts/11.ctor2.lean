def i_X1_init_2 (μ : Mem) : Mem := (up (up (up (up (up μ 2 0 1) 2 1 19) 2 2 1) 2 3 1) 2 4 0)
set_option maxRecDepth 100000 in
set_option maxHeartbeats 4000000 in
theorem ci_X1_init_2 {l : Launch} {D : DT} {base : Nat} {μ : Mem} (hD : ∀ i, i < 100 → D.1 i = base + i) : CtC l D true base 1 2 120 yX1_init cX1_init 3 [.ref (D.1 2), .ref (D.1 110), .int 19] 3 μ 5 (i_X1_init_2 μ) := by
  refine CtC.of (own := RX1) (lc0 := [some (.ref (D.1 2)), some (.ref (D.1 110)), some (.int 19)]) pni_X1 rfl rfl hD (Nat.le_of_ble_eq_true rfl) rfl wco_X1_init (fun X hX => ?_)
  refine gc_aload_n hX dX1_init_0 rfl rfl ?_
  refine gc_obj hX ob_w wml_121 (by decide) (Nat.le_of_ble_eq_true rfl) dX1_init_1 ?_
  refine gc_aload_n hX dX1_init_4 rfl rfl ?_
  refine gc_aload_n hX dX1_init_5 rfl rfl ?_
  refine gc_putrF hX (show kd true 2 = 1 by decide +kernel) (by decide) (by decide) fgc_1_0 tfc_1_0 tyX1_ok nmX1 (show sr true 2 0 = 110 by decide +kernel) rfl rfl rfl rfl wfc_122 dX1_init_6 ?_
  refine gc_aload_n hX dX1_init_9 rfl rfl ?_
  refine gc_iload_n hX dX1_init_10 rfl rfl ?_
  refine gc_putiF hX (show kd true 2 = 1 by decide +kernel) (by decide) (by decide) fgc_1_1 tfc_1_1 tyX1_ok nmX1 rfl rfl wfc_124 dX1_init_11 ?_
  refine gc_aload_n hX dX1_init_14 rfl rfl ?_
  refine gc_bipush hX dX1_init_15 kb_60 ?_
  refine gc_newI (n := 60) hX (show kd true 3 = 10 by decide +kernel) (by decide) (by decide) (by decide) (show ln true 3 = 60 by decide +kernel) (by decide) war_int (Nat.le_of_ble_eq_true rfl) (Nat.le_of_ble_eq_true rfl) dX1_init_17 ?_
  refine gc_putrF hX (show kd true 2 = 1 by decide +kernel) (by decide) (by decide) fgc_1_2 tfc_1_2 tyX1_ok nmX1 (show sr true 2 2 = 3 by decide +kernel) rfl rfl rfl rfl wfc_125 dX1_init_19 ?_
  refine gc_aload_n hX dX1_init_22 rfl rfl ?_
  refine gc_bipush hX dX1_init_23 kb_60 ?_
  refine gc_newI (n := 60) hX (show kd true 4 = 10 by decide +kernel) (by decide) (by decide) (by decide) (show ln true 4 = 60 by decide +kernel) (by decide) war_int (Nat.le_of_ble_eq_true rfl) (Nat.le_of_ble_eq_true rfl) dX1_init_25 ?_
  refine gc_putrF hX (show kd true 2 = 1 by decide +kernel) (by decide) (by decide) fgc_1_3 tfc_1_3 tyX1_ok nmX1 (show sr true 2 3 = 4 by decide +kernel) rfl rfl rfl rfl wfc_126 dX1_init_27 ?_
  refine gc_aload_n hX dX1_init_30 rfl rfl ?_
  refine gc_iconst hX dX1_init_31 k_0 ?_
  refine gc_puti hX (show kd true 2 = 1 by decide +kernel) (by decide) (by decide) fgc_1_4 tfc_1_4 tyX1_ok nmX1 rfl wfc_127 dX1_init_32 ?_
  exact gc_vret hX rfl rfl rfl dX1_init_35
def i_X1_init_5 (μ : Mem) : Mem := (up (up (up (up (up μ 5 0 1) 5 1 99) 5 2 1) 5 3 1) 5 4 0)
set_option maxRecDepth 100000 in
set_option maxHeartbeats 4000000 in
theorem ci_X1_init_5 {l : Launch} {D : DT} {base : Nat} {μ : Mem} (hD : ∀ i, i < 100 → D.1 i = base + i) : CtC l D true base 1 2 120 yX1_init cX1_init 3 [.ref (D.1 5), .ref (D.1 111), .int 99] 6 μ 8 (i_X1_init_5 μ) := by
  refine CtC.of (own := RX1) (lc0 := [some (.ref (D.1 5)), some (.ref (D.1 111)), some (.int 99)]) pni_X1 rfl rfl hD (Nat.le_of_ble_eq_true rfl) rfl wco_X1_init (fun X hX => ?_)
  refine gc_aload_n hX dX1_init_0 rfl rfl ?_
  refine gc_obj hX ob_w wml_121 (by decide) (Nat.le_of_ble_eq_true rfl) dX1_init_1 ?_
  refine gc_aload_n hX dX1_init_4 rfl rfl ?_
  refine gc_aload_n hX dX1_init_5 rfl rfl ?_
  refine gc_putrF hX (show kd true 5 = 1 by decide +kernel) (by decide) (by decide) fgc_1_0 tfc_1_0 tyX1_ok nmX1 (show sr true 5 0 = 111 by decide +kernel) rfl rfl rfl rfl wfc_122 dX1_init_6 ?_
  refine gc_aload_n hX dX1_init_9 rfl rfl ?_
  refine gc_iload_n hX dX1_init_10 rfl rfl ?_
  refine gc_putiF hX (show kd true 5 = 1 by decide +kernel) (by decide) (by decide) fgc_1_1 tfc_1_1 tyX1_ok nmX1 rfl rfl wfc_124 dX1_init_11 ?_
  refine gc_aload_n hX dX1_init_14 rfl rfl ?_
  refine gc_bipush hX dX1_init_15 kb_60 ?_
  refine gc_newI (n := 60) hX (show kd true 6 = 10 by decide +kernel) (by decide) (by decide) (by decide) (show ln true 6 = 60 by decide +kernel) (by decide) war_int (Nat.le_of_ble_eq_true rfl) (Nat.le_of_ble_eq_true rfl) dX1_init_17 ?_
  refine gc_putrF hX (show kd true 5 = 1 by decide +kernel) (by decide) (by decide) fgc_1_2 tfc_1_2 tyX1_ok nmX1 (show sr true 5 2 = 6 by decide +kernel) rfl rfl rfl rfl wfc_125 dX1_init_19 ?_
  refine gc_aload_n hX dX1_init_22 rfl rfl ?_
  refine gc_bipush hX dX1_init_23 kb_60 ?_
  refine gc_newI (n := 60) hX (show kd true 7 = 10 by decide +kernel) (by decide) (by decide) (by decide) (show ln true 7 = 60 by decide +kernel) (by decide) war_int (Nat.le_of_ble_eq_true rfl) (Nat.le_of_ble_eq_true rfl) dX1_init_25 ?_
  refine gc_putrF hX (show kd true 5 = 1 by decide +kernel) (by decide) (by decide) fgc_1_3 tfc_1_3 tyX1_ok nmX1 (show sr true 5 3 = 7 by decide +kernel) rfl rfl rfl rfl wfc_126 dX1_init_27 ?_
  refine gc_aload_n hX dX1_init_30 rfl rfl ?_
  refine gc_iconst hX dX1_init_31 k_0 ?_
  refine gc_puti hX (show kd true 5 = 1 by decide +kernel) (by decide) (by decide) fgc_1_4 tfc_1_4 tyX1_ok nmX1 rfl wfc_127 dX1_init_32 ?_
  exact gc_vret hX rfl rfl rfl dX1_init_35
def i_X2_init_8 (μ : Mem) : Mem := (up (up (up (up (up (up (up (up (up (up (up (up (up (up (up (up (up μ 8 0 1) 8 1 1) 8 2 1) 8 3 1) 8 4 1) 8 5 1) 8 6 1) 8 7 1) 8 8 1) 8 9 1) 16 (ix 0) 20) 16 (ix 1) 20) 16 (ix 2) 20) 16 (ix 3) 20) 16 (ix 4) 20) 16 (ix 5) 20) 16 (ix 6) 20)
set_option maxRecDepth 100000 in
set_option maxHeartbeats 4000000 in
theorem ci_X2_init_8 {l : Launch} {D : DT} {base : Nat} {μ : Mem} (hD : ∀ i, i < 100 → D.1 i = base + i) : CtC l D true base 1 8 61 yX2_init cX2_init 4 [.ref (D.1 8), .ref (D.1 2), .ref (D.1 5)] 9 μ 17 (i_X2_init_8 μ) := by
  refine CtC.of (own := RX2) (lc0 := [some (.ref (D.1 8)), some (.ref (D.1 2)), some (.ref (D.1 5)), none]) pni_X2 rfl rfl hD (Nat.le_of_ble_eq_true rfl) rfl wco_X2_init (fun X hX => ?_)
  refine gc_aload_n hX dX2_init_0 rfl rfl ?_
  refine gc_obj hX ob_w wml_148 (by decide) (Nat.le_of_ble_eq_true rfl) dX2_init_1 ?_
  refine gc_aload_n hX dX2_init_4 rfl rfl ?_
  refine gc_aload_n hX dX2_init_5 rfl rfl ?_
  refine gc_putrF hX (show kd true 8 = 2 by decide +kernel) (by decide) (by decide) fgc_2_0 tfc_2_0 tyX2_ok nmX2 (show sr true 8 0 = 2 by decide +kernel) rfl rfl rfl rfl wfc_149 dX2_init_6 ?_
  refine gc_aload_n hX dX2_init_9 rfl rfl ?_
  refine gc_aload_n hX dX2_init_10 rfl rfl ?_
  refine gc_putrF hX (show kd true 8 = 2 by decide +kernel) (by decide) (by decide) fgc_2_1 tfc_2_1 tyX2_ok nmX2 (show sr true 8 1 = 5 by decide +kernel) rfl rfl rfl rfl wfc_150 dX2_init_11 ?_
  refine gc_aload_n hX dX2_init_14 rfl rfl ?_
  refine gc_bipush hX dX2_init_15 kb_6 ?_
  refine gc_newI (n := 6) hX (show kd true 9 = 10 by decide +kernel) (by decide) (by decide) (by decide) (show ln true 9 = 6 by decide +kernel) (by decide) war_int (Nat.le_of_ble_eq_true rfl) (Nat.le_of_ble_eq_true rfl) dX2_init_17 ?_
  refine gc_putrF hX (show kd true 8 = 2 by decide +kernel) (by decide) (by decide) fgc_2_2 tfc_2_2 tyX2_ok nmX2 (show sr true 8 2 = 9 by decide +kernel) rfl rfl rfl rfl wfc_151 dX2_init_19 ?_
  refine gc_aload_n hX dX2_init_22 rfl rfl ?_
  refine gc_bipush hX dX2_init_23 kb_6 ?_
  refine gc_newI (n := 6) hX (show kd true 10 = 10 by decide +kernel) (by decide) (by decide) (by decide) (show ln true 10 = 6 by decide +kernel) (by decide) war_int (Nat.le_of_ble_eq_true rfl) (Nat.le_of_ble_eq_true rfl) dX2_init_25 ?_
  refine gc_putrF hX (show kd true 8 = 2 by decide +kernel) (by decide) (by decide) fgc_2_3 tfc_2_3 tyX2_ok nmX2 (show sr true 8 3 = 10 by decide +kernel) rfl rfl rfl rfl wfc_153 dX2_init_27 ?_
  refine gc_aload_n hX dX2_init_30 rfl rfl ?_
  refine gc_bipush hX dX2_init_31 kb_9 ?_
  refine gc_newI (n := 9) hX (show kd true 11 = 10 by decide +kernel) (by decide) (by decide) (by decide) (show ln true 11 = 9 by decide +kernel) (by decide) war_int (Nat.le_of_ble_eq_true rfl) (Nat.le_of_ble_eq_true rfl) dX2_init_33 ?_
  refine gc_putrF hX (show kd true 8 = 2 by decide +kernel) (by decide) (by decide) fgc_2_4 tfc_2_4 tyX2_ok nmX2 (show sr true 8 4 = 11 by decide +kernel) rfl rfl rfl rfl wfc_155 dX2_init_35 ?_
  refine gc_aload_n hX dX2_init_38 rfl rfl ?_
  refine gc_bipush hX dX2_init_39 kb_9 ?_
  refine gc_newI (n := 9) hX (show kd true 12 = 10 by decide +kernel) (by decide) (by decide) (by decide) (show ln true 12 = 9 by decide +kernel) (by decide) war_int (Nat.le_of_ble_eq_true rfl) (Nat.le_of_ble_eq_true rfl) dX2_init_41 ?_
  refine gc_putrF hX (show kd true 8 = 2 by decide +kernel) (by decide) (by decide) fgc_2_5 tfc_2_5 tyX2_ok nmX2 (show sr true 8 5 = 12 by decide +kernel) rfl rfl rfl rfl wfc_157 dX2_init_43 ?_
  refine gc_aload_n hX dX2_init_46 rfl rfl ?_
  refine gc_bipush hX dX2_init_47 kb_9 ?_
  refine gc_newI (n := 9) hX (show kd true 13 = 10 by decide +kernel) (by decide) (by decide) (by decide) (show ln true 13 = 9 by decide +kernel) (by decide) war_int (Nat.le_of_ble_eq_true rfl) (Nat.le_of_ble_eq_true rfl) dX2_init_49 ?_
  refine gc_putrF hX (show kd true 8 = 2 by decide +kernel) (by decide) (by decide) fgc_2_6 tfc_2_6 tyX2_ok nmX2 (show sr true 8 6 = 13 by decide +kernel) rfl rfl rfl rfl wfc_159 dX2_init_51 ?_
  refine gc_aload_n hX dX2_init_54 rfl rfl ?_
  refine gc_bipush hX dX2_init_55 kb_9 ?_
  refine gc_newI (n := 9) hX (show kd true 14 = 10 by decide +kernel) (by decide) (by decide) (by decide) (show ln true 14 = 9 by decide +kernel) (by decide) war_int (Nat.le_of_ble_eq_true rfl) (Nat.le_of_ble_eq_true rfl) dX2_init_57 ?_
  refine gc_putrF hX (show kd true 8 = 2 by decide +kernel) (by decide) (by decide) fgc_2_7 tfc_2_7 tyX2_ok nmX2 (show sr true 8 7 = 14 by decide +kernel) rfl rfl rfl rfl wfc_161 dX2_init_59 ?_
  refine gc_aload_n hX dX2_init_62 rfl rfl ?_
  refine gc_bipush hX dX2_init_63 kb_6 ?_
  refine gc_newI (n := 6) hX (show kd true 15 = 10 by decide +kernel) (by decide) (by decide) (by decide) (show ln true 15 = 6 by decide +kernel) (by decide) war_int (Nat.le_of_ble_eq_true rfl) (Nat.le_of_ble_eq_true rfl) dX2_init_65 ?_
  refine gc_putrF hX (show kd true 8 = 2 by decide +kernel) (by decide) (by decide) fgc_2_8 tfc_2_8 tyX2_ok nmX2 (show sr true 8 8 = 15 by decide +kernel) rfl rfl rfl rfl wfc_165 dX2_init_67 ?_
  refine gc_aload_n hX dX2_init_70 rfl rfl ?_
  refine gc_bipush hX dX2_init_71 kb_7 ?_
  refine gc_newI (n := 7) hX (show kd true 16 = 10 by decide +kernel) (by decide) (by decide) (by decide) (show ln true 16 = 7 by decide +kernel) (by decide) war_int (Nat.le_of_ble_eq_true rfl) (Nat.le_of_ble_eq_true rfl) dX2_init_73 ?_
  refine gc_putrF hX (show kd true 8 = 2 by decide +kernel) (by decide) (by decide) fgc_2_9 tfc_2_9 tyX2_ok nmX2 (show sr true 8 9 = 16 by decide +kernel) rfl rfl rfl rfl wfc_167 dX2_init_75 ?_
  refine gc_iconst hX dX2_init_78 k_0 ?_
  refine gc_istore_n (lc' := [some _, some _, some _, some _]) hX dX2_init_79 rfl (by decide) rfl rfl ?_
  refine gc_iload_n hX dX2_init_80 rfl rfl ?_
  refine gc_bipush hX dX2_init_81 kb_7 ?_
  refine gc_icmp_ge (tgt := 100) hX dX2_init_83 (by decide) (fun q => absurd q (by decide)) (fun _ => ?_)
  refine gc_aload_n hX dX2_init_86 rfl rfl ?_
  refine gc_getr hX (show kd true 8 = 2 by decide +kernel) (by decide) fgc_2_9 tfc_2_9 ?_ wfc_167 (show sr true 8 9 = 16 by decide +kernel) dX2_init_87 ?_
  · simp [up]
  refine gc_iload_n hX dX2_init_90 rfl rfl ?_
  refine gc_bipush hX dX2_init_91 kb_20 ?_
  refine gc_iast hX (show kd true 16 = 10 by decide +kernel) (by decide) (by decide) (show ln true 16 = 7 by decide +kernel) (by decide) dX2_init_93 ?_
  refine gc_iinc (y := 1) (lc' := [some _, some _, some _, some _]) hX dX2_init_94 (by decide) rfl (by decide) rfl rfl ?_
  refine gc_goto (tgt := 80) hX dX2_init_97 (by decide) ?_
  refine gc_iload_n hX dX2_init_80 rfl rfl ?_
  refine gc_bipush hX dX2_init_81 kb_7 ?_
  refine gc_icmp_ge (tgt := 100) hX dX2_init_83 (by decide) (fun q => absurd q (by decide)) (fun _ => ?_)
  refine gc_aload_n hX dX2_init_86 rfl rfl ?_
  refine gc_getr hX (show kd true 8 = 2 by decide +kernel) (by decide) fgc_2_9 tfc_2_9 ?_ wfc_167 (show sr true 8 9 = 16 by decide +kernel) dX2_init_87 ?_
  · simp [up]
  refine gc_iload_n hX dX2_init_90 rfl rfl ?_
  refine gc_bipush hX dX2_init_91 kb_20 ?_
  refine gc_iast hX (show kd true 16 = 10 by decide +kernel) (by decide) (by decide) (show ln true 16 = 7 by decide +kernel) (by decide) dX2_init_93 ?_
  refine gc_iinc (y := 2) (lc' := [some _, some _, some _, some _]) hX dX2_init_94 (by decide) rfl (by decide) rfl rfl ?_
  refine gc_goto (tgt := 80) hX dX2_init_97 (by decide) ?_
  refine gc_iload_n hX dX2_init_80 rfl rfl ?_
  refine gc_bipush hX dX2_init_81 kb_7 ?_
  refine gc_icmp_ge (tgt := 100) hX dX2_init_83 (by decide) (fun q => absurd q (by decide)) (fun _ => ?_)
  refine gc_aload_n hX dX2_init_86 rfl rfl ?_
  refine gc_getr hX (show kd true 8 = 2 by decide +kernel) (by decide) fgc_2_9 tfc_2_9 ?_ wfc_167 (show sr true 8 9 = 16 by decide +kernel) dX2_init_87 ?_
  · simp [up]
  refine gc_iload_n hX dX2_init_90 rfl rfl ?_
  refine gc_bipush hX dX2_init_91 kb_20 ?_
  refine gc_iast hX (show kd true 16 = 10 by decide +kernel) (by decide) (by decide) (show ln true 16 = 7 by decide +kernel) (by decide) dX2_init_93 ?_
  refine gc_iinc (y := 3) (lc' := [some _, some _, some _, some _]) hX dX2_init_94 (by decide) rfl (by decide) rfl rfl ?_
  refine gc_goto (tgt := 80) hX dX2_init_97 (by decide) ?_
  refine gc_iload_n hX dX2_init_80 rfl rfl ?_
  refine gc_bipush hX dX2_init_81 kb_7 ?_
  refine gc_icmp_ge (tgt := 100) hX dX2_init_83 (by decide) (fun q => absurd q (by decide)) (fun _ => ?_)
  refine gc_aload_n hX dX2_init_86 rfl rfl ?_
  refine gc_getr hX (show kd true 8 = 2 by decide +kernel) (by decide) fgc_2_9 tfc_2_9 ?_ wfc_167 (show sr true 8 9 = 16 by decide +kernel) dX2_init_87 ?_
  · simp [up]
  refine gc_iload_n hX dX2_init_90 rfl rfl ?_
  refine gc_bipush hX dX2_init_91 kb_20 ?_
  refine gc_iast hX (show kd true 16 = 10 by decide +kernel) (by decide) (by decide) (show ln true 16 = 7 by decide +kernel) (by decide) dX2_init_93 ?_
  refine gc_iinc (y := 4) (lc' := [some _, some _, some _, some _]) hX dX2_init_94 (by decide) rfl (by decide) rfl rfl ?_
  refine gc_goto (tgt := 80) hX dX2_init_97 (by decide) ?_
  refine gc_iload_n hX dX2_init_80 rfl rfl ?_
  refine gc_bipush hX dX2_init_81 kb_7 ?_
  refine gc_icmp_ge (tgt := 100) hX dX2_init_83 (by decide) (fun q => absurd q (by decide)) (fun _ => ?_)
  refine gc_aload_n hX dX2_init_86 rfl rfl ?_
  refine gc_getr hX (show kd true 8 = 2 by decide +kernel) (by decide) fgc_2_9 tfc_2_9 ?_ wfc_167 (show sr true 8 9 = 16 by decide +kernel) dX2_init_87 ?_
  · simp [up]
  refine gc_iload_n hX dX2_init_90 rfl rfl ?_
  refine gc_bipush hX dX2_init_91 kb_20 ?_
  refine gc_iast hX (show kd true 16 = 10 by decide +kernel) (by decide) (by decide) (show ln true 16 = 7 by decide +kernel) (by decide) dX2_init_93 ?_
  refine gc_iinc (y := 5) (lc' := [some _, some _, some _, some _]) hX dX2_init_94 (by decide) rfl (by decide) rfl rfl ?_
  refine gc_goto (tgt := 80) hX dX2_init_97 (by decide) ?_
  refine gc_iload_n hX dX2_init_80 rfl rfl ?_
  refine gc_bipush hX dX2_init_81 kb_7 ?_
  refine gc_icmp_ge (tgt := 100) hX dX2_init_83 (by decide) (fun q => absurd q (by decide)) (fun _ => ?_)
  refine gc_aload_n hX dX2_init_86 rfl rfl ?_
  refine gc_getr hX (show kd true 8 = 2 by decide +kernel) (by decide) fgc_2_9 tfc_2_9 ?_ wfc_167 (show sr true 8 9 = 16 by decide +kernel) dX2_init_87 ?_
  · simp [up]
  refine gc_iload_n hX dX2_init_90 rfl rfl ?_
  refine gc_bipush hX dX2_init_91 kb_20 ?_
  refine gc_iast hX (show kd true 16 = 10 by decide +kernel) (by decide) (by decide) (show ln true 16 = 7 by decide +kernel) (by decide) dX2_init_93 ?_
  refine gc_iinc (y := 6) (lc' := [some _, some _, some _, some _]) hX dX2_init_94 (by decide) rfl (by decide) rfl rfl ?_
  refine gc_goto (tgt := 80) hX dX2_init_97 (by decide) ?_
  refine gc_iload_n hX dX2_init_80 rfl rfl ?_
  refine gc_bipush hX dX2_init_81 kb_7 ?_
  refine gc_icmp_ge (tgt := 100) hX dX2_init_83 (by decide) (fun q => absurd q (by decide)) (fun _ => ?_)
  refine gc_aload_n hX dX2_init_86 rfl rfl ?_
  refine gc_getr hX (show kd true 8 = 2 by decide +kernel) (by decide) fgc_2_9 tfc_2_9 ?_ wfc_167 (show sr true 8 9 = 16 by decide +kernel) dX2_init_87 ?_
  · simp [up]
  refine gc_iload_n hX dX2_init_90 rfl rfl ?_
  refine gc_bipush hX dX2_init_91 kb_20 ?_
  refine gc_iast hX (show kd true 16 = 10 by decide +kernel) (by decide) (by decide) (show ln true 16 = 7 by decide +kernel) (by decide) dX2_init_93 ?_
  refine gc_iinc (y := 7) (lc' := [some _, some _, some _, some _]) hX dX2_init_94 (by decide) rfl (by decide) rfl rfl ?_
  refine gc_goto (tgt := 80) hX dX2_init_97 (by decide) ?_
  refine gc_iload_n hX dX2_init_80 rfl rfl ?_
  refine gc_bipush hX dX2_init_81 kb_7 ?_
  refine gc_icmp_ge (tgt := 100) hX dX2_init_83 (by decide) (fun _ => ?_) (fun q => absurd (by decide) q)
  exact gc_vret hX rfl rfl rfl dX2_init_100
def i_X7_init_17 (μ : Mem) : Mem := (up (up μ 17 0 1) 17 1 0)
set_option maxRecDepth 100000 in
set_option maxHeartbeats 4000000 in
theorem ci_X7_init_17 {l : Launch} {D : DT} {base : Nat} {μ : Mem} (hD : ∀ i, i < 100 → D.1 i = base + i) : CtC l D true base 1 1 60 yX7_init cX7_init 1 [.ref (D.1 17)] 18 μ 19 (i_X7_init_17 μ) := by
  refine CtC.of (own := RX7) (lc0 := [some (.ref (D.1 17))]) pni_X7 rfl rfl hD (Nat.le_of_ble_eq_true rfl) rfl wco_X7_init (fun X hX => ?_)
  refine gc_aload_n hX dX7_init_0 rfl rfl ?_
  refine gc_obj hX ob_w wml_220 (by decide) (Nat.le_of_ble_eq_true rfl) dX7_init_1 ?_
  refine gc_aload_n hX dX7_init_4 rfl rfl ?_
  refine gc_bipush hX dX7_init_5 kb_60 ?_
  refine gc_newB (n := 60) hX (show kd true 18 = 11 by decide +kernel) (by decide) (by decide) (by decide) (show ln true 18 = 60 by decide +kernel) (by decide) war_byte (Nat.le_of_ble_eq_true rfl) (Nat.le_of_ble_eq_true rfl) dX7_init_7 ?_
  refine gc_putrF hX (show kd true 17 = 7 by decide +kernel) (by decide) (by decide) fgc_7_0 tfc_7_0 tyX7_ok nmX7 (show sr true 17 0 = 18 by decide +kernel) rfl rfl rfl rfl wfc_221 dX7_init_9 ?_
  refine gc_aload_n hX dX7_init_12 rfl rfl ?_
  refine gc_iconst hX dX7_init_13 k_0 ?_
  refine gc_puti hX (show kd true 17 = 7 by decide +kernel) (by decide) (by decide) fgc_7_1 tfc_7_1 tyX7_ok nmX7 rfl wfc_223 dX7_init_14 ?_
  exact gc_vret hX rfl rfl rfl dX7_init_17
def i_X0_init_1 (μ : Mem) : Mem := (up (up (up (up (i_X7_init_17 (up (i_X2_init_8 (up (i_X1_init_5 (up (i_X1_init_2 μ) 1 0 1)) 1 1 1)) 1 2 1)) 1 3 1) 1 4 1) 1 5 0) 1 6 1)
set_option maxRecDepth 100000 in
set_option maxHeartbeats 4000000 in
theorem ci_X0_init_1 {l : Launch} {D : DT} {base : Nat} {μ : Mem} (hD : ∀ i, i < 100 → D.1 i = base + i) : CtC l D true base 2 18 412 yX0_init cX0_init 1 [.ref (D.1 1)] 2 μ 20 (i_X0_init_1 μ) := by
  refine CtC.of (own := RX0) (lc0 := [some (.ref (D.1 1))]) pni_X0 rfl rfl hD (Nat.le_of_ble_eq_true rfl) rfl wco_X0_init (fun X hX => ?_)
  refine gc_aload_n hX dX0_init_0 rfl rfl ?_
  refine gc_obj hX ob_w wml_114 (by decide) (Nat.le_of_ble_eq_true rfl) dX0_init_1 ?_
  refine gc_aload_n hX dX0_init_4 rfl rfl ?_
  refine gc_new (ty0 := tyX1) hX (show kd true 2 = 1 by decide +kernel) (by decide) (by decide) rfl ws_X1 tyX1_ok df_1 wcl_115 win_1 wini_1 (Nat.le_of_ble_eq_true rfl) (Nat.le_of_ble_eq_true rfl) dX0_init_5 ?_
  refine gc_dup hX dX0_init_8 rfl ?_
  refine gc_ldcS (i := 110) (tx := "whg") hX (fun s h => h.2.2.2.2.2.2.1) rfl dX0_init_9 ?_
  refine gc_bipush hX dX0_init_11 kb_19 ?_
  refine gc_call hX (ci_X1_init_2 hD) mi_X1_init wml_118 (by decide) rfl rfl (Nat.le_of_ble_eq_true rfl) (Nat.le_of_ble_eq_true rfl) (Nat.le_of_ble_eq_true rfl) dX0_init_13 ?_
  refine gc_putrF hX (show kd true 1 = 0 by decide +kernel) (by decide) (by decide) fgc_0_0 tfc_0_0 tyX0_ok nmX0 (show sr true 1 0 = 2 by decide +kernel) rfl rfl rfl rfl wfc_231 dX0_init_16 ?_
  refine gc_aload_n hX dX0_init_19 rfl rfl ?_
  refine gc_new (ty0 := tyX1) hX (show kd true 5 = 1 by decide +kernel) (by decide) (by decide) rfl ws_X1 tyX1_ok df_1 wcl_115 win_1 wini_1 (Nat.le_of_ble_eq_true rfl) (Nat.le_of_ble_eq_true rfl) dX0_init_20 ?_
  refine gc_dup hX dX0_init_23 rfl ?_
  refine gc_ldcS (i := 111) (tx := "gfd") hX (fun s h => h.2.2.2.2.2.2.2.1) rfl dX0_init_24 ?_
  refine gc_bipush hX dX0_init_26 kb_99 ?_
  refine gc_call hX (ci_X1_init_5 hD) mi_X1_init wml_118 (by decide) rfl rfl (Nat.le_of_ble_eq_true rfl) (Nat.le_of_ble_eq_true rfl) (Nat.le_of_ble_eq_true rfl) dX0_init_28 ?_
  refine gc_putrF hX (show kd true 1 = 0 by decide +kernel) (by decide) (by decide) fgc_0_1 tfc_0_1 tyX0_ok nmX0 (show sr true 1 1 = 5 by decide +kernel) rfl rfl rfl rfl wfc_233 dX0_init_31 ?_
  refine gc_aload_n hX dX0_init_34 rfl rfl ?_
  refine gc_new (ty0 := tyX2) hX (show kd true 8 = 2 by decide +kernel) (by decide) (by decide) rfl ws_X2 tyX2_ok df_2 wcl_143 win_2 wini_2 (Nat.le_of_ble_eq_true rfl) (Nat.le_of_ble_eq_true rfl) dX0_init_35 ?_
  refine gc_dup hX dX0_init_38 rfl ?_
  refine gc_aload_n hX dX0_init_39 rfl rfl ?_
  refine gc_getr hX (show kd true 1 = 0 by decide +kernel) (by decide) fgc_0_0 tfc_0_0 ?_ wfc_231 (show sr true 1 0 = 2 by decide +kernel) dX0_init_40 ?_
  · simp [up, i_X1_init_5, i_X1_init_2]
  refine gc_aload_n hX dX0_init_43 rfl rfl ?_
  refine gc_getr hX (show kd true 1 = 0 by decide +kernel) (by decide) fgc_0_1 tfc_0_1 ?_ wfc_233 (show sr true 1 1 = 5 by decide +kernel) dX0_init_44 ?_
  · simp [up, i_X1_init_5, i_X1_init_2]
  refine gc_call hX (ci_X2_init_8 hD) mi_X2_init wml_145 (by decide) rfl rfl (Nat.le_of_ble_eq_true rfl) (Nat.le_of_ble_eq_true rfl) (Nat.le_of_ble_eq_true rfl) dX0_init_47 ?_
  refine gc_putrF hX (show kd true 1 = 0 by decide +kernel) (by decide) (by decide) fgc_0_2 tfc_0_2 tyX0_ok nmX0 (show sr true 1 2 = 8 by decide +kernel) rfl rfl rfl rfl wfc_235 dX0_init_50 ?_
  refine gc_aload_n hX dX0_init_53 rfl rfl ?_
  refine gc_new (ty0 := tyX7) hX (show kd true 17 = 7 by decide +kernel) (by decide) (by decide) rfl ws_X7 tyX7_ok df_7 wcl_215 win_7 wini_7 (Nat.le_of_ble_eq_true rfl) (Nat.le_of_ble_eq_true rfl) dX0_init_54 ?_
  refine gc_dup hX dX0_init_57 rfl ?_
  refine gc_call hX (ci_X7_init_17 hD) mi_X7_init wml_217 (by decide) rfl rfl (Nat.le_of_ble_eq_true rfl) (Nat.le_of_ble_eq_true rfl) (Nat.le_of_ble_eq_true rfl) dX0_init_58 ?_
  refine gc_putrF hX (show kd true 1 = 0 by decide +kernel) (by decide) (by decide) fgc_0_3 tfc_0_3 tyX0_ok nmX0 (show sr true 1 3 = 17 by decide +kernel) rfl rfl rfl rfl wfc_237 dX0_init_61 ?_
  refine gc_aload_n hX dX0_init_64 rfl rfl ?_
  refine gc_bipush hX dX0_init_65 kb_24 ?_
  refine gc_newI (n := 24) hX (show kd true 19 = 10 by decide +kernel) (by decide) (by decide) (by decide) (show ln true 19 = 24 by decide +kernel) (by decide) war_int (Nat.le_of_ble_eq_true rfl) (Nat.le_of_ble_eq_true rfl) dX0_init_67 ?_
  refine gc_putrF hX (show kd true 1 = 0 by decide +kernel) (by decide) (by decide) fgc_0_4 tfc_0_4 tyX0_ok nmX0 (show sr true 1 4 = 19 by decide +kernel) rfl rfl rfl rfl wfc_239 dX0_init_69 ?_
  refine gc_aload_n hX dX0_init_72 rfl rfl ?_
  refine gc_iconst hX dX0_init_73 k_0 ?_
  refine gc_puti hX (show kd true 1 = 0 by decide +kernel) (by decide) (by decide) fgc_0_5 tfc_0_5 tyX0_ok nmX0 rfl wfc_241 dX0_init_74 ?_
  refine gc_aload_n hX dX0_init_77 rfl rfl ?_
  refine gc_iconst hX dX0_init_78 k_1 ?_
  refine gc_puti hX (show kd true 1 = 0 by decide +kernel) (by decide) (by decide) fgc_0_6 tfc_0_6 tyX0_ok nmX0 rfl wfc_243 dX0_init_79 ?_
  exact gc_vret hX rfl rfl rfl dX0_init_82
def i_X1_init_21 (μ : Mem) : Mem := (up (up (up (up (up μ 21 0 1) 21 1 19) 21 2 1) 21 3 1) 21 4 0)
set_option maxRecDepth 100000 in
set_option maxHeartbeats 4000000 in
theorem ci_X1_init_21 {l : Launch} {D : DT} {base : Nat} {μ : Mem} (hD : ∀ i, i < 100 → D.1 i = base + i) : CtC l D true base 1 2 120 yX1_init cX1_init 3 [.ref (D.1 21), .ref (D.1 110), .int 19] 22 μ 24 (i_X1_init_21 μ) := by
  refine CtC.of (own := RX1) (lc0 := [some (.ref (D.1 21)), some (.ref (D.1 110)), some (.int 19)]) pni_X1 rfl rfl hD (Nat.le_of_ble_eq_true rfl) rfl wco_X1_init (fun X hX => ?_)
  refine gc_aload_n hX dX1_init_0 rfl rfl ?_
  refine gc_obj hX ob_w wml_121 (by decide) (Nat.le_of_ble_eq_true rfl) dX1_init_1 ?_
  refine gc_aload_n hX dX1_init_4 rfl rfl ?_
  refine gc_aload_n hX dX1_init_5 rfl rfl ?_
  refine gc_putrF hX (show kd true 21 = 1 by decide +kernel) (by decide) (by decide) fgc_1_0 tfc_1_0 tyX1_ok nmX1 (show sr true 21 0 = 110 by decide +kernel) rfl rfl rfl rfl wfc_122 dX1_init_6 ?_
  refine gc_aload_n hX dX1_init_9 rfl rfl ?_
  refine gc_iload_n hX dX1_init_10 rfl rfl ?_
  refine gc_putiF hX (show kd true 21 = 1 by decide +kernel) (by decide) (by decide) fgc_1_1 tfc_1_1 tyX1_ok nmX1 rfl rfl wfc_124 dX1_init_11 ?_
  refine gc_aload_n hX dX1_init_14 rfl rfl ?_
  refine gc_bipush hX dX1_init_15 kb_60 ?_
  refine gc_newI (n := 60) hX (show kd true 22 = 10 by decide +kernel) (by decide) (by decide) (by decide) (show ln true 22 = 60 by decide +kernel) (by decide) war_int (Nat.le_of_ble_eq_true rfl) (Nat.le_of_ble_eq_true rfl) dX1_init_17 ?_
  refine gc_putrF hX (show kd true 21 = 1 by decide +kernel) (by decide) (by decide) fgc_1_2 tfc_1_2 tyX1_ok nmX1 (show sr true 21 2 = 22 by decide +kernel) rfl rfl rfl rfl wfc_125 dX1_init_19 ?_
  refine gc_aload_n hX dX1_init_22 rfl rfl ?_
  refine gc_bipush hX dX1_init_23 kb_60 ?_
  refine gc_newI (n := 60) hX (show kd true 23 = 10 by decide +kernel) (by decide) (by decide) (by decide) (show ln true 23 = 60 by decide +kernel) (by decide) war_int (Nat.le_of_ble_eq_true rfl) (Nat.le_of_ble_eq_true rfl) dX1_init_25 ?_
  refine gc_putrF hX (show kd true 21 = 1 by decide +kernel) (by decide) (by decide) fgc_1_3 tfc_1_3 tyX1_ok nmX1 (show sr true 21 3 = 23 by decide +kernel) rfl rfl rfl rfl wfc_126 dX1_init_27 ?_
  refine gc_aload_n hX dX1_init_30 rfl rfl ?_
  refine gc_iconst hX dX1_init_31 k_0 ?_
  refine gc_puti hX (show kd true 21 = 1 by decide +kernel) (by decide) (by decide) fgc_1_4 tfc_1_4 tyX1_ok nmX1 rfl wfc_127 dX1_init_32 ?_
  exact gc_vret hX rfl rfl rfl dX1_init_35
def i_X1_init_24 (μ : Mem) : Mem := (up (up (up (up (up μ 24 0 1) 24 1 99) 24 2 1) 24 3 1) 24 4 0)
set_option maxRecDepth 100000 in
set_option maxHeartbeats 4000000 in
theorem ci_X1_init_24 {l : Launch} {D : DT} {base : Nat} {μ : Mem} (hD : ∀ i, i < 100 → D.1 i = base + i) : CtC l D true base 1 2 120 yX1_init cX1_init 3 [.ref (D.1 24), .ref (D.1 111), .int 99] 25 μ 27 (i_X1_init_24 μ) := by
  refine CtC.of (own := RX1) (lc0 := [some (.ref (D.1 24)), some (.ref (D.1 111)), some (.int 99)]) pni_X1 rfl rfl hD (Nat.le_of_ble_eq_true rfl) rfl wco_X1_init (fun X hX => ?_)
  refine gc_aload_n hX dX1_init_0 rfl rfl ?_
  refine gc_obj hX ob_w wml_121 (by decide) (Nat.le_of_ble_eq_true rfl) dX1_init_1 ?_
  refine gc_aload_n hX dX1_init_4 rfl rfl ?_
  refine gc_aload_n hX dX1_init_5 rfl rfl ?_
  refine gc_putrF hX (show kd true 24 = 1 by decide +kernel) (by decide) (by decide) fgc_1_0 tfc_1_0 tyX1_ok nmX1 (show sr true 24 0 = 111 by decide +kernel) rfl rfl rfl rfl wfc_122 dX1_init_6 ?_
  refine gc_aload_n hX dX1_init_9 rfl rfl ?_
  refine gc_iload_n hX dX1_init_10 rfl rfl ?_
  refine gc_putiF hX (show kd true 24 = 1 by decide +kernel) (by decide) (by decide) fgc_1_1 tfc_1_1 tyX1_ok nmX1 rfl rfl wfc_124 dX1_init_11 ?_
  refine gc_aload_n hX dX1_init_14 rfl rfl ?_
  refine gc_bipush hX dX1_init_15 kb_60 ?_
  refine gc_newI (n := 60) hX (show kd true 25 = 10 by decide +kernel) (by decide) (by decide) (by decide) (show ln true 25 = 60 by decide +kernel) (by decide) war_int (Nat.le_of_ble_eq_true rfl) (Nat.le_of_ble_eq_true rfl) dX1_init_17 ?_
  refine gc_putrF hX (show kd true 24 = 1 by decide +kernel) (by decide) (by decide) fgc_1_2 tfc_1_2 tyX1_ok nmX1 (show sr true 24 2 = 25 by decide +kernel) rfl rfl rfl rfl wfc_125 dX1_init_19 ?_
  refine gc_aload_n hX dX1_init_22 rfl rfl ?_
  refine gc_bipush hX dX1_init_23 kb_60 ?_
  refine gc_newI (n := 60) hX (show kd true 26 = 10 by decide +kernel) (by decide) (by decide) (by decide) (show ln true 26 = 60 by decide +kernel) (by decide) war_int (Nat.le_of_ble_eq_true rfl) (Nat.le_of_ble_eq_true rfl) dX1_init_25 ?_
  refine gc_putrF hX (show kd true 24 = 1 by decide +kernel) (by decide) (by decide) fgc_1_3 tfc_1_3 tyX1_ok nmX1 (show sr true 24 3 = 26 by decide +kernel) rfl rfl rfl rfl wfc_126 dX1_init_27 ?_
  refine gc_aload_n hX dX1_init_30 rfl rfl ?_
  refine gc_iconst hX dX1_init_31 k_0 ?_
  refine gc_puti hX (show kd true 24 = 1 by decide +kernel) (by decide) (by decide) fgc_1_4 tfc_1_4 tyX1_ok nmX1 rfl wfc_127 dX1_init_32 ?_
  exact gc_vret hX rfl rfl rfl dX1_init_35
def i_X2_init_27 (μ : Mem) : Mem := (up (up (up (up (up (up (up (up (up (up (up (up (up (up (up (up (up μ 27 0 1) 27 1 1) 27 2 1) 27 3 1) 27 4 1) 27 5 1) 27 6 1) 27 7 1) 27 8 1) 27 9 1) 35 (ix 0) 20) 35 (ix 1) 20) 35 (ix 2) 20) 35 (ix 3) 20) 35 (ix 4) 20) 35 (ix 5) 20) 35 (ix 6) 20)
set_option maxRecDepth 100000 in
set_option maxHeartbeats 4000000 in
theorem ci_X2_init_27 {l : Launch} {D : DT} {base : Nat} {μ : Mem} (hD : ∀ i, i < 100 → D.1 i = base + i) : CtC l D true base 1 8 61 yX2_init cX2_init 4 [.ref (D.1 27), .ref (D.1 21), .ref (D.1 24)] 28 μ 36 (i_X2_init_27 μ) := by
  refine CtC.of (own := RX2) (lc0 := [some (.ref (D.1 27)), some (.ref (D.1 21)), some (.ref (D.1 24)), none]) pni_X2 rfl rfl hD (Nat.le_of_ble_eq_true rfl) rfl wco_X2_init (fun X hX => ?_)
  refine gc_aload_n hX dX2_init_0 rfl rfl ?_
  refine gc_obj hX ob_w wml_148 (by decide) (Nat.le_of_ble_eq_true rfl) dX2_init_1 ?_
  refine gc_aload_n hX dX2_init_4 rfl rfl ?_
  refine gc_aload_n hX dX2_init_5 rfl rfl ?_
  refine gc_putrF hX (show kd true 27 = 2 by decide +kernel) (by decide) (by decide) fgc_2_0 tfc_2_0 tyX2_ok nmX2 (show sr true 27 0 = 21 by decide +kernel) rfl rfl rfl rfl wfc_149 dX2_init_6 ?_
  refine gc_aload_n hX dX2_init_9 rfl rfl ?_
  refine gc_aload_n hX dX2_init_10 rfl rfl ?_
  refine gc_putrF hX (show kd true 27 = 2 by decide +kernel) (by decide) (by decide) fgc_2_1 tfc_2_1 tyX2_ok nmX2 (show sr true 27 1 = 24 by decide +kernel) rfl rfl rfl rfl wfc_150 dX2_init_11 ?_
  refine gc_aload_n hX dX2_init_14 rfl rfl ?_
  refine gc_bipush hX dX2_init_15 kb_6 ?_
  refine gc_newI (n := 6) hX (show kd true 28 = 10 by decide +kernel) (by decide) (by decide) (by decide) (show ln true 28 = 6 by decide +kernel) (by decide) war_int (Nat.le_of_ble_eq_true rfl) (Nat.le_of_ble_eq_true rfl) dX2_init_17 ?_
  refine gc_putrF hX (show kd true 27 = 2 by decide +kernel) (by decide) (by decide) fgc_2_2 tfc_2_2 tyX2_ok nmX2 (show sr true 27 2 = 28 by decide +kernel) rfl rfl rfl rfl wfc_151 dX2_init_19 ?_
  refine gc_aload_n hX dX2_init_22 rfl rfl ?_
  refine gc_bipush hX dX2_init_23 kb_6 ?_
  refine gc_newI (n := 6) hX (show kd true 29 = 10 by decide +kernel) (by decide) (by decide) (by decide) (show ln true 29 = 6 by decide +kernel) (by decide) war_int (Nat.le_of_ble_eq_true rfl) (Nat.le_of_ble_eq_true rfl) dX2_init_25 ?_
  refine gc_putrF hX (show kd true 27 = 2 by decide +kernel) (by decide) (by decide) fgc_2_3 tfc_2_3 tyX2_ok nmX2 (show sr true 27 3 = 29 by decide +kernel) rfl rfl rfl rfl wfc_153 dX2_init_27 ?_
  refine gc_aload_n hX dX2_init_30 rfl rfl ?_
  refine gc_bipush hX dX2_init_31 kb_9 ?_
  refine gc_newI (n := 9) hX (show kd true 30 = 10 by decide +kernel) (by decide) (by decide) (by decide) (show ln true 30 = 9 by decide +kernel) (by decide) war_int (Nat.le_of_ble_eq_true rfl) (Nat.le_of_ble_eq_true rfl) dX2_init_33 ?_
  refine gc_putrF hX (show kd true 27 = 2 by decide +kernel) (by decide) (by decide) fgc_2_4 tfc_2_4 tyX2_ok nmX2 (show sr true 27 4 = 30 by decide +kernel) rfl rfl rfl rfl wfc_155 dX2_init_35 ?_
  refine gc_aload_n hX dX2_init_38 rfl rfl ?_
  refine gc_bipush hX dX2_init_39 kb_9 ?_
  refine gc_newI (n := 9) hX (show kd true 31 = 10 by decide +kernel) (by decide) (by decide) (by decide) (show ln true 31 = 9 by decide +kernel) (by decide) war_int (Nat.le_of_ble_eq_true rfl) (Nat.le_of_ble_eq_true rfl) dX2_init_41 ?_
  refine gc_putrF hX (show kd true 27 = 2 by decide +kernel) (by decide) (by decide) fgc_2_5 tfc_2_5 tyX2_ok nmX2 (show sr true 27 5 = 31 by decide +kernel) rfl rfl rfl rfl wfc_157 dX2_init_43 ?_
  refine gc_aload_n hX dX2_init_46 rfl rfl ?_
  refine gc_bipush hX dX2_init_47 kb_9 ?_
  refine gc_newI (n := 9) hX (show kd true 32 = 10 by decide +kernel) (by decide) (by decide) (by decide) (show ln true 32 = 9 by decide +kernel) (by decide) war_int (Nat.le_of_ble_eq_true rfl) (Nat.le_of_ble_eq_true rfl) dX2_init_49 ?_
  refine gc_putrF hX (show kd true 27 = 2 by decide +kernel) (by decide) (by decide) fgc_2_6 tfc_2_6 tyX2_ok nmX2 (show sr true 27 6 = 32 by decide +kernel) rfl rfl rfl rfl wfc_159 dX2_init_51 ?_
  refine gc_aload_n hX dX2_init_54 rfl rfl ?_
  refine gc_bipush hX dX2_init_55 kb_9 ?_
  refine gc_newI (n := 9) hX (show kd true 33 = 10 by decide +kernel) (by decide) (by decide) (by decide) (show ln true 33 = 9 by decide +kernel) (by decide) war_int (Nat.le_of_ble_eq_true rfl) (Nat.le_of_ble_eq_true rfl) dX2_init_57 ?_
  refine gc_putrF hX (show kd true 27 = 2 by decide +kernel) (by decide) (by decide) fgc_2_7 tfc_2_7 tyX2_ok nmX2 (show sr true 27 7 = 33 by decide +kernel) rfl rfl rfl rfl wfc_161 dX2_init_59 ?_
  refine gc_aload_n hX dX2_init_62 rfl rfl ?_
  refine gc_bipush hX dX2_init_63 kb_6 ?_
  refine gc_newI (n := 6) hX (show kd true 34 = 10 by decide +kernel) (by decide) (by decide) (by decide) (show ln true 34 = 6 by decide +kernel) (by decide) war_int (Nat.le_of_ble_eq_true rfl) (Nat.le_of_ble_eq_true rfl) dX2_init_65 ?_
  refine gc_putrF hX (show kd true 27 = 2 by decide +kernel) (by decide) (by decide) fgc_2_8 tfc_2_8 tyX2_ok nmX2 (show sr true 27 8 = 34 by decide +kernel) rfl rfl rfl rfl wfc_165 dX2_init_67 ?_
  refine gc_aload_n hX dX2_init_70 rfl rfl ?_
  refine gc_bipush hX dX2_init_71 kb_7 ?_
  refine gc_newI (n := 7) hX (show kd true 35 = 10 by decide +kernel) (by decide) (by decide) (by decide) (show ln true 35 = 7 by decide +kernel) (by decide) war_int (Nat.le_of_ble_eq_true rfl) (Nat.le_of_ble_eq_true rfl) dX2_init_73 ?_
  refine gc_putrF hX (show kd true 27 = 2 by decide +kernel) (by decide) (by decide) fgc_2_9 tfc_2_9 tyX2_ok nmX2 (show sr true 27 9 = 35 by decide +kernel) rfl rfl rfl rfl wfc_167 dX2_init_75 ?_
  refine gc_iconst hX dX2_init_78 k_0 ?_
  refine gc_istore_n (lc' := [some _, some _, some _, some _]) hX dX2_init_79 rfl (by decide) rfl rfl ?_
  refine gc_iload_n hX dX2_init_80 rfl rfl ?_
  refine gc_bipush hX dX2_init_81 kb_7 ?_
  refine gc_icmp_ge (tgt := 100) hX dX2_init_83 (by decide) (fun q => absurd q (by decide)) (fun _ => ?_)
  refine gc_aload_n hX dX2_init_86 rfl rfl ?_
  refine gc_getr hX (show kd true 27 = 2 by decide +kernel) (by decide) fgc_2_9 tfc_2_9 ?_ wfc_167 (show sr true 27 9 = 35 by decide +kernel) dX2_init_87 ?_
  · simp [up]
  refine gc_iload_n hX dX2_init_90 rfl rfl ?_
  refine gc_bipush hX dX2_init_91 kb_20 ?_
  refine gc_iast hX (show kd true 35 = 10 by decide +kernel) (by decide) (by decide) (show ln true 35 = 7 by decide +kernel) (by decide) dX2_init_93 ?_
  refine gc_iinc (y := 1) (lc' := [some _, some _, some _, some _]) hX dX2_init_94 (by decide) rfl (by decide) rfl rfl ?_
  refine gc_goto (tgt := 80) hX dX2_init_97 (by decide) ?_
  refine gc_iload_n hX dX2_init_80 rfl rfl ?_
  refine gc_bipush hX dX2_init_81 kb_7 ?_
  refine gc_icmp_ge (tgt := 100) hX dX2_init_83 (by decide) (fun q => absurd q (by decide)) (fun _ => ?_)
  refine gc_aload_n hX dX2_init_86 rfl rfl ?_
  refine gc_getr hX (show kd true 27 = 2 by decide +kernel) (by decide) fgc_2_9 tfc_2_9 ?_ wfc_167 (show sr true 27 9 = 35 by decide +kernel) dX2_init_87 ?_
  · simp [up]
  refine gc_iload_n hX dX2_init_90 rfl rfl ?_
  refine gc_bipush hX dX2_init_91 kb_20 ?_
  refine gc_iast hX (show kd true 35 = 10 by decide +kernel) (by decide) (by decide) (show ln true 35 = 7 by decide +kernel) (by decide) dX2_init_93 ?_
  refine gc_iinc (y := 2) (lc' := [some _, some _, some _, some _]) hX dX2_init_94 (by decide) rfl (by decide) rfl rfl ?_
  refine gc_goto (tgt := 80) hX dX2_init_97 (by decide) ?_
  refine gc_iload_n hX dX2_init_80 rfl rfl ?_
  refine gc_bipush hX dX2_init_81 kb_7 ?_
  refine gc_icmp_ge (tgt := 100) hX dX2_init_83 (by decide) (fun q => absurd q (by decide)) (fun _ => ?_)
  refine gc_aload_n hX dX2_init_86 rfl rfl ?_
  refine gc_getr hX (show kd true 27 = 2 by decide +kernel) (by decide) fgc_2_9 tfc_2_9 ?_ wfc_167 (show sr true 27 9 = 35 by decide +kernel) dX2_init_87 ?_
  · simp [up]
  refine gc_iload_n hX dX2_init_90 rfl rfl ?_
  refine gc_bipush hX dX2_init_91 kb_20 ?_
  refine gc_iast hX (show kd true 35 = 10 by decide +kernel) (by decide) (by decide) (show ln true 35 = 7 by decide +kernel) (by decide) dX2_init_93 ?_
  refine gc_iinc (y := 3) (lc' := [some _, some _, some _, some _]) hX dX2_init_94 (by decide) rfl (by decide) rfl rfl ?_
  refine gc_goto (tgt := 80) hX dX2_init_97 (by decide) ?_
  refine gc_iload_n hX dX2_init_80 rfl rfl ?_
  refine gc_bipush hX dX2_init_81 kb_7 ?_
  refine gc_icmp_ge (tgt := 100) hX dX2_init_83 (by decide) (fun q => absurd q (by decide)) (fun _ => ?_)
  refine gc_aload_n hX dX2_init_86 rfl rfl ?_
  refine gc_getr hX (show kd true 27 = 2 by decide +kernel) (by decide) fgc_2_9 tfc_2_9 ?_ wfc_167 (show sr true 27 9 = 35 by decide +kernel) dX2_init_87 ?_
  · simp [up]
  refine gc_iload_n hX dX2_init_90 rfl rfl ?_
  refine gc_bipush hX dX2_init_91 kb_20 ?_
  refine gc_iast hX (show kd true 35 = 10 by decide +kernel) (by decide) (by decide) (show ln true 35 = 7 by decide +kernel) (by decide) dX2_init_93 ?_
  refine gc_iinc (y := 4) (lc' := [some _, some _, some _, some _]) hX dX2_init_94 (by decide) rfl (by decide) rfl rfl ?_
  refine gc_goto (tgt := 80) hX dX2_init_97 (by decide) ?_
  refine gc_iload_n hX dX2_init_80 rfl rfl ?_
  refine gc_bipush hX dX2_init_81 kb_7 ?_
  refine gc_icmp_ge (tgt := 100) hX dX2_init_83 (by decide) (fun q => absurd q (by decide)) (fun _ => ?_)
  refine gc_aload_n hX dX2_init_86 rfl rfl ?_
  refine gc_getr hX (show kd true 27 = 2 by decide +kernel) (by decide) fgc_2_9 tfc_2_9 ?_ wfc_167 (show sr true 27 9 = 35 by decide +kernel) dX2_init_87 ?_
  · simp [up]
  refine gc_iload_n hX dX2_init_90 rfl rfl ?_
  refine gc_bipush hX dX2_init_91 kb_20 ?_
  refine gc_iast hX (show kd true 35 = 10 by decide +kernel) (by decide) (by decide) (show ln true 35 = 7 by decide +kernel) (by decide) dX2_init_93 ?_
  refine gc_iinc (y := 5) (lc' := [some _, some _, some _, some _]) hX dX2_init_94 (by decide) rfl (by decide) rfl rfl ?_
  refine gc_goto (tgt := 80) hX dX2_init_97 (by decide) ?_
  refine gc_iload_n hX dX2_init_80 rfl rfl ?_
  refine gc_bipush hX dX2_init_81 kb_7 ?_
  refine gc_icmp_ge (tgt := 100) hX dX2_init_83 (by decide) (fun q => absurd q (by decide)) (fun _ => ?_)
  refine gc_aload_n hX dX2_init_86 rfl rfl ?_
  refine gc_getr hX (show kd true 27 = 2 by decide +kernel) (by decide) fgc_2_9 tfc_2_9 ?_ wfc_167 (show sr true 27 9 = 35 by decide +kernel) dX2_init_87 ?_
  · simp [up]
  refine gc_iload_n hX dX2_init_90 rfl rfl ?_
  refine gc_bipush hX dX2_init_91 kb_20 ?_
  refine gc_iast hX (show kd true 35 = 10 by decide +kernel) (by decide) (by decide) (show ln true 35 = 7 by decide +kernel) (by decide) dX2_init_93 ?_
  refine gc_iinc (y := 6) (lc' := [some _, some _, some _, some _]) hX dX2_init_94 (by decide) rfl (by decide) rfl rfl ?_
  refine gc_goto (tgt := 80) hX dX2_init_97 (by decide) ?_
  refine gc_iload_n hX dX2_init_80 rfl rfl ?_
  refine gc_bipush hX dX2_init_81 kb_7 ?_
  refine gc_icmp_ge (tgt := 100) hX dX2_init_83 (by decide) (fun q => absurd q (by decide)) (fun _ => ?_)
  refine gc_aload_n hX dX2_init_86 rfl rfl ?_
  refine gc_getr hX (show kd true 27 = 2 by decide +kernel) (by decide) fgc_2_9 tfc_2_9 ?_ wfc_167 (show sr true 27 9 = 35 by decide +kernel) dX2_init_87 ?_
  · simp [up]
  refine gc_iload_n hX dX2_init_90 rfl rfl ?_
  refine gc_bipush hX dX2_init_91 kb_20 ?_
  refine gc_iast hX (show kd true 35 = 10 by decide +kernel) (by decide) (by decide) (show ln true 35 = 7 by decide +kernel) (by decide) dX2_init_93 ?_
  refine gc_iinc (y := 7) (lc' := [some _, some _, some _, some _]) hX dX2_init_94 (by decide) rfl (by decide) rfl rfl ?_
  refine gc_goto (tgt := 80) hX dX2_init_97 (by decide) ?_
  refine gc_iload_n hX dX2_init_80 rfl rfl ?_
  refine gc_bipush hX dX2_init_81 kb_7 ?_
  refine gc_icmp_ge (tgt := 100) hX dX2_init_83 (by decide) (fun _ => ?_) (fun q => absurd (by decide) q)
  exact gc_vret hX rfl rfl rfl dX2_init_100
def i_X7_init_36 (μ : Mem) : Mem := (up (up μ 36 0 1) 36 1 0)
set_option maxRecDepth 100000 in
set_option maxHeartbeats 4000000 in
theorem ci_X7_init_36 {l : Launch} {D : DT} {base : Nat} {μ : Mem} (hD : ∀ i, i < 100 → D.1 i = base + i) : CtC l D true base 1 1 60 yX7_init cX7_init 1 [.ref (D.1 36)] 37 μ 38 (i_X7_init_36 μ) := by
  refine CtC.of (own := RX7) (lc0 := [some (.ref (D.1 36))]) pni_X7 rfl rfl hD (Nat.le_of_ble_eq_true rfl) rfl wco_X7_init (fun X hX => ?_)
  refine gc_aload_n hX dX7_init_0 rfl rfl ?_
  refine gc_obj hX ob_w wml_220 (by decide) (Nat.le_of_ble_eq_true rfl) dX7_init_1 ?_
  refine gc_aload_n hX dX7_init_4 rfl rfl ?_
  refine gc_bipush hX dX7_init_5 kb_60 ?_
  refine gc_newB (n := 60) hX (show kd true 37 = 11 by decide +kernel) (by decide) (by decide) (by decide) (show ln true 37 = 60 by decide +kernel) (by decide) war_byte (Nat.le_of_ble_eq_true rfl) (Nat.le_of_ble_eq_true rfl) dX7_init_7 ?_
  refine gc_putrF hX (show kd true 36 = 7 by decide +kernel) (by decide) (by decide) fgc_7_0 tfc_7_0 tyX7_ok nmX7 (show sr true 36 0 = 37 by decide +kernel) rfl rfl rfl rfl wfc_221 dX7_init_9 ?_
  refine gc_aload_n hX dX7_init_12 rfl rfl ?_
  refine gc_iconst hX dX7_init_13 k_0 ?_
  refine gc_puti hX (show kd true 36 = 7 by decide +kernel) (by decide) (by decide) fgc_7_1 tfc_7_1 tyX7_ok nmX7 rfl wfc_223 dX7_init_14 ?_
  exact gc_vret hX rfl rfl rfl dX7_init_17
def i_X0_init_20 (μ : Mem) : Mem := (up (up (up (up (i_X7_init_36 (up (i_X2_init_27 (up (i_X1_init_24 (up (i_X1_init_21 μ) 20 0 1)) 20 1 1)) 20 2 1)) 20 3 1) 20 4 1) 20 5 0) 20 6 1)
set_option maxRecDepth 100000 in
set_option maxHeartbeats 4000000 in
theorem ci_X0_init_20 {l : Launch} {D : DT} {base : Nat} {μ : Mem} (hD : ∀ i, i < 100 → D.1 i = base + i) : CtC l D true base 2 18 412 yX0_init cX0_init 1 [.ref (D.1 20)] 21 μ 39 (i_X0_init_20 μ) := by
  refine CtC.of (own := RX0) (lc0 := [some (.ref (D.1 20))]) pni_X0 rfl rfl hD (Nat.le_of_ble_eq_true rfl) rfl wco_X0_init (fun X hX => ?_)
  refine gc_aload_n hX dX0_init_0 rfl rfl ?_
  refine gc_obj hX ob_w wml_114 (by decide) (Nat.le_of_ble_eq_true rfl) dX0_init_1 ?_
  refine gc_aload_n hX dX0_init_4 rfl rfl ?_
  refine gc_new (ty0 := tyX1) hX (show kd true 21 = 1 by decide +kernel) (by decide) (by decide) rfl ws_X1 tyX1_ok df_1 wcl_115 win_1 wini_1 (Nat.le_of_ble_eq_true rfl) (Nat.le_of_ble_eq_true rfl) dX0_init_5 ?_
  refine gc_dup hX dX0_init_8 rfl ?_
  refine gc_ldcS (i := 110) (tx := "whg") hX (fun s h => h.2.2.2.2.2.2.1) rfl dX0_init_9 ?_
  refine gc_bipush hX dX0_init_11 kb_19 ?_
  refine gc_call hX (ci_X1_init_21 hD) mi_X1_init wml_118 (by decide) rfl rfl (Nat.le_of_ble_eq_true rfl) (Nat.le_of_ble_eq_true rfl) (Nat.le_of_ble_eq_true rfl) dX0_init_13 ?_
  refine gc_putrF hX (show kd true 20 = 0 by decide +kernel) (by decide) (by decide) fgc_0_0 tfc_0_0 tyX0_ok nmX0 (show sr true 20 0 = 21 by decide +kernel) rfl rfl rfl rfl wfc_231 dX0_init_16 ?_
  refine gc_aload_n hX dX0_init_19 rfl rfl ?_
  refine gc_new (ty0 := tyX1) hX (show kd true 24 = 1 by decide +kernel) (by decide) (by decide) rfl ws_X1 tyX1_ok df_1 wcl_115 win_1 wini_1 (Nat.le_of_ble_eq_true rfl) (Nat.le_of_ble_eq_true rfl) dX0_init_20 ?_
  refine gc_dup hX dX0_init_23 rfl ?_
  refine gc_ldcS (i := 111) (tx := "gfd") hX (fun s h => h.2.2.2.2.2.2.2.1) rfl dX0_init_24 ?_
  refine gc_bipush hX dX0_init_26 kb_99 ?_
  refine gc_call hX (ci_X1_init_24 hD) mi_X1_init wml_118 (by decide) rfl rfl (Nat.le_of_ble_eq_true rfl) (Nat.le_of_ble_eq_true rfl) (Nat.le_of_ble_eq_true rfl) dX0_init_28 ?_
  refine gc_putrF hX (show kd true 20 = 0 by decide +kernel) (by decide) (by decide) fgc_0_1 tfc_0_1 tyX0_ok nmX0 (show sr true 20 1 = 24 by decide +kernel) rfl rfl rfl rfl wfc_233 dX0_init_31 ?_
  refine gc_aload_n hX dX0_init_34 rfl rfl ?_
  refine gc_new (ty0 := tyX2) hX (show kd true 27 = 2 by decide +kernel) (by decide) (by decide) rfl ws_X2 tyX2_ok df_2 wcl_143 win_2 wini_2 (Nat.le_of_ble_eq_true rfl) (Nat.le_of_ble_eq_true rfl) dX0_init_35 ?_
  refine gc_dup hX dX0_init_38 rfl ?_
  refine gc_aload_n hX dX0_init_39 rfl rfl ?_
  refine gc_getr hX (show kd true 20 = 0 by decide +kernel) (by decide) fgc_0_0 tfc_0_0 ?_ wfc_231 (show sr true 20 0 = 21 by decide +kernel) dX0_init_40 ?_
  · simp [up, i_X1_init_24, i_X1_init_21]
  refine gc_aload_n hX dX0_init_43 rfl rfl ?_
  refine gc_getr hX (show kd true 20 = 0 by decide +kernel) (by decide) fgc_0_1 tfc_0_1 ?_ wfc_233 (show sr true 20 1 = 24 by decide +kernel) dX0_init_44 ?_
  · simp [up, i_X1_init_24, i_X1_init_21]
  refine gc_call hX (ci_X2_init_27 hD) mi_X2_init wml_145 (by decide) rfl rfl (Nat.le_of_ble_eq_true rfl) (Nat.le_of_ble_eq_true rfl) (Nat.le_of_ble_eq_true rfl) dX0_init_47 ?_
  refine gc_putrF hX (show kd true 20 = 0 by decide +kernel) (by decide) (by decide) fgc_0_2 tfc_0_2 tyX0_ok nmX0 (show sr true 20 2 = 27 by decide +kernel) rfl rfl rfl rfl wfc_235 dX0_init_50 ?_
  refine gc_aload_n hX dX0_init_53 rfl rfl ?_
  refine gc_new (ty0 := tyX7) hX (show kd true 36 = 7 by decide +kernel) (by decide) (by decide) rfl ws_X7 tyX7_ok df_7 wcl_215 win_7 wini_7 (Nat.le_of_ble_eq_true rfl) (Nat.le_of_ble_eq_true rfl) dX0_init_54 ?_
  refine gc_dup hX dX0_init_57 rfl ?_
  refine gc_call hX (ci_X7_init_36 hD) mi_X7_init wml_217 (by decide) rfl rfl (Nat.le_of_ble_eq_true rfl) (Nat.le_of_ble_eq_true rfl) (Nat.le_of_ble_eq_true rfl) dX0_init_58 ?_
  refine gc_putrF hX (show kd true 20 = 0 by decide +kernel) (by decide) (by decide) fgc_0_3 tfc_0_3 tyX0_ok nmX0 (show sr true 20 3 = 36 by decide +kernel) rfl rfl rfl rfl wfc_237 dX0_init_61 ?_
  refine gc_aload_n hX dX0_init_64 rfl rfl ?_
  refine gc_bipush hX dX0_init_65 kb_24 ?_
  refine gc_newI (n := 24) hX (show kd true 38 = 10 by decide +kernel) (by decide) (by decide) (by decide) (show ln true 38 = 24 by decide +kernel) (by decide) war_int (Nat.le_of_ble_eq_true rfl) (Nat.le_of_ble_eq_true rfl) dX0_init_67 ?_
  refine gc_putrF hX (show kd true 20 = 0 by decide +kernel) (by decide) (by decide) fgc_0_4 tfc_0_4 tyX0_ok nmX0 (show sr true 20 4 = 38 by decide +kernel) rfl rfl rfl rfl wfc_239 dX0_init_69 ?_
  refine gc_aload_n hX dX0_init_72 rfl rfl ?_
  refine gc_iconst hX dX0_init_73 k_0 ?_
  refine gc_puti hX (show kd true 20 = 0 by decide +kernel) (by decide) (by decide) fgc_0_5 tfc_0_5 tyX0_ok nmX0 rfl wfc_241 dX0_init_74 ?_
  refine gc_aload_n hX dX0_init_77 rfl rfl ?_
  refine gc_iconst hX dX0_init_78 k_1 ?_
  refine gc_puti hX (show kd true 20 = 0 by decide +kernel) (by decide) (by decide) fgc_0_6 tfc_0_6 tyX0_ok nmX0 rfl wfc_243 dX0_init_79 ?_
  exact gc_vret hX rfl rfl rfl dX0_init_82
def i_X2_init_39 (μ : Mem) : Mem := (up (up (up (up (up (up (up (up (up (up (up (up (up (up (up (up (up μ 39 0 1) 39 1 1) 39 2 1) 39 3 1) 39 4 1) 39 5 1) 39 6 1) 39 7 1) 39 8 1) 39 9 1) 47 (ix 0) 20) 47 (ix 1) 20) 47 (ix 2) 20) 47 (ix 3) 20) 47 (ix 4) 20) 47 (ix 5) 20) 47 (ix 6) 20)
set_option maxRecDepth 100000 in
set_option maxHeartbeats 4000000 in
theorem ci_X2_init_39 {l : Launch} {D : DT} {base : Nat} {μ : Mem} (hD : ∀ i, i < 100 → D.1 i = base + i) : CtC l D true base 1 8 61 yX2_init cX2_init 4 [.ref (D.1 39), .ref (D.1 2), .ref (D.1 5)] 40 μ 48 (i_X2_init_39 μ) := by
  refine CtC.of (own := RX2) (lc0 := [some (.ref (D.1 39)), some (.ref (D.1 2)), some (.ref (D.1 5)), none]) pni_X2 rfl rfl hD (Nat.le_of_ble_eq_true rfl) rfl wco_X2_init (fun X hX => ?_)
  refine gc_aload_n hX dX2_init_0 rfl rfl ?_
  refine gc_obj hX ob_w wml_148 (by decide) (Nat.le_of_ble_eq_true rfl) dX2_init_1 ?_
  refine gc_aload_n hX dX2_init_4 rfl rfl ?_
  refine gc_aload_n hX dX2_init_5 rfl rfl ?_
  refine gc_putrF hX (show kd true 39 = 2 by decide +kernel) (by decide) (by decide) fgc_2_0 tfc_2_0 tyX2_ok nmX2 (show sr true 39 0 = 2 by decide +kernel) rfl rfl rfl rfl wfc_149 dX2_init_6 ?_
  refine gc_aload_n hX dX2_init_9 rfl rfl ?_
  refine gc_aload_n hX dX2_init_10 rfl rfl ?_
  refine gc_putrF hX (show kd true 39 = 2 by decide +kernel) (by decide) (by decide) fgc_2_1 tfc_2_1 tyX2_ok nmX2 (show sr true 39 1 = 5 by decide +kernel) rfl rfl rfl rfl wfc_150 dX2_init_11 ?_
  refine gc_aload_n hX dX2_init_14 rfl rfl ?_
  refine gc_bipush hX dX2_init_15 kb_6 ?_
  refine gc_newI (n := 6) hX (show kd true 40 = 10 by decide +kernel) (by decide) (by decide) (by decide) (show ln true 40 = 6 by decide +kernel) (by decide) war_int (Nat.le_of_ble_eq_true rfl) (Nat.le_of_ble_eq_true rfl) dX2_init_17 ?_
  refine gc_putrF hX (show kd true 39 = 2 by decide +kernel) (by decide) (by decide) fgc_2_2 tfc_2_2 tyX2_ok nmX2 (show sr true 39 2 = 40 by decide +kernel) rfl rfl rfl rfl wfc_151 dX2_init_19 ?_
  refine gc_aload_n hX dX2_init_22 rfl rfl ?_
  refine gc_bipush hX dX2_init_23 kb_6 ?_
  refine gc_newI (n := 6) hX (show kd true 41 = 10 by decide +kernel) (by decide) (by decide) (by decide) (show ln true 41 = 6 by decide +kernel) (by decide) war_int (Nat.le_of_ble_eq_true rfl) (Nat.le_of_ble_eq_true rfl) dX2_init_25 ?_
  refine gc_putrF hX (show kd true 39 = 2 by decide +kernel) (by decide) (by decide) fgc_2_3 tfc_2_3 tyX2_ok nmX2 (show sr true 39 3 = 41 by decide +kernel) rfl rfl rfl rfl wfc_153 dX2_init_27 ?_
  refine gc_aload_n hX dX2_init_30 rfl rfl ?_
  refine gc_bipush hX dX2_init_31 kb_9 ?_
  refine gc_newI (n := 9) hX (show kd true 42 = 10 by decide +kernel) (by decide) (by decide) (by decide) (show ln true 42 = 9 by decide +kernel) (by decide) war_int (Nat.le_of_ble_eq_true rfl) (Nat.le_of_ble_eq_true rfl) dX2_init_33 ?_
  refine gc_putrF hX (show kd true 39 = 2 by decide +kernel) (by decide) (by decide) fgc_2_4 tfc_2_4 tyX2_ok nmX2 (show sr true 39 4 = 42 by decide +kernel) rfl rfl rfl rfl wfc_155 dX2_init_35 ?_
  refine gc_aload_n hX dX2_init_38 rfl rfl ?_
  refine gc_bipush hX dX2_init_39 kb_9 ?_
  refine gc_newI (n := 9) hX (show kd true 43 = 10 by decide +kernel) (by decide) (by decide) (by decide) (show ln true 43 = 9 by decide +kernel) (by decide) war_int (Nat.le_of_ble_eq_true rfl) (Nat.le_of_ble_eq_true rfl) dX2_init_41 ?_
  refine gc_putrF hX (show kd true 39 = 2 by decide +kernel) (by decide) (by decide) fgc_2_5 tfc_2_5 tyX2_ok nmX2 (show sr true 39 5 = 43 by decide +kernel) rfl rfl rfl rfl wfc_157 dX2_init_43 ?_
  refine gc_aload_n hX dX2_init_46 rfl rfl ?_
  refine gc_bipush hX dX2_init_47 kb_9 ?_
  refine gc_newI (n := 9) hX (show kd true 44 = 10 by decide +kernel) (by decide) (by decide) (by decide) (show ln true 44 = 9 by decide +kernel) (by decide) war_int (Nat.le_of_ble_eq_true rfl) (Nat.le_of_ble_eq_true rfl) dX2_init_49 ?_
  refine gc_putrF hX (show kd true 39 = 2 by decide +kernel) (by decide) (by decide) fgc_2_6 tfc_2_6 tyX2_ok nmX2 (show sr true 39 6 = 44 by decide +kernel) rfl rfl rfl rfl wfc_159 dX2_init_51 ?_
  refine gc_aload_n hX dX2_init_54 rfl rfl ?_
  refine gc_bipush hX dX2_init_55 kb_9 ?_
  refine gc_newI (n := 9) hX (show kd true 45 = 10 by decide +kernel) (by decide) (by decide) (by decide) (show ln true 45 = 9 by decide +kernel) (by decide) war_int (Nat.le_of_ble_eq_true rfl) (Nat.le_of_ble_eq_true rfl) dX2_init_57 ?_
  refine gc_putrF hX (show kd true 39 = 2 by decide +kernel) (by decide) (by decide) fgc_2_7 tfc_2_7 tyX2_ok nmX2 (show sr true 39 7 = 45 by decide +kernel) rfl rfl rfl rfl wfc_161 dX2_init_59 ?_
  refine gc_aload_n hX dX2_init_62 rfl rfl ?_
  refine gc_bipush hX dX2_init_63 kb_6 ?_
  refine gc_newI (n := 6) hX (show kd true 46 = 10 by decide +kernel) (by decide) (by decide) (by decide) (show ln true 46 = 6 by decide +kernel) (by decide) war_int (Nat.le_of_ble_eq_true rfl) (Nat.le_of_ble_eq_true rfl) dX2_init_65 ?_
  refine gc_putrF hX (show kd true 39 = 2 by decide +kernel) (by decide) (by decide) fgc_2_8 tfc_2_8 tyX2_ok nmX2 (show sr true 39 8 = 46 by decide +kernel) rfl rfl rfl rfl wfc_165 dX2_init_67 ?_
  refine gc_aload_n hX dX2_init_70 rfl rfl ?_
  refine gc_bipush hX dX2_init_71 kb_7 ?_
  refine gc_newI (n := 7) hX (show kd true 47 = 10 by decide +kernel) (by decide) (by decide) (by decide) (show ln true 47 = 7 by decide +kernel) (by decide) war_int (Nat.le_of_ble_eq_true rfl) (Nat.le_of_ble_eq_true rfl) dX2_init_73 ?_
  refine gc_putrF hX (show kd true 39 = 2 by decide +kernel) (by decide) (by decide) fgc_2_9 tfc_2_9 tyX2_ok nmX2 (show sr true 39 9 = 47 by decide +kernel) rfl rfl rfl rfl wfc_167 dX2_init_75 ?_
  refine gc_iconst hX dX2_init_78 k_0 ?_
  refine gc_istore_n (lc' := [some _, some _, some _, some _]) hX dX2_init_79 rfl (by decide) rfl rfl ?_
  refine gc_iload_n hX dX2_init_80 rfl rfl ?_
  refine gc_bipush hX dX2_init_81 kb_7 ?_
  refine gc_icmp_ge (tgt := 100) hX dX2_init_83 (by decide) (fun q => absurd q (by decide)) (fun _ => ?_)
  refine gc_aload_n hX dX2_init_86 rfl rfl ?_
  refine gc_getr hX (show kd true 39 = 2 by decide +kernel) (by decide) fgc_2_9 tfc_2_9 ?_ wfc_167 (show sr true 39 9 = 47 by decide +kernel) dX2_init_87 ?_
  · simp [up]
  refine gc_iload_n hX dX2_init_90 rfl rfl ?_
  refine gc_bipush hX dX2_init_91 kb_20 ?_
  refine gc_iast hX (show kd true 47 = 10 by decide +kernel) (by decide) (by decide) (show ln true 47 = 7 by decide +kernel) (by decide) dX2_init_93 ?_
  refine gc_iinc (y := 1) (lc' := [some _, some _, some _, some _]) hX dX2_init_94 (by decide) rfl (by decide) rfl rfl ?_
  refine gc_goto (tgt := 80) hX dX2_init_97 (by decide) ?_
  refine gc_iload_n hX dX2_init_80 rfl rfl ?_
  refine gc_bipush hX dX2_init_81 kb_7 ?_
  refine gc_icmp_ge (tgt := 100) hX dX2_init_83 (by decide) (fun q => absurd q (by decide)) (fun _ => ?_)
  refine gc_aload_n hX dX2_init_86 rfl rfl ?_
  refine gc_getr hX (show kd true 39 = 2 by decide +kernel) (by decide) fgc_2_9 tfc_2_9 ?_ wfc_167 (show sr true 39 9 = 47 by decide +kernel) dX2_init_87 ?_
  · simp [up]
  refine gc_iload_n hX dX2_init_90 rfl rfl ?_
  refine gc_bipush hX dX2_init_91 kb_20 ?_
  refine gc_iast hX (show kd true 47 = 10 by decide +kernel) (by decide) (by decide) (show ln true 47 = 7 by decide +kernel) (by decide) dX2_init_93 ?_
  refine gc_iinc (y := 2) (lc' := [some _, some _, some _, some _]) hX dX2_init_94 (by decide) rfl (by decide) rfl rfl ?_
  refine gc_goto (tgt := 80) hX dX2_init_97 (by decide) ?_
  refine gc_iload_n hX dX2_init_80 rfl rfl ?_
  refine gc_bipush hX dX2_init_81 kb_7 ?_
  refine gc_icmp_ge (tgt := 100) hX dX2_init_83 (by decide) (fun q => absurd q (by decide)) (fun _ => ?_)
  refine gc_aload_n hX dX2_init_86 rfl rfl ?_
  refine gc_getr hX (show kd true 39 = 2 by decide +kernel) (by decide) fgc_2_9 tfc_2_9 ?_ wfc_167 (show sr true 39 9 = 47 by decide +kernel) dX2_init_87 ?_
  · simp [up]
  refine gc_iload_n hX dX2_init_90 rfl rfl ?_
  refine gc_bipush hX dX2_init_91 kb_20 ?_
  refine gc_iast hX (show kd true 47 = 10 by decide +kernel) (by decide) (by decide) (show ln true 47 = 7 by decide +kernel) (by decide) dX2_init_93 ?_
  refine gc_iinc (y := 3) (lc' := [some _, some _, some _, some _]) hX dX2_init_94 (by decide) rfl (by decide) rfl rfl ?_
  refine gc_goto (tgt := 80) hX dX2_init_97 (by decide) ?_
  refine gc_iload_n hX dX2_init_80 rfl rfl ?_
  refine gc_bipush hX dX2_init_81 kb_7 ?_
  refine gc_icmp_ge (tgt := 100) hX dX2_init_83 (by decide) (fun q => absurd q (by decide)) (fun _ => ?_)
  refine gc_aload_n hX dX2_init_86 rfl rfl ?_
  refine gc_getr hX (show kd true 39 = 2 by decide +kernel) (by decide) fgc_2_9 tfc_2_9 ?_ wfc_167 (show sr true 39 9 = 47 by decide +kernel) dX2_init_87 ?_
  · simp [up]
  refine gc_iload_n hX dX2_init_90 rfl rfl ?_
  refine gc_bipush hX dX2_init_91 kb_20 ?_
  refine gc_iast hX (show kd true 47 = 10 by decide +kernel) (by decide) (by decide) (show ln true 47 = 7 by decide +kernel) (by decide) dX2_init_93 ?_
  refine gc_iinc (y := 4) (lc' := [some _, some _, some _, some _]) hX dX2_init_94 (by decide) rfl (by decide) rfl rfl ?_
  refine gc_goto (tgt := 80) hX dX2_init_97 (by decide) ?_
  refine gc_iload_n hX dX2_init_80 rfl rfl ?_
  refine gc_bipush hX dX2_init_81 kb_7 ?_
  refine gc_icmp_ge (tgt := 100) hX dX2_init_83 (by decide) (fun q => absurd q (by decide)) (fun _ => ?_)
  refine gc_aload_n hX dX2_init_86 rfl rfl ?_
  refine gc_getr hX (show kd true 39 = 2 by decide +kernel) (by decide) fgc_2_9 tfc_2_9 ?_ wfc_167 (show sr true 39 9 = 47 by decide +kernel) dX2_init_87 ?_
  · simp [up]
  refine gc_iload_n hX dX2_init_90 rfl rfl ?_
  refine gc_bipush hX dX2_init_91 kb_20 ?_
  refine gc_iast hX (show kd true 47 = 10 by decide +kernel) (by decide) (by decide) (show ln true 47 = 7 by decide +kernel) (by decide) dX2_init_93 ?_
  refine gc_iinc (y := 5) (lc' := [some _, some _, some _, some _]) hX dX2_init_94 (by decide) rfl (by decide) rfl rfl ?_
  refine gc_goto (tgt := 80) hX dX2_init_97 (by decide) ?_
  refine gc_iload_n hX dX2_init_80 rfl rfl ?_
  refine gc_bipush hX dX2_init_81 kb_7 ?_
  refine gc_icmp_ge (tgt := 100) hX dX2_init_83 (by decide) (fun q => absurd q (by decide)) (fun _ => ?_)
  refine gc_aload_n hX dX2_init_86 rfl rfl ?_
  refine gc_getr hX (show kd true 39 = 2 by decide +kernel) (by decide) fgc_2_9 tfc_2_9 ?_ wfc_167 (show sr true 39 9 = 47 by decide +kernel) dX2_init_87 ?_
  · simp [up]
  refine gc_iload_n hX dX2_init_90 rfl rfl ?_
  refine gc_bipush hX dX2_init_91 kb_20 ?_
  refine gc_iast hX (show kd true 47 = 10 by decide +kernel) (by decide) (by decide) (show ln true 47 = 7 by decide +kernel) (by decide) dX2_init_93 ?_
  refine gc_iinc (y := 6) (lc' := [some _, some _, some _, some _]) hX dX2_init_94 (by decide) rfl (by decide) rfl rfl ?_
  refine gc_goto (tgt := 80) hX dX2_init_97 (by decide) ?_
  refine gc_iload_n hX dX2_init_80 rfl rfl ?_
  refine gc_bipush hX dX2_init_81 kb_7 ?_
  refine gc_icmp_ge (tgt := 100) hX dX2_init_83 (by decide) (fun q => absurd q (by decide)) (fun _ => ?_)
  refine gc_aload_n hX dX2_init_86 rfl rfl ?_
  refine gc_getr hX (show kd true 39 = 2 by decide +kernel) (by decide) fgc_2_9 tfc_2_9 ?_ wfc_167 (show sr true 39 9 = 47 by decide +kernel) dX2_init_87 ?_
  · simp [up]
  refine gc_iload_n hX dX2_init_90 rfl rfl ?_
  refine gc_bipush hX dX2_init_91 kb_20 ?_
  refine gc_iast hX (show kd true 47 = 10 by decide +kernel) (by decide) (by decide) (show ln true 47 = 7 by decide +kernel) (by decide) dX2_init_93 ?_
  refine gc_iinc (y := 7) (lc' := [some _, some _, some _, some _]) hX dX2_init_94 (by decide) rfl (by decide) rfl rfl ?_
  refine gc_goto (tgt := 80) hX dX2_init_97 (by decide) ?_
  refine gc_iload_n hX dX2_init_80 rfl rfl ?_
  refine gc_bipush hX dX2_init_81 kb_7 ?_
  refine gc_icmp_ge (tgt := 100) hX dX2_init_83 (by decide) (fun _ => ?_) (fun q => absurd (by decide) q)
  exact gc_vret hX rfl rfl rfl dX2_init_100
def i_X7_init_50 (μ : Mem) : Mem := (up (up μ 50 0 1) 50 1 0)
set_option maxRecDepth 100000 in
set_option maxHeartbeats 4000000 in
theorem ci_X7_init_50 {l : Launch} {D : DT} {base : Nat} {μ : Mem} (hD : ∀ i, i < 100 → D.1 i = base + i) : CtC l D true base 1 1 60 yX7_init cX7_init 1 [.ref (D.1 50)] 51 μ 52 (i_X7_init_50 μ) := by
  refine CtC.of (own := RX7) (lc0 := [some (.ref (D.1 50))]) pni_X7 rfl rfl hD (Nat.le_of_ble_eq_true rfl) rfl wco_X7_init (fun X hX => ?_)
  refine gc_aload_n hX dX7_init_0 rfl rfl ?_
  refine gc_obj hX ob_w wml_220 (by decide) (Nat.le_of_ble_eq_true rfl) dX7_init_1 ?_
  refine gc_aload_n hX dX7_init_4 rfl rfl ?_
  refine gc_bipush hX dX7_init_5 kb_60 ?_
  refine gc_newB (n := 60) hX (show kd true 51 = 11 by decide +kernel) (by decide) (by decide) (by decide) (show ln true 51 = 60 by decide +kernel) (by decide) war_byte (Nat.le_of_ble_eq_true rfl) (Nat.le_of_ble_eq_true rfl) dX7_init_7 ?_
  refine gc_putrF hX (show kd true 50 = 7 by decide +kernel) (by decide) (by decide) fgc_7_0 tfc_7_0 tyX7_ok nmX7 (show sr true 50 0 = 51 by decide +kernel) rfl rfl rfl rfl wfc_221 dX7_init_9 ?_
  refine gc_aload_n hX dX7_init_12 rfl rfl ?_
  refine gc_iconst hX dX7_init_13 k_0 ?_
  refine gc_puti hX (show kd true 50 = 7 by decide +kernel) (by decide) (by decide) fgc_7_1 tfc_7_1 tyX7_ok nmX7 rfl wfc_223 dX7_init_14 ?_
  exact gc_vret hX rfl rfl rfl dX7_init_17
def i_X4_init_48 (μ : Mem) : Mem := (up (up (i_X7_init_50 (up μ 48 0 1)) 48 1 50) 48 2 112)
set_option maxRecDepth 100000 in
set_option maxHeartbeats 4000000 in
theorem ci_X4_init_48 {l : Launch} {D : DT} {base : Nat} {μ : Mem} (hD : ∀ i, i < 100 → D.1 i = base + i) : CtC l D true base 2 3 122 yX4_init cX4_init 1 [.ref (D.1 48)] 49 μ 52 (i_X4_init_48 μ) := by
  refine CtC.of (own := RX4) (lc0 := [some (.ref (D.1 48))]) pni_X4 rfl rfl hD (Nat.le_of_ble_eq_true rfl) rfl wco_X4_init (fun X hX => ?_)
  refine gc_aload_n hX dX4_init_0 rfl rfl ?_
  refine gc_obj hX ob_w wml_267 (by decide) (Nat.le_of_ble_eq_true rfl) dX4_init_1 ?_
  refine gc_aload_n hX dX4_init_4 rfl rfl ?_
  refine gc_bipush hX dX4_init_5 kb_60 ?_
  refine gc_newI (n := 60) hX (show kd true 49 = 10 by decide +kernel) (by decide) (by decide) (by decide) (show ln true 49 = 60 by decide +kernel) (by decide) war_int (Nat.le_of_ble_eq_true rfl) (Nat.le_of_ble_eq_true rfl) dX4_init_7 ?_
  refine gc_putrF hX (show kd true 48 = 4 by decide +kernel) (by decide) (by decide) fgc_4_0 tfc_4_0 tyX4_ok nmX4 (show sr true 48 0 = 49 by decide +kernel) rfl rfl rfl rfl wfc_271 dX4_init_9 ?_
  refine gc_aload_n hX dX4_init_12 rfl rfl ?_
  refine gc_new (ty0 := tyX7) hX (show kd true 50 = 7 by decide +kernel) (by decide) (by decide) rfl ws_X7 tyX7_ok df_7 wcl_268 win_7 wini_7 (Nat.le_of_ble_eq_true rfl) (Nat.le_of_ble_eq_true rfl) dX4_init_13 ?_
  refine gc_dup hX dX4_init_16 rfl ?_
  refine gc_call hX (ci_X7_init_50 hD) mi_X7_init wml_269 (by decide) rfl rfl (Nat.le_of_ble_eq_true rfl) (Nat.le_of_ble_eq_true rfl) (Nat.le_of_ble_eq_true rfl) dX4_init_17 ?_
  refine gc_putd (x := 50) hX (show kd true 48 = 4 by decide +kernel) (by decide) (by decide) fgc_4_1 tfc_4_1 tyX4_ok nmX4 (by decide) (by decide) rfl rfl rfl wfc_272 dX4_init_20 ?_
  refine gc_aload_n hX dX4_init_23 rfl rfl ?_
  refine gc_ldcS (i := 112) (tx := "") hX (fun s h => h.2.2.2.2.2.2.2.2.1) rfl dX4_init_24 ?_
  refine gc_putd (x := 112) hX (show kd true 48 = 4 by decide +kernel) (by decide) (by decide) fgc_4_2 tfc_4_2 tyX4_ok nmX4 (by decide) (by decide) rfl rfl rfl wfc_273 dX4_init_26 ?_
  exact gc_vret hX rfl rfl rfl dX4_init_29
def i_X3_init_52 (μ : Mem) : Mem := (up (up μ 52 0 1) 52 1 1)
set_option maxRecDepth 100000 in
set_option maxHeartbeats 4000000 in
theorem ci_X3_init_52 {l : Launch} {D : DT} {base : Nat} {μ : Mem} (hD : ∀ i, i < 100 → D.1 i = base + i) : CtC l D true base 1 2 1024 yX3_init cX3_init 1 [.ref (D.1 52)] 53 μ 55 (i_X3_init_52 μ) := by
  refine CtC.of (own := RX3) (lc0 := [some (.ref (D.1 52))]) pni_X3 rfl rfl hD (Nat.le_of_ble_eq_true rfl) rfl wco_X3_init (fun X hX => ?_)
  refine gc_aload_n hX dX3_init_0 rfl rfl ?_
  refine gc_obj hX ob_w wml_295 (by decide) (Nat.le_of_ble_eq_true rfl) dX3_init_1 ?_
  refine gc_aload_n hX dX3_init_4 rfl rfl ?_
  refine gc_sipush hX dX3_init_5 ks_512 ?_
  refine gc_newI (n := 512) hX (show kd true 53 = 10 by decide +kernel) (by decide) (by decide) (by decide) (show ln true 53 = 512 by decide +kernel) (by decide) war_int (Nat.le_of_ble_eq_true rfl) (Nat.le_of_ble_eq_true rfl) dX3_init_8 ?_
  refine gc_putrF hX (show kd true 52 = 3 by decide +kernel) (by decide) (by decide) fgc_3_0 tfc_3_0 tyX3_ok nmX3 (show sr true 52 0 = 53 by decide +kernel) rfl rfl rfl rfl wfc_296 dX3_init_10 ?_
  refine gc_aload_n hX dX3_init_13 rfl rfl ?_
  refine gc_sipush hX dX3_init_14 ks_512 ?_
  refine gc_newI (n := 512) hX (show kd true 54 = 10 by decide +kernel) (by decide) (by decide) (by decide) (show ln true 54 = 512 by decide +kernel) (by decide) war_int (Nat.le_of_ble_eq_true rfl) (Nat.le_of_ble_eq_true rfl) dX3_init_17 ?_
  refine gc_putrF hX (show kd true 52 = 3 by decide +kernel) (by decide) (by decide) fgc_3_1 tfc_3_1 tyX3_ok nmX3 (show sr true 52 1 = 54 by decide +kernel) rfl rfl rfl rfl wfc_297 dX3_init_19 ?_
  exact gc_vret hX rfl rfl rfl dX3_init_22
def i_X6_init_55 (μ : Mem) : Mem := (up μ 55 0 1)
set_option maxRecDepth 100000 in
set_option maxHeartbeats 4000000 in
theorem ci_X6_init_55 {l : Launch} {D : DT} {base : Nat} {μ : Mem} (hD : ∀ i, i < 100 → D.1 i = base + i) : CtC l D true base 1 1 30 yX6_init cX6_init 1 [.ref (D.1 55)] 56 μ 57 (i_X6_init_55 μ) := by
  refine CtC.of (own := RX6) (lc0 := [some (.ref (D.1 55))]) pni_X6 rfl rfl hD (Nat.le_of_ble_eq_true rfl) rfl wco_X6_init (fun X hX => ?_)
  refine gc_aload_n hX dX6_init_0 rfl rfl ?_
  refine gc_obj hX ob_w wml_308 (by decide) (Nat.le_of_ble_eq_true rfl) dX6_init_1 ?_
  refine gc_aload_n hX dX6_init_4 rfl rfl ?_
  refine gc_bipush hX dX6_init_5 kb_30 ?_
  refine gc_newI (n := 30) hX (show kd true 56 = 10 by decide +kernel) (by decide) (by decide) (by decide) (show ln true 56 = 30 by decide +kernel) (by decide) war_int (Nat.le_of_ble_eq_true rfl) (Nat.le_of_ble_eq_true rfl) dX6_init_7 ?_
  refine gc_putrF hX (show kd true 55 = 6 by decide +kernel) (by decide) (by decide) fgc_6_0 tfc_6_0 tyX6_ok nmX6 (show sr true 55 0 = 56 by decide +kernel) rfl rfl rfl rfl wfc_309 dX6_init_9 ?_
  exact gc_vret hX rfl rfl rfl dX6_init_12
def i_X5_init_58 (μ : Mem) : Mem := (up (up (up μ 58 0 1) 58 1 0) 58 2 0)
set_option maxRecDepth 100000 in
set_option maxHeartbeats 4000000 in
theorem ci_X5_init_58 {l : Launch} {D : DT} {base : Nat} {μ : Mem} (hD : ∀ i, i < 100 → D.1 i = base + i) : CtC l D true base 1 1 24 yX5_init cX5_init 1 [.ref (D.1 58)] 59 μ 60 (i_X5_init_58 μ) := by
  refine CtC.of (own := RX5) (lc0 := [some (.ref (D.1 58))]) pni_X5 rfl rfl hD (Nat.le_of_ble_eq_true rfl) rfl wco_X5_init (fun X hX => ?_)
  refine gc_aload_n hX dX5_init_0 rfl rfl ?_
  refine gc_obj hX ob_w wml_337 (by decide) (Nat.le_of_ble_eq_true rfl) dX5_init_1 ?_
  refine gc_aload_n hX dX5_init_4 rfl rfl ?_
  refine gc_bipush hX dX5_init_5 kb_24 ?_
  refine gc_newI (n := 24) hX (show kd true 59 = 10 by decide +kernel) (by decide) (by decide) (by decide) (show ln true 59 = 24 by decide +kernel) (by decide) war_int (Nat.le_of_ble_eq_true rfl) (Nat.le_of_ble_eq_true rfl) dX5_init_7 ?_
  refine gc_putrF hX (show kd true 58 = 5 by decide +kernel) (by decide) (by decide) fgc_5_0 tfc_5_0 tyX5_ok nmX5 (show sr true 58 0 = 59 by decide +kernel) rfl rfl rfl rfl wfc_338 dX5_init_9 ?_
  refine gc_aload_n hX dX5_init_12 rfl rfl ?_
  refine gc_iconst hX dX5_init_13 k_0 ?_
  refine gc_puti hX (show kd true 58 = 5 by decide +kernel) (by decide) (by decide) fgc_5_1 tfc_5_1 tyX5_ok nmX5 rfl wfc_340 dX5_init_14 ?_
  refine gc_aload_n hX dX5_init_17 rfl rfl ?_
  refine gc_iconst hX dX5_init_18 k_0 ?_
  refine gc_puti hX (show kd true 58 = 5 by decide +kernel) (by decide) (by decide) fgc_5_2 tfc_5_2 tyX5_ok nmX5 rfl wfc_342 dX5_init_19 ?_
  exact gc_vret hX rfl rfl rfl dX5_init_22
def i_X5_init_60 (μ : Mem) : Mem := (up (up (up μ 60 0 1) 60 1 0) 60 2 0)
set_option maxRecDepth 100000 in
set_option maxHeartbeats 4000000 in
theorem ci_X5_init_60 {l : Launch} {D : DT} {base : Nat} {μ : Mem} (hD : ∀ i, i < 100 → D.1 i = base + i) : CtC l D true base 1 1 24 yX5_init cX5_init 1 [.ref (D.1 60)] 61 μ 62 (i_X5_init_60 μ) := by
  refine CtC.of (own := RX5) (lc0 := [some (.ref (D.1 60))]) pni_X5 rfl rfl hD (Nat.le_of_ble_eq_true rfl) rfl wco_X5_init (fun X hX => ?_)
  refine gc_aload_n hX dX5_init_0 rfl rfl ?_
  refine gc_obj hX ob_w wml_337 (by decide) (Nat.le_of_ble_eq_true rfl) dX5_init_1 ?_
  refine gc_aload_n hX dX5_init_4 rfl rfl ?_
  refine gc_bipush hX dX5_init_5 kb_24 ?_
  refine gc_newI (n := 24) hX (show kd true 61 = 10 by decide +kernel) (by decide) (by decide) (by decide) (show ln true 61 = 24 by decide +kernel) (by decide) war_int (Nat.le_of_ble_eq_true rfl) (Nat.le_of_ble_eq_true rfl) dX5_init_7 ?_
  refine gc_putrF hX (show kd true 60 = 5 by decide +kernel) (by decide) (by decide) fgc_5_0 tfc_5_0 tyX5_ok nmX5 (show sr true 60 0 = 61 by decide +kernel) rfl rfl rfl rfl wfc_338 dX5_init_9 ?_
  refine gc_aload_n hX dX5_init_12 rfl rfl ?_
  refine gc_iconst hX dX5_init_13 k_0 ?_
  refine gc_puti hX (show kd true 60 = 5 by decide +kernel) (by decide) (by decide) fgc_5_1 tfc_5_1 tyX5_ok nmX5 rfl wfc_340 dX5_init_14 ?_
  refine gc_aload_n hX dX5_init_17 rfl rfl ?_
  refine gc_iconst hX dX5_init_18 k_0 ?_
  refine gc_puti hX (show kd true 60 = 5 by decide +kernel) (by decide) (by decide) fgc_5_2 tfc_5_2 tyX5_ok nmX5 rfl wfc_342 dX5_init_19 ?_
  exact gc_vret hX rfl rfl rfl dX5_init_22
def i_X5_init_62 (μ : Mem) : Mem := (up (up (up μ 62 0 1) 62 1 0) 62 2 0)
set_option maxRecDepth 100000 in
set_option maxHeartbeats 4000000 in
theorem ci_X5_init_62 {l : Launch} {D : DT} {base : Nat} {μ : Mem} (hD : ∀ i, i < 100 → D.1 i = base + i) : CtC l D true base 1 1 24 yX5_init cX5_init 1 [.ref (D.1 62)] 63 μ 64 (i_X5_init_62 μ) := by
  refine CtC.of (own := RX5) (lc0 := [some (.ref (D.1 62))]) pni_X5 rfl rfl hD (Nat.le_of_ble_eq_true rfl) rfl wco_X5_init (fun X hX => ?_)
  refine gc_aload_n hX dX5_init_0 rfl rfl ?_
  refine gc_obj hX ob_w wml_337 (by decide) (Nat.le_of_ble_eq_true rfl) dX5_init_1 ?_
  refine gc_aload_n hX dX5_init_4 rfl rfl ?_
  refine gc_bipush hX dX5_init_5 kb_24 ?_
  refine gc_newI (n := 24) hX (show kd true 63 = 10 by decide +kernel) (by decide) (by decide) (by decide) (show ln true 63 = 24 by decide +kernel) (by decide) war_int (Nat.le_of_ble_eq_true rfl) (Nat.le_of_ble_eq_true rfl) dX5_init_7 ?_
  refine gc_putrF hX (show kd true 62 = 5 by decide +kernel) (by decide) (by decide) fgc_5_0 tfc_5_0 tyX5_ok nmX5 (show sr true 62 0 = 63 by decide +kernel) rfl rfl rfl rfl wfc_338 dX5_init_9 ?_
  refine gc_aload_n hX dX5_init_12 rfl rfl ?_
  refine gc_iconst hX dX5_init_13 k_0 ?_
  refine gc_puti hX (show kd true 62 = 5 by decide +kernel) (by decide) (by decide) fgc_5_1 tfc_5_1 tyX5_ok nmX5 rfl wfc_340 dX5_init_14 ?_
  refine gc_aload_n hX dX5_init_17 rfl rfl ?_
  refine gc_iconst hX dX5_init_18 k_0 ?_
  refine gc_puti hX (show kd true 62 = 5 by decide +kernel) (by decide) (by decide) fgc_5_2 tfc_5_2 tyX5_ok nmX5 rfl wfc_342 dX5_init_19 ?_
  exact gc_vret hX rfl rfl rfl dX5_init_22
def i_X5_init_64 (μ : Mem) : Mem := (up (up (up μ 64 0 1) 64 1 0) 64 2 0)
set_option maxRecDepth 100000 in
set_option maxHeartbeats 4000000 in
theorem ci_X5_init_64 {l : Launch} {D : DT} {base : Nat} {μ : Mem} (hD : ∀ i, i < 100 → D.1 i = base + i) : CtC l D true base 1 1 24 yX5_init cX5_init 1 [.ref (D.1 64)] 65 μ 66 (i_X5_init_64 μ) := by
  refine CtC.of (own := RX5) (lc0 := [some (.ref (D.1 64))]) pni_X5 rfl rfl hD (Nat.le_of_ble_eq_true rfl) rfl wco_X5_init (fun X hX => ?_)
  refine gc_aload_n hX dX5_init_0 rfl rfl ?_
  refine gc_obj hX ob_w wml_337 (by decide) (Nat.le_of_ble_eq_true rfl) dX5_init_1 ?_
  refine gc_aload_n hX dX5_init_4 rfl rfl ?_
  refine gc_bipush hX dX5_init_5 kb_24 ?_
  refine gc_newI (n := 24) hX (show kd true 65 = 10 by decide +kernel) (by decide) (by decide) (by decide) (show ln true 65 = 24 by decide +kernel) (by decide) war_int (Nat.le_of_ble_eq_true rfl) (Nat.le_of_ble_eq_true rfl) dX5_init_7 ?_
  refine gc_putrF hX (show kd true 64 = 5 by decide +kernel) (by decide) (by decide) fgc_5_0 tfc_5_0 tyX5_ok nmX5 (show sr true 64 0 = 65 by decide +kernel) rfl rfl rfl rfl wfc_338 dX5_init_9 ?_
  refine gc_aload_n hX dX5_init_12 rfl rfl ?_
  refine gc_iconst hX dX5_init_13 k_0 ?_
  refine gc_puti hX (show kd true 64 = 5 by decide +kernel) (by decide) (by decide) fgc_5_1 tfc_5_1 tyX5_ok nmX5 rfl wfc_340 dX5_init_14 ?_
  refine gc_aload_n hX dX5_init_17 rfl rfl ?_
  refine gc_iconst hX dX5_init_18 k_0 ?_
  refine gc_puti hX (show kd true 64 = 5 by decide +kernel) (by decide) (by decide) fgc_5_2 tfc_5_2 tyX5_ok nmX5 rfl wfc_342 dX5_init_19 ?_
  exact gc_vret hX rfl rfl rfl dX5_init_22
def i_X8_init_0 (μ : Mem) : Mem := (up (up (up (i_X5_init_64 (up (i_X5_init_62 (up (i_X5_init_60 (up (i_X5_init_58 (up (up (i_X6_init_55 (up (i_X3_init_52 (up (i_X4_init_48 (up (i_X2_init_39 (up (i_X0_init_20 (up (i_X0_init_1 μ) 0 0 1)) 0 1 1)) 0 2 1)) 0 3 1)) 0 4 1)) 0 5 1) 0 6 1)) 57 (ix 0) 1)) 57 (ix 1) 1)) 57 (ix 2) 1)) 57 (ix 3) 1) 0 7 1) 0 8 0)
set_option maxRecDepth 100000 in
set_option maxHeartbeats 4000000 in
theorem ci_X8_init_0 {l : Launch} {D : DT} {base : Nat} {μ : Mem} (hD : ∀ i, i < 100 → D.1 i = base + i) : CtC l D true base 3 66 2223 yX8_init cX8_init 2 [.ref (D.1 0)] 1 μ 67 (i_X8_init_0 μ) := by
  refine CtC.of (own := RX8) (lc0 := [some (.ref (D.1 0)), none]) pni_X8 rfl rfl hD (Nat.le_of_ble_eq_true rfl) rfl wco_X8_init (fun X hX => ?_)
  refine gc_aload_n hX dX8_init_0 rfl rfl ?_
  refine gc_obj hX ob_w wml_106 (by decide) (Nat.le_of_ble_eq_true rfl) dX8_init_1 ?_
  refine gc_aload_n hX dX8_init_4 rfl rfl ?_
  refine gc_new (ty0 := tyX0) hX (show kd true 1 = 0 by decide +kernel) (by decide) (by decide) rfl ws_X0 tyX0_ok df_0 wcl_109 win_0 wini_0 (Nat.le_of_ble_eq_true rfl) (Nat.le_of_ble_eq_true rfl) dX8_init_5 ?_
  refine gc_dup hX dX8_init_8 rfl ?_
  refine gc_call hX (ci_X0_init_1 hD) mi_X0_init wml_111 (by decide) rfl rfl (Nat.le_of_ble_eq_true rfl) (Nat.le_of_ble_eq_true rfl) (Nat.le_of_ble_eq_true rfl) dX8_init_9 ?_
  refine gc_putrF hX (show kd true 0 = 8 by decide +kernel) (by decide) (by decide) fgc_8_0 tfc_8_0 tyX8_ok nmX8 (show sr true 0 0 = 1 by decide +kernel) rfl rfl rfl rfl wfc_351 dX8_init_12 ?_
  refine gc_aload_n hX dX8_init_15 rfl rfl ?_
  refine gc_new (ty0 := tyX0) hX (show kd true 20 = 0 by decide +kernel) (by decide) (by decide) rfl ws_X0 tyX0_ok df_0 wcl_109 win_0 wini_0 (Nat.le_of_ble_eq_true rfl) (Nat.le_of_ble_eq_true rfl) dX8_init_16 ?_
  refine gc_dup hX dX8_init_19 rfl ?_
  refine gc_call hX (ci_X0_init_20 hD) mi_X0_init wml_111 (by decide) rfl rfl (Nat.le_of_ble_eq_true rfl) (Nat.le_of_ble_eq_true rfl) (Nat.le_of_ble_eq_true rfl) dX8_init_20 ?_
  refine gc_putrF hX (show kd true 0 = 8 by decide +kernel) (by decide) (by decide) fgc_8_1 tfc_8_1 tyX8_ok nmX8 (show sr true 0 1 = 20 by decide +kernel) rfl rfl rfl rfl wfc_352 dX8_init_23 ?_
  refine gc_aload_n hX dX8_init_26 rfl rfl ?_
  refine gc_new (ty0 := tyX2) hX (show kd true 39 = 2 by decide +kernel) (by decide) (by decide) rfl ws_X2 tyX2_ok df_2 wcl_260 win_2 wini_2 (Nat.le_of_ble_eq_true rfl) (Nat.le_of_ble_eq_true rfl) dX8_init_27 ?_
  refine gc_dup hX dX8_init_30 rfl ?_
  refine gc_aload_n hX dX8_init_31 rfl rfl ?_
  refine gc_getr hX (show kd true 0 = 8 by decide +kernel) (by decide) fgc_8_0 tfc_8_0 ?_ wfc_351 (show sr true 0 0 = 1 by decide +kernel) dX8_init_32 ?_
  · simp [up, i_X0_init_20, i_X0_init_1, i_X1_init_2, i_X1_init_21, i_X1_init_24, i_X1_init_5, i_X2_init_27, i_X2_init_8, i_X7_init_17, i_X7_init_36]
  refine gc_getr hX (show kd true 1 = 0 by decide +kernel) (by decide) fgc_0_0 tfc_0_0 ?_ wfc_232 (show sr true 1 0 = 2 by decide +kernel) dX8_init_35 ?_
  · simp [up, i_X0_init_20, i_X0_init_1, i_X1_init_2, i_X1_init_21, i_X1_init_24, i_X1_init_5, i_X2_init_27, i_X2_init_8, i_X7_init_17, i_X7_init_36]
  refine gc_aload_n hX dX8_init_38 rfl rfl ?_
  refine gc_getr hX (show kd true 0 = 8 by decide +kernel) (by decide) fgc_8_0 tfc_8_0 ?_ wfc_351 (show sr true 0 0 = 1 by decide +kernel) dX8_init_39 ?_
  · simp [up, i_X0_init_20, i_X0_init_1, i_X1_init_2, i_X1_init_21, i_X1_init_24, i_X1_init_5, i_X2_init_27, i_X2_init_8, i_X7_init_17, i_X7_init_36]
  refine gc_getr hX (show kd true 1 = 0 by decide +kernel) (by decide) fgc_0_1 tfc_0_1 ?_ wfc_234 (show sr true 1 1 = 5 by decide +kernel) dX8_init_42 ?_
  · simp [up, i_X0_init_20, i_X0_init_1, i_X1_init_2, i_X1_init_21, i_X1_init_24, i_X1_init_5, i_X2_init_27, i_X2_init_8, i_X7_init_17, i_X7_init_36]
  refine gc_call hX (ci_X2_init_39 hD) mi_X2_init wml_261 (by decide) rfl rfl (Nat.le_of_ble_eq_true rfl) (Nat.le_of_ble_eq_true rfl) (Nat.le_of_ble_eq_true rfl) dX8_init_45 ?_
  refine gc_putrF hX (show kd true 0 = 8 by decide +kernel) (by decide) (by decide) fgc_8_2 tfc_8_2 tyX8_ok nmX8 (show sr true 0 2 = 39 by decide +kernel) rfl rfl rfl rfl wfc_353 dX8_init_48 ?_
  refine gc_aload_n hX dX8_init_51 rfl rfl ?_
  refine gc_new (ty0 := tyX4) hX (show kd true 48 = 4 by decide +kernel) (by decide) (by decide) rfl ws_X4 tyX4_ok df_4 wcl_262 win_4 wini_4 (Nat.le_of_ble_eq_true rfl) (Nat.le_of_ble_eq_true rfl) dX8_init_52 ?_
  refine gc_dup hX dX8_init_55 rfl ?_
  refine gc_call hX (ci_X4_init_48 hD) mi_X4_init wml_264 (by decide) rfl rfl (Nat.le_of_ble_eq_true rfl) (Nat.le_of_ble_eq_true rfl) (Nat.le_of_ble_eq_true rfl) dX8_init_56 ?_
  refine gc_putrF hX (show kd true 0 = 8 by decide +kernel) (by decide) (by decide) fgc_8_3 tfc_8_3 tyX8_ok nmX8 (show sr true 0 3 = 48 by decide +kernel) rfl rfl rfl rfl wfc_354 dX8_init_59 ?_
  refine gc_aload_n hX dX8_init_62 rfl rfl ?_
  refine gc_new (ty0 := tyX3) hX (show kd true 52 = 3 by decide +kernel) (by decide) (by decide) rfl ws_X3 tyX3_ok df_3 wcl_290 win_3 wini_3 (Nat.le_of_ble_eq_true rfl) (Nat.le_of_ble_eq_true rfl) dX8_init_63 ?_
  refine gc_dup hX dX8_init_66 rfl ?_
  refine gc_call hX (ci_X3_init_52 hD) mi_X3_init wml_292 (by decide) rfl rfl (Nat.le_of_ble_eq_true rfl) (Nat.le_of_ble_eq_true rfl) (Nat.le_of_ble_eq_true rfl) dX8_init_67 ?_
  refine gc_putrF hX (show kd true 0 = 8 by decide +kernel) (by decide) (by decide) fgc_8_4 tfc_8_4 tyX8_ok nmX8 (show sr true 0 4 = 52 by decide +kernel) rfl rfl rfl rfl wfc_355 dX8_init_70 ?_
  refine gc_aload_n hX dX8_init_73 rfl rfl ?_
  refine gc_new (ty0 := tyX6) hX (show kd true 55 = 6 by decide +kernel) (by decide) (by decide) rfl ws_X6 tyX6_ok df_6 wcl_303 win_6 wini_6 (Nat.le_of_ble_eq_true rfl) (Nat.le_of_ble_eq_true rfl) dX8_init_74 ?_
  refine gc_dup hX dX8_init_77 rfl ?_
  refine gc_call hX (ci_X6_init_55 hD) mi_X6_init wml_305 (by decide) rfl rfl (Nat.le_of_ble_eq_true rfl) (Nat.le_of_ble_eq_true rfl) (Nat.le_of_ble_eq_true rfl) dX8_init_78 ?_
  refine gc_putrF hX (show kd true 0 = 8 by decide +kernel) (by decide) (by decide) fgc_8_5 tfc_8_5 tyX8_ok nmX8 (show sr true 0 5 = 55 by decide +kernel) rfl rfl rfl rfl wfc_356 dX8_init_81 ?_
  refine gc_aload_n hX dX8_init_84 rfl rfl ?_
  refine gc_iconst hX dX8_init_85 k_4 ?_
  refine gc_newQ (n := 4) hX rfl (show kd true 57 = 12 by decide +kernel) (by decide) (by decide) (by decide) (show ln true 57 = 4 by decide +kernel) (by decide) wcl_331 (Nat.le_of_ble_eq_true rfl) (Nat.le_of_ble_eq_true rfl) dX8_init_86 ?_
  refine gc_putrF hX (show kd true 0 = 8 by decide +kernel) (by decide) (by decide) fgc_8_6 tfc_8_6 tyX8_ok nmX8 (show sr true 0 6 = 57 by decide +kernel) rfl rfl rfl rfl wfc_357 dX8_init_89 ?_
  refine gc_iconst hX dX8_init_92 k_0 ?_
  refine gc_istore_n (lc' := [some _, some _]) hX dX8_init_93 rfl (by decide) rfl rfl ?_
  refine gc_iload_n hX dX8_init_94 rfl rfl ?_
  refine gc_iconst hX dX8_init_95 k_4 ?_
  refine gc_icmp_ge (tgt := 118) hX dX8_init_96 (by decide) (fun q => absurd q (by decide)) (fun _ => ?_)
  refine gc_aload_n hX dX8_init_99 rfl rfl ?_
  refine gc_getr hX (show kd true 0 = 8 by decide +kernel) (by decide) fgc_8_6 tfc_8_6 ?_ wfc_357 (show sr true 0 6 = 57 by decide +kernel) dX8_init_100 ?_
  · simp [up, i_X6_init_55, i_X3_init_52, i_X4_init_48, i_X2_init_39, i_X0_init_20, i_X0_init_1, i_X1_init_2, i_X1_init_21, i_X1_init_24, i_X1_init_5, i_X2_init_27, i_X2_init_8, i_X7_init_17, i_X7_init_36, i_X7_init_50]
  refine gc_iload_n hX dX8_init_103 rfl rfl ?_
  refine gc_new (ty0 := tyX5) hX (show kd true 58 = 5 by decide +kernel) (by decide) (by decide) rfl ws_X5 tyX5_ok df_5 wcl_331 win_5 wini_5 (Nat.le_of_ble_eq_true rfl) (Nat.le_of_ble_eq_true rfl) dX8_init_104 ?_
  refine gc_dup hX dX8_init_107 rfl ?_
  refine gc_call hX (ci_X5_init_58 hD) mi_X5_init wml_334 (by decide) rfl rfl (Nat.le_of_ble_eq_true rfl) (Nat.le_of_ble_eq_true rfl) (Nat.le_of_ble_eq_true rfl) dX8_init_108 ?_
  refine gc_aast hX rfl (show kd true 57 = 12 by decide +kernel) (by decide) (by decide) (show kd true 58 = 5 by decide +kernel) (by decide) (by decide +kernel) (show ln true 57 = 4 by decide +kernel) (by decide) dX8_init_111 ?_
  refine gc_iinc (y := 1) (lc' := [some _, some _]) hX dX8_init_112 (by decide) rfl (by decide) rfl rfl ?_
  refine gc_goto (tgt := 94) hX dX8_init_115 (by decide) ?_
  refine gc_iload_n hX dX8_init_94 rfl rfl ?_
  refine gc_iconst hX dX8_init_95 k_4 ?_
  refine gc_icmp_ge (tgt := 118) hX dX8_init_96 (by decide) (fun q => absurd q (by decide)) (fun _ => ?_)
  refine gc_aload_n hX dX8_init_99 rfl rfl ?_
  refine gc_getr hX (show kd true 0 = 8 by decide +kernel) (by decide) fgc_8_6 tfc_8_6 ?_ wfc_357 (show sr true 0 6 = 57 by decide +kernel) dX8_init_100 ?_
  · simp [up, i_X5_init_58, i_X6_init_55, i_X3_init_52, i_X4_init_48, i_X2_init_39, i_X0_init_20, i_X0_init_1, i_X1_init_2, i_X1_init_21, i_X1_init_24, i_X1_init_5, i_X2_init_27, i_X2_init_8, i_X7_init_17, i_X7_init_36, i_X7_init_50]
  refine gc_iload_n hX dX8_init_103 rfl rfl ?_
  refine gc_new (ty0 := tyX5) hX (show kd true 60 = 5 by decide +kernel) (by decide) (by decide) rfl ws_X5 tyX5_ok df_5 wcl_331 win_5 wini_5 (Nat.le_of_ble_eq_true rfl) (Nat.le_of_ble_eq_true rfl) dX8_init_104 ?_
  refine gc_dup hX dX8_init_107 rfl ?_
  refine gc_call hX (ci_X5_init_60 hD) mi_X5_init wml_334 (by decide) rfl rfl (Nat.le_of_ble_eq_true rfl) (Nat.le_of_ble_eq_true rfl) (Nat.le_of_ble_eq_true rfl) dX8_init_108 ?_
  refine gc_aast hX rfl (show kd true 57 = 12 by decide +kernel) (by decide) (by decide) (show kd true 60 = 5 by decide +kernel) (by decide) (by decide +kernel) (show ln true 57 = 4 by decide +kernel) (by decide) dX8_init_111 ?_
  refine gc_iinc (y := 2) (lc' := [some _, some _]) hX dX8_init_112 (by decide) rfl (by decide) rfl rfl ?_
  refine gc_goto (tgt := 94) hX dX8_init_115 (by decide) ?_
  refine gc_iload_n hX dX8_init_94 rfl rfl ?_
  refine gc_iconst hX dX8_init_95 k_4 ?_
  refine gc_icmp_ge (tgt := 118) hX dX8_init_96 (by decide) (fun q => absurd q (by decide)) (fun _ => ?_)
  refine gc_aload_n hX dX8_init_99 rfl rfl ?_
  refine gc_getr hX (show kd true 0 = 8 by decide +kernel) (by decide) fgc_8_6 tfc_8_6 ?_ wfc_357 (show sr true 0 6 = 57 by decide +kernel) dX8_init_100 ?_
  · simp [up, i_X5_init_60, i_X5_init_58, i_X6_init_55, i_X3_init_52, i_X4_init_48, i_X2_init_39, i_X0_init_20, i_X0_init_1, i_X1_init_2, i_X1_init_21, i_X1_init_24, i_X1_init_5, i_X2_init_27, i_X2_init_8, i_X7_init_17, i_X7_init_36, i_X7_init_50]
  refine gc_iload_n hX dX8_init_103 rfl rfl ?_
  refine gc_new (ty0 := tyX5) hX (show kd true 62 = 5 by decide +kernel) (by decide) (by decide) rfl ws_X5 tyX5_ok df_5 wcl_331 win_5 wini_5 (Nat.le_of_ble_eq_true rfl) (Nat.le_of_ble_eq_true rfl) dX8_init_104 ?_
  refine gc_dup hX dX8_init_107 rfl ?_
  refine gc_call hX (ci_X5_init_62 hD) mi_X5_init wml_334 (by decide) rfl rfl (Nat.le_of_ble_eq_true rfl) (Nat.le_of_ble_eq_true rfl) (Nat.le_of_ble_eq_true rfl) dX8_init_108 ?_
  refine gc_aast hX rfl (show kd true 57 = 12 by decide +kernel) (by decide) (by decide) (show kd true 62 = 5 by decide +kernel) (by decide) (by decide +kernel) (show ln true 57 = 4 by decide +kernel) (by decide) dX8_init_111 ?_
  refine gc_iinc (y := 3) (lc' := [some _, some _]) hX dX8_init_112 (by decide) rfl (by decide) rfl rfl ?_
  refine gc_goto (tgt := 94) hX dX8_init_115 (by decide) ?_
  refine gc_iload_n hX dX8_init_94 rfl rfl ?_
  refine gc_iconst hX dX8_init_95 k_4 ?_
  refine gc_icmp_ge (tgt := 118) hX dX8_init_96 (by decide) (fun q => absurd q (by decide)) (fun _ => ?_)
  refine gc_aload_n hX dX8_init_99 rfl rfl ?_
  refine gc_getr hX (show kd true 0 = 8 by decide +kernel) (by decide) fgc_8_6 tfc_8_6 ?_ wfc_357 (show sr true 0 6 = 57 by decide +kernel) dX8_init_100 ?_
  · simp [up, i_X5_init_62, i_X5_init_60, i_X5_init_58, i_X6_init_55, i_X3_init_52, i_X4_init_48, i_X2_init_39, i_X0_init_20, i_X0_init_1, i_X1_init_2, i_X1_init_21, i_X1_init_24, i_X1_init_5, i_X2_init_27, i_X2_init_8, i_X7_init_17, i_X7_init_36, i_X7_init_50]
  refine gc_iload_n hX dX8_init_103 rfl rfl ?_
  refine gc_new (ty0 := tyX5) hX (show kd true 64 = 5 by decide +kernel) (by decide) (by decide) rfl ws_X5 tyX5_ok df_5 wcl_331 win_5 wini_5 (Nat.le_of_ble_eq_true rfl) (Nat.le_of_ble_eq_true rfl) dX8_init_104 ?_
  refine gc_dup hX dX8_init_107 rfl ?_
  refine gc_call hX (ci_X5_init_64 hD) mi_X5_init wml_334 (by decide) rfl rfl (Nat.le_of_ble_eq_true rfl) (Nat.le_of_ble_eq_true rfl) (Nat.le_of_ble_eq_true rfl) dX8_init_108 ?_
  refine gc_aast hX rfl (show kd true 57 = 12 by decide +kernel) (by decide) (by decide) (show kd true 64 = 5 by decide +kernel) (by decide) (by decide +kernel) (show ln true 57 = 4 by decide +kernel) (by decide) dX8_init_111 ?_
  refine gc_iinc (y := 4) (lc' := [some _, some _]) hX dX8_init_112 (by decide) rfl (by decide) rfl rfl ?_
  refine gc_goto (tgt := 94) hX dX8_init_115 (by decide) ?_
  refine gc_iload_n hX dX8_init_94 rfl rfl ?_
  refine gc_iconst hX dX8_init_95 k_4 ?_
  refine gc_icmp_ge (tgt := 118) hX dX8_init_96 (by decide) (fun _ => ?_) (fun q => absurd (by decide) q)
  refine gc_aload_n hX dX8_init_118 rfl rfl ?_
  refine gc_bipush hX dX8_init_119 kb_7 ?_
  refine gc_newI (n := 7) hX (show kd true 66 = 10 by decide +kernel) (by decide) (by decide) (by decide) (show ln true 66 = 7 by decide +kernel) (by decide) war_int (Nat.le_of_ble_eq_true rfl) (Nat.le_of_ble_eq_true rfl) dX8_init_121 ?_
  refine gc_putrF hX (show kd true 0 = 8 by decide +kernel) (by decide) (by decide) fgc_8_7 tfc_8_7 tyX8_ok nmX8 (show sr true 0 7 = 66 by decide +kernel) rfl rfl rfl rfl wfc_358 dX8_init_123 ?_
  refine gc_aload_n hX dX8_init_126 rfl rfl ?_
  refine gc_iconst hX dX8_init_127 k_0 ?_
  refine gc_puti hX (show kd true 0 = 8 by decide +kernel) (by decide) (by decide) fgc_8_8 tfc_8_8 tyX8_ok nmX8 rfl wfc_359 dX8_init_128 ?_
  exact gc_vret hX rfl rfl rfl dX8_init_131
def i_X9_init_0 (μ : Mem) : Mem := (up (up (up (up (up (up (up (up (up (up (up (up (up (up (up (up (up (up (up (up (up (up (up μ 0 0 1) 0 1 1) 0 2 1) 0 4 1) 0 5 1) 0 6 1) 0 7 1) 0 8 1) 0 9 1) 0 10 1) 0 11 1) 0 17 1) 0 18 1) 0 19 1) 0 20 1) 1 (ix 1) 1) 1 (ix 8) 20) 1 (ix 9) 20) 1 (ix 10) 20) 1 (ix 11) 20) 1 (ix 12) 20) 1 (ix 13) 20) 1 (ix 14) 20)
set_option maxRecDepth 100000 in
set_option maxHeartbeats 4000000 in
theorem ci_X9_init_0 {l : Launch} {D : DT} {base : Nat} {μ : Mem} (hD : ∀ i, i < 100 → D.1 i = base + i) : CtC l D false base 1 15 3045 yX9_init cX9_init 2 [.ref (D.1 0)] 1 μ 16 (i_X9_init_0 μ) := by
  refine CtC.of (own := RX9) (lc0 := [some (.ref (D.1 0)), none]) pni_X9 rfl rfl hD (Nat.le_of_ble_eq_true rfl) rfl wco_X9_init (fun X hX => ?_)
  refine gc_aload_n hX dX9_init_0 rfl rfl ?_
  refine gc_obj hX ob_w wml_969 (by decide) (Nat.le_of_ble_eq_true rfl) dX9_init_1 ?_
  refine gc_aload_n hX dX9_init_4 rfl rfl ?_
  refine gc_sipush hX dX9_init_5 ks_395 ?_
  refine gc_newI (n := 395) hX (show kd false 1 = 10 by decide +kernel) (by decide) (by decide) (by decide) (show ln false 1 = 395 by decide +kernel) (by decide) war_int (Nat.le_of_ble_eq_true rfl) (Nat.le_of_ble_eq_true rfl) dX9_init_8 ?_
  refine gc_putrF hX (show kd false 0 = 9 by decide +kernel) (by decide) (by decide) fgc_9_0 tfc_9_0 tyX9_ok nmX9 (show sr false 0 0 = 1 by decide +kernel) rfl rfl rfl rfl wfc_970 dX9_init_10 ?_
  refine gc_aload_n hX dX9_init_13 rfl rfl ?_
  refine gc_sipush hX dX9_init_14 ks_395 ?_
  refine gc_newI (n := 395) hX (show kd false 2 = 10 by decide +kernel) (by decide) (by decide) (by decide) (show ln false 2 = 395 by decide +kernel) (by decide) war_int (Nat.le_of_ble_eq_true rfl) (Nat.le_of_ble_eq_true rfl) dX9_init_17 ?_
  refine gc_putrF hX (show kd false 0 = 9 by decide +kernel) (by decide) (by decide) fgc_9_1 tfc_9_1 tyX9_ok nmX9 (show sr false 0 1 = 2 by decide +kernel) rfl rfl rfl rfl wfc_971 dX9_init_19 ?_
  refine gc_aload_n hX dX9_init_22 rfl rfl ?_
  refine gc_sipush hX dX9_init_23 ks_395 ?_
  refine gc_newI (n := 395) hX (show kd false 3 = 10 by decide +kernel) (by decide) (by decide) (by decide) (show ln false 3 = 395 by decide +kernel) (by decide) war_int (Nat.le_of_ble_eq_true rfl) (Nat.le_of_ble_eq_true rfl) dX9_init_26 ?_
  refine gc_putrF hX (show kd false 0 = 9 by decide +kernel) (by decide) (by decide) fgc_9_2 tfc_9_2 tyX9_ok nmX9 (show sr false 0 2 = 3 by decide +kernel) rfl rfl rfl rfl wfc_972 dX9_init_28 ?_
  refine gc_aload_n hX dX9_init_31 rfl rfl ?_
  refine gc_bipush hX dX9_init_32 kb_7 ?_
  refine gc_newI (n := 7) hX (show kd false 4 = 10 by decide +kernel) (by decide) (by decide) (by decide) (show ln false 4 = 7 by decide +kernel) (by decide) war_int (Nat.le_of_ble_eq_true rfl) (Nat.le_of_ble_eq_true rfl) dX9_init_34 ?_
  refine gc_putrF hX (show kd false 0 = 9 by decide +kernel) (by decide) (by decide) fgc_9_4 tfc_9_4 tyX9_ok nmX9 (show sr false 0 4 = 4 by decide +kernel) rfl rfl rfl rfl wfc_974 dX9_init_36 ?_
  refine gc_aload_n hX dX9_init_39 rfl rfl ?_
  refine gc_iconst hX dX9_init_40 k_4 ?_
  refine gc_newI (n := 4) hX (show kd false 5 = 10 by decide +kernel) (by decide) (by decide) (by decide) (show ln false 5 = 4 by decide +kernel) (by decide) war_int (Nat.le_of_ble_eq_true rfl) (Nat.le_of_ble_eq_true rfl) dX9_init_41 ?_
  refine gc_putrF hX (show kd false 0 = 9 by decide +kernel) (by decide) (by decide) fgc_9_5 tfc_9_5 tyX9_ok nmX9 (show sr false 0 5 = 5 by decide +kernel) rfl rfl rfl rfl wfc_975 dX9_init_43 ?_
  refine gc_aload_n hX dX9_init_46 rfl rfl ?_
  refine gc_iconst hX dX9_init_47 k_4 ?_
  refine gc_newI (n := 4) hX (show kd false 6 = 10 by decide +kernel) (by decide) (by decide) (by decide) (show ln false 6 = 4 by decide +kernel) (by decide) war_int (Nat.le_of_ble_eq_true rfl) (Nat.le_of_ble_eq_true rfl) dX9_init_48 ?_
  refine gc_putrF hX (show kd false 0 = 9 by decide +kernel) (by decide) (by decide) fgc_9_6 tfc_9_6 tyX9_ok nmX9 (show sr false 0 6 = 6 by decide +kernel) rfl rfl rfl rfl wfc_976 dX9_init_50 ?_
  refine gc_aload_n hX dX9_init_53 rfl rfl ?_
  refine gc_bipush hX dX9_init_54 kb_96 ?_
  refine gc_newI (n := 96) hX (show kd false 7 = 10 by decide +kernel) (by decide) (by decide) (by decide) (show ln false 7 = 96 by decide +kernel) (by decide) war_int (Nat.le_of_ble_eq_true rfl) (Nat.le_of_ble_eq_true rfl) dX9_init_56 ?_
  refine gc_putrF hX (show kd false 0 = 9 by decide +kernel) (by decide) (by decide) fgc_9_7 tfc_9_7 tyX9_ok nmX9 (show sr false 0 7 = 7 by decide +kernel) rfl rfl rfl rfl wfc_977 dX9_init_58 ?_
  refine gc_aload_n hX dX9_init_61 rfl rfl ?_
  refine gc_bipush hX dX9_init_62 kb_60 ?_
  refine gc_newI (n := 60) hX (show kd false 8 = 10 by decide +kernel) (by decide) (by decide) (by decide) (show ln false 8 = 60 by decide +kernel) (by decide) war_int (Nat.le_of_ble_eq_true rfl) (Nat.le_of_ble_eq_true rfl) dX9_init_64 ?_
  refine gc_putrF hX (show kd false 0 = 9 by decide +kernel) (by decide) (by decide) fgc_9_8 tfc_9_8 tyX9_ok nmX9 (show sr false 0 8 = 8 by decide +kernel) rfl rfl rfl rfl wfc_978 dX9_init_66 ?_
  refine gc_aload_n hX dX9_init_69 rfl rfl ?_
  refine gc_bipush hX dX9_init_70 kb_60 ?_
  refine gc_newI (n := 60) hX (show kd false 9 = 10 by decide +kernel) (by decide) (by decide) (by decide) (show ln false 9 = 60 by decide +kernel) (by decide) war_int (Nat.le_of_ble_eq_true rfl) (Nat.le_of_ble_eq_true rfl) dX9_init_72 ?_
  refine gc_putrF hX (show kd false 0 = 9 by decide +kernel) (by decide) (by decide) fgc_9_9 tfc_9_9 tyX9_ok nmX9 (show sr false 0 9 = 9 by decide +kernel) rfl rfl rfl rfl wfc_979 dX9_init_74 ?_
  refine gc_aload_n hX dX9_init_77 rfl rfl ?_
  refine gc_iconst hX dX9_init_78 k_3 ?_
  refine gc_newI (n := 3) hX (show kd false 10 = 10 by decide +kernel) (by decide) (by decide) (by decide) (show ln false 10 = 3 by decide +kernel) (by decide) war_int (Nat.le_of_ble_eq_true rfl) (Nat.le_of_ble_eq_true rfl) dX9_init_79 ?_
  refine gc_putrF hX (show kd false 0 = 9 by decide +kernel) (by decide) (by decide) fgc_9_10 tfc_9_10 tyX9_ok nmX9 (show sr false 0 10 = 10 by decide +kernel) rfl rfl rfl rfl wfc_980 dX9_init_81 ?_
  refine gc_aload_n hX dX9_init_84 rfl rfl ?_
  refine gc_bipush hX dX9_init_85 kb_60 ?_
  refine gc_newI (n := 60) hX (show kd false 11 = 10 by decide +kernel) (by decide) (by decide) (by decide) (show ln false 11 = 60 by decide +kernel) (by decide) war_int (Nat.le_of_ble_eq_true rfl) (Nat.le_of_ble_eq_true rfl) dX9_init_87 ?_
  refine gc_putrF hX (show kd false 0 = 9 by decide +kernel) (by decide) (by decide) fgc_9_11 tfc_9_11 tyX9_ok nmX9 (show sr false 0 11 = 11 by decide +kernel) rfl rfl rfl rfl wfc_981 dX9_init_89 ?_
  refine gc_aload_n hX dX9_init_92 rfl rfl ?_
  refine gc_sipush hX dX9_init_93 ks_512 ?_
  refine gc_newI (n := 512) hX (show kd false 12 = 10 by decide +kernel) (by decide) (by decide) (by decide) (show ln false 12 = 512 by decide +kernel) (by decide) war_int (Nat.le_of_ble_eq_true rfl) (Nat.le_of_ble_eq_true rfl) dX9_init_96 ?_
  refine gc_putrF hX (show kd false 0 = 9 by decide +kernel) (by decide) (by decide) fgc_9_17 tfc_9_17 tyX9_ok nmX9 (show sr false 0 17 = 12 by decide +kernel) rfl rfl rfl rfl wfc_987 dX9_init_98 ?_
  refine gc_aload_n hX dX9_init_101 rfl rfl ?_
  refine gc_sipush hX dX9_init_102 ks_512 ?_
  refine gc_newI (n := 512) hX (show kd false 13 = 10 by decide +kernel) (by decide) (by decide) (by decide) (show ln false 13 = 512 by decide +kernel) (by decide) war_int (Nat.le_of_ble_eq_true rfl) (Nat.le_of_ble_eq_true rfl) dX9_init_105 ?_
  refine gc_putrF hX (show kd false 0 = 9 by decide +kernel) (by decide) (by decide) fgc_9_18 tfc_9_18 tyX9_ok nmX9 (show sr false 0 18 = 13 by decide +kernel) rfl rfl rfl rfl wfc_988 dX9_init_107 ?_
  refine gc_aload_n hX dX9_init_110 rfl rfl ?_
  refine gc_sipush hX dX9_init_111 ks_512 ?_
  refine gc_newI (n := 512) hX (show kd false 14 = 10 by decide +kernel) (by decide) (by decide) (by decide) (show ln false 14 = 512 by decide +kernel) (by decide) war_int (Nat.le_of_ble_eq_true rfl) (Nat.le_of_ble_eq_true rfl) dX9_init_114 ?_
  refine gc_putrF hX (show kd false 0 = 9 by decide +kernel) (by decide) (by decide) fgc_9_19 tfc_9_19 tyX9_ok nmX9 (show sr false 0 19 = 14 by decide +kernel) rfl rfl rfl rfl wfc_989 dX9_init_116 ?_
  refine gc_aload_n hX dX9_init_119 rfl rfl ?_
  refine gc_bipush hX dX9_init_120 kb_30 ?_
  refine gc_newI (n := 30) hX (show kd false 15 = 10 by decide +kernel) (by decide) (by decide) (by decide) (show ln false 15 = 30 by decide +kernel) (by decide) war_int (Nat.le_of_ble_eq_true rfl) (Nat.le_of_ble_eq_true rfl) dX9_init_122 ?_
  refine gc_putrF hX (show kd false 0 = 9 by decide +kernel) (by decide) (by decide) fgc_9_20 tfc_9_20 tyX9_ok nmX9 (show sr false 0 20 = 15 by decide +kernel) rfl rfl rfl rfl wfc_990 dX9_init_124 ?_
  refine gc_aload_n hX dX9_init_127 rfl rfl ?_
  refine gc_getr hX (show kd false 0 = 9 by decide +kernel) (by decide) fgc_9_0 tfc_9_0 ?_ wfc_970 (show sr false 0 0 = 1 by decide +kernel) dX9_init_128 ?_
  · simp [up]
  refine gc_iconst hX dX9_init_131 k_1 ?_
  refine gc_iconst hX dX9_init_132 k_1 ?_
  refine gc_iast hX (show kd false 1 = 10 by decide +kernel) (by decide) (by decide) (show ln false 1 = 395 by decide +kernel) (by decide) dX9_init_133 ?_
  refine gc_iconst hX dX9_init_134 k_0 ?_
  refine gc_istore_n (lc' := [some _, some _]) hX dX9_init_135 rfl (by decide) rfl rfl ?_
  refine gc_iload_n hX dX9_init_136 rfl rfl ?_
  refine gc_bipush hX dX9_init_137 kb_7 ?_
  refine gc_icmp_ge (tgt := 159) hX dX9_init_139 (by decide) (fun q => absurd q (by decide)) (fun _ => ?_)
  refine gc_aload_n hX dX9_init_142 rfl rfl ?_
  refine gc_getr hX (show kd false 0 = 9 by decide +kernel) (by decide) fgc_9_0 tfc_9_0 ?_ wfc_970 (show sr false 0 0 = 1 by decide +kernel) dX9_init_143 ?_
  · simp [up]
  refine gc_bipush hX dX9_init_146 kb_8 ?_
  refine gc_iload_n hX dX9_init_148 rfl rfl ?_
  refine gc_iadd hX dX9_init_149 ?_
  rw [show ((8 : Int32) + 0) = 8 by decide]
  refine gc_bipush hX dX9_init_150 kb_20 ?_
  refine gc_iast hX (show kd false 1 = 10 by decide +kernel) (by decide) (by decide) (show ln false 1 = 395 by decide +kernel) (by decide) dX9_init_152 ?_
  refine gc_iinc (y := 1) (lc' := [some _, some _]) hX dX9_init_153 (by decide) rfl (by decide) rfl rfl ?_
  refine gc_goto (tgt := 136) hX dX9_init_156 (by decide) ?_
  refine gc_iload_n hX dX9_init_136 rfl rfl ?_
  refine gc_bipush hX dX9_init_137 kb_7 ?_
  refine gc_icmp_ge (tgt := 159) hX dX9_init_139 (by decide) (fun q => absurd q (by decide)) (fun _ => ?_)
  refine gc_aload_n hX dX9_init_142 rfl rfl ?_
  refine gc_getr hX (show kd false 0 = 9 by decide +kernel) (by decide) fgc_9_0 tfc_9_0 ?_ wfc_970 (show sr false 0 0 = 1 by decide +kernel) dX9_init_143 ?_
  · simp [up]
  refine gc_bipush hX dX9_init_146 kb_8 ?_
  refine gc_iload_n hX dX9_init_148 rfl rfl ?_
  refine gc_iadd hX dX9_init_149 ?_
  rw [show ((8 : Int32) + 1) = 9 by decide]
  refine gc_bipush hX dX9_init_150 kb_20 ?_
  refine gc_iast hX (show kd false 1 = 10 by decide +kernel) (by decide) (by decide) (show ln false 1 = 395 by decide +kernel) (by decide) dX9_init_152 ?_
  refine gc_iinc (y := 2) (lc' := [some _, some _]) hX dX9_init_153 (by decide) rfl (by decide) rfl rfl ?_
  refine gc_goto (tgt := 136) hX dX9_init_156 (by decide) ?_
  refine gc_iload_n hX dX9_init_136 rfl rfl ?_
  refine gc_bipush hX dX9_init_137 kb_7 ?_
  refine gc_icmp_ge (tgt := 159) hX dX9_init_139 (by decide) (fun q => absurd q (by decide)) (fun _ => ?_)
  refine gc_aload_n hX dX9_init_142 rfl rfl ?_
  refine gc_getr hX (show kd false 0 = 9 by decide +kernel) (by decide) fgc_9_0 tfc_9_0 ?_ wfc_970 (show sr false 0 0 = 1 by decide +kernel) dX9_init_143 ?_
  · simp [up]
  refine gc_bipush hX dX9_init_146 kb_8 ?_
  refine gc_iload_n hX dX9_init_148 rfl rfl ?_
  refine gc_iadd hX dX9_init_149 ?_
  rw [show ((8 : Int32) + 2) = 10 by decide]
  refine gc_bipush hX dX9_init_150 kb_20 ?_
  refine gc_iast hX (show kd false 1 = 10 by decide +kernel) (by decide) (by decide) (show ln false 1 = 395 by decide +kernel) (by decide) dX9_init_152 ?_
  refine gc_iinc (y := 3) (lc' := [some _, some _]) hX dX9_init_153 (by decide) rfl (by decide) rfl rfl ?_
  refine gc_goto (tgt := 136) hX dX9_init_156 (by decide) ?_
  refine gc_iload_n hX dX9_init_136 rfl rfl ?_
  refine gc_bipush hX dX9_init_137 kb_7 ?_
  refine gc_icmp_ge (tgt := 159) hX dX9_init_139 (by decide) (fun q => absurd q (by decide)) (fun _ => ?_)
  refine gc_aload_n hX dX9_init_142 rfl rfl ?_
  refine gc_getr hX (show kd false 0 = 9 by decide +kernel) (by decide) fgc_9_0 tfc_9_0 ?_ wfc_970 (show sr false 0 0 = 1 by decide +kernel) dX9_init_143 ?_
  · simp [up]
  refine gc_bipush hX dX9_init_146 kb_8 ?_
  refine gc_iload_n hX dX9_init_148 rfl rfl ?_
  refine gc_iadd hX dX9_init_149 ?_
  rw [show ((8 : Int32) + 3) = 11 by decide]
  refine gc_bipush hX dX9_init_150 kb_20 ?_
  refine gc_iast hX (show kd false 1 = 10 by decide +kernel) (by decide) (by decide) (show ln false 1 = 395 by decide +kernel) (by decide) dX9_init_152 ?_
  refine gc_iinc (y := 4) (lc' := [some _, some _]) hX dX9_init_153 (by decide) rfl (by decide) rfl rfl ?_
  refine gc_goto (tgt := 136) hX dX9_init_156 (by decide) ?_
  refine gc_iload_n hX dX9_init_136 rfl rfl ?_
  refine gc_bipush hX dX9_init_137 kb_7 ?_
  refine gc_icmp_ge (tgt := 159) hX dX9_init_139 (by decide) (fun q => absurd q (by decide)) (fun _ => ?_)
  refine gc_aload_n hX dX9_init_142 rfl rfl ?_
  refine gc_getr hX (show kd false 0 = 9 by decide +kernel) (by decide) fgc_9_0 tfc_9_0 ?_ wfc_970 (show sr false 0 0 = 1 by decide +kernel) dX9_init_143 ?_
  · simp [up]
  refine gc_bipush hX dX9_init_146 kb_8 ?_
  refine gc_iload_n hX dX9_init_148 rfl rfl ?_
  refine gc_iadd hX dX9_init_149 ?_
  rw [show ((8 : Int32) + 4) = 12 by decide]
  refine gc_bipush hX dX9_init_150 kb_20 ?_
  refine gc_iast hX (show kd false 1 = 10 by decide +kernel) (by decide) (by decide) (show ln false 1 = 395 by decide +kernel) (by decide) dX9_init_152 ?_
  refine gc_iinc (y := 5) (lc' := [some _, some _]) hX dX9_init_153 (by decide) rfl (by decide) rfl rfl ?_
  refine gc_goto (tgt := 136) hX dX9_init_156 (by decide) ?_
  refine gc_iload_n hX dX9_init_136 rfl rfl ?_
  refine gc_bipush hX dX9_init_137 kb_7 ?_
  refine gc_icmp_ge (tgt := 159) hX dX9_init_139 (by decide) (fun q => absurd q (by decide)) (fun _ => ?_)
  refine gc_aload_n hX dX9_init_142 rfl rfl ?_
  refine gc_getr hX (show kd false 0 = 9 by decide +kernel) (by decide) fgc_9_0 tfc_9_0 ?_ wfc_970 (show sr false 0 0 = 1 by decide +kernel) dX9_init_143 ?_
  · simp [up]
  refine gc_bipush hX dX9_init_146 kb_8 ?_
  refine gc_iload_n hX dX9_init_148 rfl rfl ?_
  refine gc_iadd hX dX9_init_149 ?_
  rw [show ((8 : Int32) + 5) = 13 by decide]
  refine gc_bipush hX dX9_init_150 kb_20 ?_
  refine gc_iast hX (show kd false 1 = 10 by decide +kernel) (by decide) (by decide) (show ln false 1 = 395 by decide +kernel) (by decide) dX9_init_152 ?_
  refine gc_iinc (y := 6) (lc' := [some _, some _]) hX dX9_init_153 (by decide) rfl (by decide) rfl rfl ?_
  refine gc_goto (tgt := 136) hX dX9_init_156 (by decide) ?_
  refine gc_iload_n hX dX9_init_136 rfl rfl ?_
  refine gc_bipush hX dX9_init_137 kb_7 ?_
  refine gc_icmp_ge (tgt := 159) hX dX9_init_139 (by decide) (fun q => absurd q (by decide)) (fun _ => ?_)
  refine gc_aload_n hX dX9_init_142 rfl rfl ?_
  refine gc_getr hX (show kd false 0 = 9 by decide +kernel) (by decide) fgc_9_0 tfc_9_0 ?_ wfc_970 (show sr false 0 0 = 1 by decide +kernel) dX9_init_143 ?_
  · simp [up]
  refine gc_bipush hX dX9_init_146 kb_8 ?_
  refine gc_iload_n hX dX9_init_148 rfl rfl ?_
  refine gc_iadd hX dX9_init_149 ?_
  rw [show ((8 : Int32) + 6) = 14 by decide]
  refine gc_bipush hX dX9_init_150 kb_20 ?_
  refine gc_iast hX (show kd false 1 = 10 by decide +kernel) (by decide) (by decide) (show ln false 1 = 395 by decide +kernel) (by decide) dX9_init_152 ?_
  refine gc_iinc (y := 7) (lc' := [some _, some _]) hX dX9_init_153 (by decide) rfl (by decide) rfl rfl ?_
  refine gc_goto (tgt := 136) hX dX9_init_156 (by decide) ?_
  refine gc_iload_n hX dX9_init_136 rfl rfl ?_
  refine gc_bipush hX dX9_init_137 kb_7 ?_
  refine gc_icmp_ge (tgt := 159) hX dX9_init_139 (by decide) (fun _ => ?_) (fun q => absurd (by decide) q)
  exact gc_vret hX rfl rfl rfl dX9_init_159
