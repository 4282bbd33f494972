set_option maxRecDepth 100000 in
set_option maxHeartbeats 4000000 in
theorem c_X9_twoOf {l : Launch} {D : DT} {μ : Mem} {r : Int32} (v0 : Int32) (v1 : Int32) (v2 : Int32) (h : f_X9_twoOf v0 v1 v2 = some r) : Ct l D false 1 yX9_twoOf cX9_twoOf 3 (some FieldType.int) [.int v0, .int v1, .int v2] μ (some (.int r)) μ := by
  refine Ct.of (own := RX9) (lc0 := [some (.int v0), some (.int v1), some (.int v2)]) pn_X9 rfl (Nat.le_of_ble_eq_true rfl) rfl mv_X9_twoOf.2.2.1 (fun X hX => ?_)
  unfold f_X9_twoOf at h
  refine g_iload_n hX dX9_twoOf_0 rfl rfl ?_
  by_cases q1 : v0 = 37
  · rw [if_pos q1] at h
    refine g_tsIn (tgt := 144) (off := 143) hX dX9_twoOf_1 (by rw [q1] <;> decide) (by rw [q1] <;> decide) (by rw [q1] <;> rfl) (by decide) ?_
    refine g_iload_n hX dX9_twoOf_144 rfl rfl ?_
    refine g_if_ne (tgt := 152) hX dX9_twoOf_145 (by decide) (fun q2 => ?_) (fun q2 => ?_)
    · rw [if_neg q2] at h
      refine g_iload_n hX dX9_twoOf_152 rfl rfl ?_
      refine g_iload_n hX dX9_twoOf_153 rfl rfl ?_
      obtain ⟨z3, h⟩ := ck_some h
      refine g_irem hX (nz_ne z3) dX9_twoOf_154 ?_
      obtain rfl := Option.some.inj h
      exact g_iret hX rfl rfl dX9_twoOf_155
    · rw [if_pos q2] at h
      refine g_iconst hX dX9_twoOf_148 k_0 ?_
      refine g_goto (tgt := 155) hX dX9_twoOf_149 (by decide) ?_
      obtain rfl := Option.some.inj h
      exact g_iret hX rfl rfl dX9_twoOf_155
  rw [if_neg q1] at h
  have eq1_37 := ts_ne (c := 37) (k := 37) q1 (by decide)
  by_cases q4 : v0 = 38
  · rw [if_pos q4] at h
    refine g_tsIn (tgt := 189) (off := 188) hX dX9_twoOf_1 (by rw [q4] <;> decide) (by rw [q4] <;> decide) (by rw [q4] <;> rfl) (by decide) ?_
    refine g_iload_n hX dX9_twoOf_189 rfl rfl ?_
    refine g_if_eq (tgt := 201) hX dX9_twoOf_190 (by decide) (fun q5 => ?_) (fun q5 => ?_)
    · rw [if_pos q5] at h
      refine g_iconst hX dX9_twoOf_201 k_0 ?_
      obtain rfl := Option.some.inj h
      exact g_iret hX rfl rfl dX9_twoOf_202
    · rw [if_neg q5] at h
      refine g_iload_n hX dX9_twoOf_193 rfl rfl ?_
      refine g_if_eq (tgt := 201) hX dX9_twoOf_194 (by decide) (fun q6 => ?_) (fun q6 => ?_)
      · rw [if_pos q6] at h
        refine g_iconst hX dX9_twoOf_201 k_0 ?_
        obtain rfl := Option.some.inj h
        exact g_iret hX rfl rfl dX9_twoOf_202
      · rw [if_neg q6] at h
        refine g_iconst hX dX9_twoOf_197 k_1 ?_
        refine g_goto (tgt := 202) hX dX9_twoOf_198 (by decide) ?_
        obtain rfl := Option.some.inj h
        exact g_iret hX rfl rfl dX9_twoOf_202
  rw [if_neg q4] at h
  have eq4_38 := ts_ne (c := 38) (k := 38) q4 (by decide)
  by_cases q7 : v0 = 42
  · rw [if_pos q7] at h
    refine g_tsIn (tgt := 128) (off := 127) hX dX9_twoOf_1 (by rw [q7] <;> decide) (by rw [q7] <;> decide) (by rw [q7] <;> rfl) (by decide) ?_
    refine g_iload_n hX dX9_twoOf_128 rfl rfl ?_
    refine g_iload_n hX dX9_twoOf_129 rfl rfl ?_
    refine g_imul hX dX9_twoOf_130 ?_
    obtain rfl := Option.some.inj h
    exact g_iret hX rfl rfl dX9_twoOf_131
  rw [if_neg q7] at h
  have eq7_42 := ts_ne (c := 42) (k := 42) q7 (by decide)
  by_cases q8 : v0 = 43
  · rw [if_pos q8] at h
    refine g_tsIn (tgt := 120) (off := 119) hX dX9_twoOf_1 (by rw [q8] <;> decide) (by rw [q8] <;> decide) (by rw [q8] <;> rfl) (by decide) ?_
    refine g_iload_n hX dX9_twoOf_120 rfl rfl ?_
    refine g_iload_n hX dX9_twoOf_121 rfl rfl ?_
    refine g_iadd hX dX9_twoOf_122 ?_
    obtain rfl := Option.some.inj h
    exact g_iret hX rfl rfl dX9_twoOf_123
  rw [if_neg q8] at h
  have eq8_43 := ts_ne (c := 43) (k := 43) q8 (by decide)
  by_cases q9 : v0 = 45
  · rw [if_pos q9] at h
    refine g_tsIn (tgt := 124) (off := 123) hX dX9_twoOf_1 (by rw [q9] <;> decide) (by rw [q9] <;> decide) (by rw [q9] <;> rfl) (by decide) ?_
    refine g_iload_n hX dX9_twoOf_124 rfl rfl ?_
    refine g_iload_n hX dX9_twoOf_125 rfl rfl ?_
    refine g_isub hX dX9_twoOf_126 ?_
    obtain rfl := Option.some.inj h
    exact g_iret hX rfl rfl dX9_twoOf_127
  rw [if_neg q9] at h
  have eq9_45 := ts_ne (c := 45) (k := 45) q9 (by decide)
  by_cases q10 : v0 = 47
  · rw [if_pos q10] at h
    refine g_tsIn (tgt := 132) (off := 131) hX dX9_twoOf_1 (by rw [q10] <;> decide) (by rw [q10] <;> decide) (by rw [q10] <;> rfl) (by decide) ?_
    refine g_iload_n hX dX9_twoOf_132 rfl rfl ?_
    refine g_if_ne (tgt := 140) hX dX9_twoOf_133 (by decide) (fun q11 => ?_) (fun q11 => ?_)
    · rw [if_neg q11] at h
      refine g_iload_n hX dX9_twoOf_140 rfl rfl ?_
      refine g_iload_n hX dX9_twoOf_141 rfl rfl ?_
      obtain ⟨z12, h⟩ := ck_some h
      refine g_idiv hX (nz_ne z12) dX9_twoOf_142 ?_
      obtain rfl := Option.some.inj h
      exact g_iret hX rfl rfl dX9_twoOf_143
    · rw [if_pos q11] at h
      refine g_iconst hX dX9_twoOf_136 k_0 ?_
      refine g_goto (tgt := 143) hX dX9_twoOf_137 (by decide) ?_
      obtain rfl := Option.some.inj h
      exact g_iret hX rfl rfl dX9_twoOf_143
  rw [if_neg q10] at h
  have eq10_47 := ts_ne (c := 47) (k := 47) q10 (by decide)
  by_cases q13 : v0 = 60
  · rw [if_pos q13] at h
    refine g_tsIn (tgt := 156) (off := 155) hX dX9_twoOf_1 (by rw [q13] <;> decide) (by rw [q13] <;> decide) (by rw [q13] <;> rfl) (by decide) ?_
    refine g_iload_n hX dX9_twoOf_156 rfl rfl ?_
    refine g_iload_n hX dX9_twoOf_157 rfl rfl ?_
    refine g_icmp_ge (tgt := 165) hX dX9_twoOf_158 (by decide) (fun q14 => ?_) (fun q14 => ?_)
    · rw [if_pos q14] at h
      refine g_iconst hX dX9_twoOf_165 k_0 ?_
      obtain rfl := Option.some.inj h
      exact g_iret hX rfl rfl dX9_twoOf_166
    · rw [if_neg q14] at h
      refine g_iconst hX dX9_twoOf_161 k_1 ?_
      refine g_goto (tgt := 166) hX dX9_twoOf_162 (by decide) ?_
      obtain rfl := Option.some.inj h
      exact g_iret hX rfl rfl dX9_twoOf_166
  rw [if_neg q13] at h
  have eq13_60 := ts_ne (c := 60) (k := 60) q13 (by decide)
  by_cases q15 : v0 = 61
  · rw [if_pos q15] at h
    refine g_tsIn (tgt := 167) (off := 166) hX dX9_twoOf_1 (by rw [q15] <;> decide) (by rw [q15] <;> decide) (by rw [q15] <;> rfl) (by decide) ?_
    refine g_iload_n hX dX9_twoOf_167 rfl rfl ?_
    refine g_iload_n hX dX9_twoOf_168 rfl rfl ?_
    refine g_icmp_ne (tgt := 176) hX dX9_twoOf_169 (by decide) (fun q16 => ?_) (fun q16 => ?_)
    · rw [if_neg q16] at h
      refine g_iconst hX dX9_twoOf_176 k_0 ?_
      obtain rfl := Option.some.inj h
      exact g_iret hX rfl rfl dX9_twoOf_177
    · rw [if_pos q16] at h
      refine g_iconst hX dX9_twoOf_172 k_1 ?_
      refine g_goto (tgt := 177) hX dX9_twoOf_173 (by decide) ?_
      obtain rfl := Option.some.inj h
      exact g_iret hX rfl rfl dX9_twoOf_177
  rw [if_neg q15] at h
  have eq15_61 := ts_ne (c := 61) (k := 61) q15 (by decide)
  by_cases q17 : v0 = 62
  · rw [if_pos q17] at h
    refine g_tsIn (tgt := 178) (off := 177) hX dX9_twoOf_1 (by rw [q17] <;> decide) (by rw [q17] <;> decide) (by rw [q17] <;> rfl) (by decide) ?_
    refine g_iload_n hX dX9_twoOf_178 rfl rfl ?_
    refine g_iload_n hX dX9_twoOf_179 rfl rfl ?_
    refine g_icmp_le (tgt := 187) hX dX9_twoOf_180 (by decide) (fun q18 => ?_) (fun q18 => ?_)
    · rw [if_pos q18] at h
      refine g_iconst hX dX9_twoOf_187 k_0 ?_
      obtain rfl := Option.some.inj h
      exact g_iret hX rfl rfl dX9_twoOf_188
    · rw [if_neg q18] at h
      refine g_iconst hX dX9_twoOf_183 k_1 ?_
      refine g_goto (tgt := 188) hX dX9_twoOf_184 (by decide) ?_
      obtain rfl := Option.some.inj h
      exact g_iret hX rfl rfl dX9_twoOf_188
  rw [if_neg q17] at h
  have eq17_62 := ts_ne (c := 62) (k := 62) q17 (by decide)
  refine g_tsD (tgt := 203) hX dX9_twoOf_1 ?_ (by decide) ?_
  · by_cases e39 : (v0 : Int32).toInt = 39
    · exact Or.inr ⟨by omega, by omega, by rw [e39]; rfl⟩
    by_cases e40 : (v0 : Int32).toInt = 40
    · exact Or.inr ⟨by omega, by omega, by rw [e40]; rfl⟩
    by_cases e41 : (v0 : Int32).toInt = 41
    · exact Or.inr ⟨by omega, by omega, by rw [e41]; rfl⟩
    by_cases e44 : (v0 : Int32).toInt = 44
    · exact Or.inr ⟨by omega, by omega, by rw [e44]; rfl⟩
    by_cases e46 : (v0 : Int32).toInt = 46
    · exact Or.inr ⟨by omega, by omega, by rw [e46]; rfl⟩
    by_cases e48 : (v0 : Int32).toInt = 48
    · exact Or.inr ⟨by omega, by omega, by rw [e48]; rfl⟩
    by_cases e49 : (v0 : Int32).toInt = 49
    · exact Or.inr ⟨by omega, by omega, by rw [e49]; rfl⟩
    by_cases e50 : (v0 : Int32).toInt = 50
    · exact Or.inr ⟨by omega, by omega, by rw [e50]; rfl⟩
    by_cases e51 : (v0 : Int32).toInt = 51
    · exact Or.inr ⟨by omega, by omega, by rw [e51]; rfl⟩
    by_cases e52 : (v0 : Int32).toInt = 52
    · exact Or.inr ⟨by omega, by omega, by rw [e52]; rfl⟩
    by_cases e53 : (v0 : Int32).toInt = 53
    · exact Or.inr ⟨by omega, by omega, by rw [e53]; rfl⟩
    by_cases e54 : (v0 : Int32).toInt = 54
    · exact Or.inr ⟨by omega, by omega, by rw [e54]; rfl⟩
    by_cases e55 : (v0 : Int32).toInt = 55
    · exact Or.inr ⟨by omega, by omega, by rw [e55]; rfl⟩
    by_cases e56 : (v0 : Int32).toInt = 56
    · exact Or.inr ⟨by omega, by omega, by rw [e56]; rfl⟩
    by_cases e57 : (v0 : Int32).toInt = 57
    · exact Or.inr ⟨by omega, by omega, by rw [e57]; rfl⟩
    by_cases e58 : (v0 : Int32).toInt = 58
    · exact Or.inr ⟨by omega, by omega, by rw [e58]; rfl⟩
    by_cases e59 : (v0 : Int32).toInt = 59
    · exact Or.inr ⟨by omega, by omega, by rw [e59]; rfl⟩
    exact Or.inl (by omega)
  refine g_iload_n hX dX9_twoOf_203 rfl rfl ?_
  refine g_if_ne (tgt := 211) hX dX9_twoOf_204 (by decide) (fun q19 => ?_) (fun q19 => ?_)
  · rw [if_neg q19] at h
    refine g_iconst hX dX9_twoOf_211 k_1 ?_
    refine g_goto (tgt := 216) hX dX9_twoOf_212 (by decide) ?_
    obtain rfl := Option.some.inj h
    exact g_iret hX rfl rfl dX9_twoOf_216
  · rw [if_pos q19] at h
    refine g_iload_n hX dX9_twoOf_207 rfl rfl ?_
    refine g_if_eq (tgt := 215) hX dX9_twoOf_208 (by decide) (fun q20 => ?_) (fun q20 => ?_)
    · rw [if_pos q20] at h
      refine g_iconst hX dX9_twoOf_215 k_0 ?_
      obtain rfl := Option.some.inj h
      exact g_iret hX rfl rfl dX9_twoOf_216
    · rw [if_neg q20] at h
      refine g_iconst hX dX9_twoOf_211 k_1 ?_
      refine g_goto (tgt := 216) hX dX9_twoOf_212 (by decide) ?_
      obtain rfl := Option.some.inj h
      exact g_iret hX rfl rfl dX9_twoOf_216
set_option maxRecDepth 100000 in
set_option maxHeartbeats 4000000 in
theorem t_X9_works_155 {l : Launch} {D : DT} {X : XT} {r : Int32} {μ' : Mem} (hX : Cx l D false X 2 RX9 cX9_works 5 (some FieldType.int)) : ∀ (μ : Mem), f_X9_works_155 μ = some (r, μ') → G l D false X 5 (some (.int r)) μ' 155 [some (.ref (D.1 0)), none, none, none, none] [] μ := by
  intro μ h
  unfold f_X9_works_155 at h
  refine g_aload_n hX dX9_works_155 rfl rfl ?_
  refine g_getr hX kd_false_0 fg_9_11 tf_9_11 w_981 sr_false_0_11 dX9_works_156 ?_
  refine g_iconst hX dX9_works_159 k_0 ?_
  refine g_iald hX wk_9_11.1 wk_9_11.2 (by decide) dX9_works_160 ?_
  obtain ⟨rfl, rfl⟩ := pair_inj h
  exact g_iret hX rfl rfl dX9_works_161
set_option maxRecDepth 100000 in
set_option maxHeartbeats 4000000 in
theorem t_X9_works_79 {l : Launch} {D : DT} {X : XT} {k4 : Int32 → Int32 → Int32 → Mem → Option (Int32 × Mem)} {r : Int32} {μ' : Mem} (hX : Cx l D false X 2 RX9 cX9_works 5 (some FieldType.int)) (hk4 : ∀ (v1 : Int32) (v2 : Int32) (v3 : Int32) (μ : Mem), k4 v1 v2 v3 μ = some (r, μ') → G l D false X 5 (some (.int r)) μ' 4 [some (.ref (D.1 0)), some (.int v1), some (.int v2), some (.int v3), none] [] μ) : ∀ (v1 : Int32) (v2 : Int32) (v3 : Int32) (s1 : Int32) (s2 : Int32) (μ : Mem), f_X9_works_79 k4 v1 v2 v3 s1 s2 μ = some (r, μ') → G l D false X 5 (some (.int r)) μ' 79 [some (.ref (D.1 0)), some (.int v1), some (.int v2), some (.int v3), none] [.int s2, .int s1, .ref (D.1 11)] μ := by
  intro v1 v2 v3 s1 s2 μ h
  unfold f_X9_works_79 at h
  obtain ⟨z2, h⟩ := ck_some h
  obtain ⟨μ1, hμ1, h⟩ := wr_some h
  refine g_iastM hX wk_9_11.1 wk_9_11.2 z2 dX9_works_79 hμ1 ?_
  refine g_iinc (lc' := [some _, some _, some _, some _, none]) hX dX9_works_80 (by decide) rfl (congrArg _ k_1) rfl rfl ?_
  refine g_goto (tgt := 149) hX dX9_works_83 (by decide) ?_
  refine g_iinc (lc' := [some _, some _, some _, some _, none]) hX dX9_works_149 (by decide) rfl (congrArg _ k_1) rfl rfl ?_
  refine g_goto (tgt := 4) hX dX9_works_152 (by decide) ?_
  exact g_weak (lc' := [some _, some _, some _, some _, none]) ⟨rfl, rfl, rfl, rfl, trivial⟩ (hk4 _ _ _ _ h)
set_option maxRecDepth 100000 in
set_option maxHeartbeats 4000000 in
theorem t_X9_works_38 {l : Launch} {D : DT} {X : XT} {k4 : Int32 → Int32 → Int32 → Mem → Option (Int32 × Mem)} {r : Int32} {μ' : Mem} (hX : Cx l D false X 2 RX9 cX9_works 5 (some FieldType.int)) (hk4 : ∀ (v1 : Int32) (v2 : Int32) (v3 : Int32) (μ : Mem), k4 v1 v2 v3 μ = some (r, μ') → G l D false X 5 (some (.int r)) μ' 4 [some (.ref (D.1 0)), some (.int v1), some (.int v2), some (.int v3), none] [] μ) : ∀ (v1 : Int32) (v2 : Int32) (v3 : Int32) (v4 : Int32) (μ : Mem), f_X9_works_38 k4 v1 v2 v3 v4 μ = some (r, μ') → G l D false X 5 (some (.int r)) μ' 38 [some (.ref (D.1 0)), some (.int v1), some (.int v2), some (.int v3), some (.int v4)] [] μ := by
  intro v1 v2 v3 v4 μ h
  unfold f_X9_works_38 at h
  refine g_aload_n hX dX9_works_38 rfl rfl ?_
  refine g_getr hX kd_false_0 fg_9_11 tf_9_11 w_981 sr_false_0_11 dX9_works_39 ?_
  refine g_iload_n hX dX9_works_42 rfl rfl ?_
  refine g_iload hX dX9_works_43 rfl ?_
  refine g_iconst hX dX9_works_45 k_1 ?_
  refine g_icmp_ne (tgt := 63) hX dX9_works_46 (by decide) (fun q1 => ?_) (fun q1 => ?_)
  · rw [if_neg q1] at h
    refine g_aload_n hX dX9_works_63 rfl rfl ?_
    refine g_getr hX kd_false_0 fg_9_10 tf_9_10 w_980 sr_false_0_10 dX9_works_64 ?_
    refine g_aload_n hX dX9_works_67 rfl rfl ?_
    refine g_getr hX kd_false_0 fg_9_0 tf_9_0 w_970 sr_false_0_0 dX9_works_68 ?_
    refine g_iload_n hX dX9_works_71 rfl rfl ?_
    refine g_bipush hX dX9_works_72 kb_61 ?_
    refine g_iadd hX dX9_works_74 ?_
    refine g_iload_n hX dX9_works_75 rfl rfl ?_
    refine g_iadd hX dX9_works_76 ?_
    obtain ⟨z2, h⟩ := ck_some h
    refine g_iald hX wk_9_0.1 wk_9_0.2 z2 dX9_works_77 ?_
    obtain ⟨z3, h⟩ := ck_some h
    refine g_iald hX wk_9_10.1 wk_9_10.2 z3 dX9_works_78 ?_
    exact g_weak (lc' := [some _, some _, some _, some _, none]) ⟨rfl, rfl, rfl, rfl, trivial⟩ (t_X9_works_79 hX hk4 _ _ _ _ _ _ h)
  · rw [if_pos q1] at h
    refine g_aload_n hX dX9_works_49 rfl rfl ?_
    refine g_getr hX kd_false_0 fg_9_0 tf_9_0 w_970 sr_false_0_0 dX9_works_50 ?_
    refine g_iload_n hX dX9_works_53 rfl rfl ?_
    refine g_bipush hX dX9_works_54 kb_61 ?_
    refine g_iadd hX dX9_works_56 ?_
    refine g_iload_n hX dX9_works_57 rfl rfl ?_
    refine g_iadd hX dX9_works_58 ?_
    obtain ⟨z4, h⟩ := ck_some h
    refine g_iald hX wk_9_0.1 wk_9_0.2 z4 dX9_works_59 ?_
    refine g_goto (tgt := 79) hX dX9_works_60 (by decide) ?_
    exact g_weak (lc' := [some _, some _, some _, some _, none]) ⟨rfl, rfl, rfl, rfl, trivial⟩ (t_X9_works_79 hX hk4 _ _ _ _ _ _ h)
set_option maxRecDepth 100000 in
set_option maxHeartbeats 4000000 in
theorem t_X9_works_115 {l : Launch} {D : DT} {X : XT} {k4 : Int32 → Int32 → Int32 → Mem → Option (Int32 × Mem)} {r : Int32} {μ' : Mem} (hX : Cx l D false X 2 RX9 cX9_works 5 (some FieldType.int)) (hk4 : ∀ (v1 : Int32) (v2 : Int32) (v3 : Int32) (μ : Mem), k4 v1 v2 v3 μ = some (r, μ') → G l D false X 5 (some (.int r)) μ' 4 [some (.ref (D.1 0)), some (.int v1), some (.int v2), some (.int v3), none] [] μ) : ∀ (v1 : Int32) (v2 : Int32) (v3 : Int32) (s1 : Int32) (s2 : Int32) (μ : Mem), f_X9_works_115 k4 v1 v2 v3 s1 s2 μ = some (r, μ') → G l D false X 5 (some (.int r)) μ' 115 [some (.ref (D.1 0)), some (.int v1), some (.int v2), some (.int v3), none] [.int s2, .int s1, .ref (D.1 11)] μ := by
  intro v1 v2 v3 s1 s2 μ h
  unfold f_X9_works_115 at h
  obtain ⟨z2, h⟩ := ck_some h
  obtain ⟨μ1, hμ1, h⟩ := wr_some h
  refine g_iastM hX wk_9_11.1 wk_9_11.2 z2 dX9_works_115 hμ1 ?_
  refine g_goto (tgt := 149) hX dX9_works_116 (by decide) ?_
  refine g_iinc (lc' := [some _, some _, some _, some _, none]) hX dX9_works_149 (by decide) rfl (congrArg _ k_1) rfl rfl ?_
  refine g_goto (tgt := 4) hX dX9_works_152 (by decide) ?_
  exact g_weak (lc' := [some _, some _, some _, some _, none]) ⟨rfl, rfl, rfl, rfl, trivial⟩ (hk4 _ _ _ _ h)
set_option maxRecDepth 100000 in
set_option maxHeartbeats 4000000 in
theorem t_X9_works_4 {l : Launch} {D : DT} {X : XT} {r : Int32} {μ' : Mem} (hX : Cx l D false X 2 RX9 cX9_works 5 (some FieldType.int)) : ∀ (n : Nat) (v1 : Int32) (v2 : Int32) (v3 : Int32) (μ : Mem), f_X9_works_4 n v1 v2 v3 μ = some (r, μ') → G l D false X 5 (some (.int r)) μ' 4 [some (.ref (D.1 0)), some (.int v1), some (.int v2), some (.int v3), none] [] μ := by
  intro n
  induction n with
  | zero => intro v1 v2 v3 μ h; exact absurd h (by simp [f_X9_works_4])
  | succ n ih =>
    intro v1 v2 v3 μ h
    rw [f_X9_works_4] at h
    refine g_iload_n hX dX9_works_4 rfl rfl ?_
    refine g_aload_n hX dX9_works_5 rfl rfl ?_
    refine g_getr hX kd_false_0 fg_9_0 tf_9_0 w_970 sr_false_0_0 dX9_works_6 ?_
    refine g_iload_n hX dX9_works_9 rfl rfl ?_
    obtain ⟨z1, h⟩ := ck_some h
    refine g_iald hX wk_9_0.1 wk_9_0.2 z1 dX9_works_10 ?_
    refine g_icmp_ge (tgt := 155) hX dX9_works_11 (by decide) (fun q2 => ?_) (fun q2 => ?_)
    · rw [if_pos q2] at h
      exact g_weak (lc' := [some _, none, none, none, none]) ⟨rfl, trivial⟩ (t_X9_works_155 hX _ h)
    · rw [if_neg q2] at h
      refine g_aload_n hX dX9_works_14 rfl rfl ?_
      refine g_getr hX kd_false_0 fg_9_0 tf_9_0 w_970 sr_false_0_0 dX9_works_15 ?_
      refine g_iload_n hX dX9_works_18 rfl rfl ?_
      refine g_iconst hX dX9_works_19 k_1 ?_
      refine g_iadd hX dX9_works_20 ?_
      refine g_iload_n hX dX9_works_21 rfl rfl ?_
      refine g_iadd hX dX9_works_22 ?_
      obtain ⟨z3, h⟩ := ck_some h
      refine g_iald hX wk_9_0.1 wk_9_0.2 z3 dX9_works_23 ?_
      refine g_istore (lc' := [some _, some _, some _, some _, some _]) hX dX9_works_24 (by decide) rfl rfl ?_
      refine g_iload hX dX9_works_26 rfl ?_
      refine g_iconst hX dX9_works_28 k_1 ?_
      refine g_icmp_eq (tgt := 38) hX dX9_works_29 (by decide) (fun q4 => ?_) (fun q4 => ?_)
      · rw [if_pos q4] at h
        exact g_weak (lc' := [some _, some _, some _, some _, some _]) ⟨rfl, rfl, rfl, rfl, rfl, trivial⟩ (t_X9_works_38 hX ih _ _ _ _ _ h)
      · rw [if_neg q4] at h
        refine g_iload hX dX9_works_32 rfl ?_
        refine g_iconst hX dX9_works_34 k_2 ?_
        refine g_icmp_ne (tgt := 86) hX dX9_works_35 (by decide) (fun q5 => ?_) (fun q5 => ?_)
        · rw [if_neg q5] at h
          refine g_iload hX dX9_works_86 rfl ?_
          refine g_iconst hX dX9_works_88 k_3 ?_
          refine g_icmp_ne (tgt := 119) hX dX9_works_89 (by decide) (fun q6 => ?_) (fun q6 => ?_)
          · rw [if_neg q6] at h
            refine g_iinc (lc' := [some _, some _, some _, some _, some _]) hX dX9_works_119 (by decide) rfl (congrArg _ k_m1) rfl rfl ?_
            refine g_aload_n hX dX9_works_122 rfl rfl ?_
            refine g_getr hX kd_false_0 fg_9_11 tf_9_11 w_981 sr_false_0_11 dX9_works_123 ?_
            refine g_iload_n hX dX9_works_126 rfl rfl ?_
            refine g_iconst hX dX9_works_127 k_1 ?_
            refine g_isub hX dX9_works_128 ?_
            refine g_iload hX dX9_works_129 rfl ?_
            refine g_aload_n hX dX9_works_131 rfl rfl ?_
            refine g_getr hX kd_false_0 fg_9_11 tf_9_11 w_981 sr_false_0_11 dX9_works_132 ?_
            refine g_iload_n hX dX9_works_135 rfl rfl ?_
            refine g_iconst hX dX9_works_136 k_1 ?_
            refine g_isub hX dX9_works_137 ?_
            obtain ⟨z7, h⟩ := ck_some h
            refine g_iald hX wk_9_11.1 wk_9_11.2 z7 dX9_works_138 ?_
            refine g_aload_n hX dX9_works_139 rfl rfl ?_
            refine g_getr hX kd_false_0 fg_9_11 tf_9_11 w_981 sr_false_0_11 dX9_works_140 ?_
            refine g_iload_n hX dX9_works_143 rfl rfl ?_
            obtain ⟨z8, h⟩ := ck_some h
            refine g_iald hX wk_9_11.1 wk_9_11.2 z8 dX9_works_144 ?_
            obtain ⟨r9, hr9, h⟩ := bd_some h
            refine g_callSi hX (c_X9_twoOf  _ _ _ hr9) mv_X9_twoOf wm_1101 (by decide) rfl rfl (Nat.le_of_ble_eq_true rfl) dX9_works_145 ?_
            obtain ⟨z11, h⟩ := ck_some h
            obtain ⟨μ10, hμ10, h⟩ := wr_some h
            refine g_iastM hX wk_9_11.1 wk_9_11.2 z11 dX9_works_148 hμ10 ?_
            refine g_iinc (lc' := [some _, some _, some _, some _, some _]) hX dX9_works_149 (by decide) rfl (congrArg _ k_1) rfl rfl ?_
            refine g_goto (tgt := 4) hX dX9_works_152 (by decide) ?_
            exact g_weak (lc' := [some _, some _, some _, some _, none]) ⟨rfl, rfl, rfl, rfl, trivial⟩ (ih _ _ _ _ h)
          · rw [if_pos q6] at h
            refine g_aload_n hX dX9_works_92 rfl rfl ?_
            refine g_getr hX kd_false_0 fg_9_11 tf_9_11 w_981 sr_false_0_11 dX9_works_93 ?_
            refine g_iload_n hX dX9_works_96 rfl rfl ?_
            refine g_iconst hX dX9_works_97 k_1 ?_
            refine g_isub hX dX9_works_98 ?_
            refine g_aload_n hX dX9_works_99 rfl rfl ?_
            refine g_getr hX kd_false_0 fg_9_11 tf_9_11 w_981 sr_false_0_11 dX9_works_100 ?_
            refine g_iload_n hX dX9_works_103 rfl rfl ?_
            refine g_iconst hX dX9_works_104 k_1 ?_
            refine g_isub hX dX9_works_105 ?_
            obtain ⟨z12, h⟩ := ck_some h
            refine g_iald hX wk_9_11.1 wk_9_11.2 z12 dX9_works_106 ?_
            refine g_if_ne (tgt := 114) hX dX9_works_107 (by decide) (fun q13 => ?_) (fun q13 => ?_)
            · rw [if_neg q13] at h
              refine g_iconst hX dX9_works_114 k_0 ?_
              exact g_weak (lc' := [some _, some _, some _, some _, none]) ⟨rfl, rfl, rfl, rfl, trivial⟩ (t_X9_works_115 hX ih _ _ _ _ _ _ h)
            · rw [if_pos q13] at h
              refine g_iconst hX dX9_works_110 k_1 ?_
              refine g_goto (tgt := 115) hX dX9_works_111 (by decide) ?_
              exact g_weak (lc' := [some _, some _, some _, some _, none]) ⟨rfl, rfl, rfl, rfl, trivial⟩ (t_X9_works_115 hX ih _ _ _ _ _ _ h)
        · rw [if_pos q5] at h
          exact g_weak (lc' := [some _, some _, some _, some _, some _]) ⟨rfl, rfl, rfl, rfl, rfl, trivial⟩ (t_X9_works_38 hX ih _ _ _ _ _ h)
set_option maxRecDepth 100000 in
set_option maxHeartbeats 4000000 in
theorem c_X9_works {l : Launch} {D : DT} {μ : Mem} {r : Int32} {μ' : Mem} (v1 : Int32) (h : f_X9_works v1 μ = some (r, μ')) : Ct l D false 2 yX9_works cX9_works 5 (some FieldType.int) [.ref (D.1 0), .int v1] μ (some (.int r)) μ' := by
  refine Ct.of (own := RX9) (lc0 := [some (.ref (D.1 0)), some (.int v1), none, none, none]) pn_X9 rfl (Nat.le_of_ble_eq_true rfl) rfl mv_X9_works.2.2.2.1 (fun X hX => ?_)
  unfold f_X9_works at h
  refine g_iconst hX dX9_works_0 k_0 ?_
  refine g_istore_n (lc' := [some _, some _, some _, none, none]) hX dX9_works_1 rfl (by decide) rfl rfl ?_
  refine g_iconst hX dX9_works_2 k_0 ?_
  refine g_istore_n (lc' := [some _, some _, some _, some _, none]) hX dX9_works_3 rfl (by decide) rfl rfl ?_
  exact g_weak (lc' := [some _, some _, some _, some _, none]) ⟨rfl, rfl, rfl, rfl, trivial⟩ (t_X9_works_4 hX 2000 _ _ _ _ h)
set_option maxRecDepth 100000 in
set_option maxHeartbeats 4000000 in
theorem c_X9_held {l : Launch} {D : DT} {μ : Mem} (v0 : Int32) (v1 : Int32) (v2 : Int32) : Ct l D false 1 yX9_held cX9_held 3 (some FieldType.int) [.int v0, .int v1, .int v2] μ (some (.int (f_X9_held v0 v1 v2))) μ := by
  obtain ⟨r, h⟩ : ∃ r, f_X9_held v0 v1 v2 = r := ⟨_, rfl⟩
  rw [h]
  refine Ct.of (own := RX9) (lc0 := [some (.int v0), some (.int v1), some (.int v2)]) pn_X9 rfl (Nat.le_of_ble_eq_true rfl) rfl mv_X9_held.2.2.1 (fun X hX => ?_)
  unfold f_X9_held at h
  refine g_iload_n hX dX9_held_0 rfl rfl ?_
  refine g_iload_n hX dX9_held_1 rfl rfl ?_
  refine g_icmp_ge (tgt := 9) hX dX9_held_2 (by decide) (fun q1 => ?_) (fun q1 => ?_)
  · rw [if_pos q1] at h
    refine g_iload_n hX dX9_held_9 rfl rfl ?_
    refine g_iload_n hX dX9_held_10 rfl rfl ?_
    refine g_icmp_le (tgt := 18) hX dX9_held_11 (by decide) (fun q2 => ?_) (fun q2 => ?_)
    · rw [if_pos q2] at h
      refine g_iload_n hX dX9_held_18 rfl rfl ?_
      subst h
      exact g_iret hX rfl rfl dX9_held_19
    · rw [if_neg q2] at h
      refine g_iload_n hX dX9_held_14 rfl rfl ?_
      refine g_goto (tgt := 19) hX dX9_held_15 (by decide) ?_
      subst h
      exact g_iret hX rfl rfl dX9_held_19
  · rw [if_neg q1] at h
    refine g_iload_n hX dX9_held_5 rfl rfl ?_
    refine g_goto (tgt := 19) hX dX9_held_6 (by decide) ?_
    subst h
    exact g_iret hX rfl rfl dX9_held_19
set_option maxRecDepth 100000 in
set_option maxHeartbeats 4000000 in
theorem t_X9_gives_52 {l : Launch} {D : DT} {X : XT} {r : Int32} {μ' : Mem} (hX : Cx l D false X 3 RX9 cX9_gives 7 (some FieldType.int)) : ∀ (v1 : Int32) (s0 : Int32) (μ : Mem), f_X9_gives_52 v1 s0 μ = some (r, μ') → G l D false X 7 (some (.int r)) μ' 52 [none, some (.int v1), none, none, none, none, none] [.int s0] μ := by
  intro v1 s0 μ h
  unfold f_X9_gives_52 at h
  refine g_istore (lc' := [none, some _, none, none, none, none, some _]) hX dX9_gives_52 (by decide) rfl rfl ?_
  refine g_iload_n hX dX9_gives_54 rfl rfl ?_
  refine g_if_ne (tgt := 69) hX dX9_gives_55 (by decide) (fun q1 => ?_) (fun q1 => ?_)
  · rw [if_neg q1] at h
    refine g_iload hX dX9_gives_69 rfl ?_
    refine g_iconst hX dX9_gives_71 k_0 ?_
    refine g_bipush hX dX9_gives_72 kb_99 ?_
    refine g_callSi hX (c_X9_held  s0 0 99) mv_X9_held wm_1104 (by decide) rfl rfl (Nat.le_of_ble_eq_true rfl) dX9_gives_74 ?_
    obtain ⟨rfl, rfl⟩ := pair_inj h
    exact g_iret hX rfl rfl dX9_gives_77
  · rw [if_pos q1] at h
    refine g_iload hX dX9_gives_58 rfl ?_
    refine g_iconst hX dX9_gives_60 k_0 ?_
    refine g_bipush hX dX9_gives_61 kb_19 ?_
    refine g_callSi hX (c_X9_held  s0 0 19) mv_X9_held wm_1104 (by decide) rfl rfl (Nat.le_of_ble_eq_true rfl) dX9_gives_63 ?_
    refine g_goto (tgt := 77) hX dX9_gives_66 (by decide) ?_
    obtain ⟨rfl, rfl⟩ := pair_inj h
    exact g_iret hX rfl rfl dX9_gives_77
set_option maxRecDepth 100000 in
set_option maxHeartbeats 4000000 in
theorem c_X9_gives {l : Launch} {D : DT} {μ : Mem} {r : Int32} {μ' : Mem} (v1 : Int32) (v2 : Int32) (v3 : Int32) (v4 : Int32) (h : f_X9_gives v1 v2 v3 v4 μ = some (r, μ')) : Ct l D false 3 yX9_gives cX9_gives 7 (some FieldType.int) [.ref (D.1 0), .int v1, .int v2, .int v3, .int v4] μ (some (.int r)) μ' := by
  refine Ct.of (own := RX9) (lc0 := [some (.ref (D.1 0)), some (.int v1), some (.int v2), some (.int v3), some (.int v4), none, none]) pn_X9 rfl (Nat.le_of_ble_eq_true rfl) rfl mv_X9_gives.2.2.2.1 (fun X hX => ?_)
  unfold f_X9_gives at h
  refine g_sipush hX dX9_gives_0 ks_153 ?_
  refine g_bipush hX dX9_gives_3 kb_121 ?_
  refine g_iload_n hX dX9_gives_5 rfl rfl ?_
  refine g_imul hX dX9_gives_6 ?_
  refine g_iadd hX dX9_gives_7 ?_
  refine g_istore (lc' := [some _, some _, some _, some _, some _, some _, none]) hX dX9_gives_8 (by decide) rfl rfl ?_
  refine g_aload_n hX dX9_gives_10 rfl rfl ?_
  refine g_getr hX kd_false_0 fg_9_10 tf_9_10 w_980 sr_false_0_10 dX9_gives_11 ?_
  refine g_iconst hX dX9_gives_14 k_0 ?_
  refine g_iload_n hX dX9_gives_15 rfl rfl ?_
  obtain ⟨μ1, hμ1, h⟩ := wr_some h
  refine g_iastM hX wk_9_10.1 wk_9_10.2 (by decide) dX9_gives_16 hμ1 ?_
  refine g_aload_n hX dX9_gives_17 rfl rfl ?_
  refine g_getr hX kd_false_0 fg_9_10 tf_9_10 w_980 sr_false_0_10 dX9_gives_18 ?_
  refine g_iconst hX dX9_gives_21 k_1 ?_
  refine g_iload_n hX dX9_gives_22 rfl rfl ?_
  obtain ⟨μ2, hμ2, h⟩ := wr_some h
  refine g_iastM hX wk_9_10.1 wk_9_10.2 (by decide) dX9_gives_23 hμ2 ?_
  refine g_aload_n hX dX9_gives_24 rfl rfl ?_
  refine g_getr hX kd_false_0 fg_9_10 tf_9_10 w_980 sr_false_0_10 dX9_gives_25 ?_
  refine g_iconst hX dX9_gives_28 k_2 ?_
  refine g_iload hX dX9_gives_29 rfl ?_
  obtain ⟨μ3, hμ3, h⟩ := wr_some h
  refine g_iastM hX wk_9_10.1 wk_9_10.2 (by decide) dX9_gives_31 hμ3 ?_
  refine g_aload_n hX dX9_gives_32 rfl rfl ?_
  refine g_getr hX kd_false_0 fg_9_0 tf_9_0 w_970 sr_false_0_0 dX9_gives_33 ?_
  refine g_iload hX dX9_gives_36 rfl ?_
  obtain ⟨z4, h⟩ := ck_some h
  refine g_iald hX wk_9_0.1 wk_9_0.2 z4 dX9_gives_38 ?_
  refine g_if_le (tgt := 51) hX dX9_gives_39 (by decide) (fun q5 => ?_) (fun q5 => ?_)
  · rw [if_pos q5] at h
    refine g_iload_n hX dX9_gives_51 rfl rfl ?_
    exact g_weak (lc' := [none, some _, none, none, none, none, none]) ⟨rfl, trivial⟩ (t_X9_gives_52 hX _ _ _ h)
  · rw [if_neg q5] at h
    refine g_aload_n hX dX9_gives_42 rfl rfl ?_
    refine g_iload hX dX9_gives_43 rfl ?_
    obtain ⟨r6, μ7, hr6, h⟩ := bd2_some h
    refine g_callVi hX (c_X9_works  _ hr6) mv_X9_works wm_1097 kd_false_0 rfl (by decide) (by decide) rfl rfl (Nat.le_of_ble_eq_true rfl) dX9_gives_45 ?_
    refine g_goto (tgt := 52) hX dX9_gives_48 (by decide) ?_
    exact g_weak (lc' := [none, some _, none, none, none, none, none]) ⟨rfl, trivial⟩ (t_X9_gives_52 hX _ _ _ h)
set_option maxRecDepth 100000 in
set_option maxHeartbeats 4000000 in
theorem c_X9_weighsOn {l : Launch} {D : DT} {μ : Mem} {r : Int32} {μ' : Mem} (v1 : Int32) (v2 : Int32) (h : f_X9_weighsOn v1 v2 μ = some (r, μ')) : Ct l D false 4 yX9_weighsOn cX9_weighsOn 3 (some FieldType.int) [.ref (D.1 0), .int v1, .int v2] μ (some (.int r)) μ' := by
  refine Ct.of (own := RX9) (lc0 := [some (.ref (D.1 0)), some (.int v1), some (.int v2)]) pn_X9 rfl (Nat.le_of_ble_eq_true rfl) rfl mv_X9_weighsOn.2.2.2.1 (fun X hX => ?_)
  unfold f_X9_weighsOn at h
  refine g_aload_n hX dX9_weighsOn_0 rfl rfl ?_
  refine g_iconst hX dX9_weighsOn_1 k_0 ?_
  refine g_aload_n hX dX9_weighsOn_2 rfl rfl ?_
  refine g_iload_n hX dX9_weighsOn_3 rfl rfl ?_
  refine g_iload_n hX dX9_weighsOn_4 rfl rfl ?_
  obtain ⟨r1, hr1, h⟩ := bd_some h
  refine g_callVi hX (c_X9_costsOf  _ _ hr1) mv_X9_costsOf wm_1085 kd_false_0 rfl (by decide) (by decide) rfl rfl (Nat.le_of_ble_eq_true rfl) dX9_weighsOn_5 ?_
  refine g_aload_n hX dX9_weighsOn_8 rfl rfl ?_
  refine g_getr hX kd_false_0 fg_9_0 tf_9_0 w_970 sr_false_0_0 dX9_weighsOn_9 ?_
  refine g_iconst hX dX9_weighsOn_12 k_0 ?_
  refine g_iald hX wk_9_0.1 wk_9_0.2 (by decide) dX9_weighsOn_13 ?_
  refine g_bipush hX dX9_weighsOn_14 kb_24 ?_
  refine g_irem hX (by decide) dX9_weighsOn_16 ?_
  refine g_iload_n hX dX9_weighsOn_17 rfl rfl ?_
  obtain ⟨r2, μ3, hr2, h⟩ := bd2_some h
  refine g_callVi hX (c_X9_gives  _ _ _ _ hr2) mv_X9_gives wm_1093 kd_false_0 rfl (by decide) (by decide) rfl rfl (Nat.le_of_ble_eq_true rfl) dX9_weighsOn_18 ?_
  obtain ⟨rfl, rfl⟩ := pair_inj h
  exact g_iret hX rfl rfl dX9_weighsOn_21
set_option maxRecDepth 100000 in
set_option maxHeartbeats 4000000 in
theorem t_X9_loadOf_35 {l : Launch} {D : DT} {X : XT} {k4 : Int32 → Int32 → Int32 → Mem → Option (Int32 × Mem)} {r : Int32} {μ' : Mem} (hX : Cx l D false X 5 RX9 cX9_loadOf 4 (some FieldType.int)) (hk4 : ∀ (v1 : Int32) (v2 : Int32) (v3 : Int32) (μ : Mem), k4 v1 v2 v3 μ = some (r, μ') → G l D false X 4 (some (.int r)) μ' 4 [some (.ref (D.1 0)), some (.int v1), some (.int v2), some (.int v3)] [] μ) : ∀ (v1 : Int32) (v3 : Int32) (s0 : Int32) (s1 : Int32) (μ : Mem), f_X9_loadOf_35 k4 v1 v3 s0 s1 μ = some (r, μ') → G l D false X 4 (some (.int r)) μ' 35 [some (.ref (D.1 0)), some (.int v1), none, some (.int v3)] [.int s1, .int s0] μ := by
  intro v1 v3 s0 s1 μ h
  unfold f_X9_loadOf_35 at h
  refine g_iadd hX dX9_loadOf_35 ?_
  refine g_istore_n (lc' := [some _, some _, some _, some _]) hX dX9_loadOf_36 rfl (by decide) rfl rfl ?_
  refine g_iinc (lc' := [some _, some _, some _, some _]) hX dX9_loadOf_37 (by decide) rfl (congrArg _ k_1) rfl rfl ?_
  refine g_goto (tgt := 4) hX dX9_loadOf_40 (by decide) ?_
  exact g_weak (lc' := [some _, some _, some _, some _]) ⟨rfl, rfl, rfl, rfl, trivial⟩ (hk4 _ _ _ _ h)
set_option maxRecDepth 100000 in
set_option maxHeartbeats 4000000 in
theorem t_X9_loadOf_4 {l : Launch} {D : DT} {X : XT} {r : Int32} {μ' : Mem} (hX : Cx l D false X 5 RX9 cX9_loadOf 4 (some FieldType.int)) : ∀ (n : Nat) (v1 : Int32) (v2 : Int32) (v3 : Int32) (μ : Mem), f_X9_loadOf_4 n v1 v2 v3 μ = some (r, μ') → G l D false X 4 (some (.int r)) μ' 4 [some (.ref (D.1 0)), some (.int v1), some (.int v2), some (.int v3)] [] μ := by
  intro n
  induction n with
  | zero => intro v1 v2 v3 μ h; exact absurd h (by simp [f_X9_loadOf_4])
  | succ n ih =>
    intro v1 v2 v3 μ h
    rw [f_X9_loadOf_4] at h
    refine g_iload_n hX dX9_loadOf_4 rfl rfl ?_
    refine g_aload_n hX dX9_loadOf_5 rfl rfl ?_
    refine g_getr hX kd_false_0 fg_9_0 tf_9_0 w_970 sr_false_0_0 dX9_loadOf_6 ?_
    refine g_iconst hX dX9_loadOf_9 k_3 ?_
    refine g_iald hX wk_9_0.1 wk_9_0.2 (by decide) dX9_loadOf_10 ?_
    refine g_icmp_ge (tgt := 43) hX dX9_loadOf_11 (by decide) (fun q1 => ?_) (fun q1 => ?_)
    · rw [if_pos q1] at h
      refine g_iload_n hX dX9_loadOf_43 rfl rfl ?_
      obtain ⟨rfl, rfl⟩ := pair_inj h
      exact g_iret hX rfl rfl dX9_loadOf_44
    · rw [if_neg q1] at h
      refine g_iload_n hX dX9_loadOf_14 rfl rfl ?_
      refine g_aload_n hX dX9_loadOf_15 rfl rfl ?_
      refine g_iload_n hX dX9_loadOf_16 rfl rfl ?_
      refine g_iconst hX dX9_loadOf_17 k_3 ?_
      obtain ⟨r2, hr2, h⟩ := bd_some h
      refine g_callVi hX (c_X9_about  _ _ hr2) mv_X9_about wm_1073 kd_false_0 rfl (by decide) (by decide) rfl rfl (Nat.le_of_ble_eq_true rfl) dX9_loadOf_18 ?_
      refine g_iload_n hX dX9_loadOf_21 rfl rfl ?_
      refine g_icmp_ne (tgt := 34) hX dX9_loadOf_22 (by decide) (fun q3 => ?_) (fun q3 => ?_)
      · rw [if_neg q3] at h
        refine g_iconst hX dX9_loadOf_34 k_0 ?_
        exact g_weak (lc' := [some _, some _, none, some _]) ⟨rfl, rfl, rfl, trivial⟩ (t_X9_loadOf_35 hX ih _ _ _ _ _ h)
      · rw [if_pos q3] at h
        refine g_aload_n hX dX9_loadOf_25 rfl rfl ?_
        refine g_iload_n hX dX9_loadOf_26 rfl rfl ?_
        refine g_iload_n hX dX9_loadOf_27 rfl rfl ?_
        obtain ⟨r4, μ5, hr4, h⟩ := bd2_some h
        refine g_callVi hX (c_X9_weighsOn  _ _ hr4) mv_X9_weighsOn wm_1081 kd_false_0 rfl (by decide) (by decide) rfl rfl (Nat.le_of_ble_eq_true rfl) dX9_loadOf_28 ?_
        refine g_goto (tgt := 35) hX dX9_loadOf_31 (by decide) ?_
        exact g_weak (lc' := [some _, some _, none, some _]) ⟨rfl, rfl, rfl, trivial⟩ (t_X9_loadOf_35 hX ih _ _ _ _ _ h)
set_option maxRecDepth 100000 in
set_option maxHeartbeats 4000000 in
theorem c_X9_loadOf {l : Launch} {D : DT} {μ : Mem} {r : Int32} {μ' : Mem} (v1 : Int32) (h : f_X9_loadOf v1 μ = some (r, μ')) : Ct l D false 5 yX9_loadOf cX9_loadOf 4 (some FieldType.int) [.ref (D.1 0), .int v1] μ (some (.int r)) μ' := by
  refine Ct.of (own := RX9) (lc0 := [some (.ref (D.1 0)), some (.int v1), none, none]) pn_X9 rfl (Nat.le_of_ble_eq_true rfl) rfl mv_X9_loadOf.2.2.2.1 (fun X hX => ?_)
  unfold f_X9_loadOf at h
  refine g_iconst hX dX9_loadOf_0 k_0 ?_
  refine g_istore_n (lc' := [some _, some _, some _, none]) hX dX9_loadOf_1 rfl (by decide) rfl rfl ?_
  refine g_iconst hX dX9_loadOf_2 k_0 ?_
  refine g_istore_n (lc' := [some _, some _, some _, some _]) hX dX9_loadOf_3 rfl (by decide) rfl rfl ?_
  exact g_weak (lc' := [some _, some _, some _, some _]) ⟨rfl, rfl, rfl, rfl, trivial⟩ (t_X9_loadOf_4 hX 2000 _ _ _ _ h)
set_option maxRecDepth 100000 in
set_option maxHeartbeats 4000000 in
theorem t_X9_check_18 {l : Launch} {D : DT} {X : XT} {r : Int32} {μ' : Mem} (hX : Cx l D false X 6 RX9 cX9_check 3 (some FieldType.int)) : ∀ (n : Nat) (v1 : Int32) (v2 : Int32) (μ : Mem), f_X9_check_18 n v1 v2 μ = some (r, μ') → G l D false X 3 (some (.int r)) μ' 18 [some (.ref (D.1 0)), some (.int v1), some (.int v2)] [] μ := by
  intro n
  induction n with
  | zero => intro v1 v2 μ h; exact absurd h (by simp [f_X9_check_18])
  | succ n ih =>
    intro v1 v2 μ h
    rw [f_X9_check_18] at h
    refine g_iload_n hX dX9_check_18 rfl rfl ?_
    refine g_iload_n hX dX9_check_19 rfl rfl ?_
    refine g_icmp_ge (tgt := 59) hX dX9_check_20 (by decide) (fun q1 => ?_) (fun q1 => ?_)
    · rw [if_pos q1] at h
      refine g_iconst hX dX9_check_59 k_0 ?_
      obtain ⟨rfl, rfl⟩ := pair_inj h
      exact g_iret hX rfl rfl dX9_check_60
    · rw [if_neg q1] at h
      refine g_aload_n hX dX9_check_23 rfl rfl ?_
      refine g_iload_n hX dX9_check_24 rfl rfl ?_
      refine g_callVi hX (c_X9_isPerson  v2) mv_X9_isPerson wm_1061 kd_false_0 rfl (by decide) (by decide) rfl rfl (Nat.le_of_ble_eq_true rfl) dX9_check_25 ?_
      refine g_if_eq (tgt := 49) hX dX9_check_28 (by decide) (fun q2 => ?_) (fun q2 => ?_)
      · rw [if_pos q2] at h
        refine g_iconst hX dX9_check_49 k_1 ?_
        refine g_iload_n hX dX9_check_50 rfl rfl ?_
        refine g_iadd hX dX9_check_51 ?_
        obtain ⟨rfl, rfl⟩ := pair_inj h
        exact g_iret hX rfl rfl dX9_check_52
      · rw [if_neg q2] at h
        refine g_aload_n hX dX9_check_31 rfl rfl ?_
        refine g_getr hX kd_false_0 fg_9_0 tf_9_0 w_970 sr_false_0_0 dX9_check_32 ?_
        refine g_sipush hX dX9_check_35 ks_129 ?_
        refine g_iload_n hX dX9_check_38 rfl rfl ?_
        refine g_iadd hX dX9_check_39 ?_
        obtain ⟨z3, h⟩ := ck_some h
        refine g_iald hX wk_9_0.1 wk_9_0.2 z3 dX9_check_40 ?_
        refine g_aload_n hX dX9_check_41 rfl rfl ?_
        refine g_iload_n hX dX9_check_42 rfl rfl ?_
        obtain ⟨r4, μ5, hr4, h⟩ := bd2_some h
        refine g_callVi hX (c_X9_loadOf  _ hr4) mv_X9_loadOf wm_1077 kd_false_0 rfl (by decide) (by decide) rfl rfl (Nat.le_of_ble_eq_true rfl) dX9_check_43 ?_
        refine g_icmp_eq (tgt := 53) hX dX9_check_46 (by decide) (fun q6 => ?_) (fun q6 => ?_)
        · rw [if_pos q6] at h
          refine g_iinc (lc' := [some _, some _, some _]) hX dX9_check_53 (by decide) rfl (congrArg _ k_1) rfl rfl ?_
          refine g_goto (tgt := 18) hX dX9_check_56 (by decide) ?_
          exact g_weak (lc' := [some _, some _, some _]) ⟨rfl, rfl, rfl, trivial⟩ (ih _ _ _ h)
        · rw [if_neg q6] at h
          refine g_iconst hX dX9_check_49 k_1 ?_
          refine g_iload_n hX dX9_check_50 rfl rfl ?_
          refine g_iadd hX dX9_check_51 ?_
          obtain ⟨rfl, rfl⟩ := pair_inj h
          exact g_iret hX rfl rfl dX9_check_52
set_option maxRecDepth 100000 in
set_option maxHeartbeats 4000000 in
theorem c_X9_check {l : Launch} {D : DT} {μ : Mem} {r : Int32} {μ' : Mem} (h : f_X9_check μ = some (r, μ')) : Ct l D false 6 yX9_check cX9_check 3 (some FieldType.int) [.ref (D.1 0)] μ (some (.int r)) μ' := by
  refine Ct.of (own := RX9) (lc0 := [some (.ref (D.1 0)), none, none]) pn_X9 rfl (Nat.le_of_ble_eq_true rfl) rfl mv_X9_check.2.2.2.1 (fun X hX => ?_)
  unfold f_X9_check at h
  refine g_aload_n hX dX9_check_0 rfl rfl ?_
  refine g_getr hX kd_false_0 fg_9_0 tf_9_0 w_970 sr_false_0_0 dX9_check_1 ?_
  refine g_bipush hX dX9_check_4 kb_7 ?_
  refine g_iald hX wk_9_0.1 wk_9_0.2 (by decide) dX9_check_6 ?_
  refine g_istore_n (lc' := [some _, some _, none]) hX dX9_check_7 rfl (by decide) rfl rfl ?_
  refine g_aload_n hX dX9_check_8 rfl rfl ?_
  refine g_getr hX kd_false_0 fg_9_0 tf_9_0 w_970 sr_false_0_0 dX9_check_9 ?_
  refine g_bipush hX dX9_check_12 kb_7 ?_
  refine g_iconst hX dX9_check_14 k_0 ?_
  obtain ⟨μ1, hμ1, h⟩ := wr_some h
  refine g_iastM hX wk_9_0.1 wk_9_0.2 (by decide) dX9_check_15 hμ1 ?_
  refine g_iconst hX dX9_check_16 k_0 ?_
  refine g_istore_n (lc' := [some _, some _, some _]) hX dX9_check_17 rfl (by decide) rfl rfl ?_
  exact g_weak (lc' := [some _, some _, some _]) ⟨rfl, rfl, rfl, trivial⟩ (t_X9_check_18 hX 2000 _ _ _ h)
set_option maxRecDepth 100000 in
set_option maxHeartbeats 4000000 in
theorem t_X9_copyAll_2 {l : Launch} {D : DT} {X : XT} {a0 : Nat} {a1 : Nat} {μ' : Mem} (hX : Cx l D false X 1 RX9 cX9_copyAll 3 none) (ha0 : kd false a0 = 10) (ha1 : kd false a1 = 10) : ∀ (n : Nat) (v2 : Int32) (μ : Mem), f_X9_copyAll_2 a0 a1 n v2 μ = some μ' → G l D false X 3 none μ' 2 [some (.ref (D.1 a0)), some (.ref (D.1 a1)), some (.int v2)] [] μ := by
  intro n
  induction n with
  | zero => intro v2 μ h; exact absurd h (by simp [f_X9_copyAll_2])
  | succ n ih =>
    intro v2 μ h
    rw [f_X9_copyAll_2] at h
    refine g_iload_n hX dX9_copyAll_2 rfl rfl ?_
    refine g_sipush hX dX9_copyAll_3 ks_395 ?_
    refine g_icmp_ge (tgt := 21) hX dX9_copyAll_6 (by decide) (fun q1 => ?_) (fun q1 => ?_)
    · rw [if_pos q1] at h
      obtain rfl := Option.some.inj h
      exact g_vret hX rfl dX9_copyAll_21
    · rw [if_neg q1] at h
      refine g_aload_n hX dX9_copyAll_9 rfl rfl ?_
      refine g_iload_n hX dX9_copyAll_10 rfl rfl ?_
      refine g_aload_n hX dX9_copyAll_11 rfl rfl ?_
      refine g_iload_n hX dX9_copyAll_12 rfl rfl ?_
      obtain ⟨z2, h⟩ := ck_some h
      refine g_iald hX ha0 rfl z2 dX9_copyAll_13 ?_
      obtain ⟨z4, h⟩ := ck_some h
      obtain ⟨μ3, hμ3, h⟩ := wr_some h
      refine g_iastM hX ha1 rfl z4 dX9_copyAll_14 hμ3 ?_
      refine g_iinc (lc' := [some _, some _, some _]) hX dX9_copyAll_15 (by decide) rfl (congrArg _ k_1) rfl rfl ?_
      refine g_goto (tgt := 2) hX dX9_copyAll_18 (by decide) ?_
      exact g_weak (lc' := [some _, some _, some _]) ⟨rfl, rfl, rfl, trivial⟩ (ih _ _ h)
set_option maxRecDepth 100000 in
set_option maxHeartbeats 4000000 in
theorem c_X9_copyAll {l : Launch} {D : DT} {a0 : Nat} {a1 : Nat} {μ : Mem} {μ' : Mem} (ha0 : kd false a0 = 10) (ha1 : kd false a1 = 10) (h : f_X9_copyAll a0 a1 μ = some μ') : Ct l D false 1 yX9_copyAll cX9_copyAll 3 none [.ref (D.1 a0), .ref (D.1 a1)] μ none μ' := by
  refine Ct.of (own := RX9) (lc0 := [some (.ref (D.1 a0)), some (.ref (D.1 a1)), none]) pn_X9 rfl (Nat.le_of_ble_eq_true rfl) rfl mv_X9_copyAll.2.2.1 (fun X hX => ?_)
  unfold f_X9_copyAll at h
  refine g_iconst hX dX9_copyAll_0 k_0 ?_
  refine g_istore_n (lc' := [some _, some _, some _]) hX dX9_copyAll_1 rfl (by decide) rfl rfl ?_
  exact g_weak (lc' := [some _, some _, some _]) ⟨rfl, rfl, rfl, trivial⟩ (t_X9_copyAll_2 hX ha0 ha1 2000 _ _ h)
set_option maxRecDepth 100000 in
set_option maxHeartbeats 4000000 in
theorem t_X9_opened_30 {l : Launch} {D : DT} {X : XT} {μ : Mem} {k4 : Int32 → Int32 → Option Int32} {r : Int32} (hX : Cx l D false X 3 RX9 cX9_opened 3 (some FieldType.int)) (hk4 : ∀ (v1 : Int32) (v2 : Int32), k4 v1 v2 = some r → G l D false X 3 (some (.int r)) μ 4 [some (.ref (D.1 0)), some (.int v1), some (.int v2)] [] μ) : ∀ (v2 : Int32) (s0 : Int32) (s1 : Int32), f_X9_opened_30 k4 μ v2 s0 s1 = some r → G l D false X 3 (some (.int r)) μ 30 [some (.ref (D.1 0)), none, some (.int v2)] [.int s1, .int s0] μ := by
  intro v2 s0 s1 h
  unfold f_X9_opened_30 at h
  refine g_ior hX dX9_opened_30 ?_
  refine g_istore_n (lc' := [some _, some _, some _]) hX dX9_opened_31 rfl (by decide) rfl rfl ?_
  refine g_iinc (lc' := [some _, some _, some _]) hX dX9_opened_32 (by decide) rfl (congrArg _ k_1) rfl rfl ?_
  refine g_goto (tgt := 4) hX dX9_opened_35 (by decide) ?_
  exact g_weak (lc' := [some _, some _, some _]) ⟨rfl, rfl, rfl, trivial⟩ (hk4 _ _ h)
set_option maxRecDepth 100000 in
set_option maxHeartbeats 4000000 in
theorem t_X9_opened_4 {l : Launch} {D : DT} {X : XT} {μ : Mem} {r : Int32} (hX : Cx l D false X 3 RX9 cX9_opened 3 (some FieldType.int)) : ∀ (n : Nat) (v1 : Int32) (v2 : Int32), f_X9_opened_4 μ n v1 v2 = some r → G l D false X 3 (some (.int r)) μ 4 [some (.ref (D.1 0)), some (.int v1), some (.int v2)] [] μ := by
  intro n
  induction n with
  | zero => intro v1 v2 h; exact absurd h (by simp [f_X9_opened_4])
  | succ n ih =>
    intro v1 v2 h
    rw [f_X9_opened_4] at h
    refine g_iload_n hX dX9_opened_4 rfl rfl ?_
    refine g_aload_n hX dX9_opened_5 rfl rfl ?_
    refine g_getr hX kd_false_0 fg_9_0 tf_9_0 w_970 sr_false_0_0 dX9_opened_6 ?_
    refine g_iconst hX dX9_opened_9 k_3 ?_
    refine g_iald hX wk_9_0.1 wk_9_0.2 (by decide) dX9_opened_10 ?_
    refine g_icmp_ge (tgt := 38) hX dX9_opened_11 (by decide) (fun q1 => ?_) (fun q1 => ?_)
    · rw [if_pos q1] at h
      refine g_iload_n hX dX9_opened_38 rfl rfl ?_
      obtain rfl := Option.some.inj h
      exact g_iret hX rfl rfl dX9_opened_39
    · rw [if_neg q1] at h
      refine g_iload_n hX dX9_opened_14 rfl rfl ?_
      refine g_aload_n hX dX9_opened_15 rfl rfl ?_
      refine g_iload_n hX dX9_opened_16 rfl rfl ?_
      obtain ⟨r2, hr2, h⟩ := bd_some h
      refine g_callVi hX (c_X9_isOpen  _ hr2) mv_X9_isOpen wm_1089 kd_false_0 rfl (by decide) (by decide) rfl rfl (Nat.le_of_ble_eq_true rfl) dX9_opened_17 ?_
      refine g_if_eq (tgt := 29) hX dX9_opened_20 (by decide) (fun q3 => ?_) (fun q3 => ?_)
      · rw [if_pos q3] at h
        refine g_iconst hX dX9_opened_29 k_0 ?_
        exact g_weak (lc' := [some _, none, some _]) ⟨rfl, rfl, trivial⟩ (t_X9_opened_30 hX ih _ _ _ h)
      · rw [if_neg q3] at h
        refine g_iconst hX dX9_opened_23 k_1 ?_
        refine g_iload_n hX dX9_opened_24 rfl rfl ?_
        refine g_ishl hX dX9_opened_25 ?_
        refine g_goto (tgt := 30) hX dX9_opened_26 (by decide) ?_
        exact g_weak (lc' := [some _, none, some _]) ⟨rfl, rfl, trivial⟩ (t_X9_opened_30 hX ih _ _ _ h)
set_option maxRecDepth 100000 in
set_option maxHeartbeats 4000000 in
theorem c_X9_opened {l : Launch} {D : DT} {μ : Mem} {r : Int32} (h : f_X9_opened μ = some r) : Ct l D false 3 yX9_opened cX9_opened 3 (some FieldType.int) [.ref (D.1 0)] μ (some (.int r)) μ := by
  refine Ct.of (own := RX9) (lc0 := [some (.ref (D.1 0)), none, none]) pn_X9 rfl (Nat.le_of_ble_eq_true rfl) rfl mv_X9_opened.2.2.2.1 (fun X hX => ?_)
  unfold f_X9_opened at h
  refine g_iconst hX dX9_opened_0 k_0 ?_
  refine g_istore_n (lc' := [some _, some _, none]) hX dX9_opened_1 rfl (by decide) rfl rfl ?_
  refine g_iconst hX dX9_opened_2 k_0 ?_
  refine g_istore_n (lc' := [some _, some _, some _]) hX dX9_opened_3 rfl (by decide) rfl rfl ?_
  exact g_weak (lc' := [some _, some _, some _]) ⟨rfl, rfl, rfl, trivial⟩ (t_X9_opened_4 hX 2000 _ _ h)
set_option maxRecDepth 100000 in
set_option maxHeartbeats 4000000 in
theorem c_X9_count {l : Launch} {D : DT} {μ : Mem} {r : Int32} {μ' : Mem} (v1 : Int32) (h : f_X9_count v1 μ = some (r, μ')) : Ct l D false 4 yX9_count cX9_count 2 (some FieldType.int) [.ref (D.1 0), .int v1] μ (some (.int r)) μ' := by
  refine Ct.of (own := RX9) (lc0 := [some (.ref (D.1 0)), some (.int v1)]) pn_X9 rfl (Nat.le_of_ble_eq_true rfl) rfl mv_X9_count.2.2.2.1 (fun X hX => ?_)
  unfold f_X9_count at h
  refine g_iload_n hX dX9_count_0 rfl rfl ?_
  by_cases q1 : v1 = 0
  · rw [if_pos q1] at h
    refine g_tsIn (tgt := 56) (off := 55) hX dX9_count_1 (by rw [q1] <;> decide) (by rw [q1] <;> decide) (by rw [q1] <;> rfl) (by decide) ?_
    refine g_aload_n hX dX9_count_56 rfl rfl ?_
    refine g_getr hX kd_false_0 fg_9_0 tf_9_0 w_970 sr_false_0_0 dX9_count_57 ?_
    refine g_iconst hX dX9_count_60 k_2 ?_
    refine g_iald hX wk_9_0.1 wk_9_0.2 (by decide) dX9_count_61 ?_
    obtain ⟨rfl, rfl⟩ := pair_inj h
    exact g_iret hX rfl rfl dX9_count_62
  rw [if_neg q1] at h
  have eq1_0 := ts_ne (c := 0) (k := 0) q1 (by decide)
  by_cases q2 : v1 = 1
  · rw [if_pos q2] at h
    refine g_tsIn (tgt := 63) (off := 62) hX dX9_count_1 (by rw [q2] <;> decide) (by rw [q2] <;> decide) (by rw [q2] <;> rfl) (by decide) ?_
    refine g_aload_n hX dX9_count_63 rfl rfl ?_
    refine g_getr hX kd_false_0 fg_9_0 tf_9_0 w_970 sr_false_0_0 dX9_count_64 ?_
    refine g_iconst hX dX9_count_67 k_3 ?_
    refine g_iald hX wk_9_0.1 wk_9_0.2 (by decide) dX9_count_68 ?_
    obtain ⟨rfl, rfl⟩ := pair_inj h
    exact g_iret hX rfl rfl dX9_count_69
  rw [if_neg q2] at h
  have eq2_1 := ts_ne (c := 1) (k := 1) q2 (by decide)
  by_cases q3 : v1 = 2
  · rw [if_pos q3] at h
    refine g_tsIn (tgt := 70) (off := 69) hX dX9_count_1 (by rw [q3] <;> decide) (by rw [q3] <;> decide) (by rw [q3] <;> rfl) (by decide) ?_
    refine g_aload_n hX dX9_count_70 rfl rfl ?_
    refine g_getr hX kd_false_0 fg_9_0 tf_9_0 w_970 sr_false_0_0 dX9_count_71 ?_
    refine g_iconst hX dX9_count_74 k_4 ?_
    refine g_iald hX wk_9_0.1 wk_9_0.2 (by decide) dX9_count_75 ?_
    obtain ⟨rfl, rfl⟩ := pair_inj h
    exact g_iret hX rfl rfl dX9_count_76
  rw [if_neg q3] at h
  have eq3_2 := ts_ne (c := 2) (k := 2) q3 (by decide)
  by_cases q4 : v1 = 3
  · rw [if_pos q4] at h
    refine g_tsIn (tgt := 77) (off := 76) hX dX9_count_1 (by rw [q4] <;> decide) (by rw [q4] <;> decide) (by rw [q4] <;> rfl) (by decide) ?_
    refine g_aload_n hX dX9_count_77 rfl rfl ?_
    refine g_getr hX kd_false_0 fg_9_0 tf_9_0 w_970 sr_false_0_0 dX9_count_78 ?_
    refine g_iconst hX dX9_count_81 k_0 ?_
    refine g_iald hX wk_9_0.1 wk_9_0.2 (by decide) dX9_count_82 ?_
    obtain ⟨rfl, rfl⟩ := pair_inj h
    exact g_iret hX rfl rfl dX9_count_83
  rw [if_neg q4] at h
  have eq4_3 := ts_ne (c := 3) (k := 3) q4 (by decide)
  by_cases q5 : v1 = 4
  · rw [if_pos q5] at h
    refine g_tsIn (tgt := 84) (off := 83) hX dX9_count_1 (by rw [q5] <;> decide) (by rw [q5] <;> decide) (by rw [q5] <;> rfl) (by decide) ?_
    refine g_aload_n hX dX9_count_84 rfl rfl ?_
    refine g_getr hX kd_false_0 fg_9_0 tf_9_0 w_970 sr_false_0_0 dX9_count_85 ?_
    refine g_iconst hX dX9_count_88 k_5 ?_
    refine g_iald hX wk_9_0.1 wk_9_0.2 (by decide) dX9_count_89 ?_
    obtain ⟨rfl, rfl⟩ := pair_inj h
    exact g_iret hX rfl rfl dX9_count_90
  rw [if_neg q5] at h
  have eq5_4 := ts_ne (c := 4) (k := 4) q5 (by decide)
  by_cases q6 : v1 = 5
  · rw [if_pos q6] at h
    refine g_tsIn (tgt := 91) (off := 90) hX dX9_count_1 (by rw [q6] <;> decide) (by rw [q6] <;> decide) (by rw [q6] <;> rfl) (by decide) ?_
    refine g_aload_n hX dX9_count_91 rfl rfl ?_
    obtain ⟨r7, hr7, h⟩ := bd_some h
    refine g_callVi hX (c_X9_opened hr7) mv_X9_opened wm_1252 kd_false_0 rfl (by decide) (by decide) rfl rfl (Nat.le_of_ble_eq_true rfl) dX9_count_92 ?_
    obtain ⟨rfl, rfl⟩ := pair_inj h
    exact g_iret hX rfl rfl dX9_count_95
  rw [if_neg q6] at h
  have eq6_5 := ts_ne (c := 5) (k := 5) q6 (by decide)
  by_cases q8 : v1 = 6
  · rw [if_pos q8] at h
    refine g_tsIn (tgt := 96) (off := 95) hX dX9_count_1 (by rw [q8] <;> decide) (by rw [q8] <;> decide) (by rw [q8] <;> rfl) (by decide) ?_
    refine g_aload_n hX dX9_count_96 rfl rfl ?_
    refine g_getr hX kd_false_0 fg_9_0 tf_9_0 w_970 sr_false_0_0 dX9_count_97 ?_
    refine g_bipush hX dX9_count_100 kb_6 ?_
    refine g_iald hX wk_9_0.1 wk_9_0.2 (by decide) dX9_count_102 ?_
    obtain ⟨rfl, rfl⟩ := pair_inj h
    exact g_iret hX rfl rfl dX9_count_103
  rw [if_neg q8] at h
  have eq8_6 := ts_ne (c := 6) (k := 6) q8 (by decide)
  by_cases q9 : v1 = 7
  · rw [if_pos q9] at h
    refine g_tsIn (tgt := 104) (off := 103) hX dX9_count_1 (by rw [q9] <;> decide) (by rw [q9] <;> decide) (by rw [q9] <;> rfl) (by decide) ?_
    refine g_aload_n hX dX9_count_104 rfl rfl ?_
    refine g_getr hX kd_false_0 fg_9_0 tf_9_0 w_970 sr_false_0_0 dX9_count_105 ?_
    refine g_bipush hX dX9_count_108 kb_7 ?_
    refine g_iald hX wk_9_0.1 wk_9_0.2 (by decide) dX9_count_110 ?_
    obtain ⟨rfl, rfl⟩ := pair_inj h
    exact g_iret hX rfl rfl dX9_count_111
  rw [if_neg q9] at h
  have eq9_7 := ts_ne (c := 7) (k := 7) q9 (by decide)
  by_cases q10 : v1 = 8
  · rw [if_pos q10] at h
    refine g_tsIn (tgt := 112) (off := 111) hX dX9_count_1 (by rw [q10] <;> decide) (by rw [q10] <;> decide) (by rw [q10] <;> rfl) (by decide) ?_
    refine g_aload_n hX dX9_count_112 rfl rfl ?_
    refine g_geti hX kd_false_0 fg_9_21 tf_9_21 w_991 dX9_count_113 ?_
    obtain ⟨rfl, rfl⟩ := pair_inj h
    exact g_iret hX rfl rfl dX9_count_116
  rw [if_neg q10] at h
  have eq10_8 := ts_ne (c := 8) (k := 8) q10 (by decide)
  by_cases q11 : v1 = 9
  · rw [if_pos q11] at h
    refine g_tsIn (tgt := 117) (off := 116) hX dX9_count_1 (by rw [q11] <;> decide) (by rw [q11] <;> decide) (by rw [q11] <;> rfl) (by decide) ?_
    refine g_aload_n hX dX9_count_117 rfl rfl ?_
    refine g_getr hX kd_false_0 fg_9_0 tf_9_0 w_970 sr_false_0_0 dX9_count_118 ?_
    refine g_iconst hX dX9_count_121 k_1 ?_
    refine g_iald hX wk_9_0.1 wk_9_0.2 (by decide) dX9_count_122 ?_
    obtain ⟨rfl, rfl⟩ := pair_inj h
    exact g_iret hX rfl rfl dX9_count_123
  rw [if_neg q11] at h
  have eq11_9 := ts_ne (c := 9) (k := 9) q11 (by decide)
  refine g_tsOut (tgt := 124) hX dX9_count_1 (by omega) (by decide) ?_
  refine g_aload_n hX dX9_count_124 rfl rfl ?_
  refine g_ldc hX dX9_count_125 wc_1050 ?_
  obtain ⟨r12, μ13, hr12, h⟩ := bd2_some h
  refine g_callVi hX (c_X9_error  _ hr12) mv_X9_error wm_1051 kd_false_0 rfl (by decide) (by decide) rfl rfl (Nat.le_of_ble_eq_true rfl) dX9_count_127 ?_
  obtain ⟨rfl, rfl⟩ := pair_inj h
  exact g_iret hX rfl rfl dX9_count_130
