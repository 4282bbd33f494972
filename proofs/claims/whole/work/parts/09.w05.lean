set_option maxRecDepth 100000 in
set_option maxHeartbeats 4000000 in
theorem t_X6_workb_48 {l : Launch} {D : DT} {X : XT} {P : Int32 → Int32 → Int32 → Int32 → Mem → Option (Int32 × Mem)} {dP : Nat} {r : Int32} {μ' : Mem} (hX : Cx l D true X (dP + 3) RX6 cX6_work 6 (some FieldType.int)) (hB : 1 ≤ dP) (hP : ∀ (v1 : Int32) (v2 : Int32) (v3 : Int32) (v4 : Int32) {μ : Mem} {r : Int32} {μ' : Mem}, P v1 v2 v3 v4 μ = some (r, μ') → Ct l D true dP yX6_work cX6_work 6 (some FieldType.int) [.ref (D.1 55), .int v1, .int v2, .int v3, .int v4] μ (some (.int r)) μ') : ∀ (v1 : Int32) (v2 : Int32) (v3 : Int32) (v4 : Int32) (μ : Mem), f_X6_workb_48 P v1 v2 v3 v4 μ = some (r, μ') → G l D true X 6 (some (.int r)) μ' 48 [some (.ref (D.1 55)), some (.int v1), some (.int v2), some (.int v3), some (.int v4), none] [] μ := by
  intro v1 v2 v3 v4 μ h
  unfold f_X6_workb_48 at h
  refine g_iload hX dX6_work_48 rfl ?_
  refine g_iconst hX dX6_work_50 k_1 ?_
  refine g_iadd hX dX6_work_51 ?_
  refine g_istore (lc' := [some _, some _, some _, some _, some _, some _]) hX dX6_work_52 (by decide) rfl rfl ?_
  refine g_iload_n hX dX6_work_54 rfl rfl ?_
  by_cases q1 : v1 = 10
  · rw [if_pos q1] at h
    refine g_ls (tgt := 168) (off := 113) hX dX6_work_55 (by decide) (by rw [q1] <;> rfl) (by decide) ?_
    refine g_iload_n hX dX6_work_168 rfl rfl ?_
    refine g_aload_n hX dX6_work_169 rfl rfl ?_
    refine g_geti hX kd_true_55 fg_6_4 tf_6_4 w_316 dX6_work_170 ?_
    refine g_iadd hX dX6_work_173 ?_
    obtain ⟨rfl, rfl⟩ := pair_inj h
    exact g_iret hX rfl rfl dX6_work_174
  rw [if_neg q1] at h
  have eq1_10 := ls_ne (c := 10) (k := 10) q1 (by decide)
  by_cases q2 : v1 = 11
  · rw [if_pos q2] at h
    refine g_ls (tgt := 175) (off := 120) hX dX6_work_55 (by decide) (by rw [q2] <;> rfl) (by decide) ?_
    refine g_aload_n hX dX6_work_175 rfl rfl ?_
    refine g_iconst hX dX6_work_176 k_0 ?_
    refine g_iload_n hX dX6_work_177 rfl rfl ?_
    refine g_iload hX dX6_work_178 rfl ?_
    obtain ⟨r3, μ4, hr3, h⟩ := bd2_some h
    refine g_callVi hX (c_X6_own hB hP  _ _ _ hr3) mv_X6_own wm_849 kd_true_55 rfl (by decide) (by omega) rfl rfl (Nat.le_of_ble_eq_true rfl) dX6_work_180 ?_
    refine g_iconst hX dX6_work_183 k_2 ?_
    refine g_imul hX dX6_work_184 ?_
    obtain ⟨rfl, rfl⟩ := pair_inj h
    exact g_iret hX rfl rfl dX6_work_185
  rw [if_neg q2] at h
  have eq2_11 := ls_ne (c := 11) (k := 11) q2 (by decide)
  by_cases q5 : v1 = 12
  · rw [if_pos q5] at h
    refine g_ls (tgt := 186) (off := 131) hX dX6_work_55 (by decide) (by rw [q5] <;> rfl) (by decide) ?_
    refine g_aload_n hX dX6_work_186 rfl rfl ?_
    refine g_iconst hX dX6_work_187 k_1 ?_
    refine g_iload_n hX dX6_work_188 rfl rfl ?_
    refine g_iload hX dX6_work_189 rfl ?_
    obtain ⟨r6, μ7, hr6, h⟩ := bd2_some h
    refine g_callVi hX (c_X6_own hB hP  _ _ _ hr6) mv_X6_own wm_849 kd_true_55 rfl (by decide) (by omega) rfl rfl (Nat.le_of_ble_eq_true rfl) dX6_work_191 ?_
    refine g_aload_n hX dX6_work_194 rfl rfl ?_
    refine g_geti hX kd_true_55 fg_6_5 tf_6_5 w_317 dX6_work_195 ?_
    refine g_isub hX dX6_work_198 ?_
    obtain ⟨rfl, rfl⟩ := pair_inj h
    exact g_iret hX rfl rfl dX6_work_199
  rw [if_neg q5] at h
  have eq5_12 := ls_ne (c := 12) (k := 12) q5 (by decide)
  by_cases q8 : v1 = 13
  · rw [if_pos q8] at h
    refine g_ls (tgt := 200) (off := 145) hX dX6_work_55 (by decide) (by rw [q8] <;> rfl) (by decide) ?_
    refine g_aload_n hX dX6_work_200 rfl rfl ?_
    refine g_iload_n hX dX6_work_201 rfl rfl ?_
    obtain ⟨r9, μ10, hr9, h⟩ := bd2_some h
    refine g_callVi hX (c_X6_divided  _ hr9) mv_X6_divided wm_864 kd_true_55 rfl (by decide) (by omega) rfl rfl (Nat.le_of_ble_eq_true rfl) dX6_work_202 ?_
    obtain ⟨rfl, rfl⟩ := pair_inj h
    exact g_iret hX rfl rfl dX6_work_205
  rw [if_neg q8] at h
  have eq8_13 := ls_ne (c := 13) (k := 13) q8 (by decide)
  by_cases q11 : v1 = 20
  · rw [if_pos q11] at h
    refine g_ls (tgt := 206) (off := 151) hX dX6_work_55 (by decide) (by rw [q11] <;> rfl) (by decide) ?_
    refine g_aload_n hX dX6_work_206 rfl rfl ?_
    refine g_iload_n hX dX6_work_207 rfl rfl ?_
    refine g_iconst hX dX6_work_208 k_0 ?_
    refine g_iload_n hX dX6_work_209 rfl rfl ?_
    refine g_iload hX dX6_work_210 rfl ?_
    obtain ⟨r12, μ13, hr12, h⟩ := bd2_some h
    refine g_callVi hX (c_X6_from hB hP  _ _ _ _ hr12) mv_X6_from wm_853 kd_true_55 rfl (by decide) (by omega) rfl rfl (Nat.le_of_ble_eq_true rfl) dX6_work_212 ?_
    refine g_iconst hX dX6_work_215 k_4 ?_
    refine g_isub hX dX6_work_216 ?_
    obtain ⟨rfl, rfl⟩ := pair_inj h
    exact g_iret hX rfl rfl dX6_work_217
  rw [if_neg q11] at h
  have eq11_20 := ls_ne (c := 20) (k := 20) q11 (by decide)
  by_cases q14 : v1 = 21
  · rw [if_pos q14] at h
    refine g_ls (tgt := 218) (off := 163) hX dX6_work_55 (by decide) (by rw [q14] <;> rfl) (by decide) ?_
    refine g_aload_n hX dX6_work_218 rfl rfl ?_
    refine g_iload_n hX dX6_work_219 rfl rfl ?_
    refine g_iconst hX dX6_work_220 k_3 ?_
    refine g_iload_n hX dX6_work_221 rfl rfl ?_
    refine g_iload hX dX6_work_222 rfl ?_
    obtain ⟨r15, μ16, hr15, h⟩ := bd2_some h
    refine g_callVi hX (c_X6_from hB hP  _ _ _ _ hr15) mv_X6_from wm_853 kd_true_55 rfl (by decide) (by omega) rfl rfl (Nat.le_of_ble_eq_true rfl) dX6_work_224 ?_
    refine g_aload_n hX dX6_work_227 rfl rfl ?_
    refine g_iconst hX dX6_work_228 k_1 ?_
    refine g_iconst hX dX6_work_229 k_1 ?_
    refine g_iload hX dX6_work_230 rfl ?_
    obtain ⟨r17, μ18, hr17, h⟩ := bd2_some h
    refine g_callVi hX (c_X6_own hB hP  _ _ _ hr17) mv_X6_own wm_849 kd_true_55 rfl (by decide) (by omega) rfl rfl (Nat.le_of_ble_eq_true rfl) dX6_work_232 ?_
    refine g_iadd hX dX6_work_235 ?_
    obtain ⟨rfl, rfl⟩ := pair_inj h
    exact g_iret hX rfl rfl dX6_work_236
  rw [if_neg q14] at h
  have eq14_21 := ls_ne (c := 21) (k := 21) q14 (by decide)
  by_cases q19 : v1 = 30
  · rw [if_pos q19] at h
    refine g_ls (tgt := 237) (off := 182) hX dX6_work_55 (by decide) (by rw [q19] <;> rfl) (by decide) ?_
    refine g_iconst hX dX6_work_237 k_0 ?_
    refine g_aload_n hX dX6_work_238 rfl rfl ?_
    refine g_iload_n hX dX6_work_239 rfl rfl ?_
    refine g_iconst hX dX6_work_240 k_1 ?_
    refine g_iload_n hX dX6_work_241 rfl rfl ?_
    refine g_iload hX dX6_work_242 rfl ?_
    obtain ⟨r20, μ21, hr20, h⟩ := bd2_some h
    refine g_callVi hX (c_X6_from hB hP  _ _ _ _ hr20) mv_X6_from wm_853 kd_true_55 rfl (by decide) (by omega) rfl rfl (Nat.le_of_ble_eq_true rfl) dX6_work_244 ?_
    refine g_isub hX dX6_work_247 ?_
    obtain ⟨rfl, rfl⟩ := pair_inj h
    exact g_iret hX rfl rfl dX6_work_248
  rw [if_neg q19] at h
  have eq19_30 := ls_ne (c := 30) (k := 30) q19 (by decide)
  by_cases q22 : v1 = 40
  · rw [if_pos q22] at h
    refine g_ls (tgt := 249) (off := 194) hX dX6_work_55 (by decide) (by rw [q22] <;> rfl) (by decide) ?_
    refine g_aload_n hX dX6_work_249 rfl rfl ?_
    refine g_iload_n hX dX6_work_250 rfl rfl ?_
    refine g_iconst hX dX6_work_251 k_2 ?_
    refine g_iload_n hX dX6_work_252 rfl rfl ?_
    refine g_iconst hX dX6_work_253 k_2 ?_
    refine g_idiv hX (by decide) dX6_work_254 ?_
    refine g_iload hX dX6_work_255 rfl ?_
    obtain ⟨r23, μ24, hr23, h⟩ := bd2_some h
    refine g_callVi hX (c_X6_from hB hP  _ _ _ _ hr23) mv_X6_from wm_853 kd_true_55 rfl (by decide) (by omega) rfl rfl (Nat.le_of_ble_eq_true rfl) dX6_work_257 ?_
    obtain ⟨rfl, rfl⟩ := pair_inj h
    exact g_iret hX rfl rfl dX6_work_260
  rw [if_neg q22] at h
  have eq22_40 := ls_ne (c := 40) (k := 40) q22 (by decide)
  by_cases q25 : v1 = 50
  · rw [if_pos q25] at h
    refine g_ls (tgt := 261) (off := 206) hX dX6_work_55 (by decide) (by rw [q25] <;> rfl) (by decide) ?_
    refine g_aload_n hX dX6_work_261 rfl rfl ?_
    refine g_iload_n hX dX6_work_262 rfl rfl ?_
    refine g_iconst hX dX6_work_263 k_0 ?_
    refine g_iload_n hX dX6_work_264 rfl rfl ?_
    refine g_iload hX dX6_work_265 rfl ?_
    obtain ⟨r26, μ27, hr26, h⟩ := bd2_some h
    refine g_callVi hX (c_X6_from hB hP  _ _ _ _ hr26) mv_X6_from wm_853 kd_true_55 rfl (by decide) (by omega) rfl rfl (Nat.le_of_ble_eq_true rfl) dX6_work_267 ?_
    refine g_iconst hX dX6_work_270 k_3 ?_
    refine g_imul hX dX6_work_271 ?_
    obtain ⟨rfl, rfl⟩ := pair_inj h
    exact g_iret hX rfl rfl dX6_work_272
  rw [if_neg q25] at h
  have eq25_50 := ls_ne (c := 50) (k := 50) q25 (by decide)
  by_cases q28 : v1 = 51
  · rw [if_pos q28] at h
    refine g_ls (tgt := 273) (off := 218) hX dX6_work_55 (by decide) (by rw [q28] <;> rfl) (by decide) ?_
    refine g_aload_n hX dX6_work_273 rfl rfl ?_
    refine g_iload_n hX dX6_work_274 rfl rfl ?_
    refine g_iconst hX dX6_work_275 k_2 ?_
    refine g_iload_n hX dX6_work_276 rfl rfl ?_
    refine g_iload hX dX6_work_277 rfl ?_
    obtain ⟨r29, μ30, hr29, h⟩ := bd2_some h
    refine g_callVi hX (c_X6_from hB hP  _ _ _ _ hr29) mv_X6_from wm_853 kd_true_55 rfl (by decide) (by omega) rfl rfl (Nat.le_of_ble_eq_true rfl) dX6_work_279 ?_
    refine g_aload_n hX dX6_work_282 rfl rfl ?_
    refine g_geti hX kd_true_55 fg_6_4 tf_6_4 w_316 dX6_work_283 ?_
    refine g_ixor hX dX6_work_286 ?_
    obtain ⟨rfl, rfl⟩ := pair_inj h
    exact g_iret hX rfl rfl dX6_work_287
  rw [if_neg q28] at h
  have eq28_51 := ls_ne (c := 51) (k := 51) q28 (by decide)
  by_cases q31 : v1 = 60
  · rw [if_pos q31] at h
    refine g_ls (tgt := 288) (off := 233) hX dX6_work_55 (by decide) (by rw [q31] <;> rfl) (by decide) ?_
    refine g_aload_n hX dX6_work_288 rfl rfl ?_
    refine g_iload_n hX dX6_work_289 rfl rfl ?_
    refine g_iconst hX dX6_work_290 k_1 ?_
    refine g_iload_n hX dX6_work_291 rfl rfl ?_
    refine g_iconst hX dX6_work_292 k_1 ?_
    refine g_iadd hX dX6_work_293 ?_
    refine g_iload hX dX6_work_294 rfl ?_
    obtain ⟨r32, μ33, hr32, h⟩ := bd2_some h
    refine g_callVi hX (c_X6_from hB hP  _ _ _ _ hr32) mv_X6_from wm_853 kd_true_55 rfl (by decide) (by omega) rfl rfl (Nat.le_of_ble_eq_true rfl) dX6_work_296 ?_
    obtain ⟨rfl, rfl⟩ := pair_inj h
    exact g_iret hX rfl rfl dX6_work_299
  rw [if_neg q31] at h
  have eq31_60 := ls_ne (c := 60) (k := 60) q31 (by decide)
  by_cases q34 : v1 = 70
  · rw [if_pos q34] at h
    refine g_ls (tgt := 300) (off := 245) hX dX6_work_55 (by decide) (by rw [q34] <;> rfl) (by decide) ?_
    refine g_bipush hX dX6_work_300 kb_9 ?_
    obtain ⟨rfl, rfl⟩ := pair_inj h
    exact g_iret hX rfl rfl dX6_work_302
  rw [if_neg q34] at h
  have eq34_70 := ls_ne (c := 70) (k := 70) q34 (by decide)
  by_cases q35 : v1 = 71
  · rw [if_pos q35] at h
    refine g_ls (tgt := 303) (off := 248) hX dX6_work_55 (by decide) (by rw [q35] <;> rfl) (by decide) ?_
    refine g_aload_n hX dX6_work_303 rfl rfl ?_
    refine g_iload_n hX dX6_work_304 rfl rfl ?_
    refine g_iconst hX dX6_work_305 k_1 ?_
    refine g_iload_n hX dX6_work_306 rfl rfl ?_
    refine g_iload hX dX6_work_307 rfl ?_
    obtain ⟨r36, μ37, hr36, h⟩ := bd2_some h
    refine g_callVi hX (c_X6_from hB hP  _ _ _ _ hr36) mv_X6_from wm_853 kd_true_55 rfl (by decide) (by omega) rfl rfl (Nat.le_of_ble_eq_true rfl) dX6_work_309 ?_
    refine g_aload_n hX dX6_work_312 rfl rfl ?_
    refine g_geti hX kd_true_55 fg_6_5 tf_6_5 w_317 dX6_work_313 ?_
    refine g_iadd hX dX6_work_316 ?_
    obtain ⟨rfl, rfl⟩ := pair_inj h
    exact g_iret hX rfl rfl dX6_work_317
  rw [if_neg q35] at h
  have eq35_71 := ls_ne (c := 71) (k := 71) q35 (by decide)
  refine g_ls (tgt := 318) (off := 263) hX dX6_work_55 (by decide) (by simp [Op.lookupswitch.offset, eq1_10, eq2_11, eq5_12, eq8_13, eq11_20, eq14_21, eq19_30, eq22_40, eq25_50, eq28_51, eq31_60, eq34_70, eq35_71]) (by decide) ?_
  refine g_iconst hX dX6_work_318 k_0 ?_
  obtain ⟨rfl, rfl⟩ := pair_inj h
  exact g_iret hX rfl rfl dX6_work_319
set_option maxRecDepth 100000 in
set_option maxHeartbeats 4000000 in
theorem c_X6_work_b {l : Launch} {D : DT} {P : Int32 → Int32 → Int32 → Int32 → Mem → Option (Int32 × Mem)} {dP : Nat} {μ : Mem} {r : Int32} {μ' : Mem} (hB : 1 ≤ dP) (hP : ∀ (v1 : Int32) (v2 : Int32) (v3 : Int32) (v4 : Int32) {μ : Mem} {r : Int32} {μ' : Mem}, P v1 v2 v3 v4 μ = some (r, μ') → Ct l D true dP yX6_work cX6_work 6 (some FieldType.int) [.ref (D.1 55), .int v1, .int v2, .int v3, .int v4] μ (some (.int r)) μ') (v1 : Int32) (v2 : Int32) (v3 : Int32) (v4 : Int32) (h : f_X6_workb P v1 v2 v3 v4 μ = some (r, μ')) : Ct l D true (dP + 3) yX6_work cX6_work 6 (some FieldType.int) [.ref (D.1 55), .int v1, .int v2, .int v3, .int v4] μ (some (.int r)) μ' := by
  refine Ct.of (own := RX6) (lc0 := [some (.ref (D.1 55)), some (.int v1), some (.int v2), some (.int v3), some (.int v4), none]) pn_X6 rfl (Nat.le_of_ble_eq_true rfl) rfl mv_X6_work.2.2.2.1 (fun X hX => ?_)
  unfold f_X6_workb at h
  refine g_aload_n hX dX6_work_0 rfl rfl ?_
  refine g_geti hX kd_true_55 fg_6_2 tf_6_2 w_313 dX6_work_1 ?_
  refine g_if_ne (tgt := 14) hX dX6_work_4 (by decide) (fun q1 => ?_) (fun q1 => ?_)
  · rw [if_neg q1] at h
    refine g_iconst hX dX6_work_14 k_0 ?_
    obtain ⟨rfl, rfl⟩ := pair_inj h
    exact g_iret hX rfl rfl dX6_work_15
  · rw [if_pos q1] at h
    refine g_iload hX dX6_work_7 rfl ?_
    refine g_bipush hX dX6_work_9 kb_40 ?_
    refine g_icmp_lt (tgt := 16) hX dX6_work_11 (by decide) (fun q2 => ?_) (fun q2 => ?_)
    · rw [if_pos q2] at h
      refine g_aload_n hX dX6_work_16 rfl rfl ?_
      refine g_geti hX kd_true_55 fg_6_1 tf_6_1 w_311 dX6_work_17 ?_
      refine g_aload_n hX dX6_work_20 rfl rfl ?_
      refine g_getr hX kd_true_55 fg_6_0 tf_6_0 w_309 sr_true_55_0 dX6_work_21 ?_
      refine g_alen hX wk_6_0.1 wk_6_0.2 len_30 dX6_work_24 ?_
      refine g_icmp_ge (tgt := 48) hX dX6_work_25 (by decide) (fun q3 => ?_) (fun q3 => ?_)
      · rw [if_pos q3] at h
        exact g_weak (lc' := [some _, some _, some _, some _, some _, none]) ⟨rfl, rfl, rfl, rfl, rfl, trivial⟩ (t_X6_workb_48 hX hB hP _ _ _ _ _ h)
      · rw [if_neg q3] at h
        refine g_aload_n hX dX6_work_28 rfl rfl ?_
        refine g_getr hX kd_true_55 fg_6_0 tf_6_0 w_309 sr_true_55_0 dX6_work_29 ?_
        refine g_aload_n hX dX6_work_32 rfl rfl ?_
        refine g_geti hX kd_true_55 fg_6_1 tf_6_1 w_311 dX6_work_33 ?_
        refine g_iload_n hX dX6_work_36 rfl rfl ?_
        obtain ⟨z5, h⟩ := ck_some h
        obtain ⟨μ4, hμ4, h⟩ := wr_some h
        refine g_iastM hX wk_6_0.1 wk_6_0.2 z5 dX6_work_37 hμ4 ?_
        refine g_aload_n hX dX6_work_38 rfl rfl ?_
        refine g_dup hX dX6_work_39 rfl ?_
        refine g_geti hX kd_true_55 fg_6_1 tf_6_1 w_311 dX6_work_40 ?_
        refine g_iconst hX dX6_work_43 k_1 ?_
        refine g_iadd hX dX6_work_44 ?_
        obtain ⟨μ6, hμ6, h⟩ := wr_some h
        refine g_puti hX kd_true_55 fg_6_1 tf_6_1 tyX6_ok nmX6 rfl w_311 dX6_work_45 hμ6 ?_
        exact g_weak (lc' := [some _, some _, some _, some _, some _, none]) ⟨rfl, rfl, rfl, rfl, rfl, trivial⟩ (t_X6_workb_48 hX hB hP _ _ _ _ _ h)
    · rw [if_neg q2] at h
      refine g_iconst hX dX6_work_14 k_0 ?_
      obtain ⟨rfl, rfl⟩ := pair_inj h
      exact g_iret hX rfl rfl dX6_work_15
theorem c_X6_work {l : Launch} {D : DT} : ∀ (n : Nat) (v1 : Int32) (v2 : Int32) (v3 : Int32) (v4 : Int32) {μ : Mem} {r : Int32} {μ' : Mem} , f_X6_work n v1 v2 v3 v4 μ = some (r, μ') → Ct l D true (1 + 3 * n) yX6_work cX6_work 6 (some FieldType.int) [.ref (D.1 55), .int v1, .int v2, .int v3, .int v4] μ (some (.int r)) μ' := by
  intro n
  induction n with
  | zero => intro v1 v2 v3 v4 μ r μ' h; exact absurd h (by simp [f_X6_work])
  | succ n ih =>
    intro v1 v2 v3 v4 μ r μ' h
    rw [f_X6_work] at h
    rw [show 1 + 3 * (n + 1) = (1 + 3 * n) + 3 by omega]
    exact c_X6_work_b (Nat.le_add_right _ _) ih _ _ _ _ h
set_option maxRecDepth 100000 in
set_option maxHeartbeats 4000000 in
theorem c_X6_speak {l : Launch} {D : DT} {μ : Mem} {r : Int32} {μ' : Mem} (v1 : Int32) (v2 : Int32) (v3 : Int32) (v4 : Int32) (v5 : Int32) (h : f_X6_speak v1 v2 v3 v4 v5 μ = some (r, μ')) : Ct l D true 64 yX6_speak cX6_speak 6 (some FieldType.int) [.ref (D.1 55), .int v1, .int v2, .int v3, .int v4, .int v5] μ (some (.int r)) μ' := by
  refine Ct.of (own := RX6) (lc0 := [some (.ref (D.1 55)), some (.int v1), some (.int v2), some (.int v3), some (.int v4), some (.int v5)]) pn_X6 rfl (Nat.le_of_ble_eq_true rfl) rfl mv_X6_speak.2.2.2.1 (fun X hX => ?_)
  unfold f_X6_speak at h
  refine g_aload_n hX dX6_speak_0 rfl rfl ?_
  refine g_iload_n hX dX6_speak_1 rfl rfl ?_
  obtain ⟨μ1, hμ1, h⟩ := wr_some h
  refine g_puti hX kd_true_55 fg_6_3 tf_6_3 tyX6_ok nmX6 rfl w_315 dX6_speak_2 hμ1 ?_
  refine g_aload_n hX dX6_speak_5 rfl rfl ?_
  refine g_iload_n hX dX6_speak_6 rfl rfl ?_
  obtain ⟨μ2, hμ2, h⟩ := wr_some h
  refine g_puti hX kd_true_55 fg_6_4 tf_6_4 tyX6_ok nmX6 rfl w_316 dX6_speak_7 hμ2 ?_
  refine g_aload_n hX dX6_speak_10 rfl rfl ?_
  refine g_iload_n hX dX6_speak_11 rfl rfl ?_
  obtain ⟨μ3, hμ3, h⟩ := wr_some h
  refine g_puti hX kd_true_55 fg_6_5 tf_6_5 tyX6_ok nmX6 rfl w_317 dX6_speak_12 hμ3 ?_
  refine g_aload_n hX dX6_speak_15 rfl rfl ?_
  refine g_iconst hX dX6_speak_16 k_0 ?_
  obtain ⟨μ4, hμ4, h⟩ := wr_some h
  refine g_puti hX kd_true_55 fg_6_1 tf_6_1 tyX6_ok nmX6 rfl w_311 dX6_speak_17 hμ4 ?_
  refine g_aload_n hX dX6_speak_20 rfl rfl ?_
  refine g_iconst hX dX6_speak_21 k_0 ?_
  obtain ⟨μ5, hμ5, h⟩ := wr_some h
  refine g_putz hX rfl kd_true_55 fg_6_2 tf_6_2 tyX6_ok nmX6 rfl w_313 dX6_speak_22 hμ5 ?_
  refine g_aload_n hX dX6_speak_25 rfl rfl ?_
  refine g_iload hX dX6_speak_26 rfl ?_
  refine g_iload hX dX6_speak_28 rfl ?_
  refine g_iconst hX dX6_speak_30 k_0 ?_
  obtain ⟨r6, μ7, hr6, h⟩ := bd2_some h
  refine g_callVi hX (c_X6_own (P := (f_X6_work 20)) (dP := 1 + 3 * 20) (Nat.le_of_ble_eq_true rfl) (c_X6_work 20)  _ _ _ hr6) mv_X6_own wm_849 kd_true_55 rfl (by decide) (by decide) rfl rfl (Nat.le_of_ble_eq_true rfl) dX6_speak_31 ?_
  obtain ⟨rfl, rfl⟩ := pair_inj h
  exact g_iret hX rfl rfl dX6_speak_34
set_option maxRecDepth 100000 in
set_option maxHeartbeats 4000000 in
theorem t_X7_append_3 {l : Launch} {D : DT} {X : XT} {o : Nat} {μ' : Mem} (hX : Cx l D true X 1 RX7 cX7_append 5 none) (ho : kd true o = 7) : ∀ (n : Nat) (v1 : Int64) (v3 : Int32) (v4 : Int32) (μ : Mem), f_X7_append_3 o n v1 v3 v4 μ = some μ' → G l D true X 5 none μ' 3 [some (.ref (D.1 o)), some (.long v1), none, some (.int v3), some (.int v4)] [] μ := by
  intro n
  induction n with
  | zero => intro v1 v3 v4 μ h; exact absurd h (by simp [f_X7_append_3])
  | succ n ih =>
    intro v1 v3 v4 μ h
    rw [f_X7_append_3] at h
    refine g_iload hX dX7_append_3 rfl ?_
    refine g_iload_n hX dX7_append_5 rfl rfl ?_
    refine g_icmp_ge (tgt := 55) hX dX7_append_6 (by decide) (fun q1 => ?_) (fun q1 => ?_)
    · rw [if_pos q1] at h
      obtain rfl := Option.some.inj h
      exact g_vret hX rfl dX7_append_55
    · rw [if_neg q1] at h
      refine g_aload_n hX dX7_append_9 rfl rfl ?_
      refine g_geti hX ho fg_7_1 tf_7_1 w_223 dX7_append_10 ?_
      refine g_aload_n hX dX7_append_13 rfl rfl ?_
      refine g_getr hX ho fg_7_0 tf_7_0 w_221 (wo_7_0 ho) dX7_append_14 ?_
      refine g_alenB hX (wk_7_0 ho).1 (wk_7_0 ho).2 len_60 dX7_append_17 ?_
      refine g_icmp_ge (tgt := 55) hX dX7_append_18 (by decide) (fun q2 => ?_) (fun q2 => ?_)
      · rw [if_pos q2] at h
        obtain rfl := Option.some.inj h
        exact g_vret hX rfl dX7_append_55
      · rw [if_neg q2] at h
        refine g_aload_n hX dX7_append_21 rfl rfl ?_
        refine g_getr hX ho fg_7_0 tf_7_0 w_221 (wo_7_0 ho) dX7_append_22 ?_
        refine g_aload_n hX dX7_append_25 rfl rfl ?_
        refine g_geti hX ho fg_7_1 tf_7_1 w_223 dX7_append_26 ?_
        refine g_lload_n hX dX7_append_29 rfl rfl ?_
        refine g_bipush hX dX7_append_30 kb_8 ?_
        refine g_iload hX dX7_append_32 rfl ?_
        refine g_imul hX dX7_append_34 ?_
        refine g_lushr hX dX7_append_35 ?_
        refine g_l2i hX dX7_append_36 ?_
        refine g_i2b hX dX7_append_37 ?_
        obtain ⟨z4, h⟩ := ck_some h
        obtain ⟨μ3, hμ3, h⟩ := wr_some h
        refine g_bastM hX (wk_7_0 ho).1 (wk_7_0 ho).2 z4 dX7_append_38 hμ3 ?_
        refine g_aload_n hX dX7_append_39 rfl rfl ?_
        refine g_dup hX dX7_append_40 rfl ?_
        refine g_geti hX ho fg_7_1 tf_7_1 w_223 dX7_append_41 ?_
        refine g_iconst hX dX7_append_44 k_1 ?_
        refine g_iadd hX dX7_append_45 ?_
        obtain ⟨μ5, hμ5, h⟩ := wr_some h
        refine g_puti hX ho fg_7_1 tf_7_1 tyX7_ok nmX7 rfl w_223 dX7_append_46 hμ5 ?_
        refine g_iinc (lc' := [some _, some _, none, some _, some _]) hX dX7_append_49 (by decide) rfl (congrArg _ k_1) rfl rfl ?_
        refine g_goto (tgt := 3) hX dX7_append_52 (by decide) ?_
        exact g_weak (lc' := [some _, some _, none, some _, some _]) ⟨rfl, rfl, rfl, rfl, trivial⟩ (ih _ _ _ _ h)
set_option maxRecDepth 100000 in
set_option maxHeartbeats 4000000 in
theorem c_X7_append {l : Launch} {D : DT} {o : Nat} {μ : Mem} {μ' : Mem} (ho : kd true o = 7) (v1 : Int64) (v3 : Int32) (h : f_X7_append o v1 v3 μ = some μ') : Ct l D true 1 yX7_append cX7_append 5 none [.ref (D.1 o), .long v1, .int v3] μ none μ' := by
  refine Ct.of (own := RX7) (lc0 := [some (.ref (D.1 o)), some (.long v1), none, some (.int v3), none]) pn_X7 rfl (Nat.le_of_ble_eq_true rfl) rfl mv_X7_append.2.2.2.1 (fun X hX => ?_)
  unfold f_X7_append at h
  refine g_iconst hX dX7_append_0 k_0 ?_
  refine g_istore (lc' := [some _, some _, none, some _, some _]) hX dX7_append_1 (by decide) rfl rfl ?_
  exact g_weak (lc' := [some _, some _, none, some _, some _]) ⟨rfl, rfl, rfl, rfl, trivial⟩ (t_X7_append_3 hX ho 2000 _ _ _ _ h)
set_option maxRecDepth 100000 in
set_option maxHeartbeats 4000000 in
theorem c_X8_areTwoFields {l : Launch} {D : DT} {μ : Mem} (v0 : Int32) (v1 : Int32) : Ct l D true 2 yX8_areTwoFields cX8_areTwoFields 2 (some FieldType.boolean) [.int v0, .int v1] μ (some (.int (f_X8_areTwoFields v0 v1))) μ := by
  obtain ⟨r, h⟩ : ∃ r, f_X8_areTwoFields v0 v1 = r := ⟨_, rfl⟩
  rw [h]
  refine Ct.of (own := RX8) (lc0 := [some (.int v0), some (.int v1)]) pn_X8 rfl (Nat.le_of_ble_eq_true rfl) rfl mv_X8_areTwoFields.2.2.1 (fun X hX => ?_)
  unfold f_X8_areTwoFields at h
  refine g_iload_n hX dX8_areTwoFields_0 rfl rfl ?_
  refine g_callSi hX (c_X8_isField  v0) mv_X8_isField wm_473 (by decide) rfl rfl (Nat.le_of_ble_eq_true rfl) dX8_areTwoFields_1 ?_
  refine g_if_eq (tgt := 23) hX dX8_areTwoFields_4 (by decide) (fun q1 => ?_) (fun q1 => ?_)
  · rw [if_pos q1] at h
    refine g_iconst hX dX8_areTwoFields_23 k_0 ?_
    subst h
    exact g_iret hX rfl rfl dX8_areTwoFields_24
  · rw [if_neg q1] at h
    refine g_iload_n hX dX8_areTwoFields_7 rfl rfl ?_
    refine g_callSi hX (c_X8_isField  v1) mv_X8_isField wm_473 (by decide) rfl rfl (Nat.le_of_ble_eq_true rfl) dX8_areTwoFields_8 ?_
    refine g_if_eq (tgt := 23) hX dX8_areTwoFields_11 (by decide) (fun q2 => ?_) (fun q2 => ?_)
    · rw [if_pos q2] at h
      refine g_iconst hX dX8_areTwoFields_23 k_0 ?_
      subst h
      exact g_iret hX rfl rfl dX8_areTwoFields_24
    · rw [if_neg q2] at h
      refine g_iload_n hX dX8_areTwoFields_14 rfl rfl ?_
      refine g_iload_n hX dX8_areTwoFields_15 rfl rfl ?_
      refine g_icmp_eq (tgt := 23) hX dX8_areTwoFields_16 (by decide) (fun q3 => ?_) (fun q3 => ?_)
      · rw [if_pos q3] at h
        refine g_iconst hX dX8_areTwoFields_23 k_0 ?_
        subst h
        exact g_iret hX rfl rfl dX8_areTwoFields_24
      · rw [if_neg q3] at h
        refine g_iconst hX dX8_areTwoFields_19 k_1 ?_
        refine g_goto (tgt := 24) hX dX8_areTwoFields_20 (by decide) ?_
        subst h
        exact g_iret hX rfl rfl dX8_areTwoFields_24
set_option maxRecDepth 100000 in
set_option maxHeartbeats 4000000 in
theorem c_X8_fail {l : Launch} {D : DT} {μ : Mem} {r : Int32} {μ' : Mem} (v1 : Int32) (h : f_X8_fail v1 μ = some (r, μ')) : Ct l D true 1 yX8_fail cX8_fail 2 (some FieldType.int) [.ref (D.1 0), .int v1] μ (some (.int r)) μ' := by
  refine Ct.of (own := RX8) (lc0 := [some (.ref (D.1 0)), some (.int v1)]) pn_X8 rfl (Nat.le_of_ble_eq_true rfl) rfl mv_X8_fail.2.2.2.1 (fun X hX => ?_)
  unfold f_X8_fail at h
  refine g_iload_n hX dX8_fail_0 rfl rfl ?_
  refine g_if_lt (tgt := 23) hX dX8_fail_1 (by decide) (fun q1 => ?_) (fun q1 => ?_)
  · rw [if_pos q1] at h
    refine g_ldcw hX dX8_fail_23 wc_390 ?_
    refine g_iload_n hX dX8_fail_26 rfl rfl ?_
    refine g_isub hX dX8_fail_27 ?_
    obtain ⟨rfl, rfl⟩ := pair_inj h
    exact g_iret hX rfl rfl dX8_fail_28
  · rw [if_neg q1] at h
    refine g_iload_n hX dX8_fail_4 rfl rfl ?_
    refine g_aload_n hX dX8_fail_5 rfl rfl ?_
    refine g_getr hX kd_true_0 fg_8_7 tf_8_7 w_358 sr_true_0_7 dX8_fail_6 ?_
    refine g_alen hX wk_8_7.1 wk_8_7.2 len_7 dX8_fail_9 ?_
    refine g_icmp_ge (tgt := 23) hX dX8_fail_10 (by decide) (fun q2 => ?_) (fun q2 => ?_)
    · rw [if_pos q2] at h
      refine g_ldcw hX dX8_fail_23 wc_390 ?_
      refine g_iload_n hX dX8_fail_26 rfl rfl ?_
      refine g_isub hX dX8_fail_27 ?_
      obtain ⟨rfl, rfl⟩ := pair_inj h
      exact g_iret hX rfl rfl dX8_fail_28
    · rw [if_neg q2] at h
      refine g_aload_n hX dX8_fail_13 rfl rfl ?_
      refine g_getr hX kd_true_0 fg_8_7 tf_8_7 w_358 sr_true_0_7 dX8_fail_14 ?_
      refine g_iload_n hX dX8_fail_17 rfl rfl ?_
      refine g_dup2 hX dX8_fail_18 rfl rfl ?_
      obtain ⟨z3, h⟩ := ck_some h
      refine g_iald hX wk_8_7.1 wk_8_7.2 z3 dX8_fail_19 ?_
      refine g_iconst hX dX8_fail_20 k_1 ?_
      refine g_iadd hX dX8_fail_21 ?_
      obtain ⟨z5, h⟩ := ck_some h
      obtain ⟨μ4, hμ4, h⟩ := wr_some h
      refine g_iastM hX wk_8_7.1 wk_8_7.2 z5 dX8_fail_22 hμ4 ?_
      refine g_ldcw hX dX8_fail_23 wc_390 ?_
      refine g_iload_n hX dX8_fail_26 rfl rfl ?_
      refine g_isub hX dX8_fail_27 ?_
      obtain ⟨rfl, rfl⟩ := pair_inj h
      exact g_iret hX rfl rfl dX8_fail_28
set_option maxRecDepth 100000 in
set_option maxHeartbeats 4000000 in
theorem t_X8_isUnder_4 {l : Launch} {D : DT} {X : XT} {μ : Mem} {r : Int32} (hX : Cx l D true X 1 RX8 cX8_isUnder 4 (some FieldType.boolean)) : ∀ (n : Nat) (v1 : Int32) (v2 : Int32) (v3 : Int32), f_X8_isUnder_4 n v1 v2 v3 = some r → G l D true X 4 (some (.int r)) μ 4 [none, some (.int v1), some (.int v2), some (.int v3)] [] μ := by
  intro n
  induction n with
  | zero => intro v1 v2 v3 h; exact absurd h (by simp [f_X8_isUnder_4])
  | succ n ih =>
    intro v1 v2 v3 h
    rw [f_X8_isUnder_4] at h
    refine g_iload_n hX dX8_isUnder_4 rfl rfl ?_
    refine g_bipush hX dX8_isUnder_5 kb_7 ?_
    refine g_icmp_ge (tgt := 39) hX dX8_isUnder_7 (by decide) (fun q1 => ?_) (fun q1 => ?_)
    · rw [if_pos q1] at h
      refine g_iconst hX dX8_isUnder_39 k_0 ?_
      obtain rfl := Option.some.inj h
      exact g_iret hX rfl rfl dX8_isUnder_40
    · rw [if_neg q1] at h
      refine g_iload_n hX dX8_isUnder_10 rfl rfl ?_
      refine g_if_lt (tgt := 39) hX dX8_isUnder_11 (by decide) (fun q2 => ?_) (fun q2 => ?_)
      · rw [if_pos q2] at h
        refine g_iconst hX dX8_isUnder_39 k_0 ?_
        obtain rfl := Option.some.inj h
        exact g_iret hX rfl rfl dX8_isUnder_40
      · rw [if_neg q2] at h
        refine g_iload_n hX dX8_isUnder_14 rfl rfl ?_
        refine g_bipush hX dX8_isUnder_15 kb_7 ?_
        refine g_icmp_ge (tgt := 39) hX dX8_isUnder_17 (by decide) (fun q3 => ?_) (fun q3 => ?_)
        · rw [if_pos q3] at h
          refine g_iconst hX dX8_isUnder_39 k_0 ?_
          obtain rfl := Option.some.inj h
          exact g_iret hX rfl rfl dX8_isUnder_40
        · rw [if_neg q3] at h
          refine g_iload_n hX dX8_isUnder_20 rfl rfl ?_
          refine g_iload_n hX dX8_isUnder_21 rfl rfl ?_
          refine g_icmp_ne (tgt := 27) hX dX8_isUnder_22 (by decide) (fun q4 => ?_) (fun q4 => ?_)
          · rw [if_neg q4] at h
            refine g_KA hX w_464 dX8_isUnder_27 ?_
            refine g_iload_n hX dX8_isUnder_30 rfl rfl ?_
            obtain ⟨z5, h⟩ := ck_some h
            refine g_KAld hX z5 dX8_isUnder_31 ?_
            refine g_istore_n (lc' := [none, some _, some _, some _]) hX dX8_isUnder_32 rfl (by decide) rfl rfl ?_
            refine g_iinc (lc' := [none, some _, some _, some _]) hX dX8_isUnder_33 (by decide) rfl (congrArg _ k_1) rfl rfl ?_
            refine g_goto (tgt := 4) hX dX8_isUnder_36 (by decide) ?_
            exact g_weak (lc' := [none, some _, some _, some _]) ⟨rfl, rfl, rfl, trivial⟩ (ih _ _ _ h)
          · rw [if_pos q4] at h
            refine g_iconst hX dX8_isUnder_25 k_1 ?_
            obtain rfl := Option.some.inj h
            exact g_iret hX rfl rfl dX8_isUnder_26
set_option maxRecDepth 100000 in
set_option maxHeartbeats 4000000 in
theorem c_X8_isUnder {l : Launch} {D : DT} {μ : Mem} {r : Int32} (v0 : Int32) (v1 : Int32) (h : f_X8_isUnder v0 v1 = some r) : Ct l D true 1 yX8_isUnder cX8_isUnder 4 (some FieldType.boolean) [.int v0, .int v1] μ (some (.int r)) μ := by
  refine Ct.of (own := RX8) (lc0 := [some (.int v0), some (.int v1), none, none]) pn_X8 rfl (Nat.le_of_ble_eq_true rfl) rfl mv_X8_isUnder.2.2.1 (fun X hX => ?_)
  unfold f_X8_isUnder at h
  refine g_iload_n hX dX8_isUnder_0 rfl rfl ?_
  refine g_istore_n (lc' := [some _, some _, some _, none]) hX dX8_isUnder_1 rfl (by decide) rfl rfl ?_
  refine g_iconst hX dX8_isUnder_2 k_0 ?_
  refine g_istore_n (lc' := [some _, some _, some _, some _]) hX dX8_isUnder_3 rfl (by decide) rfl rfl ?_
  exact g_weak (lc' := [none, some _, some _, some _]) ⟨rfl, rfl, rfl, trivial⟩ (t_X8_isUnder_4 hX 2000 _ _ _ h)
set_option maxRecDepth 100000 in
set_option maxHeartbeats 4000000 in
theorem t_X8_as_26 {l : Launch} {D : DT} {X : XT} {r : Int32} {μ' : Mem} (hX : Cx l D true X 2 RX8 cX8_as 4 (some FieldType.int)) : ∀ (μ : Mem), f_X8_as_26 μ = some (r, μ') → G l D true X 4 (some (.int r)) μ' 26 [some (.ref (D.1 0)), none, none, none] [] μ := by
  intro μ h
  unfold f_X8_as_26 at h
  refine g_aload_n hX dX8_as_26 rfl rfl ?_
  refine g_iconst hX dX8_as_27 k_1 ?_
  obtain ⟨r1, μ2, hr1, h⟩ := bd2_some h
  refine g_callVi hX (c_X8_fail  _ hr1) mv_X8_fail wm_386 kd_true_0 rfl (by decide) (by decide) rfl rfl (Nat.le_of_ble_eq_true rfl) dX8_as_28 ?_
  obtain ⟨rfl, rfl⟩ := pair_inj h
  exact g_iret hX rfl rfl dX8_as_31
set_option maxRecDepth 100000 in
set_option maxHeartbeats 4000000 in
theorem c_X8_as {l : Launch} {D : DT} {μ : Mem} {r : Int32} {μ' : Mem} (v1 : Int32) (v2 : Int32) (h : f_X8_as v1 v2 μ = some (r, μ')) : Ct l D true 2 yX8_as cX8_as 4 (some FieldType.int) [.ref (D.1 0), .int v1, .int v2] μ (some (.int r)) μ' := by
  refine Ct.of (own := RX8) (lc0 := [some (.ref (D.1 0)), some (.int v1), some (.int v2), none]) pn_X8 rfl (Nat.le_of_ble_eq_true rfl) rfl mv_X8_as.2.2.2.1 (fun X hX => ?_)
  unfold f_X8_as at h
  refine g_aload_n hX dX8_as_0 rfl rfl ?_
  refine g_getr hX kd_true_0 fg_8_0 tf_8_0 w_351 sr_true_0_0 dX8_as_1 ?_
  refine g_getr hX wk_8_0 fg_0_2 tf_0_2 w_236 (wo_0_2 wk_8_0) dX8_as_4 ?_
  refine g_astore_n (lc' := [some _, some _, some _, some _]) hX dX8_as_7 rfl (by decide) rfl rfl ?_
  refine g_aload_n hX dX8_as_8 rfl rfl ?_
  refine g_iload_n hX dX8_as_9 rfl rfl ?_
  refine g_callVi hX (c_X2_isOne (wk_0_2 wk_8_0) v1) mv_X2_isOne wm_399 (wk_0_2 wk_8_0) rfl (by decide) (by decide) rfl rfl (Nat.le_of_ble_eq_true rfl) dX8_as_10 ?_
  refine g_if_eq (tgt := 26) hX dX8_as_13 (by decide) (fun q1 => ?_) (fun q1 => ?_)
  · rw [if_pos q1] at h
    exact g_weak (lc' := [some _, none, none, none]) ⟨rfl, trivial⟩ (t_X8_as_26 hX _ h)
  · rw [if_neg q1] at h
    refine g_iload_n hX dX8_as_16 rfl rfl ?_
    refine g_if_lt (tgt := 26) hX dX8_as_17 (by decide) (fun q2 => ?_) (fun q2 => ?_)
    · rw [if_pos q2] at h
      exact g_weak (lc' := [some _, none, none, none]) ⟨rfl, trivial⟩ (t_X8_as_26 hX _ h)
    · rw [if_neg q2] at h
      refine g_iload_n hX dX8_as_20 rfl rfl ?_
      refine g_bipush hX dX8_as_21 kb_7 ?_
      refine g_icmp_lt (tgt := 32) hX dX8_as_23 (by decide) (fun q3 => ?_) (fun q3 => ?_)
      · rw [if_pos q3] at h
        refine g_aload_n hX dX8_as_32 rfl rfl ?_
        refine g_getr hX (wk_0_2 wk_8_0) fg_2_2 tf_2_2 w_152 (wo_2_2 (wk_0_2 wk_8_0)) dX8_as_33 ?_
        refine g_iload_n hX dX8_as_36 rfl rfl ?_
        obtain ⟨z4, h⟩ := ck_some h
        refine g_iald hX (wk_2_2 (wk_0_2 wk_8_0)).1 (wk_2_2 (wk_0_2 wk_8_0)).2 z4 dX8_as_37 ?_
        refine g_iload_n hX dX8_as_38 rfl rfl ?_
        obtain ⟨r5, hr5, h⟩ := bd_some h
        refine g_callSi hX (c_X8_isUnder  _ _ hr5) mv_X8_isUnder wm_461 (by decide) rfl rfl (Nat.le_of_ble_eq_true rfl) dX8_as_39 ?_
        refine g_if_ne (tgt := 51) hX dX8_as_42 (by decide) (fun q6 => ?_) (fun q6 => ?_)
        · rw [if_neg q6] at h
          refine g_aload_n hX dX8_as_51 rfl rfl ?_
          refine g_getr hX (wk_0_2 wk_8_0) fg_2_3 tf_2_3 w_154 (wo_2_3 (wk_0_2 wk_8_0)) dX8_as_52 ?_
          refine g_iload_n hX dX8_as_55 rfl rfl ?_
          obtain ⟨z7, h⟩ := ck_some h
          refine g_iald hX (wk_2_3 (wk_0_2 wk_8_0)).1 (wk_2_3 (wk_0_2 wk_8_0)).2 z7 dX8_as_56 ?_
          obtain ⟨rfl, rfl⟩ := pair_inj h
          exact g_iret hX rfl rfl dX8_as_57
        · rw [if_pos q6] at h
          refine g_aload_n hX dX8_as_45 rfl rfl ?_
          refine g_iconst hX dX8_as_46 k_5 ?_
          obtain ⟨r8, μ9, hr8, h⟩ := bd2_some h
          refine g_callVi hX (c_X8_fail  _ hr8) mv_X8_fail wm_386 kd_true_0 rfl (by decide) (by decide) rfl rfl (Nat.le_of_ble_eq_true rfl) dX8_as_47 ?_
          obtain ⟨rfl, rfl⟩ := pair_inj h
          exact g_iret hX rfl rfl dX8_as_50
      · rw [if_neg q3] at h
        exact g_weak (lc' := [some _, none, none, none]) ⟨rfl, trivial⟩ (t_X8_as_26 hX _ h)
set_option maxRecDepth 100000 in
set_option maxHeartbeats 4000000 in
theorem c_X8_isKindAndNumber {l : Launch} {D : DT} {μ : Mem} (v0 : Int32) : Ct l D true 1 yX8_isKindAndNumber cX8_isKindAndNumber 1 (some FieldType.boolean) [.int v0] μ (some (.int (f_X8_isKindAndNumber v0))) μ := by
  obtain ⟨r, h⟩ : ∃ r, f_X8_isKindAndNumber v0 = r := ⟨_, rfl⟩
  rw [h]
  refine Ct.of (own := RX8) (lc0 := [some (.int v0)]) pn_X8 rfl (Nat.le_of_ble_eq_true rfl) rfl mv_X8_isKindAndNumber.2.2.1 (fun X hX => ?_)
  unfold f_X8_isKindAndNumber at h
  refine g_iload_n hX dX8_isKindAndNumber_0 rfl rfl ?_
  refine g_if_lt (tgt := 14) hX dX8_isKindAndNumber_1 (by decide) (fun q1 => ?_) (fun q1 => ?_)
  · rw [if_pos q1] at h
    refine g_iconst hX dX8_isKindAndNumber_14 k_0 ?_
    subst h
    exact g_iret hX rfl rfl dX8_isKindAndNumber_15
  · rw [if_neg q1] at h
    refine g_iload_n hX dX8_isKindAndNumber_4 rfl rfl ?_
    refine g_bipush hX dX8_isKindAndNumber_5 kb_70 ?_
    refine g_icmp_ge (tgt := 14) hX dX8_isKindAndNumber_7 (by decide) (fun q2 => ?_) (fun q2 => ?_)
    · rw [if_pos q2] at h
      refine g_iconst hX dX8_isKindAndNumber_14 k_0 ?_
      subst h
      exact g_iret hX rfl rfl dX8_isKindAndNumber_15
    · rw [if_neg q2] at h
      refine g_iconst hX dX8_isKindAndNumber_10 k_1 ?_
      refine g_goto (tgt := 15) hX dX8_isKindAndNumber_11 (by decide) ?_
      subst h
      exact g_iret hX rfl rfl dX8_isKindAndNumber_15
set_option maxRecDepth 100000 in
set_option maxHeartbeats 4000000 in
theorem t_X8_become_23 {l : Launch} {D : DT} {X : XT} {r : Int32} {μ' : Mem} (hX : Cx l D true X 2 RX8 cX8_become 5 (some FieldType.int)) : ∀ (μ : Mem), f_X8_become_23 μ = some (r, μ') → G l D true X 5 (some (.int r)) μ' 23 [some (.ref (D.1 0)), none, none, none, none] [] μ := by
  intro μ h
  unfold f_X8_become_23 at h
  refine g_aload_n hX dX8_become_23 rfl rfl ?_
  refine g_iconst hX dX8_become_24 k_1 ?_
  obtain ⟨r1, μ2, hr1, h⟩ := bd2_some h
  refine g_callVi hX (c_X8_fail  _ hr1) mv_X8_fail wm_386 kd_true_0 rfl (by decide) (by decide) rfl rfl (Nat.le_of_ble_eq_true rfl) dX8_become_25 ?_
  obtain ⟨rfl, rfl⟩ := pair_inj h
  exact g_iret hX rfl rfl dX8_become_28
set_option maxRecDepth 100000 in
set_option maxHeartbeats 4000000 in
theorem c_X8_become {l : Launch} {D : DT} {μ : Mem} {r : Int32} {μ' : Mem} (v1 : Int32) (v2 : Int32) (h : f_X8_become v1 v2 μ = some (r, μ')) : Ct l D true 2 yX8_become cX8_become 5 (some FieldType.int) [.ref (D.1 0), .int v1, .int v2] μ (some (.int r)) μ' := by
  refine Ct.of (own := RX8) (lc0 := [some (.ref (D.1 0)), some (.int v1), some (.int v2), none, none]) pn_X8 rfl (Nat.le_of_ble_eq_true rfl) rfl mv_X8_become.2.2.2.1 (fun X hX => ?_)
  unfold f_X8_become at h
  refine g_aload_n hX dX8_become_0 rfl rfl ?_
  refine g_getr hX kd_true_0 fg_8_0 tf_8_0 w_351 sr_true_0_0 dX8_become_1 ?_
  refine g_getr hX wk_8_0 fg_0_2 tf_0_2 w_236 (wo_0_2 wk_8_0) dX8_become_4 ?_
  refine g_astore_n (lc' := [some _, some _, some _, some _, none]) hX dX8_become_7 rfl (by decide) rfl rfl ?_
  refine g_aload_n hX dX8_become_8 rfl rfl ?_
  refine g_iload_n hX dX8_become_9 rfl rfl ?_
  refine g_callVi hX (c_X2_isOne (wk_0_2 wk_8_0) v1) mv_X2_isOne wm_399 (wk_0_2 wk_8_0) rfl (by decide) (by decide) rfl rfl (Nat.le_of_ble_eq_true rfl) dX8_become_10 ?_
  refine g_if_eq (tgt := 23) hX dX8_become_13 (by decide) (fun q1 => ?_) (fun q1 => ?_)
  · rw [if_pos q1] at h
    exact g_weak (lc' := [some _, none, none, none, none]) ⟨rfl, trivial⟩ (t_X8_become_23 hX _ h)
  · rw [if_neg q1] at h
    refine g_iload_n hX dX8_become_16 rfl rfl ?_
    refine g_callSi hX (c_X8_isKindAndNumber  v2) mv_X8_isKindAndNumber wm_383 (by decide) rfl rfl (Nat.le_of_ble_eq_true rfl) dX8_become_17 ?_
    refine g_if_ne (tgt := 29) hX dX8_become_20 (by decide) (fun q2 => ?_) (fun q2 => ?_)
    · rw [if_neg q2] at h
      refine g_aload_n hX dX8_become_29 rfl rfl ?_
      refine g_getr hX (wk_0_2 wk_8_0) fg_2_2 tf_2_2 w_152 (wo_2_2 (wk_0_2 wk_8_0)) dX8_become_30 ?_
      refine g_iload_n hX dX8_become_33 rfl rfl ?_
      obtain ⟨z3, h⟩ := ck_some h
      refine g_iald hX (wk_2_2 (wk_0_2 wk_8_0)).1 (wk_2_2 (wk_0_2 wk_8_0)).2 z3 dX8_become_34 ?_
      refine g_istore (lc' := [some _, some _, some _, some _, some _]) hX dX8_become_35 (by decide) rfl rfl ?_
      refine g_aload_n hX dX8_become_37 rfl rfl ?_
      refine g_getr hX (wk_0_2 wk_8_0) fg_2_2 tf_2_2 w_152 (wo_2_2 (wk_0_2 wk_8_0)) dX8_become_38 ?_
      refine g_iload_n hX dX8_become_41 rfl rfl ?_
      refine g_iload_n hX dX8_become_42 rfl rfl ?_
      refine g_bipush hX dX8_become_43 kb_10 ?_
      refine g_idiv hX (by decide) dX8_become_45 ?_
      obtain ⟨z5, h⟩ := ck_some h
      obtain ⟨μ4, hμ4, h⟩ := wr_some h
      refine g_iastM hX (wk_2_2 (wk_0_2 wk_8_0)).1 (wk_2_2 (wk_0_2 wk_8_0)).2 z5 dX8_become_46 hμ4 ?_
      refine g_aload_n hX dX8_become_47 rfl rfl ?_
      refine g_getr hX (wk_0_2 wk_8_0) fg_2_3 tf_2_3 w_154 (wo_2_3 (wk_0_2 wk_8_0)) dX8_become_48 ?_
      refine g_iload_n hX dX8_become_51 rfl rfl ?_
      refine g_iload_n hX dX8_become_52 rfl rfl ?_
      refine g_bipush hX dX8_become_53 kb_10 ?_
      refine g_irem hX (by decide) dX8_become_55 ?_
      obtain ⟨z7, h⟩ := ck_some h
      obtain ⟨μ6, hμ6, h⟩ := wr_some h
      refine g_iastM hX (wk_2_3 (wk_0_2 wk_8_0)).1 (wk_2_3 (wk_0_2 wk_8_0)).2 z7 dX8_become_56 hμ6 ?_
      refine g_iload hX dX8_become_57 rfl ?_
      obtain ⟨rfl, rfl⟩ := pair_inj h
      exact g_iret hX rfl rfl dX8_become_59
    · rw [if_pos q2] at h
      exact g_weak (lc' := [some _, none, none, none, none]) ⟨rfl, trivial⟩ (t_X8_become_23 hX _ h)
set_option maxRecDepth 100000 in
set_option maxHeartbeats 4000000 in
theorem t_X8_body_15 {l : Launch} {D : DT} {X : XT} {r : Int32} {μ' : Mem} (hX : Cx l D true X 2 RX8 cX8_body 2 (some FieldType.int)) : ∀ (μ : Mem), f_X8_body_15 μ = some (r, μ') → G l D true X 2 (some (.int r)) μ' 15 [some (.ref (D.1 0)), none] [] μ := by
  intro μ h
  unfold f_X8_body_15 at h
  refine g_aload_n hX dX8_body_15 rfl rfl ?_
  refine g_iconst hX dX8_body_16 k_2 ?_
  obtain ⟨r1, μ2, hr1, h⟩ := bd2_some h
  refine g_callVi hX (c_X8_fail  _ hr1) mv_X8_fail wm_386 kd_true_0 rfl (by decide) (by decide) rfl rfl (Nat.le_of_ble_eq_true rfl) dX8_body_17 ?_
  obtain ⟨rfl, rfl⟩ := pair_inj h
  exact g_iret hX rfl rfl dX8_body_20
set_option maxRecDepth 100000 in
set_option maxHeartbeats 4000000 in
theorem c_X8_body {l : Launch} {D : DT} {μ : Mem} {r : Int32} {μ' : Mem} (v1 : Int32) (h : f_X8_body v1 μ = some (r, μ')) : Ct l D true 2 yX8_body cX8_body 2 (some FieldType.int) [.ref (D.1 0), .int v1] μ (some (.int r)) μ' := by
  refine Ct.of (own := RX8) (lc0 := [some (.ref (D.1 0)), some (.int v1)]) pn_X8 rfl (Nat.le_of_ble_eq_true rfl) rfl mv_X8_body.2.2.2.1 (fun X hX => ?_)
  unfold f_X8_body at h
  refine g_iload_n hX dX8_body_0 rfl rfl ?_
  refine g_if_lt (tgt := 15) hX dX8_body_1 (by decide) (fun q1 => ?_) (fun q1 => ?_)
  · rw [if_pos q1] at h
    exact g_weak (lc' := [some _, none]) ⟨rfl, trivial⟩ (t_X8_body_15 hX _ h)
  · rw [if_neg q1] at h
    refine g_iload_n hX dX8_body_4 rfl rfl ?_
    refine g_aload_n hX dX8_body_5 rfl rfl ?_
    refine g_getr hX kd_true_0 fg_8_5 tf_8_5 w_356 sr_true_0_5 dX8_body_6 ?_
    refine g_geti hX wk_8_5 fg_6_1 tf_6_1 w_312 dX8_body_9 ?_
    refine g_icmp_lt (tgt := 21) hX dX8_body_12 (by decide) (fun q2 => ?_) (fun q2 => ?_)
    · rw [if_pos q2] at h
      refine g_aload_n hX dX8_body_21 rfl rfl ?_
      refine g_getr hX kd_true_0 fg_8_5 tf_8_5 w_356 sr_true_0_5 dX8_body_22 ?_
      refine g_getr hX wk_8_5 fg_6_0 tf_6_0 w_310 sr_true_55_0 dX8_body_25 ?_
      refine g_iload_n hX dX8_body_28 rfl rfl ?_
      obtain ⟨z3, h⟩ := ck_some h
      refine g_iald hX wk_6_0.1 wk_6_0.2 z3 dX8_body_29 ?_
      obtain ⟨rfl, rfl⟩ := pair_inj h
      exact g_iret hX rfl rfl dX8_body_30
    · rw [if_neg q2] at h
      exact g_weak (lc' := [some _, none]) ⟨rfl, trivial⟩ (t_X8_body_15 hX _ h)
set_option maxRecDepth 100000 in
set_option maxHeartbeats 4000000 in
theorem c_X8_check {l : Launch} {D : DT} {μ : Mem} {r : Int32} {μ' : Mem} (h : f_X8_check μ = some (r, μ')) : Ct l D true 7 yX8_check cX8_check 2 (some FieldType.int) [.ref (D.1 0)] μ (some (.int r)) μ' := by
  refine Ct.of (own := RX8) (lc0 := [some (.ref (D.1 0)), none]) pn_X8 rfl (Nat.le_of_ble_eq_true rfl) rfl mv_X8_check.2.2.2.1 (fun X hX => ?_)
  unfold f_X8_check at h
  refine g_aload_n hX dX8_check_0 rfl rfl ?_
  refine g_getr hX kd_true_0 fg_8_0 tf_8_0 w_351 sr_true_0_0 dX8_check_1 ?_
  obtain ⟨r1, μ2, hr1, h⟩ := bd2_some h
  refine g_callVi hX (c_X0_firstWrongLoad wk_8_0 hr1) mv_X0_firstWrongLoad wm_950 wk_8_0 rfl (by decide) (by decide) rfl rfl (Nat.le_of_ble_eq_true rfl) dX8_check_4 ?_
  refine g_istore_n (lc' := [some _, some _]) hX dX8_check_7 rfl (by decide) rfl rfl ?_
  refine g_aload_n hX dX8_check_8 rfl rfl ?_
  refine g_getr hX kd_true_0 fg_8_0 tf_8_0 w_351 sr_true_0_0 dX8_check_9 ?_
  refine g_iconst hX dX8_check_12 k_0 ?_
  obtain ⟨μ3, hμ3, h⟩ := wr_some h
  refine g_puti hX wk_8_0 fg_0_5 tf_0_5 tyX0_ok nmX0 rfl w_242 dX8_check_13 hμ3 ?_
  refine g_iload_n hX dX8_check_16 rfl rfl ?_
  refine g_iconst hX dX8_check_17 k_1 ?_
  refine g_iadd hX dX8_check_18 ?_
  obtain ⟨rfl, rfl⟩ := pair_inj h
  exact g_iret hX rfl rfl dX8_check_19
set_option maxRecDepth 100000 in
set_option maxHeartbeats 4000000 in
theorem t_X8_commonDivisor_2 {l : Launch} {D : DT} {X : XT} {μ : Mem} {r : Int32} (hX : Cx l D true X 1 RX8 cX8_commonDivisor 3 (some FieldType.int)) : ∀ (n : Nat) (v0 : Int32) (v1 : Int32) (v2 : Int32), f_X8_commonDivisor_2 n v0 v1 v2 = some r → G l D true X 3 (some (.int r)) μ 2 [some (.int v0), some (.int v1), some (.int v2)] [] μ := by
  intro n
  induction n with
  | zero => intro v0 v1 v2 h; exact absurd h (by simp [f_X8_commonDivisor_2])
  | succ n ih =>
    intro v0 v1 v2 h
    rw [f_X8_commonDivisor_2] at h
    refine g_iload_n hX dX8_commonDivisor_2 rfl rfl ?_
    refine g_iconst hX dX8_commonDivisor_3 k_1 ?_
    refine g_icmp_le (tgt := 27) hX dX8_commonDivisor_4 (by decide) (fun q1 => ?_) (fun q1 => ?_)
    · rw [if_pos q1] at h
      refine g_iconst hX dX8_commonDivisor_27 k_1 ?_
      obtain rfl := Option.some.inj h
      exact g_iret hX rfl rfl dX8_commonDivisor_28
    · rw [if_neg q1] at h
      refine g_iload_n hX dX8_commonDivisor_7 rfl rfl ?_
      refine g_iload_n hX dX8_commonDivisor_8 rfl rfl ?_
      obtain ⟨z2, h⟩ := ck_some h
      refine g_irem hX (nz_ne z2) dX8_commonDivisor_9 ?_
      refine g_if_ne (tgt := 21) hX dX8_commonDivisor_10 (by decide) (fun q3 => ?_) (fun q3 => ?_)
      · rw [if_neg q3] at h
        refine g_iinc (lc' := [some _, some _, some _]) hX dX8_commonDivisor_21 (by decide) rfl (congrArg _ k_m1) rfl rfl ?_
        refine g_goto (tgt := 2) hX dX8_commonDivisor_24 (by decide) ?_
        exact g_weak (lc' := [some _, some _, some _]) ⟨rfl, rfl, rfl, trivial⟩ (ih _ _ _ h)
      · rw [if_pos q3] at h
        refine g_iload_n hX dX8_commonDivisor_13 rfl rfl ?_
        refine g_iload_n hX dX8_commonDivisor_14 rfl rfl ?_
        obtain ⟨z4, h⟩ := ck_some h
        refine g_irem hX (nz_ne z4) dX8_commonDivisor_15 ?_
        refine g_if_ne (tgt := 21) hX dX8_commonDivisor_16 (by decide) (fun q5 => ?_) (fun q5 => ?_)
        · rw [if_neg q5] at h
          refine g_iinc (lc' := [some _, some _, some _]) hX dX8_commonDivisor_21 (by decide) rfl (congrArg _ k_m1) rfl rfl ?_
          refine g_goto (tgt := 2) hX dX8_commonDivisor_24 (by decide) ?_
          exact g_weak (lc' := [some _, some _, some _]) ⟨rfl, rfl, rfl, trivial⟩ (ih _ _ _ h)
        · rw [if_pos q5] at h
          refine g_iload_n hX dX8_commonDivisor_19 rfl rfl ?_
          obtain rfl := Option.some.inj h
          exact g_iret hX rfl rfl dX8_commonDivisor_20
set_option maxRecDepth 100000 in
set_option maxHeartbeats 4000000 in
theorem c_X8_commonDivisor {l : Launch} {D : DT} {μ : Mem} {r : Int32} (v0 : Int32) (v1 : Int32) (h : f_X8_commonDivisor v0 v1 = some r) : Ct l D true 1 yX8_commonDivisor cX8_commonDivisor 3 (some FieldType.int) [.int v0, .int v1] μ (some (.int r)) μ := by
  refine Ct.of (own := RX8) (lc0 := [some (.int v0), some (.int v1), none]) pn_X8 rfl (Nat.le_of_ble_eq_true rfl) rfl mv_X8_commonDivisor.2.2.1 (fun X hX => ?_)
  unfold f_X8_commonDivisor at h
  refine g_iload_n hX dX8_commonDivisor_0 rfl rfl ?_
  refine g_istore_n (lc' := [some _, some _, some _]) hX dX8_commonDivisor_1 rfl (by decide) rfl rfl ?_
  exact g_weak (lc' := [some _, some _, some _]) ⟨rfl, rfl, rfl, trivial⟩ (t_X8_commonDivisor_2 hX 2000 _ _ _ h)
set_option maxRecDepth 100000 in
set_option maxHeartbeats 4000000 in
theorem c_X8_count {l : Launch} {D : DT} {μ : Mem} {r : Int32} {μ' : Mem} (v1 : Int32) (h : f_X8_count v1 μ = some (r, μ')) : Ct l D true 2 yX8_count cX8_count 3 (some FieldType.int) [.ref (D.1 0), .int v1] μ (some (.int r)) μ' := by
  refine Ct.of (own := RX8) (lc0 := [some (.ref (D.1 0)), some (.int v1), none]) pn_X8 rfl (Nat.le_of_ble_eq_true rfl) rfl mv_X8_count.2.2.2.1 (fun X hX => ?_)
  unfold f_X8_count at h
  refine g_aload_n hX dX8_count_0 rfl rfl ?_
  refine g_getr hX kd_true_0 fg_8_0 tf_8_0 w_351 sr_true_0_0 dX8_count_1 ?_
  refine g_getr hX wk_8_0 fg_0_2 tf_0_2 w_236 (wo_0_2 wk_8_0) dX8_count_4 ?_
  refine g_astore_n (lc' := [some _, some _, some _]) hX dX8_count_7 rfl (by decide) rfl rfl ?_
  refine g_iload_n hX dX8_count_8 rfl rfl ?_
  by_cases q1 : v1 = 0
  · rw [if_pos q1] at h
    refine g_tsIn (tgt := 64) (off := 55) hX dX8_count_9 (by rw [q1] <;> decide) (by rw [q1] <;> decide) (by rw [q1] <;> rfl) (by decide) ?_
    refine g_aload_n hX dX8_count_64 rfl rfl ?_
    refine g_geti hX (wk_0_2 wk_8_0) fg_2_10 tf_2_10 w_170 dX8_count_65 ?_
    obtain ⟨rfl, rfl⟩ := pair_inj h
    exact g_iret hX rfl rfl dX8_count_68
  rw [if_neg q1] at h
  have eq1_0 := ts_ne (c := 0) (k := 0) q1 (by decide)
  by_cases q2 : v1 = 1
  · rw [if_pos q2] at h
    refine g_tsIn (tgt := 69) (off := 60) hX dX8_count_9 (by rw [q2] <;> decide) (by rw [q2] <;> decide) (by rw [q2] <;> rfl) (by decide) ?_
    refine g_aload_n hX dX8_count_69 rfl rfl ?_
    refine g_geti hX (wk_0_2 wk_8_0) fg_2_11 tf_2_11 w_177 dX8_count_70 ?_
    obtain ⟨rfl, rfl⟩ := pair_inj h
    exact g_iret hX rfl rfl dX8_count_73
  rw [if_neg q2] at h
  have eq2_1 := ts_ne (c := 1) (k := 1) q2 (by decide)
  by_cases q3 : v1 = 2
  · rw [if_pos q3] at h
    refine g_tsIn (tgt := 74) (off := 65) hX dX8_count_9 (by rw [q3] <;> decide) (by rw [q3] <;> decide) (by rw [q3] <;> rfl) (by decide) ?_
    refine g_aload_n hX dX8_count_74 rfl rfl ?_
    refine g_geti hX (wk_0_2 wk_8_0) fg_2_12 tf_2_12 w_179 dX8_count_75 ?_
    obtain ⟨rfl, rfl⟩ := pair_inj h
    exact g_iret hX rfl rfl dX8_count_78
  rw [if_neg q3] at h
  have eq3_2 := ts_ne (c := 2) (k := 2) q3 (by decide)
  by_cases q4 : v1 = 3
  · rw [if_pos q4] at h
    refine g_tsIn (tgt := 79) (off := 70) hX dX8_count_9 (by rw [q4] <;> decide) (by rw [q4] <;> decide) (by rw [q4] <;> rfl) (by decide) ?_
    refine g_aload_n hX dX8_count_79 rfl rfl ?_
    refine g_geti hX (wk_0_2 wk_8_0) fg_2_13 tf_2_13 w_181 dX8_count_80 ?_
    obtain ⟨rfl, rfl⟩ := pair_inj h
    exact g_iret hX rfl rfl dX8_count_83
  rw [if_neg q4] at h
  have eq4_3 := ts_ne (c := 3) (k := 3) q4 (by decide)
  by_cases q5 : v1 = 4
  · rw [if_pos q5] at h
    refine g_tsIn (tgt := 84) (off := 75) hX dX8_count_9 (by rw [q5] <;> decide) (by rw [q5] <;> decide) (by rw [q5] <;> rfl) (by decide) ?_
    refine g_aload_n hX dX8_count_84 rfl rfl ?_
    refine g_geti hX (wk_0_2 wk_8_0) fg_2_14 tf_2_14 w_183 dX8_count_85 ?_
    obtain ⟨rfl, rfl⟩ := pair_inj h
    exact g_iret hX rfl rfl dX8_count_88
  rw [if_neg q5] at h
  have eq5_4 := ts_ne (c := 4) (k := 4) q5 (by decide)
  by_cases q6 : v1 = 5
  · rw [if_pos q6] at h
    refine g_tsIn (tgt := 89) (off := 80) hX dX8_count_9 (by rw [q6] <;> decide) (by rw [q6] <;> decide) (by rw [q6] <;> rfl) (by decide) ?_
    refine g_aload_n hX dX8_count_89 rfl rfl ?_
    obtain ⟨r7, hr7, h⟩ := bd_some h
    refine g_callVi hX (c_X2_openGates (wk_0_2 wk_8_0) hr7) mv_X2_openGates wm_719 (wk_0_2 wk_8_0) rfl (by decide) (by decide) rfl rfl (Nat.le_of_ble_eq_true rfl) dX8_count_90 ?_
    obtain ⟨rfl, rfl⟩ := pair_inj h
    exact g_iret hX rfl rfl dX8_count_93
  rw [if_neg q6] at h
  have eq6_5 := ts_ne (c := 5) (k := 5) q6 (by decide)
  by_cases q8 : v1 = 6
  · rw [if_pos q8] at h
    refine g_tsIn (tgt := 94) (off := 85) hX dX8_count_9 (by rw [q8] <;> decide) (by rw [q8] <;> decide) (by rw [q8] <;> rfl) (by decide) ?_
    refine g_aload_n hX dX8_count_94 rfl rfl ?_
    refine g_getr hX kd_true_0 fg_8_0 tf_8_0 w_351 sr_true_0_0 dX8_count_95 ?_
    refine g_getr hX wk_8_0 fg_0_3 tf_0_3 w_238 (wo_0_3 wk_8_0) dX8_count_98 ?_
    refine g_geti hX (wk_0_3 wk_8_0) fg_7_1 tf_7_1 w_225 dX8_count_101 ?_
    obtain ⟨rfl, rfl⟩ := pair_inj h
    exact g_iret hX rfl rfl dX8_count_104
  rw [if_neg q8] at h
  have eq8_6 := ts_ne (c := 6) (k := 6) q8 (by decide)
  by_cases q9 : v1 = 7
  · rw [if_pos q9] at h
    refine g_tsIn (tgt := 105) (off := 96) hX dX8_count_9 (by rw [q9] <;> decide) (by rw [q9] <;> decide) (by rw [q9] <;> rfl) (by decide) ?_
    refine g_aload_n hX dX8_count_105 rfl rfl ?_
    refine g_getr hX kd_true_0 fg_8_0 tf_8_0 w_351 sr_true_0_0 dX8_count_106 ?_
    refine g_geti hX wk_8_0 fg_0_5 tf_0_5 w_242 dX8_count_109 ?_
    obtain ⟨rfl, rfl⟩ := pair_inj h
    exact g_iret hX rfl rfl dX8_count_112
  rw [if_neg q9] at h
  have eq9_7 := ts_ne (c := 7) (k := 7) q9 (by decide)
  by_cases q10 : v1 = 8
  · rw [if_pos q10] at h
    refine g_tsIn (tgt := 113) (off := 104) hX dX8_count_9 (by rw [q10] <;> decide) (by rw [q10] <;> decide) (by rw [q10] <;> rfl) (by decide) ?_
    refine g_aload_n hX dX8_count_113 rfl rfl ?_
    refine g_getr hX kd_true_0 fg_8_5 tf_8_5 w_356 sr_true_0_5 dX8_count_114 ?_
    refine g_geti hX wk_8_5 fg_6_1 tf_6_1 w_312 dX8_count_117 ?_
    obtain ⟨rfl, rfl⟩ := pair_inj h
    exact g_iret hX rfl rfl dX8_count_120
  rw [if_neg q10] at h
  have eq10_8 := ts_ne (c := 8) (k := 8) q10 (by decide)
  by_cases q11 : v1 = 9
  · rw [if_pos q11] at h
    refine g_tsIn (tgt := 121) (off := 112) hX dX8_count_9 (by rw [q11] <;> decide) (by rw [q11] <;> decide) (by rw [q11] <;> rfl) (by decide) ?_
    refine g_aload_n hX dX8_count_121 rfl rfl ?_
    refine g_getr hX kd_true_0 fg_8_0 tf_8_0 w_351 sr_true_0_0 dX8_count_122 ?_
    refine g_geti hX wk_8_0 fg_0_6 tf_0_6 w_244 dX8_count_125 ?_
    obtain ⟨rfl, rfl⟩ := pair_inj h
    exact g_iret hX rfl rfl dX8_count_128
  rw [if_neg q11] at h
  have eq11_9 := ts_ne (c := 9) (k := 9) q11 (by decide)
  refine g_tsOut (tgt := 129) hX dX8_count_9 (by omega) (by decide) ?_
  refine g_aload_n hX dX8_count_129 rfl rfl ?_
  refine g_iconst hX dX8_count_130 k_1 ?_
  obtain ⟨r12, μ13, hr12, h⟩ := bd2_some h
  refine g_callVi hX (c_X8_fail  _ hr12) mv_X8_fail wm_386 kd_true_0 rfl (by decide) (by decide) rfl rfl (Nat.le_of_ble_eq_true rfl) dX8_count_131 ?_
  obtain ⟨rfl, rfl⟩ := pair_inj h
  exact g_iret hX rfl rfl dX8_count_134
