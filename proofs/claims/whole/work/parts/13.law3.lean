set_option maxRecDepth 100000 in
set_option maxHeartbeats 4000000 in
theorem law_loop {l : Launch} {D E : DT} {cells slots : Nat} {sb sL : Nat} {sx : Nat → Int32} {S : Mem → Mem → Prop} {p : Program} {e : Env} {s : State} {m : MethodId} {below : List Frame} {meth : Method} {c : Code} (hA : SimAll S) (hX : CxL l D E (p, e, room_1, s, m, #[Value.ref sb], below, meth, c) sb sL sx cL_law) (hcell : cells ≤ 600000 ∧ slots ≤ 7302249) (hL : sL ≤ 3072) :
    ∀ (n i : Nat) (x3 : Int32), i ≤ sL + 6 → sL + 7 - i < n → x3 = nI i → ∀ μ ν, S μ ν → GL l D E (p, e, room_1, s, m, #[Value.ref sb], below, meth, c) (lw_Z below #[Value.ref sb] s) cells slots 18 [some (.ref sb), some (.ref (D.1 0)), some (.ref (E.1 0)), some (.int x3)] [] μ ν := by
  intro n
  induction n with
  | zero => intro i x3 h1 h2; omega
  | succ n ih =>
    intro i x3 h1 h2 hx μ ν hs
    obtain ⟨a0, a1, a2, a3, a4, a5, a6, a7, a8, a9, a10, a11, a12, a13, a14, a15, a16, a17, a18, a19, a20, a21, a22, a23, a24, a25, a26, a27, a28, a29, a30, a31, a32, a33, a34, a35, a36, a37, a38, a39⟩ := hA
    refine gl_iload_n hX dL_law_18 rfl rfl ?_
    refine gl_aload_n hX dL_law_19 rfl rfl ?_
    refine gl_slen hX dL_law_20 ?_
    refine gl_bipush hX dL_law_21 kb_6 ?_
    refine gl_isub hX dL_law_23 ?_
    refine gl_icmp_gt (tgt := 1404) hX dL_law_24 (by decide) (fun q => ?_) (fun q => ?_)
    · refine gl_iconst hX dL_law_1404 k_1 ?_
      exact gl_ret hX hcell dL_law_1405
    · have hi : i + 6 ≤ sL := by
        have e6 : Int32.ofNat sL - 6 = nI sL - nI 6 := rfl
        rw [hx, e6] at q
        have q2 := fun z => q (Int32.lt_iff_toInt_lt.mpr z)
        rw [pk_sub_toInt (by omega) (by omega), nI_toInt (show i < 2 ^ 31 by omega)] at q2
        have q3 : ¬ ((sL : Int) - (6 : Nat) < (i : Int)) := q2
        omega
      refine gl_aload_n hX dL_law_27 rfl rfl ?_
      refine gl_iload_n hX dL_law_28 rfl rfl ?_
      refine gl_sld hX (ix_in0 hx hi hL) dL_law_29 ?_
      refine gl_bipush hX dL_law_30 kb_63 ?_
      refine gl_iand hX dL_law_32 ?_
      have hk : ∀ μ1 ν1, S μ1 ν1 → GL l D E (p, e, room_1, s, m, #[Value.ref sb], below, meth, c) (lw_Z below #[Value.ref sb] s) cells slots 1398 [some (.ref sb), some (.ref (D.1 0)), some (.ref (E.1 0)), some (.int x3)] [] μ1 ν1 := by
        intro μ1 ν1 hs1
        refine gl_iinc (y := x3 + 6) (lc' := [some _, some _, some _, some _]) hX dL_law_1398 (by decide) rfl (by rw [show Int32.ofInt 6 = 6 by decide]) rfl rfl ?_
        refine gl_goto (tgt := 18) hX dL_law_1401 (by decide) ?_
        exact ih (i + 6) (x3 + 6) (by omega) (by omega) (by rw [hx]; exact nI_add i 6) μ1 ν1 hs1
      generalize sx (ix x3) &&& 63 = w
      by_cases q0 : w = 0
      · refine gl_tsIn (tgt := 208) (off := 175) hX dL_law_33 (by rw [q0] <;> decide) (by rw [q0] <;> decide) (by rw [q0] <;> rfl) (by decide) ?_
        exact tl_person a0 hX hcell hx hi hL hk μ ν hs
      have e0 := ts_ne (c := 0) (k := 0) q0 (by decide)
      by_cases q1 : w = 1
      · refine gl_tsIn (tgt := 231) (off := 198) hX dL_law_33 (by rw [q1] <;> decide) (by rw [q1] <;> decide) (by rw [q1] <;> rfl) (by decide) ?_
        exact tl_personIs a1 hX hcell hx hi hL hk μ ν hs
      have e1 := ts_ne (c := 1) (k := 1) q1 (by decide)
      by_cases q2 : w = 2
      · refine gl_tsIn (tgt := 264) (off := 231) hX dL_law_33 (by rw [q2] <;> decide) (by rw [q2] <;> decide) (by rw [q2] <;> rfl) (by decide) ?_
        exact tl_become a2 hX hcell hx hi hL hk μ ν hs
      have e2 := ts_ne (c := 2) (k := 2) q2 (by decide)
      by_cases q3 : w = 3
      · refine gl_tsIn (tgt := 297) (off := 264) hX dL_law_33 (by rw [q3] <;> decide) (by rw [q3] <;> decide) (by rw [q3] <;> rfl) (by decide) ?_
        exact tl_as a3 hX hcell hx hi hL hk μ ν hs
      have e3 := ts_ne (c := 3) (k := 3) q3 (by decide)
      by_cases q4 : w = 4
      · refine gl_tsIn (tgt := 330) (off := 297) hX dL_law_33 (by rw [q4] <;> decide) (by rw [q4] <;> decide) (by rw [q4] <;> rfl) (by decide) ?_
        exact tl_gate a4 hX hcell hx hi hL hk μ ν hs
      have e4 := ts_ne (c := 4) (k := 4) q4 (by decide)
      by_cases q5 : w = 5
      · refine gl_tsIn (tgt := 373) (off := 340) hX dL_law_33 (by rw [q5] <;> decide) (by rw [q5] <;> decide) (by rw [q5] <;> rfl) (by decide) ?_
        exact tl_gateIs a5 hX hcell hx hi hL hk μ ν hs
      have e5 := ts_ne (c := 5) (k := 5) q5 (by decide)
      by_cases q6 : w = 6
      · refine gl_tsIn (tgt := 406) (off := 373) hX dL_law_33 (by rw [q6] <;> decide) (by rw [q6] <;> decide) (by rw [q6] <;> rfl) (by decide) ?_
        exact tl_hold a6 hX hcell hx hi hL hk μ ν hs
      have e6 := ts_ne (c := 6) (k := 6) q6 (by decide)
      by_cases q7 : w = 7
      · refine gl_tsIn (tgt := 439) (off := 406) hX dL_law_33 (by rw [q7] <;> decide) (by rw [q7] <;> decide) (by rw [q7] <;> rfl) (by decide) ?_
        exact tl_pass a7 hX hcell hx hi hL hk μ ν hs
      have e7 := ts_ne (c := 7) (k := 7) q7 (by decide)
      by_cases q8 : w = 8
      · refine gl_tsIn (tgt := 472) (off := 439) hX dL_law_33 (by rw [q8] <;> decide) (by rw [q8] <;> decide) (by rw [q8] <;> rfl) (by decide) ?_
        exact tl_stock a8 hX hcell hx hi hL hk μ ν hs
      have e8 := ts_ne (c := 8) (k := 8) q8 (by decide)
      by_cases q9 : w = 9
      · refine gl_tsIn (tgt := 495) (off := 462) hX dL_law_33 (by rw [q9] <;> decide) (by rw [q9] <;> decide) (by rw [q9] <;> rfl) (by decide) ?_
        exact tl_stockAt a9 hX hcell hx hi hL hk μ ν hs
      have e9 := ts_ne (c := 9) (k := 9) q9 (by decide)
      by_cases q10 : w = 10
      · refine gl_tsIn (tgt := 518) (off := 485) hX dL_law_33 (by rw [q10] <;> decide) (by rw [q10] <;> decide) (by rw [q10] <;> rfl) (by decide) ?_
        exact tl_grass a10 hX hcell hx hi hL hk μ ν hs
      have e10 := ts_ne (c := 10) (k := 10) q10 (by decide)
      by_cases q11 : w = 11
      · refine gl_tsIn (tgt := 551) (off := 518) hX dL_law_33 (by rw [q11] <;> decide) (by rw [q11] <;> decide) (by rw [q11] <;> rfl) (by decide) ?_
        exact tl_feed a11 hX hcell hx hi hL hk μ ν hs
      have e11 := ts_ne (c := 11) (k := 11) q11 (by decide)
      by_cases q12 : w = 12
      · refine gl_tsIn (tgt := 614) (off := 581) hX dL_law_33 (by rw [q12] <;> decide) (by rw [q12] <;> decide) (by rw [q12] <;> rfl) (by decide) ?_
        exact tl_text a12 hX hcell hx hi hL hk μ ν hs
      have e12 := ts_ne (c := 12) (k := 12) q12 (by decide)
      by_cases q13 : w = 13
      · refine gl_tsIn (tgt := 637) (off := 604) hX dL_law_33 (by rw [q13] <;> decide) (by rw [q13] <;> decide) (by rw [q13] <;> rfl) (by decide) ?_
        exact tl_untell a13 hX hcell hx hi hL hk μ ν hs
      have e13 := ts_ne (c := 13) (k := 13) q13 (by decide)
      by_cases q14 : w = 14
      · refine gl_tsIn (tgt := 660) (off := 627) hX dL_law_33 (by rw [q14] <;> decide) (by rw [q14] <;> decide) (by rw [q14] <;> rfl) (by decide) ?_
        exact tl_law a14 hX hcell hx hi hL hk μ ν hs
      have e14 := ts_ne (c := 14) (k := 14) q14 (by decide)
      by_cases q15 : w = 15
      · refine gl_tsIn (tgt := 713) (off := 680) hX dL_law_33 (by rw [q15] <;> decide) (by rw [q15] <;> decide) (by rw [q15] <;> rfl) (by decide) ?_
        exact tl_hours a15 hX hcell hx hi hL hk μ ν hs
      have e15 := ts_ne (c := 15) (k := 15) q15 (by decide)
      by_cases q16 : w = 16
      · refine gl_tsIn (tgt := 736) (off := 703) hX dL_law_33 (by rw [q16] <;> decide) (by rw [q16] <;> decide) (by rw [q16] <;> rfl) (by decide) ?_
        exact tl_loose a16 hX hcell hx hi hL hk μ ν hs
      have e16 := ts_ne (c := 16) (k := 16) q16 (by decide)
      by_cases q17 : w = 17
      · refine gl_tsIn (tgt := 759) (off := 726) hX dL_law_33 (by rw [q17] <;> decide) (by rw [q17] <;> decide) (by rw [q17] <;> rfl) (by decide) ?_
        exact tl_hour a17 hX hcell hx hi hL hk μ ν hs
      have e17 := ts_ne (c := 17) (k := 17) q17 (by decide)
      by_cases q18 : w = 18
      · refine gl_tsIn (tgt := 782) (off := 749) hX dL_law_33 (by rw [q18] <;> decide) (by rw [q18] <;> decide) (by rw [q18] <;> rfl) (by decide) ?_
        exact tl_seed a18 hX hcell hx hi hL hk μ ν hs
      have e18 := ts_ne (c := 18) (k := 18) q18 (by decide)
      by_cases q19 : w = 19
      · refine gl_tsIn (tgt := 805) (off := 772) hX dL_law_33 (by rw [q19] <;> decide) (by rw [q19] <;> decide) (by rw [q19] <;> rfl) (by decide) ?_
        exact tl_then a19 hX hcell hx hi hL hk μ ν hs
      have e19 := ts_ne (c := 19) (k := 19) q19 (by decide)
      by_cases q20 : w = 20
      · refine gl_tsIn (tgt := 838) (off := 805) hX dL_law_33 (by rw [q20] <;> decide) (by rw [q20] <;> decide) (by rw [q20] <;> rfl) (by decide) ?_
        exact tl_first a20 hX hcell hx hi hL hk μ ν hs
      have e20 := ts_ne (c := 20) (k := 20) q20 (by decide)
      by_cases q21 : w = 21
      · refine gl_tsIn (tgt := 861) (off := 828) hX dL_law_33 (by rw [q21] <;> decide) (by rw [q21] <;> decide) (by rw [q21] <;> rfl) (by decide) ?_
        exact tl_fewest a21 hX hcell hx hi hL hk μ ν hs
      have e21 := ts_ne (c := 21) (k := 21) q21 (by decide)
      by_cases q22 : w = 22
      · refine gl_tsIn (tgt := 874) (off := 841) hX dL_law_33 (by rw [q22] <;> decide) (by rw [q22] <;> decide) (by rw [q22] <;> rfl) (by decide) ?_
        exact tl_way a22 hX hcell hx hi hL hk μ ν hs
      have e22 := ts_ne (c := 22) (k := 22) q22 (by decide)
      by_cases q23 : w = 23
      · refine gl_tsIn (tgt := 907) (off := 874) hX dL_law_33 (by rw [q23] <;> decide) (by rw [q23] <;> decide) (by rw [q23] <;> rfl) (by decide) ?_
        exact tl_cut a23 hX hcell hx hi hL hk μ ν hs
      have e23 := ts_ne (c := 23) (k := 23) q23 (by decide)
      by_cases q24 : w = 24
      · refine gl_tsIn (tgt := 950) (off := 917) hX dL_law_33 (by rw [q24] <;> decide) (by rw [q24] <;> decide) (by rw [q24] <;> rfl) (by decide) ?_
        exact tl_roams a24 hX hcell hx hi hL hk μ ν hs
      have e24 := ts_ne (c := 24) (k := 24) q24 (by decide)
      by_cases q25 : w = 25
      · refine gl_tsIn (tgt := 973) (off := 940) hX dL_law_33 (by rw [q25] <;> decide) (by rw [q25] <;> decide) (by rw [q25] <;> rfl) (by decide) ?_
        exact tl_odds a25 hX hcell hx hi hL hk μ ν hs
      have e25 := ts_ne (c := 25) (k := 25) q25 (by decide)
      by_cases q26 : w = 26
      · refine gl_tsIn (tgt := 1006) (off := 973) hX dL_law_33 (by rw [q26] <;> decide) (by rw [q26] <;> decide) (by rw [q26] <;> rfl) (by decide) ?_
        exact tl_fits a26 hX hcell hx hi hL hk μ ν hs
      have e26 := ts_ne (c := 26) (k := 26) q26 (by decide)
      by_cases q27 : w = 27
      · refine gl_tsIn (tgt := 1029) (off := 996) hX dL_law_33 (by rw [q27] <;> decide) (by rw [q27] <;> decide) (by rw [q27] <;> rfl) (by decide) ?_
        exact tl_voice a27 hX hcell hx hi hL hk μ ν hs
      have e27 := ts_ne (c := 27) (k := 27) q27 (by decide)
      by_cases q28 : w = 28
      · refine gl_tsIn (tgt := 1072) (off := 1039) hX dL_law_33 (by rw [q28] <;> decide) (by rw [q28] <;> decide) (by rw [q28] <;> rfl) (by decide) ?_
        exact tl_body a28 hX hcell hx hi hL hk μ ν hs
      have e28 := ts_ne (c := 28) (k := 28) q28 (by decide)
      by_cases q29 : w = 29
      · refine gl_tsIn (tgt := 1095) (off := 1062) hX dL_law_33 (by rw [q29] <;> decide) (by rw [q29] <;> decide) (by rw [q29] <;> rfl) (by decide) ?_
        exact tl_sheet a29 hX hcell hx hi hL hk μ ν hs
      have e29 := ts_ne (c := 29) (k := 29) q29 (by decide)
      by_cases q30 : w = 30
      · refine gl_tsIn (tgt := 1138) (off := 1105) hX dL_law_33 (by rw [q30] <;> decide) (by rw [q30] <;> decide) (by rw [q30] <;> rfl) (by decide) ?_
        exact tl_put a30 hX hcell hx hi hL hk μ ν hs
      have e30 := ts_ne (c := 30) (k := 30) q30 (by decide)
      by_cases q31 : w = 31
      · refine gl_tsIn (tgt := 1181) (off := 1148) hX dL_law_33 (by rw [q31] <;> decide) (by rw [q31] <;> decide) (by rw [q31] <;> rfl) (by decide) ?_
        exact tl_move a31 hX hcell hx hi hL hk μ ν hs
      have e31 := ts_ne (c := 31) (k := 31) q31 (by decide)
      by_cases q32 : w = 32
      · refine gl_tsIn (tgt := 1244) (off := 1211) hX dL_law_33 (by rw [q32] <;> decide) (by rw [q32] <;> decide) (by rw [q32] <;> rfl) (by decide) ?_
        exact tl_holds a32 hX hcell hx hi hL hk μ ν hs
      have e32 := ts_ne (c := 32) (k := 32) q32 (by decide)
      by_cases q33 : w = 33
      · refine gl_tsIn (tgt := 1267) (off := 1234) hX dL_law_33 (by rw [q33] <;> decide) (by rw [q33] <;> decide) (by rw [q33] <;> rfl) (by decide) ?_
        exact tl_judge a33 hX hcell hx hi hL hk μ ν hs
      have e33 := ts_ne (c := 33) (k := 33) q33 (by decide)
      by_cases q34 : w = 34
      · refine gl_tsIn (tgt := 1290) (off := 1257) hX dL_law_33 (by rw [q34] <;> decide) (by rw [q34] <;> decide) (by rw [q34] <;> rfl) (by decide) ?_
        exact tl_image a34 hX hcell hx hi hL hk μ ν hs
      have e34 := ts_ne (c := 34) (k := 34) q34 (by decide)
      by_cases q35 : w = 35
      · refine gl_tsIn (tgt := 1303) (off := 1270) hX dL_law_33 (by rw [q35] <;> decide) (by rw [q35] <;> decide) (by rw [q35] <;> rfl) (by decide) ?_
        exact tl_restore a35 hX hcell hx hi hL hk μ ν hs
      have e35 := ts_ne (c := 35) (k := 35) q35 (by decide)
      by_cases q36 : w = 36
      · refine gl_tsIn (tgt := 1316) (off := 1283) hX dL_law_33 (by rw [q36] <;> decide) (by rw [q36] <;> decide) (by rw [q36] <;> rfl) (by decide) ?_
        exact tl_tell a36 hX hcell hx hi hL hk μ ν hs
      have e36 := ts_ne (c := 36) (k := 36) q36 (by decide)
      by_cases q37 : w = 37
      · refine gl_tsIn (tgt := 1339) (off := 1306) hX dL_law_33 (by rw [q37] <;> decide) (by rw [q37] <;> decide) (by rw [q37] <;> rfl) (by decide) ?_
        exact tl_check a37 hX hcell hx hi hL hk μ ν hs
      have e37 := ts_ne (c := 37) (k := 37) q37 (by decide)
      by_cases q38 : w = 38
      · refine gl_tsIn (tgt := 1352) (off := 1319) hX dL_law_33 (by rw [q38] <;> decide) (by rw [q38] <;> decide) (by rw [q38] <;> rfl) (by decide) ?_
        exact tl_count a38 hX hcell hx hi hL hk μ ν hs
      have e38 := ts_ne (c := 38) (k := 38) q38 (by decide)
      by_cases q39 : w = 39
      · refine gl_tsIn (tgt := 1375) (off := 1342) hX dL_law_33 (by rw [q39] <;> decide) (by rw [q39] <;> decide) (by rw [q39] <;> rfl) (by decide) ?_
        exact tl_told a39 hX hcell hx hi hL hk μ ν hs
      have e39 := ts_ne (c := 39) (k := 39) q39 (by decide)
      refine gl_tsOut (tgt := 1398) hX dL_law_33 (by omega) (by decide) ?_
      exact hk μ ν hs
