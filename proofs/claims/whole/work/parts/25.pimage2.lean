theorem keep_copy_20_1 {μ : Mem} {r : Nat → Int32} (h : KR 1 μ r) : ∃ μ', f_X0_copyOf 20 1 μ = some μ' ∧ KR 20 μ' r ∧ sameC [20, 21, 22, 24, 25, 27, 28, 29, 30, 31, 32, 33, 34, 35, 36, 37, 38] μ μ' ∧ μ' 21 1 = μ 21 1 ∧ μ' 24 1 = μ 24 1 := by
  obtain ⟨k1, k2, ⟨⟨nt, t1, t2, t3⟩, t4⟩, ⟨w1, ⟨nw, w2, w3, w4⟩, w5⟩, ⟨n1, a1, a2, a3, a4, a5⟩, ⟨n2, b1, b2, b3, b4, b5⟩⟩ := h
  obtain ⟨μ1, p1, p2, p3, p4, p5⟩ := law_copy (o := 21) (a := 2) (μ := μ) a2 a1 (by decide) (by decide)
  have b2' : μ1 5 4 = nI n2 := by rw [p4 5 (by decide)]; exact b2
  obtain ⟨μ2, q1, q2, q3, q4, q5⟩ := law_copy (o := 24) (a := 5) (μ := μ1) b2' b1 (by decide) (by decide)
  obtain ⟨μ3, s1, s2, s3⟩ := moor_copy_27_8 (μ := μ2)
  have hA : ∀ i, 1 ≤ i → i ≤ 19 → μ3 i = μ i := fun i h1 h2 => by
    rw [s3 i (by simp only [List.mem_cons, List.not_mem_nil, or_false]; omega), q4 i (by simp only [List.mem_cons, List.not_mem_nil, or_false]; omega), p4 i (by simp only [List.mem_cons, List.not_mem_nil, or_false]; omega)]
  unfold f_X0_copyOf f_X7_copyOf
  have hi1 : inC 0 0 60 (ln true (17 + 1)) (ln true (36 + 1)) = true := by decide
  have hi2 : inC 0 0 24 (ln true 19) (ln true 38) = true := by decide
  rw [show 20 + 1 = 21 from rfl, show 1 + 1 = 2 from rfl, p1, bd_n, show 20 + 4 = 24 from rfl, show 1 + 4 = 5 from rfl, q1, bd_n, show 20 + 7 = 27 from rfl, show 1 + 7 = 8 from rfl, s1, bd_n, show 20 + 16 = 36 from rfl, show 1 + 16 = 17 from rfl, hi1, ck_n, cpy_n, wr_n, bd_n, show 20 + 18 = 38 from rfl, show 1 + 18 = 19 from rfl, hi2, ck_n, cpy_n, wr_n, wr_n]
  generalize hM : up (up (cpM (up (cpM μ3 (17 + 1) (ix 0) (36 + 1) (ix 0) (ix 60)) 36 1 (cpM μ3 (17 + 1) (ix 0) (36 + 1) (ix 0) (ix 60) 17 1)) 19 (ix 0) 38 (ix 0) (ix 24)) 20 5 (cpM (up (cpM μ3 (17 + 1) (ix 0) (36 + 1) (ix 0) (ix 60)) 36 1 (cpM μ3 (17 + 1) (ix 0) (36 + 1) (ix 0) (ix 60) 17 1)) 19 (ix 0) 38 (ix 0) (ix 24) 1 5)) 20 6 (up (cpM (up (cpM μ3 (17 + 1) (ix 0) (36 + 1) (ix 0) (ix 60)) 36 1 (cpM μ3 (17 + 1) (ix 0) (36 + 1) (ix 0) (ix 60) 17 1)) 19 (ix 0) 38 (ix 0) (ix 24)) 20 5 (cpM (up (cpM μ3 (17 + 1) (ix 0) (36 + 1) (ix 0) (ix 60)) 36 1 (cpM μ3 (17 + 1) (ix 0) (36 + 1) (ix 0) (ix 60) 17 1)) 19 (ix 0) 38 (ix 0) (ix 24) 1 5) 1 6) = M
  have i60 : ix 60 = 60 := rfl
  have i24 : ix 24 = 24 := rfl
  have i0 : ix 0 = 0 := rfl
  have m0 : ∀ i, i ≠ 20 → i ≠ 36 → i ≠ 37 → i ≠ 38 → M i = μ3 i := fun i h1 h2 h3 h4 => by
    funext c
    rw [← hM, up_ne h1, up_ne h1, cp_at, if_neg (fun q => h4 q.1), up_ne h2, cp_at, if_neg (fun q => h3 q.1)]
  have m6 : M 20 6 = μ 1 6 := by rw [← hA 1 (by decide) (by decide), ← hM]; simp [up, cp_at]
  have m5 : M 20 5 = μ 1 5 := by rw [← hA 1 (by decide) (by decide), ← hM]; simp [up, cp_at]
  have m1 : M 36 1 = μ 17 1 := by rw [← hA 17 (by decide) (by decide), ← hM]; simp [up, cp_at]
  have m7 : ∀ k, k < 60 → M 37 k = μ 18 k := fun k hk => by rw [← hA 18 (by decide) (by decide), ← hM]; simp [up, cp_at, i60, i0, hk]
  have m8 : ∀ k, k < 24 → M 38 k = μ 19 k := fun k hk => by rw [← hA 19 (by decide) (by decide), ← hM]; simp [up, cp_at, i24, i0, hk]
  clear hM
  refine ⟨M, rfl, ⟨?_, k2, ⟨⟨nt, t1, m1.trans t2, t3⟩, fun k hk => by rw [show 20 + 17 = 37 from rfl, m7 k hk]; exact t4 k hk⟩, ⟨m6.trans w1, ⟨nw, w2, m5.trans w3, w4⟩, fun k hk => by rw [show 20 + 18 = 38 from rfl, m8 k hk]; exact w5 k hk⟩, ⟨n1, a1, ?_, a3, fun k hk => ?_, a5⟩, ⟨n2, b1, ?_, b3, fun k hk => ?_, b5⟩⟩, fun i hi => ?_, ?_, ?_⟩
  · have e1 : MR 8 μ2 r := MR_same k1 (fun i hi => by rw [q4 _ (by simp only [List.mem_cons, List.not_mem_nil, or_false]; omega), p4 _ (by simp only [List.mem_cons, List.not_mem_nil, or_false]; omega)])
    exact MR_same (o := 27) (MR_copy e1 s2) (fun i hi => m0 _ (by omega) (by omega) (by omega) (by omega))
  · show M 21 4 = _
    rw [m0 _ (by decide) (by decide) (by decide) (by decide), s3 _ (by decide), q4 _ (by decide)]; exact p2
  · show WR (M 22 k) _ _
    rw [m0 _ (by decide) (by decide) (by decide) (by decide), s3 _ (by decide), q4 _ (by decide), p3 k hk]; exact a4 k hk
  · show M 24 4 = _
    rw [m0 _ (by decide) (by decide) (by decide) (by decide), s3 _ (by decide)]; exact q2
  · show WR (M 25 k) _ _
    rw [m0 _ (by decide) (by decide) (by decide) (by decide), s3 _ (by decide), q3 k hk, p4 _ (by decide)]; exact b4 k hk
  · simp only [List.mem_cons, List.not_mem_nil, or_false] at hi
    rw [m0 _ (by omega) (by omega) (by omega) (by omega), s3 _ (by simp only [List.mem_cons, List.not_mem_nil, or_false]; omega), q4 _ (by simp only [List.mem_cons, List.not_mem_nil, or_false]; omega), p4 _ (by simp only [List.mem_cons, List.not_mem_nil, or_false]; omega)]
  · rw [m0 _ (by decide) (by decide) (by decide) (by decide), s3 _ (by decide), q4 _ (by decide)]; exact p5
  · rw [m0 _ (by decide) (by decide) (by decide) (by decide), s3 _ (by decide), q5, p4 _ (by decide)]
theorem keep_copy_1_20 {μ : Mem} {r : Nat → Int32} (h : KR 20 μ r) : ∃ μ', f_X0_copyOf 1 20 μ = some μ' ∧ KR 1 μ' r ∧ sameC [1, 2, 3, 5, 6, 8, 9, 10, 11, 12, 13, 14, 15, 16, 17, 18, 19] μ μ' ∧ μ' 2 1 = μ 2 1 ∧ μ' 5 1 = μ 5 1 := by
  obtain ⟨k1, k2, ⟨⟨nt, t1, t2, t3⟩, t4⟩, ⟨w1, ⟨nw, w2, w3, w4⟩, w5⟩, ⟨n1, a1, a2, a3, a4, a5⟩, ⟨n2, b1, b2, b3, b4, b5⟩⟩ := h
  obtain ⟨μ1, p1, p2, p3, p4, p5⟩ := law_copy (o := 2) (a := 21) (μ := μ) a2 a1 (by decide) (by decide)
  have b2' : μ1 24 4 = nI n2 := by rw [p4 24 (by decide)]; exact b2
  obtain ⟨μ2, q1, q2, q3, q4, q5⟩ := law_copy (o := 5) (a := 24) (μ := μ1) b2' b1 (by decide) (by decide)
  obtain ⟨μ3, s1, s2, s3⟩ := moor_copy_8_27 (μ := μ2)
  have hA : ∀ i, 20 ≤ i → i ≤ 38 → μ3 i = μ i := fun i h1 h2 => by
    rw [s3 i (by simp only [List.mem_cons, List.not_mem_nil, or_false]; omega), q4 i (by simp only [List.mem_cons, List.not_mem_nil, or_false]; omega), p4 i (by simp only [List.mem_cons, List.not_mem_nil, or_false]; omega)]
  unfold f_X0_copyOf f_X7_copyOf
  have hi1 : inC 0 0 60 (ln true (36 + 1)) (ln true (17 + 1)) = true := by decide
  have hi2 : inC 0 0 24 (ln true 38) (ln true 19) = true := by decide
  rw [show 1 + 1 = 2 from rfl, show 20 + 1 = 21 from rfl, p1, bd_n, show 1 + 4 = 5 from rfl, show 20 + 4 = 24 from rfl, q1, bd_n, show 1 + 7 = 8 from rfl, show 20 + 7 = 27 from rfl, s1, bd_n, show 1 + 16 = 17 from rfl, show 20 + 16 = 36 from rfl, hi1, ck_n, cpy_n, wr_n, bd_n, show 1 + 18 = 19 from rfl, show 20 + 18 = 38 from rfl, hi2, ck_n, cpy_n, wr_n, wr_n]
  generalize hM : up (up (cpM (up (cpM μ3 (36 + 1) (ix 0) (17 + 1) (ix 0) (ix 60)) 17 1 (cpM μ3 (36 + 1) (ix 0) (17 + 1) (ix 0) (ix 60) 36 1)) 38 (ix 0) 19 (ix 0) (ix 24)) 1 5 (cpM (up (cpM μ3 (36 + 1) (ix 0) (17 + 1) (ix 0) (ix 60)) 17 1 (cpM μ3 (36 + 1) (ix 0) (17 + 1) (ix 0) (ix 60) 36 1)) 38 (ix 0) 19 (ix 0) (ix 24) 20 5)) 1 6 (up (cpM (up (cpM μ3 (36 + 1) (ix 0) (17 + 1) (ix 0) (ix 60)) 17 1 (cpM μ3 (36 + 1) (ix 0) (17 + 1) (ix 0) (ix 60) 36 1)) 38 (ix 0) 19 (ix 0) (ix 24)) 1 5 (cpM (up (cpM μ3 (36 + 1) (ix 0) (17 + 1) (ix 0) (ix 60)) 17 1 (cpM μ3 (36 + 1) (ix 0) (17 + 1) (ix 0) (ix 60) 36 1)) 38 (ix 0) 19 (ix 0) (ix 24) 20 5) 20 6) = M
  have i60 : ix 60 = 60 := rfl
  have i24 : ix 24 = 24 := rfl
  have i0 : ix 0 = 0 := rfl
  have m0 : ∀ i, i ≠ 1 → i ≠ 17 → i ≠ 18 → i ≠ 19 → M i = μ3 i := fun i h1 h2 h3 h4 => by
    funext c
    rw [← hM, up_ne h1, up_ne h1, cp_at, if_neg (fun q => h4 q.1), up_ne h2, cp_at, if_neg (fun q => h3 q.1)]
  have m6 : M 1 6 = μ 20 6 := by rw [← hA 20 (by decide) (by decide), ← hM]; simp [up, cp_at]
  have m5 : M 1 5 = μ 20 5 := by rw [← hA 20 (by decide) (by decide), ← hM]; simp [up, cp_at]
  have m1 : M 17 1 = μ 36 1 := by rw [← hA 36 (by decide) (by decide), ← hM]; simp [up, cp_at]
  have m7 : ∀ k, k < 60 → M 18 k = μ 37 k := fun k hk => by rw [← hA 37 (by decide) (by decide), ← hM]; simp [up, cp_at, i60, i0, hk]
  have m8 : ∀ k, k < 24 → M 19 k = μ 38 k := fun k hk => by rw [← hA 38 (by decide) (by decide), ← hM]; simp [up, cp_at, i24, i0, hk]
  clear hM
  refine ⟨M, rfl, ⟨?_, k2, ⟨⟨nt, t1, m1.trans t2, t3⟩, fun k hk => by rw [show 1 + 17 = 18 from rfl, m7 k hk]; exact t4 k hk⟩, ⟨m6.trans w1, ⟨nw, w2, m5.trans w3, w4⟩, fun k hk => by rw [show 1 + 18 = 19 from rfl, m8 k hk]; exact w5 k hk⟩, ⟨n1, a1, ?_, a3, fun k hk => ?_, a5⟩, ⟨n2, b1, ?_, b3, fun k hk => ?_, b5⟩⟩, fun i hi => ?_, ?_, ?_⟩
  · have e1 : MR 27 μ2 r := MR_same k1 (fun i hi => by rw [q4 _ (by simp only [List.mem_cons, List.not_mem_nil, or_false]; omega), p4 _ (by simp only [List.mem_cons, List.not_mem_nil, or_false]; omega)])
    exact MR_same (o := 8) (MR_copy e1 s2) (fun i hi => m0 _ (by omega) (by omega) (by omega) (by omega))
  · show M 2 4 = _
    rw [m0 _ (by decide) (by decide) (by decide) (by decide), s3 _ (by decide), q4 _ (by decide)]; exact p2
  · show WR (M 3 k) _ _
    rw [m0 _ (by decide) (by decide) (by decide) (by decide), s3 _ (by decide), q4 _ (by decide), p3 k hk]; exact a4 k hk
  · show M 5 4 = _
    rw [m0 _ (by decide) (by decide) (by decide) (by decide), s3 _ (by decide)]; exact q2
  · show WR (M 6 k) _ _
    rw [m0 _ (by decide) (by decide) (by decide) (by decide), s3 _ (by decide), q3 k hk, p4 _ (by decide)]; exact b4 k hk
  · simp only [List.mem_cons, List.not_mem_nil, or_false] at hi
    rw [m0 _ (by omega) (by omega) (by omega) (by omega), s3 _ (by simp only [List.mem_cons, List.not_mem_nil, or_false]; omega), q4 _ (by simp only [List.mem_cons, List.not_mem_nil, or_false]; omega), p4 _ (by simp only [List.mem_cons, List.not_mem_nil, or_false]; omega)]
  · rw [m0 _ (by decide) (by decide) (by decide) (by decide), s3 _ (by decide), q4 _ (by decide)]; exact p5
  · rw [m0 _ (by decide) (by decide) (by decide) (by decide), s3 _ (by decide), q5, p4 _ (by decide)]
theorem sim_restore : Sim_restore Sim := by
  intro μ ν h
  have hh := h
  obtain ⟨h1, ⟨h2, h3⟩, h4, h5, h6, h7, h8⟩ := h
  unfold f_X8_restore f_X9_restore
  simp only [bd2_id, h2]
  by_cases c : ν 0 3 = 0
  · rw [if_pos c, if_pos c]
    exact err2 hh
  · rw [if_neg c, if_neg c]
    have h3' : KR 20 μ (ν 2) := h3.resolve_left (fun q => c (h2.symm.trans q))
    obtain ⟨μ1, p1, p2, p3, p4, p5⟩ := keep_copy_1_20 h3'
    obtain ⟨ν1, q1, q2, q3⟩ := copyAll_at (a := 2) (b := 1) (ν := ν) (by decide) (by decide) (by decide)
    rw [p1, q1, bd_n, bd_n]
    have hK : KR 1 μ1 (ν1 1) := KR_row p2 q2
    obtain ⟨⟨⟨-, -, -, m4, -⟩, -⟩, -⟩ := id hK
    have m4' : μ1 (1 + 7) 13 = ν1 1 (ix 0) := m4
    rw [m4']
    exact ⟨_, _, _, rfl, rfl, Sim_now hh hK (sameC_mono p3 (by decide)) (sameC_mono q3 (by decide)) (by rw [q3 0 (by decide)]) (by rw [q3 0 (by decide)]) p4 p5⟩
theorem sim_image : Sim_image Sim := by
  intro μ ν h
  have hh := h
  obtain ⟨h1, ⟨h2, h3⟩, h4, h5, h6, h7, h8⟩ := h
  unfold f_X8_image f_X9_image
  obtain ⟨μ1, p1, p2, p3, p4, p5⟩ := keep_copy_20_1 h1
  obtain ⟨ν1, q1, q2, q3⟩ := copyAll_at (a := 1) (b := 2) (ν := ν) (by decide) (by decide) (by decide)
  have hK : KR 20 μ1 (ν1 2) := KR_row p2 q2
  have e0 : μ1 0 8 = ν1 0 3 := by rw [p3 0 (by decide), q3 0 (by decide)]; exact h2
  rw [p1, q1, bd_n, bd_n, wr_n, wr_n, up_s, up_s, e0]
  have hC : sameC [0, 20, 21, 22, 24, 25, 27, 28, 29, 30, 31, 32, 33, 34, 35, 36, 37, 38] μ (up μ1 0 8 (ν1 0 3 + 1)) := sameC_up (sameC_mono p3 (by decide)) (by decide)
  have hR : sameC [0, 2] ν (up ν1 0 3 (ν1 0 3 + 1)) := sameC_up (sameC_mono q3 (by decide)) (by decide)
  refine ⟨_, _, _, rfl, rfl, ⟨?_, ⟨by rw [up_s, up_s], Or.inr ?_⟩, ?_, SHR_same h5 (fun i a b => hC i (by simp only [List.mem_cons, List.not_mem_nil, or_false]; omega)) (hR 5 (by decide)) (hR 6 (by decide)) (hR 7 (by decide)), TRR_same h6 (by rw [hC 55 (by decide)]) (hC 56 (by decide)) (by rw [up_n (by decide), q3 0 (by decide)]) (hR 15 (by decide)), by rw [hC 2 (by decide), hC 5 (by decide)]; exact ⟨h7, h8⟩⟩⟩
  · rw [hR 1 (by decide)]
    exact KR1_same h1 hC (by decide)
  · have e2 : (up ν1 0 3 (ν1 0 3 + 1)) 2 = ν1 2 := up_cell (by decide)
    rw [e2]
    exact KR_same hK (fun i hi _ _ => up_cell (by omega))
  · rw [hC 66 (by decide), hR 4 (by decide)]; exact h4
