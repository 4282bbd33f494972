theorem sim_seed : Sim_seed Sim := by
  intro v1 μ ν h
  have hh := h
  obtain ⟨⟨k1, k2, k3, ⟨w1, w2, w3⟩, k5, k6⟩, -⟩ := h
  unfold f_X8_seed f_X9_seed
  have b1 := becomes_at (i := 1) (v := v1) (ν := ν) (by decide)
  rw [show nI 1 = 1 from rfl] at b1
  rw [b1, wr_e, bd2_s]
  have w1' : μ 1 6 = ν 1 1 := w1
  rw [w1']
  refine ⟨_, _, _, rfl, rfl, Sim_now hh ?_ (sameC_up (sameC_rf _ _) (by decide)) (sameC_up (sameC_rf _ _) (by decide)) (up_ne (by decide)) (up_ne (by decide)) (up_ne (by decide)) (up_ne (by decide))⟩
  rw [up_row]
  obtain ⟨nw, hw, w4, w5⟩ := w2
  refine ⟨MR_same (r := upr (ν 1) 1 v1) ?_ (fun i hi => up_cell (by omega)), ?_, ⟨?_, ?_⟩, ⟨?_, ⟨nw, hw, ?_, ?_⟩, ?_⟩, ?_, ?_⟩
  · obtain ⟨⟨m1, m2, m3, m4, m5⟩, mp, mg, mb, mf⟩ := k1
    refine ⟨⟨?_, ?_, ?_, ?_, ?_⟩, fun p hp => ?_, fun g hg => ?_, fun b hb => ?_, fun f hf => ?_⟩ <;> grind [upr]
  · obtain ⟨⟨np, a1, a2⟩, ⟨ng, b1, b2⟩, ⟨nb, c1, c2⟩, d, e, f1, f2, f3⟩ := k2
    refine ⟨⟨np, ?_, ?_⟩, ⟨ng, ?_, ?_⟩, ⟨nb, ?_, ?_⟩, ?_, fun p' hp' => ?_, fun g' hg' => ?_, fun z' hz' => ?_, fun f' hf' => ?_⟩ <;> grind [upr]
  · obtain ⟨⟨n, t1, t2, t3⟩, -⟩ := k3
    exact ⟨n, t1, by rw [up_ne (by decide)]; exact t2, by simp only [upr]; exact t3⟩
  · obtain ⟨-, t4⟩ := k3
    intro k hk
    rw [up_ne (by decide)]
    simp only [upr]
    rw [if_neg (by omega)]
    exact t4 k hk
  · rw [up_s]; simp only [upr]; rfl
  · rw [up_n (by decide)]; exact w4
  · simp only [upr]; exact w5
  · intro k hk
    rw [up_ne (by decide)]
    simp only [upr]
    rw [if_neg (by omega)]
    exact w3 k hk
  · exact LR_row (LR_same k5 (up_ne (by decide)) (up_cell (by decide))) (fun i hi _ => by simp only [upr]; rw [if_neg (by omega)])
  · exact LR_row (LR_same k6 (up_ne (by decide)) (up_cell (by decide))) (fun i hi _ => by simp only [upr]; rw [if_neg (by omega)])
/-! SHEETS -/
theorem e24 (s j : Nat) : 24 * nI s + nI j = nI (24 * s + j) := by
  rw [show (24 : Int32) = nI 24 from rfl, pk_mul, nI_add]
theorem e8 (f : Nat) : 8 + nI f = nI (8 + f) := by rw [show (8 : Int32) = nI 8 from rfl, nI_add]
theorem le24 {j : Nat} (hj : j < 2 ^ 31) : (24 : Int32) ≤ nI j ↔ 24 ≤ j := nI_leI (by decide) hj
theorem le7 {j : Nat} (hj : j < 2 ^ 31) : (7 : Int32) ≤ nI j ↔ 7 ≤ j := nI_leI (by decide) hj
theorem Sim_sh {μ ν μ1 ν1 : Mem} (h : Sim μ ν) (hS : SHR μ1 ν1) (hC : sameC [58, 59, 60, 61, 62, 63, 64, 65] μ μ1) (hR : sameC [5, 6, 7] ν ν1) : Sim μ1 ν1 := by
  obtain ⟨h1, h2, h3, h4, h5, h6⟩ := h
  refine ⟨by rw [hR 1 (by decide)]; exact KR1_same h1 hC (by decide), ⟨?_, ?_⟩, ?_, hS, TRR_same h5 (by rw [hC 55 (by decide)]) (hC 56 (by decide)) (by rw [hR 0 (by decide)]) (hR 15 (by decide)), ?_⟩
  · rw [hC 0 (by decide), hR 0 (by decide)]; exact h2.1
  · rw [hC 0 (by decide), hR 2 (by decide)]
    exact h2.2.imp id (fun q => KR20_same q hC (by decide))
  · rw [hC 66 (by decide), hR 4 (by decide)]; exact h3
  · rw [hC 2 (by decide), hC 5 (by decide)]; exact h6
theorem judge_loop {μ ν : Mem} {s z : Nat} (hs : s < 4) (hz : z ≤ 24) (h2 : μ (58 + 2 * s) 2 = nI z) (g6 : ν 6 s = nI z) (hc : ∀ k, k < 24 → μ (58 + 2 * s + 1) k = ν 7 (24 * s + k)) (hf : ∀ f, f < 7 → μ (8 + 8) f = ν 1 (8 + f)) : ∀ n j, j ≤ 7 → j ≤ z → 8 ≤ n + j → ∃ r, f_X5_rightGrass_2 (58 + 2 * s) 8 μ n (nI j) = some r ∧ f_X9_judge_18 n (nI s) (nI j) ν = some (r, ν) := by
  intro n
  induction n with
  | zero => intro j h1 h2 h3; omega
  | succ n ih =>
    intro j h1 h3 h4
    simp only [f_X5_rightGrass_2, f_X9_judge_18, f_X5_rightGrass_49, h2, isField8_rg, ite10, inb_nI hs (by decide), ck_t, ix_nI (show s < 2 ^ 31 by omega), ix_nI (show j < 2 ^ 31 by omega), g6, e24, e8, nI_leI (show z < 2 ^ 31 by omega) (show j < 2 ^ 31 by omega), le24 (show j < 2 ^ 31 by omega), le7 (show j < 2 ^ 31 by omega)]
    by_cases c : z ≤ j
    · have : j = z := by omega
      subst this
      rw [if_pos c, if_pos c]
      exact ⟨_, rfl, rfl⟩
    · rw [if_neg c, if_neg c, if_neg (show ¬ 24 ≤ j by omega)]
      by_cases c7 : 7 ≤ j
      · have q : ¬ inb (nI j) 7 = true := fun q => by have := (rg_nI_iff (by omega)).mp q; omega
        rw [if_pos q, if_pos c7]
        exact ⟨_, rfl, rfl⟩
      · have q : inb (nI j) 7 = true := inb_nI (by omega) (by decide)
        rw [if_neg (not_not_intro q), if_neg c7]
        rw [inb_nI (show j < 24 by omega) (by decide), q, inb_nI (show 24 * s + j < 96 by omega) (by decide), inb_nI (show 8 + j < 395 by omega) (by decide), ix_nI (show 24 * s + j < 2 ^ 31 by omega), ix_nI (show 8 + j < 2 ^ 31 by omega)]
        simp only [ck_t]
        rw [hc j (by omega), hf j (by omega)]
        by_cases e : ν 7 (24 * s + j) = ν 1 (8 + j)
        · rw [if_pos e, if_pos e, nI_1]
          exact ih (j + 1) (by omega) (by omega) (by omega)
        · rw [if_neg e, if_neg e]
          exact ⟨_, rfl, rfl⟩
theorem missing_at {o : Nat} {μ : Mem} : f_X5_isMissing o μ = if μ o 1 = 0 then 1 else 0 := rfl
theorem sim_judge : Sim_judge Sim := by
  intro v1 μ ν h
  have hh := h
  obtain ⟨⟨⟨-, -, -, -, mf⟩, -⟩, -, -, hS, -⟩ := h
  unfold f_X8_judge f_X9_judge f_X9_notThere
  rw [isSheet8_rg, isSheet9_rg]
  simp only [ite10, bd2_id, show 1 + 7 = 8 from rfl]
  by_cases h1 : inb v1 4 = true
  · obtain ⟨s, hs, rfl⟩ := rg_of h1 (by decide)
    obtain ⟨s1, s2, ⟨z, hz, s3, s4⟩, s5⟩ := hS s hs
    simp only [h1, not_true_eq_false, if_false, ck_t, ix_nI (show s < 2 ^ 31 by omega), missing_at, ite10]
    by_cases h2 : ν 5 s = 0
    · rw [s1]
      simp only [h2, not_true_eq_false, if_false, if_true, bd_s, show ¬ (-1000000002 : Int32) = 0 by decide]
      exact err2 hh
    · rw [s1]
      simp only [h2, not_false_eq_true, if_true, if_false, bd_s]
      obtain ⟨r, e1, e2⟩ := judge_loop hs hz s3 s4 s5 mf 2000 0 (by decide) (by omega) (by decide)
      unfold f_X5_rightGrass
      rw [show (0 : Int32) = nI 0 from rfl, e1, e2]
      exact ⟨_, _, _, rfl, rfl, hh⟩
  · simp only [h1, not_false_eq_true, if_true, if_false, Bool.false_eq_true, bd_s, show ¬ (-1000000001 : Int32) = 0 by decide]
    exact err1 hh
theorem isHolder9_rg {k : Nat} {v : Int32} {ν : Mem} (e2 : ν 1 2 = nI k) (hk : k ≤ 6) : f_X9_in v (-1) (ν 1 2 - 1) = if v = -1 ∨ inb v k = true then 1 else 0 := by
  unfold f_X9_in
  rw [e2]
  have hn := nI_m1 k (by omega)
  have hm : (-1 : Int32).toInt = -1 := by decide
  have e1 : (-1 : Int32) ≤ v ↔ -1 ≤ v.toInt := by rw [Int32.le_iff_toInt_le, hm]
  have e3 : v < -1 ↔ v.toInt < -1 := by rw [Int32.lt_iff_toInt_lt, hm]
  have e4 : v ≤ nI k - 1 ↔ v.toInt ≤ (k : Int) - 1 := by rw [Int32.le_iff_toInt_le, hn]
  have e5 : nI k - 1 < v ↔ (k : Int) - 1 < v.toInt := by rw [Int32.lt_iff_toInt_lt, hn]
  have e6 : v = -1 ↔ v.toInt = -1 := by rw [eq_i, hm]
  have e7 : inb v k = true ↔ 0 ≤ v.toInt ∧ v.toInt < k := rg_iff
  simp only [e1, e3, e4, e5, e6, e7]
  split <;> split <;> (try split) <;> first | rfl | omega
