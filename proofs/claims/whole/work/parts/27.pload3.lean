theorem check_loop {np ng n : Nat} (hnp : np ≤ 6) (hng : ng ≤ 9) (hn : n ≤ 24) : ∀ f j (μ ν : Mem), VW 8 μ ν → ν 1 2 = nI np → ν 1 3 = nI ng → μ 1 5 = nI n → (∀ k, k < 24 → μ 19 k = ν 1 (129 + k)) → j ≤ n → 25 ≤ f + j → ∃ (r : Int32) (μ1 ν1 : Mem), f_X0_firstWrongLoad_2 1 f (nI j) μ = some (r, μ1) ∧ f_X9_check_18 f (nI n) (nI j) ν = some (r + 1, ν1) ∧ sameC [4, 7] μ μ1 ∧ sameC [10, 11] ν ν1 := by
  intro f
  induction f with
  | zero => intro j μ ν h h2 h3 h5 hw hj hf; omega
  | succ f ih =>
    intro j μ ν h h2 h3 h5 hw hj hf
    have p10 : μ 8 10 = nI np := h.1.1.1.trans h2
    unfold f_X0_firstWrongLoad_2 f_X9_check_18
    rw [h5, show 1 + 7 = 8 from rfl, show 1 + 18 = 19 from rfl, isOne_rg p10 hnp, isPerson_rg h2 hnp]
    by_cases q : n ≤ j
    · have q' : nI n ≤ nI j := (nI_leI (by omega) (by omega)).mpr q
      rw [if_pos q', if_pos q']
      exact ⟨-1, _, _, rfl, by rw [show (-1 : Int32) + 1 = 0 by decide], sameC_rf _ _, sameC_rf _ _⟩
    · have q' : ¬ nI n ≤ nI j := fun e => q ((nI_leI (by omega) (by omega)).mp e)
      rw [if_neg q', if_neg q', if_neg (fun e => by have := (le24 (show j < 2 ^ 31 by omega)).mp e; omega)]
      have c1 : (1 : Int32) + nI j = nI j + 1 := Int32.add_comm _ _
      by_cases a : inb (nI j) np = true
      · have hp : j < np := (rg_nI_iff (show j < 2 ^ 31 by omega)).mp a
        have e129 : 129 + nI j = nI (129 + j) := by rw [show (129 : Int32) = nI 129 from rfl, nI_add]
        obtain ⟨r, μ1, ν1, r1, r2, r3, r4⟩ := load_both (Or.inl rfl) h h2 hnp h3 hng hp
        simp only [a, if_true, show ¬ (1 : Int32) = 0 by decide, if_false]
        rw [ck_c (inb_nI (show j < 24 by omega) (by decide)), e129, ck_c (inb_nI (show 129 + j < 395 by omega) (by decide)), r1, r2, bd2_n, bd2_n, ix_nI (show j < 2 ^ 31 by omega), ix_nI (show 129 + j < 2 ^ 31 by omega), hw j (by omega)]
        by_cases b : ν 1 (129 + j) = r
        · rw [if_pos b, if_pos b, nI_1]
          obtain ⟨r', μ2, ν2, e1, e2, e3, e4⟩ := ih (j + 1) μ1 ν1 (VW_stay (Or.inl rfl) h r3 r4) (by rw [r4 1 (by decide)]; exact h2) (by rw [r4 1 (by decide)]; exact h3) (by rw [r3 1 (by decide)]; exact h5) (fun k hk => by rw [r3 19 (by decide), r4 1 (by decide)]; exact hw k hk) (by omega) (by omega)
          exact ⟨r', μ2, ν2, e1, e2, sameC_tr r3 e3, sameC_tr r4 e4⟩
        · rw [if_neg b, if_neg b, c1]
          exact ⟨_, _, _, rfl, rfl, r3, r4⟩
      · simp only [a, if_true, if_false, Bool.false_eq_true, c1]
        exact ⟨_, _, _, rfl, rfl, sameC_rf _ _, sameC_rf _ _⟩
theorem sim_check : Sim_check Sim := by
  intro μ ν h
  have hh := h
  obtain ⟨⟨k1, k2, k3, ⟨w1, ⟨n, w2, w3, w4⟩, w5⟩, k5, k6⟩, -, -, -, -, hm1, hm2⟩ := h
  obtain ⟨⟨np, hnp, e2⟩, ⟨ng, hng, e3⟩, -⟩ := id k2
  unfold f_X8_check f_X9_check f_X0_firstWrongLoad
  rw [wr_n, show ix 7 = 7 from rfl, w4]
  have hr : ∀ i, i ≠ 7 → (up ν 1 7 0) 1 i = ν 1 i := fun i q => up_n (fun e => q e.2)
  have hV : VW 8 μ (up ν 1 7 0) := ⟨MR_row k1 (fun i _ _ _ d => hr i d), WM_row k2 (fun i _ _ _ d => hr i d), LR_row k5 (fun i a _ => hr i (by omega)), LR_row k6 (fun i a _ => hr i (by omega)), hm1, hm2⟩
  obtain ⟨r, μ1, ν1, r1, r2, r3, r4⟩ := check_loop hnp hng w2 2000 0 μ (up ν 1 7 0) hV (by rw [hr _ (by decide)]; exact e2) (by rw [hr _ (by decide)]; exact e3) w3 (fun k hk => by rw [hr _ (by omega)]; exact w5 k hk) (by omega) (by omega)
  rw [show nI 0 = 0 from rfl] at r1 r2
  rw [r1, r2, bd2_n, wr_n]
  have er : ν1 1 = upr (ν 1) 7 0 := by rw [r4 1 (by decide), up_row]
  have hc : ∀ a, a ≠ 1 → a ≠ 4 → a ≠ 7 → (up μ1 1 5 0) a = μ a := fun a q1 q2 q3 => by rw [up_cell q1, r3 a (by simp only [List.mem_cons, List.not_mem_nil, or_false]; omega)]
  have hu : ∀ i, i ≠ 7 → ν1 1 i = ν 1 i := fun i q => by rw [er]; simp only [upr]; rw [if_neg q]
  have hC : sameC [1, 4, 7] μ (up μ1 1 5 0) := fun a ha => by
    simp only [List.mem_cons, List.not_mem_nil, or_false] at ha
    exact hc a (by omega) (by omega) (by omega)
  have hR : sameC [1, 10, 11] ν ν1 := sameC_tr (sameC_up (sameC_rf _ _) (by decide)) (sameC_mono r4 (by decide))
  refine ⟨_, _, _, rfl, rfl, Sim_now hh ⟨MR_row (MR_same k1 (fun i hi => hc _ (by omega) (by omega) (by omega))) (fun i _ _ _ d => hu i d), WM_row k2 (fun i _ _ _ d => hu i d), TPR_row k3 (hc _ (by decide) (by decide) (by decide)) (hc _ (by decide) (by decide) (by decide)) (hu _ (by decide)) (fun i a b => hu i (by omega)), ⟨?_, ⟨0, by decide, ?_, ?_⟩, fun k hk => ?_⟩, LR_row (LR_same k5 (by rw [hc _ (by decide) (by decide) (by decide)]) (hc _ (by decide) (by decide) (by decide))) (fun i a _ => hu i (by omega)), LR_row (LR_same k6 (by rw [hc _ (by decide) (by decide) (by decide)]) (hc _ (by decide) (by decide) (by decide))) (fun i a _ => hu i (by omega))⟩ (sameC_mono hC (by decide)) (sameC_mono hR (by decide)) (by rw [hR 0 (by decide)]) (by rw [hR 0 (by decide)]) (by rw [hc 2 (by decide) (by decide) (by decide)]) (by rw [hc 5 (by decide) (by decide) (by decide)])⟩
  · rw [up_n (by decide), r3 1 (by decide), hu _ (by decide)]; exact w1
  · rw [up_s]; rfl
  · rw [er]; simp only [upr]; rfl
  · rw [hc _ (by decide) (by decide) (by decide), hu _ (by omega)]; exact w5 k hk
