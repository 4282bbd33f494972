/-- one moor, now's or the thought's, beside the reference's row -/
def VW (o : Nat) (μ ν : Mem) : Prop := MR o μ (ν 1) ∧ WM (ν 1) ∧ LR 2 μ (ν 1) 153 ∧ LR 5 μ (ν 1) 274 ∧ μ 2 1 = 19 ∧ μ 5 1 = 99
theorem VW_stay {o : Nat} {μ ν μ1 ν1 : Mem} (ho : o = 8 ∨ o = 39) (h : VW o μ ν) (hC : sameC [4, 7] μ μ1) (hR : sameC [10, 11] ν ν1) : VW o μ1 ν1 := by
  obtain ⟨h1, h2, h3, h4, h5, h6⟩ := h
  have e : ν1 1 = ν 1 := hR 1 (by decide)
  have c : ∀ i, i ≠ 4 → i ≠ 7 → μ1 i = μ i := fun i a b => hC i (by simp only [List.mem_cons, List.not_mem_nil, or_false]; omega)
  refine ⟨?_, by rw [e]; exact h2, ?_, ?_, by rw [c 2 (by decide) (by decide)]; exact h5, by rw [c 5 (by decide) (by decide)]; exact h6⟩
  · rw [e]; exact MR_same h1 (fun i hi => c _ (by omega) (by omega))
  · rw [e]; exact LR_same h3 (by rw [c 2 (by decide) (by decide)]) (c _ (by decide) (by decide))
  · rw [e]; exact LR_same h4 (by rw [c 5 (by decide) (by decide)]) (c _ (by decide) (by decide))
theorem VW_sim {μ ν : Mem} (h : Sim μ ν) : VW 8 μ ν := by
  obtain ⟨⟨k1, k2, k3, k4, k5, k6⟩, -, -, -, -, m1, m2⟩ := h
  exact ⟨k1, k2, k5, k6, m1, m2⟩
theorem cost_both {o p g : Nat} {μ ν : Mem} (h : VW o μ ν) (hp : p < 6) (hg : g < 9) : ∃ r, f_X2_cost o (nI p) (nI g) μ = some r ∧ f_X9_costsOf (nI p) (nI g) ν = some r := by
  obtain ⟨⟨-, mp, mg, -, -⟩, ⟨-, -, -, -, -, wg, -⟩, -⟩ := h
  obtain ⟨p1, -⟩ := mp p hp
  obtain ⟨-, -, g3, g4⟩ := mg g hg
  obtain ⟨-, -, w3⟩ := wg g hg
  have a2 := about_at (g := g) (w := 2) (ν := ν) (by omega)
  have o0 := of_at (p := p) (w := 0) (ν := ν) (by omega)
  rw [show nI 2 = 2 from rfl] at a2
  rw [show nI 0 = 0 from rfl, Nat.add_zero] at o0
  unfold f_X2_cost f_X9_costsOf
  rw [inb_nI hp (by decide), inb_nI hg (by decide), ck_n, ck_n, ck_n, ix_nI (show p < 2 ^ 31 by omega), ix_nI (show g < 2 ^ 31 by omega), p1, g3, g4, a2, o0, bd_n, bd_n, isOpen_at hg]
  have hopen : (ν 1 (27 + 4 * g + 3) = -1) ↔ ¬ 0 ≤ ν 1 (27 + 4 * g + 3) := by
    rw [eq_i, Int32.le_iff_toInt_le, show (-1 : Int32).toInt = -1 by decide, show (0 : Int32).toInt = 0 by decide]
    omega
  by_cases k1 : ν 1 (15 + 2 * p) = 1
  · exact ⟨_, by rw [if_pos k1], by rw [if_pos k1]⟩
  · by_cases k2 : ν 1 (15 + 2 * p) = 2
    · exact ⟨_, by rw [if_neg k1, if_pos k2], by rw [if_neg k1, if_pos k2]⟩
    · by_cases k4 : ν 1 (15 + 2 * p) = 4
      · exact ⟨_, by rw [if_neg k1, if_neg k2, if_pos k4], by rw [if_neg k1, if_neg k2, if_pos k4]⟩
      · by_cases k5 : ν 1 (15 + 2 * p) = 5
        · by_cases q : 0 ≤ ν 1 (27 + 4 * g + 3)
          · exact ⟨_, by rw [if_neg k1, if_neg k2, if_neg k4, if_pos k5, if_neg (fun e => hopen.mp e q)], by rw [if_neg k1, if_neg k2, if_neg k4, if_pos k5, if_pos q, bd_n, if_pos rfl]⟩
          · exact ⟨_, by rw [if_neg k1, if_neg k2, if_neg k4, if_pos k5, if_pos (hopen.mpr q)], by rw [if_neg k1, if_neg k2, if_neg k4, if_pos k5, if_neg q, bd_n, if_neg (by decide)]⟩
        · by_cases k6 : ν 1 (15 + 2 * p) = 6
          · exact ⟨_, by rw [if_neg k1, if_neg k2, if_neg k4, if_neg k5, if_pos k6], by rw [if_neg k1, if_neg k2, if_neg k4, if_neg k5, if_pos k6]⟩
          · exact ⟨_, by rw [if_neg k1, if_neg k2, if_neg k4, if_neg k5, if_neg k6], by rw [if_neg k1, if_neg k2, if_neg k4, if_neg k5, if_neg k6]⟩
theorem weight_both {o p g np ng : Nat} {μ ν : Mem} (ho : o = 8 ∨ o = 39) (h : VW o μ ν) (h2 : ν 1 2 = nI np) (hnp : np ≤ 6) (h3 : ν 1 3 = nI ng) (hng : ng ≤ 9) (hp : p < np) (hg : g < ng) : ∃ (r : Int32) (μ1 ν1 : Mem), f_X2_weight o (nI p) (nI g) μ = some (r, μ1) ∧ f_X9_weighsOn (nI p) (nI g) ν = some (r, ν1) ∧ sameC [4, 7] μ μ1 ∧ sameC [10, 11] ν ν1 := by
  obtain ⟨r, r1, r2⟩ := cost_both h (show p < 6 by omega) (show g < 9 by omega)
  obtain ⟨⟨⟨m1, m2, m3, m4, m5⟩, -⟩, -, l1, -, l3, -⟩ := h
  have p10 : μ o 10 = nI np := m1.trans h2
  have p11 : μ o 11 = nI ng := m2.trans h3
  have hsr : sr true o 0 = 2 := by rcases ho with rfl | rfl <;> decide
  unfold f_X2_weight f_X9_weighsOn
  rw [isOne_rg p10 hnp, isGate_rg p11 hng, inb_nI hp (by omega), inb_nI hg (by omega), if_pos rfl, if_neg (show ¬ (1 : Int32) = 0 by decide), if_neg (show ¬ (1 : Int32) = 0 by decide), r1, r2, bd_n, bd_n, hsr, m4, show ix 0 = 0 from rfl]
  obtain ⟨x, μ1, ν1, q1, q2, q3, q4, -⟩ := gives_both (o := 2) (c := 153) (u := 0) (v1 := r) (v2 := jrem (ν 1 0) 24) (v3 := nI g) (Or.inl ⟨rfl, rfl, rfl⟩) l3 l1
  rw [q1, q2, bd2_n, bd2_n]
  exact ⟨_, _, _, rfl, rfl, sameC_mono q3 (by decide), q4⟩
