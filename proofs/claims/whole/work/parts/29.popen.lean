theorem open_loop {o ng : Nat} {μ ν : Mem} (h : VW o μ ν) (h3 : ν 1 3 = nI ng) (hng : ng ≤ 9) : ∀ f j (s : Int32), j ≤ ng → 10 ≤ f + j → ∃ r, f_X2_openGates_4 o μ f s (nI j) = some r ∧ f_X9_opened_4 ν f s (nI j) = some r := by
  intro f
  induction f with
  | zero => intro j s hj hf; omega
  | succ f ih =>
    intro j s hj hf
    obtain ⟨⟨⟨m1, m2, m3, m4, m5⟩, mp, mg, -, -⟩, ⟨-, -, -, -, -, wg, -⟩, -⟩ := id h
    have p11 : μ o 11 = nI ng := m2.trans h3
    unfold f_X2_openGates_4 f_X9_opened_4
    rw [p11, show ix 3 = 3 from rfl, h3]
    by_cases q : ng ≤ j
    · have q' : nI ng ≤ nI j := (nI_leI (by omega) (by omega)).mpr q
      rw [if_pos q', if_pos q']
      exact ⟨_, rfl, rfl⟩
    · have q' : ¬ nI ng ≤ nI j := fun e => q ((nI_leI (by omega) (by omega)).mp e)
      have w3 := (wg j (by omega)).2.2
      have hopen : (ν 1 (27 + 4 * j + 3) = -1) ↔ ¬ 0 ≤ ν 1 (27 + 4 * j + 3) := by
        rw [eq_i, Int32.le_iff_toInt_le, show (-1 : Int32).toInt = -1 by decide, show (0 : Int32).toInt = 0 by decide]
        omega
      rw [if_neg q', if_neg q', ck_c (inb_nI (show j < 9 by omega) (by decide)), ix_nI (show j < 2 ^ 31 by omega), (mg j (by omega)).2.2.2, isOpen_at (show j < 9 by omega), bd_n]
      unfold f_X9_opened_30
      by_cases c : 0 ≤ ν 1 (27 + 4 * j + 3)
      · rw [if_neg (fun e => hopen.mp e c), if_pos c, if_pos rfl, nI_1, show s ||| 0 = s by rw [Int32.or_zero]]
        exact ih (j + 1) s (by omega) (by omega)
      · rw [if_pos (hopen.mpr c), if_neg c, if_neg (show ¬ (1 : Int32) = 0 by decide), nI_1]
        exact ih (j + 1) _ (by omega) (by omega)
theorem open_both {o ng : Nat} {μ ν : Mem} (h : VW o μ ν) (h3 : ν 1 3 = nI ng) (hng : ng ≤ 9) : ∃ r, f_X2_openGates o μ = some r ∧ f_X9_opened ν = some r := by
  unfold f_X2_openGates f_X9_opened
  exact open_loop h h3 hng 2000 0 0 (by omega) (by omega)
