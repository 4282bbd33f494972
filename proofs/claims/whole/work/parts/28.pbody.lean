theorem sim_body : Sim_body Sim := by
  intro v1 μ ν h
  have hh := h
  obtain ⟨-, -, -, -, ⟨n, hn, t1, t2, t3⟩, -⟩ := h
  unfold f_X8_body f_X9_body f_X8_body_15
  simp only [bd2_id, t1, t2]
  rw [hi_rg2 (n := n) (nI_toInt (by omega)), in_rg (n := n) (nI_m1 n (by omega))]
  simp only [ite10]
  by_cases h1 : inb v1 n = true
  · have h1' : inb v1 30 = true := inb_mono h1 hn
    obtain ⟨k, hk, rfl⟩ := rg_of h1 (by omega)
    rw [if_pos h1, if_neg (not_not_intro h1), h1', ck_n, ck_n, ix_nI (by omega), t3 k hk]
    exact ⟨_, _, _, rfl, rfl, hh⟩
  · rw [if_neg h1, if_pos h1]
    exact err2 hh
