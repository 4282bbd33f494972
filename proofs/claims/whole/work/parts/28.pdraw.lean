theorem draw_both {o f : Nat} {μ ν : Mem} (ho : o = 8 ∨ o = 39) (h : VW o μ ν) (hf : f < 7) : ∃ (r : Int32) (μ1 ν1 : Mem), f_X2_draw o (nI f) μ = some (r, μ1) ∧ f_X9_drawsOf (nI f) ν = some (r, ν1) ∧ sameC [4, 7] μ μ1 ∧ sameC [10, 11] ν ν1 ∧ inb r 100 = true := by
  obtain ⟨⟨⟨m1, m2, m3, m4, m5⟩, -, -, -, mf⟩, -, -, l2, -, l4⟩ := h
  have hsr : sr true o 1 = 5 := by rcases ho with rfl | rfl <;> decide
  unfold f_X2_draw f_X9_drawsOf
  rw [isField8_rg, inb_nI hf (by decide), if_pos rfl, if_neg (show ¬ (1 : Int32) = 0 by decide), ck_n, e8, ck_c (inb_nI (show 8 + f < 395 by omega) (by decide)), ix_nI (show f < 2 ^ 31 by omega), ix_nI (show 8 + f < 2 ^ 31 by omega), hsr, m4, mf f hf, show ix 0 = 0 from rfl]
  obtain ⟨x, μ1, ν1, q1, q2, q3, q4, q5⟩ := gives_both (o := 5) (c := 274) (u := 1) (v1 := ν 1 (8 + f)) (v2 := nI f) (v3 := jrem (ν 1 0) 24) (Or.inr ⟨rfl, rfl, rfl⟩) l4 l2
  rw [q1, q2, bd2_n, bd2_n]
  exact ⟨_, _, _, rfl, rfl, sameC_mono q3 (by decide), q4, q5⟩
