theorem sim_count : Sim_count Sim := by
  intro v1 μ ν h
  have hh := h
  have hV := VW_sim h
  obtain ⟨⟨⟨⟨m1, m2, m3, m4, m5⟩, -⟩, ⟨-, ⟨ng, hng, e3⟩, -⟩, ⟨⟨nt, -, t1, t2⟩, -⟩, ⟨w1, ⟨nw, -, w3, w4⟩, -⟩, -⟩, -, -, -, ⟨n, -, r1, r2, -⟩, -⟩ := h
  obtain ⟨x, x1, x2⟩ := open_both hV e3 hng
  unfold f_X8_count f_X9_count
  rw [show 1 + 7 = 8 from rfl, show 1 + 16 = 17 from rfl, show ix 2 = 2 from rfl, show ix 3 = 3 from rfl, show ix 4 = 4 from rfl, show ix 0 = 0 from rfl, show ix 5 = 5 from rfl, show ix 6 = 6 from rfl, show ix 7 = 7 from rfl, show ix 1 = 1 from rfl, show μ 8 10 = ν 1 2 from m1, show μ 8 11 = ν 1 3 from m2, show μ 8 12 = ν 1 4 from m3, show μ 8 13 = ν 1 0 from m4, show μ 8 14 = ν 1 5 from m5, x1, x2, bd_n, bd_n, show μ 17 1 = ν 1 6 from t1.trans t2.symm, show μ 1 5 = ν 1 7 from w3.trans w4.symm, show μ 55 1 = ν 0 21 from r1.trans r2.symm, show μ 1 6 = ν 1 1 from w1]
  simp only [bd2_id]
  by_cases c0 : v1 = 0
  · rw [if_pos c0, if_pos c0]; exact ⟨_, _, _, rfl, rfl, hh⟩
  · rw [if_neg c0, if_neg c0]
    by_cases c1 : v1 = 1
    · rw [if_pos c1, if_pos c1]; exact ⟨_, _, _, rfl, rfl, hh⟩
    · rw [if_neg c1, if_neg c1]
      by_cases c2 : v1 = 2
      · rw [if_pos c2, if_pos c2]; exact ⟨_, _, _, rfl, rfl, hh⟩
      · rw [if_neg c2, if_neg c2]
        by_cases c3 : v1 = 3
        · rw [if_pos c3, if_pos c3]; exact ⟨_, _, _, rfl, rfl, hh⟩
        · rw [if_neg c3, if_neg c3]
          by_cases c4 : v1 = 4
          · rw [if_pos c4, if_pos c4]; exact ⟨_, _, _, rfl, rfl, hh⟩
          · rw [if_neg c4, if_neg c4]
            by_cases c5 : v1 = 5
            · rw [if_pos c5, if_pos c5]; exact ⟨_, _, _, rfl, rfl, hh⟩
            · rw [if_neg c5, if_neg c5]
              by_cases c6 : v1 = 6
              · rw [if_pos c6, if_pos c6]; exact ⟨_, _, _, rfl, rfl, hh⟩
              · rw [if_neg c6, if_neg c6]
                by_cases c7 : v1 = 7
                · rw [if_pos c7, if_pos c7]; exact ⟨_, _, _, rfl, rfl, hh⟩
                · rw [if_neg c7, if_neg c7]
                  by_cases c8 : v1 = 8
                  · rw [if_pos c8, if_pos c8]; exact ⟨_, _, _, rfl, rfl, hh⟩
                  · rw [if_neg c8, if_neg c8]
                    by_cases c9 : v1 = 9
                    · rw [if_pos c9, if_pos c9]; exact ⟨_, _, _, rfl, rfl, hh⟩
                    · rw [if_neg c9, if_neg c9]; exact err1 hh
