theorem err0 {μ ν : Mem} (h : Sim μ ν) : ∃ (r : Int32) (μ1 ν1 : Mem), f_X8_fail 0 μ = some (r, μ1) ∧ f_X9_error (-1000000000) ν = some (r, ν1) ∧ Sim μ1 ν1 := by
  have e := err_both h (k := 0) (e := -1000000000) (by decide) (by decide) (by decide)
  rw [show nI 0 = 0 from rfl] at e
  exact e
theorem err1 {μ ν : Mem} (h : Sim μ ν) : ∃ (r : Int32) (μ1 ν1 : Mem), f_X8_fail 1 μ = some (r, μ1) ∧ f_X9_error (-1000000001) ν = some (r, ν1) ∧ Sim μ1 ν1 := by
  have e := err_both h (k := 1) (e := -1000000001) (by decide) (by decide) (by decide)
  rw [show nI 1 = 1 from rfl] at e
  exact e
theorem err2 {μ ν : Mem} (h : Sim μ ν) : ∃ (r : Int32) (μ1 ν1 : Mem), f_X8_fail 2 μ = some (r, μ1) ∧ f_X9_error (-1000000002) ν = some (r, ν1) ∧ Sim μ1 ν1 := by
  have e := err_both h (k := 2) (e := -1000000002) (by decide) (by decide) (by decide)
  rw [show nI 2 = 2 from rfl] at e
  exact e
theorem err3 {μ ν : Mem} (h : Sim μ ν) : ∃ (r : Int32) (μ1 ν1 : Mem), f_X8_fail 3 μ = some (r, μ1) ∧ f_X9_error (-1000000003) ν = some (r, ν1) ∧ Sim μ1 ν1 := by
  have e := err_both h (k := 3) (e := -1000000003) (by decide) (by decide) (by decide)
  rw [show nI 3 = 3 from rfl] at e
  exact e
theorem err4 {μ ν : Mem} (h : Sim μ ν) : ∃ (r : Int32) (μ1 ν1 : Mem), f_X8_fail 4 μ = some (r, μ1) ∧ f_X9_error (-1000000004) ν = some (r, ν1) ∧ Sim μ1 ν1 := by
  have e := err_both h (k := 4) (e := -1000000004) (by decide) (by decide) (by decide)
  rw [show nI 4 = 4 from rfl] at e
  exact e
theorem err5 {μ ν : Mem} (h : Sim μ ν) : ∃ (r : Int32) (μ1 ν1 : Mem), f_X8_fail 5 μ = some (r, μ1) ∧ f_X9_error (-1000000005) ν = some (r, ν1) ∧ Sim μ1 ν1 := by
  have e := err_both h (k := 5) (e := -1000000005) (by decide) (by decide) (by decide)
  rw [show nI 5 = 5 from rfl] at e
  exact e
theorem err6 {μ ν : Mem} (h : Sim μ ν) : ∃ (r : Int32) (μ1 ν1 : Mem), f_X8_fail 6 μ = some (r, μ1) ∧ f_X9_error (-1000000006) ν = some (r, ν1) ∧ Sim μ1 ν1 := by
  have e := err_both h (k := 6) (e := -1000000006) (by decide) (by decide) (by decide)
  rw [show nI 6 = 6 from rfl] at e
  exact e
theorem ix_lit3 : ix 3 = 3 := rfl
theorem ix_lit4 : ix 4 = 4 := rfl
theorem sim_gate : Sim_gate Sim := by
  intro v1 v2 v3 μ ν h
  have hh := h
  obtain ⟨hK, -, -, -, -, -⟩ := h
  obtain ⟨⟨⟨m1, m2, m3, m4, m5⟩, mp, mg, mb, mf⟩, ⟨-, ⟨ng, hng, e3⟩, -⟩, -⟩ := id hK
  have p11 : μ 8 11 = nI ng := m2.trans e3
  unfold f_X8_gate f_X9_gate f_X8_gate_18 f_X9_gate_18 f_X8_areTwoFields f_X9_areTwo
  rw [hi_rg (n := 10) (by decide), in_rg (n := 10) (by decide)]
  simp only [isField8_rg, isField9_rg, ite10, bd2_id, show 1 + 7 = 8 from rfl, p11, ix_lit3, e3]
  have herr : ∃ (r : Int32) (μ1 ν1 : Mem), f_X8_fail 1 μ = some (r, μ1) ∧ f_X9_error (-1000000001) ν = some (r, ν1) ∧ Sim μ1 ν1 := err1 hh
  by_cases h1 : inb v1 7 = true
  · by_cases h2 : inb v2 7 = true
    · by_cases h3 : v1 = v2
      · simp only [h1, h2, h3, not_true_eq_false, if_false, if_true]
        exact herr
      · by_cases h4 : inb v3 10 = true
        · simp only [h1, h2, h3, h4, not_true_eq_false, if_false, if_true, show ¬ (1 : Int32) = 0 by decide]
          by_cases h6 : ng < 9
          · have c1 : nI ng < 9 := nI_lt h6 (by decide)
            have c2 : ¬ nI ng = 9 := fun q => by
              have := (nI_eq (a := ng) (b := 9) (by omega) (by decide)).mp q
              omega
            rw [if_pos c1, if_neg c2]
            unfold f_X2_addGate
            have l0 := fun (ν : Mem) v => lets_at (g := ng) (w := 0) (v := v) (ν := ν) (by omega)
            have l1 := fun (ν : Mem) v => lets_at (g := ng) (w := 1) (v := v) (ν := ν) (by omega)
            have l2 := fun (ν : Mem) v => lets_at (g := ng) (w := 2) (v := v) (ν := ν) (by omega)
            have l3 := fun (ν : Mem) v => lets_at (g := ng) (w := 3) (v := v) (ν := ν) (by omega)
            rw [show nI 0 = 0 from rfl] at l0
            rw [show nI 1 = 1 from rfl] at l1
            rw [show nI 2 = 2 from rfl] at l2
            rw [show nI 3 = 3 from rfl] at l3
            simp only [p11, c1, if_true, wr_e, inb_nI h6 (by decide), ck_t, ix_nI (show ng < 2 ^ 31 by omega), show 8 + 3 = 11 from rfl, show 8 + 4 = 12 from rfl, show 8 + 5 = 13 from rfl, show 8 + 6 = 14 from rfl, up_ne, up_s, ne_eq, Nat.reduceEqDiff, not_false_eq_true, nI_1, nI_pred, l0, l1, l2, l3, bd_s]
            refine ⟨_, _, _, rfl, rfl, Sim_one hh ?_ (by intro i hi; simp only [List.mem_cons, List.not_mem_nil, or_false] at hi; rw [up_cell (by omega), up_cell (by omega), up_cell (by omega), up_cell (by omega), up_cell (by omega)]) (sameC_up (sameC_up (sameC_up (sameC_up (sameC_up (sameC_rf _ _) (by decide)) (by decide)) (by decide)) (by decide)) (by decide))⟩
            have k1 := KR_one (g := ng) h6 h1 hK
            have k2 := KR_other (g := ng) h6 h2 k1
            have k3 := KR_heavy (g := ng) (v := v3) h6 k2
            have k4 := KR_holder (g := ng) (v := -1) h6 (by decide) k3
            have k5 := KR_gates (n := ng + 1) (v := nI (ng + 1)) (by omega) rfl k4
            simp only [up_row]
            refine (congrArg (KR 1 _) ?_).mp k5
            funext i
            simp only [upr]
            grind
          · have c1 : ¬ nI ng < 9 := nI_nlt (b := 9) (by omega) (by omega)
            have c2 : nI ng = 9 := by rw [show ng = 9 by omega]; rfl
            rw [if_neg c1, if_pos c2]
            exact err4 hh
        · simp only [h1, h2, h3, h4, not_true_eq_false, if_false, not_false_eq_true, if_true, show ¬ (1 : Int32) = 0 by decide]
          exact herr
    · simp only [h1, h2, not_true_eq_false, if_false, not_false_eq_true, if_true, Bool.false_eq_true]
      exact herr
  · simp only [h1, not_false_eq_true, if_true, Bool.false_eq_true]
    exact herr
theorem sim_gateIs : Sim_gateIs Sim := by
  intro v1 v2 μ ν h
  have hh := h
  obtain ⟨hK, -, -, -, -, -⟩ := h
  obtain ⟨⟨⟨m1, m2, m3, m4, m5⟩, mp, mg, mb, mf⟩, ⟨-, ⟨ng, hng, e3⟩, -⟩, -⟩ := id hK
  have p11 : μ 8 11 = nI ng := m2.trans e3
  unfold f_X8_gateIs f_X9_gateIs f_X8_gateIs_25 f_X9_gateIs_26
  rw [isGate_rg p11 hng, isGate9_rg e3 hng, hi_rg (n := 4) (by decide), in_rg (n := 4) (by decide)]
  simp only [ite10, bd2_id, show 1 + 7 = 8 from rfl]
  have herr : ∃ (r : Int32) (μ1 ν1 : Mem), f_X8_fail 1 μ = some (r, μ1) ∧ f_X9_error (-1000000001) ν = some (r, ν1) ∧ Sim μ1 ν1 := err1 hh
  by_cases h1 : inb v1 ng = true
  · by_cases h2 : inb v2 4 = true
    · simp only [h1, h2, not_true_eq_false, if_false, if_true]
      have h1' : inb v1 9 = true := inb_mono h1 hng
      obtain ⟨g, hg, rfl⟩ := rg_of h1 (by omega)
      obtain ⟨w, hw, rfl⟩ := rg_of h2 (by decide)
      obtain ⟨g1, g2, g3, g4⟩ := mg g (by omega)
      simp only [h1', ck_t, ix_nI (show g < 2 ^ 31 by omega), about_at (show 27 + 4 * g + w < 395 by omega), bd_s]
      refine ⟨ν 1 (27 + 4 * g + w), μ, ν, ?_, rfl, hh⟩
      rcases (show w = 0 ∨ w = 1 ∨ w = 2 ∨ w = 3 by omega) with rfl | rfl | rfl | rfl
      · rw [if_pos (by rfl)]; simp only [g1, show 8 + 3 = 11 from rfl, Nat.add_zero] at *
      · rw [if_neg (by decide), if_pos (by rfl)]; simp only [show 8 + 4 = 12 from rfl] at *; rw [g2]
      · rw [if_neg (by decide), if_neg (by decide), if_pos (by rfl)]; simp only [show 8 + 5 = 13 from rfl] at *; rw [g3]
      · rw [if_neg (by decide), if_neg (by decide), if_neg (by decide)]; simp only [show 8 + 6 = 14 from rfl] at *; rw [g4]
    · simp only [h1, h2, not_true_eq_false, if_false, not_false_eq_true, if_true, Bool.false_eq_true]
      exact herr
  · simp only [h1, not_false_eq_true, if_true, Bool.false_eq_true]
    exact herr
theorem isHolder_rg {o k : Nat} {v : Int32} {μ : Mem} (h : μ o 10 = nI k) (hk : k ≤ 6) : f_X2_isHolder o v μ = if v = -1 ∨ inb v k = true then 1 else 0 := by
  unfold f_X2_isHolder
  rw [isOne_rg h hk]
  by_cases h1 : v = -1
  · simp [h1]
  · by_cases h2 : inb v k = true <;> simp [h1, h2]
theorem holder_ge {v : Int32} {k : Nat} (h : v = -1 ∨ inb v k = true) : -1 ≤ v.toInt := by
  rcases h with rfl | h
  · decide
  · have := (rg_iff (v := v) (n := k)).mp h
    omega
theorem sim_hold : Sim_hold Sim := by
  intro v1 v2 μ ν h
  have hh := h
  obtain ⟨hK, -, -, -, -, -⟩ := h
  obtain ⟨⟨⟨m1, m2, m3, m4, m5⟩, mp, mg, mb, mf⟩, ⟨⟨np, hnp, e2⟩, ⟨ng, hng, e3⟩, -⟩, -⟩ := id hK
  have p10 : μ 8 10 = nI np := m1.trans e2
  have p11 : μ 8 11 = nI ng := m2.trans e3
  unfold f_X8_hold f_X9_hold f_X8_hold_24 f_X9_hold_25 f_X9_hold_21 f_X9_hold_26
  rw [isGate_rg p11 hng, isGate9_rg e3 hng, isHolder_rg p10 hnp, isPerson_rg e2 hnp]
  simp only [ite10, bd2_id, show 1 + 7 = 8 from rfl]
  have herr : ∃ (r : Int32) (μ1 ν1 : Mem), f_X8_fail 1 μ = some (r, μ1) ∧ f_X9_error (-1000000001) ν = some (r, ν1) ∧ Sim μ1 ν1 := err1 hh
  by_cases h1 : inb v1 ng = true
  · have h1' : inb v1 9 = true := inb_mono h1 hng
    by_cases h2 : v2 = -1 ∨ inb v2 np = true
    · obtain ⟨g, hg, rfl⟩ := rg_of h1 (by omega)
      obtain ⟨g1, g2, g3, g4⟩ := mg g (by omega)
      have e27 := e27 g 3
      rw [show nI 3 = 3 from rfl] at e27
      rw [e27]
      have hb := fun v => becomes_at (i := 27 + 4 * g + 3) (v := v) (ν := ν) (by omega)
      have herr' : ∀ x y : Option (Int32 × Mem), (if v2 = -1 then y else if ¬inb v2 np = true then x else y) = y := by
        intro x y
        rcases h2 with h2 | h2
        · rw [if_pos h2]
        · rw [if_neg (not_not_intro h2)]; exact ite_self _
      have hn : ¬ ¬ inb (nI g) ng = true := not_not_intro h1
      have hn2 : ¬ ¬ (v2 = -1 ∨ inb v2 np = true) := not_not_intro h2
      rw [if_neg hn, if_neg hn2, if_neg hn, if_neg (show ¬ (1 : Int32) = 0 by decide), herr', hb]
      simp only [h1', ck_t, wr_e, ix_nI (show g < 2 ^ 31 by omega), show 8 + 6 = 14 from rfl]
      have g4' : μ 14 g = ν 1 (27 + 4 * g + 3) := g4
      rw [g4']
      refine ⟨_, _, _, rfl, rfl, Sim_one hh ?_ (sameC_up (sameC_rf _ _) (by decide)) (sameC_up (sameC_rf _ _) (by decide))⟩
      rw [up_row]
      exact KR_holder (g := g) (by omega) (holder_ge h2) hK
    · have q1 : ¬ v2 = -1 := fun q => h2 (Or.inl q)
      have q2 : ¬ inb v2 np = true := fun q => h2 (Or.inr q)
      simp only [h1, q1, q2, or_self, not_true_eq_false, if_false, not_false_eq_true, if_true, Bool.false_eq_true]
      exact herr
  · simp only [h1, not_false_eq_true, if_true, Bool.false_eq_true]
    exact herr
theorem sim_stock : Sim_stock Sim := by
  intro v1 μ ν h
  have hh := h
  obtain ⟨hK, -, -, -, -, -⟩ := h
  obtain ⟨⟨⟨m1, m2, m3, m4, m5⟩, mp, mg, mb, mf⟩, ⟨-, -, ⟨nb, hnb, e4⟩, -⟩, -⟩ := id hK
  have p12 : μ 8 12 = nI nb := m3.trans e4
  unfold f_X8_stock f_X9_stock
  simp only [isField8_rg, isField9_rg, ite10, bd2_id, show 1 + 7 = 8 from rfl, p12, ix_lit4, e4]
  by_cases h1 : inb v1 7 = true
  · simp only [h1, not_true_eq_false, if_false]
    by_cases h6 : nb < 6
    · have c1 : nI nb < 6 := nI_lt h6 (by decide)
      have c2 : ¬ nI nb = 6 := fun q => by
        have := (nI_eq (a := nb) (b := 6) (by omega) (by decide)).mp q
        omega
      have e63 : 63 + nI nb = nI (63 + nb) := by rw [show (63 : Int32) = nI 63 from rfl, nI_add]
      rw [if_pos c1, if_neg c2, e63]
      unfold f_X2_addBeast
      simp only [p12, c1, if_true, wr_e, inb_nI h6 (by decide), ck_t, ix_nI (show nb < 2 ^ 31 by omega), inb_nI (show 63 + nb < 395 by omega) (by decide), ix_nI (show 63 + nb < 2 ^ 31 by omega), show 8 + 7 = 15 from rfl, up_ne, up_s, ne_eq, Nat.reduceEqDiff, not_false_eq_true, nI_1, nI_pred]
      refine ⟨_, _, _, rfl, rfl, Sim_one hh ?_ (sameC_up (sameC_up (sameC_rf _ _) (by decide)) (by decide)) (sameC_up (sameC_up (sameC_rf _ _) (by decide)) (by decide))⟩
      have k1 := KR_at (z := nb) h6 h1 hK
      have k2 := KR_beasts (n := nb + 1) (v := nI (nb + 1)) (by omega) rfl k1
      simp only [up_row]
      refine (congrArg (KR 1 _) ?_).mp k2
      funext i
      simp only [upr]
      grind
    · have c1 : ¬ nI nb < 6 := nI_nlt (b := 6) (by omega) (by omega)
      have c2 : nI nb = 6 := by rw [show nb = 6 by omega]; rfl
      rw [if_neg c1, if_pos c2]
      exact err4 hh
  · simp only [h1, not_false_eq_true, if_true, Bool.false_eq_true]
    exact err1 hh
theorem sim_stockAt : Sim_stockAt Sim := by
  intro v1 μ ν h
  have hh := h
  obtain ⟨hK, -, -, -, -, -⟩ := h
  obtain ⟨⟨⟨m1, m2, m3, m4, m5⟩, mp, mg, mb, mf⟩, ⟨-, -, ⟨nb, hnb, e4⟩, -⟩, -⟩ := id hK
  have p12 : μ 8 12 = nI nb := m3.trans e4
  unfold f_X8_stockAt f_X9_stockAt f_X8_stockAt_18
  simp only [bd2_id, show 1 + 7 = 8 from rfl, p12, ix_lit4, e4]
  rw [hi_rg2 (n := nb) (nI_toInt (by omega)), in_rg (n := nb) (nI_m1 nb (by omega))]
  simp only [ite10]
  by_cases h1 : inb v1 nb = true
  · simp only [h1, not_true_eq_false, if_false, if_true]
    have h1' : inb v1 6 = true := inb_mono h1 hnb
    obtain ⟨z, hz, rfl⟩ := rg_of h1 (by omega)
    have e63 : 63 + nI z = nI (63 + z) := by rw [show (63 : Int32) = nI 63 from rfl, nI_add]
    simp only [h1', ck_t, e63, ix_nI (show z < 2 ^ 31 by omega), inb_nI (show 63 + z < 395 by omega) (by decide), ix_nI (show 63 + z < 2 ^ 31 by omega), show 8 + 7 = 15 from rfl]
    exact ⟨_, _, _, rfl, by rw [← mb z (by omega)], hh⟩
  · simp only [h1, not_false_eq_true, if_true, if_false]
    exact err1 hh
theorem sim_grass : Sim_grass Sim := by
  intro v1 v2 μ ν h
  have hh := h
  obtain ⟨hK, -, -, -, -, -⟩ := h
  obtain ⟨⟨⟨m1, m2, m3, m4, m5⟩, mp, mg, mb, mf⟩, -⟩ := id hK
  unfold f_X8_grass f_X9_grass f_X8_grass_17 f_X9_grass_29
  rw [hi_rg (n := 100) (by decide), in_rg (n := 100) (by decide)]
  simp only [isField8_rg, isField9_rg, ite10, bd2_id, show 1 + 7 = 8 from rfl]
  have herr : ∃ (r : Int32) (μ1 ν1 : Mem), f_X8_fail 1 μ = some (r, μ1) ∧ f_X9_error (-1000000001) ν = some (r, ν1) ∧ Sim μ1 ν1 := err1 hh
  by_cases h1 : inb v1 7 = true
  · by_cases h2 : inb v2 100 = true
    · simp only [h1, h2, not_true_eq_false, if_false, if_true]
      have h1' := h1
      obtain ⟨f, hf, rfl⟩ := rg_of h1 (by omega)
      have e8 : 8 + nI f = nI (8 + f) := by rw [show (8 : Int32) = nI 8 from rfl, nI_add]
      simp only [h1', ck_t, wr_e, e8, ix_nI (show f < 2 ^ 31 by omega), becomes_at (show 8 + f < 395 by omega), show 8 + 8 = 16 from rfl]
      have mf' : μ 16 f = ν 1 (8 + f) := mf f hf
      rw [mf']
      refine ⟨_, _, _, rfl, rfl, Sim_one hh ?_ (sameC_up (sameC_rf _ _) (by decide)) (sameC_up (sameC_rf _ _) (by decide))⟩
      rw [up_row]
      exact KR_grass (f := f) hf h2 hK
    · simp only [h1, h2, not_true_eq_false, if_false, not_false_eq_true, if_true, Bool.false_eq_true]
      exact herr
  · simp only [h1, not_false_eq_true, if_true, Bool.false_eq_true]
    exact herr
theorem sim_hour : Sim_hour Sim := by
  intro v1 μ ν h
  have hh := h
  obtain ⟨hK, -, -, -, -, -⟩ := h
  obtain ⟨⟨⟨m1, m2, m3, m4, m5⟩, mp, mg, mb, mf⟩, -⟩ := id hK
  unfold f_X8_hour f_X9_hour f_X8_hour_11
  rw [hi_rg (n := 10000) (by decide), in_rg (n := 10000) (by decide)]
  simp only [ite10, bd2_id, show 1 + 7 = 8 from rfl]
  by_cases h2 : inb v1 10000 = true
  · have b0 := becomes_at (i := 0) (v := v1) (ν := ν) (by decide)
    rw [show nI 0 = 0 from rfl] at b0
    simp only [h2, not_true_eq_false, if_false, if_true, wr_e, b0]
    have m4' : μ 8 13 = ν 1 0 := m4
    rw [m4']
    refine ⟨_, _, _, rfl, rfl, Sim_one hh ?_ (sameC_up (sameC_rf _ _) (by decide)) (sameC_up (sameC_rf _ _) (by decide))⟩
    rw [up_row]
    exact KR_hour hK
  · simp only [h2, if_false, not_false_eq_true, if_true, Bool.false_eq_true]
    exact err1 hh
