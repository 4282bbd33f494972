theorem hi_rg {v c : Int32} {n : Nat} {α : Type} {x y : α} (hc : c.toInt = (n : Int) - 1) : (if v < 0 then x else if v ≤ c then y else x) = if inb v n = true then y else x := by
  have h0 : (0 : Int32).toInt = 0 := by decide
  have e : inb v n = true ↔ 0 ≤ v.toInt ∧ v.toInt < n := rg_iff
  have e1 : v < 0 ↔ v.toInt < 0 := by rw [Int32.lt_iff_toInt_lt, h0]
  have e2 : v ≤ c ↔ v.toInt ≤ c.toInt := Int32.le_iff_toInt_le
  simp only [e, e1, e2]
  split
  · rw [if_neg (by omega)]
  · split
    · rw [if_pos (by omega)]
    · rw [if_neg (by omega)]
theorem hi_rg2 {v c : Int32} {n : Nat} {α : Type} {x y : α} (hc : c.toInt = (n : Int)) : (if v < 0 then x else if v < c then y else x) = if inb v n = true then y else x := by
  have h0 : (0 : Int32).toInt = 0 := by decide
  have e : inb v n = true ↔ 0 ≤ v.toInt ∧ v.toInt < n := rg_iff
  have e1 : v < 0 ↔ v.toInt < 0 := by rw [Int32.lt_iff_toInt_lt, h0]
  have e2 : v < c ↔ v.toInt < c.toInt := Int32.lt_iff_toInt_lt
  simp only [e, e1, e2]
  split
  · rw [if_neg (by omega)]
  · split
    · rw [if_pos (by omega)]
    · rw [if_neg (by omega)]
theorem inb_mono {v : Int32} {n m : Nat} (h : inb v n = true) (hm : n ≤ m) : inb v m = true := by
  have h1 := (rg_iff (v := v) (n := n)).mp h
  exact rg_iff.mpr ⟨h1.1, by omega⟩
theorem e27 (g w : Nat) : (27 + (4 * nI g)) + nI w = nI (27 + 4 * g + w) := by
  rw [show (4 : Int32) = nI 4 from rfl, pk_mul, show (27 : Int32) = nI 27 from rfl, nI_add, nI_add]
theorem sim_become : Sim_become Sim := by
  intro v1 v2 μ ν h
  have hh := h
  obtain ⟨hK, -, -, -, -, -⟩ := h
  obtain ⟨⟨⟨m1, m2, m3, m4, m5⟩, mp, mg, mb, mf⟩, ⟨⟨np, hnp, e2⟩, -⟩, -⟩ := id hK
  have p10 : μ 8 10 = nI np := m1.trans e2
  unfold f_X8_become f_X9_become f_X8_become_23 f_X9_become_15
  rw [isKN_rg, isKm_rg, isOne_rg p10 hnp, isPerson_rg e2 hnp]
  simp only [ite10, bd2_id, show 1 + 7 = 8 from rfl]
  by_cases h1 : inb v1 np = true
  · by_cases h2 : inb v2 70 = true
    · simp only [h1, h2, not_true_eq_false, if_false]
      have h1' : inb v1 6 = true := inb_mono h1 hnp
      obtain ⟨p, hp, rfl⟩ := rg_of h1 (by omega)
      rw [e15, nI_1]
      simp only [h1', ck_t, wr_e, ix_nI (show p < 2 ^ 31 by omega), inb_nI (show 15 + 2 * p + 1 < 395 by omega) (by decide), ix_nI (show 15 + 2 * p + 1 < 2 ^ 31 by omega), becomes_at (show 15 + 2 * p < 395 by omega), bd2_s, show 8 + 1 = 9 from rfl, show 8 + 2 = 10 from rfl]
      have ea : μ 9 p = up ν 1 (15 + 2 * p + 1) (jrem v2 10) 1 (15 + 2 * p) := by
        rw [up_n (by omega)]; exact (mp p (by omega)).1
      rw [ea]
      refine ⟨_, _, _, rfl, rfl, Sim_one hh ?_ (by intro i hi; simp only [List.mem_cons, List.not_mem_nil, or_false] at hi; rw [up_cell (by omega), up_cell (by omega)]) (sameC_up (sameC_up (sameC_rf _ _) (by decide)) (by decide))⟩
      have k1 := KR_kind (p := p) (by omega) (km_div h2) hK
      have k2 := KR_number (p := p) (v := jrem v2 10) (by omega) k1
      simp only [up_row]
      have e : upr (upr (ν 1) (15 + 2 * p + 1) (jrem v2 10)) (15 + 2 * p) (v2 / 10) = upr (upr (ν 1) (15 + 2 * p) (v2 / 10)) (15 + 2 * p + 1) (jrem v2 10) := by
        funext i
        simp only [upr]
        grind
      rw [e]
      exact k2
    · simp only [h1, h2, not_true_eq_false, if_false, not_false_eq_true, if_true]
      exact err_both hh (k := 1) (by decide) (by decide) (by decide)
  · simp only [h1, not_false_eq_true, if_true]
    exact err_both hh (k := 1) (by decide) (by decide) (by decide)
theorem isUnder_at : ∀ k, k < 7 → ∀ a, a < 7 → f_X8_isUnder (nI k) (nI a) = some (if a = 0 ∨ a = k ∨ (a = 1 ∧ k = 4) ∨ (a = 2 ∧ k = 5) then 1 else 0) := by
  have h : ∀ k, k < 7 → ∀ a, a < 7 → f_X8_isUnder_4 (1992 + 8) (nI a) (nI k) 0 = some (if a = 0 ∨ a = k ∨ (a = 1 ∧ k = 4) ∨ (a = 2 ∧ k = 5) then 1 else 0) := by
    have h8 : ∀ k, k < 7 → ∀ a, a < 7 → f_X8_isUnder_4 8 (nI a) (nI k) 0 = some (if a = 0 ∨ a = k ∨ (a = 1 ∧ k = 4) ∨ (a = 2 ∧ k = 5) then 1 else 0) := by decide +kernel
    have mono : ∀ n m v1 v2 v3 r, f_X8_isUnder_4 n v1 v2 v3 = some r → f_X8_isUnder_4 (m + n) v1 v2 v3 = some r := by
      intro n
      induction n with
      | zero => intro m v1 v2 v3 r h; simp [f_X8_isUnder_4] at h
      | succ n ih =>
        intro m v1 v2 v3 r h
        rw [show m + (n + 1) = (m + n) + 1 by omega]
        rw [f_X8_isUnder_4] at h ⊢
        split
        · rw [if_pos (by assumption)] at h; exact h
        · rw [if_neg (by assumption)] at h
          split
          · rw [if_pos (by assumption)] at h; exact h
          · rw [if_neg (by assumption)] at h
            split
            · rw [if_pos (by assumption)] at h; exact h
            · rw [if_neg (by assumption)] at h
              split
              · rw [if_pos (by assumption)] at h; exact h
              · rw [if_neg (by assumption)] at h
                obtain ⟨z, h⟩ := ck_some h
                rw [ck_c z]
                exact ih m _ _ _ r h
    intro k hk a ha
    exact mono 8 1992 _ _ _ _ (h8 k hk a ha)
  intro k hk a ha
  unfold f_X8_isUnder
  exact h k hk a ha
theorem sim_as : Sim_as Sim := by
  intro v1 v2 μ ν h
  have hh := h
  obtain ⟨hK, -, -, -, -, -⟩ := h
  obtain ⟨⟨⟨m1, m2, m3, m4, m5⟩, mp, mg, mb, mf⟩, ⟨⟨np, hnp, e2⟩, -, -, -, wk, -⟩, -⟩ := id hK
  have p10 : μ 8 10 = nI np := m1.trans e2
  unfold f_X8_as f_X9_as f_X8_as_26 f_X9_as_18
  rw [isOne_rg p10 hnp, isPerson_rg e2 hnp, hi_rg2 (n := 7) (by decide), in_rg (n := 7) (by decide)]
  simp only [ite10, bd2_id, show 1 + 7 = 8 from rfl]
  by_cases h1 : inb v1 np = true
  · by_cases h2 : inb v2 7 = true
    · simp only [h1, h2, not_true_eq_false, if_false, if_true]
      have h1' : inb v1 6 = true := inb_mono h1 hnp
      obtain ⟨p, hp, rfl⟩ := rg_of h1 (by omega)
      obtain ⟨a, ha, rfl⟩ := rg_of h2 (by omega)
      obtain ⟨q1, q2⟩ := mp p (by omega)
      obtain ⟨k, hk, ek⟩ := rg_of (wk p (by omega)) (by decide)
      have a0 := of_at (p := p) (w := 0) (ν := ν) (by omega)
      have a1 := of_at (p := p) (w := 1) (ν := ν) (by omega)
      rw [show nI 0 = 0 from rfl, Nat.add_zero] at a0
      rw [show nI 1 = 1 from rfl] at a1
      simp only [h1', ck_t, ix_nI (show p < 2 ^ 31 by omega), show 8 + 1 = 9 from rfl, show 8 + 2 = 10 from rfl, q1, q2, ek, isUnder_at k hk a ha, bd_s, a0, f_X9_as_61, f_X9_as_65, f_X9_as_66, f_X9_as_51, a1]
      have n0 : nI a = 0 ↔ a = 0 := nI_eq (by omega) (by decide)
      have n1 : nI a = 1 ↔ a = 1 := nI_eq (a := a) (b := 1) (by omega) (by decide)
      have n2 : nI a = 2 ↔ a = 2 := nI_eq (a := a) (b := 2) (by omega) (by decide)
      have n3 : nI a = nI k ↔ a = k := nI_eq (by omega) (by omega)
      have n4 : nI k = 4 ↔ k = 4 := nI_eq (a := k) (b := 4) (by omega) (by decide)
      have n5 : nI k = 5 ↔ k = 5 := nI_eq (a := k) (b := 5) (by omega) (by decide)
      simp only [n0, n1, n2, n3, n4, n5, ite10, bd2_id]
      by_cases hu : a = 0 ∨ a = k ∨ (a = 1 ∧ k = 4) ∨ (a = 2 ∧ k = 5)
      · refine ⟨ν 1 (15 + 2 * p + 1), μ, ν, ?_, ?_, hh⟩
        · simp [hu]
        · grind
      · have hr : ∃ (r : Int32) (μ1 ν1 : Mem), f_X8_fail 5 μ = some (r, μ1) ∧ f_X9_error (-1000000005) ν = some (r, ν1) ∧ Sim μ1 ν1 := err_both hh (k := 5) (by decide) (by decide) (by decide)
        obtain ⟨r, μ1, ν1, f1, f2, f3⟩ := hr
        refine ⟨r, μ1, ν1, ?_, ?_, f3⟩
        · simp [hu, f1]
        · have b1 : ¬ a = 0 := fun q => hu (Or.inl q)
          have b2 : ¬ a = k := fun q => hu (Or.inr (Or.inl q))
          have b3 : ¬ (a = 1 ∧ k = 4) := fun q => hu (Or.inr (Or.inr (Or.inl q)))
          have b4 : ¬ (a = 2 ∧ k = 5) := fun q => hu (Or.inr (Or.inr (Or.inr q)))
          simp only [show (0 : Int32) = 0 ↔ True by simp, if_true, f2]
          grind
    · simp only [h1, h2, not_true_eq_false, if_false, not_false_eq_true, if_true]
      exact err_both hh (k := 1) (by decide) (by decide) (by decide)
  · simp only [h1, not_false_eq_true, if_true]
    exact err_both hh (k := 1) (by decide) (by decide) (by decide)
