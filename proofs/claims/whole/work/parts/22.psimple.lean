theorem bd2_id {o : Option (Int32 × Mem)} : bd2 o (fun r m => some (r, m)) = o := by
  cases o <;> rfl
/-- a change of what is now, on both sides -/
theorem Sim_one {μ ν μ1 ν1 : Mem} (h : Sim μ ν) (hK : KR 1 μ1 (ν1 1)) (hC : sameC [8, 9, 10, 11, 12, 13, 14, 15, 16] μ μ1) (hR : sameC [1] ν ν1) : Sim μ1 ν1 :=
  Sim_now h hK (sameC_mono hC (by decide)) (sameC_mono hR (by decide)) (by rw [hR 0 (by decide)]) (by rw [hR 0 (by decide)]) (by rw [hC 2 (by decide)]) (by rw [hC 5 (by decide)])
theorem e15 (p : Nat) : 15 + (2 * nI p) = nI (15 + 2 * p) := by
  rw [show (2 : Int32) = nI 2 from rfl, pk_mul, show (15 : Int32) = nI 15 from rfl, nI_add]
theorem jrem_nI {a d : Nat} (ha : a < 2 ^ 31) (h0 : 0 < d) (hd : d < 2 ^ 31) : jrem (nI a) (nI d) = nI (a % d) := pk_rem ha h0 hd
theorem km_div {v : Int32} (h : rg v 70) : rg (v / 10) 7 := by
  obtain ⟨j, hj, rfl⟩ := rg_of h (by decide)
  rw [show (10 : Int32) = nI 10 from rfl, pk_div (by omega) (by decide) (by decide)]
  exact rg_nI (by omega) (by decide)
theorem sim_person : Sim_person Sim := by
  intro v μ ν h
  have hh := h
  obtain ⟨hK, -, -, -, -, -⟩ := h
  obtain ⟨⟨⟨m1, m2, m3, m4, m5⟩, mp, mg, mb, mf⟩, ⟨⟨np, hnp, e2⟩, -⟩, -⟩ := id hK
  have p10 : μ 8 10 = nI np := m1.trans e2
  unfold f_X8_person f_X9_person
  simp only [isKN_rg, isKm_rg, ite10, bd2_id, show 1 + 7 = 8 from rfl, p10, show ix 2 = 2 from rfl, e2]
  by_cases hv : inb v 70 = true
  · simp only [hv, not_true_eq_false, if_false]
    by_cases h6 : np < 6
    · have c1 : nI np < 6 := nI_lt h6 (by decide)
      have c2 : ¬ nI np = 6 := fun q => by
        have := (nI_eq (a := np) (b := 6) (by omega) (by decide)).mp q
        omega
      rw [if_pos c1, if_neg c2, e15, nI_1]
      unfold f_X2_addOne
      simp only [p10, c1, if_true, wr_e, inb_nI (show np < 6 from h6) (by decide), ck_t, ix_nI (show np < 2 ^ 31 by omega), inb_nI (show 15 + 2 * np < 395 by omega) (by decide), inb_nI (show 15 + 2 * np + 1 < 395 by omega) (by decide), ix_nI (show 15 + 2 * np < 2 ^ 31 by omega), ix_nI (show 15 + 2 * np + 1 < 2 ^ 31 by omega), show 8 + 1 = 9 from rfl, show 8 + 2 = 10 from rfl, up_ne, up_s, ne_eq, Nat.reduceEqDiff, not_false_eq_true, nI_1, nI_pred]
      refine ⟨_, _, _, rfl, rfl, Sim_one hh ?_ (by intro i hi; simp only [List.mem_cons, List.not_mem_nil, or_false] at hi; rw [up_cell (by omega), up_cell (by omega), up_cell (by omega)]) (sameC_up (sameC_up (sameC_up (sameC_rf _ _) (by decide)) (by decide)) (by decide))⟩
      have k1 := KR_kind (p := np) h6 (km_div hv) hK
      have k2 := KR_number (p := np) (v := jrem v 10) h6 k1
      have k3 := KR_people (n := np + 1) (v := nI (np + 1)) (by omega) rfl k2
      simp only [up_row]
      have e : upr (upr (upr (ν 1) 2 (nI (np + 1))) (15 + 2 * np) (v / 10)) (15 + 2 * np + 1) (jrem v 10) = upr (upr (upr (ν 1) (15 + 2 * np) (v / 10)) (15 + 2 * np + 1) (jrem v 10)) 2 (nI (np + 1)) := by
        funext i
        simp only [upr]
        grind
      rw [e]
      exact k3
    · have c1 : ¬ nI np < 6 := nI_nlt (b := 6) (by omega) (by omega)
      have c2 : nI np = 6 := by rw [show np = 6 by omega]; rfl
      rw [if_neg c1, if_pos c2]
      exact err_both hh (k := 4) (by decide) (by decide) (by decide)
  · simp only [hv, not_false_eq_true, if_true]
    exact err_both hh (k := 1) (by decide) (by decide) (by decide)
