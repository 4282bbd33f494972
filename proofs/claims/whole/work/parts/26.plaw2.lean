theorem le60 {j : Nat} (hj : j < 2 ^ 31) : (60 : Int32) ≤ nI j ↔ 60 ≤ j := nI_leI (by decide) hj
theorem ec1 {c k : Nat} : nI c + 1 + nI k = nI (c + 1 + k) := by rw [nI_1, nI_add]
theorem ec61 {c k : Nat} : nI c + 61 + nI k = nI (c + 61 + k) := by rw [show (61 : Int32) = nI 61 from rfl, nI_add, nI_add]
theorem em1 {d : Nat} (h : 1 ≤ d) : nI d + (-1) = nI (d - 1) := by
  have : nI d + (-1) = nI d - 1 := by rw [Int32.sub_eq_add_neg]
  rw [this]
  exact pk_sub (a := d) (b := 1) h
theorem es1 {d : Nat} (h : 1 ≤ d) : nI d - 1 = nI (d - 1) := pk_sub (a := d) (b := 1) h
theorem opL_not {c : Int32} (h : c ∈ opL) : -c < -3 ∧ ¬ -c = -33 ∧ ¬ c = 1 ∧ ¬ c = 2 ∧ ¬ c = 3 ∧ - -c = c := by
  simp only [opL, List.mem_cons, List.not_mem_nil, or_false] at h
  rcases h with rfl | rfl | rfl | rfl | rfl | rfl | rfl | rfl | rfl | rfl <;> decide
theorem law_loop2 {o c n : Nat} {μ ν : Mem} {v1 v2 v3 : Int32} (hc : c ≤ 274) (hn : n ≤ 60) (e1 : μ o 4 = nI n) (e2 : ν 1 c = nI n) (hw : ∀ k, k < n → WR (μ (o + 1) k) (ν 1 (c + 1 + k)) (ν 1 (c + 61 + k))) (hd : ∃ d, 1 ≤ d ∧ dep (fun k => ν 1 (c + 1 + k)) n = some d) : ∀ f k d (μ' ν' : Mem), k ≤ n → 61 ≤ f + k → dep (fun k => ν 1 (c + 1 + k)) k = some d → sameC [o + 2] μ μ' → sameC [11] ν ν' → (∀ i, i < d → μ' (o + 2) i = ν' 11 i) → ν' 10 0 = v1 → ν' 10 1 = v2 → ν' 10 2 = v3 →
    ∃ (r : Int32) (μ1 ν1 : Mem), f_X1_workedOut_6 o f v1 v2 v3 (nI d) (nI k) μ' = some (r, μ1) ∧ f_X9_works_4 f (nI c) (nI d) (nI k) ν' = some (r, ν1) ∧ sameC [o + 2] μ μ1 ∧ sameC [11] ν ν1 := by
  intro f
  induction f with
  | zero => intro k d μ' ν' h1 h2; omega
  | succ f ih =>
    intro k d μ' ν' hk hf hdk hC hR hP x0 x1 x2
    obtain ⟨D, hD1, hD2⟩ := hd
    have hdle := dep_le k d hdk
    have m1 : μ' o = μ o := hC o (by simp)
    have m2 : μ' (o + 1) = μ (o + 1) := hC (o + 1) (by simp)
    have n1 : ν' 1 = ν 1 := hR 1 (by decide)
    unfold f_X1_workedOut_6 f_X9_works_4
    rw [m1, m2, n1, e1, ck_c (inb_nI (show c < 395 by omega) (by decide)), ix_nI (show c < 2 ^ 31 by omega), e2, ec1]
    by_cases q : n ≤ k
    · have : k = n := by omega
      subst this
      have q' : nI k ≤ nI k := (nI_leI (by omega) (by omega)).mpr (Nat.le_refl _)
      have : d = D := by rw [hdk] at hD2; injection hD2
      subst this
      rw [if_pos q', if_pos q']
      unfold f_X1_workedOut_159 f_X9_works_155
      rw [show ix 0 = 0 from rfl, hP 0 (by omega)]
      exact ⟨_, _, _, rfl, rfl, hC, hR⟩
    · have q' : ¬ nI n ≤ nI k := fun e => q ((nI_leI (by omega) (by omega)).mp e)
      have q60 : ¬ (60 : Int32) ≤ nI k := fun e => by have := (le60 (by omega)).mp e; omega
      obtain ⟨d', hd'⟩ := dep_at hD2 (show k + 1 ≤ n by omega)
      rw [if_neg q', if_neg q', if_neg q60, ck_c (inb_nI (show k < 60 by omega) (by decide)), ix_nI (show k < 2 ^ 31 by omega), ck_c (inb_nI (show c + 1 + k < 395 by omega) (by decide)), ix_nI (show c + 1 + k < 2 ^ 31 by omega)]
      have w := hw k (by omega)
      have q60d : ¬ (60 : Int32) ≤ nI d := fun e => by have := (le60 (by omega)).mp e; omega
      have push : ∀ (x : Int32), d' = d + 1 → ∃ (r : Int32) (μ1 ν1 : Mem), f_X1_workedOut_6 o f v1 v2 v3 (nI d + 1) (nI k + 1) (up μ' (o + 2) d x) = some (r, μ1) ∧ f_X9_works_4 f (nI c) (nI d + 1) (nI k + 1) (up ν' 11 d x) = some (r, ν1) ∧ sameC [o + 2] μ μ1 ∧ sameC [11] ν ν1 := fun x hx => by
        rw [nI_1, nI_1]
        subst hx
        refine ih (k + 1) (d + 1) _ _ (by omega) (by omega) hd' (sameC_up hC (by simp)) (sameC_up hR (by simp)) (fun i hi => ?_) (by rw [up_ne (by decide)]; exact x0) (by rw [up_ne (by decide)]; exact x1) (by rw [up_ne (by decide)]; exact x2)
        by_cases e : i = d
        · subst e; rw [up_s, up_s]
        · rw [up_n (by omega), up_n (by omega)]
          exact hP i (by omega)
      have setAt : ∀ (x : Int32) (j : Nat), j < d → d' = j + 1 → ∃ (r : Int32) (μ1 ν1 : Mem), f_X1_workedOut_6 o f v1 v2 v3 (nI d') (nI (k + 1)) (up μ' (o + 2) j x) = some (r, μ1) ∧ f_X9_works_4 f (nI c) (nI d') (nI (k + 1)) (up ν' 11 j x) = some (r, ν1) ∧ sameC [o + 2] μ μ1 ∧ sameC [11] ν ν1 := fun x j hj hx => by
        refine ih (k + 1) d' _ _ (by omega) (by omega) hd' (sameC_up hC (by simp)) (sameC_up hR (by simp)) (fun i hi => ?_) (by rw [up_ne (by decide)]; exact x0) (by rw [up_ne (by decide)]; exact x1) (by rw [up_ne (by decide)]; exact x2)
        by_cases e : i = j
        · subst e; rw [up_s, up_s]
        · rw [up_n (by omega), up_n (by omega)]
          exact hP i (by omega)
      generalize hww : μ (o + 1) k = W at w ⊢
      generalize haa : ν 1 (c + 1 + k) = A at w ⊢
      have w' : (0 ≤ W.toInt ∧ A = 1 ∧ ν 1 (c + 61 + k) = W) ∨ ((W = -1 ∧ A = 2 ∧ ν 1 (c + 61 + k) = 0) ∨ (W = -2 ∧ A = 2 ∧ ν 1 (c + 61 + k) = 1) ∨ (W = -3 ∧ A = 2 ∧ ν 1 (c + 61 + k) = 2)) ∨ (W = -33 ∧ A = 3) ∨ (∃ c, c ∈ opL ∧ W = -c ∧ A = c) := by
        unfold WR at w
        rcases w with h | h | h | h | h | h
        · exact Or.inl h
        · exact Or.inr (Or.inl (Or.inl h))
        · exact Or.inr (Or.inl (Or.inr (Or.inl h)))
        · exact Or.inr (Or.inl (Or.inr (Or.inr h)))
        · exact Or.inr (Or.inr (Or.inl h))
        · exact Or.inr (Or.inr (Or.inr h))
      rcases w' with ⟨w1, w2, w3⟩ | w | ⟨w1, w2⟩ | ⟨C, c1, c2, c3⟩
      · -- a number
        have d1 : d' = d + 1 := by
          have := dep_1 hdk (Or.inl (haa.trans w2)); rw [hd'] at this; injection this
        have g : ¬ W < -3 := fun e => by
          rw [Int32.lt_iff_toInt_lt, show (-3 : Int32).toInt = -3 by decide] at e; omega
        have g3 : ¬ W = -3 := fun e => by rw [e] at w1; exact absurd w1 (by decide)
        have g2 : ¬ W = -2 := fun e => by rw [e] at w1; exact absurd w1 (by decide)
        have g1 : ¬ W = -1 := fun e => by rw [e] at w1; exact absurd w1 (by decide)
        unfold f_X9_works_38 f_X9_works_79 f_X1_meant
        rw [if_neg g, if_neg q60d, ck_c (inb_nI (show d < 60 by omega) (by decide)), wr_n, ix_nI (show d < 2 ^ 31 by omega), if_neg g3, if_neg g2, if_neg g1, if_pos w2, if_pos w2, ec61, ck_c (inb_nI (show c + 61 + k < 395 by omega) (by decide)), ix_nI (show c + 61 + k < 2 ^ 31 by omega), ck_c (inb_nI (show d < 60 by omega) (by decide)), wr_n, n1, w3]
        exact push W d1
      · -- a name
        have ha : A = 2 := by rcases w with w | w | w <;> exact w.2.1
        have d1 : d' = d + 1 := by
          have := dep_1 hdk (Or.inr (haa.trans ha)); rw [hd'] at this; injection this
        have g : ¬ W < -3 := by rcases w with w | w | w <;> rw [w.1] <;> decide
        have hv : ∃ y, ν' 10 (ix (ν 1 (c + 61 + k))) = y ∧ f_X1_meant W v1 v2 v3 = y ∧ inb (ν 1 (c + 61 + k)) 3 = true := by
          rcases w with w | w | w <;> rw [w.1, w.2.2]
          · exact ⟨v1, x0, by unfold f_X1_meant; rw [if_neg (by decide), if_neg (by decide), if_pos rfl], by decide⟩
          · exact ⟨v2, x1, by unfold f_X1_meant; rw [if_neg (by decide), if_pos rfl], by decide⟩
          · exact ⟨v3, x2, by unfold f_X1_meant; rw [if_pos rfl], by decide⟩
        obtain ⟨y, y1, y2, y3⟩ := hv
        unfold f_X9_works_38 f_X9_works_79
        rw [if_neg g, if_neg q60d, ck_c (inb_nI (show d < 60 by omega) (by decide)), wr_n, ix_nI (show d < 2 ^ 31 by omega), y2, if_neg (show ¬ A = 1 by rw [ha]; decide), if_pos ha, if_neg (show ¬ A = 1 by rw [ha]; decide), ec61, ck_c (inb_nI (show c + 61 + k < 395 by omega) (by decide)), ix_nI (show c + 61 + k < 2 ^ 31 by omega), n1, y3, ck_n, ck_c (inb_nI (show d < 60 by omega) (by decide)), wr_n, y1]
        exact push y d1
      · -- not
        obtain ⟨p1, p2⟩ := dep_3 hdk (haa.trans w2) hd'
        unfold f_X1_workedOut_72 f_X1_workedOut_109 f_X9_works_115
        have l0 : ¬ nI d ≤ 0 := fun e => by have := (nI_leI (a := d) (b := 0) (by omega) (by decide)).mp e; omega
        rw [w1, if_pos (show (-33 : Int32) < -3 by decide), if_pos rfl, if_neg l0, es1 p1, ck_c (inb_nI (show d - 1 < 60 by omega) (by decide)), ix_nI (show d - 1 < 2 ^ 31 by omega), if_neg (show ¬ A = 1 by rw [w2]; decide), if_neg (show ¬ A = 2 by rw [w2]; decide), if_pos w2, ck_c (inb_nI (show d - 1 < 60 by omega) (by decide)), hP (d - 1) (by omega), nI_1]
        have hs := fun x => setAt x (d - 1) (by omega) (by omega)
        rw [p2] at hs
        by_cases e : ν' 11 (d - 1) = 0
        · rw [if_pos e, if_pos e]
          simp only [inb_nI (show d - 1 < 60 by omega) (show 60 < 2 ^ 31 by decide), ck_n, wr_n]
          exact hs 1
        · rw [if_neg e, if_neg e]
          simp only [inb_nI (show d - 1 < 60 by omega) (show 60 < 2 ^ 31 by decide), ck_n, wr_n]
          exact hs 0
      · -- two joined
        obtain ⟨o1, o2, o3, o4, o5, o6⟩ := opL_not c1
        have hA : A = C := c3
        obtain ⟨p1, p2⟩ := dep_o hdk (by rw [haa, hA]; exact fun e => e.elim o3 o4) (by rw [haa, hA]; exact o5) hd'
        unfold f_X1_workedOut_72 f_X1_workedOut_113
        have l1 : ¬ nI d ≤ 1 := fun e => by have := (nI_leI (a := d) (b := 1) (by omega) (by decide)).mp e; omega
        obtain ⟨r, r1, r2⟩ := joined_eq (x := ν' 11 (d - 1 - 1)) (y := ν' 11 (d - 1)) c1
        rw [c2, if_pos o1, if_neg o2, if_neg l1, em1 (show 1 ≤ d by omega), es1 (show 1 ≤ d - 1 by omega), ck_c (inb_nI (show d - 1 - 1 < 60 by omega) (by decide)), ck_c (inb_nI (show d - 1 < 60 by omega) (by decide)), o6, ix_nI (show d - 1 - 1 < 2 ^ 31 by omega), ix_nI (show d - 1 < 2 ^ 31 by omega), hP (d - 1) (by omega), hP (d - 1 - 1) (by omega), r1, bd_n, if_neg (show ¬ A = 1 by rw [hA]; exact o3), if_neg (show ¬ A = 2 by rw [hA]; exact o4), if_neg (show ¬ A = 3 by rw [hA]; exact o5), hA, ck_c (inb_nI (show d - 1 - 1 < 60 by omega) (by decide)), ck_c (inb_nI (show d - 1 < 60 by omega) (by decide)), r2, bd_n, ck_c (inb_nI (show d - 1 - 1 < 60 by omega) (by decide)), wr_n, wr_n, nI_1]
        have hs := setAt r (d - 1 - 1) (by omega) (by omega)
        rw [p2] at hs
        simp only [inb_nI (show d - 1 - 1 < 60 by omega) (show 60 < 2 ^ 31 by decide), ck_n]
        exact hs
