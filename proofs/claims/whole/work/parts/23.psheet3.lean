theorem sub_z {z b : Nat} (hz : z < 2 ^ 30) (hb : b < 2 ^ 31) : (nI z - nI b).toInt = (z : Int) - b := by
  rw [Int32.toInt_sub, nI_toInt (by omega), nI_toInt hb]
  exact Int.bmod_eq_of_le (by omega) (by omega)
theorem neg_or (v : Int32) : v < 0 ∨ ∃ b, b < 2 ^ 31 ∧ v = nI b := by
  by_cases h : v < 0
  · exact Or.inl h
  · refine Or.inr ⟨v.toInt.toNat, ?_, ?_⟩
    · have := Int32.toInt_lt v
      omega
    · rw [Int32.lt_iff_toInt_lt, show (0 : Int32).toInt = 0 by decide] at h
      have := Int32.toInt_lt v
      rw [eq_i, nI_toInt (by omega)]
      omega
theorem hasPart_at {o z a c : Nat} {μ : Mem} (hz : z ≤ 24) (h : μ o 2 = nI z) (ha : a < 2 ^ 31) (hc : c < 2 ^ 31) : f_X5_hasPart o (nI a) (nI c) μ = if a + c ≤ z then 1 else 0 := by
  unfold f_X5_hasPart
  have n0 : ∀ {x : Nat}, x < 2 ^ 31 → ¬ nI x < 0 := fun {x} hx q => by
    rw [Int32.lt_iff_toInt_lt, nI_toInt hx, show (0 : Int32).toInt = 0 by decide] at q
    omega
  rw [if_neg (n0 ha), if_neg (n0 hc), h]
  simp only [nI_ltI (show z < 2 ^ 31 by omega) hc]
  by_cases q : z < c
  · rw [if_pos q, if_neg (by omega)]
  · rw [if_neg q, pk_sub (by omega)]
    simp only [nI_ltI (show z - c < 2 ^ 31 by omega) ha]
    by_cases q2 : z - c < a
    · rw [if_pos q2, if_neg (by omega)]
    · rw [if_neg q2, if_pos (by omega)]
theorem hasPart_neg {o : Nat} {v w : Int32} {μ : Mem} (h : v < 0 ∨ w < 0) : f_X5_hasPart o v w μ = 0 := by
  unfold f_X5_hasPart
  by_cases q : v < 0
  · rw [if_pos q]
  · rw [if_neg q, if_pos (h.resolve_left q)]
theorem cp_at {μ : Mem} {a0 sp a dp n i k : Nat} : cpM μ a0 sp a dp n i k = if i = a ∧ dp ≤ k ∧ k < dp + n then μ a0 (sp + (k - dp)) else μ i k := by
  unfold cpM va_cpy
  by_cases q : i = a
  · subst q
    rw [if_pos rfl]
    by_cases q2 : dp ≤ k ∧ k < dp + n
    · rw [if_pos q2, if_pos ⟨rfl, q2⟩]
    · rw [if_neg q2, if_neg (fun e => q2 e.2)]
  · rw [if_neg q, if_neg (fun e => q e.1)]
theorem move_up {s t a b c : Nat} (hs : s < 4) (ht : t < 4) (ha : a + c ≤ 24) (hb : b + c ≤ 24) (hba : b ≤ a) : ∀ n m (ν : Mem), m ≤ c → 25 ≤ n + m → ∃ ν1, f_X9_move_28 n (nI s) (nI a) (nI t) (nI b) (nI c) (nI m) ν = some (nI c, ν1) ∧ ∀ i k, ν1 i k = if i = 7 ∧ 24 * t + b + m ≤ k ∧ k < 24 * t + b + c then ν 7 (24 * s + a + (k - (24 * t + b))) else ν i k := by
  intro n
  induction n with
  | zero => intro m ν h1 h2; omega
  | succ n ih =>
    intro m ν h1 h2
    unfold f_X9_move_28 f_X9_move_53
    simp only [nI_leI (show c < 2 ^ 31 by omega) (show m < 2 ^ 31 by omega), nI_leI (show b < 2 ^ 31 by omega) (show a < 2 ^ 31 by omega), hba, if_true, e24, nI_add]
    by_cases q : c ≤ m
    · rw [if_pos q]
      exact ⟨_, rfl, fun i k => by rw [if_neg (by omega)]⟩
    · rw [if_neg q, ck_c (inb_nI (by omega) (by decide)), ck_c (inb_nI (by omega) (by decide)), ix_nI (by omega), ix_nI (by omega), wr_n, nI_1]
      obtain ⟨ν1, e1, e2⟩ := ih (m + 1) (up ν 7 (24 * t + b + m) (ν 7 (24 * s + a + m))) (by omega) (by omega)
      refine ⟨ν1, e1, fun i k => ?_⟩
      rw [e2]
      by_cases p : i = 7 ∧ k = 24 * t + b + m
      · obtain ⟨rfl, rfl⟩ := p
        rw [if_neg (by omega), up_s, if_pos (by omega)]
        congr 1
        omega
      · rw [up_n p]
        by_cases p2 : i = 7 ∧ 24 * t + b + (m + 1) ≤ k ∧ k < 24 * t + b + c
        · rw [if_pos p2, if_pos (by omega), up_n (by omega)]
        · rw [if_neg p2, if_neg (by omega)]
theorem move_down {s t a b c : Nat} (hs : s < 4) (ht : t < 4) (ha : a + c ≤ 24) (hb : b + c ≤ 24) (hba : a < b) : ∀ n m (ν : Mem), m ≤ c → 25 ≤ n + m → ∃ ν1, f_X9_move_28 n (nI s) (nI a) (nI t) (nI b) (nI c) (nI m) ν = some (nI c, ν1) ∧ ∀ i k, ν1 i k = if i = 7 ∧ 24 * t + b ≤ k ∧ k < 24 * t + b + (c - m) then ν 7 (24 * s + a + (k - (24 * t + b))) else ν i k := by
  intro n
  induction n with
  | zero => intro m ν h1 h2; omega
  | succ n ih =>
    intro m ν h1 h2
    unfold f_X9_move_28 f_X9_move_53
    have hba' : ¬ b ≤ a := by omega
    simp only [nI_leI (show c < 2 ^ 31 by omega) (show m < 2 ^ 31 by omega), nI_leI (show b < 2 ^ 31 by omega) (show a < 2 ^ 31 by omega), hba', if_false, e24]
    by_cases q : c ≤ m
    · rw [if_pos q]
      exact ⟨_, rfl, fun i k => by rw [if_neg (by omega)]⟩
    · rw [if_neg q, show nI c - 1 = nI (c - 1) from pk_sub (a := c) (b := 1) (by omega), pk_sub (show m ≤ c - 1 by omega), nI_add, nI_add, ck_c (inb_nI (by omega) (by decide)), ck_c (inb_nI (by omega) (by decide)), ix_nI (by omega), ix_nI (by omega), wr_n, nI_1]
      obtain ⟨ν1, e1, e2⟩ := ih (m + 1) (up ν 7 (24 * t + b + (c - 1 - m)) (ν 7 (24 * s + a + (c - 1 - m)))) (by omega) (by omega)
      refine ⟨ν1, e1, fun i k => ?_⟩
      rw [e2]
      by_cases p : i = 7 ∧ k = 24 * t + b + (c - 1 - m)
      · obtain ⟨rfl, rfl⟩ := p
        rw [if_neg (by omega), up_s, if_pos (by omega)]
        congr 1
        omega
      · rw [up_n p]
        by_cases p2 : i = 7 ∧ 24 * t + b ≤ k ∧ k < 24 * t + b + (c - (m + 1))
        · rw [if_pos p2, if_pos (by omega), up_n (by omega)]
        · rw [if_neg p2, if_neg (by omega)]
theorem move_fin {μ ν : Mem} {s t a b c : Nat} (hs : s < 4) (ht : t < 4) (ha : a + c ≤ 24) (hb : b + c ≤ 24) (h : Sim μ ν) : ∃ ν1, f_X9_move_28 2000 (nI s) (nI a) (nI t) (nI b) (nI c) (nI 0) ν = some (nI c, ν1) ∧ Sim (cpM μ (58 + 2 * s + 1) a (58 + 2 * t + 1) b c) ν1 := by
  have hh := h
  obtain ⟨-, -, -, hS, -⟩ := h
  have key : ∃ ν1, f_X9_move_28 2000 (nI s) (nI a) (nI t) (nI b) (nI c) (nI 0) ν = some (nI c, ν1) ∧ ∀ i k, ν1 i k = if i = 7 ∧ 24 * t + b ≤ k ∧ k < 24 * t + b + c then ν 7 (24 * s + a + (k - (24 * t + b))) else ν i k := by
    by_cases q : b ≤ a
    · obtain ⟨ν1, e1, e2⟩ := move_up hs ht ha hb q 2000 0 ν (by omega) (by omega)
      exact ⟨ν1, e1, fun i k => by rw [e2]; rfl⟩
    · obtain ⟨ν1, e1, e2⟩ := move_down hs ht ha hb (by omega) 2000 0 ν (by omega) (by omega)
      exact ⟨ν1, e1, fun i k => by rw [e2]; rfl⟩
  obtain ⟨ν1, e1, e2⟩ := key
  refine ⟨ν1, e1, Sim_sh hh (fun r hr => ?_) (fun x hx => ?_) (fun x hx => ?_)⟩
  · obtain ⟨r1, r2, ⟨z, hz, r3, r4⟩, r5⟩ := hS r hr
    refine ⟨?_, ?_, ⟨z, hz, ?_, ?_⟩, fun k hk => ?_⟩
    · rw [cp_at, e2, if_neg (by omega), if_neg (fun q => absurd q.1 (by decide))]
      exact r1
    · rw [e2, if_neg (fun q => absurd q.1 (by decide))]
      exact r2
    · rw [cp_at, if_neg (by omega)]
      exact r3
    · rw [e2, if_neg (fun q => absurd q.1 (by decide))]
      exact r4
    · rw [cp_at, e2]
      by_cases p : r = t ∧ b ≤ k ∧ k < b + c
      · obtain ⟨rfl, p1, p2⟩ := p
        rw [if_pos ⟨rfl, p1, p2⟩, if_pos ⟨rfl, by omega, by omega⟩]
        obtain ⟨-, -, -, s5⟩ := hS s hs
        rw [s5 _ (by omega)]
        congr 1
        omega
      · rw [if_neg (by omega), if_neg (by omega)]
        exact r5 k hk
  · simp only [List.mem_cons, List.not_mem_nil, or_false] at hx
    funext c'
    rw [cp_at, if_neg (by omega)]
  · simp only [List.mem_cons, List.not_mem_nil, or_false] at hx
    funext c'
    rw [e2, if_neg (by omega)]
theorem ln_sheet {s : Nat} (hs : s < 4) : ln true (58 + 2 * s + 1) = 24 := by
  rcases (show s = 0 ∨ s = 1 ∨ s = 2 ∨ s = 3 by omega) with rfl | rfl | rfl | rfl <;> decide
theorem sim_move : Sim_move Sim := by
  intro v1 v2 v3 v4 v5 μ ν h
  have hh := h
  obtain ⟨-, -, -, hS, -⟩ := h
  unfold f_X8_move f_X9_move f_X9_notMoved f_X8_move_14 f_X8_move_52 f_X8_move_100 f_X9_notMoved_101 f_X9_notMoved_102
  rw [isSheet8_rg, isSheet9_rg, isSheet8_rg, isSheet9_rg]
  simp only [ite10, bd2_id]
  by_cases h1 : inb v1 4 = true
  · by_cases h3 : inb v3 4 = true
    · obtain ⟨s, hs, rfl⟩ := rg_of h1 (by decide)
      obtain ⟨t, ht, rfl⟩ := rg_of h3 (by decide)
      obtain ⟨s1, s2, ⟨z, hz, s3, s4⟩, s5⟩ := hS s hs
      obtain ⟨t1, t2, ⟨y, hy, t3, t4⟩, t5⟩ := hS t ht
      simp only [h1, h3, not_true_eq_false, if_false, ck_n, ix_nI (show s < 2 ^ 31 by omega), ix_nI (show t < 2 ^ 31 by omega), missing_at, ite10, s1, t1, s4, t4]
      by_cases c1 : ν 5 s = 0
      · simp only [c1, not_true_eq_false, if_false, if_true, bd_n, show ¬ (-1000000002 : Int32) = 0 by decide]
        exact err2 hh
      · by_cases c2 : ν 5 t = 0
        · simp only [c1, c2, not_true_eq_false, not_false_eq_true, if_false, if_true, bd_n, show ¬ (-1000000002 : Int32) = 0 by decide]
          exact err2 hh
        · by_cases c3 : ν 5 s = ν 5 t
          · have c1' : ¬ ν 5 t = 0 := c2
            simp only [c3, c1', not_false_eq_true, if_true]
            have bad : (f_X5_hasPart (58 + 2 * s) v2 v5 μ = 0 ∨ f_X5_hasPart (58 + 2 * t) v4 v5 μ = 0) → ∃ (r : Int32) (μ1 ν1 : Mem), (if f_X5_hasPart (58 + 2 * s) v2 v5 μ = 0 then f_X8_fail 1 μ else if f_X5_hasPart (58 + 2 * t) v4 v5 μ = 0 then f_X8_fail 1 μ else ck (inC v2 v4 v5 (ln true (58 + 2 * s + 1)) (ln true (58 + 2 * t + 1))) (cpy μ (58 + 2 * s + 1) (ix v2) (58 + 2 * t + 1) (ix v4) (ix v5) fun μ11 => some (v5, μ11))) = some (r, μ1) ∧ f_X9_error (-1000000001) ν = some (r, ν1) ∧ Sim μ1 ν1 := by
              intro q
              by_cases q1 : f_X5_hasPart (58 + 2 * s) v2 v5 μ = 0
              · rw [if_pos q1]
                exact err1 hh
              · rw [if_neg q1, if_pos (q.resolve_left q1)]
                exact err1 hh
            have nn : ¬ (-1000000001 : Int32) = 0 := by decide
            have t0 : (0 : Int32) = 0 := rfl
            have t10 : ¬ (1 : Int32) = 0 := by decide
            rcases neg_or v5 with n5 | ⟨c, hc, rfl⟩
            · simp only [n5, if_true, bd_n, nn, if_false]
              exact bad (Or.inl (hasPart_neg (Or.inr n5)))
            · have p5 : ¬ nI c < 0 := fun q => by
                rw [Int32.lt_iff_toInt_lt, nI_toInt hc, show (0 : Int32).toInt = 0 by decide] at q
                omega
              rcases neg_or v2 with n2 | ⟨a, ha, rfl⟩
              · simp only [p5, n2, if_true, bd_n, nn, if_false]
                exact bad (Or.inl (hasPart_neg (Or.inl n2)))
              · have p2 : ¬ nI a < 0 := fun q => by
                  rw [Int32.lt_iff_toInt_lt, nI_toInt ha, show (0 : Int32).toInt = 0 by decide] at q
                  omega
                rcases neg_or v4 with n4 | ⟨b, hb, rfl⟩
                · simp only [p5, p2, n4, if_true, bd_n, nn, if_false]
                  exact bad (Or.inr (hasPart_neg (Or.inl n4)))
                · have p4 : ¬ nI b < 0 := fun q => by
                    rw [Int32.lt_iff_toInt_lt, nI_toInt hb, show (0 : Int32).toInt = 0 by decide] at q
                    omega
                  have w1 : (nI z - nI a < nI c) ↔ ¬ a + c ≤ z := by
                    rw [Int32.lt_iff_toInt_lt, sub_z (by omega) ha, nI_toInt hc]; omega
                  have w3 : (nI y - nI b < nI c) ↔ ¬ b + c ≤ y := by
                    rw [Int32.lt_iff_toInt_lt, sub_z (by omega) hb, nI_toInt hc]; omega
                  have i1 := hasPart_at hz s3 ha hc
                  have i3 := hasPart_at hy t3 hb hc
                  by_cases q1 : a + c ≤ z
                  · by_cases q3 : b + c ≤ y
                    · rw [if_pos q1] at i1
                      rw [if_pos q3] at i3
                      have hin : inC (nI a) (nI b) (nI c) (ln true (58 + 2 * s + 1)) (ln true (58 + 2 * t + 1)) = true := by
                        rw [ln_sheet hs, ln_sheet ht]
                        simp only [inC, nI_toInt ha, nI_toInt hb, nI_toInt hc, Bool.and_eq_true, decide_eq_true_eq]
                        omega
                      simp only [p5, p2, p4, w1, w3, q1, q3, i1, i3, hin, t10, ck_n, not_true_eq_false, if_false, if_true, bd_n, cpy_n, ix_nI ha, ix_nI hb, ix_nI hc]
                      obtain ⟨ν1, e1, e2⟩ := move_fin (c := c) hs ht (show a + c ≤ 24 by omega) (show b + c ≤ 24 by omega) hh
                      rw [show (0 : Int32) = nI 0 from rfl, e1]
                      exact ⟨_, _, _, rfl, rfl, e2⟩
                    · rw [if_neg q3] at i3
                      simp only [p5, p2, p4, w1, w3, q1, q3, not_true_eq_false, not_false_eq_true, if_false, if_true, bd_n, nn]
                      exact bad (Or.inr i3)
                  · rw [if_neg q1] at i1
                    simp only [p5, p2, p4, w1, q1, not_false_eq_true, if_false, if_true, bd_n, nn]
                    exact bad (Or.inl i1)
          · simp only [c1, c2, c3, not_false_eq_true, if_false, if_true, bd_n, show ¬ (-1000000005 : Int32) = 0 by decide]
            exact err5 hh
    · simp only [h1, h3, not_true_eq_false, not_false_eq_true, if_true, if_false, Bool.false_eq_true, bd_n, show ¬ (-1000000001 : Int32) = 0 by decide]
      exact err1 hh
  · simp only [h1, not_false_eq_true, if_true, if_false, Bool.false_eq_true, bd_n, show ¬ (-1000000001 : Int32) = 0 by decide]
    exact err1 hh
