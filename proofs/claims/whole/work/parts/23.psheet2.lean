/-! the same rules, not held by definition: the kernel must not unfold a loop with its fuel -/
theorem wr_n {β : Type} {μ : Mem} {i j : Nat} {x : Int32} {f : Mem → β} : wr μ i j x f = f (up μ i j x) := id wr_e
theorem ck_n {α : Type} {o : Option α} : ck true o = o := id ck_t
theorem bd_n {α β : Type} {a : α} {f : α → Option β} : bd (some a) f = f a := id bd_s
theorem bd2_n {α γ β : Type} {a : α} {c : γ} {f : α → γ → Option β} : bd2 (some (a, c)) f = f a c := id bd2_s
theorem cpy_n {β : Type} {μ : Mem} {a0 sp a dp n : Nat} {f : Mem → β} : cpy μ a0 sp a dp n f = f (cpM μ a0 sp a dp n) := id cpy_e
theorem isHolder9_rg2 {k : Nat} {v : Int32} {ν : Mem} (e2 : ν 1 2 = nI k) (hk : k ≤ 6) : f_X9_in v (-1) (ν 1 (ix 2) - 1) = if v = -1 ∨ inb v k = true then 1 else 0 := isHolder9_rg e2 hk
theorem holds_loop {s z : Nat} (hs : s < 4) (hz : z ≤ 24) : ∀ n j (μ ν : Mem), Sim μ ν → ν 6 s = nI z → j ≤ z → (∀ g, ν 1 3 = nI g → g ≤ 9 → j ≤ g) → 10 ≤ n + j → ∃ (r : Int32) (μ1 ν1 : Mem), f_X5_giveHolders_2 (58 + 2 * s) 8 n (nI j) μ = some (r, μ1) ∧ f_X9_holds_18 n (nI s) (nI j) ν = some (r, ν1) ∧ Sim μ1 ν1 := by
  intro n
  induction n with
  | zero =>
    intro j μ ν h g6 h1 h2 h3
    obtain ⟨⟨-, ⟨-, ⟨ng, hng, e3⟩, -⟩, -⟩, -⟩ := h
    have := h2 ng e3 hng
    omega
  | succ n ih =>
    intro j μ ν h g6 h1 hg h4
    have hh := h
    obtain ⟨hK, -, -, hS, -⟩ := h
    obtain ⟨⟨⟨m1, m2, m3, m4, m5⟩, mp, mg, mb, mf⟩, ⟨⟨np, hnp, e2⟩, ⟨ng, hng, e3⟩, -⟩, -⟩ := id hK
    have p10 : μ 8 10 = nI np := m1.trans e2
    have p11 : μ 8 11 = nI ng := m2.trans e3
    have hjg := hg ng e3 hng
    obtain ⟨s1, s2, ⟨z', hz', s3, s4⟩, s5⟩ := hS s hs
    rw [g6] at s4
    rw [← s4] at s3
    simp only [f_X5_giveHolders_2, f_X9_holds_18, f_X5_giveHolders_60, s3, isGate_rg p11 hng, isHolder_rg p10 hnp, isHolder9_rg2 e2 hnp, ite10, inb_nI hs (by decide), ck_t, ix_nI (show s < 2 ^ 31 by omega), ix_nI (show j < 2 ^ 31 by omega), g6, ix_lit3, e3, e24, nI_leI (show z < 2 ^ 31 by omega) (show j < 2 ^ 31 by omega), le24 (show j < 2 ^ 31 by omega), nI_leI (show ng < 2 ^ 31 by omega) (show j < 2 ^ 31 by omega)]
    by_cases c : z ≤ j
    · have : j = z := by omega
      subst this
      rw [if_pos c, if_pos c]
      exact ⟨_, _, _, rfl, rfl, hh⟩
    · rw [if_neg c, if_neg c, if_neg (show ¬ 24 ≤ j by omega)]
      by_cases c7 : ng ≤ j
      · have q : ¬ inb (nI j) ng = true := fun q => by have := (rg_nI_iff (by omega)).mp q; omega
        rw [if_pos q, if_pos c7]
        exact ⟨_, _, _, rfl, rfl, hh⟩
      · have q : inb (nI j) ng = true := inb_nI (by omega) (by omega)
        rw [if_neg (not_not_intro q), if_neg c7]
        rw [inb_nI (show j < 24 by omega) (by decide), inb_nI (show 24 * s + j < 96 by omega) (by decide), ix_nI (show 24 * s + j < 2 ^ 31 by omega)]
        simp only [ck_t]
        rw [s5 j (by omega)]
        by_cases e : ν 7 (24 * s + j) = -1 ∨ inb (ν 7 (24 * s + j)) np = true
        · have l3 := lets_at (g := j) (w := 3) (v := ν 7 (24 * s + j)) (ν := ν) (by omega)
          rw [show nI 3 = 3 from rfl] at l3
          rw [if_neg (not_not_intro e), if_neg (not_not_intro e), inb_nI (show j < 9 by omega) (by decide), ck_t, wr_e, l3, bd_s, nI_1]
          have hS' : Sim (up μ 14 j (ν 7 (24 * s + j))) (up ν 1 (27 + 4 * j + 3) (ν 7 (24 * s + j))) := by
            refine Sim_one hh ?_ (sameC_up (sameC_rf _ _) (by decide)) (sameC_up (sameC_rf _ _) (by decide))
            rw [up_row]
            exact KR_holder (g := j) (by omega) (holder_ge e) hK
          exact ih (j + 1) _ _ hS' (by rw [up_ne (by decide)]; exact g6) (by omega) (fun g e3' hg9 => by
            rw [up_n (by omega), e3, nI_eq (by omega) (by omega)] at e3'
            omega) (by omega)
        · rw [if_pos e, if_pos e]
          exact ⟨_, _, _, rfl, rfl, hh⟩
theorem sim_holds : Sim_holds Sim := by
  intro v1 μ ν h
  have hh := h
  obtain ⟨⟨⟨-, -, -, -, mf⟩, -⟩, -, -, hS, -⟩ := h
  unfold f_X8_holds f_X9_holds f_X9_notThere
  rw [isSheet8_rg, isSheet9_rg]
  simp only [ite10, bd2_id, show 1 + 7 = 8 from rfl]
  by_cases h1 : inb v1 4 = true
  · obtain ⟨s, hs, rfl⟩ := rg_of h1 (by decide)
    obtain ⟨s1, s2, ⟨z, hz, s3, s4⟩, s5⟩ := hS s hs
    simp only [h1, not_true_eq_false, if_false, ck_t, ix_nI (show s < 2 ^ 31 by omega), missing_at, ite10]
    by_cases h2 : ν 5 s = 0
    · rw [s1]
      simp only [h2, not_true_eq_false, if_false, if_true, bd_s, show ¬ (-1000000002 : Int32) = 0 by decide]
      exact err2 hh
    · rw [s1]
      simp only [h2, not_false_eq_true, if_true, if_false, bd_s]
      unfold f_X5_giveHolders
      exact holds_loop hs hz 2000 0 μ ν hh s4 (by omega) (fun g _ _ => by omega) (by decide)
  · simp only [h1, not_false_eq_true, if_true, if_false, Bool.false_eq_true, bd_s, show ¬ (-1000000001 : Int32) = 0 by decide]
    exact err1 hh
theorem SHR_put {μ ν : Mem} {s j : Nat} {v : Int32} (hs : s < 4) (hj : j < 24) (h : SHR μ ν) : SHR (up μ (58 + 2 * s + 1) j v) (up ν 7 (24 * s + j) v) := by
  intro t ht
  obtain ⟨t1, t2, ⟨z, hz, t3, t4⟩, t5⟩ := h t ht
  refine ⟨?_, ?_, ⟨z, hz, ?_, ?_⟩, fun k hk => ?_⟩
  · rw [up_ne (by omega), up_ne (by decide)]; exact t1
  · rw [up_ne (by decide)]; exact t2
  · rw [up_ne (by omega)]; exact t3
  · rw [up_ne (by decide)]; exact t4
  · by_cases e : s = t ∧ j = k
    · obtain ⟨rfl, rfl⟩ := e
      rw [up_s, up_s]
    · rw [up_n (by omega), up_n (by omega)]
      exact t5 k hk
theorem sim_put : Sim_put Sim := by
  intro v1 v2 v3 μ ν h
  have hh := h
  obtain ⟨-, -, -, hS, -⟩ := h
  unfold f_X8_put f_X9_put f_X9_notThere f_X8_put_48 f_X9_put_33 f_X9_put_35 f_X9_put_92
  rw [isSheet8_rg, isSheet9_rg]
  simp only [ite10, bd2_id]
  by_cases h1 : inb v1 4 = true
  · obtain ⟨s, hs, rfl⟩ := rg_of h1 (by decide)
    obtain ⟨s1, s2, ⟨z, hz, s3, s4⟩, s5⟩ := hS s hs
    simp only [h1, not_true_eq_false, if_false, ck_t, ix_nI (show s < 2 ^ 31 by omega), missing_at, ite10, s3, s4, hi_rg2 (n := z) (nI_toInt (show z < 2 ^ 31 by omega)), in_rg (n := z) (nI_m1 z (by omega))]
    by_cases h2 : ν 5 s = 0
    · rw [s1]
      simp only [h2, not_true_eq_false, if_false, if_true, bd_s, show ¬ (-1000000002 : Int32) = 0 by decide]
      exact err2 hh
    · by_cases h3 : inb v2 z = true
      · have h3' : inb v2 24 = true := inb_mono h3 hz
        obtain ⟨j, hj, rfl⟩ := rg_of h3 (by omega)
        simp only [s1, h2, h3, h3', not_true_eq_false, not_false_eq_true, if_true, if_false, bd_s, ck_t, wr_e, e24, ix_nI (show j < 2 ^ 31 by omega), inb_nI (show 24 * s + j < 96 by omega) (by decide), ix_nI (show 24 * s + j < 2 ^ 31 by omega)]
        have hfin : ∀ v, Sim (up μ (58 + 2 * s + 1) j v) (up ν 7 (24 * s + j) v) := fun v =>
          Sim_sh hh (SHR_put hs (by omega) hS) (sameC_up (sameC_rf _ _) (by simp only [List.mem_cons, List.not_mem_nil, or_false]; omega)) (sameC_up (sameC_rf _ _) (by decide))
        unfold f_X5_lowest
        rw [s1]
        by_cases b8 : ν 5 s = 8
        · simp only [b8, if_true]
          exact ⟨_, _, _, rfl, rfl, hfin _⟩
        · by_cases b16 : ν 5 s = 16
          · simp only [b8, b16, if_true, if_false]
            rw [if_neg (by rw [← b16]; exact b8), if_neg (by rw [← b16]; exact b8)]
            exact ⟨_, _, _, rfl, rfl, hfin _⟩
          · simp only [b8, b16, if_false]
            exact ⟨_, _, _, rfl, rfl, hfin _⟩
      · simp only [s1, h2, h3, not_true_eq_false, not_false_eq_true, if_true, if_false, bd_s, Bool.false_eq_true, show ¬ (-1000000001 : Int32) = 0 by decide]
        exact err1 hh
  · simp only [h1, not_false_eq_true, if_true, if_false, Bool.false_eq_true, bd_s, show ¬ (-1000000001 : Int32) = 0 by decide]
    exact err1 hh
theorem begin_at {o : Nat} : ∀ n j (μ : Mem), j ≤ 24 → 25 ≤ n + j → ∃ μ1, f_X5_begin_12 o n (nI j) μ = some μ1 ∧ ∀ a c, μ1 a c = if a = o + 1 ∧ j ≤ c ∧ c < 24 then 0 else μ a c := by
  intro n
  induction n with
  | zero => intro j μ h1 h2; omega
  | succ n ih =>
    intro j μ h1 h2
    simp only [f_X5_begin_12, le24 (show j < 2 ^ 31 by omega), ix_nI (show j < 2 ^ 31 by omega), wr_e, nI_1]
    by_cases c : 24 ≤ j
    · rw [if_pos c]
      exact ⟨_, rfl, fun a c' => by rw [if_neg (by omega)]⟩
    · rw [if_neg c, ck_c (inb_nI (by omega) (by decide))]
      obtain ⟨μ1, e1, e2⟩ := ih (j + 1) (up μ (o + 1) j 0) (by omega) (by omega)
      refine ⟨μ1, e1, fun a c' => ?_⟩
      rw [e2]
      by_cases q : a = o + 1 ∧ c' = j
      · obtain ⟨rfl, rfl⟩ := q
        rw [if_neg (by omega), up_s, if_pos (by omega)]
      · rw [up_n q]
        by_cases q2 : a = o + 1 ∧ j + 1 ≤ c' ∧ c' < 24
        · rw [if_pos q2, if_pos (by omega)]
        · rw [if_neg q2, if_neg (by omega)]
theorem sheet93_at {s : Nat} (hs : s < 4) : ∀ n j (ν : Mem), j ≤ 24 → 25 ≤ n + j → ∃ ν1, f_X9_sheet_93 n (nI s) (nI j) ν = some (1, ν1) ∧ ∀ a c, ν1 a c = if a = 7 ∧ 24 * s + j ≤ c ∧ c < 24 * s + 24 then 0 else ν a c := by
  intro n
  induction n with
  | zero => intro j ν h1 h2; omega
  | succ n ih =>
    intro j ν h1 h2
    simp only [f_X9_sheet_93, le24 (show j < 2 ^ 31 by omega), e24, ix_nI (show 24 * s + j < 2 ^ 31 by omega), wr_e, nI_1]
    by_cases c : 24 ≤ j
    · rw [if_pos c]
      exact ⟨_, rfl, fun a c' => by rw [if_neg (by omega)]⟩
    · rw [if_neg c, ck_c (inb_nI (by omega) (by decide))]
      obtain ⟨ν1, e1, e2⟩ := ih (j + 1) (up ν 7 (24 * s + j) 0) (by omega) (by omega)
      refine ⟨ν1, e1, fun a c' => ?_⟩
      rw [e2]
      by_cases q : a = 7 ∧ c' = 24 * s + j
      · obtain ⟨rfl, rfl⟩ := q
        rw [if_neg (by omega), up_s, if_pos (by omega)]
      · rw [up_n q]
        by_cases q2 : a = 7 ∧ 24 * s + (j + 1) ≤ c' ∧ c' < 24 * s + 24
        · rw [if_pos q2, if_pos (by omega)]
        · rw [if_neg q2, if_neg (by omega)]
theorem sheet_fin {μ ν : Mem} {s z : Nat} {v : Int32} (hs : s < 4) (hz : z ≤ 24) (hv : v = 0 ∨ v = 8 ∨ v = 16 ∨ v = 32) (h : Sim μ ν) : ∃ μ1 ν1, f_X5_begin (58 + 2 * s) v (nI z) μ = some μ1 ∧ f_X9_sheet_89 (nI s) (nI s) (nI z) (up ν 5 s v) = some (1, ν1) ∧ Sim μ1 ν1 := by
  have hh := h
  obtain ⟨-, -, -, hS, -⟩ := h
  unfold f_X5_begin f_X9_sheet_89
  simp only [wr_n, inb_nI hs (by decide), ck_n, ix_nI (show s < 2 ^ 31 by omega)]
  rw [show (0 : Int32) = nI 0 from rfl]
  obtain ⟨μ1, e1, e2⟩ := begin_at (o := 58 + 2 * s) 2000 0 (up (up μ (58 + 2 * s) 1 v) (58 + 2 * s) 2 (nI z)) (by decide) (by decide)
  obtain ⟨ν1, e3, e4⟩ := sheet93_at hs 2000 0 (up (up ν 5 s v) 6 s (nI z)) (by decide) (by decide)
  have f1 : ∀ i c, i ≠ 58 + 2 * s + 1 → μ1 i c = (up (up μ (58 + 2 * s) 1 v) (58 + 2 * s) 2 (nI z)) i c := fun i c hi => by
    rw [e2, if_neg (fun q => hi q.1)]
  have f2 : ∀ c, c < 24 → μ1 (58 + 2 * s + 1) c = 0 := fun c hc => by
    rw [e2, if_pos ⟨rfl, Nat.zero_le _, hc⟩]
  have g1 : ∀ i c, i ≠ 7 → ν1 i c = (up (up ν 5 s v) 6 s (nI z)) i c := fun i c hi => by
    rw [e4, if_neg (fun q => hi q.1)]
  have g2 : ∀ c, 24 * s ≤ c → c < 24 * s + 24 → ν1 7 c = 0 := fun c hc hc2 => by
    rw [e4, if_pos ⟨rfl, by omega, hc2⟩]
  have g3 : ∀ c, ¬ (24 * s ≤ c ∧ c < 24 * s + 24) → ν1 7 c = ν 7 c := fun c hc => by
    rw [e4, if_neg (fun q => hc ⟨by omega, q.2.2⟩), up_ne (by decide), up_ne (by decide)]
  refine ⟨μ1, ν1, e1, e3, Sim_sh hh (fun t ht => ?_) (fun a ha => ?_) (fun a ha => ?_)⟩
  · obtain ⟨t1, t2, ⟨zz, hzz, t3, t4⟩, t5⟩ := hS t ht
    rw [f1 _ _ (by omega), f1 _ _ (by omega), g1 _ _ (by decide), g1 _ _ (by decide)]
    by_cases e : t = s
    · subst e
      refine ⟨?_, ?_, ⟨z, hz, ?_, ?_⟩, fun k hk => ?_⟩
      · rw [up_n (by omega), up_s, up_ne (by decide), up_s]
      · rw [up_ne (by decide), up_s]
        exact hv
      · rw [up_s]
      · rw [up_s]
      · rw [f2 k hk, g2 _ (by omega) (by omega)]
    · refine ⟨?_, ?_, ⟨zz, hzz, ?_, ?_⟩, fun k hk => ?_⟩
      · rw [up_ne (by omega), up_ne (by omega), up_ne (by decide), up_n (by omega)]
        exact t1
      · rw [up_ne (by decide), up_n (by omega)]
        exact t2
      · rw [up_ne (by omega), up_ne (by omega)]
        exact t3
      · rw [up_n (by omega), up_ne (by decide)]
        exact t4
      · rw [f1 _ _ (by omega), g3 _ (by omega), up_ne (by omega), up_ne (by omega)]
        exact t5 k hk
  · simp only [List.mem_cons, List.not_mem_nil, or_false] at ha
    funext c
    rw [e2, if_neg (by omega), up_ne (by omega), up_ne (by omega)]
  · simp only [List.mem_cons, List.not_mem_nil, or_false] at ha
    funext c
    rw [e4, if_neg (by omega), up_ne (by omega), up_ne (by omega)]
theorem rg25 {v : Int32} (h0 : 0 ≤ v) (h1 : v ≤ 24) : ∃ z, z ≤ 24 ∧ v = nI z := by
  rw [Int32.le_iff_toInt_le] at h0 h1
  rw [show (0 : Int32).toInt = 0 by decide] at h0
  rw [show (24 : Int32).toInt = 24 by decide] at h1
  obtain ⟨j, hj, e⟩ := rg_of (v := v) (n := 25) (rg_iff.mpr ⟨h0, by omega⟩) (by decide)
  exact ⟨j, by omega, e⟩
theorem sim_sheet : Sim_sheet Sim := by
  intro v1 v2 v3 μ ν h
  have hh := h
  unfold f_X8_sheet f_X9_sheet f_X8_sheet_14 f_X9_sheet_29 f_X9_sheet_36 f_X9_sheet_51 f_X9_sheet_68 f_X8_isWidth
  rw [isSheet8_rg, isSheet9_rg]
  simp only [ite10, bd2_id]
  by_cases h1 : inb v1 4 = true
  · obtain ⟨s, hs, rfl⟩ := rg_of h1 (by decide)
    simp only [h1, not_true_eq_false, if_false, ck_t, ix_nI (show s < 2 ^ 31 by omega), wr_e]
    have main : ∀ v : Int32, (v = 8 ∨ v = 16 ∨ v = 32) → ¬ v = 0 → ¬ v ≤ 0 → ∃ (r : Int32) (μ1 ν1 : Mem), (if 0 ≤ v3 then if v3 ≤ 24 then (bd (f_X5_begin (58 + 2 * s) v v3 μ) fun μ7 => some (1, μ7)) else f_X8_fail 1 μ else f_X8_fail 3 μ) = some (r, μ1) ∧ (if 0 ≤ v3 then if v3 ≤ 24 then f_X9_sheet_89 (nI s) (nI s) v3 (up ν 5 s v) else f_X9_error (-1000000001) ν else f_X9_error (-1000000003) ν) = some (r, ν1) ∧ Sim μ1 ν1 := by
      intro v hv hv0 hv1
      by_cases a : 0 ≤ v3
      · rw [if_pos a, if_pos a]
        by_cases b : v3 ≤ 24
        · rw [if_pos b, if_pos b]
          obtain ⟨z, hz, rfl⟩ := rg25 a b
          obtain ⟨μ1, ν1, q1, q2, q3⟩ := sheet_fin hs hz (Or.inr hv) hh
          exact ⟨1, μ1, ν1, by rw [q1]; rfl, q2, q3⟩
        · rw [if_neg b, if_neg b]
          exact err1 hh
      · rw [if_neg a, if_neg a]
        exact err3 hh
    by_cases c0 : v2 = 0
    · subst c0
      obtain ⟨μ1, ν1, q1, q2, q3⟩ := sheet_fin (z := 0) hs (by decide) (Or.inl rfl) hh
      rw [show nI 0 = 0 from rfl] at q1 q2
      simp only [if_true, show ¬ (1 : Int32) = 0 by decide, if_false, show (0 : Int32) ≤ 0 by decide, q1, q2, bd_s]
      exact ⟨1, μ1, ν1, rfl, rfl, q3⟩
    · by_cases c8 : v2 = 8
      · subst c8
        simp only [show ¬ (8 : Int32) = 0 by decide, if_true, if_false, show ¬ (1 : Int32) = 0 by decide, show ¬ (8 : Int32) ≤ 0 by decide]
        exact main 8 (by decide) (by decide) (by decide)
      · by_cases c16 : v2 = 16
        · subst c16
          simp only [show ¬ (16 : Int32) = 0 by decide, show ¬ (16 : Int32) = 8 by decide, if_true, if_false, show ¬ (1 : Int32) = 0 by decide, show ¬ (16 : Int32) ≤ 0 by decide]
          exact main 16 (by decide) (by decide) (by decide)
        · by_cases c32 : v2 = 32
          · subst c32
            simp only [show ¬ (32 : Int32) = 0 by decide, show ¬ (32 : Int32) = 8 by decide, show ¬ (32 : Int32) = 16 by decide, if_true, if_false, show ¬ (1 : Int32) = 0 by decide, show ¬ (32 : Int32) ≤ 0 by decide]
            exact main 32 (by decide) (by decide) (by decide)
          · simp only [c0, c8, c16, c32, if_true, if_false]
            exact err1 hh
  · simp only [h1, not_false_eq_true, if_true, if_false, Bool.false_eq_true]
    exact err1 hh
