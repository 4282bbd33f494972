/-! HOURS, and what is thought of them -/
theorem KR_vs {μ ν μ1 ν1 : Mem} (h : KR 1 μ (ν 1)) (hs : VS 8 μ ν μ1 ν1) : KR 1 μ1 (ν1 1) := by
  obtain ⟨k1, k2, k3, k4, k5, k6⟩ := h
  obtain ⟨⟨v1, v2, v3, v4, v5, v6⟩, c, r, w⟩ := hs
  have c' : ∀ i, i ∉ mvL 8 → μ1 i = μ i := c
  exact ⟨v1, v2, TPR_row k3 (c' _ (by decide)) (c' _ (by decide)) (w _ (by decide)) (fun i a b => w i (by omega)), WTR_row k4 (by rw [c' _ (by decide)]) (by rw [c' _ (by decide)]) (c' _ (by decide)) (w _ (by decide)) (w _ (by decide)) (fun i a b => w i (by omega)), v3, v4⟩
theorem Sim_vs {μ ν μ1 ν1 : Mem} (h : Sim μ ν) (hs : VS 8 μ ν μ1 ν1) : Sim μ1 ν1 :=
  Sim_now h (KR_vs h.1 hs) (sameC_mono hs.2.1 (by decide)) (sameC_mono hs.2.2.1 (by decide)) (by rw [hs.2.2.1 0 (by decide)]) (by rw [hs.2.2.1 0 (by decide)]) (by rw [hs.2.1 2 (by decide)]) (by rw [hs.2.1 5 (by decide)])
theorem hour_sim {μ ν : Mem} (h : Sim μ ν) : ∃ μ1 ν1, f_X2_anHour 8 μ = some μ1 ∧ f_X9_goes ν = some ν1 ∧ Sim μ1 ν1 := by
  obtain ⟨μ1, ν1, e1, e2, e3⟩ := hour_both (Or.inl rfl) (VW_sim h)
  exact ⟨μ1, ν1, e1, e2, Sim_vs h e3⟩
theorem open_sim {μ ν : Mem} (h : Sim μ ν) : ∃ r, f_X2_openGates 8 μ = some r ∧ f_X9_opened ν = some r := by
  obtain ⟨-, ⟨-, ⟨ng, hng, e3⟩, -⟩, -⟩ := VW_sim h
  exact open_both (VW_sim h) e3 hng
/-- a number from one to n -/
theorem one_to {v : Int32} {n : Nat} (h1 : ¬ v < 1) (h2 : v ≤ Int32.ofNat n) (hn : n < 2 ^ 31) : ∃ k, k ≤ n ∧ v = nI k := by
  have a1 : ¬ v.toInt < 1 := fun e => h1 (Int32.lt_iff_toInt_lt.mpr (by rw [show (1 : Int32).toInt = 1 by decide]; exact e))
  have a2 := Int32.le_iff_toInt_le.mp h2
  rw [lit_toInt hn] at a2
  refine ⟨v.toInt.toNat, by omega, ?_⟩
  rw [eq_i, nI_toInt (by omega)]
  omega
theorem hours_loop {n : Nat} (hn : n ≤ 60) : ∀ f j (μ ν : Mem), Sim μ ν → 61 ≤ f + j → j ≤ n → ∃ (r : Int32) (μ1 ν1 : Mem), f_X8_hours_43 f (nI n) (nI j) μ = some (r, μ1) ∧ f_X9_hours_40 f (nI n) (nI j) ν = some (r, ν1) ∧ Sim μ1 ν1 := by
  intro f
  induction f with
  | zero => intro j μ ν h hf hj; omega
  | succ f ih =>
    intro j μ ν h hf hj
    unfold f_X8_hours_43 f_X9_hours_40
    by_cases q : n ≤ j
    · have q' : nI n ≤ nI j := (nI_leI (by omega) (by omega)).mpr q
      rw [if_pos q', if_pos q']
      unfold f_X8_hours_64 f_X9_hours_55
      obtain ⟨r, r1, r2⟩ := open_sim h
      rw [show 1 + 7 = 8 from rfl, r1, r2, bd_n, bd_n]
      exact ⟨_, _, _, rfl, rfl, h⟩
    · have q' : ¬ nI n ≤ nI j := fun e => q ((nI_leI (by omega) (by omega)).mp e)
      obtain ⟨μ1, ν1, e1, e2, e3⟩ := hour_sim h
      rw [if_neg q', if_neg q', show 1 + 7 = 8 from rfl, e1, e2, bd_n, bd_n, nI_1]
      exact ih (j + 1) μ1 ν1 e3 (by omega) (by omega)
theorem lt_le {a b : Int32} : a < b ↔ ¬ b ≤ a := by
  rw [Int32.lt_iff_toInt_lt, Int32.le_iff_toInt_le]
  omega
theorem sim_hours : Sim_hours Sim := by
  intro v1 μ ν h
  have m4 : μ 8 13 = ν 1 0 := h.1.1.1.2.2.2.1
  unfold f_X8_hours f_X9_hours f_X8_hours_11 f_X9_in
  rw [show 1 + 7 = 8 from rfl, show ix 0 = 0 from rfl, m4]
  simp only [bd2_id]
  by_cases c1 : v1 < 1
  · rw [if_pos c1, if_pos c1, if_pos rfl]
    exact err1 h
  · by_cases c2 : v1 ≤ 60
    · obtain ⟨n, hn, rfl⟩ := one_to (n := 60) c1 c2 (by decide)
      rw [if_neg c1, if_neg c1, if_pos c2, if_neg (show ¬ (60 : Int32) < nI n from fun e => lt_le.mp e c2), if_neg (show ¬ (1 : Int32) = 0 by decide)]
      by_cases c3 : ν 1 0 + nI n ≤ 9999
      · rw [if_pos c3, if_pos c3]
        exact hours_loop hn 2000 0 μ ν h (by omega) (by omega)
      · rw [if_neg c3, if_neg c3]
        exact err3 h
    · rw [if_neg c1, if_neg c1, if_neg c2, if_pos (lt_le.mpr c2), if_pos rfl]
      exact err1 h
/-! the drawn -/
theorem Sim_z {μ ν : Mem} (v : Int32) (h : Sim μ ν) : Sim (up μ 1 6 v) (up ν 1 1 v) := by
  obtain ⟨r, μ1, ν1, e1, e2, e3⟩ := sim_seed v μ ν h
  unfold f_X8_seed at e1
  unfold f_X9_seed at e2
  have b1 := becomes_at (i := 1) (v := v) (ν := ν) (by decide)
  rw [show nI 1 = 1 from rfl] at b1
  rw [b1, bd2_n] at e2
  rw [wr_n] at e1
  have q1 := (pair_inj e1).2
  have q2 := (pair_inj e2).2
  rw [q1, q2]
  exact e3
theorem shr_nI (x : Int32) : ∃ k, k < 2 ^ 24 ∧ jushr x 8 = nI k := by
  refine ⟨(x.toUInt32 >>> (8 : UInt32)).toNat, ?_, ?_⟩
  · rw [UInt32.toNat_shiftRight]
    have := x.toUInt32.toNat_lt
    rw [show (8 : UInt32).toNat % 32 = 8 from rfl, Nat.shiftRight_eq_div_pow]
    omega
  · show (x.toUInt32 >>> (Int32.toUInt32 8 &&& Int32.toUInt32 31)).toInt32 = _
    rw [show Int32.toUInt32 8 &&& Int32.toUInt32 31 = (8 : UInt32) by decide]
    generalize x.toUInt32 >>> (8 : UInt32) = u
    have : u = UInt32.ofNat u.toNat := by simp
    conv => lhs; rw [this]
    rfl
theorem draw_z {μ ν : Mem} (h : Sim μ ν) : ∃ (k : Nat) (μ1 ν1 : Mem), f_X0_nextDraw 1 μ = some (nI k, μ1) ∧ f_X9_draw ν = some (nI k, ν1) ∧ Sim μ1 ν1 ∧ k < 2 ^ 24 ∧ μ1 8 = μ 8 ∧ ∀ i, i ≠ 1 → ν1 1 i = ν 1 i := by
  have w1 : μ 1 6 = ν 1 1 := h.1.2.2.2.1.1
  unfold f_X0_nextDraw f_X9_draw
  rw [wr_n, wr_n, show ix 1 = 1 from rfl, up_s, up_s, w1]
  obtain ⟨k, hk, e⟩ := shr_nI (ν 1 1 * 1103515245 + 12345)
  rw [e]
  exact ⟨k, _, _, rfl, rfl, Sim_z _ h, hk, up_cell (by decide), fun i hi => up_n (fun q => hi q.2)⟩
theorem Sim_holder {μ ν : Mem} {g : Nat} {v : Int32} (h : Sim μ ν) (hg : g < 9) (hv : -1 ≤ v.toInt) : Sim (up μ 14 g v) (up ν 1 (27 + 4 * g + 3) v) := by
  refine Sim_one h ?_ (sameC_up (sameC_rf _ _) (by decide)) (sameC_up (sameC_rf _ _) (by decide))
  rw [up_row]
  exact KR_holder hg hv h.1
theorem shuffle_both {μ ν : Mem} (h : Sim μ ν) : ∃ μ1 ν1, f_X0_shuffle 1 μ = some μ1 ∧ f_X9_drawn ν = f_X9_drawn_62 ν1 ∧ Sim μ1 ν1 := by
  obtain ⟨⟨⟨m1, m2, m3, m4, m5⟩, -⟩, ⟨⟨np, hnp, e2⟩, ⟨ng, hng, e3⟩, -⟩, -⟩ := id h.1
  have p10 : μ 8 10 = nI np := m1.trans e2
  have p11 : μ 8 11 = nI ng := m2.trans e3
  unfold f_X0_shuffle f_X9_drawn
  rw [show 1 + 7 = 8 from rfl, show ix 2 = 2 from rfl, show ix 3 = 3 from rfl, p10, p11, e2, e3]
  have z0 : ∀ n, n < 2 ^ 31 → (nI n ≤ 0 ↔ n = 0) := fun n hn => by
    have : nI n ≤ 0 ↔ n ≤ 0 := nI_leI (b := 0) hn (by decide)
    rw [this]; omega
  have z1 : (0 : Int32) < nI ng ↔ 0 < ng := nI_ltI (a := 0) (by decide) (by omega)
  by_cases c1 : np = 0
  · rw [if_pos ((z0 np (by omega)).mpr c1), if_pos ((z0 np (by omega)).mpr c1)]
    exact ⟨_, _, rfl, rfl, h⟩
  · rw [if_neg (fun e => c1 ((z0 np (by omega)).mp e)), if_neg (fun e => c1 ((z0 np (by omega)).mp e))]
    by_cases c2 : ng = 0
    · rw [if_neg (fun e => by have := z1.mp e; omega), if_pos ((z0 ng (by omega)).mpr c2)]
      exact ⟨_, _, rfl, rfl, h⟩
    · rw [if_pos (z1.mpr (by omega)), if_neg (fun e => c2 ((z0 ng (by omega)).mp e))]
      obtain ⟨a, μa, νa, a1, a2, a3, a4, a5, a6⟩ := draw_z h
      obtain ⟨b, μb, νb, b1, b2, b3, b4, b5, b6⟩ := draw_z a3
      obtain ⟨c, μc, νc, d1, d2, d3, d4, d5, d6⟩ := draw_z b3
      have nzn : ∀ n, n < 2 ^ 31 → n ≠ 0 → nz (nI n) = true := fun n hn h0 => by
        simp only [nz, Bool.not_eq_true', beq_eq_false_iff_ne]
        intro e
        have := congrArg Int32.toInt e
        rw [nI_toInt hn, show (0 : Int32).toInt = 0 by decide] at this
        omega
      rw [a1, a2, bd2_n, bd2_n, a6 3 (by decide), e3, ck_c (nzn ng (by omega) c2), ck_c (nzn ng (by omega) c2), b1, b2, bd2_n, bd2_n, b6 2 (by decide), a6 2 (by decide), e2, ck_c (nzn np (by omega) c1), ck_c (nzn np (by omega) c1), d1, d2, bd2_n, bd2_n, jrem_nI (by omega) (by omega) (by omega), jrem_nI (a := b) (by omega) (by omega) (by omega)]
      have hg : a % ng < ng := Nat.mod_lt _ (by omega)
      have p11c : μc 8 11 = nI ng := by rw [d5, b5, a5]; exact p11
      have fin : ∀ s0 v, (s0 = (1 : Int32) ∧ v = -1 ∨ s0 = 0 ∧ v = nI (b % np)) → ∃ μ1 ν1, f_X0_shuffle_54 1 (nI (a % ng)) (nI (b % np)) s0 μc = some μ1 ∧ f_X9_drawn_59 (nI (a % ng)) 3 v νc = f_X9_drawn_62 ν1 ∧ Sim μ1 ν1 := by
        intro s0 v hs
        have hv : -1 ≤ v.toInt := by
          rcases hs with ⟨-, rfl⟩ | ⟨-, rfl⟩
          · decide
          · rw [nI_toInt (by have := Nat.mod_lt b (show 0 < np by omega); omega)]; omega
        have l3 := lets_at (g := a % ng) (w := 3) (v := v) (ν := νc) (by omega)
        rw [show nI 3 = 3 from rfl] at l3
        unfold f_X0_shuffle_54 f_X9_drawn_59 f_X0_shuffle_86
        rw [show 1 + 7 = 8 from rfl, isGate_rg p11c hng, inb_nI hg (by omega), if_pos rfl, if_neg (show ¬ (1 : Int32) = 0 by decide), l3, bd_n, ix_nI (by omega), ck_c (inb_nI (show a % ng < 9 by omega) (by decide)), wr_n, ck_c (inb_nI (show a % ng < 9 by omega) (by decide)), wr_n, show 8 + 6 = 14 from rfl]
        rcases hs with ⟨rfl, rfl⟩ | ⟨rfl, rfl⟩
        · rw [if_neg (show ¬ (1 : Int32) = 0 by decide)]
          exact ⟨_, _, rfl, rfl, Sim_holder d3 (by omega) hv⟩
        · rw [if_pos rfl]
          exact ⟨_, _, rfl, rfl, Sim_holder d3 (by omega) hv⟩
      by_cases c4 : jrem (nI c) 4 = 0
      · rw [if_pos c4, if_pos c4]
        exact fin 1 (-1) (Or.inl ⟨rfl, rfl⟩)
      · rw [if_neg c4, if_neg c4]
        exact fin 0 _ (Or.inr ⟨rfl, rfl⟩)
theorem loose_loop {n : Nat} (hn : n ≤ 30) : ∀ f j (μ ν : Mem), Sim μ ν → 31 ≤ f + j → j ≤ n → ∃ (r : Int32) (μ1 ν1 : Mem), f_X8_loose_43 f (nI n) (nI j) μ = some (r, μ1) ∧ f_X9_loose_40 f (nI n) (nI j) ν = some (r, ν1) ∧ Sim μ1 ν1 := by
  intro f
  induction f with
  | zero => intro j μ ν h hf hj; omega
  | succ f ih =>
    intro j μ ν h hf hj
    unfold f_X8_loose_43 f_X9_loose_40
    by_cases q : n ≤ j
    · have q' : nI n ≤ nI j := (nI_leI (by omega) (by omega)).mpr q
      rw [if_pos q', if_pos q']
      unfold f_X8_loose_71 f_X9_loose_55
      obtain ⟨r, r1, r2⟩ := open_sim h
      rw [show 1 + 7 = 8 from rfl, r1, r2, bd_n, bd_n]
      exact ⟨_, _, _, rfl, rfl, h⟩
    · have q' : ¬ nI n ≤ nI j := fun e => q ((nI_leI (by omega) (by omega)).mp e)
      obtain ⟨μ0, ν0, s1, s2, s3⟩ := shuffle_both h
      obtain ⟨μ1, ν1, e1, e2, e3⟩ := hour_sim s3
      unfold f_X9_drawn_62 at s2
      rw [e2, bd_n] at s2
      rw [if_neg q', if_neg q', show 1 + 7 = 8 from rfl, s1, s2, bd_n, bd_n, e1, bd_n, nI_1]
      exact ih (j + 1) μ1 ν1 e3 (by omega) (by omega)
theorem sim_loose : Sim_loose Sim := by
  intro v1 μ ν h
  have m4 : μ 8 13 = ν 1 0 := h.1.1.1.2.2.2.1
  unfold f_X8_loose f_X9_loose f_X8_loose_11 f_X9_in
  rw [show 1 + 7 = 8 from rfl, show ix 0 = 0 from rfl, m4]
  simp only [bd2_id]
  by_cases c1 : v1 < 1
  · rw [if_pos c1, if_pos c1, if_pos rfl]
    exact err1 h
  · by_cases c2 : v1 ≤ 30
    · obtain ⟨n, hn, rfl⟩ := one_to (n := 30) c1 c2 (by decide)
      rw [if_neg c1, if_neg c1, if_pos c2, if_neg (show ¬ (30 : Int32) < nI n from fun e => lt_le.mp e c2), if_neg (show ¬ (1 : Int32) = 0 by decide)]
      by_cases c3 : ν 1 0 + nI n ≤ 9999
      · rw [if_pos c3, if_pos c3]
        exact loose_loop hn 2000 0 μ ν h (by omega) (by omega)
      · rw [if_neg c3, if_neg c3]
        exact err3 h
    · rw [if_neg c1, if_neg c1, if_neg c2, if_pos (lt_le.mpr c2), if_pos rfl]
      exact err1 h
