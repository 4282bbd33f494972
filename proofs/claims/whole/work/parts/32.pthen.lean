/-! WHAT IS THOUGHT AHEAD -/
theorem Sim_mv {μ ν μ1 : Mem} (h : Sim μ ν) (hC : sameC (mvL 39) μ μ1) : Sim μ1 ν :=
  Sim_now h (KR1_same h.1 hC (by decide)) (sameC_mono hC (by decide)) (sameC_rf _ _) rfl rfl (by rw [hC 2 (by decide)]) (by rw [hC 5 (by decide)])
theorem think_in {μ ν : Mem} (h : Sim μ ν) : ∃ μ1 ν1, f_X2_copyOf 39 8 μ = some μ1 ∧ f_X9_thinks ν = some ν1 ∧ VW 39 μ1 ν1 ∧ sameC (mvL 39) μ μ1 ∧ sameC [3] ν ν1 ∧ ∀ k, k < 395 → ν1 3 k = ν 1 k := by
  obtain ⟨μ1, e1, e2, e3⟩ := moor_copy_39_8 (μ := μ)
  obtain ⟨ν1, f1, f2, f3⟩ := copyAll_at (a := 1) (b := 3) (ν := ν) (by decide) (by decide) (by decide)
  obtain ⟨v1, v2, v3, v4, v5, v6⟩ := VW_sim h
  have r1 : ν1 1 = ν 1 := f3 1 (by decide)
  unfold f_X9_thinks
  rw [f1, bd_n]
  refine ⟨μ1, ν1, e1, rfl, ⟨by rw [r1]; exact MR_copy v1 e2, by rw [r1]; exact v2, ?_, ?_, by rw [e3 2 (by decide)]; exact v5, by rw [e3 5 (by decide)]; exact v6⟩, sameC_mono e3 (by decide), f3, f2⟩
  · rw [r1]; exact LR_same v3 (by rw [e3 2 (by decide)]) (e3 _ (by decide))
  · rw [r1]; exact LR_same v4 (by rw [e3 5 (by decide)]) (e3 _ (by decide))
theorem think_out {μ ν μ1 ν1 : Mem} (h : Sim μ ν) (hC : sameC (mvL 39) μ μ1) (hR : sameC [1, 3, 10, 11] ν ν1) (h3 : ∀ k, k < 395 → ν1 3 k = ν 1 k) : ∃ ν2, f_X9_putsBack ν1 = some ν2 ∧ Sim μ1 ν2 := by
  obtain ⟨ν2, f1, f2, f3⟩ := copyAll_at (a := 3) (b := 1) (ν := ν1) (by decide) (by decide) (by decide)
  unfold f_X9_putsBack
  rw [f1, bd_n]
  have hR2 : sameC [1, 3, 10, 11] ν ν2 := sameC_tr hR (sameC_mono f3 (by decide))
  exact ⟨ν2, rfl, Sim_now h (KR_row (KR1_same h.1 hC (by decide)) (fun i hi => (f2 i hi).trans (h3 i hi))) (sameC_mono hC (by decide)) (sameC_mono hR2 (by decide)) (by rw [hR2 0 (by decide)]) (by rw [hR2 0 (by decide)]) (by rw [hC 2 (by decide)]) (by rw [hC 5 (by decide)])⟩
/-- n hours of thought: what stays -/
def TH (μ ν μ1 ν1 : Mem) : Prop := VW 39 μ1 ν1 ∧ sameC (mvL 39) μ μ1 ∧ sameC [1, 3, 10, 11] ν ν1 ∧ (∀ k, k < 395 → ν1 3 k = ν 1 k) ∧ ν1 1 3 = ν 1 3
theorem TH_in {μ ν : Mem} (h : Sim μ ν) : ∃ μ1 ν1, f_X2_copyOf 39 8 μ = some μ1 ∧ f_X9_thinks ν = some ν1 ∧ TH μ ν μ1 ν1 := by
  obtain ⟨μ1, ν1, e1, e2, e3, e4, e5, e6⟩ := think_in h
  exact ⟨μ1, ν1, e1, e2, e3, e4, sameC_mono e5 (by decide), e6, by rw [e5 1 (by decide)]⟩
theorem TH_hour {μ ν μ1 ν1 : Mem} (h : TH μ ν μ1 ν1) : ∃ μ2 ν2, f_X2_anHour 39 μ1 = some μ2 ∧ f_X9_goes ν1 = some ν2 ∧ TH μ ν μ2 ν2 := by
  obtain ⟨h1, h2, h3, h4, h5⟩ := h
  obtain ⟨μ2, ν2, e1, e2, e3, e4, e5, e6⟩ := hour_both (Or.inr rfl) h1
  exact ⟨μ2, ν2, e1, e2, e3, sameC_tr h2 e4, sameC_tr h3 (sameC_mono e5 (by decide)), fun k hk => by rw [e5 3 (by decide)]; exact h4 k hk, (e6 3 (by omega)).trans h5⟩
theorem TH_out {μ ν μ1 ν1 : Mem} (h : Sim μ ν) (t : TH μ ν μ1 ν1) : ∃ ν2, f_X9_putsBack ν1 = some ν2 ∧ Sim μ1 ν2 := think_out h t.2.1 t.2.2.1 t.2.2.2.1
theorem then_loop {n : Nat} {v2 : Int32} (hn : n ≤ 60) {μ ν : Mem} (h : Sim μ ν) : ∀ f j (μ1 ν1 : Mem), TH μ ν μ1 ν1 → 61 ≤ f + j → j ≤ n → ∃ (r : Int32) (μ2 ν2 : Mem), f_X8_then_41 f (nI n) v2 (nI j) μ1 = some (r, μ2) ∧ f_X9_then_32 f (nI n) v2 (nI j) ν1 = some (r, ν2) ∧ Sim μ2 ν2 := by
  intro f
  induction f with
  | zero => intro j μ1 ν1 t hf hj; omega
  | succ f ih =>
    intro j μ1 ν1 t hf hj
    unfold f_X8_then_41 f_X9_then_32
    by_cases q : n ≤ j
    · have q' : nI n ≤ nI j := (nI_leI (by omega) (by omega)).mpr q
      rw [if_pos q', if_pos q']
      unfold f_X8_then_59 f_X9_then_47 f_X9_then_64
      obtain ⟨ν2, p1, p2⟩ := TH_out h t
      have h5 : μ1 39 14 = ν1 1 5 := t.1.1.1.2.2.2.2
      obtain ⟨-, ⟨-, ⟨ng, hng, e3⟩, -⟩, -⟩ := id t.1
      obtain ⟨r, r1, r2⟩ := open_both t.1 e3 hng
      rw [p1, bd_n, r1, r2, bd_n, bd_n, h5, show ix 5 = 5 from rfl]
      by_cases c : v2 = 0
      · rw [if_pos c, if_pos c]
        exact ⟨_, _, _, rfl, rfl, p2⟩
      · rw [if_neg c, if_neg c]
        exact ⟨_, _, _, rfl, rfl, p2⟩
    · have q' : ¬ nI n ≤ nI j := fun e => q ((nI_leI (by omega) (by omega)).mp e)
      obtain ⟨μ2, ν2, e1, e2, e3⟩ := TH_hour t
      rw [if_neg q', if_neg q', e1, e2, bd_n, bd_n, nI_1]
      exact ih (j + 1) μ2 ν2 e3 (by omega) (by omega)
theorem sim_then : Sim_then Sim := by
  intro v1 v2 μ ν h
  have he := err1 h
  unfold f_X8_then f_X9_then f_X8_then_19 f_X9_then_19
  rw [show 1 + 7 = 8 from rfl]
  simp only [bd2_id]
  have i1 : f_X9_in v1 0 60 = if inb v1 61 = true then 1 else 0 := in_rg (n := 61) (by decide)
  have i2 : f_X9_in v2 0 1 = if inb v2 2 = true then 1 else 0 := in_rg (n := 2) (by decide)
  rw [i1, i2]
  by_cases a1 : v1 < 0
  · have n1 : ¬ inb v1 61 = true := fun e => by
      have := (rg_iff (n := 61)).mp e
      rw [Int32.lt_iff_toInt_lt, show (0 : Int32).toInt = 0 by decide] at a1
      omega
    rw [if_pos a1, if_neg n1, if_pos rfl]
    exact he
  · rw [if_neg a1]
    by_cases a2 : 60 < v1
    · have n1 : ¬ inb v1 61 = true := fun e => by
        have := (rg_iff (n := 61)).mp e
        rw [Int32.lt_iff_toInt_lt, show (60 : Int32).toInt = 60 by decide] at a2
        omega
      rw [if_pos a2, if_neg n1, if_pos rfl]
      exact he
    · have n1 : inb v1 61 = true := (rg_iff (n := 61)).mpr (by
        rw [Int32.lt_iff_toInt_lt, show (60 : Int32).toInt = 60 by decide] at a2
        rw [Int32.lt_iff_toInt_lt, show (0 : Int32).toInt = 0 by decide] at a1
        omega)
      rw [if_neg a2, if_pos n1, if_neg (show ¬ (1 : Int32) = 0 by decide), hi_rg (n := 2) (by decide)]
      by_cases a3 : inb v2 2 = true
      · rw [if_pos a3, if_pos a3, if_neg (show ¬ (1 : Int32) = 0 by decide)]
        obtain ⟨n, hn, rfl⟩ := rg_of n1 (by decide)
        obtain ⟨μ1, ν1, e1, e2, e3⟩ := TH_in h
        rw [e1, e2, bd_n, bd_n]
        exact then_loop (by omega) h 2000 0 μ1 ν1 e3 (by omega) (by omega)
      · rw [if_neg a3, if_neg a3, if_pos rfl]
        exact he
theorem first_loop {g : Nat} (hg : g < 9) {μ ν : Mem} (h : Sim μ ν) : ∀ f j (μ1 ν1 : Mem), TH μ ν μ1 ν1 → 62 ≤ f + j → j ≤ 61 → ∃ (r : Int32) (μ2 ν2 : Mem), f_X8_first_36 f (nI g) (nI j) μ1 = some (r, μ2) ∧ f_X9_first_21 f (nI g) (nI j) ν1 = some (r, ν2) ∧ Sim μ2 ν2 := by
  intro f
  induction f with
  | zero => intro j μ1 ν1 t hf hj; omega
  | succ f ih =>
    intro j μ1 ν1 t hf hj
    unfold f_X8_first_36 f_X9_first_21
    have l60 : (60 : Int32) < nI j ↔ 60 < j := nI_ltI (a := 60) (by decide) (by omega)
    have k60 : nI j ≤ (60 : Int32) ↔ j ≤ 60 := nI_leI (b := 60) (by omega) (by decide)
    obtain ⟨ν2, p1, p2⟩ := TH_out h t
    by_cases q : 60 < j
    · rw [if_pos (l60.mpr q), if_pos (l60.mpr q)]
      unfold f_X8_first_70 f_X9_first_45
      rw [p1, bd_n, if_neg (fun e => by have := k60.mp e; omega)]
      simp only [bd2_id]
      exact err2 p2
    · obtain ⟨⟨-, -, mg, -, -⟩, ⟨-, -, -, -, -, wg, -⟩, -⟩ := id t.1
      have w3 := (wg g hg).2.2
      have hopen : (ν1 1 (27 + 4 * g + 3) = -1) ↔ ¬ 0 ≤ ν1 1 (27 + 4 * g + 3) := by
        rw [eq_i, Int32.le_iff_toInt_le, show (-1 : Int32).toInt = -1 by decide, show (0 : Int32).toInt = 0 by decide]
        omega
      rw [if_neg (fun e => q (l60.mp e)), if_neg (fun e => q (l60.mp e)), ck_c (inb_nI hg (by decide)), ix_nI (by omega), (mg g hg).2.2.2, isOpen_at hg, bd_n]
      by_cases c : 0 ≤ ν1 1 (27 + 4 * g + 3)
      · obtain ⟨μ3, ν3, e1, e2, e3⟩ := TH_hour t
        rw [if_neg (fun e => hopen.mp e c), if_pos c, if_pos rfl, e1, e2, bd_n, bd_n, nI_1]
        exact ih (j + 1) μ3 ν3 e3 (by omega) (by omega)
      · rw [if_pos (hopen.mpr c), if_neg c, if_neg (show ¬ (1 : Int32) = 0 by decide)]
        unfold f_X9_first_45
        rw [p1, bd_n, if_pos (k60.mpr (by omega))]
        exact ⟨_, _, _, rfl, rfl, p2⟩
theorem sim_first : Sim_first Sim := by
  intro v1 μ ν h
  obtain ⟨⟨⟨m1, m2, m3, m4, m5⟩, -⟩, ⟨-, ⟨ng, hng, e3⟩, -⟩, -⟩ := id h.1
  have p11 : μ 8 11 = nI ng := m2.trans e3
  unfold f_X8_first f_X9_first
  rw [show 1 + 7 = 8 from rfl, isGate_rg p11 hng, isGate9_rg e3 hng]
  simp only [bd2_id]
  by_cases c : inb v1 ng = true
  · obtain ⟨g, hg, rfl⟩ := rg_of c (by omega)
    obtain ⟨μ1, ν1, e1, e2, e3⟩ := TH_in h
    rw [if_pos c, if_neg (show ¬ (1 : Int32) = 0 by decide), if_neg (show ¬ (1 : Int32) = 0 by decide), e1, e2, bd_n, bd_n]
    exact first_loop (by omega) h 2000 0 μ1 ν1 e3 (by omega) (by omega)
  · rw [if_neg c, if_pos rfl, if_pos rfl]
    exact err1 h
/-! fits -/
theorem tells_loop {s z ng : Nat} {μ ν : Mem} (hs : s < 4) (t : VW 39 μ ν) (h3 : ν 1 3 = nI ng) (hng : ng ≤ 9) (hz : z ≤ ng) (s1 : μ (58 + 2 * s) 2 = nI z) (s2 : ν 6 s = nI z) (s3 : ∀ k, k < 24 → μ (58 + 2 * s + 1) k = ν 7 (24 * s + k)) : ∀ f j, j ≤ z → 11 ≤ f + j → ∃ r, f_X5_tellsHolders_2 (58 + 2 * s) 39 μ f (nI j) = some r ∧ f_X9_isSo_4 ν f (nI s) 1 (nI j) = some r := by
  intro f
  induction f with
  | zero => intro j hj hf; omega
  | succ f ih =>
    intro j hj hf
    obtain ⟨⟨⟨m1, m2, m3, m4, m5⟩, -, mg, -, -⟩, -⟩ := id t
    have p11 : μ 39 11 = nI ng := m2.trans h3
    unfold f_X5_tellsHolders_2 f_X9_isSo_4
    rw [s1, ck_c (inb_nI hs (by decide)), ix_nI (show s < 2 ^ 31 by omega), s2]
    by_cases q : z ≤ j
    · have q' : nI z ≤ nI j := (nI_leI (by omega) (by omega)).mpr q
      rw [if_pos q', if_pos q', ck_c (show bl 1 = true by decide)]
      exact ⟨_, rfl, rfl⟩
    · have q' : ¬ nI z ≤ nI j := fun e => q ((nI_leI (by omega) (by omega)).mp e)
      have a3 := about_at (g := j) (w := 3) (ν := ν) (by omega)
      rw [show nI 3 = 3 from rfl] at a3
      rw [if_neg q', if_neg q', if_neg (fun e => by have := (le24 (show j < 2 ^ 31 by omega)).mp e; omega), if_neg (show ¬ (1 : Int32) = 0 by decide), isGate_rg p11 hng, inb_nI (show j < ng by omega) (by omega), if_pos rfl, if_neg (show ¬ (1 : Int32) = 0 by decide), ck_c (inb_nI (show j < 9 by omega) (by decide)), ck_c (inb_nI (show j < 24 by omega) (by decide)), e24, ck_c (inb_nI (show 24 * s + j < 96 by omega) (by decide)), ix_nI (show j < 2 ^ 31 by omega), ix_nI (show 24 * s + j < 2 ^ 31 by omega), a3, bd_n, (mg j (by omega)).2.2.2, s3 j (by omega)]
      by_cases c : ν 1 (27 + 4 * j + 3) = ν 7 (24 * s + j)
      · rw [if_pos c, if_pos c.symm, nI_1]
        exact ih (j + 1) (by omega) (by omega)
      · rw [if_neg c, if_neg (fun e => c e.symm), nI_1]
        refine ⟨0, rfl, ?_⟩
        obtain ⟨f, rfl⟩ : ∃ f', f = f' + 1 := ⟨f - 1, by omega⟩
        unfold f_X9_isSo_4
        rw [ck_c (inb_nI hs (by decide)), ck_c (show bl 0 = true by decide), if_pos rfl]
        split <;> rfl
theorem fits_loop {s z ng : Nat} (hs : s < 4) {μ ν : Mem} (h : Sim μ ν) (h3 : ν 1 3 = nI ng) (hng : ng ≤ 9) (hz : z ≤ ng) (s1 : μ (58 + 2 * s) 2 = nI z) (s2 : ν 6 s = nI z) (s3 : ∀ k, k < 24 → μ (58 + 2 * s + 1) k = ν 7 (24 * s + k)) : ∀ f j (μ1 ν1 : Mem), TH μ ν μ1 ν1 → 62 ≤ f + j → j ≤ 61 → ∃ (r : Int32) (μ2 ν2 : Mem), f_X8_fits_49 f (nI s) (nI j) μ1 = some (r, μ2) ∧ f_X9_fits_44 f (nI s) (nI j) ν1 = some (r, ν2) ∧ Sim μ2 ν2 := by
  intro f
  induction f with
  | zero => intro j μ1 ν1 t hf hj; omega
  | succ f ih =>
    intro j μ1 ν1 t hf hj
    unfold f_X8_fits_49 f_X9_fits_44
    have l60 : (60 : Int32) < nI j ↔ 60 < j := nI_ltI (a := 60) (by decide) (by omega)
    have k60 : nI j ≤ (60 : Int32) ↔ j ≤ 60 := nI_leI (b := 60) (by omega) (by decide)
    obtain ⟨ν2, p1, p2⟩ := TH_out h t
    by_cases q : 60 < j
    · rw [if_pos (l60.mpr q), if_pos (l60.mpr q)]
      unfold f_X8_fits_81 f_X9_fits_68
      rw [p1, bd_n, if_neg (fun e => by have := k60.mp e; omega)]
      simp only [bd2_id]
      exact err2 p2
    · have hc : ∀ i, i ∉ mvL 39 → μ1 i = μ i := t.2.1
      have c1 : ∀ k, k < 2 → μ1 (58 + 2 * s + k) = μ (58 + 2 * s + k) := fun k hk => hc _ (by simp only [mvL, List.mem_cons, List.not_mem_nil, or_false]; omega)
      obtain ⟨r, r1, r2⟩ := tells_loop (z := z) hs t.1 (t.2.2.2.2.trans h3) hng hz ((congrFun (c1 0 (by omega)) 2).trans s1) (by rw [t.2.2.1 6 (by decide)]; exact s2) (fun k hk => by rw [c1 1 (by omega), t.2.2.1 7 (by decide)]; exact s3 k hk) 2000 0 (by omega) (by omega)
      unfold f_X5_tellsHolders f_X9_isSo
      rw [show nI 0 = 0 from rfl] at r1 r2
      rw [if_neg (fun e => q (l60.mp e)), if_neg (fun e => q (l60.mp e)), ix_nI (show s < 2 ^ 31 by omega), r1, r2, bd_n, bd_n]
      by_cases c : r = 0
      · obtain ⟨μ3, ν3, e1, e2, e3⟩ := TH_hour t
        rw [if_pos c, if_pos c, e1, e2, bd_n, bd_n, nI_1]
        exact ih (j + 1) μ3 ν3 e3 (by omega) (by omega)
      · rw [if_neg c, if_neg c]
        unfold f_X9_fits_68
        rw [p1, bd_n, if_pos (k60.mpr (by omega))]
        exact ⟨_, _, _, rfl, rfl, p2⟩
theorem tells_no {s z ng : Nat} {μ ν : Mem} (hs : s < 4) (t : VW 39 μ ν) (h3 : ν 1 3 = nI ng) (hng : ng ≤ 9) (hz : ng < z) (hz2 : z ≤ 24) (s1 : μ (58 + 2 * s) 2 = nI z) : ∀ f j, j ≤ ng → 11 ≤ f + j → f_X5_tellsHolders_2 (58 + 2 * s) 39 μ f (nI j) = some 0 := by
  intro f
  induction f with
  | zero => intro j hj hf; omega
  | succ f ih =>
    intro j hj hf
    obtain ⟨⟨⟨m1, m2, m3, m4, m5⟩, -, mg, -, -⟩, -⟩ := id t
    have p11 : μ 39 11 = nI ng := m2.trans h3
    unfold f_X5_tellsHolders_2
    have q' : ¬ nI z ≤ nI j := fun e => by have := (nI_leI (by omega) (by omega)).mp e; omega
    rw [s1, if_neg q', if_neg (fun e => by have := (le24 (show j < 2 ^ 31 by omega)).mp e; omega), isGate_rg p11 hng]
    by_cases q : j < ng
    · rw [inb_nI q (by omega), if_pos rfl, if_neg (show ¬ (1 : Int32) = 0 by decide), ck_c (inb_nI (show j < 9 by omega) (by decide)), ck_c (inb_nI (show j < 24 by omega) (by decide)), nI_1]
      split
      · exact ih (j + 1) (by omega) (by omega)
      · rfl
    · have : ¬ inb (nI j) ng = true := fun e => q ((rg_nI_iff (by omega)).mp e)
      rw [if_neg this, if_pos rfl]
theorem fits_no {s z ng : Nat} (hs : s < 4) {μ ν : Mem} (h : Sim μ ν) (h3 : ν 1 3 = nI ng) (hng : ng ≤ 9) (hz : ng < z) (hz2 : z ≤ 24) (s1 : μ (58 + 2 * s) 2 = nI z) : ∀ f j (μ1 ν1 : Mem), TH μ ν μ1 ν1 → 62 ≤ f + j → j ≤ 61 → ∃ (μ2 : Mem), f_X8_fits_49 f (nI s) (nI j) μ1 = f_X8_fail 2 μ2 ∧ Sim μ2 ν := by
  intro f
  induction f with
  | zero => intro j μ1 ν1 t hf hj; omega
  | succ f ih =>
    intro j μ1 ν1 t hf hj
    unfold f_X8_fits_49
    have l60 : (60 : Int32) < nI j ↔ 60 < j := nI_ltI (a := 60) (by decide) (by omega)
    by_cases q : 60 < j
    · rw [if_pos (l60.mpr q)]
      unfold f_X8_fits_81
      simp only [bd2_id]
      exact ⟨_, rfl, Sim_mv h t.2.1⟩
    · have hc : ∀ i, i ∉ mvL 39 → μ1 i = μ i := t.2.1
      have c1 : μ1 (58 + 2 * s) = μ (58 + 2 * s) := hc _ (by simp only [mvL, List.mem_cons, List.not_mem_nil, or_false]; omega)
      have r1 := tells_no (z := z) hs t.1 (t.2.2.2.2.trans h3) hng hz hz2 ((congrFun c1 2).trans s1) 2000 0 (by omega) (by omega)
      unfold f_X5_tellsHolders
      rw [show nI 0 = 0 from rfl] at r1
      obtain ⟨μ3, ν3, e1, e2, e3⟩ := TH_hour t
      rw [if_neg (fun e => q (l60.mp e)), ix_nI (show s < 2 ^ 31 by omega), r1, bd_n, if_pos rfl, e1, bd_n, nI_1]
      exact ih (j + 1) μ3 ν3 e3 (by omega) (by omega)
theorem sim_fits : Sim_fits Sim := by
  intro v1 μ ν h
  have hh := h
  obtain ⟨-, ⟨-, ⟨ng, hng, e3⟩, -⟩, -⟩ := id h.1
  obtain ⟨-, -, -, hS, -⟩ := h
  unfold f_X8_fits f_X9_fits f_X9_notThere
  rw [isSheet8_rg, isSheet9_rg, show 1 + 7 = 8 from rfl]
  simp only [ite10, bd2_id]
  by_cases h1 : inb v1 4 = true
  · obtain ⟨s, hs, rfl⟩ := rg_of h1 (by decide)
    obtain ⟨s1, s2, ⟨z, hz, s3, s4⟩, s5⟩ := hS s hs
    simp only [h1, not_true_eq_false, if_false, ck_n, ix_nI (show s < 2 ^ 31 by omega), missing_at, ite10]
    by_cases h2 : ν 5 s = 0
    · rw [s1]
      simp only [h2, not_true_eq_false, if_false, if_true, bd_n, show ¬ (-1000000002 : Int32) = 0 by decide]
      exact err2 hh
    · rw [s1, show ix 3 = 3 from rfl, s4, e3]
      simp only [h2, not_false_eq_true, if_true, if_false, bd_n]
      obtain ⟨μ1, ν1, t1, t2, t3⟩ := TH_in hh
      rw [t1, t2, bd_n, bd_n]
      by_cases q : z ≤ ng
      · have q' : nI z ≤ nI ng := (nI_leI (by omega) (by omega)).mpr q
        rw [if_pos q']
        exact fits_loop hs hh e3 hng q s3 s4 s5 2000 0 μ1 ν1 t3 (by omega) (by omega)
      · have q' : ¬ nI z ≤ nI ng := fun e => q ((nI_leI (by omega) (by omega)).mp e)
        rw [if_neg q']
        obtain ⟨μ2, u1, u2⟩ := fits_no hs hh e3 hng (by omega) hz s3 2000 0 μ1 ν1 t3 (by omega) (by omega)
        rw [show nI 0 = 0 from rfl] at u1
        rw [u1]
        exact err2 u2
  · simp only [h1, not_false_eq_true, if_true, if_false, Bool.false_eq_true, bd_n, show ¬ (-1000000001 : Int32) = 0 by decide]
    exact err1 hh
/-! pass -/
theorem pass_loop {v1 v2 : Int32} (hv : -1 ≤ v2.toInt) : ∀ f j (c : Int32) ng (μ ν : Mem), Sim μ ν → ν 1 3 = nI ng → ng ≤ 9 → 10 ≤ f + j → j ≤ ng → ∃ (r : Int32) (μ1 ν1 : Mem), f_X2_handOver_5 8 f v1 v2 c (nI j) μ = some (r, μ1) ∧ f_X9_pass_33 f v1 v2 c (nI j) ν = some (r, ν1) ∧ Sim μ1 ν1 := by
  intro f
  induction f with
  | zero => intro j c ng μ ν h h3 hng hf hj; omega
  | succ f ih =>
    intro j c ng μ ν h h3 hng hf hj
    obtain ⟨⟨⟨m1, m2, m3, m4, m5⟩, -, mg, -, -⟩, -⟩ := VW_sim h
    have p11 : μ 8 11 = nI ng := m2.trans h3
    unfold f_X2_handOver_5 f_X9_pass_33
    rw [p11, show ix 3 = 3 from rfl, h3]
    by_cases q : ng ≤ j
    · have q' : nI ng ≤ nI j := (nI_leI (by omega) (by omega)).mpr q
      rw [if_pos q', if_pos q']
      exact ⟨_, _, _, rfl, rfl, h⟩
    · have q' : ¬ nI ng ≤ nI j := fun e => q ((nI_leI (by omega) (by omega)).mp e)
      have a3 := about_at (g := j) (w := 3) (ν := ν) (by omega)
      have l3 := lets_at (g := j) (w := 3) (v := v2) (ν := ν) (by omega)
      rw [show nI 3 = 3 from rfl] at a3 l3
      rw [if_neg q', if_neg q', ck_c (inb_nI (show j < 9 by omega) (by decide)), ix_nI (show j < 2 ^ 31 by omega), (mg j (by omega)).2.2.2, a3, bd_n]
      by_cases d : ν 1 (27 + 4 * j + 3) = v1
      · rw [if_pos d, if_pos d, ck_c (inb_nI (show j < 9 by omega) (by decide)), wr_n, l3, bd_n, nI_1]
        exact ih (j + 1) _ ng _ _ (Sim_holder h (by omega) hv) (by rw [up_n (by omega)]; exact h3) hng (by omega) (by omega)
      · rw [if_neg d, if_neg d, nI_1]
        exact ih (j + 1) c ng μ ν h h3 hng (by omega) (by omega)
theorem sim_pass : Sim_pass Sim := by
  intro v1 v2 μ ν h
  obtain ⟨⟨⟨m1, m2, m3, m4, m5⟩, -⟩, ⟨⟨np, hnp, e2⟩, ⟨ng, hng, e3⟩, -⟩, -⟩ := id h.1
  have p10 : μ 8 10 = nI np := m1.trans e2
  unfold f_X8_pass f_X9_pass f_X8_pass_29 f_X9_pass_21 f_X2_handOver
  rw [show 1 + 7 = 8 from rfl, isOne_rg p10 hnp, isOne_rg p10 hnp, isPerson_rg e2 hnp, isPerson_rg e2 hnp]
  simp only [ite10, bd2_id]
  have he := err1 h
  by_cases h1 : inb v1 np = true
  · rw [if_neg (not_not_intro h1), if_neg (not_not_intro h1)]
    by_cases h2 : inb v2 np = true
    · rw [if_neg (not_not_intro h2), if_neg (not_not_intro h2)]
      by_cases d : v1 = v2
      · rw [if_pos d, if_pos d]; exact he
      · rw [if_neg d, if_neg d]
        exact pass_loop (holder_ge (k := np) (Or.inr h2)) 2000 0 0 ng μ ν h e3 hng (by omega) (by omega)
    · rw [if_pos h2, if_pos h2]; exact he
  · rw [if_pos h1, if_pos h1]; exact he
