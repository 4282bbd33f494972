theorem KR_row {o : Nat} {μ : Mem} {r r' : Nat → Int32} (h : KR o μ r) (hr : ∀ i, i < 395 → r' i = r i) : KR o μ r' := by
  obtain ⟨k1, k2, k3, k4, k5, k6⟩ := h
  exact ⟨MR_row k1 (fun i a _ _ _ => hr i (by omega)), WM_row k2 (fun i a _ _ _ => hr i (by omega)), TPR_row k3 rfl rfl (hr _ (by decide)) (fun i a b => hr i (by omega)), WTR_row k4 rfl rfl rfl (hr _ (by decide)) (hr _ (by decide)) (fun i a b => hr i (by omega)), LR_row k5 (fun i a b => hr i (by omega)), LR_row k6 (fun i a b => hr i (by omega))⟩
theorem copyAll_loop {a b : Nat} (ha : ln false a = 395) (hb : ln false b = 395) (hab : a ≠ b) : ∀ n j (ν : Mem), j ≤ 395 → 396 ≤ n + j → ∃ ν1, f_X9_copyAll_2 a b n (nI j) ν = some ν1 ∧ ∀ i k, ν1 i k = if i = b ∧ j ≤ k ∧ k < 395 then ν a k else ν i k := by
  intro n
  induction n with
  | zero => intro j ν h1 h2; omega
  | succ n ih =>
    intro j ν h1 h2
    unfold f_X9_copyAll_2
    have e395 : (395 : Int32) ≤ nI j ↔ 395 ≤ j := nI_leI (a := 395) (by decide) (by omega)
    by_cases c : 395 ≤ j
    · rw [if_pos (e395.mpr c)]
      exact ⟨_, rfl, fun i k => by rw [if_neg (by omega)]⟩
    · rw [if_neg (fun q => c (e395.mp q)), ha, hb, ck_c (inb_nI (by omega) (by decide)), ck_c (inb_nI (by omega) (by decide)), ix_nI (by omega), wr_n, nI_1]
      obtain ⟨ν1, e1, e2⟩ := ih (j + 1) (up ν b j (ν a j)) (by omega) (by omega)
      refine ⟨ν1, e1, fun i k => ?_⟩
      rw [e2]
      by_cases p : i = b ∧ k = j
      · obtain ⟨rfl, rfl⟩ := p
        rw [if_neg (by omega), up_s, if_pos (by omega)]
      · rw [up_n p]
        by_cases p2 : i = b ∧ j + 1 ≤ k ∧ k < 395
        · rw [if_pos p2, if_pos (by omega), up_ne hab]
        · rw [if_neg p2, if_neg (by omega)]
theorem copyAll_at {a b : Nat} {ν : Mem} (ha : ln false a = 395) (hb : ln false b = 395) (hab : a ≠ b) : ∃ ν1, f_X9_copyAll a b ν = some ν1 ∧ (∀ k, k < 395 → ν1 b k = ν a k) ∧ sameC [b] ν ν1 := by
  obtain ⟨ν1, e1, e2⟩ := copyAll_loop ha hb hab 2000 0 ν (by decide) (by decide)
  refine ⟨ν1, e1, fun k hk => by rw [e2, if_pos ⟨rfl, by omega, hk⟩], fun i hi => ?_⟩
  funext k
  rw [e2, if_neg (fun q => hi (by rw [q.1]; exact List.mem_singleton.mpr rfl))]
theorem law_copy {o a n : Nat} {μ : Mem} (h : μ a 4 = nI n) (hn : n ≤ 60) (hl : ln true (a + 1) = 60) (hl2 : ln true (o + 1) = 60) : ∃ μ1, f_X1_copyOf o a μ = some μ1 ∧ μ1 o 4 = nI n ∧ (∀ k, k < n → μ1 (o + 1) k = μ (a + 1) k) ∧ sameC [o, o + 1] μ μ1 ∧ μ1 o 1 = μ o 1 := by
  unfold f_X1_copyOf f_X1_take
  have c1 : ¬ nI n < 0 := fun q => by
    rw [Int32.lt_iff_toInt_lt, nI_toInt (by omega), show (0 : Int32).toInt = 0 by decide] at q
    omega
  have c2 : ¬ (60 : Int32) < nI n := fun q => by
    rw [Int32.lt_iff_toInt_lt, nI_toInt (by omega), show (60 : Int32).toInt = 60 by decide] at q
    omega
  have c3 : nI n ≤ Int32.ofNat 60 := (nI_leI (a := n) (b := 60) (by omega) (by decide)).mpr hn
  have hin : inC 0 0 (nI n) 60 60 = true := by
    simp only [inC, nI_toInt (show n < 2 ^ 31 by omega), show (0 : Int32).toInt = 0 by decide, Bool.and_eq_true, decide_eq_true_eq]
    omega
  rw [h, if_neg c1, if_neg c2, hl, hl2, if_pos c3, hin, ck_n, cpy_n, wr_n, bd_n, ix_nI (by omega), show ix 0 = 0 from rfl]
  refine ⟨_, rfl, up_s, fun k hk => ?_, fun i hi => ?_, ?_⟩
  · rw [up_ne (by omega), cp_at, if_pos ⟨rfl, by omega, by omega⟩]
    congr 1
    omega
  · simp only [List.mem_cons, List.not_mem_nil, or_false] at hi
    funext k
    rw [up_ne (by omega), cp_at, if_neg (by omega)]
  · rw [up_n (by omega), cp_at, if_neg (by omega)]
def MC (o a : Nat) (μ μ' : Mem) : Prop :=
  (μ' o 10 = μ a 10 ∧ μ' o 11 = μ a 11 ∧ μ' o 12 = μ a 12 ∧ μ' o 13 = μ a 13 ∧ μ' o 14 = μ a 14) ∧
  (∀ c, c < 6 → μ' (o + 1) c = μ (a + 1) c ∧ μ' (o + 2) c = μ (a + 2) c ∧ μ' (o + 7) c = μ (a + 7) c) ∧
  (∀ c, c < 9 → μ' (o + 3) c = μ (a + 3) c ∧ μ' (o + 4) c = μ (a + 4) c ∧ μ' (o + 5) c = μ (a + 5) c ∧ μ' (o + 6) c = μ (a + 6) c) ∧
  (∀ c, c < 7 → μ' (o + 8) c = μ (a + 8) c)
theorem MR_copy {o a : Nat} {μ μ' : Mem} {r : Nat → Int32} (h : MR a μ r) (hc : MC o a μ μ') : MR o μ' r := by
  obtain ⟨⟨m1, m2, m3, m4, m5⟩, mp, mg, mb, mf⟩ := h
  obtain ⟨⟨c1, c2, c3, c4, c5⟩, c6, c9, c7⟩ := hc
  refine ⟨⟨c1.trans m1, c2.trans m2, c3.trans m3, c4.trans m4, c5.trans m5⟩, fun p hp => ?_, fun g hg => ?_, fun b hb => ?_, fun f hf => ?_⟩
  · exact ⟨(c6 p hp).1.trans (mp p hp).1, (c6 p hp).2.1.trans (mp p hp).2⟩
  · exact ⟨(c9 g hg).1.trans (mg g hg).1, (c9 g hg).2.1.trans (mg g hg).2.1, (c9 g hg).2.2.1.trans (mg g hg).2.2.1, (c9 g hg).2.2.2.trans (mg g hg).2.2.2⟩
  · exact (c6 b hb).2.2.trans (mb b hb)
  · exact (c7 f hf).trans (mf f hf)
theorem moor_copy_27_8 {μ : Mem} : ∃ μ', f_X2_copyOf 27 8 μ = some μ' ∧ MC 27 8 μ μ' ∧ sameC [27, 28, 29, 30, 31, 32, 33, 34, 35] μ μ' := by
  unfold f_X2_copyOf
  simp only [show inC 0 0 6 (ln true (8 + 1)) (ln true (27 + 1)) = true from by decide, show inC 0 0 6 (ln true (8 + 2)) (ln true (27 + 2)) = true from by decide, show inC 0 0 9 (ln true (8 + 3)) (ln true (27 + 3)) = true from by decide, show inC 0 0 9 (ln true (8 + 4)) (ln true (27 + 4)) = true from by decide, show inC 0 0 9 (ln true (8 + 5)) (ln true (27 + 5)) = true from by decide, show inC 0 0 9 (ln true (8 + 6)) (ln true (27 + 6)) = true from by decide, show inC 0 0 6 (ln true (8 + 7)) (ln true (27 + 7)) = true from by decide, show inC 0 0 7 (ln true (8 + 8)) (ln true (27 + 8)) = true from by decide, ck_n, cpy_n, wr_n, show ix 0 = 0 from rfl, show ix 6 = 6 from rfl, show ix 7 = 7 from rfl, show ix 9 = 9 from rfl]
  refine ⟨_, rfl, ⟨⟨?_, ?_, ?_, ?_, ?_⟩, fun c hc => ⟨?_, ?_, ?_⟩, fun c hc => ⟨?_, ?_, ?_, ?_⟩, fun c hc => ?_⟩, fun i hi => ?_⟩
  iterate 5 · simp [up, cp_at]
  iterate 8 · simp [up, cp_at, hc]
  · simp only [List.mem_cons, List.not_mem_nil, or_false] at hi
    funext k
    repeat rw [up_ne (by omega)]
    repeat rw [cp_at, if_neg (by omega)]
theorem moor_copy_8_27 {μ : Mem} : ∃ μ', f_X2_copyOf 8 27 μ = some μ' ∧ MC 8 27 μ μ' ∧ sameC [8, 9, 10, 11, 12, 13, 14, 15, 16] μ μ' := by
  unfold f_X2_copyOf
  simp only [show inC 0 0 6 (ln true (27 + 1)) (ln true (8 + 1)) = true from by decide, show inC 0 0 6 (ln true (27 + 2)) (ln true (8 + 2)) = true from by decide, show inC 0 0 9 (ln true (27 + 3)) (ln true (8 + 3)) = true from by decide, show inC 0 0 9 (ln true (27 + 4)) (ln true (8 + 4)) = true from by decide, show inC 0 0 9 (ln true (27 + 5)) (ln true (8 + 5)) = true from by decide, show inC 0 0 9 (ln true (27 + 6)) (ln true (8 + 6)) = true from by decide, show inC 0 0 6 (ln true (27 + 7)) (ln true (8 + 7)) = true from by decide, show inC 0 0 7 (ln true (27 + 8)) (ln true (8 + 8)) = true from by decide, ck_n, cpy_n, wr_n, show ix 0 = 0 from rfl, show ix 6 = 6 from rfl, show ix 7 = 7 from rfl, show ix 9 = 9 from rfl]
  refine ⟨_, rfl, ⟨⟨?_, ?_, ?_, ?_, ?_⟩, fun c hc => ⟨?_, ?_, ?_⟩, fun c hc => ⟨?_, ?_, ?_, ?_⟩, fun c hc => ?_⟩, fun i hi => ?_⟩
  iterate 5 · simp [up, cp_at]
  iterate 8 · simp [up, cp_at, hc]
  · simp only [List.mem_cons, List.not_mem_nil, or_false] at hi
    funext k
    repeat rw [up_ne (by omega)]
    repeat rw [cp_at, if_neg (by omega)]
theorem moor_copy_39_8 {μ : Mem} : ∃ μ', f_X2_copyOf 39 8 μ = some μ' ∧ MC 39 8 μ μ' ∧ sameC [39, 40, 41, 42, 43, 44, 45, 46, 47] μ μ' := by
  unfold f_X2_copyOf
  simp only [show inC 0 0 6 (ln true (8 + 1)) (ln true (39 + 1)) = true from by decide, show inC 0 0 6 (ln true (8 + 2)) (ln true (39 + 2)) = true from by decide, show inC 0 0 9 (ln true (8 + 3)) (ln true (39 + 3)) = true from by decide, show inC 0 0 9 (ln true (8 + 4)) (ln true (39 + 4)) = true from by decide, show inC 0 0 9 (ln true (8 + 5)) (ln true (39 + 5)) = true from by decide, show inC 0 0 9 (ln true (8 + 6)) (ln true (39 + 6)) = true from by decide, show inC 0 0 6 (ln true (8 + 7)) (ln true (39 + 7)) = true from by decide, show inC 0 0 7 (ln true (8 + 8)) (ln true (39 + 8)) = true from by decide, ck_n, cpy_n, wr_n, show ix 0 = 0 from rfl, show ix 6 = 6 from rfl, show ix 7 = 7 from rfl, show ix 9 = 9 from rfl]
  refine ⟨_, rfl, ⟨⟨?_, ?_, ?_, ?_, ?_⟩, fun c hc => ⟨?_, ?_, ?_⟩, fun c hc => ⟨?_, ?_, ?_, ?_⟩, fun c hc => ?_⟩, fun i hi => ?_⟩
  iterate 5 · simp [up, cp_at]
  iterate 8 · simp [up, cp_at, hc]
  · simp only [List.mem_cons, List.not_mem_nil, or_false] at hi
    funext k
    repeat rw [up_ne (by omega)]
    repeat rw [cp_at, if_neg (by omega)]
