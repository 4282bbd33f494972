/-! ways, cuts and odds -/
theorem tbr0 {v : Int32} {j : Nat} (h : j < 9) : jshr v (nI j) &&& 1 = 0 ↔ tb v j = false := by
  have e1 : (1 : Int32).toBitVec = BitVec.twoPow 32 0 := by decide
  have es : (jshr v (nI j)).toBitVec = v.toBitVec.sshiftRight j := by
    show (v >>> (nI j &&& 31)).toBitVec = _
    rw [Int32.toBitVec_shiftRight]
    rcases (show j = 0 ∨ j = 1 ∨ j = 2 ∨ j = 3 ∨ j = 4 ∨ j = 5 ∨ j = 6 ∨ j = 7 ∨ j = 8 by omega) with rfl | rfl | rfl | rfl | rfl | rfl | rfl | rfl | rfl <;> rfl
  rw [← Int32.toBitVec_inj, Int32.toBitVec_and, es, e1, BitVec.and_twoPow, BitVec.getLsbD_sshiftRight]
  unfold tb
  rw [show (!decide (32 ≤ 0) && if j + 0 < 32 then v.toBitVec.getLsbD (j + 0) else v.toBitVec.msb) = v.toBitVec.getLsbD j by rw [if_pos (by omega)]; rfl]
  cases v.toBitVec.getLsbD j with
  | false => simp
  | true => simp; decide
theorem all_n : ∀ n, n < 10 → jshl 1 (nI n) - 1 = nI (2 ^ n - 1) := by decide
theorem all_tb : ∀ n, n < 10 → ∀ j, j < n → tb (-1) j = tb (nI (2 ^ n - 1)) j := by decide
theorem all_at {ng : Nat} {ν : Mem} (h3 : ν 1 3 = nI ng) (hng : ng ≤ 9) : f_X9_all ν = nI (2 ^ ng - 1) := by
  unfold f_X9_all
  rw [show ix 3 = 3 from rfl, h3]
  exact all_n ng (by omega)
theorem way_loop {ng d : Nat} {μ ν : Mem} (h : VW 8 μ ν) (h3 : ν 1 3 = nI ng) (hng : ng ≤ 9) (hd : d < 7) : ∀ f j a, a < 128 → j ≤ 7 → 8 ≤ f + j → ∃ r, f_X2_steps_7 8 μ f (nI d) (nI a) (nI j) = some r ∧ ((0 ≤ r ∧ f_X9_way_28 f (nI d) (nI a) (nI j) ν = some (r, ν)) ∨ (¬ 0 ≤ r ∧ f_X9_way_28 f (nI d) (nI a) (nI j) ν = f_X9_error (-1000000002) ν)) := by
  intro f
  induction f with
  | zero => intro j a ha hj hf; omega
  | succ f ih =>
    intro j a ha hj hf
    unfold f_X2_steps_7 f_X9_way_28
    by_cases q : 7 ≤ j
    · have q' := (le7 (show j < 2 ^ 31 by omega)).mpr q
      rw [if_pos q', if_pos q']
      unfold f_X9_way_63
      exact ⟨-1, rfl, Or.inr ⟨by decide, bd2_id⟩⟩
    · have q' : ¬ (7 : Int32) ≤ nI j := fun e => q ((le7 (show j < 2 ^ 31 by omega)).mp e)
      rw [if_neg q', if_neg q']
      simp only [tbl (v := nI a) (show d < 9 by omega), tbr (v := nI a) (show d < 9 by omega)]
      obtain ⟨b, b1, b2, b3, b4⟩ := onward_both (a := a) (m1 := -1) (m2 := f_X9_all ν) h h3 hng (fun i hi => by rw [all_at h3 hng]; exact all_tb ng (by omega) i hi) ha
      cases hb : tb (nI a) d with
      | false =>
        rw [if_pos rfl, if_neg (by decide), b1, b2, bd_n, bd_n, nI_1]
        exact ih (j + 1) b b3 (by omega) (by omega)
      | true =>
        rw [if_neg (by decide), if_pos rfl]
        have e0 : (0 : Int32) ≤ nI j ↔ 0 ≤ j := nI_leI (a := 0) (by decide) (by omega)
        exact ⟨nI j, rfl, Or.inl ⟨e0.mpr (by omega), rfl⟩⟩
theorem sim_way : Sim_way Sim := by
  intro v1 v2 μ ν h
  obtain ⟨-, ⟨-, ⟨ng, hng, e3⟩, -⟩, -⟩ := id h.1
  unfold f_X8_way f_X9_way f_X8_way_14 f_X9_way_14
  rw [isField8_rg, isField9_rg, isField8_rg, isField9_rg, show 1 + 7 = 8 from rfl]
  simp only [bd2_id]
  have he := err1 h
  by_cases c1 : inb v1 7 = true
  · by_cases c2 : inb v2 7 = true
    · obtain ⟨c, hc, rfl⟩ := rg_of c1 (by decide)
      obtain ⟨d, hd, rfl⟩ := rg_of c2 (by decide)
      simp only [c1, c2, if_true, if_neg (show ¬ (1 : Int32) = 0 by decide)]
      unfold f_X2_steps
      rw [shl_one (show c < 9 by omega)]
      obtain ⟨r, r1, r2⟩ := way_loop (VW_sim h) e3 hng hd 2000 0 (2 ^ c) (Nat.pow_lt_pow_right (a := 2) (m := c) (n := 7) (by decide) hc) (by omega) (by omega)
      rw [show nI 0 = 0 from rfl] at r1 r2
      rw [r1, bd_n]
      rcases r2 with ⟨r3, r4⟩ | ⟨r3, r4⟩
      · rw [if_pos r3, r4]
        exact ⟨_, _, _, rfl, rfl, h⟩
      · rw [if_neg r3, r4]
        exact err2 h
    · simp only [c1, c2, if_true, if_neg (show ¬ (1 : Int32) = 0 by decide), if_false, Bool.false_eq_true]
      exact he
  · simp only [c1, if_true, if_false, Bool.false_eq_true]
    exact he
/-! cut -/
theorem onward_zero {ng a : Nat} {m : Int32} {ν : Mem} (h3 : ν 1 3 = nI ng) (hng : ng ≤ 9) (hm : ∀ j, j < ng → tb m j = false) : ∀ f j, j ≤ ng → 10 ≤ f + j → f_X9_onward_5 ν f (nI a) m (nI a) (nI j) = some (nI a) := by
  intro f
  induction f with
  | zero => intro j hj hf; omega
  | succ f ih =>
    intro j hj hf
    unfold f_X9_onward_5
    rw [show ix 3 = 3 from rfl, h3]
    by_cases q : ng ≤ j
    · have q' : nI ng ≤ nI j := (nI_leI (by omega) (by omega)).mpr q
      rw [if_pos q']
    · have q' : ¬ nI ng ≤ nI j := fun e => q ((nI_leI (by omega) (by omega)).mp e)
      have a0 := about_at (g := j) (w := 0) (ν := ν) (by omega)
      have a1 := about_at (g := j) (w := 1) (ν := ν) (by omega)
      rw [show nI 0 = 0 from rfl, Nat.add_zero] at a0
      rw [show nI 1 = 1 from rfl] at a1
      have t : ¬ (jshr m (nI j) &&& 1 = 1) := fun e => by
        have := (tbr (show j < 9 by omega)).mp e
        rw [hm j (by omega)] at this
        exact absurd this (by decide)
      rw [if_neg q', a0, a1, bd_n, bd_n, if_neg t]
      unfold f_X9_onward_60 f_X9_onward_61
      rw [nI_1, Int32.or_zero]
      exact ih (j + 1) (by omega) (by omega)
theorem roams_zero {ng c : Nat} {m : Int32} {ν : Mem} (h3 : ν 1 3 = nI ng) (hng : ng ≤ 9) (hm : ∀ j, j < ng → tb m j = false) (hc : c < 7) : f_X9_roamsBy (nI c) m ν = some (nI (2 ^ c)) := by
  unfold f_X9_roamsBy
  rw [shl_one (show c < 9 by omega)]
  have h1 : 2 ^ c < 128 := Nat.pow_lt_pow_right (a := 2) (m := c) (n := 7) (by decide) hc
  have h0 : 2 ^ c ≠ 0 := by have := Nat.pow_pos (n := c) (show 0 < 2 by decide); omega
  have on : f_X9_onward (nI (2 ^ c)) m ν = some (nI (2 ^ c)) := onward_zero h3 hng hm 2000 0 (by omega) (by omega)
  have ne : ¬ nI (2 ^ c) = 0 := fun e => h0 ((nI_inj (b := 0) (by omega) (by decide)).mp e)
  have two : ∀ f, f_X9_roamsBy_7 ν (f + 2) m (nI (2 ^ c)) 0 = some (nI (2 ^ c)) := by
    intro f
    unfold f_X9_roamsBy_7
    rw [if_neg ne, on, bd_n]
    unfold f_X9_roamsBy_7
    rw [if_pos rfl]
  exact two 1998
def bitsOk (x : Nat) : Bool := decide (f_X9_bits (nI x) = some (f_J6_bitCount (nI x)))
theorem bits_all : (List.range 512).all bitsOk = true := by decide +kernel
theorem bits_at {x : Nat} (h : x < 512) : f_X9_bits (nI x) = some (f_J6_bitCount (nI x)) := by
  have := List.all_eq_true.mp bits_all x (List.mem_range.mpr h)
  exact of_decide_eq_true this
def bcOk (n : Nat) : Bool := (List.range (2 ^ n - 1)).all fun x => decide (f_J6_bitCount (nI x) < f_J6_bitCount (nI (2 ^ n - 1)))
theorem bc_all : (List.range 10).all bcOk = true := by decide +kernel
theorem bc_lt {n x : Nat} (hn : n ≤ 9) (h : x < 2 ^ n - 1) : f_J6_bitCount (nI x) < f_J6_bitCount (nI (2 ^ n - 1)) := by
  have h1 := List.all_eq_true.mp bc_all n (List.mem_range.mpr (by omega))
  exact of_decide_eq_true (List.all_eq_true.mp h1 x (List.mem_range.mpr h))
theorem mask_self : ∀ n, n < 10 → ∀ j, j < n → tb (nI (2 ^ n - 1) &&& (nI (2 ^ n - 1) ^^^ -1)) j = false := by decide
theorem pow_tb : ∀ c, c < 7 → ∀ d, d < 7 → c ≠ d → tb (nI (2 ^ c)) d = false := by decide
theorem cut_loop {ng c d : Nat} {v3 : Int32} {μ ν : Mem} (h : VW 8 μ ν) (h3 : ν 1 3 = nI ng) (hng : ng ≤ 9) (hc : c < 7) (hd : d < 7) (hcd : c ≠ d) (hN : 2 ^ ng - 1 < 512) : ∀ f j e (w : Int32), j ≤ 2 ^ ng → 514 ≤ f + j → e ≤ 2 ^ ng - 1 → (w = nI e ∨ (w = -1 ∧ e = 2 ^ ng - 1 ∧ j ≤ 2 ^ ng - 1)) → ∃ x, x < 512 ∧ f_X2_leastCut_15 8 μ f (nI c) (nI d) (nI (2 ^ ng - 1)) (nI e) (nI j) = some (nI x) ∧ f_X9_cut_30 f (nI c) (nI d) v3 w (nI j) ν = f_X9_cut_105 v3 (nI x) ν := by
  have hp : 0 < 2 ^ ng := Nat.pow_pos (by decide)
  intro f
  induction f with
  | zero => intro j e w hj hf he hw; omega
  | succ f ih =>
    intro j e w hj hf he hw
    unfold f_X2_leastCut_15 f_X9_cut_30
    rw [all_at h3 hng]
    by_cases q : 2 ^ ng - 1 < j
    · have q' : nI (2 ^ ng - 1) < nI j := (nI_ltI (by omega) (by omega)).mpr q
      rw [if_pos q', if_pos q']
      rcases hw with rfl | ⟨-, -, hh⟩
      · exact ⟨e, by omega, rfl, rfl⟩
      · omega
    · have q' : ¬ nI (2 ^ ng - 1) < nI j := fun k => q ((nI_ltI (by omega) (by omega)).mp k)
      rw [if_neg q', if_neg q']
      -- the test of both sides
      have test : ∀ w', (w' = nI e ∨ (w' = -1 ∧ e = 2 ^ ng - 1 ∧ j < 2 ^ ng - 1)) → ∃ x, x < 512 ∧ f_X2_leastCut_39 (f_X2_leastCut_15 8 μ f) 8 μ (nI c) (nI d) (nI (2 ^ ng - 1)) (nI e) (nI j) 1 = some (nI x) ∧ f_X9_cut_62 (f_X9_cut_30 f) (nI c) (nI d) v3 w' (nI j) 1 ν = f_X9_cut_105 v3 (nI x) ν := by
        intro w' hw'
        unfold f_X2_leastCut_39 f_X9_cut_62 f_X9_cut_95
        rw [if_neg (show ¬ (1 : Int32) = 0 by decide), if_neg (show ¬ (1 : Int32) = 0 by decide), all_at h3 hng]
        obtain ⟨r, hr, r1, r2⟩ := roams_both (c := c) (m := nI (2 ^ ng - 1) &&& (nI j ^^^ -1)) h h3 hng hc
        rw [r1, r2, bd_n, bd_n]
        simp only [tbl (v := nI r) (show d < 9 by omega), tbr0 (v := nI r) (show d < 9 by omega)]
        cases hb : tb (nI r) d with
        | false =>
          rw [if_pos rfl, if_pos rfl, nI_1]
          exact ih (j + 1) j (nI j) (by omega) (by omega) (by omega) (Or.inl rfl)
        | true =>
          rw [if_neg (by decide), if_neg (by decide), nI_1]
          exact ih (j + 1) e w' (by omega) (by omega) he (hw'.imp id (fun ⟨a, b, k⟩ => ⟨a, b, by omega⟩))
      have skip : ∀ w', w' = nI e → ∃ x, x < 512 ∧ f_X2_leastCut_39 (f_X2_leastCut_15 8 μ f) 8 μ (nI c) (nI d) (nI (2 ^ ng - 1)) (nI e) (nI j) 0 = some (nI x) ∧ f_X9_cut_62 (f_X9_cut_30 f) (nI c) (nI d) v3 w' (nI j) 0 ν = f_X9_cut_105 v3 (nI x) ν := by
        intro w' hw'
        unfold f_X2_leastCut_39 f_X9_cut_62 f_X9_cut_95
        rw [if_pos rfl, if_pos rfl, nI_1]
        exact ih (j + 1) e w' (by omega) (by omega) he (Or.inl hw')
      rcases hw with rfl | ⟨rfl, rfl, hh⟩
      · have n0 : ¬ nI e < 0 := fun k => by
          rw [Int32.lt_iff_toInt_lt, nI_toInt (by omega), show (0 : Int32).toInt = 0 by decide] at k
          omega
        rw [if_neg n0, bits_at (show j < 512 by omega), bits_at (show e < 512 by omega), bd_n, bd_n]
        unfold f_X9_cut_57
        by_cases k : f_J6_bitCount (nI e) ≤ f_J6_bitCount (nI j)
        · rw [if_pos k, if_pos k]
          exact skip _ rfl
        · rw [if_neg k, if_neg k]
          exact test _ (Or.inl rfl)
      · rw [if_pos neg1]
        unfold f_X9_cut_57
        by_cases k : j < 2 ^ ng - 1
        · have lt := bc_lt hng k
          rw [if_neg (lt_le.mp lt)]
          exact test _ (Or.inr ⟨rfl, rfl, k⟩)
        · obtain rfl : j = 2 ^ ng - 1 := by omega
          rw [if_pos (Int32.le_refl _)]
          obtain ⟨x, hx, x1, x2⟩ := skip (nI (2 ^ ng - 1)) rfl
          refine ⟨x, hx, x1, ?_⟩
          rw [← x2]
          unfold f_X9_cut_62 f_X9_cut_95
          rw [if_neg (show ¬ (1 : Int32) = 0 by decide), if_pos rfl, all_at h3 hng, roams_zero h3 hng (fun i hi => mask_self ng (by omega) i hi) hc, bd_n]
          simp only [tbr0 (v := nI (2 ^ c)) (show d < 9 by omega), pow_tb c hc d hd hcd, if_true]
theorem sim_cut : Sim_cut Sim := by
  intro v1 v2 v3 μ ν h
  obtain ⟨⟨⟨m1, m2, m3, m4, m5⟩, -⟩, ⟨-, ⟨ng, hng, e3⟩, -⟩, -⟩ := id h.1
  have p11 : μ 8 11 = nI ng := m2.trans e3
  unfold f_X8_cut f_X9_cut f_X8_cut_17 f_X9_cut_17 f_X8_areTwoFields f_X9_areTwo
  rw [isField8_rg, isField9_rg, isField8_rg, isField9_rg, show 1 + 7 = 8 from rfl, hi_rg (n := 2) (by decide), in_rg (v := v3) (n := 2) (by decide)]
  simp only [bd2_id]
  have he := err1 h
  by_cases c1 : inb v1 7 = true
  · by_cases c2 : inb v2 7 = true
    · obtain ⟨c, hc, rfl⟩ := rg_of c1 (by decide)
      obtain ⟨d, hd, rfl⟩ := rg_of c2 (by decide)
      simp only [c1, c2, if_true, if_neg (show ¬ (1 : Int32) = 0 by decide)]
      by_cases hcd : nI c = nI d
      · simp only [if_pos hcd, if_true]
        exact he
      · simp only [if_neg hcd, if_neg (show ¬ (1 : Int32) = 0 by decide)]
        by_cases c3 : inb v3 2 = true
        · simp only [c3, if_true, if_neg (show ¬ (1 : Int32) = 0 by decide)]
          have hp : 0 < 2 ^ ng := Nat.pow_pos (by decide)
          have hN : 2 ^ ng - 1 < 512 := by
            have := Nat.pow_le_pow_right (n := 2) (by decide) hng
            omega
          obtain ⟨x, hx, x1, x2⟩ := cut_loop (v3 := v3) (VW_sim h) e3 hng hc hd (fun e => hcd (by rw [e])) hN 2000 0 (2 ^ ng - 1) (-1) (by omega) (by omega) (by omega) (Or.inr ⟨rfl, rfl, by omega⟩)
          rw [show nI 0 = 0 from rfl] at x1 x2
          unfold f_X2_leastCut
          rw [p11, all_n ng (by omega), x1, x2, bd_n]
          unfold f_X9_cut_105
          by_cases z : v3 = 0
          · rw [if_pos z, if_pos z, bits_at hx, bd_n]
            exact ⟨_, _, _, rfl, rfl, h⟩
          · rw [if_neg z, if_neg z]
            exact ⟨_, _, _, rfl, rfl, h⟩
        · simp only [c3, if_true, if_false, Bool.false_eq_true]
          exact he
    · simp only [c1, c2, if_true, if_neg (show ¬ (1 : Int32) = 0 by decide), if_false, Bool.false_eq_true]
      exact he
  · simp only [c1, if_true, if_false, Bool.false_eq_true]
    exact he
/-! odds -/
theorem matter_loop {ng c : Nat} {v2 r1 r2 : Int32} {μ ν : Mem} (h : VW 8 μ ν) (h3 : ν 1 3 = nI ng) (hng : ng ≤ 9) (hc : c < 7) (ho : f_X9_opened ν = some r1) : ∀ f j k, k ≤ j → j ≤ ng → 10 ≤ f + j → ∃ x, x ≤ ng ∧ f_X2_gatesThatMatter_18 8 μ f (nI c) r1 r2 (nI k) (nI j) = some (nI x) ∧ f_X9_odds_58 f (nI c) v2 (nI ng) r2 (nI k) (nI j) ν = f_X9_odds_107 2000 v2 (nI ng) (nI x) (nI ng) ν := by
  intro f
  induction f with
  | zero => intro j k hk hj hf; omega
  | succ f ih =>
    intro j k hk hj hf
    have p11 : μ 8 11 = nI ng := h.1.1.2.1.trans h3
    unfold f_X2_gatesThatMatter_18 f_X9_odds_58
    rw [p11, show ix 3 = 3 from rfl, h3]
    by_cases q : ng ≤ j
    · have q' : nI ng ≤ nI j := (nI_leI (by omega) (by omega)).mpr q
      rw [if_pos q', if_pos q']
      exact ⟨k, by omega, rfl, rfl⟩
    · have q' : ¬ nI ng ≤ nI j := fun e => q ((nI_leI (by omega) (by omega)).mp e)
      obtain ⟨r, hr, r3, r4⟩ := roams_both (c := c) (m := r1 ||| jshl 1 (nI j)) h h3 hng hc
      rw [if_neg q', if_neg q', ho, bd_n, r3, r4, bd_n, bd_n]
      unfold f_X9_odds_95
      by_cases e : nI r = r2
      · rw [if_pos e, if_pos e, nI_1, show nI k + 0 = nI k by rw [Int32.add_zero]]
        exact ih (j + 1) k (by omega) (by omega) (by omega)
      · rw [if_neg e, if_neg e, nI_1, nI_1]
        exact ih (j + 1) (k + 1) (by omega) (by omega) (by omega)
theorem odds_map (a : Int32) (ν : Mem) : ∀ n b c d, f_X9_odds_107 n a b c d ν = (f_X9_odds_107 n a b c d zM).map fun p => (p.1, ν) := by
  intro n
  induction n with
  | zero => intro b c d; rfl
  | succ n ih =>
    intro b c d
    unfold f_X9_odds_107 f_X9_odds_146
    rw [ih, ih]
    cases nz d <;> unfold ck <;> repeat' split
    all_goals rfl
def oddsOk (g k : Nat) (a : Int32) : Bool :=
  match f_X8_commonDivisor (nI k) (nI g), f_X9_odds_107 2000 a (nI g) (nI k) (nI g) zM with
  | some d, some (r, _) => if d ≤ 1 then decide ((if a = 0 then nI k else nI g) = r) else nz d && decide ((if a = 0 then nI k else nI g) / d = r)
  | _, _ => false
theorem odds_all : ((List.range 10).all fun g => g == 0 || (List.range (g + 1)).all fun k => oddsOk g k 0 && oddsOk g k 1) = true := by decide +kernel
theorem odds_fin {g k : Nat} {a : Int32} (hg : g ≤ 9) (h0 : g ≠ 0) (hk : k ≤ g) (ha : a = 0 ∨ a = 1) (μ ν : Mem) : ∃ d r, f_X8_commonDivisor (nI k) (nI g) = some d ∧ f_X8_odds_74 d (if a = 0 then nI k else nI g) μ = some (r, μ) ∧ f_X9_odds_107 2000 a (nI g) (nI k) (nI g) ν = some (r, ν) := by
  have h1 := List.all_eq_true.mp odds_all g (List.mem_range.mpr (by omega))
  simp only [Bool.or_eq_true, beq_iff_eq, h0, false_or] at h1
  have h2 := List.all_eq_true.mp h1 k (List.mem_range.mpr (by omega))
  simp only [Bool.and_eq_true] at h2
  have h3 : oddsOk g k a = true := by rcases ha with rfl | rfl; exact h2.1; exact h2.2
  rw [odds_map]
  unfold oddsOk at h3
  cases e1 : f_X8_commonDivisor (nI k) (nI g) with
  | none => rw [e1] at h3; exact absurd h3 (by simp)
  | some d =>
    cases e2 : f_X9_odds_107 2000 a (nI g) (nI k) (nI g) zM with
    | none => rw [e1, e2] at h3; exact absurd h3 (by simp)
    | some p =>
      rw [e1, e2] at h3
      obtain ⟨r, m⟩ := p
      simp only at h3
      refine ⟨d, r, rfl, ?_, rfl⟩
      unfold f_X8_odds_74
      by_cases c : d ≤ 1
      · rw [if_pos c] at h3 ⊢
        rw [of_decide_eq_true h3]
      · rw [if_neg c, Bool.and_eq_true] at h3
        rw [if_neg c, ck_c h3.1, of_decide_eq_true h3.2]
theorem sim_odds : Sim_odds Sim := by
  intro v1 v2 μ ν h
  obtain ⟨⟨⟨m1, m2, m3, m4, m5⟩, -⟩, ⟨-, ⟨ng, hng, e3⟩, -⟩, -⟩ := id h.1
  have p11 : μ 8 11 = nI ng := m2.trans e3
  unfold f_X8_odds f_X9_odds f_X8_odds_16 f_X9_odds_16
  rw [isField8_rg, isField9_rg, show 1 + 7 = 8 from rfl, hi_rg (n := 2) (by decide), in_rg (v := v2) (n := 2) (by decide), p11, show ix 3 = 3 from rfl, e3]
  simp only [bd2_id]
  have he := err1 h
  have z1 : (0 : Int32) < nI ng ↔ 0 < ng := nI_ltI (a := 0) (by decide) (by omega)
  have z2 : nI ng = 0 ↔ ng = 0 := nI_inj (b := 0) (by omega) (by decide)
  by_cases c1 : inb v1 7 = true
  · by_cases c2 : inb v2 2 = true
    · obtain ⟨c, hc, rfl⟩ := rg_of c1 (by decide)
      simp only [c1, c2, if_true, if_neg (show ¬ (1 : Int32) = 0 by decide)]
      by_cases g0 : ng = 0
      · rw [if_neg (fun e => by have := z1.mp e; omega), if_pos (z2.mpr g0)]
        exact err3 h
      · rw [if_pos (z1.mpr (by omega)), if_neg (fun e => g0 (z2.mp e))]
        obtain ⟨r1, o1, o2⟩ := open_sim h
        obtain ⟨r2, -, q1, q2⟩ := roams_both (c := c) (m := r1) (VW_sim h) e3 hng hc
        obtain ⟨x, hx, x1, x2⟩ := matter_loop (v2 := v2) (r2 := nI r2) (VW_sim h) e3 hng hc o2 2000 0 0 (by omega) (by omega) (by omega)
        rw [show nI 0 = 0 from rfl] at x1 x2
        unfold f_X2_gatesThatMatter
        rw [o1, o2, bd_n, bd_n, q1, q2, bd_n, bd_n, x1, x2, bd_n]
        have hv : v2 = 0 ∨ v2 = 1 := by
          obtain ⟨w, hw, rfl⟩ := rg_of c2 (by decide)
          rcases (show w = 0 ∨ w = 1 by omega) with rfl | rfl
          · exact Or.inl rfl
          · exact Or.inr rfl
        obtain ⟨d, r, d1, d2, d3⟩ := odds_fin hng g0 hx hv μ ν
        rw [d1, bd_n, d3]
        refine ⟨r, μ, ν, ?_, rfl, h⟩
        rw [← d2]
        by_cases z : v2 = 0
        · rw [if_pos z, if_pos z]
        · rw [if_neg z, if_neg z]
    · simp only [c1, c2, if_true, if_neg (show ¬ (1 : Int32) = 0 by decide), if_false, Bool.false_eq_true]
      exact he
  · simp only [c1, if_true, if_false, Bool.false_eq_true]
    exact he
