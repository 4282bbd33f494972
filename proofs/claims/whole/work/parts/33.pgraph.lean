/-! FIELDS AND GATES -/
theorem nI_or (a b : Nat) : nI a ||| nI b = nI (a ||| b) := by
  apply Int32.toBitVec_inj.mp
  show BitVec.ofNat 32 a ||| BitVec.ofNat 32 b = BitVec.ofNat 32 (a ||| b)
  rw [BitVec.ofNat_or]
theorem nI_and (a b : Nat) : nI a &&& nI b = nI (a &&& b) := by
  apply Int32.toBitVec_inj.mp
  show BitVec.ofNat 32 a &&& BitVec.ofNat 32 b = BitVec.ofNat 32 (a &&& b)
  rw [BitVec.ofNat_and]
theorem shl_one {c : Nat} (h : c < 9) : jshl 1 (nI c) = nI (2 ^ c) := by
  rcases (show c = 0 ∨ c = 1 ∨ c = 2 ∨ c = 3 ∨ c = 4 ∨ c = 5 ∨ c = 6 ∨ c = 7 ∨ c = 8 by omega) with rfl | rfl | rfl | rfl | rfl | rfl | rfl | rfl | rfl <;> decide
/-- a bit -/
def tb (v : Int32) (j : Nat) : Bool := v.toBitVec.getLsbD j
theorem tbl {v : Int32} {j : Nat} (h : j < 9) : v &&& jshl 1 (nI j) = 0 ↔ tb v j = false := by
  have e : (jshl 1 (nI j)).toBitVec = BitVec.twoPow 32 j := by
    rcases (show j = 0 ∨ j = 1 ∨ j = 2 ∨ j = 3 ∨ j = 4 ∨ j = 5 ∨ j = 6 ∨ j = 7 ∨ j = 8 by omega) with rfl | rfl | rfl | rfl | rfl | rfl | rfl | rfl | rfl <;> decide
  rw [← Int32.toBitVec_inj, Int32.toBitVec_and, e, BitVec.and_twoPow]
  unfold tb
  cases v.toBitVec.getLsbD j with
  | false => simp
  | true =>
    simp only [if_true, Bool.true_eq_false, iff_false]
    rcases (show j = 0 ∨ j = 1 ∨ j = 2 ∨ j = 3 ∨ j = 4 ∨ j = 5 ∨ j = 6 ∨ j = 7 ∨ j = 8 by omega) with rfl | rfl | rfl | rfl | rfl | rfl | rfl | rfl | rfl <;> decide
theorem tbr {v : Int32} {j : Nat} (h : j < 9) : jshr v (nI j) &&& 1 = 1 ↔ tb v j = true := by
  have e1 : (1 : Int32).toBitVec = BitVec.twoPow 32 0 := by decide
  have es : (jshr v (nI j)).toBitVec = v.toBitVec.sshiftRight j := by
    show (v >>> (nI j &&& 31)).toBitVec = _
    rw [Int32.toBitVec_shiftRight]
    rcases (show j = 0 ∨ j = 1 ∨ j = 2 ∨ j = 3 ∨ j = 4 ∨ j = 5 ∨ j = 6 ∨ j = 7 ∨ j = 8 by omega) with rfl | rfl | rfl | rfl | rfl | rfl | rfl | rfl | rfl <;> rfl
  rw [← Int32.toBitVec_inj, Int32.toBitVec_and, es, e1, BitVec.and_twoPow, BitVec.getLsbD_sshiftRight]
  unfold tb
  rw [show (!decide (32 ≤ 0) && if j + 0 < 32 then v.toBitVec.getLsbD (j + 0) else v.toBitVec.msb) = v.toBitVec.getLsbD j by rw [if_pos (by omega)]; rfl]
  cases v.toBitVec.getLsbD j with
  | false => simp; decide
  | true => simp
def pop7 (a : Nat) : Nat := (a.testBit 0).toNat + (a.testBit 1).toNat + (a.testBit 2).toNat + (a.testBit 3).toNat + (a.testBit 4).toNat + (a.testBit 5).toNat + (a.testBit 6).toNat
theorem pop_lt {a b : Nat} (ha : a < 128) (hb : b < 128) (h : a ||| b = b) (hn : b ≠ a) : pop7 a + 1 ≤ pop7 b := by
  have le : ∀ i, (a.testBit i).toNat ≤ (b.testBit i).toNat := fun i => by
    have e := congrArg (fun x => Nat.testBit x i) h
    simp only [Nat.testBit_or] at e
    cases h1 : a.testBit i <;> cases h2 : b.testBit i <;> simp_all
  by_cases q : pop7 a + 1 ≤ pop7 b
  · exact q
  · exfalso
    apply hn
    unfold pop7 at q
    have l0 := le 0; have l1 := le 1; have l2 := le 2; have l3 := le 3; have l4 := le 4; have l5 := le 5; have l6 := le 6
    have inj : ∀ {x y : Bool}, x.toNat = y.toNat → x = y := by decide
    apply Nat.eq_of_testBit_eq
    intro i
    by_cases hi : i < 7
    · rcases (show i = 0 ∨ i = 1 ∨ i = 2 ∨ i = 3 ∨ i = 4 ∨ i = 5 ∨ i = 6 by omega) with rfl | rfl | rfl | rfl | rfl | rfl | rfl <;> exact inj (by omega)
    · rw [Nat.testBit_lt_two_pow (show b < 2 ^ i from Nat.lt_of_lt_of_le (show b < 2 ^ 7 from hb) (Nat.pow_le_pow_right (by decide) (by omega))), Nat.testBit_lt_two_pow (show a < 2 ^ i from Nat.lt_of_lt_of_le (show a < 2 ^ 7 from ha) (Nat.pow_le_pow_right (by decide) (by omega)))]
theorem pop_le {a : Nat} : pop7 a ≤ 7 := by
  unfold pop7
  have : ∀ x : Bool, x.toNat ≤ 1 := by decide
  have l0 := this (a.testBit 0); have l1 := this (a.testBit 1); have l2 := this (a.testBit 2); have l3 := this (a.testBit 3); have l4 := this (a.testBit 4); have l5 := this (a.testBit 5); have l6 := this (a.testBit 6)
  omega
theorem pop_pos {a : Nat} (ha : a < 128) (h : a ≠ 0) : 1 ≤ pop7 a := by
  have := pop_lt (a := 0) (b := a) (by decide) ha (by simp) h
  omega
theorem onward_loop {o ng a : Nat} {m1 m2 : Int32} {μ ν : Mem} (h : VW o μ ν) (h3 : ν 1 3 = nI ng) (hng : ng ≤ 9) (hm : ∀ j, j < ng → tb m1 j = tb m2 j) : ∀ f j s, s < 128 → j ≤ ng → 10 ≤ f + j → ∃ b, f_X2_further_5 o μ f (nI a) m1 (nI s) (nI j) = some (nI b) ∧ f_X9_onward_5 ν f (nI a) m2 (nI s) (nI j) = some (nI b) ∧ b < 128 ∧ s ||| b = b := by
  intro f
  induction f with
  | zero => intro j s hs hj hf; omega
  | succ f ih =>
    intro j s hs hj hf
    obtain ⟨⟨⟨m1', m2', m3, m4, m5⟩, mp, mg, -, -⟩, ⟨-, -, -, -, -, wg, -⟩, -⟩ := id h
    have p11 : μ o 11 = nI ng := m2'.trans h3
    unfold f_X2_further_5 f_X9_onward_5
    rw [p11, show ix 3 = 3 from rfl, h3]
    by_cases q : ng ≤ j
    · have q' : nI ng ≤ nI j := (nI_leI (by omega) (by omega)).mpr q
      rw [if_pos q', if_pos q']
      exact ⟨_, rfl, rfl, hs, Nat.or_self s⟩
    · have q' : ¬ nI ng ≤ nI j := fun e => q ((nI_leI (by omega) (by omega)).mp e)
      obtain ⟨g1, g2, -, -⟩ := mg j (by omega)
      obtain ⟨w1, w2, -⟩ := wg j (by omega)
      obtain ⟨c, hc, e1⟩ := rg_of w1 (by decide)
      obtain ⟨d, hd, e2⟩ := rg_of w2 (by decide)
      have a0 := about_at (g := j) (w := 0) (ν := ν) (by omega)
      have a1 := about_at (g := j) (w := 1) (ν := ν) (by omega)
      rw [show nI 0 = 0 from rfl, Nat.add_zero] at a0
      rw [show nI 1 = 1 from rfl] at a1
      have hx : 2 ^ c ||| 2 ^ d < 128 := Nat.or_lt_two_pow (n := 7) (Nat.pow_lt_pow_right (by decide) hc) (Nat.pow_lt_pow_right (by decide) hd)
      rw [if_neg q', if_neg q', ck_c (inb_nI (show j < 9 by omega) (by decide)), ck_c (inb_nI (show j < 9 by omega) (by decide)), ix_nI (show j < 2 ^ 31 by omega), a0, a1, bd_n, bd_n, g1, g2, e1, e2, shl_one (show c < 9 by omega), shl_one (show d < 9 by omega), nI_or]
      unfold nm
      simp only [tbl (v := m1) (show j < 9 by omega), tbr (v := m2) (show j < 9 by omega), hm j (by omega)]
      unfold f_X9_onward_60 f_X9_onward_61
      rw [nI_1, Int32.or_zero, nI_or]
      have keep := ih (j + 1) s hs (by omega) (by omega)
      cases hb : tb m2 j with
      | false =>
        rw [if_pos rfl, if_neg (by decide)]
        exact keep
      | true =>
        rw [if_neg (by decide), if_pos rfl]
        by_cases z : nI a &&& nI (2 ^ c ||| 2 ^ d) = 0
        · rw [if_pos z, if_pos z]
          exact keep
        · rw [if_neg z, if_neg z]
          obtain ⟨b, r1, r2, r3, r4⟩ := ih (j + 1) (s ||| (2 ^ c ||| 2 ^ d)) (Nat.or_lt_two_pow (n := 7) hs hx) (by omega) (by omega)
          refine ⟨b, r1, r2, r3, ?_⟩
          rw [← r4, ← Nat.or_assoc, ← Nat.or_assoc, Nat.or_self]
theorem onward_both {o ng a : Nat} {m1 m2 : Int32} {μ ν : Mem} (h : VW o μ ν) (h3 : ν 1 3 = nI ng) (hng : ng ≤ 9) (hm : ∀ j, j < ng → tb m1 j = tb m2 j) (ha : a < 128) : ∃ b, f_X2_further o (nI a) m1 μ = some (nI b) ∧ f_X9_onward (nI a) m2 ν = some (nI b) ∧ b < 128 ∧ a ||| b = b := by
  unfold f_X2_further f_X9_onward
  exact onward_loop h h3 hng hm 2000 0 a ha (by omega) (by omega)
theorem nI_inj {a b : Nat} (ha : a < 2 ^ 31) (hb : b < 2 ^ 31) : nI a = nI b ↔ a = b := by
  refine ⟨fun e => ?_, fun e => by rw [e]⟩
  have := congrArg Int32.toInt e
  rw [nI_toInt ha, nI_toInt hb] at this
  omega
theorem roams_loop {o ng : Nat} {m : Int32} {μ ν : Mem} (h : VW o μ ν) (h3 : ν 1 3 = nI ng) (hng : ng ≤ 9) : ∀ f v4 a p, a < 128 → p < 128 → p ≠ a → 1 ≤ v4 → v4 ≤ pop7 a → v4 ≤ 7 → 10 ≤ f + v4 → ∃ r, r < 128 ∧ f_X2_reached_7 o μ f m (nI a) (nI v4) = some (nI r) ∧ f_X9_roamsBy_7 ν (f + 1) m (nI a) (nI p) = some (nI r) := by
  intro f
  induction f with
  | zero => intro v4 a p ha hp hpa h1 h2 h7 hf; omega
  | succ f ih =>
    intro v4 a p ha hp hpa h1 h2 h7 hf
    obtain ⟨b, b1, b2, b3, b4⟩ := onward_both (m1 := m) (m2 := m) h h3 hng (fun _ _ => rfl) ha
    unfold f_X2_reached_7 f_X9_roamsBy_7
    rw [if_neg (fun e => hpa ((nI_inj (by omega) (by omega)).mp e).symm), b2, bd_n]
    have fix : b = a → ∃ g, f + 1 = g + 1 ∧ f_X9_roamsBy_7 ν (g + 1) m (nI b) (nI a) = some (nI a) := fun e => ⟨f, rfl, by unfold f_X9_roamsBy_7; rw [if_pos (by rw [e]), e]⟩
    by_cases c : 7 ≤ v4
    · rw [if_pos ((le7 (by omega)).mpr c)]
      by_cases e : b = a
      · obtain ⟨g, -, e2⟩ := fix e
        unfold f_X9_roamsBy_7
        rw [if_pos (by rw [e])]
        exact ⟨a, ha, rfl, by rw [e]⟩
      · have := pop_lt ha b3 b4 e
        have := pop_le (a := b)
        omega
    · rw [if_neg (fun q => c ((le7 (by omega)).mp q)), b1, bd_n]
      by_cases e : b = a
      · rw [if_pos (by rw [e])]
        unfold f_X9_roamsBy_7
        rw [if_pos (by rw [e])]
        exact ⟨a, ha, rfl, by rw [e]⟩
      · rw [if_neg (fun q => e ((nI_inj (by omega) (by omega)).mp q)), nI_1]
        have := pop_lt ha b3 b4 e
        exact ih (v4 + 1) b a b3 ha (fun q => e q.symm) (by omega) (by omega) (by omega) (by omega)
theorem roams_both {o ng c : Nat} {m : Int32} {μ ν : Mem} (h : VW o μ ν) (h3 : ν 1 3 = nI ng) (hng : ng ≤ 9) (hc : c < 7) : ∃ r, r < 128 ∧ f_X2_reached o (nI c) m μ = some (nI r) ∧ f_X9_roamsBy (nI c) m ν = some (nI r) := by
  unfold f_X2_reached f_X9_roamsBy
  rw [shl_one (show c < 9 by omega)]
  have h1 : 2 ^ c < 128 := Nat.pow_lt_pow_right (a := 2) (m := c) (n := 7) (by decide) hc
  have h0 : 2 ^ c ≠ 0 := by have := Nat.pow_pos (n := c) (show 0 < 2 by decide); omega
  have hp := pop_pos h1 h0
  obtain ⟨r, hr, r1, r2⟩ := roams_loop (m := m) h h3 hng 1999 1 (2 ^ c) 0 h1 (by decide) (fun e => h0 e.symm) (by decide) hp (by decide) (by decide)
  refine ⟨r, hr, ?_, r2⟩
  obtain ⟨r', hr', r1', r2'⟩ := roams_loop (m := m) h h3 hng 2000 1 (2 ^ c) 0 h1 (by decide) (fun e => h0 e.symm) (by decide) hp (by decide) (by decide)
  have : ∀ f a p r, f_X9_roamsBy_7 ν f m a p = some r → f_X9_roamsBy_7 ν (f + 1) m a p = some r := by
    intro f
    induction f with
    | zero => intro a p r e; exact absurd e (by simp [f_X9_roamsBy_7])
    | succ f ih =>
      intro a p r e
      unfold f_X9_roamsBy_7 at e ⊢
      by_cases d : a = p
      · rw [if_pos d] at e ⊢; exact e
      · rw [if_neg d] at e ⊢
        cases k : f_X9_onward a m ν with
        | none => rw [k] at e; exact e
        | some x => rw [k, bd_n] at e; rw [bd_n]; exact ih _ _ _ e
  have e := this 2000 _ _ _ r2
  rw [r2'] at e
  exact r1'.trans e
theorem sim_roams : Sim_roams Sim := by
  intro v1 μ ν h
  obtain ⟨-, ⟨-, ⟨ng, hng, e3⟩, -⟩, -⟩ := id h.1
  unfold f_X8_roams f_X9_roams
  rw [isField8_rg, isField9_rg, show 1 + 7 = 8 from rfl]
  simp only [bd2_id]
  by_cases c : inb v1 7 = true
  · obtain ⟨f, hf, rfl⟩ := rg_of c (by decide)
    obtain ⟨r, r1, r2⟩ := open_sim h
    obtain ⟨x, -, x1, x2⟩ := roams_both (c := f) (m := r) (VW_sim h) e3 hng hf
    rw [if_pos c, if_neg (show ¬ (1 : Int32) = 0 by decide), if_neg (show ¬ (1 : Int32) = 0 by decide), r1, r2, bd_n, bd_n, x1, x2, bd_n, bd_n]
    exact ⟨_, _, _, rfl, rfl, h⟩
  · rw [if_neg c, if_pos rfl, if_pos rfl]
    exact err1 h
