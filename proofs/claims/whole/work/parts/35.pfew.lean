/-! BY HOW FEW all can be held -/
theorem nI_xor (a b : Nat) : nI a ^^^ nI b = nI (a ^^^ b) := by
  apply Int32.toBitVec_inj.mp
  show BitVec.ofNat 32 a ^^^ BitVec.ofNat 32 b = BitVec.ofNat 32 (a ^^^ b)
  rw [BitVec.ofNat_xor]
theorem andnot {s t : Nat} (h : t &&& s = t) : nI s &&& (nI t ^^^ -1) = nI (s ^^^ t) := by
  rw [← nI_xor]
  apply Int32.toBitVec_inj.mp
  show BitVec.ofNat 32 s &&& (BitVec.ofNat 32 t ^^^ BitVec.allOnes 32) = BitVec.ofNat 32 s ^^^ BitVec.ofNat 32 t
  apply BitVec.eq_of_getLsbD_eq
  intro i hi
  have e := congrArg (fun x => Nat.testBit x i) h
  simp only [Nat.testBit_and] at e
  simp only [BitVec.getLsbD_and, BitVec.getLsbD_xor, BitVec.getLsbD_allOnes, BitVec.getLsbD_ofNat, hi, decide_true, Bool.true_and]
  cases h1 : s.testBit i <;> cases h2 : t.testBit i <;> simp_all
theorem up_up {μ : Mem} {i j : Nat} {a b : Int32} : up (up μ i j a) i j b = up μ i j b := by
  funext x y
  by_cases h : x = i ∧ y = j
  · obtain ⟨rfl, rfl⟩ := h; rw [up_s, up_s]
  · rw [up_n h, up_n h, up_n h]
/-- the least number for one set, out of its parts -/
def SB (old L : Nat → Int32) (room : Int32) (s : Nat) : Nat → Nat → Int32 → Int32
  | 0, _, a => a
  | n + 1, t, a => if t = 0 then a else SB old L room s n ((t - 1) &&& s) (if room < L t then a else jmin a (old (s ^^^ t) + 1))
theorem xor_sub {s t : Nat} (h : t &&& s = t) (h0 : t ≠ 0) : s ^^^ t < s := by
  have le : (s ^^^ t) &&& s = s ^^^ t := by
    apply Nat.eq_of_testBit_eq
    intro i
    have e := congrArg (fun x => Nat.testBit x i) h
    simp only [Nat.testBit_and] at e
    simp only [Nat.testBit_and, Nat.testBit_xor]
    cases h1 : s.testBit i <;> cases h2 : t.testBit i <;> simp_all
  have ne : s ^^^ t ≠ s := fun k => h0 (by
    apply Nat.eq_of_testBit_eq
    intro i
    have e := congrArg (fun x => Nat.testBit x i) k
    simp only [Nat.testBit_xor] at e
    rw [Nat.zero_testBit]
    cases h1 : s.testBit i <;> cases h2 : t.testBit i <;> simp_all)
  have : s ^^^ t ≤ s := by rw [← le]; exact Nat.and_le_right
  omega
theorem sub_low {s t : Nat} : ((t - 1) &&& s) &&& s = (t - 1) &&& s := by rw [Nat.and_assoc, Nat.and_self]
theorem SB_congr {o1 o2 L1 L2 : Nat → Int32} {room : Int32} {s : Nat} (ho : ∀ y, y < s → o1 y = o2 y) (hL : ∀ y, y ≤ s → L1 y = L2 y) : ∀ f t a, t &&& s = t → SB o1 L1 room s f t a = SB o2 L2 room s f t a := by
  intro f
  induction f with
  | zero => intro t a h; rfl
  | succ f ih =>
    intro t a h
    unfold SB
    by_cases z : t = 0
    · rw [if_pos z, if_pos z]
    · rw [if_neg z, if_neg z, ho _ (xor_sub h z), hL t (by rw [← h]; exact Nat.and_le_right)]
      exact ih _ _ sub_low
theorem SB_rg {old L : Nat → Int32} {room : Int32} {s : Nat} (ho : ∀ y, y < s → rg (old y) 8) : ∀ f t a, t &&& s = t → rg a 8 → rg (SB old L room s f t a) 8 := by
  intro f
  induction f with
  | zero => intro t a h ha; exact ha
  | succ f ih =>
    intro t a h ha
    unfold SB
    by_cases z : t = 0
    · rw [if_pos z]; exact ha
    · rw [if_neg z]
      apply ih _ _ sub_low
      by_cases c : room < L t
      · rw [if_pos c]; exact ha
      · rw [if_neg c]
        obtain ⟨k, hk, e⟩ := rg_of (ho _ (xor_sub h z)) (by decide)
        obtain ⟨b, hb, e2⟩ := rg_of ha (by decide)
        rw [e, e2, nI_1]
        unfold jmin
        by_cases d : nI (k + 1) < nI b
        · rw [if_pos d]
          have := (nI_ltI (by omega) (by omega)).mp d
          exact rg_nI (by omega) (by decide)
        · rw [if_neg d]
          exact rg_nI hb (by decide)
theorem le_z {t : Nat} (ht : t < 2 ^ 31) : nI t ≤ 0 ↔ t = 0 := by
  have : nI t ≤ 0 ↔ t ≤ 0 := nI_leI (b := 0) ht (by decide)
  rw [this]; omega
theorem hold_in {s : Nat} {room : Int32} {k : Int32 → Int32 → Mem → Option Mem} (hs : s < 512) (hs0 : s ≠ 0) (μ : Mem) : ∀ f t a, t &&& s = t → t < f → f_X3_letOneHold_11 k f room (nI s) (nI t) (up μ 54 s a) = k room (nI s + -1) (up μ 54 s (SB (μ 54) (μ 53) room s f t a)) := by
  intro f
  induction f with
  | zero => intro t a h ht; omega
  | succ f ih =>
    intro t a h ht
    have ts : t ≤ s := by rw [← h]; exact Nat.and_le_right
    unfold f_X3_letOneHold_11 SB
    by_cases z : t = 0
    · rw [if_pos ((le_z (by omega)).mpr z), if_pos z]
    · obtain ⟨t', rfl⟩ : ∃ t', t = t' + 1 := ⟨t - 1, by omega⟩
      have lt' : (t' + 1 - 1) &&& s < f := Nat.lt_of_le_of_lt Nat.and_le_left (by omega)
      have x5 : s ^^^ (t' + 1) < 512 := Nat.xor_lt_two_pow (n := 9) hs (by omega)
      have nx := xor_sub h z
      rw [if_neg (fun e => z ((le_z (by omega)).mp e)), if_neg z, ck_c (inb_nI (show t' + 1 < 512 by omega) (by decide)), ix_nI (by omega), up_ne (show (53 : Nat) ≠ 54 by decide)]
      have kk : f_X3_letOneHold_53 k (f_X3_letOneHold_11 k f) room (nI s) (nI (t' + 1)) = f_X3_letOneHold_11 k f room (nI s) (nI ((t' + 1 - 1) &&& s)) := by
        funext m
        unfold f_X3_letOneHold_53
        rw [nI_pred, nI_and, Nat.add_sub_cancel]
      by_cases c : room < μ 53 (t' + 1)
      · rw [if_pos c, if_pos c, kk]
        exact ih _ _ sub_low lt'
      · rw [if_neg c, if_neg c, nI_xor, ck_c (inb_nI hs (by decide)), ck_c (inb_nI x5 (by decide)), ck_c (inb_nI hs (by decide)), wr_n, kk, ix_nI (show s < 2 ^ 31 by omega), ix_nI (show s ^^^ (t' + 1) < 2 ^ 31 by omega), up_s, up_n (show ¬ ((54 : Nat) = 54 ∧ s ^^^ (t' + 1) = s) from fun e => by omega), up_up]
        exact ih _ _ sub_low lt'
theorem hold_out {room : Int32} : ∀ f s (μ : Mem), s < 512 → s < f → ∃ μ1, f_X3_letOneHold_4 f room (nI s) μ = some μ1 ∧ sameC [54] μ μ1 ∧ ∀ x, μ1 54 x = if 1 ≤ x ∧ x ≤ s then SB (μ 54) (μ 53) room x 2000 x (μ 54 x) else μ 54 x := by
  intro f
  induction f with
  | zero => intro s μ hs hf; omega
  | succ f ih =>
    intro s μ hs hf
    unfold f_X3_letOneHold_4
    by_cases z : s = 0
    · rw [if_pos ((le_z (by omega)).mpr z)]
      exact ⟨μ, rfl, sameC_rf _ _, fun x => by rw [if_neg (by omega)]⟩
    · rw [if_neg (fun e => z ((le_z (by omega)).mp e))]
      have e := hold_in (room := room) (k := f_X3_letOneHold_4 f) hs z μ 2000 s (μ 54 s) (Nat.and_self s) (by omega)
      rw [up_self] at e
      rw [e]
      obtain ⟨s', rfl⟩ : ∃ s', s = s' + 1 := ⟨s - 1, by omega⟩
      rw [show nI (s' + 1) + -1 = nI s' by rw [show nI (s' + 1) + -1 = nI (s' + 1) - 1 by rw [Int32.sub_eq_add_neg], nI_pred]]
      generalize hw : SB (μ 54) (μ 53) room (s' + 1) 2000 (s' + 1) (μ 54 (s' + 1)) = w
      obtain ⟨μ1, m1, m2, m3⟩ := ih s' (up μ 54 (s' + 1) w) (by omega) (by omega)
      refine ⟨μ1, m1, sameC_tr (sameC_up (sameC_rf _ _) (by decide)) m2, fun x => ?_⟩
      rw [m3 x, up_cell (μ := μ) (show (53 : Nat) ≠ 54 by decide)]
      by_cases c : 1 ≤ x ∧ x ≤ s'
      · rw [if_pos c, if_pos (by omega), up_n (show ¬ ((54 : Nat) = 54 ∧ x = s' + 1) from fun e => by omega)]
        exact SB_congr (fun y hy => up_n (fun e => by omega)) (fun y hy => rfl) 2000 x _ (Nat.and_self x)
      · rw [if_neg c]
        by_cases d : x = s' + 1
        · rw [if_pos (by omega), d, up_s, ← hw]
        · rw [if_neg (by omega), up_n (fun e => d e.2)]
theorem try_in {s : Nat} {room : Int32} {k13 : Int32 → Int32 → Mem → Option Mem} (hs : s < 512) (ν : Mem) : ∀ f t a, t &&& s = t → t < f → f_X9_tries_40 k13 f room (nI s) (nI t) (up ν 13 s a) = k13 room (nI (s + 1)) (up ν 13 s (SB (ν 12) (ν 14) room s f t a)) := by
  intro f
  induction f with
  | zero => intro t a h ht; omega
  | succ f ih =>
    intro t a h ht
    have ts : t ≤ s := by rw [← h]; exact Nat.and_le_right
    unfold f_X9_tries_40 SB
    by_cases z : t = 0
    · rw [if_pos ((le_z (by omega)).mpr z), if_pos z, nI_1]
    · obtain ⟨t', rfl⟩ : ∃ t', t = t' + 1 := ⟨t - 1, by omega⟩
      have lt' : (t' + 1 - 1) &&& s < f := Nat.lt_of_le_of_lt Nat.and_le_left (by omega)
      have x5 : s ^^^ (t' + 1) < 512 := Nat.xor_lt_two_pow (n := 9) hs (by omega)
      rw [if_neg (fun e => z ((le_z (by omega)).mp e)), if_neg z, ck_c (inb_nI (show t' + 1 < 512 by omega) (by decide)), ix_nI (show t' + 1 < 2 ^ 31 by omega), up_ne (show (14 : Nat) ≠ 13 by decide), andnot h, ck_c (inb_nI x5 (by decide)), ck_c (inb_nI hs (by decide)), ix_nI (show s < 2 ^ 31 by omega), ix_nI (show s ^^^ (t' + 1) < 2 ^ 31 by omega), up_s, up_ne (show (12 : Nat) ≠ 13 by decide)]
      have same : f_X9_tries_82 k13 (f_X9_tries_40 k13 f) room (nI s) (nI (t' + 1)) (up ν 13 s a) = f_X9_tries_40 k13 f room (nI s) (nI ((t' + 1 - 1) &&& s)) (up ν 13 s a) := by
        unfold f_X9_tries_82 f_X9_tries_83 f_X9_tries_117
        rw [if_pos rfl, ck_c (inb_nI hs (by decide)), ck_c (inb_nI hs (by decide)), wr_n, ix_nI (show s < 2 ^ 31 by omega), up_s, up_up, nI_pred, nI_and, Nat.add_sub_cancel]
      have less : f_X9_tries_83 k13 (f_X9_tries_40 k13 f) room (nI s) (nI (t' + 1)) 1 (up ν 13 s a) = f_X9_tries_40 k13 f room (nI s) (nI ((t' + 1 - 1) &&& s)) (up ν 13 s (ν 12 (s ^^^ (t' + 1)) + 1)) := by
        unfold f_X9_tries_83 f_X9_tries_117
        rw [if_neg (show ¬ (1 : Int32) = 0 by decide), andnot h, ck_c (inb_nI x5 (by decide)), ck_c (inb_nI hs (by decide)), wr_n, ix_nI (show s < 2 ^ 31 by omega), ix_nI (show s ^^^ (t' + 1) < 2 ^ 31 by omega), up_ne (show (12 : Nat) ≠ 13 by decide), up_up, nI_pred, nI_and, Nat.add_sub_cancel]
      by_cases c : room < ν 14 (t' + 1)
      · rw [if_pos c, if_pos c, same]
        exact ih _ _ sub_low lt'
      · rw [if_neg c, if_neg c]
        unfold jmin
        by_cases d : a ≤ ν 12 (s ^^^ (t' + 1)) + 1
        · rw [if_pos d, if_neg (fun e => lt_le.mp e d), same]
          exact ih _ _ sub_low lt'
        · rw [if_neg d, if_pos (lt_le.mpr d), less]
          exact ih _ _ sub_low lt'
theorem try_copy {ng : Nat} (hng : ng ≤ 9) : ∀ f j (ν : Mem), ν 1 3 = nI ng → j ≤ 2 ^ ng → 514 ≤ f + j → ∃ ν1, f_X9_tries_137 f (nI j) ν = some ν1 ∧ sameC [12] ν ν1 ∧ ∀ x, ν1 12 x = if j ≤ x ∧ x < 2 ^ ng then ν 13 x else ν 12 x := by
  have hN : 2 ^ ng ≤ 512 := Nat.pow_le_pow_right (n := 2) (by decide) hng
  intro f
  induction f with
  | zero => intro j ν h3 hj hf; omega
  | succ f ih =>
    intro j ν h3 hj hf
    unfold f_X9_tries_137
    rw [show ix 3 = 3 from rfl, h3]
    rw [show jshl 1 (nI ng) = nI (2 ^ ng) from by
      rcases (show ng ≤ 8 ∨ ng = 9 by omega) with q | rfl
      · exact shl_one (by omega)
      · decide]
    by_cases q : 2 ^ ng ≤ j
    · rw [if_pos ((nI_leI (by omega) (by omega)).mpr q)]
      exact ⟨ν, rfl, sameC_rf _ _, fun x => by rw [if_neg (by omega)]⟩
    · rw [if_neg (fun e => q ((nI_leI (by omega) (by omega)).mp e)), ck_c (inb_nI (show j < 512 by omega) (by decide)), ck_c (inb_nI (show j < 512 by omega) (by decide)), wr_n, ix_nI (by omega), nI_1]
      obtain ⟨ν1, e1, e2, e3⟩ := ih (j + 1) (up ν 12 j (ν 13 j)) (by rw [up_ne (by decide)]; exact h3) (by omega) (by omega)
      refine ⟨ν1, e1, sameC_tr (sameC_up (sameC_rf _ _) (by decide)) e2, fun x => ?_⟩
      rw [e3 x, up_ne (μ := ν) (show (13 : Nat) ≠ 12 by decide)]
      by_cases c : j + 1 ≤ x ∧ x < 2 ^ ng
      · rw [if_pos c, if_pos (by omega)]
      · rw [if_neg c]
        by_cases d : x = j
        · rw [if_pos (by omega), d, up_s]
        · rw [if_neg (by omega), up_n (fun e => d e.2)]
theorem shl_n {ng : Nat} (h : ng ≤ 9) : jshl 1 (nI ng) = nI (2 ^ ng) := by
  rcases (show ng ≤ 8 ∨ ng = 9 by omega) with q | rfl
  · exact shl_one (by omega)
  · decide
theorem try_out {ng : Nat} {room : Int32} (hng : ng ≤ 9) : ∀ f j (ν : Mem), ν 1 3 = nI ng → j ≤ 2 ^ ng → 514 ≤ f + j → ∃ ν1, f_X9_tries_13 f room (nI j) ν = some ν1 ∧ sameC [12, 13] ν ν1 ∧ (∀ x, j ≤ x → x < 2 ^ ng → ν1 12 x = SB (ν 12) (ν 14) room x 2000 x (ν 12 x)) ∧ (∀ x, x < j → x < 2 ^ ng → ν1 12 x = ν 13 x) ∧ (∀ x, ¬ x < 2 ^ ng → ν1 12 x = ν 12 x) := by
  have hN : 2 ^ ng ≤ 512 := Nat.pow_le_pow_right (n := 2) (by decide) hng
  intro f
  induction f with
  | zero => intro j ν h3 hj hf; omega
  | succ f ih =>
    intro j ν h3 hj hf
    unfold f_X9_tries_13
    rw [show ix 3 = 3 from rfl, h3, shl_n hng]
    by_cases q : 2 ^ ng ≤ j
    · rw [if_pos ((nI_leI (by omega) (by omega)).mpr q)]
      obtain ⟨ν1, e1, e2, e3⟩ := try_copy hng 2000 0 ν h3 (by omega) (by omega)
      exact ⟨ν1, e1, sameC_mono e2 (by decide), fun x a b => by omega, fun x a b => by rw [e3 x, if_pos (by omega)], fun x a => by rw [e3 x, if_neg (by omega)]⟩
    · have e := try_in (room := room) (k13 := f_X9_tries_13 f) (show j < 512 by omega) ν 2000 j (ν 12 j) (Nat.and_self j) (by omega)
      rw [if_neg (fun e => q ((nI_leI (by omega) (by omega)).mp e)), ck_c (inb_nI (show j < 512 by omega) (by decide)), ck_c (inb_nI (show j < 512 by omega) (by decide)), wr_n, ix_nI (by omega), e]
      generalize hw : SB (ν 12) (ν 14) room j 2000 j (ν 12 j) = w
      obtain ⟨ν1, e1, e2, e3, e4, e5⟩ := ih (j + 1) (up ν 13 j w) (by rw [up_ne (by decide)]; exact h3) (by omega) (by omega)
      simp only [up_cell (μ := ν) (i := 13) (a := 12) (by decide), up_cell (μ := ν) (i := 13) (a := 14) (by decide)] at e3
      refine ⟨ν1, e1, sameC_tr (sameC_up (sameC_rf _ _) (by decide)) e2, fun x a b => ?_, fun x a b => ?_, fun x a => ?_⟩
      · by_cases d : x = j
        · rw [e4 x (by omega) b, d, up_s, hw]
        · rw [e3 x (by omega) b]
      · rw [e4 x (by omega) b, up_n (fun e => by omega)]
      · rw [e5 x a, up_ne (by decide)]
/-! weights of sets -/
theorem or_pow {g j : Nat} (h : j < 2 ^ g) : 2 ^ g ||| j = 2 ^ g + j := by
  have := Nat.two_pow_add_eq_or_of_lt h 1
  rw [Nat.mul_one] at this
  exact this.symm
theorem weigh_in {ng g p : Nat} {r : Int32} {k10 : Int32 → Int32 → Int32 → Mem → Option Mem} {k9 : Int32 → Int32 → Mem → Option Mem} (hng : ng ≤ 9) (hg : g < ng) : ∀ f j (μ ν : Mem), (∀ x, x < 2 ^ g + j → μ 53 x = ν 14 x) → j ≤ 2 ^ g → 514 ≤ f + j → ∃ μ1 ν1, f_X3_weighSets_37 k10 8 f (nI p) (nI (2 ^ ng)) (nI g) r (nI (2 ^ g)) (nI j) μ = k10 (nI p) (nI (2 ^ ng)) (nI (g + 1)) μ1 ∧ f_X9_findWeights_29 k9 f (nI p) (nI g) r (nI j) ν = k9 (nI p) (nI (g + 1)) ν1 ∧ sameC [53] μ μ1 ∧ sameC [14] ν ν1 ∧ ∀ x, x < 2 ^ (g + 1) → μ1 53 x = ν1 14 x := by
  have hN : 2 ^ ng ≤ 512 := Nat.pow_le_pow_right (n := 2) (by decide) hng
  have h2 : 2 ^ (g + 1) ≤ 2 ^ ng := Nat.pow_le_pow_right (n := 2) (by decide) hg
  have h3 : 2 ^ (g + 1) = 2 ^ g + 2 ^ g := by rw [Nat.pow_succ]; omega
  intro f
  induction f with
  | zero => intro j μ ν h hj hf; omega
  | succ f ih =>
    intro j μ ν h hj hf
    unfold f_X3_weighSets_37 f_X9_findWeights_29
    rw [shl_n (show g ≤ 9 by omega)]
    by_cases q : 2 ^ g ≤ j
    · have q' := (nI_leI (a := 2 ^ g) (b := j) (by omega) (by omega)).mpr q
      rw [if_pos q', if_pos q', nI_1]
      exact ⟨μ, ν, rfl, rfl, sameC_rf _ _, sameC_rf _ _, fun x hx => h x (by omega)⟩
    · have q' : ¬ nI (2 ^ g) ≤ nI j := fun e => q ((nI_leI (by omega) (by omega)).mp e)
      rw [if_neg q', if_neg q', nI_or (2 ^ g) j, nI_or j (2 ^ g), Nat.or_comm j (2 ^ g), or_pow (by omega), if_neg (fun e => by have := (nI_leI (a := 2 ^ ng) (b := 2 ^ g + j) (by omega) (by omega)).mp e; omega), ck_c (inb_nI (show j < 512 by omega) (by decide)), ck_c (inb_nI (show 2 ^ g + j < 512 by omega) (by decide)), ck_c (inb_nI (show j < 512 by omega) (by decide)), ck_c (inb_nI (show 2 ^ g + j < 512 by omega) (by decide)), wr_n, wr_n, ix_nI (show j < 2 ^ 31 by omega), ix_nI (show 2 ^ g + j < 2 ^ 31 by omega), h j (by omega), nI_1]
      obtain ⟨μ1, ν1, e1, e2, e3, e4, e5⟩ := ih (j + 1) (up μ 53 (2 ^ g + j) (ν 14 j + r)) (up ν 14 (2 ^ g + j) (ν 14 j + r)) (fun x hx => by
        by_cases c : x = 2 ^ g + j
        · rw [c, up_s, up_s]
        · rw [up_n (fun e => c e.2), up_n (fun e => c e.2)]; exact h x (by omega)) (by omega) (by omega)
      exact ⟨μ1, ν1, e1, e2, sameC_tr (sameC_up (sameC_rf _ _) (by decide)) e3, sameC_tr (sameC_up (sameC_rf _ _) (by decide)) e4, e5⟩
theorem VW_gen {μ ν μ1 ν1 : Mem} (h : VW 8 μ ν) (hC : ∀ i, i ≤ 16 → i ≠ 4 → i ≠ 7 → μ1 i = μ i) (hR : ν1 1 = ν 1) : VW 8 μ1 ν1 := by
  obtain ⟨h1, h2, h3, h4, h5, h6⟩ := h
  refine ⟨?_, by rw [hR]; exact h2, ?_, ?_, by rw [hC 2 (by decide) (by decide) (by decide)]; exact h5, by rw [hC 5 (by decide) (by decide) (by decide)]; exact h6⟩
  · rw [hR]; exact MR_same h1 (fun i hi => hC _ (by omega) (by omega) (by omega))
  · rw [hR]; exact LR_same h3 (by rw [hC 2 (by decide) (by decide) (by decide)]) (hC _ (by decide) (by decide) (by decide))
  · rw [hR]; exact LR_same h4 (by rw [hC 5 (by decide) (by decide) (by decide)]) (hC _ (by decide) (by decide) (by decide))
theorem VW_few {μ ν μ1 ν1 : Mem} (h : VW 8 μ ν) (hC : sameC [4, 7, 53, 54] μ μ1) (hR : sameC [10, 11, 12, 13, 14] ν ν1) : VW 8 μ1 ν1 :=
  VW_gen h (fun i a b c => hC i (by simp only [List.mem_cons, List.not_mem_nil, or_false]; omega)) (hR 1 (by decide))
theorem weigh_out {np ng p : Nat} (hnp : np ≤ 6) (hng : ng ≤ 9) (hp : p < np) : ∀ f g (μ ν : Mem), VW 8 μ ν → ν 1 2 = nI np → ν 1 3 = nI ng → (∀ x, x < 2 ^ g → μ 53 x = ν 14 x) → g ≤ ng → 10 ≤ f + g → ∃ μ1 ν1, f_X3_weighSets_10 8 f (nI p) (nI (2 ^ ng)) (nI g) μ = some μ1 ∧ f_X9_findWeights_9 f (nI p) (nI g) ν = some ν1 ∧ sameC [4, 7, 53] μ μ1 ∧ sameC [10, 11, 14] ν ν1 ∧ ∀ x, x < 2 ^ ng → μ1 53 x = ν1 14 x := by
  intro f
  induction f with
  | zero => intro g μ ν h h2 h3 hx hg hf; omega
  | succ f ih =>
    intro g μ ν h h2 h3 hx hg hf
    have p11 : μ 8 11 = nI ng := h.1.1.2.1.trans h3
    unfold f_X3_weighSets_10 f_X9_findWeights_9
    rw [p11, show ix 3 = 3 from rfl, h3]
    by_cases q : ng ≤ g
    · have q' : nI ng ≤ nI g := (nI_leI (by omega) (by omega)).mpr q
      rw [if_pos q', if_pos q']
      obtain rfl : g = ng := by omega
      exact ⟨μ, ν, rfl, rfl, sameC_rf _ _, sameC_rf _ _, hx⟩
    · have q' : ¬ nI ng ≤ nI g := fun e => q ((nI_leI (by omega) (by omega)).mp e)
      have hpg : 0 < 2 ^ g := Nat.pow_pos (by decide)
      obtain ⟨r, μ1, ν1, r1, r2, r3, r4⟩ := weight_both (Or.inl rfl) h h2 hnp h3 hng hp (show g < ng by omega)
      rw [if_neg q', if_neg q', r1, r2, bd2_n, bd2_n, shl_n (show g ≤ 9 by omega)]
      obtain ⟨μ2, ν2, e1, e2, e3, e4, e5⟩ := weigh_in (p := p) (r := r) (k10 := f_X3_weighSets_10 8 f) (k9 := f_X9_findWeights_9 f) hng (show g < ng by omega) 2000 0 μ1 ν1 (fun x hx' => by rw [r3 53 (by decide), r4 14 (by decide)]; exact hx x (by omega)) (by omega) (by omega)
      rw [show nI 0 = 0 from rfl] at e1 e2
      rw [e1, e2]
      have k1 : sameC [4, 7, 53] μ μ2 := sameC_tr (sameC_mono r3 (by decide)) (sameC_mono e3 (by decide))
      have k2 : sameC [10, 11, 14] ν ν2 := sameC_tr (sameC_mono r4 (by decide)) (sameC_mono e4 (by decide))
      obtain ⟨μ3, ν3, f1, f2, f3, f4, f5⟩ := ih (g + 1) μ2 ν2 (VW_few h (sameC_mono k1 (by decide)) (sameC_mono k2 (by decide))) (by rw [k2 1 (by decide)]; exact h2) (by rw [k2 1 (by decide)]; exact h3) e5 (by omega) (by omega)
      exact ⟨μ3, ν3, f1, f2, sameC_tr k1 f3, sameC_tr k2 f4, f5⟩
/-- what stands between two people -/
def FW (ng : Nat) (μ ν : Mem) : Prop := ∀ x, x < 2 ^ ng → μ 54 x = ν 12 x ∧ rg (ν 12 x) 8
theorem few_person {np ng p : Nat} {μ ν : Mem} (hnp : np ≤ 6) (hng : ng ≤ 9) (hp : p < np) (h : VW 8 μ ν) (h2 : ν 1 2 = nI np) (h3 : ν 1 3 = nI ng) (hw : FW ng μ ν) (k : Mem → Option (Int32 × Mem)) : ∃ μ1 ν1, (bd (f_X3_weighSets 8 (nI p) (nI (2 ^ ng)) μ) fun μ2 => bd (f_X2_room 8 (nI p) μ2) fun r3 => bd (f_X3_letOneHold r3 (nI (2 ^ ng)) μ2) fun μ4 => k μ4) = k μ1 ∧ f_X9_tries (nI p) ν = some ν1 ∧ sameC [4, 7, 53, 54] μ μ1 ∧ sameC [10, 11, 12, 13, 14] ν ν1 ∧ FW ng μ1 ν1 := by
  have hN : 2 ^ ng ≤ 512 := Nat.pow_le_pow_right (n := 2) (by decide) hng
  have hp0 : 0 < 2 ^ ng := Nat.pow_pos (by decide)
  unfold f_X3_weighSets f_X9_tries f_X9_findWeights
  rw [wr_n, wr_n, show ix 0 = 0 from rfl]
  have s1 : sameC [4, 7, 53] μ (up μ 53 0 0) := sameC_up (sameC_rf _ _) (by decide)
  have s2 : sameC [10, 11, 14] ν (up ν 14 0 0) := sameC_up (sameC_rf _ _) (by decide)
  obtain ⟨μ2, ν2, e1, e2, e3, e4, e5⟩ := weigh_out hnp hng hp 2000 0 (up μ 53 0 0) (up ν 14 0 0) (VW_few h (sameC_mono s1 (by decide)) (sameC_mono s2 (by decide))) (by rw [s2 1 (by decide)]; exact h2) (by rw [s2 1 (by decide)]; exact h3) (fun x hx => by
    obtain rfl : x = 0 := by omega
    rw [up_s, up_s]) (by omega) (by omega)
  rw [show nI 0 = 0 from rfl] at e1 e2
  have k1 := sameC_tr s1 e3
  have k2 := sameC_tr s2 e4
  obtain ⟨r, q1, -⟩ := room_both (VW_few (ν1 := ν) h (sameC_mono k1 (by decide)) (sameC_rf _ _)) h2 hnp h3 hng hp
  obtain ⟨r', q1', q2⟩ := room_both h h2 hnp h3 hng hp
  obtain ⟨r'', q1'', q2''⟩ := room_both (VW_few (ν1 := ν) h (sameC_mono k1 (by decide)) (sameC_rf _ _)) h2 hnp h3 hng hp
  have er : r'' = r' := by rw [q2] at q2''; exact (Option.some.inj q2'').symm
  subst er
  rw [e1, bd_n, q1'', bd_n, q2, bd_n, e2, bd_n]
  unfold f_X3_letOneHold
  obtain ⟨m, hm⟩ : ∃ m, 2 ^ ng = m + 1 := ⟨2 ^ ng - 1, by omega⟩
  rw [hm, nI_pred]
  obtain ⟨μ3, f1, f2, f3⟩ := hold_out (room := r'') 2000 m μ2 (by omega) (by omega)
  obtain ⟨ν3, g1, g2, g3, -, -⟩ := try_out (room := r'') hng 2000 0 ν2 (by rw [k2 1 (by decide)]; exact h3) (by omega) (by omega)
  rw [show nI 0 = 0 from rfl] at g1
  rw [f1, bd_n, g1]
  refine ⟨μ3, ν3, rfl, rfl, sameC_tr (sameC_mono k1 (by decide)) (sameC_mono f2 (by decide)), sameC_tr (sameC_mono k2 (by decide)) (sameC_mono g2 (by decide)), fun x hx => ?_⟩
  have o1 : ∀ y, y < 2 ^ ng → μ2 54 y = ν2 12 y := fun y hy => by rw [k1 54 (by decide), k2 12 (by decide)]; exact (hw y hy).1
  have o2 : ∀ y, y < 2 ^ ng → rg (ν2 12 y) 8 := fun y hy => by rw [k2 12 (by decide)]; exact (hw y hy).2
  rw [f3 x, g3 x (by omega) hx]
  refine ⟨?_, SB_rg (fun y hy => o2 y (by omega)) 2000 x _ (Nat.and_self x) (o2 x hx)⟩
  by_cases c : x = 0
  · subst c
    rw [if_neg (by omega), o1 0 hp0]
    have z : ∀ f, SB (ν2 12) (ν2 14) r'' 0 (f + 1) 0 (ν2 12 0) = ν2 12 0 := fun f => by unfold SB; rw [if_pos rfl]
    exact (z 1999).symm
  · rw [if_pos (by omega), o1 x hx]
    exact SB_congr (fun y hy => o1 y (by omega)) (fun y hy => e5 y (by omega)) 2000 x _ (Nat.and_self x)
theorem few_people {np ng : Nat} (hnp : np ≤ 6) (hng : ng ≤ 9) : ∀ f j (μ ν : Mem), VW 8 μ ν → ν 1 2 = nI np → ν 1 3 = nI ng → FW ng μ ν → j ≤ np → 7 ≤ f + j → ∃ μ1 ν1, f_X3_fewestFor_55 8 f (nI (2 ^ ng)) (nI j) μ = f_X3_fewestFor_86 8 (nI (2 ^ ng)) μ1 ∧ f_X9_fewest_33 f (nI j) ν = f_X9_fewest_54 ν1 ∧ sameC [4, 7, 53, 54] μ μ1 ∧ sameC [10, 11, 12, 13, 14] ν ν1 ∧ FW ng μ1 ν1 := by
  intro f
  induction f with
  | zero => intro j μ ν h h2 h3 hw hj hf; omega
  | succ f ih =>
    intro j μ ν h h2 h3 hw hj hf
    have p10 : μ 8 10 = nI np := h.1.1.1.trans h2
    unfold f_X3_fewestFor_55 f_X9_fewest_33
    rw [p10, show ix 2 = 2 from rfl, h2]
    by_cases q : np ≤ j
    · have q' : nI np ≤ nI j := (nI_leI (by omega) (by omega)).mpr q
      rw [if_pos q', if_pos q']
      exact ⟨μ, ν, rfl, rfl, sameC_rf _ _, sameC_rf _ _, hw⟩
    · have q' : ¬ nI np ≤ nI j := fun e => q ((nI_leI (by omega) (by omega)).mp e)
      obtain ⟨μ1, ν1, e1, e2, e3, e4, e5⟩ := few_person hnp hng (show j < np by omega) h h2 h3 hw (fun m => f_X3_fewestFor_55 8 f (nI (2 ^ ng)) (nI j + 1) m)
      rw [if_neg q', if_neg q', e1, e2, bd_n, nI_1]
      obtain ⟨μ2, ν2, f1, f2, f3, f4, f5⟩ := ih (j + 1) μ1 ν1 (VW_few h e3 e4) (by rw [e4 1 (by decide)]; exact h2) (by rw [e4 1 (by decide)]; exact h3) e5 (by omega) (by omega)
      exact ⟨μ2, ν2, f1, f2, sameC_tr e3 f3, sameC_tr e4 f4, f5⟩
theorem few_init8 {N : Nat} (hN : N ≤ 512) : ∀ f j (μ : Mem), 1 ≤ j → j ≤ N → 514 ≤ f + j → ∃ μ1, f_X3_fewestFor_34 8 f (nI N) (nI j) μ = f_X3_fewestFor_55 8 2000 (nI N) 0 μ1 ∧ sameC [54] μ μ1 ∧ ∀ x, μ1 54 x = if j ≤ x ∧ x < N then 7 else μ 54 x := by
  intro f
  induction f with
  | zero => intro j μ h1 hj hf; omega
  | succ f ih =>
    intro j μ h1 hj hf
    unfold f_X3_fewestFor_34
    by_cases q : N ≤ j
    · rw [if_pos ((nI_leI (by omega) (by omega)).mpr q)]
      exact ⟨μ, rfl, sameC_rf _ _, fun x => by rw [if_neg (by omega)]⟩
    · rw [if_neg (fun e => q ((nI_leI (by omega) (by omega)).mp e)), ck_c (inb_nI (show j < 512 by omega) (by decide)), wr_n, ix_nI (by omega), nI_1]
      obtain ⟨μ1, e1, e2, e3⟩ := ih (j + 1) (up μ 54 j 7) (by omega) (by omega) (by omega)
      refine ⟨μ1, e1, sameC_tr (sameC_up (sameC_rf _ _) (by decide)) e2, fun x => ?_⟩
      rw [e3 x]
      by_cases c : j + 1 ≤ x ∧ x < N
      · rw [if_pos c, if_pos (by omega)]
      · rw [if_neg c]
        by_cases d : x = j
        · rw [if_pos (by omega), d, up_s]
        · rw [if_neg (by omega), up_n (fun e => d e.2)]
theorem few_init9 : ∀ f j (ν : Mem), j ≤ 512 → 514 ≤ f + j → ∃ ν1, f_X9_fewest_2 f (nI j) ν = f_X9_fewest_33 2000 0 ν1 ∧ sameC [12] ν ν1 ∧ ∀ x, ν1 12 x = if j ≤ x ∧ x < 512 then (if x = 0 then 0 else 7) else ν 12 x := by
  intro f
  induction f with
  | zero => intro j ν hj hf; omega
  | succ f ih =>
    intro j ν hj hf
    unfold f_X9_fewest_2
    have l5 : (512 : Int32) ≤ nI j ↔ 512 ≤ j := nI_leI (a := 512) (by decide) (by omega)
    by_cases q : 512 ≤ j
    · rw [if_pos (l5.mpr q)]
      exact ⟨ν, rfl, sameC_rf _ _, fun x => by rw [if_neg (by omega)]⟩
    · have z : nI j = 0 ↔ j = 0 := nI_inj (b := 0) (by omega) (by decide)
      have fin : ∀ v, v = (if j = 0 then (0 : Int32) else 7) → ∃ ν1, f_X9_fewest_24 (f_X9_fewest_2 f) (nI j) (nI j) v ν = f_X9_fewest_33 2000 0 ν1 ∧ sameC [12] ν ν1 ∧ ∀ x, ν1 12 x = if j ≤ x ∧ x < 512 then (if x = 0 then 0 else 7) else ν 12 x := by
        intro v hv
        unfold f_X9_fewest_24
        rw [ck_c (inb_nI (show j < 512 by omega) (by decide)), wr_n, ix_nI (by omega), nI_1]
        obtain ⟨ν1, e1, e2, e3⟩ := ih (j + 1) (up ν 12 j v) (by omega) (by omega)
        refine ⟨ν1, e1, sameC_tr (sameC_up (sameC_rf _ _) (by decide)) e2, fun x => ?_⟩
        rw [e3 x]
        by_cases c : j + 1 ≤ x ∧ x < 512
        · rw [if_pos c, if_pos (show j ≤ x ∧ x < 512 by omega)]
        · rw [if_neg c]
          by_cases d : x = j
          · rw [if_pos (show j ≤ x ∧ x < 512 by omega), d, up_s, hv]
          · rw [if_neg (show ¬ (j ≤ x ∧ x < 512) by omega), up_n (fun e => d e.2)]
      rw [if_neg (fun e => q (l5.mp e))]
      by_cases c : j = 0
      · rw [if_pos (z.mpr c)]
        exact fin 0 (by rw [if_pos c])
      · rw [if_neg (fun e => c (z.mp e))]
        exact fin 7 (by rw [if_neg c])
theorem sim_fewest : Sim_fewest Sim := by
  intro μ ν h
  obtain ⟨-, ⟨⟨np, hnp, e2⟩, ⟨ng, hng, e3⟩, -⟩, -⟩ := VW_sim h
  have p11 : μ 8 11 = nI ng := h.1.1.1.2.1.trans e3
  have hN : 2 ^ ng ≤ 512 := Nat.pow_le_pow_right (n := 2) (by decide) hng
  have hp0 : 0 < 2 ^ ng := Nat.pow_pos (by decide)
  unfold f_X8_fewest f_X9_fewest f_X3_fewestFor
  have n0 : ¬ nI ng < 0 := fun k => by
    rw [Int32.lt_iff_toInt_lt, nI_toInt (by omega), show (0 : Int32).toInt = 0 by decide] at k
    omega
  have l9 : nI ng ≤ (9 : Int32) := (nI_leI (a := ng) (b := 9) (by omega) (by decide)).mpr hng
  rw [show 1 + 7 = 8 from rfl, p11, if_neg n0, if_pos l9, wr_n, show ix 0 = 0 from rfl, shl_n hng]
  obtain ⟨μ1, a1, a2, a3⟩ := few_init8 hN 2000 1 (up μ 54 0 0) (by omega) (by omega) (by omega)
  obtain ⟨ν1, b1, b2, b3⟩ := few_init9 2000 0 ν (by omega) (by omega)
  rw [show nI 1 = 1 from rfl] at a1
  rw [show nI 0 = 0 from rfl] at b1
  rw [a1, b1]
  have s1 : sameC [4, 7, 53, 54] μ μ1 := sameC_tr (sameC_up (sameC_rf _ _) (by decide)) (sameC_mono a2 (by decide))
  have s2 : sameC [10, 11, 12, 13, 14] ν ν1 := sameC_mono b2 (by decide)
  have hw : FW ng μ1 ν1 := fun x hx => by
    rw [a3 x, b3 x, if_pos (show 0 ≤ x ∧ x < 512 by omega)]
    by_cases c : x = 0
    · rw [if_neg (show ¬ (1 ≤ x ∧ x < 2 ^ ng) by omega), if_pos c, c, up_s]; exact ⟨rfl, by decide⟩
    · rw [if_pos (show 1 ≤ x ∧ x < 2 ^ ng by omega), if_neg c]; exact ⟨rfl, by decide⟩
  obtain ⟨μ2, ν2, c1, c2, c3, c4, c5⟩ := few_people hnp hng 2000 0 μ1 ν1 (VW_few (VW_sim h) s1 s2) (by rw [s2 1 (by decide)]; exact e2) (by rw [s2 1 (by decide)]; exact e3) hw (by omega) (by omega)
  rw [show nI 0 = 0 from rfl] at c1 c2
  rw [c1, c2]
  have t1 := sameC_tr s1 c3
  have t2 := sameC_tr s2 c4
  have hS : Sim μ2 ν2 := Sim_now h (by rw [t2 1 (by decide)]; exact KR1_same h.1 t1 (by decide)) (sameC_mono t1 (by decide)) (sameC_mono t2 (by decide)) (by rw [t2 0 (by decide)]) (by rw [t2 0 (by decide)]) (by rw [t1 2 (by decide)]) (by rw [t1 5 (by decide)])
  obtain ⟨m, hm⟩ : ∃ m, 2 ^ ng = m + 1 := ⟨2 ^ ng - 1, by omega⟩
  obtain ⟨d1, d2⟩ := c5 m (by omega)
  obtain ⟨k, hk, e⟩ := rg_of d2 (by decide)
  unfold f_X3_fewestFor_86 f_X9_fewest_54
  rw [show ix 3 = 3 from rfl, show ν2 1 3 = nI ng by rw [t2 1 (by decide)]; exact e3, shl_n hng, hm, nI_pred, ck_c (inb_nI (show m < 512 by omega) (by decide)), ck_c (inb_nI (show m < 512 by omega) (by decide)), ix_nI (by omega), d1, e]
  have l7 : (7 : Int32) ≤ nI k ↔ 7 ≤ k := le7 (by omega)
  have l6 : nI k ≤ (6 : Int32) ↔ k ≤ 6 := nI_leI (b := 6) (by omega) (by decide)
  have l0 : (0 : Int32) ≤ nI k ↔ 0 ≤ k := nI_leI (a := 0) (by decide) (by omega)
  by_cases c : 7 ≤ k
  · rw [if_pos (l7.mpr c), if_neg (fun e => by have := l6.mp e; omega), bd2_n, if_neg (show ¬ (0 : Int32) ≤ -1 by decide)]
    simp only [bd2_id]
    exact err2 hS
  · rw [if_neg (fun e => c (l7.mp e)), if_pos (l6.mpr (by omega)), bd2_n, if_pos (l0.mpr (by omega))]
    exact ⟨_, _, _, rfl, rfl, hS⟩
