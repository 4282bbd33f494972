/-! AN HOUR -/
def mvL (o : Nat) : List Nat := [o, o + 1, o + 2, o + 3, o + 4, o + 5, o + 6, o + 7, o + 8, 4, 7]
def VS (o : Nat) (μ ν μ1 ν1 : Mem) : Prop := VW o μ1 ν1 ∧ sameC (mvL o) μ μ1 ∧ sameC [1, 10, 11] ν ν1 ∧ ∀ i, (i = 1 ∨ i = 2 ∨ i = 3 ∨ i = 4 ∨ i = 6 ∨ i = 7 ∨ 69 ≤ i) → ν1 1 i = ν 1 i
theorem VS_rf {o : Nat} {μ ν : Mem} (h : VW o μ ν) : VS o μ ν μ ν := ⟨h, sameC_rf _ _, sameC_rf _ _, fun _ _ => rfl⟩
theorem VS_tr {o : Nat} {μ ν μ1 ν1 μ2 ν2 : Mem} (h : VS o μ ν μ1 ν1) (h2 : VS o μ1 ν1 μ2 ν2) : VS o μ ν μ2 ν2 := ⟨h2.1, sameC_tr h.2.1 h2.2.1, sameC_tr h.2.2.1 h2.2.2.1, fun i hi => (h2.2.2.2 i hi).trans (h.2.2.2 i hi)⟩
theorem VS_st {o : Nat} {μ ν μ1 ν1 : Mem} (ho : o = 8 ∨ o = 39) (h : VW o μ ν) (hC : sameC [4, 7] μ μ1) (hR : sameC [10, 11] ν ν1) : VS o μ ν μ1 ν1 :=
  ⟨VW_stay ho h hC hR, sameC_mono hC (by simp [mvL]), sameC_mono hR (by decide), fun i _ => by rw [hR 1 (by decide)]⟩
theorem VS_up {o c j i : Nat} {v : Int32} {μ ν : Mem} (ho : o = 8 ∨ o = 39) (h : VW o μ ν) (hM : MR o (up μ c j v) (upr (ν 1) i v)) (hW : WM (upr (ν 1) i v)) (hc : o ≤ c ∧ c ≤ o + 8) (hi : i < 69 ∧ i ≠ 1 ∧ i ≠ 2 ∧ i ≠ 3 ∧ i ≠ 4 ∧ i ≠ 6 ∧ i ≠ 7) : VS o μ ν (up μ c j v) (up ν 1 i v) := by
  obtain ⟨-, -, l1, l2, l3, l4⟩ := h
  refine ⟨⟨by rw [up_row]; exact hM, by rw [up_row]; exact hW, ?_, ?_, ?_, ?_⟩, sameC_up (sameC_rf _ _) ?_, sameC_up (sameC_rf _ _) (by decide), fun k hk => ?_⟩
  · rw [up_row]
    exact LR_row (LR_same l1 (up_ne (by omega)) (up_cell (by omega))) (fun q a b => by simp only [upr]; rw [if_neg (by omega)])
  · rw [up_row]
    exact LR_row (LR_same l2 (up_ne (by omega)) (up_cell (by omega))) (fun q a b => by simp only [upr]; rw [if_neg (by omega)])
  · rw [up_ne (by omega)]; exact l3
  · rw [up_ne (by omega)]; exact l4
  · simp only [mvL, List.mem_cons, List.not_mem_nil, or_false]; omega
  · exact up_n (fun q => by omega)
theorem neg1 : (-1 : Int32) < 0 := by decide
theorem letGo_loop {o p np ng : Nat} (ho : o = 8 ∨ o = 39) (hnp : np ≤ 6) (hng : ng ≤ 9) (hp : p < np) : ∀ f j (v2 v3 : Int32) (μ ν : Mem), VW o μ ν → ν 1 2 = nI np → ν 1 3 = nI ng → j ≤ ng → 10 ≤ f + j → (v2 = -1 ∨ ∃ g, g < ng ∧ v2 = nI g) → ∃ μ1 ν1, f_X2_letGo_7 o f (nI p) v2 v3 (nI j) μ = some μ1 ∧ f_X9_letsGo_21 f (nI p) v2 v3 (nI j) ν = some ν1 ∧ VS o μ ν μ1 ν1 := by
  intro f
  induction f with
  | zero => intro j v2 v3 μ ν h h2 h3 hj hf; omega
  | succ f ih =>
    intro j v2 v3 μ ν h h2 h3 hj hf hv
    have hh := h
    obtain ⟨⟨⟨m1, m2, m3, m4, m5⟩, mp, mg, -, -⟩, -⟩ := id h
    have p11 : μ o 11 = nI ng := m2.trans h3
    unfold f_X2_letGo_7 f_X9_letsGo_21
    rw [p11, show ix 3 = 3 from rfl, h3]
    by_cases q : ng ≤ j
    · have q' : nI ng ≤ nI j := (nI_leI (by omega) (by omega)).mpr q
      rw [if_pos q', if_pos q']
      unfold f_X2_letGo_58 f_X9_letsGo_88
      rw [isGate_rg p11 hng]
      simp only [ite10]
      rcases hv with rfl | ⟨g, hg, rfl⟩
      · rw [if_pos (show ¬ inb (-1) ng = true from fun e => by have := (rg_iff (n := ng)).mp e; rw [show (-1 : Int32).toInt = -1 by decide] at this; omega), if_pos neg1]
        exact ⟨_, _, rfl, rfl, VS_rf h⟩
      · have n0 : ¬ nI g < 0 := fun e => by
          rw [Int32.lt_iff_toInt_lt, nI_toInt (by omega), show (0 : Int32).toInt = 0 by decide] at e
          omega
        have l3 := lets_at (g := g) (w := 3) (v := -1) (ν := ν) (by omega)
        rw [show nI 3 = 3 from rfl] at l3
        rw [if_neg (fun e => e (inb_nI hg (by omega))), if_neg n0, ck_c (inb_nI (show g < 9 by omega) (by decide)), ix_nI (by omega), wr_n, l3, bd_n]
        exact ⟨_, _, rfl, rfl, VS_up ho h (MR_holder (by omega) h.1) (WM_holder (by omega) (by decide) h.2.1) (by omega) (by omega)⟩
    · have q' : ¬ nI ng ≤ nI j := fun e => q ((nI_leI (by omega) (by omega)).mp e)
      have a3 := about_at (g := j) (w := 3) (ν := ν) (by omega)
      rw [show nI 3 = 3 from rfl] at a3
      rw [if_neg q', if_neg q', ck_c (inb_nI (show j < 9 by omega) (by decide)), ix_nI (show j < 2 ^ 31 by omega), (mg j (by omega)).2.2.2, a3, bd_n]
      have step : ∀ (s0 : Int32) (μ1 ν1 : Mem), VS o μ ν μ1 ν1 → ∃ μ2 ν2, f_X2_letGo_38 (f_X2_letGo_7 o f) o (nI p) v2 v3 (nI j) s0 μ1 = some μ2 ∧ f_X9_letsGo_54 (f_X9_letsGo_21 f) (nI p) v2 v3 (nI j) s0 ν1 = some ν2 ∧ VS o μ ν μ2 ν2 := by
        intro s0 μ1 ν1 hs
        unfold f_X2_letGo_38 f_X9_letsGo_54 f_X9_letsGo_68
        have k2 : ν1 1 2 = nI np := (hs.2.2.2 2 (by omega)).trans h2
        have k3 : ν1 1 3 = nI ng := (hs.2.2.2 3 (by omega)).trans h3
        by_cases c : s0 ≤ v3
        · rw [if_pos c, if_pos c, if_pos c, nI_1]
          obtain ⟨μ2, ν2, e1, e2, e3⟩ := ih (j + 1) v2 v3 μ1 ν1 hs.1 k2 k3 (by omega) (by omega) hv
          exact ⟨μ2, ν2, e1, e2, VS_tr hs e3⟩
        · rw [if_neg c, if_neg c, if_neg c, nI_1]
          obtain ⟨μ2, ν2, e1, e2, e3⟩ := ih (j + 1) (nI j) s0 μ1 ν1 hs.1 k2 k3 (by omega) (by omega) (Or.inr ⟨j, by omega, rfl⟩)
          exact ⟨μ2, ν2, e1, e2, VS_tr hs e3⟩
      by_cases c : ν 1 (27 + 4 * j + 3) = nI p
      · obtain ⟨r, μ1, ν1, q1, q2, q3, q4⟩ := weight_both ho hh h2 hnp h3 hng hp (show j < ng by omega)
        rw [if_pos c, if_pos c, q1, q2, bd2_n, bd2_n]
        exact step r μ1 ν1 (VS_st ho hh q3 q4)
      · rw [if_neg c, if_neg c]
        exact step (-1) μ ν (VS_rf hh)
theorem across_both {o g b : Nat} {μ ν : Mem} (h : VW o μ ν) (hg : g < 9) : ∃ r, f_X2_across o (nI g) (nI b) μ = some r ∧ f_X9_beyond (nI g) (nI b) ν = some r ∧ (r = -1 ∨ inb r 7 = true) := by
  obtain ⟨⟨-, -, mg, -, -⟩, ⟨-, -, -, -, -, wg, -⟩, -⟩ := h
  obtain ⟨g1, g2, -, -⟩ := mg g hg
  obtain ⟨w1, w2, -⟩ := wg g hg
  have a0 := about_at (g := g) (w := 0) (ν := ν) (by omega)
  have a1 := about_at (g := g) (w := 1) (ν := ν) (by omega)
  rw [show nI 0 = 0 from rfl, Nat.add_zero] at a0
  rw [show nI 1 = 1 from rfl] at a1
  unfold f_X2_across f_X9_beyond
  rw [inb_nI hg (by decide), ck_n, ck_n, ck_n, ck_n, ix_nI (by omega), g1, g2, a0, a1, bd_n, bd_n, bd_n, bd_n]
  by_cases c : ν 1 (27 + 4 * g) = nI b
  · rw [if_pos c]
    exact ⟨_, rfl, rfl, Or.inr w2⟩
  · by_cases c2 : ν 1 (27 + 4 * g + 1) = nI b
    · rw [if_neg c, if_pos c2]
      exact ⟨_, rfl, rfl, Or.inr w1⟩
    · rw [if_neg c, if_neg c2]
      exact ⟨_, rfl, rfl, Or.inl rfl⟩
theorem held_in {k n : Nat} (hk : k ≤ n) (hn : n < 2 ^ 31) : f_X9_held (nI k) 0 (nI n) = nI k := by
  unfold f_X9_held
  have e0 : (0 : Int32) ≤ nI k ↔ 0 ≤ k := nI_leI (a := 0) (by decide) (by omega)
  rw [if_pos (e0.mpr (by omega)), if_pos ((nI_leI (by omega) hn).mpr hk)]
theorem stray_n {s : Int32} (h : rg s 10000) : f_X9_held (s + 0) 0 9999 = s ∧ f_X9_held (s + 1) 0 9999 = jmin (s + 1) 9999 ∧ rg (jmin (s + 1) 9999) 10000 := by
  obtain ⟨k, hk, rfl⟩ := rg_of h (by decide)
  have e1 : (9999 : Int32) < nI (k + 1) ↔ 9999 < k + 1 := nI_ltI (a := 9999) (by decide) (by omega)
  refine ⟨?_, ?_, ?_⟩
  · rw [Int32.add_zero]; exact held_in (n := 9999) (by omega) (by decide)
  · rw [nI_1]
    unfold jmin
    by_cases c : 9999 < k + 1
    · rw [if_pos (e1.mpr c)]
      obtain rfl : k = 9999 := by omega
      decide
    · rw [if_neg (fun e => c (e1.mp e))]; exact held_in (n := 9999) (by omega) (by decide)
  · rw [nI_1]
    unfold jmin
    by_cases c : 9999 < k + 1
    · rw [if_pos (e1.mpr c)]; decide
    · rw [if_neg (fun e => c (e1.mp e))]; exact rg_nI (by omega) (by decide)
theorem eaten_n {g : Int32} (h : rg g 100) : f_X9_held (g - 1) 0 99 = jmax (g - 1) 0 ∧ rg (jmax (g - 1) 0) 100 := by
  obtain ⟨k, hk, rfl⟩ := rg_of h (by decide)
  cases k with
  | zero => decide
  | succ k =>
    rw [nI_pred]
    have e0 : ¬ nI k < 0 := fun e => by
      rw [Int32.lt_iff_toInt_lt, nI_toInt (by omega), show (0 : Int32).toInt = 0 by decide] at e
      omega
    unfold jmax
    rw [if_neg e0]
    exact ⟨held_in (n := 99) (by omega) (by decide), rg_nI (by omega) (by decide)⟩
theorem up_self {ν : Mem} {i k : Nat} : up ν i k (ν i k) = ν := by
  funext a c
  by_cases h : a = i ∧ c = k
  · obtain ⟨rfl, rfl⟩ := h; exact up_s
  · exact up_n h
theorem graze_end {o z a b : Nat} (ho : o = 8 ∨ o = 39) (hz : z < 6) (hb : b < 7) {μ ν : Mem} (h : VW o μ ν) : ∃ μ1 ν1, f_X2_graze_92 o (nI z) (nI a) (nI b) μ = some μ1 ∧ f_X9_strays_108 (nI z) (nI a) (nI b) ν = some ν1 ∧ VS o μ ν μ1 ν1 := by
  have h5 : μ o 14 = ν 1 5 := h.1.1.2.2.2.2
  have w5 : rg (ν 1 5) 10000 := h.2.1.2.2.2.1
  obtain ⟨s1, s2, s3⟩ := stray_n w5
  have e63 : 63 + nI z = nI (63 + z) := by rw [show (63 : Int32) = nI 63 from rfl, nI_add]
  have fin : ∀ (μ1 ν1 : Mem), VS o μ ν μ1 ν1 → ∃ μ2 ν2, f_X2_graze_113 o (nI z) (nI b) μ1 = some μ2 ∧ (ck (inb (63 + nI z) 395) <| wr ν1 1 (ix (63 + nI z)) (nI b) fun μ3 => ck (inb (8 + nI b) 395) <| ck (inb (8 + nI b) 395) <| wr μ3 1 (ix (8 + nI b)) (f_X9_held ((μ3 1 (ix (8 + nI b))) - 1) 0 99) fun μ6 => some μ6) = some ν2 ∧ VS o μ ν μ2 ν2 := by
    intro μ1 ν1 hs
    unfold f_X2_graze_113
    rw [e63, e8, ck_c (inb_nI hz (by decide)), ck_c (inb_nI (show 63 + z < 395 by omega) (by decide)), ix_nI (show z < 2 ^ 31 by omega), ix_nI (show 63 + z < 2 ^ 31 by omega), ix_nI (show b < 2 ^ 31 by omega), ix_nI (show 8 + b < 2 ^ 31 by omega), wr_n, isField8_rg, inb_nI hb (by decide), if_pos rfl, if_neg (show ¬ (1 : Int32) = 0 by decide), ck_n, ck_n, wr_n, wr_n, ck_c (inb_nI (show 8 + b < 395 by omega) (by decide)), ck_c (inb_nI (show 8 + b < 395 by omega) (by decide)), wr_n]
    have v1 := VS_up (i := 63 + z) (c := o + 7) (j := z) (v := nI b) ho hs.1 (MR_at hz hs.1.1) (WM_at hz (rg_nI hb (by decide)) hs.1.2.1) (by omega) (by omega)
    have g8 : (up μ1 (o + 7) z (nI b)) (o + 8) b = (up ν1 1 (63 + z) (nI b)) 1 (8 + b) := v1.1.1.2.2.2.2 b hb
    have w8 : rg ((up ν1 1 (63 + z) (nI b)) 1 (8 + b)) 100 := v1.1.2.1.2.2.2.2.2.2.2 b hb
    obtain ⟨t1, t2⟩ := eaten_n w8
    rw [g8, t1]
    have v2 := VS_up (i := 8 + b) (c := o + 8) (j := b) (v := jmax ((up ν1 1 (63 + z) (nI b)) 1 (8 + b) - 1) 0) ho v1.1 (MR_grass hb v1.1.1) (WM_grass hb t2 v1.1.2.1) (by omega) (by omega)
    exact ⟨_, _, rfl, rfl, VS_tr hs (VS_tr v1 v2)⟩
  unfold f_X2_graze_92 f_X9_strays_108 f_X9_strays_129
  rw [show ix 5 = 5 from rfl, show inb 5 395 = true from rfl, ck_n, ck_n, s1, s2, wr_n, wr_n, wr_n, h5]
  by_cases c : nI b = nI a
  · rw [if_pos c, if_pos c, up_self]
    exact fin μ ν (VS_rf h)
  · rw [if_neg c, if_neg c]
    exact fin _ _ (VS_up ho h (MR_strays h.1) (WM_strays s3 h.2.1) (by omega) (by omega))
theorem graze_loop {o z a ng : Nat} (ho : o = 8 ∨ o = 39) (hz : z < 6) (ha : a < 7) (hng : ng ≤ 9) : ∀ f j b (v4 : Int32) (μ ν : Mem), VW o μ ν → ν 1 3 = nI ng → b < 7 → j ≤ ng → 10 ≤ f + j → -1 ≤ v4.toInt → ∃ μ1 ν1, f_X2_graze_19 o f (nI z) (nI a) (nI b) v4 (nI j) μ = some μ1 ∧ f_X9_strays_22 f (nI z) (nI a) (nI b) v4 (nI j) ν = some ν1 ∧ VS o μ ν μ1 ν1 := by
  intro f
  induction f with
  | zero => intro j b v4 μ ν h h3 hb hj hf; omega
  | succ f ih =>
    intro j b v4 μ ν h h3 hb hj hf hv
    obtain ⟨⟨⟨m1, m2, m3, m4, m5⟩, mp, mg, -, -⟩, ⟨-, -, -, -, -, wg, -⟩, -⟩ := id h
    have p11 : μ o 11 = nI ng := m2.trans h3
    unfold f_X2_graze_19 f_X9_strays_22
    rw [p11, show ix 3 = 3 from rfl, h3]
    by_cases q : ng ≤ j
    · have q' : nI ng ≤ nI j := (nI_leI (by omega) (by omega)).mpr q
      rw [if_pos q', if_pos q']
      exact graze_end ho hz hb h
    · have q' : ¬ nI ng ≤ nI j := fun e => q ((nI_leI (by omega) (by omega)).mp e)
      have w3 := (wg j (by omega)).2.2
      have hopen : (ν 1 (27 + 4 * j + 3) = -1) ↔ ¬ 0 ≤ ν 1 (27 + 4 * j + 3) := by
        rw [eq_i, Int32.le_iff_toInt_le, show (-1 : Int32).toInt = -1 by decide, show (0 : Int32).toInt = 0 by decide]
        omega
      rw [if_neg q', if_neg q', ck_c (inb_nI (show j < 9 by omega) (by decide)), ix_nI (show j < 2 ^ 31 by omega), (mg j (by omega)).2.2.2, isOpen_at (show j < 9 by omega), bd_n]
      have stay : ∃ μ1 ν1, f_X2_graze_50 (f_X2_graze_19 o f) o (nI z) (nI a) (nI b) v4 (nI j) (-1) μ = some μ1 ∧ f_X9_strays_53 (f_X9_strays_22 f) (nI z) (nI a) (nI b) v4 (nI j) (-1) ν = some ν1 ∧ VS o μ ν μ1 ν1 := by
        unfold f_X2_graze_50 f_X9_strays_53 f_X2_graze_70 f_X9_strays_70 f_X9_strays_85
        have le : (-1 : Int32) ≤ v4 := by rw [Int32.le_iff_toInt_le, show (-1 : Int32).toInt = -1 by decide]; exact hv
        rw [if_pos (show f_X8_isField (-1) = 0 by decide), if_neg (show ¬ (0 : Int32) ≤ -1 by decide), if_pos le, if_pos le, if_pos le, nI_1]
        exact ih (j + 1) b v4 μ ν h h3 hb (by omega) (by omega) hv
      by_cases c : 0 ≤ ν 1 (27 + 4 * j + 3)
      · rw [if_neg (fun e => hopen.mp e c), if_pos c, if_pos rfl]
        exact stay
      · obtain ⟨r, r1, r2, r3⟩ := across_both (g := j) (b := a) h (by omega)
        rw [if_pos (hopen.mpr c), if_neg c, if_neg (show ¬ (1 : Int32) = 0 by decide), r1, r2, bd_n, bd_n]
        rcases r3 with rfl | r3
        · exact stay
        · obtain ⟨e, he, rfl⟩ := rg_of r3 (by decide)
          unfold f_X2_graze_50 f_X9_strays_53
          have e0 : (0 : Int32) ≤ nI e ↔ 0 ≤ e := nI_leI (a := 0) (by decide) (by omega)
          obtain ⟨d, μ1, ν1, d1, d2, d3, d4, d5⟩ := draw_both ho h he
          have d5' := (rg_iff (n := 100)).mp d5
          have hs := VS_st ho h d3 d4
          have k3 : ν1 1 3 = nI ng := (hs.2.2.2 3 (by omega)).trans h3
          rw [isField8_rg, inb_nI he (by decide), if_pos rfl, if_neg (show ¬ (1 : Int32) = 0 by decide), if_pos (e0.mpr (by omega)), d1, d2, bd2_n, bd2_n]
          unfold f_X2_graze_70 f_X9_strays_70 f_X9_strays_85
          by_cases cc : d ≤ v4
          · rw [if_pos cc, if_pos cc, if_pos cc, nI_1]
            obtain ⟨μ2, ν2, e1, e2, e3⟩ := ih (j + 1) b v4 μ1 ν1 hs.1 k3 hb (by omega) (by omega) hv
            exact ⟨μ2, ν2, e1, e2, VS_tr hs e3⟩
          · rw [if_neg cc, if_neg cc, if_neg cc, nI_1]
            obtain ⟨μ2, ν2, e1, e2, e3⟩ := ih (j + 1) e d μ1 ν1 hs.1 k3 he (by omega) (by omega) (by omega)
            exact ⟨μ2, ν2, e1, e2, VS_tr hs e3⟩
theorem graze_both {o z ng : Nat} {μ ν : Mem} (ho : o = 8 ∨ o = 39) (h : VW o μ ν) (hz : z < 6) (h3 : ν 1 3 = nI ng) (hng : ng ≤ 9) : ∃ μ1 ν1, f_X2_graze o (nI z) μ = some μ1 ∧ f_X9_strays (nI z) ν = some ν1 ∧ VS o μ ν μ1 ν1 := by
  have hb := h.1.2.2.2.1 z hz
  have wb : rg (ν 1 (63 + z)) 7 := h.2.1.2.2.2.2.2.2.1 z hz
  obtain ⟨a, ha, ea⟩ := rg_of wb (by decide)
  have e63 : 63 + nI z = nI (63 + z) := by rw [show (63 : Int32) = nI 63 from rfl, nI_add]
  obtain ⟨d, μ1, ν1, d1, d2, d3, d4, d5⟩ := draw_both ho h ha
  have d5' := (rg_iff (n := 100)).mp d5
  have hs := VS_st ho h d3 d4
  have b1 : μ1 (o + 7) z = nI a := (hs.1.1.2.2.2.1 z hz).trans (by rw [d4 1 (by decide)]; exact ea)
  unfold f_X2_graze f_X9_strays
  rw [e63, ck_c (inb_nI hz (by decide)), ck_c (inb_nI (show 63 + z < 395 by omega) (by decide)), ix_nI (show z < 2 ^ 31 by omega), ix_nI (show 63 + z < 2 ^ 31 by omega), hb, ea, d1, d2, bd2_n, bd2_n]
  obtain ⟨μ2, ν2, e1, e2, e3⟩ := graze_loop ho hz ha hng 2000 0 a d μ1 ν1 hs.1 (by rw [d4 1 (by decide)]; exact h3) ha (by omega) (by omega) (by omega)
  exact ⟨μ2, ν2, e1, e2, VS_tr hs e3⟩
theorem lets_both {o p np ng : Nat} {μ ν : Mem} (ho : o = 8 ∨ o = 39) (h : VW o μ ν) (h2 : ν 1 2 = nI np) (hnp : np ≤ 6) (h3 : ν 1 3 = nI ng) (hng : ng ≤ 9) (hp : p < np) (k : Mem → Option Mem) : ∃ μ1 ν1, (bd2 (f_X2_load o (nI p) μ) fun r2 μ3 => bd (f_X2_room o (nI p) μ3) fun r4 => if r2 ≤ r4 then k μ3 else bd (f_X2_letGo o (nI p) μ3) fun μ6 => k μ6) = k μ1 ∧ f_X9_letsGo (nI p) ν = some ν1 ∧ VS o μ ν μ1 ν1 := by
  obtain ⟨r, μ1, ν1, r1, r2, r3, r4⟩ := load_both ho h h2 hnp h3 hng hp
  have hs := VS_st ho h r3 r4
  have k2 : ν1 1 2 = nI np := by rw [r4 1 (by decide)]; exact h2
  have k3 : ν1 1 3 = nI ng := by rw [r4 1 (by decide)]; exact h3
  obtain ⟨m, q1, q2⟩ := room_both hs.1 k2 hnp k3 hng hp
  unfold f_X9_letsGo
  rw [r1, r2, bd2_n, bd2_n, q1, q2, bd_n, bd_n]
  by_cases c : r ≤ m
  · have c' : ¬ m < r := fun e => by rw [Int32.lt_iff_toInt_lt] at e; rw [Int32.le_iff_toInt_le] at c; omega
    rw [if_pos c, if_neg c']
    exact ⟨_, _, rfl, rfl, hs⟩
  · have c' : m < r := by rw [Int32.lt_iff_toInt_lt]; rw [Int32.le_iff_toInt_le] at c; omega
    obtain ⟨μ2, ν2, e1, e2, e3⟩ := letGo_loop ho hnp hng hp 2000 0 (-1) (-1) μ1 ν1 hs.1 k2 k3 (by omega) (by omega) (Or.inl rfl)
    have e1' : f_X2_letGo o (nI p) μ1 = some μ2 := e1
    rw [if_neg c, if_pos c', e1', bd_n]
    exact ⟨μ2, ν2, rfl, e2, VS_tr hs e3⟩
theorem goes_beasts {o nb ng : Nat} (ho : o = 8 ∨ o = 39) (hnb : nb ≤ 6) (hng : ng ≤ 9) : ∀ f j (μ ν : Mem), VW o μ ν → ν 1 3 = nI ng → ν 1 4 = nI nb → j ≤ nb → 7 ≤ f + j → ∃ μ1 ν1, f_X2_anHour_36 o f (nI j) μ = some μ1 ∧ f_X9_goes_25 f (nI j) ν = some ν1 ∧ VS o μ ν μ1 ν1 := by
  intro f
  induction f with
  | zero => intro j μ ν h h3 h4 hj hf; omega
  | succ f ih =>
    intro j μ ν h h3 h4 hj hf
    obtain ⟨⟨⟨m1, m2, m3, m4, m5⟩, -⟩, -⟩ := id h
    have p12 : μ o 12 = nI nb := m3.trans h4
    unfold f_X2_anHour_36 f_X9_goes_25
    rw [p12, show ix 4 = 4 from rfl, h4]
    by_cases q : nb ≤ j
    · have q' : nI nb ≤ nI j := (nI_leI (by omega) (by omega)).mpr q
      rw [if_pos q', if_pos q']
      unfold f_X2_anHour_55 f_X9_goes_46
      rw [wr_n, wr_n, show ix 0 = 0 from rfl, m4]
      exact ⟨_, _, rfl, rfl, VS_up ho h (MR_hour h.1) (WM_hour h.2.1) (by omega) (by omega)⟩
    · have q' : ¬ nI nb ≤ nI j := fun e => q ((nI_leI (by omega) (by omega)).mp e)
      obtain ⟨μ1, ν1, r1, r2, r3⟩ := graze_both (z := j) ho h (by omega) h3 hng
      rw [if_neg q', if_neg q', r1, r2, bd_n, bd_n, nI_1]
      obtain ⟨μ2, ν2, e1, e2, e3⟩ := ih (j + 1) μ1 ν1 r3.1 ((r3.2.2.2 3 (by omega)).trans h3) ((r3.2.2.2 4 (by omega)).trans h4) (by omega) (by omega)
      exact ⟨μ2, ν2, e1, e2, VS_tr r3 e3⟩
theorem goes_people {o np nb ng : Nat} (ho : o = 8 ∨ o = 39) (hnp : np ≤ 6) (hnb : nb ≤ 6) (hng : ng ≤ 9) : ∀ f j (μ ν : Mem), VW o μ ν → ν 1 2 = nI np → ν 1 3 = nI ng → ν 1 4 = nI nb → j ≤ np → 7 ≤ f + j → ∃ μ1 ν1, f_X2_anHour_2 o f (nI j) μ = some μ1 ∧ f_X9_goes_2 f (nI j) ν = some ν1 ∧ VS o μ ν μ1 ν1 := by
  intro f
  induction f with
  | zero => intro j μ ν h h2 h3 h4 hj hf; omega
  | succ f ih =>
    intro j μ ν h h2 h3 h4 hj hf
    obtain ⟨⟨⟨m1, m2, m3, m4, m5⟩, -⟩, -⟩ := id h
    have p10 : μ o 10 = nI np := m1.trans h2
    unfold f_X2_anHour_2 f_X9_goes_2
    rw [p10, show ix 2 = 2 from rfl, h2]
    by_cases q : np ≤ j
    · have q' : nI np ≤ nI j := (nI_leI (by omega) (by omega)).mpr q
      rw [if_pos q', if_pos q']
      exact goes_beasts ho hnb hng 2000 0 μ ν h h3 h4 (by omega) (by omega)
    · have q' : ¬ nI np ≤ nI j := fun e => q ((nI_leI (by omega) (by omega)).mp e)
      obtain ⟨μ1, ν1, r1, r2, r3⟩ := lets_both (p := j) ho h h2 hnp h3 hng (by omega) (fun m => f_X2_anHour_2 o f (nI j + 1) m)
      rw [if_neg q', if_neg q', r1, r2, bd_n, nI_1]
      obtain ⟨μ2, ν2, e1, e2, e3⟩ := ih (j + 1) μ1 ν1 r3.1 ((r3.2.2.2 2 (by omega)).trans h2) ((r3.2.2.2 3 (by omega)).trans h3) ((r3.2.2.2 4 (by omega)).trans h4) (by omega) (by omega)
      exact ⟨μ2, ν2, e1, e2, VS_tr r3 e3⟩
theorem hour_both {o : Nat} {μ ν : Mem} (ho : o = 8 ∨ o = 39) (h : VW o μ ν) : ∃ μ1 ν1, f_X2_anHour o μ = some μ1 ∧ f_X9_goes ν = some ν1 ∧ VS o μ ν μ1 ν1 := by
  obtain ⟨-, ⟨⟨np, hnp, e2⟩, ⟨ng, hng, e3⟩, ⟨nb, hnb, e4⟩, -⟩, -⟩ := id h
  exact goes_people ho hnp hnb hng 2000 0 μ ν h e2 e3 e4 (by omega) (by omega)
