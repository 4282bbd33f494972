theorem MR_row {o : Nat} {μ : Mem} {r r' : Nat → Int32} (h : MR o μ r) (hr : ∀ i, i < 69 → i ≠ 1 → i ≠ 6 → i ≠ 7 → r' i = r i) : MR o μ r' := by
  obtain ⟨⟨m1, m2, m3, m4, m5⟩, mp, mg, mb, mf⟩ := h
  refine ⟨⟨?_, ?_, ?_, ?_, ?_⟩, fun p hp => ?_, fun g hg => ?_, fun b hb => ?_, fun f hf => ?_⟩
  · rw [hr 2 (by omega) (by omega) (by omega) (by omega)]; exact m1
  · rw [hr 3 (by omega) (by omega) (by omega) (by omega)]; exact m2
  · rw [hr 4 (by omega) (by omega) (by omega) (by omega)]; exact m3
  · rw [hr 0 (by omega) (by omega) (by omega) (by omega)]; exact m4
  · rw [hr 5 (by omega) (by omega) (by omega) (by omega)]; exact m5
  · rw [hr _ (by omega) (by omega) (by omega) (by omega), hr _ (by omega) (by omega) (by omega) (by omega)]; exact mp p hp
  · rw [hr _ (by omega) (by omega) (by omega) (by omega), hr _ (by omega) (by omega) (by omega) (by omega), hr _ (by omega) (by omega) (by omega) (by omega), hr _ (by omega) (by omega) (by omega) (by omega)]; exact mg g hg
  · rw [hr _ (by omega) (by omega) (by omega) (by omega)]; exact mb b hb
  · rw [hr _ (by omega) (by omega) (by omega) (by omega)]; exact mf f hf
theorem WM_row {r r' : Nat → Int32} (h : WM r) (hr : ∀ i, i < 69 → i ≠ 1 → i ≠ 6 → i ≠ 7 → r' i = r i) : WM r' := by
  obtain ⟨a, b, c, d, e, f, g, k⟩ := h
  have hr2 : ∀ {i}, i < 69 → 8 ≤ i → r' i = r i := fun h1 h2 => hr _ h1 (by omega) (by omega) (by omega)
  refine ⟨?_, ?_, ?_, ?_, fun p hp => ?_, fun g' hg => ?_, fun b' hb => ?_, fun f' hf => ?_⟩
  · rw [hr 2 (by omega) (by omega) (by omega) (by omega)]; exact a
  · rw [hr 3 (by omega) (by omega) (by omega) (by omega)]; exact b
  · rw [hr 4 (by omega) (by omega) (by omega) (by omega)]; exact c
  · rw [hr 5 (by omega) (by omega) (by omega) (by omega)]; exact d
  · rw [hr2 (by omega) (by omega)]; exact e p hp
  · rw [hr2 (by omega) (by omega), hr2 (by omega) (by omega), hr2 (by omega) (by omega)]; exact f g' hg
  · rw [hr2 (by omega) (by omega)]; exact g b' hb
  · rw [hr2 (by omega) (by omega)]; exact k f' hf
theorem TPR_row {o : Nat} {μ μ1 : Mem} {r r' : Nat → Int32} (h : TPR o μ r) (h0 : μ1 (o + 16) = μ (o + 16)) (h1 : μ1 (o + 17) = μ (o + 17)) (h6 : r' 6 = r 6) (hr : ∀ i, 69 ≤ i → i < 129 → r' i = r i) : TPR o μ1 r' := by
  obtain ⟨⟨n, t1, t2, t3⟩, t4⟩ := h
  refine ⟨⟨n, t1, by rw [h0]; exact t2, by rw [h6]; exact t3⟩, fun k hk => ?_⟩
  rw [h1, hr _ (by omega) (by omega)]
  exact t4 k hk
theorem WTR_row {o : Nat} {μ μ1 : Mem} {r r' : Nat → Int32} (h : WTR o μ r) (h6 : μ1 o 6 = μ o 6) (h5 : μ1 o 5 = μ o 5) (h1 : μ1 (o + 18) = μ (o + 18)) (r1 : r' 1 = r 1) (r7 : r' 7 = r 7) (hr : ∀ i, 129 ≤ i → i < 153 → r' i = r i) : WTR o μ1 r' := by
  obtain ⟨w1, ⟨n, w2, w3, w4⟩, w5⟩ := h
  refine ⟨by rw [h6, r1]; exact w1, ⟨n, w2, by rw [h5]; exact w3, by rw [r7]; exact w4⟩, fun k hk => ?_⟩
  rw [h1, hr _ (by omega) (by omega)]
  exact w5 k hk
theorem sim_tell : Sim_tell Sim := by
  intro v1 μ ν h
  have hh := h
  obtain ⟨⟨k1, k2, k3, ⟨w1, ⟨n, w2, w3, w4⟩, w5⟩, k5, k6⟩, -⟩ := h
  unfold f_X8_tell f_X9_tell
  simp only [bd2_id, show ix 7 = 7 from rfl, w3, w4]
  by_cases c : n < 24
  · have c1 : nI n < 24 := nI_lt c (by decide)
    have c2 : ¬ nI n = 24 := fun q => by
      have := (nI_eq (a := n) (b := 24) (by omega) (by decide)).mp q
      omega
    have e129 : 129 + nI n = nI (129 + n) := by rw [show (129 : Int32) = nI 129 from rfl, nI_add]
    rw [if_pos c1, if_neg c2, e129]
    simp only [wr_n, inb_nI c (by decide), ck_n, ix_nI (show n < 2 ^ 31 by omega), inb_nI (show 129 + n < 395 by omega) (by decide), ix_nI (show 129 + n < 2 ^ 31 by omega), show 1 + 18 = 19 from rfl]
    have a1 : (up μ 19 n v1) 1 5 = nI n := by rw [up_ne (by decide)]; exact w3
    have a2 : (up ν 1 (129 + n) v1) 1 7 = nI n := by rw [up_n (by omega)]; exact w4
    rw [a1, a2, up_s, up_s, nI_1]
    refine ⟨_, _, _, rfl, rfl, Sim_now hh ?_ (sameC_up (sameC_up (sameC_rf _ _) (by decide)) (by decide)) (sameC_up (sameC_up (sameC_rf _ _) (by decide)) (by decide)) (by rw [up_ne (by decide), up_ne (by decide)]) (by rw [up_ne (by decide), up_ne (by decide)]) (by rw [up_ne (by decide), up_ne (by decide)]) (by rw [up_ne (by decide), up_ne (by decide)])⟩
    rw [up_row, up_row]
    have hc : ∀ a, a ≠ 1 → a ≠ 19 → (up (up μ 19 n v1) 1 5 (nI (n + 1))) a = μ a := fun a q1 q2 => by rw [up_cell q1, up_cell q2]
    have hr : ∀ i, i ≠ 7 → i ≠ 129 + n → (upr (upr (ν 1) (129 + n) v1) 7 (nI (n + 1))) i = ν 1 i := fun i q1 q2 => by simp only [upr]; rw [if_neg q1, if_neg q2]
    refine ⟨MR_row (MR_same k1 (fun i hi => hc _ (by omega) (by omega))) (fun i a b c d => hr i d (by omega)), WM_row k2 (fun i a b c d => hr i d (by omega)), TPR_row k3 (hc _ (by decide) (by decide)) (hc _ (by decide) (by decide)) (hr _ (by decide) (by omega)) (fun i a b => hr i (by omega) (by omega)), ⟨?_, ⟨n + 1, by omega, ?_, ?_⟩, ?_⟩, ?_, ?_⟩
    · rw [up_n (by decide), up_ne (by decide), hr _ (by decide) (by omega)]; exact w1
    · rw [up_s]
    · simp only [upr]; rfl
    · intro k hk
      rw [up_ne (by decide)]
      by_cases e : k = n
      · subst e
        rw [up_s]
        simp only [upr]
        rw [if_neg (by omega), if_pos trivial]
      · rw [up_n (by omega), hr _ (by omega) (by omega)]
        exact w5 k hk
    · exact LR_row (LR_same k5 (by rw [hc _ (by decide) (by decide)]) (hc _ (by decide) (by decide))) (fun i a b => hr i (by omega) (by omega))
    · exact LR_row (LR_same k6 (by rw [hc _ (by decide) (by decide)]) (hc _ (by decide) (by decide))) (fun i a b => hr i (by omega) (by omega))
  · have c1 : ¬ nI n < 24 := nI_nlt (b := 24) (by omega) (by omega)
    have c2 : nI n = 24 := by rw [show n = 24 by omega]; rfl
    rw [if_neg c1, if_pos c2]
    exact err4 hh
theorem sim_told : Sim_told Sim := by
  intro v1 μ ν h
  have hh := h
  obtain ⟨-, -, h3, -⟩ := h
  unfold f_X8_told f_X9_told f_X8_told_11 f_X9_in
  simp only [bd2_id]
  have a1 : v1 < 1 ↔ v1.toInt < 1 := by rw [Int32.lt_iff_toInt_lt, show (1 : Int32).toInt = 1 by decide]
  have a2 : v1 ≤ 6 ↔ v1.toInt ≤ 6 := by rw [Int32.le_iff_toInt_le, show (6 : Int32).toInt = 6 by decide]
  have a3 : (6 : Int32) < v1 ↔ 6 < v1.toInt := by rw [Int32.lt_iff_toInt_lt, show (6 : Int32).toInt = 6 by decide]
  by_cases q1 : v1 < 1
  · simp only [q1, if_true]
    exact err1 hh
  · by_cases q2 : v1 ≤ 6
    · have q3 : ¬ (6 : Int32) < v1 := by rw [a3]; rw [a2] at q2; omega
      have q0 := q1
      rw [a1] at q1
      have q2' := a2.mp q2
      have i7 : inb v1 7 = true := rg_iff.mpr ⟨by omega, by omega⟩
      rw [if_neg q0, if_neg q0, if_pos q2, if_neg q3, if_neg (show ¬ (1 : Int32) = 0 by decide)]
      obtain ⟨k, hk, rfl⟩ := rg_of i7 (by decide)
      rw [i7, ck_n, ck_n, ix_nI (by omega), h3 k hk]
      exact ⟨_, _, _, rfl, rfl, hh⟩
    · have q3 : (6 : Int32) < v1 := by rw [a3]; rw [a2] at q2; omega
      simp only [q1, q2, q3, if_false, if_true]
      exact err1 hh
theorem KR_law0 {μ ν : Mem} (h : KR 1 μ (ν 1)) : KR 1 (up μ 2 4 0) (upr (ν 1) 153 0) := by
  obtain ⟨k1, k2, k3, k4, k5, k6⟩ := h
  have hr : ∀ i, i ≠ 153 → (upr (ν 1) 153 0) i = ν 1 i := fun i q => by simp only [upr]; rw [if_neg q]
  have hc : ∀ a, a ≠ 2 → (up μ 2 4 0) a = μ a := fun a q => up_cell q
  refine ⟨MR_row (MR_same k1 (fun i hi => hc _ (by omega))) (fun i a b c d => hr i (by omega)), WM_row k2 (fun i a b c d => hr i (by omega)), TPR_row k3 (hc _ (by decide)) (hc _ (by decide)) (hr _ (by decide)) (fun i a b => hr i (by omega)), WTR_row k4 (by rw [hc _ (by decide)]) (by rw [hc _ (by decide)]) (hc _ (by decide)) (hr _ (by decide)) (hr _ (by decide)) (fun i a b => hr i (by omega)), ⟨0, by decide, ?_, ?_, fun k hk => absurd hk (by omega), Or.inl rfl⟩, ?_⟩
  · rw [up_s]; rfl
  · simp only [upr]; rfl
  · exact LR_row (LR_same k6 (by rw [hc _ (by decide)]) (hc _ (by decide))) (fun i a b => hr i (by omega))
theorem KR_law1 {μ ν : Mem} (h : KR 1 μ (ν 1)) : KR 1 (up μ 5 4 0) (upr (ν 1) 274 0) := by
  obtain ⟨k1, k2, k3, k4, k5, k6⟩ := h
  have hr : ∀ i, i ≠ 274 → (upr (ν 1) 274 0) i = ν 1 i := fun i q => by simp only [upr]; rw [if_neg q]
  have hc : ∀ a, a ≠ 5 → (up μ 5 4 0) a = μ a := fun a q => up_cell q
  refine ⟨MR_row (MR_same k1 (fun i hi => hc _ (by omega))) (fun i a b c d => hr i (by omega)), WM_row k2 (fun i a b c d => hr i (by omega)), TPR_row k3 (hc _ (by decide)) (hc _ (by decide)) (hr _ (by decide)) (fun i a b => hr i (by omega)), WTR_row k4 (by rw [hc _ (by decide)]) (by rw [hc _ (by decide)]) (hc _ (by decide)) (hr _ (by decide)) (hr _ (by decide)) (fun i a b => hr i (by omega)), ?_, ⟨0, by decide, ?_, ?_, fun k hk => absurd hk (by omega), Or.inl rfl⟩⟩
  · exact LR_row (LR_same k5 (by rw [hc _ (by decide)]) (hc _ (by decide))) (fun i a b => hr i (by omega))
  · rw [up_s]; rfl
  · simp only [upr]; rfl
theorem sim_untell : Sim_untell Sim := by
  intro v1 μ ν h
  have hh := h
  obtain ⟨hK, -, -, -, -, hm1, hm2⟩ := h
  obtain ⟨-, -, -, -, ⟨n, hn, a1, a2, -⟩, ⟨m, hm, b1, b2, -⟩⟩ := id hK
  unfold f_X8_untell f_X9_untell f_X8_untell_34 f_X1_isTold
  rw [isUse_rg, in_rg (n := 2) (by decide)]
  simp only [ite10, bd2_id]
  by_cases h1 : inb v1 2 = true
  · obtain ⟨u, hu, rfl⟩ := rg_of h1 (by decide)
    simp only [h1, not_true_eq_false, if_false]
    rcases (show u = 0 ∨ u = 1 by omega) with rfl | rfl
    · have e : f_X0_lawOf 1 (nI 0) = 2 := rfl
      have e2 : (153 : Int32) + 121 * nI 0 = nI 153 := by decide
      rw [e, e2, becomes_at (by decide), bd2_n, a2, show μ 2 4 = nI n from a1]
      simp only [wr_n]
      have hS : Sim (up μ 2 4 0) (up ν 1 153 0) := Sim_now hh (by rw [up_row]; exact KR_law0 hK) (sameC_up (sameC_rf _ _) (by decide)) (sameC_up (sameC_rf _ _) (by decide)) (up_ne (by decide)) (up_ne (by decide)) (up_n (by decide)) (up_ne (by decide))
      by_cases c : nI n ≤ 0
      · simp only [c, if_true]
        exact ⟨_, _, _, rfl, rfl, hS⟩
      · simp only [c, if_false, show ¬ (1 : Int32) = 0 by decide]
        exact ⟨_, _, _, rfl, rfl, hS⟩
    · have e : f_X0_lawOf 1 (nI 1) = 5 := rfl
      have e2 : (153 : Int32) + 121 * nI 1 = nI 274 := by decide
      rw [e, e2, becomes_at (by decide), bd2_n, b2, show μ 5 4 = nI m from b1]
      simp only [wr_n]
      have hS : Sim (up μ 5 4 0) (up ν 1 274 0) := Sim_now hh (by rw [up_row]; exact KR_law1 hK) (sameC_up (sameC_rf _ _) (by decide)) (sameC_up (sameC_rf _ _) (by decide)) (up_ne (by decide)) (up_ne (by decide)) (up_ne (by decide)) (up_n (by decide))
      by_cases c : nI m ≤ 0
      · simp only [c, if_true]
        exact ⟨_, _, _, rfl, rfl, hS⟩
      · simp only [c, if_false, show ¬ (1 : Int32) = 0 by decide]
        exact ⟨_, _, _, rfl, rfl, hS⟩
  · simp only [h1, not_false_eq_true, if_true, Bool.false_eq_true]
    exact err1 hh
