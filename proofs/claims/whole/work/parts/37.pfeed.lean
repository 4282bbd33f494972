/-! LAW and FEED -/
theorem sim_law : Sim_law Sim := by
  intro v1 v2 v3 v4 μ ν h
  obtain ⟨-, -, l0, l1, m0, m1⟩ := VW_sim h
  unfold f_X8_law f_X9_law
  rw [isUse_rg, in_rg (n := 2) (by decide)]
  simp only [bd2_id]
  by_cases c : inb v1 2 = true
  · obtain ⟨w, hw, rfl⟩ := rg_of c (by decide)
    rw [if_pos c, if_neg (show ¬ (1 : Int32) = 0 by decide), if_neg (show ¬ (1 : Int32) = 0 by decide)]
    rcases (show w = 0 ∨ w = 1 by omega) with rfl | rfl
    · obtain ⟨x, μ1, ν1, q1, q2, q3, q4, -⟩ := gives_both (o := 2) (c := 153) (u := 0) (v1 := v2) (v2 := v3) (v3 := v4) (Or.inl ⟨rfl, rfl, rfl⟩) m0 l0
      rw [show f_X0_lawOf 1 (nI 0) = 2 by decide, show nI 0 = 0 from rfl, q1, q2]
      exact ⟨_, _, _, rfl, rfl, Sim_vw h (sameC_mono q3 (by decide)) q4⟩
    · obtain ⟨x, μ1, ν1, q1, q2, q3, q4, -⟩ := gives_both (o := 5) (c := 274) (u := 1) (v1 := v2) (v2 := v3) (v3 := v4) (Or.inr ⟨rfl, rfl, rfl⟩) m1 l1
      rw [show f_X0_lawOf 1 (nI 1) = 5 by decide, show nI 1 = 1 from rfl, q1, q2]
      exact ⟨_, _, _, rfl, rfl, Sim_vw h (sameC_mono q3 (by decide)) q4⟩
  · rw [if_neg c, if_pos rfl, if_pos rfl]
    exact err1 h
theorem bit255 {w i : Nat} (hi : i < w) : (BitVec.ofNat w 255).getLsbD i = decide (i < 8) := by
  rw [BitVec.getLsbD_ofNat, show (255 : Nat) = 2 ^ 8 - 1 from rfl, Nat.testBit_two_pow_sub_one]
  simp [hi]
theorem byte_bv (x : BitVec 64) (s : Nat) (hs : s ≤ 56) : ((((x >>> s).signExtend 32).signExtend 8).signExtend 32) &&& BitVec.ofNat 32 255 = ((x.sshiftRight s) &&& BitVec.ofNat 64 255).signExtend 32 := by
  apply BitVec.eq_of_getLsbD_eq
  intro i hi
  simp only [BitVec.getLsbD_and, BitVec.getLsbD_signExtend, bit255 (show i < 32 from hi), BitVec.getLsbD_ushiftRight, BitVec.getLsbD_sshiftRight]
  by_cases c : i < 8
  · rw [bit255 (show i < 64 by omega)]
    simp [c, show i < 32 by omega, show i < 64 by omega, show s + i < 64 by omega, show ¬ 64 ≤ i by omega]
  · rw [bit255 (show i < 64 by omega)]
    simp [c, hi, show i < 64 by omega]
theorem byte_eq (v : Int64) {j : Nat} (hj : j < 8) : ((jbyte ((jlushr v (8 * nI j)).toInt32)).toInt8.toInt32) &&& 255 = ((jlshr v (8 * nI j)) &&& 255).toInt32 := by
  have two : ∀ y : BitVec 32, ((y.signExtend 8).signExtend 32).signExtend 8 = y.signExtend 8 := fun y => by
    apply BitVec.eq_of_getLsbD_eq
    intro i hi
    simp only [BitVec.getLsbD_signExtend]
    simp [hi, show i < 32 by omega]
  have u : (jlushr v (8 * nI j)).toBitVec = v.toBitVec >>> (8 * j) := by
    rcases (show j = 0 ∨ j = 1 ∨ j = 2 ∨ j = 3 ∨ j = 4 ∨ j = 5 ∨ j = 6 ∨ j = 7 by omega) with rfl | rfl | rfl | rfl | rfl | rfl | rfl | rfl <;> rfl
  have s : (jlshr v (8 * nI j)).toBitVec = v.toBitVec.sshiftRight (8 * j) := by
    rcases (show j = 0 ∨ j = 1 ∨ j = 2 ∨ j = 3 ∨ j = 4 ∨ j = 5 ∨ j = 6 ∨ j = 7 by omega) with rfl | rfl | rfl | rfl | rfl | rfl | rfl | rfl <;> rfl
  apply Int32.toBitVec_inj.mp
  show ((((((jlushr v (8 * nI j)).toBitVec).signExtend 32).signExtend 8).signExtend 32).signExtend 8).signExtend 32 &&& BitVec.ofNat 32 255 = ((jlshr v (8 * nI j)).toBitVec &&& BitVec.ofNat 64 255).signExtend 32
  rw [two, u, s]
  exact byte_bv _ _ (by omega)
theorem Sim_byte {μ ν : Mem} {t : Nat} {b b' : Int32} (h : Sim μ ν) (h60 : t < 60) (hb : b &&& 255 = b') : Sim (up (up μ 18 t b) 17 1 (nI (t + 1))) (up (up ν 1 (69 + t) b') 1 6 (nI (t + 1))) := by
  have hh := h
  obtain ⟨⟨k1, k2, k3, k4, k5, k6⟩, -⟩ := h
  have hc : ∀ a, a ≠ 17 → a ≠ 18 → (up (up μ 18 t b) 17 1 (nI (t + 1))) a = μ a := fun a q1 q2 => by rw [up_cell q1, up_cell q2]
  have hC : sameC [17, 18] μ (up (up μ 18 t b) 17 1 (nI (t + 1))) := sameC_up (sameC_up (sameC_rf _ _) (by decide)) (by decide)
  have hR : sameC [1] ν (up (up ν 1 (69 + t) b') 1 6 (nI (t + 1))) := sameC_up (sameC_up (sameC_rf _ _) (by decide)) (by decide)
  have hu : ∀ i, i ≠ 6 → i ≠ 69 + t → (up (up ν 1 (69 + t) b') 1 6 (nI (t + 1))) 1 i = ν 1 i := fun i q1 q2 => by rw [up_n (fun e => q1 e.2), up_n (fun e => q2 e.2)]
  refine Sim_now hh ⟨MR_row (MR_same k1 (fun i hi => hc _ (by omega) (by omega))) (fun i a _ c _ => hu i c (by omega)), WM_row k2 (fun i a _ c _ => hu i c (by omega)), ⟨⟨t + 1, by omega, up_s, up_s⟩, fun k hk => ?_⟩, WTR_row k4 (by rw [hc 1 (by decide) (by decide)]) (by rw [hc 1 (by decide) (by decide)]) (hc _ (by decide) (by decide)) (hu _ (by decide) (by omega)) (hu _ (by decide) (by omega)) (fun i a c => hu i (by omega) (by omega)), LR_row (LR_same k5 (by rw [hc _ (by decide) (by decide)]) (hc _ (by decide) (by decide))) (fun i a _ => hu i (by omega) (by omega)), LR_row (LR_same k6 (by rw [hc _ (by decide) (by decide)]) (hc _ (by decide) (by decide))) (fun i a _ => hu i (by omega) (by omega))⟩ (sameC_mono hC (by decide)) (sameC_mono hR (by decide)) (by rw [hR 0 (by decide)]) (by rw [hR 0 (by decide)]) (by rw [hc 2 (by decide) (by decide)]) (by rw [hc 5 (by decide) (by decide)])
  have t4 := k3.2 k hk
  rw [show 1 + 17 = 18 from rfl] at t4 ⊢
  rw [up_ne (show (18 : Nat) ≠ 17 by decide), up_n (show ¬ ((1 : Nat) = 1 ∧ 69 + k = 6) from fun e => by omega)]
  by_cases c : k = t
  · rw [c, up_s, up_s, hb]
  · rw [up_n (fun e => c e.2), up_n (fun e => c (by omega)), t4]
theorem feed_loop {v : Int64} {n T : Nat} (hn : n ≤ 8) (hT : T + n ≤ 60) : ∀ f j (μ ν : Mem), Sim μ ν → μ 17 1 = nI (T + j) → j ≤ n → 9 ≤ f + j → ∃ (r : Int32) (μ1 ν1 : Mem), f_X7_append_3 17 f v (nI n) (nI j) μ = some μ1 ∧ f_X9_feed_41 f v (nI n) (nI j) ν = some (r, ν1) ∧ μ1 17 1 = r ∧ Sim μ1 ν1 := by
  intro f
  induction f with
  | zero => intro j μ ν h ht hj hf; omega
  | succ f ih =>
    intro j μ ν h ht hj hf
    obtain ⟨t0, ht0, t1, t2⟩ := h.1.2.2.1.1
    have e6 : ν 1 6 = nI (T + j) := by rw [t2, ← t1]; exact ht
    unfold f_X7_append_3 f_X9_feed_41
    rw [show ix 6 = 6 from rfl]
    by_cases q : n ≤ j
    · have q' : nI n ≤ nI j := (nI_leI (by omega) (by omega)).mpr q
      rw [if_pos q', if_pos q']
      unfold f_X9_feed_91
      exact ⟨_, _, _, rfl, rfl, by rw [ht, show ix 6 = 6 from rfl, e6], h⟩
    · have q' : ¬ nI n ≤ nI j := fun e => q ((nI_leI (by omega) (by omega)).mp e)
      have n60 : ¬ (60 : Int32) ≤ nI (T + j) := fun e => by
        have : 60 ≤ T + j := (nI_leI (a := 60) (by decide) (by omega)).mp e
        omega
      have e69 : 69 + nI (T + j) = nI (69 + (T + j)) := by rw [show (69 : Int32) = nI 69 from rfl, nI_add]
      rw [if_neg q', if_neg q', ht, if_neg n60, ck_c (inb_nI (show T + j < 60 by omega) (by decide)), e6, e69, ck_c (inb_nI (show 69 + (T + j) < 395 by omega) (by decide)), wr_n, wr_n, wr_n, wr_n, ix_nI (show T + j < 2 ^ 31 by omega), ix_nI (show 69 + (T + j) < 2 ^ 31 by omega), up_ne (show (17 : Nat) ≠ 17 + 1 by decide), ht, up_n (show ¬ ((1 : Nat) = 1 ∧ 6 = 69 + (T + j)) from fun e => by omega), e6, nI_1, nI_1]
      exact ih (j + 1) _ _ (Sim_byte h (by omega) (byte_eq v (by omega))) (by rw [up_s]; rfl) (by omega) (by omega)
theorem sim_feed : Sim_feed Sim := by
  intro v v3 μ ν h
  obtain ⟨T, hT, t1, t2⟩ := h.1.2.2.1.1
  have e17 : μ 17 1 = nI T := t1
  unfold f_X8_feed f_X9_feed f_X8_feed_11 f_X9_in
  rw [show 1 + 16 = 17 from rfl, show ix 6 = 6 from rfl, e17, t2]
  simp only [bd2_id]
  by_cases c1 : v3 < 1
  · rw [if_pos c1, if_pos c1, if_pos rfl]
    exact err1 h
  · by_cases c2 : v3 ≤ 8
    · obtain ⟨n, hn, rfl⟩ := one_to (n := 8) c1 c2 (by decide)
      rw [if_neg c1, if_neg c1, if_pos c2, if_neg (show ¬ (8 : Int32) < nI n from fun e => lt_le.mp e c2), if_neg (show ¬ (1 : Int32) = 0 by decide), nI_add]
      have l60 : nI (T + n) ≤ (60 : Int32) ↔ T + n ≤ 60 := nI_leI (b := 60) (by omega) (by decide)
      by_cases c3 : T + n ≤ 60
      · rw [if_pos (l60.mpr c3), if_pos (l60.mpr c3)]
        obtain ⟨r, μ1, ν1, f1, f2, f3, f4⟩ := feed_loop (v := v) hn c3 2000 0 μ ν h e17 (by omega) (by omega)
        rw [show nI 0 = 0 from rfl] at f1 f2
        have f1' : f_X7_append 17 v (nI n) μ = some μ1 := f1
        rw [f1', f2, bd_n, f3]
        exact ⟨_, _, _, rfl, rfl, f4⟩
      · rw [if_neg (fun e => c3 (l60.mp e)), if_neg (fun e => c3 (l60.mp e))]
        exact err4 h
    · rw [if_neg c1, if_neg c1, if_neg c2, if_pos (lt_le.mpr c2), if_pos rfl]
      exact err1 h
