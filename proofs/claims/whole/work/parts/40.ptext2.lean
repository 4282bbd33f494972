/-! TEXT -/
theorem take_at {o n : Nat} {μ : Mem} (hn : n ≤ 60) (hl2 : ln true (o + 1) = 60) : ∃ μ1, f_X1_take o 49 (nI n) μ = some μ1 ∧ μ1 o 4 = nI n ∧ (∀ k, k < n → μ1 (o + 1) k = μ 49 k) ∧ sameC [o, o + 1] μ μ1 ∧ μ1 o 1 = μ o 1 := by
  unfold f_X1_take
  have c2 : ¬ (60 : Int32) < nI n := fun q => by
    rw [Int32.lt_iff_toInt_lt, nI_toInt (by omega), show (60 : Int32).toInt = 60 by decide] at q
    omega
  have c3 : nI n ≤ Int32.ofNat 60 := (nI_leI (a := n) (b := 60) (by omega) (by decide)).mpr hn
  have hin : inC 0 0 (nI n) 60 60 = true := by
    simp only [inC, nI_toInt (show n < 2 ^ 31 by omega), show (0 : Int32).toInt = 0 by decide, Bool.and_eq_true, decide_eq_true_eq]
    omega
  rw [if_neg (nI_pos (show n < 2 ^ 31 by omega)), if_neg c2, show ln true 49 = 60 from by decide, hl2, if_pos c3, hin, ck_n, cpy_n, wr_n, ix_nI (by omega), show ix 0 = 0 from rfl]
  refine ⟨_, rfl, up_s, fun k hk => ?_, fun i hi => ?_, ?_⟩
  · rw [up_ne (by omega), cp_at, if_pos ⟨rfl, by omega, by omega⟩]
    congr 1
    omega
  · simp only [List.mem_cons, List.not_mem_nil, or_false] at hi
    funext k
    rw [up_ne (by omega), cp_at, if_neg (by omega)]
  · rw [up_n (by omega), cp_at, if_neg (by omega)]
theorem text_end {μ ν μ1 ν1 : Mem} (h : Sim μ ν) (hC : sameC [48, 49, 2, 3, 5, 6, 17] μ μ1) (hR : sameC [0, 1, 8, 9] ν ν1) (ha : ν1 0 3 = ν 0 3) (hb : ν1 0 21 = ν 0 21) (hm1 : μ1 2 1 = μ 2 1) (hm2 : μ1 5 1 = μ 5 1) (ht : μ1 17 1 = 0) (h6 : ν1 1 6 = 0) (hrow : ∀ i, i ≠ 6 → i < 153 → ν1 1 i = ν 1 i) (l0 : LR 2 μ1 (ν1 1) 153) (l1 : LR 5 μ1 (ν1 1) 274) : Sim μ1 ν1 := by
  obtain ⟨k1, k2, k3, k4, -, -⟩ := id h.1
  have hc : ∀ a, a ∉ [48, 49, 2, 3, 5, 6, 17] → μ1 a = μ a := hC
  refine Sim_now h ⟨MR_row (MR_same k1 (fun i hi => hc _ (by simp only [List.mem_cons, List.not_mem_nil, or_false]; omega))) (fun i a _ c _ => hrow i c (by omega)), WM_row k2 (fun i a _ c _ => hrow i c (by omega)), ⟨⟨0, by decide, ht, h6⟩, fun k hk => ?_⟩, WTR_row k4 (by rw [hc 1 (by decide)]) (by rw [hc 1 (by decide)]) (hc _ (by decide)) (hrow _ (by decide) (by decide)) (hrow _ (by decide) (by decide)) (fun i a c => hrow i (by omega) c), l0, l1⟩ (sameC_mono hC (by decide)) (sameC_mono hR (by decide)) ha hb hm1 hm2
  rw [hc (1 + 17) (by decide), hrow _ (by omega) (by omega)]
  exact k3.2 k hk
theorem t119_loop {c n : Nat} (hc : c ≤ 274) (hn : n ≤ 60) : ∀ f j (ν : Mem), ν 0 12 = nI n → j ≤ n → 62 ≤ f + j → ∃ ν1, f_X9_text_119 f (nI c) (nI j) ν = some (1, ν1) ∧ sameC [1] ν ν1 ∧ ∀ i, ν1 1 i = if c + 1 + j ≤ i ∧ i < c + 1 + n then ν 8 (i - (c + 1)) else if c + 61 + j ≤ i ∧ i < c + 61 + n then ν 9 (i - (c + 61)) else ν 1 i := by
  intro f
  induction f with
  | zero => intro j ν h hj hf; omega
  | succ f ih =>
    intro j ν h hj hf
    unfold f_X9_text_119
    rw [h]
    by_cases q : n ≤ j
    · rw [if_pos ((nI_leI (by omega) (by omega)).mpr q)]
      exact ⟨ν, rfl, sameC_rf _ _, fun i => by rw [if_neg (by omega), if_neg (by omega)]⟩
    · have e1 : (nI c + 1) + nI j = nI (c + 1 + j) := by rw [nI_1, nI_add]
      have e2 : (nI c + 61) + nI j = nI (c + 61 + j) := by rw [show (61 : Int32) = nI 61 from rfl, nI_add, nI_add]
      rw [if_neg (fun e => q ((nI_leI (by omega) (by omega)).mp e)), e1, e2, ck_c (inb_nI (show j < 60 by omega) (by decide)), ck_c (inb_nI (show c + 1 + j < 395 by omega) (by decide)), wr_n, ck_c (inb_nI (show j < 60 by omega) (by decide)), ck_c (inb_nI (show c + 61 + j < 395 by omega) (by decide)), wr_n, ix_nI (show j < 2 ^ 31 by omega), ix_nI (show c + 1 + j < 2 ^ 31 by omega), ix_nI (show c + 61 + j < 2 ^ 31 by omega), up_ne (show (9 : Nat) ≠ 1 by decide), nI_1]
      obtain ⟨ν1, f1, f2, f3⟩ := ih (j + 1) (up (up ν 1 (c + 1 + j) (ν 8 j)) 1 (c + 61 + j) (ν 9 j)) (by rw [up_ne (by decide), up_ne (by decide)]; exact h) (by omega) (by omega)
      refine ⟨ν1, f1, sameC_tr (sameC_up (sameC_up (sameC_rf _ _) (by decide)) (by decide)) f2, fun i => ?_⟩
      rw [f3 i, up_ne (show (8 : Nat) ≠ 1 by decide), up_ne (show (8 : Nat) ≠ 1 by decide), up_ne (show (9 : Nat) ≠ 1 by decide), up_ne (show (9 : Nat) ≠ 1 by decide)]
      by_cases a : c + 1 + (j + 1) ≤ i ∧ i < c + 1 + n
      · rw [if_pos a, if_pos (show c + 1 + j ≤ i ∧ i < c + 1 + n by omega)]
      · rw [if_neg a]
        by_cases a2 : i = c + 1 + j
        · rw [if_neg (by omega), if_pos (show c + 1 + j ≤ i ∧ i < c + 1 + n by omega), up_n (show ¬ ((1 : Nat) = 1 ∧ i = c + 61 + j) from fun e => by omega), a2, up_s]
          congr 1
          omega
        · rw [if_neg (show ¬ (c + 1 + j ≤ i ∧ i < c + 1 + n) by omega)]
          by_cases b : c + 61 + (j + 1) ≤ i ∧ i < c + 61 + n
          · rw [if_pos b, if_pos (show c + 61 + j ≤ i ∧ i < c + 61 + n by omega)]
          · rw [if_neg b]
            by_cases b2 : i = c + 61 + j
            · rw [if_pos (show c + 61 + j ≤ i ∧ i < c + 61 + n by omega), b2, up_s]
              congr 1
              omega
            · rw [if_neg (show ¬ (c + 61 + j ≤ i ∧ i < c + 61 + n) by omega), up_n (fun e => b2 e.2), up_n (fun e => a2 e.2)]
theorem text_both {w o c nm : Nat} {μ ν : Mem} (hw : w = 0 ∧ o = 2 ∧ c = 153 ∧ nm = 110 ∨ w = 1 ∧ o = 5 ∧ c = 274 ∧ nm = 111) (h : Sim μ ν) : ∃ (r : Int32) (μ1 ν1 : Mem), (bd2 (f_X4_readInto 17 o μ) fun r2 μ3 => wr μ3 17 1 0 fun μ4 => if 0 ≤ r2 then some (((-10) - r2), μ4) else some (1, μ4)) = some (r, μ1) ∧ (wr ν 0 16 (nI w) fun μ2 => wr μ2 0 12 0 fun μ3 => wr μ3 0 13 0 fun μ4 => wr μ4 0 14 0 fun μ5 => wr μ5 0 15 0 fun μ6 => bd (f_X9_any (f_X9_one 20) μ6) fun μ7 => if (μ7 0 15) = 0 then if (μ7 1 (ix 6)) ≤ (μ7 0 13) then f_X9_text_72 (nI w) 0 μ7 else f_X9_text_67 (nI w) μ7 else f_X9_text_67 (nI w) μ7) = some (r, ν1) ∧ Sim μ1 ν1 := by
  obtain ⟨k1, k2, ⟨⟨T, hT, t1, t2⟩, t3⟩, k4, l0, l1⟩ := id h.1
  have t1' : μ 17 1 = nI T := t1
  unfold f_X4_readInto
  rw [wr_n, wr_n, wr_n, wr_n, wr_n, wr_n, wr_n, wr_n, wr_n, wr_n]
  have enm : Int32.ofNat (sr true o 0) = nI nm := by rcases hw with ⟨-, rfl, -, rfl⟩ | ⟨-, rfl, -, rfl⟩ <;> decide
  rw [enm, show Int32.ofNat 17 = (17 : Int32) from rfl]
  generalize hμ : up (up (up (up (up μ 48 1 17) 48 2 (nI nm)) 48 3 0) 48 4 0) 48 5 (-1) = μ0
  generalize hν : up (up (up (up (up ν 0 16 (nI w)) 0 12 0) 0 13 0) 0 14 0) 0 15 0 = ν0
  have b0 : sameC [48] μ μ0 := by
    rw [← hμ]
    exact sameC_up (sameC_up (sameC_up (sameC_up (sameC_up (sameC_rf _ _) (by decide)) (by decide)) (by decide)) (by decide)) (by decide)
  have b1 : sameC [0] ν ν0 := by
    rw [← hν]
    exact sameC_up (sameC_up (sameC_up (sameC_up (sameC_up (sameC_rf _ _) (by decide)) (by decide)) (by decide)) (by decide)) (by decide)
  have b2 : ∀ i, i < 12 ∨ 16 < i → ν0 0 i = ν 0 i := fun i a => by
    rw [← hν, up_n (fun q => by omega), up_n (fun q => by omega), up_n (fun q => by omega), up_n (fun q => by omega), up_n (fun q => by omega)]
  have hB : RB μ0 ν0 T nm (nI w) := ⟨hT, by rw [b0 17 (by decide)]; exact t1', by rw [b1 1 (by decide)]; exact t2, fun k hk => by rw [b0 18 (by decide), b1 1 (by decide)]; exact t3 k hk, by rcases hw with ⟨rfl, -, -, rfl⟩ | ⟨rfl, -, -, rfl⟩; exact Or.inl ⟨rfl, rfl⟩; exact Or.inr ⟨rfl, rfl⟩⟩
  have h0 : R0 μ0 ν0 T nm (nI w) 0 0 0 0 μ0 ν0 := by
    refine ⟨⟨sameC_rf _ _, sameC_rf _ _, fun _ _ => rfl, ?_, ?_, ?_⟩, ?_, ?_, ?_, ?_, ?_, ?_, ?_, by omega, by omega, fun k hk => by omega, rfl⟩
    · rw [← hμ]; simp [up]
    · rw [← hμ]; simp [up]
    · rw [← hν]; simp [up]
    · rw [← hμ]; simp [up]; rfl
    · rw [← hμ]; simp [up]; rfl
    · rw [← hμ]; simp [up]
    · rw [← hν]; simp [up]; rfl
    · rw [← hν]; simp [up]; rfl
    · rw [← hν]; simp [up]
    · rw [← hν]; simp [up]; rfl
  have sp := any_spc hB (part_spc hB 20 0 (by decide) (by decide))
  obtain ⟨μ6, ν7, e1, e2, e3⟩ := sp 0 0 0 μ0 ν0 h0
  rw [show nI 0 = 0 from rfl] at e1
  rw [e1, bd_n, e2, bd_n]
  have hs : RS μ0 ν0 nm (nI w) μ6 ν7 := by
    rcases e3 with ⟨a1, n1, -, -, k⟩ | ⟨g, k⟩
    · exact k.1
    · exact k.1
  obtain ⟨s1, s2, s3, s4, s5, s6⟩ := hs
  have u17 : μ6 17 = μ 17 := (s1 17 (by decide)).trans (b0 17 (by decide))
  have urow : ν7 1 = ν 1 := (s2 1 (by decide)).trans (b1 1 (by decide))
  have uC : sameC [48, 49] μ μ6 := sameC_tr (sameC_mono b0 (by decide)) s1
  have uR : sameC [0, 8, 9] ν ν7 := sameC_tr (sameC_mono b1 (by decide)) s2
  have u0 : ∀ i, i < 12 ∨ 16 < i → ν7 0 i = ν 0 i := fun i hi => (s3 i hi).trans (b2 i hi)
  rw [s4, show ix 17 = 17 from rfl, show (kd true 17 == 7) = true from by decide, ck_n, u17, t1', show ix 6 = 6 from rfl, urow, t2]
  have c153 : 153 + 121 * nI w = nI c := by rcases hw with ⟨rfl, -, rfl, -⟩ | ⟨rfl, -, rfl, -⟩ <;> decide
  -- the end of a text that went wrong
  have wrong : ∀ (g : Nat) (μx νx : Mem), g ≤ 60 → sameC [48, 49] μ μx → sameC [0, 8, 9] ν νx → (∀ i, i < 12 ∨ 16 < i → νx 0 i = ν 0 i) → μx 48 5 = nI g → νx 0 13 = nI g → ∃ (r : Int32) (μ1 ν1 : Mem), (bd2 (f_X4_readInto_51 17 o μx) fun r2 μ3 => wr μ3 17 1 0 fun μ4 => if 0 ≤ r2 then some (((-10) - r2), μ4) else some (1, μ4)) = some (r, μ1) ∧ f_X9_text_67 (nI w) νx = some (r, ν1) ∧ Sim μ1 ν1 := by
    intro g μx νx hg xC xR x0 x5 x13
    unfold f_X4_readInto_51 f_X4_readInto_70 f_X9_text_67 f_X9_text_72
    rw [x5, if_pos (nI_ge0 (show g < 2 ^ 31 by omega)), bd2_n, wr_n, if_pos (nI_ge0 (show g < 2 ^ 31 by omega)), show bl 1 = true from by decide, ck_n, wr_n, wr_n, up_ne (show (0 : Nat) ≠ 1 by decide), up_s, if_neg (show ¬ (1 : Int32) = 0 by decide), up_ne (show (0 : Nat) ≠ 1 by decide), up_n (show ¬ ((0 : Nat) = 0 ∧ 13 = 15) by decide), x13]
    have xrow : νx 1 = ν 1 := xR 1 (by decide)
    have hr : ∀ i, i ≠ 6 → (up (up νx 0 15 1) 1 (ix 6) 0) 1 i = ν 1 i := fun i hi => by
      rw [up_n (show ¬ ((1 : Nat) = 1 ∧ i = ix 6) from fun e => hi e.2), up_ne (by decide), xrow]
    refine ⟨_, _, _, rfl, rfl, text_end h (sameC_tr (sameC_mono xC (by decide)) (sameC_up (sameC_rf _ _) (by decide))) (sameC_tr (sameC_mono xR (by decide)) (sameC_up (sameC_up (sameC_rf _ _) (by decide)) (by decide))) ?_ ?_ ?_ ?_ up_s up_s (fun i a _ => hr i a) ?_ ?_⟩
    · rw [up_ne (by decide), up_n (by decide)]; exact x0 3 (by decide)
    · rw [up_ne (by decide), up_n (by decide)]; exact x0 21 (by decide)
    · rw [up_ne (by decide), xC 2 (by decide)]
    · rw [up_ne (by decide), xC 5 (by decide)]
    · exact LR_row (LR_same l0 (by rw [up_ne (by decide), xC 2 (by decide)]) (by rw [up_cell (by decide)]; exact xC 3 (by decide))) (fun i a _ => hr i (by omega))
    · exact LR_row (LR_same l1 (by rw [up_ne (by decide), xC 5 (by decide)]) (by rw [up_cell (by decide)]; exact xC 6 (by decide))) (fun i a _ => hr i (by omega))
  rcases e3 with ⟨a1, n1, j1, j2, j3⟩ | ⟨g, j⟩
  · have jT := R0_T j3
    obtain ⟨-, h7, h8, h9, h10, h11, h12, h13, h14, h15, h16, h17⟩ := id j3
    rw [h8, h11, h12, if_pos rfl]
    by_cases q : T ≤ a1
    · have q' : nI T ≤ nI a1 := (nI_leI (by omega) (by omega)).mpr q
      rw [if_pos q', if_pos q']
      unfold f_X4_readInto_51 f_X4_readInto_70 f_X9_text_72
      have ho2 : ln true (o + 1) = 60 := by rcases hw with ⟨-, rfl, -, -⟩ | ⟨-, rfl, -, -⟩ <;> decide
      obtain ⟨μ7, m1, m2, m3, m4, m5⟩ := take_at (o := o) (μ := μ6) (show n1 ≤ 60 by omega) ho2
      have ho : o = 2 ∨ o = 5 := by rcases hw with q | q <;> omega
      have m48 : μ7 48 = μ6 48 := m4 48 (by simp only [List.mem_cons, List.not_mem_nil, or_false]; omega)
      have e15 : up ν7 0 15 0 = ν7 := by have q := up_self (ν := ν7) (i := 0) (k := 15); rw [h12] at q; exact q
      have hc2 : c ≤ 274 := by rcases hw with q | q <;> omega
      rw [h9, if_neg m1_neg, h7, m1, bd_n, bd2_n, wr_n, m48, h9, if_neg m1_neg, show bl 0 = true from by decide, ck_n, wr_n, e15, wr_n, show ix 6 = 6 from rfl, up_ne (show (0 : Nat) ≠ 1 by decide), h12, if_pos rfl, c153, ck_c (inb_nI (show c < 395 by omega) (by decide)), wr_n, ix_nI (show c < 2 ^ 31 by omega), up_ne (show (0 : Nat) ≠ 1 by decide), h10]
      obtain ⟨ν8, g1, g2, g3⟩ := t119_loop (c := c) (n := n1) hc2 (by omega) 2000 0 (up (up ν7 1 6 0) 1 c (nI n1)) (by rw [up_ne (by decide), up_ne (by decide)]; exact h10) (by omega) (by omega)
      rw [show nI 0 = 0 from rfl] at g1
      rw [g1]
      have gC : sameC [48, 49, 2, 3, 5, 6, 17] μ (up μ7 17 1 0) := sameC_tr (sameC_tr (sameC_mono uC (by decide)) (sameC_mono m4 (by rcases ho with rfl | rfl <;> decide))) (sameC_up (sameC_rf _ _) (by decide))
      have gR : sameC [0, 1, 8, 9] ν ν8 := sameC_tr (sameC_tr (sameC_mono uR (by decide)) (sameC_up (sameC_up (sameC_rf _ _) (by decide)) (by decide))) (sameC_mono g2 (by decide))
      have g0 : ν8 0 = ν7 0 := by rw [g2 0 (by decide), up_cell (by decide), up_cell (by decide)]
      have g8 : (up (up ν7 1 6 0) 1 c (nI n1)) 8 = ν7 8 := by rw [up_cell (by decide), up_cell (by decide)]
      have g9 : (up (up ν7 1 6 0) 1 c (nI n1)) 9 = ν7 9 := by rw [up_cell (by decide), up_cell (by decide)]
      have grow : ∀ i, i < c ∨ c + 121 ≤ i → i ≠ 6 → ν8 1 i = ν 1 i := fun i hi h6 => by
        rw [g3 i, if_neg (by omega), if_neg (by omega), up_n (fun e => by omega), up_n (fun e => h6 e.2), urow]
      have gc : ν8 1 c = nI n1 := by rw [g3 c, if_neg (by omega), if_neg (by omega), up_s]
      have gc6 : ν8 1 6 = 0 := by rw [g3 6, if_neg (by rcases hw with q | q <;> omega), if_neg (by rcases hw with q | q <;> omega), up_n (fun e => by rcases hw with q | q <;> omega), up_s]
      have told : LR o (up μ7 17 1 0) (ν8 1) c := by
        refine ⟨n1, by omega, by rw [up_ne (by omega)]; exact m2, gc, fun k hk => ?_, Or.inr ⟨1, by decide, ?_⟩⟩
        · rw [up_ne (by omega), m3 k hk, g3 (c + 1 + k), if_pos (by omega), g3 (c + 61 + k), if_neg (by omega), if_pos (by omega), g8, g9, show c + 1 + k - (c + 1) = k by omega, show c + 61 + k - (c + 61) = k by omega]
          exact h16 k hk
        · rw [dep_congr (b := ν7 8) n1 (fun k hk => by rw [g3 (c + 1 + k), if_pos (by omega), g8, show c + 1 + k - (c + 1) = k by omega])]
          exact h17
      refine ⟨_, _, _, rfl, rfl, text_end h gC gR (by rw [g0]; exact u0 3 (by decide)) (by rw [g0]; exact u0 21 (by decide)) ?_ ?_ up_s gc6 (fun i a b => grow i (by rcases hw with q | q <;> omega) a) ?_ ?_⟩
      · rw [up_ne (by decide)]
        rcases ho with rfl | rfl
        · rw [m5, uC 2 (by decide)]
        · rw [m4 2 (by decide), uC 2 (by decide)]
      · rw [up_ne (by decide)]
        rcases ho with rfl | rfl
        · rw [m4 5 (by decide), uC 5 (by decide)]
        · rw [m5, uC 5 (by decide)]
      · rcases hw with ⟨-, rfl, rfl, -⟩ | ⟨-, rfl, rfl, -⟩
        · exact told
        · exact LR_row (LR_same l0 (by rw [up_ne (by decide), m4 2 (by decide), uC 2 (by decide)]) (by rw [up_cell (by decide), m4 3 (by decide)]; exact uC 3 (by decide))) (fun i a b => grow i (by omega) (by omega))
      · rcases hw with ⟨-, rfl, rfl, -⟩ | ⟨-, rfl, rfl, -⟩
        · exact LR_row (LR_same l1 (by rw [up_ne (by decide), m4 5 (by decide), uC 5 (by decide)]) (by rw [up_cell (by decide), m4 6 (by decide)]; exact uC 6 (by decide))) (fun i a b => grow i (by omega) (by omega))
        · exact told
    · have q' : ¬ nI T ≤ nI a1 := fun e => q ((nI_leI (by omega) (by omega)).mp e)
      obtain ⟨b1', b2'⟩ := bad_both hT j3
      rw [if_neg q', if_neg q', b1', bd_n]
      exact wrong a1 _ ν7 (by omega) (sameC_tr uC (sameC_up (sameC_rf _ _) (by decide))) uR u0 up_s h11
  · obtain ⟨-, i1, i2, i3, i4, i5⟩ := id j
    have w := wrong g μ6 ν7 i2 uC uR u0 i1 i4
    rw [i3, if_neg (show ¬ (1 : Int32) = 0 by decide)]
    rw [miss_f j, bd_n]
    split
    · exact w
    · exact w
theorem sim_text : Sim_text Sim := by
  intro v1 μ ν h
  unfold f_X8_text f_X9_text
  rw [isUse_rg, in_rg (n := 2) (by decide), show 1 + 16 = 17 from rfl]
  simp only [bd2_id]
  by_cases c : inb v1 2 = true
  · obtain ⟨w, hw, rfl⟩ := rg_of c (by decide)
    rw [if_pos c, if_neg (show ¬ (1 : Int32) = 0 by decide), if_neg (show ¬ (1 : Int32) = 0 by decide)]
    rcases (show w = 0 ∨ w = 1 by omega) with rfl | rfl
    · rw [show f_X0_lawOf 1 (nI 0) = 2 by decide]
      exact text_both (w := 0) (o := 2) (c := 153) (nm := 110) (Or.inl ⟨rfl, rfl, rfl, rfl⟩) h
    · rw [show f_X0_lawOf 1 (nI 1) = 5 by decide]
      exact text_both (w := 1) (o := 5) (c := 274) (nm := 111) (Or.inr ⟨rfl, rfl, rfl, rfl⟩) h
  · rw [if_neg c, if_pos rfl, if_pos rfl]
    exact err1 h
theorem simAll : SimAll Sim := ⟨sim_person, sim_personIs, sim_become, sim_as, sim_gate, sim_gateIs, sim_hold, sim_pass, sim_stock, sim_stockAt, sim_grass, sim_feed, sim_text, sim_untell, sim_law, sim_hours, sim_loose, sim_hour, sim_seed, sim_then, sim_first, sim_fewest, sim_way, sim_cut, sim_roams, sim_odds, sim_fits, sim_voice, sim_body, sim_sheet, sim_put, sim_move, sim_holds, sim_judge, sim_image, sim_restore, sim_tell, sim_check, sim_count, sim_told⟩
