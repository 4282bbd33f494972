/-! the parts of a text, and TEXT -/
def nmv (u v1 : Int32) : Int32 :=
  if v1 = 100 ∨ v1 = 102 then
    if u = 1 then
      if v1 = 102 then 1 else 2
    else (-1)
  else if v1 = 103 then
    if u = 0 then 2 else 0
  else if v1 = 104 ∨ v1 = 119 then
    if u = 0 then
      if v1 = 119 then 0 else 1
    else (-1)
  else (-1)
theorem nm_at {v : Int32} {ν : Mem} : f_X9_nameOf v ν = nmv (ν 0 16) v := rfl
def nmOk (m : Nat) : Bool := decide (f_J0_indexOf 0 (jchar (nI m)) = some (nmv 0 (nI m))) && decide (f_J0_indexOf 1 (jchar (nI m)) = some (nmv 1 (nI m)))
theorem nm_all : (List.range 256).all nmOk = true := by decide +kernel
theorem nm_idx {m nm : Nat} {use : Int32} (hm : m < 256) (hu : nm = 110 ∧ use = 0 ∨ nm = 111 ∧ use = 1) : f_J0_indexOf (nm - 110) (jchar (nI m)) = some (nmv use (nI m)) := by
  have h := List.all_eq_true.mp nm_all m (List.mem_range.mpr hm)
  unfold nmOk at h
  rw [Bool.and_eq_true] at h
  rcases hu with ⟨rfl, rfl⟩ | ⟨rfl, rfl⟩
  · exact of_decide_eq_true h.1
  · exact of_decide_eq_true h.2
theorem nmv_in (u v : Int32) : nmv u v = -1 ∨ nmv u v = 0 ∨ nmv u v = 1 ∨ nmv u v = 2 := by
  unfold nmv
  split
  · split
    · split <;> simp
    · simp
  · split
    · split <;> simp
    · split
      · split
        · split <;> simp
        · simp
      · simp
section RD
variable {μb νb : Mem} {T nm : Nat} {use : Int32}
theorem lays_f {f : Nat} {x y : Int32} {μ ν : Mem} (h : R1 μb νb nm use f μ ν) : ∃ ν1, f_X9_lays x y ν = some ν1 ∧ R1 μb νb nm use f μ ν1 := by
  obtain ⟨hs, h1, h2, h3, h4, h5⟩ := h
  obtain ⟨ν1, e1, e2, e3, e4⟩ := lays_ok (x := x) (y := y) h5
  exact ⟨ν1, e1, lays_RS hs e2 e3, h1, h2, (e3 15 (by decide)).trans h3, (e3 13 (by decide)).trans h4, e4⟩
theorem R1_r0 {f j : Nat} {x : Int32} {μ ν : Mem} (h : R1 μb νb nm use f μ ν) (hj : j = 14) : R1 μb νb nm use f μ (up ν 0 j x) := by
  subst hj
  obtain ⟨hs, h1, h2, h3, h4, n, h5, h6⟩ := h
  exact ⟨RS_r0 hs (by decide), h1, h2, by rw [up_n (by decide)]; exact h3, by rw [up_n (by decide)]; exact h4, n, h5, by rw [up_n (by decide)]; exact h6⟩
theorem R0_14 {v a n d : Nat} (w : Nat) {μ ν : Mem} (h : R0 μb νb T nm use v a n d μ ν) : R0 μb νb T nm use w a n d μ (up ν 0 14 (nI w)) := by
  obtain ⟨hs, h7, h8, h9, h10, h11, h12, h13, h14, h15, h16, h17⟩ := h
  exact ⟨RS_r0 hs (by decide), h7, h8, h9, by rw [up_n (by decide)]; exact h10, by rw [up_n (by decide)]; exact h11, by rw [up_n (by decide)]; exact h12, up_s, h14, h15, fun k hk => by rw [up_ne (show (8 : Nat) ≠ 0 by decide), up_ne (show (9 : Nat) ≠ 0 by decide)]; exact h16 k hk, by rw [up_cell (show (8 : Nat) ≠ 0 by decide)]; exact h17⟩
theorem bad_both {v a n d : Nat} {μ ν : Mem} (hT : T ≤ 60) (h : R0 μb νb T nm use v a n d μ ν) : f_X4_miss μ = some (up μ 48 5 (nI a)) ∧ R1 μb νb nm use a (up μ 48 5 (nI a)) (up ν 0 15 1) := by
  obtain ⟨hs, h7, h8, h9, h10, h11, h12, h13, h14, h15, h16, h17⟩ := h
  refine ⟨?_, RS_r0 (RS_48 hs (by decide)) (by decide), up_s, by omega, up_s, by rw [up_n (by decide)]; exact h11, n, by omega, by rw [up_n (by decide)]; exact h10⟩
  unfold f_X4_miss
  rw [h9, if_neg m1_neg, h8, wr_n]
theorem miss_f {f : Nat} {μ ν : Mem} (h : R1 μb νb nm use f μ ν) : f_X4_miss μ = some μ := by
  unfold f_X4_miss
  rw [h.2.1, if_pos (nI_ge0 (by have := h.2.2.1; omega))]
theorem number_bad {v a n d : Nat} {c : Int32} {μ ν : Mem} (hT : T ≤ 60) (h : R0 μb νb T nm use v a n d μ ν) (hl : f_X9_look ν = some c) (hc : f_X9_in c 48 57 = 0) : ∃ ν1, f_X9_number ν = some ν1 ∧ R1 μb νb nm use a (up μ 48 5 (nI a)) ν1 := by
  obtain ⟨-, k⟩ := bad_both hT h
  obtain ⟨ν1, e1, e2⟩ := lays_f (x := 1) (y := 0) k
  refine ⟨ν1, ?_, e2⟩
  have x : ∀ f, f_X9_number_4 (f + 1) 0 0 ν = some ν1 := fun f => by
    unfold f_X9_number_4
    rw [if_neg (show ¬ (4 : Int32) ≤ 0 by decide), hl, bd_n, hc, if_pos rfl]
    unfold f_X9_number_52 f_X9_number_62
    rw [if_pos rfl, show bl 1 = true from by decide, ck_n, wr_n, e1, bd_n]
  exact x 1999
theorem dig_eq (c : Int32) : f_X9_in c 48 57 = f_X4_isDigit c := rfl
theorem dig_of {c : Int32} (h : ¬ f_X4_isDigit c = 0) : ∃ e, e < 10 ∧ c = nI (48 + e) := by
  unfold f_X4_isDigit at h
  by_cases c1 : c < 48
  · rw [if_pos c1] at h; exact absurd rfl h
  · rw [if_neg c1] at h
    by_cases c2 : 57 < c
    · rw [if_pos c2] at h; exact absurd rfl h
    · rw [Int32.lt_iff_toInt_lt, show (48 : Int32).toInt = 48 by decide] at c1
      rw [Int32.lt_iff_toInt_lt, show (57 : Int32).toInt = 57 by decide] at c2
      refine ⟨c.toInt.toNat - 48, by omega, ?_⟩
      rw [eq_i, nI_toInt (by omega)]
      omega
theorem dig_step {m e : Nat} : (nI m * 10) + nI (48 + e) - 48 = nI (m * 10 + e) ∧ (10 * nI m) + nI (48 + e) - 48 = nI (m * 10 + e) := by
  have h1 : nI (m * 10) + nI (48 + e) - 48 = nI (m * 10 + e) := by
    rw [nI_add, show (48 : Int32) = nI 48 from rfl, pk_sub (by omega)]
    congr 1
    omega
  refine ⟨?_, ?_⟩
  · rw [show (10 : Int32) = nI 10 from rfl, pk_mul]; exact h1
  · rw [show (10 : Int32) = nI 10 from rfl, pk_mul, Nat.mul_comm]; exact h1
theorem num_loop {v n d : Nat} (hB : RB μb νb T nm use) : ∀ f j m a μ ν, R0 μb νb T nm use v a n d μ ν → n < a → 1 ≤ j → j ≤ 4 → m < 10 ^ j → 6 ≤ f + j → ∃ μ1 ν1, f_X4_readNumber_4 f (nI m) (nI j) μ = some μ1 ∧ f_X9_number_4 f (nI m) (nI j) ν = some ν1 ∧ ∃ a1, a ≤ a1 ∧ R0 μb νb T nm use v a1 (n + 1) (d + 1) μ1 ν1 := by
  have hT : T ≤ 60 := hB.1
  intro f
  induction f with
  | zero => intro j m a μ ν h hn h1 h4 hm hf; omega
  | succ f ih =>
    intro j m a μ ν h hn h1 h4 hm hf
    have haT := R0_T h
    have hm4 : m < 10 ^ 4 := Nat.lt_of_lt_of_le hm (Nat.pow_le_pow_right (by decide) h4)
    have fin : ∃ μ1 ν1, f_X4_readNumber_48 (nI m) μ = some μ1 ∧ f_X9_number_52 (nI m) (nI j) ν = some ν1 ∧ ∃ a1, a ≤ a1 ∧ R0 μb νb T nm use v a1 (n + 1) (d + 1) μ1 ν1 := by
      obtain ⟨μ1, ν1, w1, w2, w3⟩ := write_both (w := nI m) (x := 1) (y := nI m) (d1 := d + 1) h (by omega) hn (Or.inl ⟨by rw [nI_toInt (by omega)]; omega, rfl, rfl⟩) rfl
      have h15 : ν 0 15 = 0 := h.2.2.2.2.2.2.1
      have e15 : up ν 0 15 0 = ν := by have q := up_self (ν := ν) (i := 0) (k := 15); rw [h15] at q; exact q
      unfold f_X4_readNumber_48 f_X9_number_52 f_X9_number_62
      rw [w1, bd_n, if_neg (nI_ne0 (by omega) (by omega)), show bl 0 = true from by decide, ck_n, wr_n, e15, w2, bd_n]
      exact ⟨_, _, rfl, rfl, a, Nat.le_refl _, w3⟩
    have l4 : (4 : Int32) ≤ nI j ↔ 4 ≤ j := nI_leI (a := 4) (by decide) (by omega)
    unfold f_X4_readNumber_4 f_X9_number_4
    by_cases q : 4 ≤ j
    · rw [if_pos (l4.mpr q), if_pos (l4.mpr q)]
      exact fin
    · obtain ⟨c, c1, c2, c3⟩ := look_both hB h
      rw [if_neg (fun e => q (l4.mp e)), if_neg (fun e => q (l4.mp e)), c1, c2]
      simp only [bd_n, dig_eq]
      by_cases hd : f_X4_isDigit c = 0
      · rw [if_pos hd, if_pos hd]
        exact fin
      · obtain ⟨e, he, rfl⟩ := dig_of hd
        have ha : a < T := by
          rcases c3 with q | ⟨m, -, -, q⟩
          · have := (nI_inj (a := 48 + e) (b := 2 ^ 31 - 1) (by omega) (by decide)).mp
            have z := congrArg Int32.toInt q
            rw [nI_toInt (by omega), show (-1 : Int32).toInt = -1 by decide] at z
            omega
          · exact q
        have h4 : μ 48 4 = nI a := h.2.2.1
        have h13 : ν 0 13 = nI a := h.2.2.2.2.2.1
        rw [if_neg hd, if_neg hd, wr_n, wr_n, h4, h13, nI_1 a, nI_1 j, dig_step.1, dig_step.2]
        have hp : m * 10 + e < 10 ^ (j + 1) := by rw [Nat.pow_succ]; omega
        obtain ⟨μ1, ν1, f1, f2, a1, f3, f4⟩ := ih (j + 1) (m * 10 + e) (a + 1) _ _ (adv h ha) (by omega) (by omega) (by omega) hp (by omega)
        exact ⟨μ1, ν1, f1, f2, a1, by omega, f4⟩
theorem num_both {v a n d : Nat} {c : Int32} {μ ν : Mem} (hB : RB μb νb T nm use) (h : R0 μb νb T nm use v a n d μ ν) (c1 : f_X4_next μ = some c) (c2 : f_X9_look ν = some c) (ha : a < T) (hd : ¬ f_X4_isDigit c = 0) : ∃ μ1 ν1, f_X4_readNumber μ = some μ1 ∧ f_X9_number ν = some ν1 ∧ OC μb νb T nm use v a n (d + 1) μ1 ν1 := by
  obtain ⟨e, he, rfl⟩ := dig_of hd
  have hna : n ≤ a := h.2.2.2.2.2.2.2.2.1
  have h4 : μ 48 4 = nI a := h.2.2.1
  have h13 : ν 0 13 = nI a := h.2.2.2.2.2.1
  have d0 := dig_step (m := 0) (e := e)
  rw [show nI 0 = 0 from rfl, Nat.zero_mul, Nat.zero_add] at d0
  obtain ⟨μ1, ν1, f1, f2, a1, f3, f4⟩ := num_loop (v := v) hB 1999 1 e (a + 1) _ _ (adv h ha) (by omega) (by decide) (by decide) (by omega) (by decide)
  have x1 : f_X4_readNumber_4 (1999 + 1) 0 0 μ = some μ1 := by
    have y : ∀ f, f_X4_readNumber_4 f (nI e) (nI 1) (up μ 48 4 (nI (a + 1))) = some μ1 → f_X4_readNumber_4 (f + 1) 0 0 μ = some μ1 := fun f hf => by
      unfold f_X4_readNumber_4
      rw [if_neg (show ¬ (4 : Int32) ≤ 0 by decide), c1, bd_n, if_neg hd, bd_n, wr_n, h4, nI_1, d0.1, show (0 : Int32) + 1 = nI 1 from rfl]
      exact hf
    exact y 1999 f1
  have x2 : f_X9_number_4 (1999 + 1) 0 0 ν = some ν1 := by
    have y : ∀ f, f_X9_number_4 f (nI e) (nI 1) (up ν 0 13 (nI (a + 1))) = some ν1 → f_X9_number_4 (f + 1) 0 0 ν = some ν1 := fun f hf => by
      unfold f_X9_number_4
      rw [if_neg (show ¬ (4 : Int32) ≤ 0 by decide), c2, bd_n, dig_eq, if_neg hd, bd_n, wr_n, h13, nI_1, d0.2, show (0 : Int32) + 1 = nI 1 from rfl]
      exact hf
    exact y 1999 f2
  exact ⟨μ1, ν1, x1, x2, Or.inl ⟨a1, n + 1, by omega, by omega, f4⟩⟩
theorem dig_nm : ∀ e, e < 10 → nmv 0 (nI (48 + e)) < 0 ∧ nmv 1 (nI (48 + e)) < 0 ∧ ¬ nI (48 + e) = 33 ∧ ¬ nI (48 + e) = 40 := by decide
theorem nm_lt {u v : Int32} (hu : u = 0 ∨ u = 1) (h : nmv 0 v < 0 ∧ nmv 1 v < 0) : nmv u v < 0 := by
  rcases hu with rfl | rfl
  · exact h.1
  · exact h.2
/-- a name, or nothing that begins a part -/
theorem name_both {v a n d : Nat} {c : Int32} {μ ν : Mem} {R : Mem → Option Mem} (hB : RB μb νb T nm use) (h : R0 μb νb T nm use v a n d μ ν) (c2 : f_X9_look ν = some c) (c3 : c = -1 ∨ ∃ m, m < 256 ∧ c = nI m ∧ a < T) (hd : f_X4_isDigit c = 0) (q1 : ¬ c = 33) (q2 : ¬ c = 40) : ∃ μ1 ν1, f_X4_readName c μ = some μ1 ∧ (if (f_X9_nameOf c ν) < 0 then if c = 33 then f_X9_oneb_46 R c ν else if c = 40 then f_X9_oneb_46 R c ν else bd (f_X9_number ν) fun μ5 => some μ5 else wr ν 0 13 ((ν 0 13) + 1) fun μ6 => bd (f_X9_lays 2 (f_X9_nameOf c ν) μ6) fun μ7 => some μ7) = some ν1 ∧ OC μb νb T nm use v a n (d + 1) μ1 ν1 := by
  have hT : T ≤ 60 := hB.1
  have h4 : μ 48 4 = nI a := h.2.2.1
  have h5 : μ 48 2 = nI nm := h.1.2.2.2.2.1
  have h13 : ν 0 13 = nI a := h.2.2.2.2.2.1
  have h16 : ν 0 16 = use := h.1.2.2.2.2.2
  have hna : n ≤ a := h.2.2.2.2.2.2.2.2.1
  rw [nm_at, h16]
  have bad : nmv use c < 0 → ∃ μ1 ν1, f_X4_readName_17 (-1) μ = some μ1 ∧ (if nmv use c < 0 then if c = 33 then f_X9_oneb_46 R c ν else if c = 40 then f_X9_oneb_46 R c ν else bd (f_X9_number ν) fun μ5 => some μ5 else wr ν 0 13 ((ν 0 13) + 1) fun μ6 => bd (f_X9_lays 2 (nmv use c) μ6) fun μ7 => some μ7) = some ν1 ∧ OC μb νb T nm use v a n (d + 1) μ1 ν1 := fun hn => by
    obtain ⟨ν1, e1, e2⟩ := number_bad hT h c2 (by rw [dig_eq]; exact hd)
    unfold f_X4_readName_17
    rw [if_neg m1_neg, (bad_both hT h).1, bd_n, if_pos hn, if_neg q1, if_neg q2, e1, bd_n]
    exact ⟨_, _, rfl, rfl, Or.inr ⟨a, e2⟩⟩
  unfold f_X4_readName
  rcases c3 with rfl | ⟨m, hm, rfl, ha⟩
  · rw [if_neg m1_neg]
    exact bad (nm_lt (by rcases hB.2.2.2.2 with q | q <;> simp [q.2]) (by decide))
  · have hstr : isStr (ix (μ 48 2)) = true ∧ ix (μ 48 2) - 110 = nm - 110 := by
      rw [h5]
      rcases hB.2.2.2.2 with ⟨rfl, -⟩ | ⟨rfl, -⟩ <;> decide
    rw [if_pos (nI_ge0 (by omega)), ck_c hstr.1, hstr.2, nm_idx hm hB.2.2.2.2, bd_n]
    by_cases hn : nmv use (nI m) < 0
    · have e : nmv use (nI m) = -1 := by
        rcases nmv_in use (nI m) with q | q | q | q
        · exact q
        · rw [q] at hn; exact absurd hn (by decide)
        · rw [q] at hn; exact absurd hn (by decide)
        · rw [q] at hn; exact absurd hn (by decide)
      have b := bad hn
      rw [e] at b ⊢
      exact b
    · have hge : (0 : Int32) ≤ nmv use (nI m) := by
        rw [Int32.lt_iff_toInt_lt] at hn
        rw [Int32.le_iff_toInt_le]
        omega
      have hT1 := R0_T h
      unfold f_X4_readName_17
      obtain ⟨μ1, ν1, w1, w2, w3⟩ := write_both (w := -1 - nmv use (nI m)) (x := 2) (y := nmv use (nI m)) (d1 := d + 1) (adv h ha) (by omega) (by omega) (by
        rcases nmv_in use (nI m) with q | q | q | q
        · rw [q] at hn; exact absurd (show (-1 : Int32) < 0 by decide) hn
        · rw [q]; exact Or.inr (Or.inl ⟨by decide, rfl, rfl⟩)
        · rw [q]; exact Or.inr (Or.inr (Or.inl ⟨by decide, rfl, rfl⟩))
        · rw [q]; exact Or.inr (Or.inr (Or.inr (Or.inl ⟨by decide, rfl, rfl⟩)))) rfl
      rw [if_pos hge, wr_n, h4, nI_1, w1, bd_n, if_neg hn, wr_n, h13, nI_1, w2, bd_n]
      exact ⟨_, _, rfl, rfl, Or.inl ⟨a + 1, n + 1, by omega, by omega, w3⟩⟩
theorem part_spc (hB : RB μb νb T nm use) : ∀ f v, v ≤ 5 → 6 ≤ f + v → SPC μb νb T nm use v (f_X4_readPart f (nI v)) (f_X9_one f) := by
  have hT : T ≤ 60 := hB.1
  have hu : use = 0 ∨ use = 1 := by rcases hB.2.2.2.2 with q | q <;> simp [q.2]
  intro f
  induction f with
  | zero => intro v hv hf; omega
  | succ f ih =>
    intro v hv hf a n d μ ν h
    show ∃ μ1 ν1, f_X4_readPartb (f_X4_readPart f) (nI v) μ = some μ1 ∧ f_X9_oneb (f_X9_one f) ν = some ν1 ∧ OC μb νb T nm use v a n (d + 1) μ1 ν1
    obtain ⟨c, c1, c2, c3⟩ := look_both hB h
    have h4 : μ 48 4 = nI a := h.2.2.1
    have h13 : ν 0 13 = nI a := h.2.2.2.2.2.1
    have h14 : ν 0 14 = nI v := h.2.2.2.2.2.2.2.1
    have h16 : ν 0 16 = use := h.1.2.2.2.2.2
    have hna : n ≤ a := h.2.2.2.2.2.2.2.2.1
    have haT := R0_T h
    have l5 : (5 : Int32) ≤ nI v ↔ 5 ≤ v := nI_leI (a := 5) (by decide) (by omega)
    have e5 : nI v = 5 ↔ v = 5 := nI_inj (b := 5) (by omega) (by decide)
    unfold f_X4_readPartb f_X9_oneb
    rw [c1, c2, bd_n, bd_n]
    by_cases hd : f_X4_isDigit c = 0
    · by_cases q1 : c = 33
      · subst q1
        have ha : a < T := by
          rcases c3 with q | ⟨m, -, -, q⟩
          · exact absurd q (by decide)
          · exact q
        rw [nm_at, h16, if_pos (nm_lt hu (show nmv 0 33 < 0 ∧ nmv 1 33 < 0 by decide)), if_pos rfl]
        unfold f_X9_oneb_46 f_X9_opens
        rw [h14]
        by_cases v5 : v = 5
        · rw [if_pos (l5.mpr (by omega)), if_pos (e5.mpr v5), wr_n, bd_n]
          unfold f_X4_readPartb_15 f_X4_readPartb_66 f_X4_readPartb_100 f_X4_readName
          have hstr : isStr (ix (μ 48 2)) = true ∧ ix (μ 48 2) - 110 = nm - 110 := by
            rw [h.1.2.2.2.2.1]
            rcases hB.2.2.2.2 with ⟨rfl, -⟩ | ⟨rfl, -⟩ <;> decide
          have ni := nm_idx (m := 33) (by decide) hB.2.2.2.2
          rw [show nI 33 = 33 from rfl, show nmv use 33 = -1 by rcases hu with rfl | rfl <;> decide] at ni
          rw [if_pos hd, if_pos rfl, if_pos rfl, if_neg (show ¬ (33 : Int32) = 40 by decide), if_pos (show (0 : Int32) ≤ 33 by decide), ck_c hstr.1, hstr.2, ni, bd_n]
          unfold f_X4_readName_17
          rw [if_neg m1_neg, (bad_both hT h).1, bd_n, bd_n]
          exact ⟨_, _, rfl, rfl, Or.inr ⟨a, (bad_both hT h).2⟩⟩
        · rw [if_neg (fun e => v5 (by have := l5.mp e; omega)), if_neg (fun e => v5 (e5.mp e)), wr_n, wr_n, if_pos rfl, up_n (show ¬ ((0 : Nat) = 0 ∧ 13 = 14) by decide), h13, nI_1, nI_1]
          unfold f_X4_readPartb_15
          rw [if_pos hd, if_pos rfl, if_neg (show ¬ (1 : Int32) = 0 by decide), wr_n, h4, nI_1, nI_1]
          obtain ⟨μ2, ν2, e1, e2, e3⟩ := ih (v + 1) (by omega) (by omega) (a + 1) n d _ _ (adv (R0_14 (v + 1) h) ha)
          rw [e1, e2, bd_n, bd_n]
          unfold f_X9_opens_103
          rcases e3 with ⟨a1, n1, k1, k2, k3⟩ | ⟨g, k⟩
          · have k3T := R0_T k3
            obtain ⟨μ3, ν3, w1, w2, w3⟩ := write_both (w := -33) (x := 3) (y := 0) (d1 := d + 1) k3 (by omega) (by omega) (Or.inr (Or.inr (Or.inr (Or.inr (Or.inl ⟨rfl, rfl⟩))))) (by
              unfold dstep
              rw [if_neg (by decide), if_pos rfl, if_pos (by omega)])
            have x14 : ν3 0 14 = nI (v + 1) := w3.2.2.2.2.2.2.2.1
            rw [w1, w2, bd_n, bd_n, wr_n, x14, nI_pred, bd_n]
            exact ⟨_, _, rfl, rfl, Or.inl ⟨a1, n1 + 1, by omega, by omega, R0_14 v w3⟩⟩
          · obtain ⟨μ3, ν3, w1, w2, w3⟩ := write_f (w := -33) (x := 3) (y := 0) k
            rw [w1, w2, bd_n, bd_n, wr_n, bd_n]
            exact ⟨_, _, rfl, rfl, Or.inr ⟨g, R1_r0 w3 rfl⟩⟩
      · by_cases q2 : c = 40
        · subst q2
          have ha : a < T := by
            rcases c3 with q | ⟨m, -, -, q⟩
            · exact absurd q (by decide)
            · exact q
          rw [nm_at, h16, if_pos (nm_lt hu (show nmv 0 40 < 0 ∧ nmv 1 40 < 0 by decide)), if_neg q1, if_pos rfl]
          unfold f_X9_oneb_46 f_X9_opens
          rw [h14]
          by_cases v5 : v = 5
          · rw [if_pos (l5.mpr (by omega)), if_pos (e5.mpr v5), wr_n, bd_n]
            unfold f_X4_readPartb_15 f_X4_readPartb_66 f_X4_readPartb_100 f_X4_readName
            have hstr : isStr (ix (μ 48 2)) = true ∧ ix (μ 48 2) - 110 = nm - 110 := by
              rw [h.1.2.2.2.2.1]
              rcases hB.2.2.2.2 with ⟨rfl, -⟩ | ⟨rfl, -⟩ <;> decide
            have ni := nm_idx (m := 40) (by decide) hB.2.2.2.2
            rw [show nI 40 = 40 from rfl, show nmv use 40 = -1 by rcases hu with rfl | rfl <;> decide] at ni
            rw [if_pos hd, if_neg q1, if_pos rfl, if_pos rfl, if_pos (show (0 : Int32) ≤ 40 by decide), ck_c hstr.1, hstr.2, ni, bd_n]
            unfold f_X4_readName_17
            rw [if_neg m1_neg, (bad_both hT h).1, bd_n, bd_n]
            exact ⟨_, _, rfl, rfl, Or.inr ⟨a, (bad_both hT h).2⟩⟩
          · rw [if_neg (fun e => v5 (by have := l5.mp e; omega)), if_neg (fun e => v5 (e5.mp e)), wr_n, wr_n, if_neg q1, up_n (show ¬ ((0 : Nat) = 0 ∧ 13 = 14) by decide), h13, nI_1, nI_1]
            unfold f_X4_readPartb_15 f_X4_readPartb_66
            rw [if_pos hd, if_neg q1, if_pos rfl, if_neg (show ¬ (1 : Int32) = 0 by decide), wr_n, h4, nI_1, nI_1]
            obtain ⟨μ2, ν2, e1, e2, e3⟩ := any_spc hB (ih (v + 1) (by omega) (by omega)) (a + 1) n d _ _ (adv (R0_14 (v + 1) h) ha)
            rw [e1, e2, bd_n, bd_n]
            unfold f_X9_opens_74 f_X9_opens_79 f_X9_opens_99 f_X9_opens_103 f_X4_readClosing
            simp only [show bl 0 = true from by decide, show bl 1 = true from by decide, ck_n, wr_n, up_s, eq_self, if_true, if_neg (show ¬ (1 : Int32) = 0 by decide)]
            rcases e3 with ⟨a1, n1, k1, k2, k3⟩ | ⟨g, k⟩
            · obtain ⟨r, r1, r2, r3⟩ := look_both hB k3
              have y4 : μ2 48 4 = nI a1 := k3.2.2.1
              have y13 : ν2 0 13 = nI a1 := k3.2.2.2.2.2.1
              have y14 : ν2 0 14 = nI (v + 1) := k3.2.2.2.2.2.2.2.1
              have y15 : ν2 0 15 = 0 := k3.2.2.2.2.2.2.1
              rw [r1, bd_n, y15, if_pos rfl, r2, bd_n]
              by_cases z : r = 41
              · have ha1 : a1 < T := by
                  rcases r3 with q | ⟨m, -, -, q⟩
                  · rw [q] at z; exact absurd z (by decide)
                  · exact q
                have e15 : up ν2 0 15 0 = ν2 := by have q := up_self (ν := ν2) (i := 0) (k := 15); rw [y15] at q; exact q
                rw [if_pos z, if_pos z, bd_n, e15, y4, y13, nI_1, up_n (show ¬ ((0 : Nat) = 0 ∧ 14 = 13) by decide), y14, nI_pred, bd_n]
                exact ⟨_, _, rfl, rfl, Or.inl ⟨a1 + 1, n1, by omega, by omega, R0_14 v (adv k3 ha1)⟩⟩
              · obtain ⟨b1, b2⟩ := bad_both hT k3
                have e13 : up (up ν2 0 15 1) 0 13 (up ν2 0 15 1 0 13 + 0) = up ν2 0 15 1 := by rw [Int32.add_zero, up_self]
                rw [if_neg z, if_neg z, b1, bd_n, bd_n, e13, bd_n]
                exact ⟨_, _, rfl, rfl, Or.inr ⟨a1, R1_r0 b2 rfl⟩⟩
            · have y15 : ν2 0 15 = 1 := k.2.2.2.1
              have e15 : up ν2 0 15 1 = ν2 := by have q := up_self (ν := ν2) (i := 0) (k := 15); rw [y15] at q; exact q
              have e13 : up ν2 0 13 (ν2 0 13 + 0) = ν2 := by rw [Int32.add_zero, up_self]
              rw [next_f k, bd_n, y15, if_neg (show ¬ (1 : Int32) = 0 by decide), if_neg (show ¬ (-1 : Int32) = 41 by decide), miss_f k, bd_n, bd_n, e15, e13, bd_n]
              exact ⟨_, _, rfl, rfl, Or.inr ⟨g, R1_r0 k rfl⟩⟩
        · obtain ⟨μ1, ν1, m1, m2, m3⟩ := name_both (R := f_X9_one f) hB h c2 c3 hd q1 q2
          rw [m2]
          refine ⟨μ1, ν1, ?_, rfl, m3⟩
          unfold f_X4_readPartb_15 f_X4_readPartb_66 f_X4_readPartb_100
          rw [if_pos hd, if_pos hd, if_neg q1, if_neg q1, if_neg q2, if_neg q2, m1, bd_n]
          split <;> rfl
    · obtain ⟨e, he, rfl⟩ := dig_of hd
      have ha : a < T := by
        rcases c3 with q | ⟨m, -, -, q⟩
        · have z := congrArg Int32.toInt q
          rw [nI_toInt (by omega), show (-1 : Int32).toInt = -1 by decide] at z
          omega
        · exact q
      obtain ⟨n1, n2, n3, n4⟩ := dig_nm e he
      obtain ⟨μ1, ν1, m1, m2, m3⟩ := num_both hB h c1 c2 ha hd
      rw [nm_at, h16, if_pos (nm_lt hu ⟨n1, n2⟩), if_neg n3, if_neg n4, m2, bd_n]
      refine ⟨μ1, ν1, ?_, rfl, m3⟩
      unfold f_X4_readPartb_15
      rw [if_neg hd, if_neg hd, m1, bd_n]
      split <;> rfl
end RD
