/-- what a law gives, on both sides -/
theorem held_19 (x : Int32) : jmax 0 (jmin 19 x) = f_X9_held x 0 19 := by
  unfold jmax jmin f_X9_held
  grind
theorem held_99 (x : Int32) : jmax 0 (jmin 99 x) = f_X9_held x 0 99 := by
  unfold jmax jmin f_X9_held
  grind
theorem held_rg {x m : Int32} (hm : m.toInt ≤ 99) (h0 : 0 ≤ m.toInt) : inb (f_X9_held x 0 m) 100 = true := by
  rw [show (inb (f_X9_held x 0 m) 100 = true) = rg (f_X9_held x 0 m) 100 from rfl, rg_iff]
  have z : (0 : Int32).toInt = 0 := by decide
  unfold f_X9_held
  split
  · rename_i q
    rw [Int32.le_iff_toInt_le, z] at q
    split
    · rename_i q2
      rw [Int32.le_iff_toInt_le] at q2
      omega
    · omega
  · rw [z]; omega
theorem gives_both {o c : Nat} {u v1 v2 v3 mx : Int32} {μ ν : Mem} (hu : u = 0 ∧ c = 153 ∧ mx = 19 ∨ u = 1 ∧ c = 274 ∧ mx = 99) (hm : μ o 1 = mx) (h : LR o μ (ν 1) c) : ∃ (r : Int32) (μ1 ν1 : Mem), f_X1_gives o v1 v2 v3 μ = some (r, μ1) ∧ f_X9_gives u v1 v2 v3 ν = some (r, ν1) ∧ sameC [o + 2] μ μ1 ∧ sameC [10, 11] ν ν1 ∧ inb r 100 = true := by
  obtain ⟨n, hn, a1, a2, a3, a4⟩ := h
  have hc : c ≤ 274 := by rcases hu with q | q <;> omega
  have e153 : 153 + 121 * u = nI c := by rcases hu with ⟨rfl, rfl, -⟩ | ⟨rfl, rfl, -⟩ <;> decide
  have hfin : ∀ x, jmax 0 (jmin mx x) = if u = 0 then f_X9_held x 0 19 else f_X9_held x 0 99 := fun x => by
    rcases hu with ⟨rfl, rfl, rfl⟩ | ⟨rfl, rfl, rfl⟩
    · rw [if_pos rfl]; exact held_19 x
    · rw [if_neg (by decide)]; exact held_99 x
  have hrg : ∀ x, inb (jmax 0 (jmin mx x)) 100 = true := fun x => by
    rcases hu with ⟨rfl, rfl, rfl⟩ | ⟨rfl, rfl, rfl⟩
    · rw [held_19]; exact held_rg (by decide) (by decide)
    · rw [held_99]; exact held_rg (by decide) (by decide)
  have n52 : ∀ (x : Int32) (ν' : Mem), f_X9_gives_52 u x ν' = some (jmax 0 (jmin mx x), ν') := fun x ν' => by
    unfold f_X9_gives_52
    rw [hfin]
    by_cases q : u = 0
    · rw [if_pos q, if_pos q]
    · rw [if_neg q, if_neg q]
  unfold f_X1_gives f_X9_gives f_X1_isTold
  rw [wr_n, wr_n, wr_n, e153, ck_c (inb_nI (show c < 395 by omega) (by decide)), ix_nI (show c < 2 ^ 31 by omega), show ix 0 = 0 from rfl, show ix 1 = 1 from rfl, show ix 2 = 2 from rfl, a1]
  generalize hν : up (up (up ν 10 0 v1) 10 1 v2) 10 2 v3 = ν3
  have f1 : ν3 1 = ν 1 := by rw [← hν, up_cell (by decide), up_cell (by decide), up_cell (by decide)]
  have f0 : ν3 10 0 = v1 := by rw [← hν, up_n (by decide), up_n (by decide), up_s]
  have f2 : ν3 10 1 = v2 := by rw [← hν, up_n (by decide), up_s]
  have f3 : ν3 10 2 = v3 := by rw [← hν, up_s]
  have hR3 : sameC [10, 11] ν ν3 := by rw [← hν]; exact sameC_up (sameC_up (sameC_up (sameC_rf _ _) (by decide)) (by decide)) (by decide)
  clear hν
  rw [f1, a2]
  by_cases q : n = 0
  · subst q
    have l0 : nI 0 ≤ 0 := by decide
    rw [if_pos l0, if_pos l0, if_pos rfl, n52]
    unfold f_X1_gives_18
    rw [hm]
    exact ⟨_, _, _, rfl, rfl, sameC_rf _ _, hR3, hrg _⟩
  · have l0 : ¬ nI n ≤ 0 := fun e => by have := (nI_leI (a := n) (b := 0) (by omega) (by decide)).mp e; omega
    rw [if_neg l0, if_neg l0, if_neg (show ¬ (1 : Int32) = 0 by decide)]
    obtain ⟨r, μ1, ν1, p1, p2, p3, p4⟩ := law_loop2 (o := o) (c := c) (n := n) (μ := μ) (ν := ν3) (v1 := v1) (v2 := v2) (v3 := v3) hc hn a1 (by rw [f1]; exact a2) (by rw [f1]; exact a3) (by rw [f1]; exact a4.resolve_left q) 2000 0 0 μ ν3 (by omega) (by omega) rfl (sameC_rf _ _) (sameC_rf _ _) (fun i hi => absurd hi (by omega)) f0 f2 f3
    unfold f_X1_workedOut f_X9_works
    rw [show (0 : Int32) = nI 0 from rfl] at *
    rw [p1, p2, bd2_n, bd2_n, n52]
    unfold f_X1_gives_18
    have hm1 : μ1 o 1 = mx := by rw [p3 o (by simp)]; exact hm
    rw [hm1]
    exact ⟨_, _, _, rfl, rfl, p3, sameC_tr hR3 (sameC_mono p4 (by decide)), hrg _⟩
