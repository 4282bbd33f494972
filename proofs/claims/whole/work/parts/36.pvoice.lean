/-! VOICES -/
theorem fr_hit {P : Int32 → Int32 → Int32 → Int32 → Mem → Option (Int32 × Mem)} (n : Nat) {m x d k j b a : Int32} {μ : Mem} (c1 : ¬ 7 ≤ j) (c2 : ¬ k < 0) (c3 : ¬ 7 ≤ k) (c4 : ¬ k * 4 + m < 0) (c5 : ¬ 28 ≤ k * 4 + m) (c6 : inb (k * 4 + m) 28 = true) (c7 : ¬ b = 0) (c8 : inb k 7 = true) (hb : bOd (k * 4 + m) = b) (ha : kAb k = a) : f_X6_from_6 P (n + 1) m x d k j μ = P b a x d μ := by
  unfold f_X6_from_6 f_X6_from_56
  rw [if_neg c1, if_neg c2, if_neg c3, if_neg c4, if_neg c5, ck_c c6, hb, if_neg c7, ck_c c6, ck_c c8, ha, bd2_id]
theorem fr_miss {P : Int32 → Int32 → Int32 → Int32 → Mem → Option (Int32 × Mem)} (n : Nat) {m x d k j a i : Int32} {μ : Mem} (c1 : ¬ 7 ≤ j) (c2 : ¬ k < 0) (c3 : ¬ 7 ≤ k) (c4 : ¬ k * 4 + m < 0) (c5 : ¬ 28 ≤ k * 4 + m) (c6 : inb (k * 4 + m) 28 = true) (c8 : inb k 7 = true) (hb : bOd (k * 4 + m) = 0) (ha : kAb k = a) (hi : j + 1 = i) : f_X6_from_6 P (n + 1) m x d k j μ = f_X6_from_6 P n m x d a i μ := by
  conv => lhs; unfold f_X6_from_6 f_X6_from_76
  rw [if_neg c1, if_neg c2, if_neg c3, if_neg c4, if_neg c5, ck_c c6, hb, if_pos rfl, ck_c c8, ha, hi]
theorem fr_0_0 {P : Int32 → Int32 → Int32 → Int32 → Mem → Option (Int32 × Mem)} {x d : Int32} {μ : Mem} : f_X6_from P 0 0 x d μ = P 10 (-1) x d μ :=
  fr_hit 1999 (j := 0) (k := 0) (m := 0) (b := 10) (a := -1) (by decide) (by decide) (by decide) (by decide) (by decide) (by decide) (by decide) (by decide) (by decide) (by decide)
theorem fr_0_1 {P : Int32 → Int32 → Int32 → Int32 → Mem → Option (Int32 × Mem)} {x d : Int32} {μ : Mem} : f_X6_from P 0 1 x d μ = P 11 (-1) x d μ :=
  fr_hit 1999 (j := 0) (k := 0) (m := 1) (b := 11) (a := -1) (by decide) (by decide) (by decide) (by decide) (by decide) (by decide) (by decide) (by decide) (by decide) (by decide)
theorem fr_0_2 {P : Int32 → Int32 → Int32 → Int32 → Mem → Option (Int32 × Mem)} {x d : Int32} {μ : Mem} : f_X6_from P 0 2 x d μ = P 12 (-1) x d μ :=
  fr_hit 1999 (j := 0) (k := 0) (m := 2) (b := 12) (a := -1) (by decide) (by decide) (by decide) (by decide) (by decide) (by decide) (by decide) (by decide) (by decide) (by decide)
theorem fr_0_3 {P : Int32 → Int32 → Int32 → Int32 → Mem → Option (Int32 × Mem)} {x d : Int32} {μ : Mem} : f_X6_from P 0 3 x d μ = P 13 (-1) x d μ :=
  fr_hit 1999 (j := 0) (k := 0) (m := 3) (b := 13) (a := -1) (by decide) (by decide) (by decide) (by decide) (by decide) (by decide) (by decide) (by decide) (by decide) (by decide)
theorem fr_1_0 {P : Int32 → Int32 → Int32 → Int32 → Mem → Option (Int32 × Mem)} {x d : Int32} {μ : Mem} : f_X6_from P 1 0 x d μ = P 20 (0) x d μ :=
  fr_hit 1999 (j := 0) (k := 1) (m := 0) (b := 20) (a := 0) (by decide) (by decide) (by decide) (by decide) (by decide) (by decide) (by decide) (by decide) (by decide) (by decide)
theorem fr_1_1 {P : Int32 → Int32 → Int32 → Int32 → Mem → Option (Int32 × Mem)} {x d : Int32} {μ : Mem} : f_X6_from P 1 1 x d μ = P 11 (-1) x d μ :=
  (fr_miss 1999 (j := 0) (k := 1) (m := 1) (a := 0) (i := 1) (by decide) (by decide) (by decide) (by decide) (by decide) (by decide) (by decide) (by decide) (by decide) (by decide)).trans (fr_hit 1998 (j := 1) (k := 0) (m := 1) (b := 11) (a := -1) (by decide) (by decide) (by decide) (by decide) (by decide) (by decide) (by decide) (by decide) (by decide) (by decide))
theorem fr_1_2 {P : Int32 → Int32 → Int32 → Int32 → Mem → Option (Int32 × Mem)} {x d : Int32} {μ : Mem} : f_X6_from P 1 2 x d μ = P 12 (-1) x d μ :=
  (fr_miss 1999 (j := 0) (k := 1) (m := 2) (a := 0) (i := 1) (by decide) (by decide) (by decide) (by decide) (by decide) (by decide) (by decide) (by decide) (by decide) (by decide)).trans (fr_hit 1998 (j := 1) (k := 0) (m := 2) (b := 12) (a := -1) (by decide) (by decide) (by decide) (by decide) (by decide) (by decide) (by decide) (by decide) (by decide) (by decide))
theorem fr_1_3 {P : Int32 → Int32 → Int32 → Int32 → Mem → Option (Int32 × Mem)} {x d : Int32} {μ : Mem} : f_X6_from P 1 3 x d μ = P 21 (0) x d μ :=
  fr_hit 1999 (j := 0) (k := 1) (m := 3) (b := 21) (a := 0) (by decide) (by decide) (by decide) (by decide) (by decide) (by decide) (by decide) (by decide) (by decide) (by decide)
theorem fr_2_0 {P : Int32 → Int32 → Int32 → Int32 → Mem → Option (Int32 × Mem)} {x d : Int32} {μ : Mem} : f_X6_from P 2 0 x d μ = P 10 (-1) x d μ :=
  (fr_miss 1999 (j := 0) (k := 2) (m := 0) (a := 0) (i := 1) (by decide) (by decide) (by decide) (by decide) (by decide) (by decide) (by decide) (by decide) (by decide) (by decide)).trans (fr_hit 1998 (j := 1) (k := 0) (m := 0) (b := 10) (a := -1) (by decide) (by decide) (by decide) (by decide) (by decide) (by decide) (by decide) (by decide) (by decide) (by decide))
theorem fr_2_1 {P : Int32 → Int32 → Int32 → Int32 → Mem → Option (Int32 × Mem)} {x d : Int32} {μ : Mem} : f_X6_from P 2 1 x d μ = P 30 (0) x d μ :=
  fr_hit 1999 (j := 0) (k := 2) (m := 1) (b := 30) (a := 0) (by decide) (by decide) (by decide) (by decide) (by decide) (by decide) (by decide) (by decide) (by decide) (by decide)
theorem fr_2_2 {P : Int32 → Int32 → Int32 → Int32 → Mem → Option (Int32 × Mem)} {x d : Int32} {μ : Mem} : f_X6_from P 2 2 x d μ = P 12 (-1) x d μ :=
  (fr_miss 1999 (j := 0) (k := 2) (m := 2) (a := 0) (i := 1) (by decide) (by decide) (by decide) (by decide) (by decide) (by decide) (by decide) (by decide) (by decide) (by decide)).trans (fr_hit 1998 (j := 1) (k := 0) (m := 2) (b := 12) (a := -1) (by decide) (by decide) (by decide) (by decide) (by decide) (by decide) (by decide) (by decide) (by decide) (by decide))
theorem fr_2_3 {P : Int32 → Int32 → Int32 → Int32 → Mem → Option (Int32 × Mem)} {x d : Int32} {μ : Mem} : f_X6_from P 2 3 x d μ = P 13 (-1) x d μ :=
  (fr_miss 1999 (j := 0) (k := 2) (m := 3) (a := 0) (i := 1) (by decide) (by decide) (by decide) (by decide) (by decide) (by decide) (by decide) (by decide) (by decide) (by decide)).trans (fr_hit 1998 (j := 1) (k := 0) (m := 3) (b := 13) (a := -1) (by decide) (by decide) (by decide) (by decide) (by decide) (by decide) (by decide) (by decide) (by decide) (by decide))
theorem fr_3_0 {P : Int32 → Int32 → Int32 → Int32 → Mem → Option (Int32 × Mem)} {x d : Int32} {μ : Mem} : f_X6_from P 3 0 x d μ = P 10 (-1) x d μ :=
  (fr_miss 1999 (j := 0) (k := 3) (m := 0) (a := 0) (i := 1) (by decide) (by decide) (by decide) (by decide) (by decide) (by decide) (by decide) (by decide) (by decide) (by decide)).trans (fr_hit 1998 (j := 1) (k := 0) (m := 0) (b := 10) (a := -1) (by decide) (by decide) (by decide) (by decide) (by decide) (by decide) (by decide) (by decide) (by decide) (by decide))
theorem fr_3_1 {P : Int32 → Int32 → Int32 → Int32 → Mem → Option (Int32 × Mem)} {x d : Int32} {μ : Mem} : f_X6_from P 3 1 x d μ = P 11 (-1) x d μ :=
  (fr_miss 1999 (j := 0) (k := 3) (m := 1) (a := 0) (i := 1) (by decide) (by decide) (by decide) (by decide) (by decide) (by decide) (by decide) (by decide) (by decide) (by decide)).trans (fr_hit 1998 (j := 1) (k := 0) (m := 1) (b := 11) (a := -1) (by decide) (by decide) (by decide) (by decide) (by decide) (by decide) (by decide) (by decide) (by decide) (by decide))
theorem fr_3_2 {P : Int32 → Int32 → Int32 → Int32 → Mem → Option (Int32 × Mem)} {x d : Int32} {μ : Mem} : f_X6_from P 3 2 x d μ = P 40 (0) x d μ :=
  fr_hit 1999 (j := 0) (k := 3) (m := 2) (b := 40) (a := 0) (by decide) (by decide) (by decide) (by decide) (by decide) (by decide) (by decide) (by decide) (by decide) (by decide)
theorem fr_3_3 {P : Int32 → Int32 → Int32 → Int32 → Mem → Option (Int32 × Mem)} {x d : Int32} {μ : Mem} : f_X6_from P 3 3 x d μ = P 13 (-1) x d μ :=
  (fr_miss 1999 (j := 0) (k := 3) (m := 3) (a := 0) (i := 1) (by decide) (by decide) (by decide) (by decide) (by decide) (by decide) (by decide) (by decide) (by decide) (by decide)).trans (fr_hit 1998 (j := 1) (k := 0) (m := 3) (b := 13) (a := -1) (by decide) (by decide) (by decide) (by decide) (by decide) (by decide) (by decide) (by decide) (by decide) (by decide))
theorem fr_4_0 {P : Int32 → Int32 → Int32 → Int32 → Mem → Option (Int32 × Mem)} {x d : Int32} {μ : Mem} : f_X6_from P 4 0 x d μ = P 50 (1) x d μ :=
  fr_hit 1999 (j := 0) (k := 4) (m := 0) (b := 50) (a := 1) (by decide) (by decide) (by decide) (by decide) (by decide) (by decide) (by decide) (by decide) (by decide) (by decide)
theorem fr_4_1 {P : Int32 → Int32 → Int32 → Int32 → Mem → Option (Int32 × Mem)} {x d : Int32} {μ : Mem} : f_X6_from P 4 1 x d μ = P 11 (-1) x d μ :=
  (fr_miss 1999 (j := 0) (k := 4) (m := 1) (a := 1) (i := 1) (by decide) (by decide) (by decide) (by decide) (by decide) (by decide) (by decide) (by decide) (by decide) (by decide)).trans ((fr_miss 1998 (j := 1) (k := 1) (m := 1) (a := 0) (i := 2) (by decide) (by decide) (by decide) (by decide) (by decide) (by decide) (by decide) (by decide) (by decide) (by decide)).trans (fr_hit 1997 (j := 2) (k := 0) (m := 1) (b := 11) (a := -1) (by decide) (by decide) (by decide) (by decide) (by decide) (by decide) (by decide) (by decide) (by decide) (by decide)))
theorem fr_4_2 {P : Int32 → Int32 → Int32 → Int32 → Mem → Option (Int32 × Mem)} {x d : Int32} {μ : Mem} : f_X6_from P 4 2 x d μ = P 51 (1) x d μ :=
  fr_hit 1999 (j := 0) (k := 4) (m := 2) (b := 51) (a := 1) (by decide) (by decide) (by decide) (by decide) (by decide) (by decide) (by decide) (by decide) (by decide) (by decide)
theorem fr_4_3 {P : Int32 → Int32 → Int32 → Int32 → Mem → Option (Int32 × Mem)} {x d : Int32} {μ : Mem} : f_X6_from P 4 3 x d μ = P 21 (0) x d μ :=
  (fr_miss 1999 (j := 0) (k := 4) (m := 3) (a := 1) (i := 1) (by decide) (by decide) (by decide) (by decide) (by decide) (by decide) (by decide) (by decide) (by decide) (by decide)).trans (fr_hit 1998 (j := 1) (k := 1) (m := 3) (b := 21) (a := 0) (by decide) (by decide) (by decide) (by decide) (by decide) (by decide) (by decide) (by decide) (by decide) (by decide))
theorem fr_5_0 {P : Int32 → Int32 → Int32 → Int32 → Mem → Option (Int32 × Mem)} {x d : Int32} {μ : Mem} : f_X6_from P 5 0 x d μ = P 10 (-1) x d μ :=
  (fr_miss 1999 (j := 0) (k := 5) (m := 0) (a := 2) (i := 1) (by decide) (by decide) (by decide) (by decide) (by decide) (by decide) (by decide) (by decide) (by decide) (by decide)).trans ((fr_miss 1998 (j := 1) (k := 2) (m := 0) (a := 0) (i := 2) (by decide) (by decide) (by decide) (by decide) (by decide) (by decide) (by decide) (by decide) (by decide) (by decide)).trans (fr_hit 1997 (j := 2) (k := 0) (m := 0) (b := 10) (a := -1) (by decide) (by decide) (by decide) (by decide) (by decide) (by decide) (by decide) (by decide) (by decide) (by decide)))
theorem fr_5_1 {P : Int32 → Int32 → Int32 → Int32 → Mem → Option (Int32 × Mem)} {x d : Int32} {μ : Mem} : f_X6_from P 5 1 x d μ = P 60 (2) x d μ :=
  fr_hit 1999 (j := 0) (k := 5) (m := 1) (b := 60) (a := 2) (by decide) (by decide) (by decide) (by decide) (by decide) (by decide) (by decide) (by decide) (by decide) (by decide)
theorem fr_5_2 {P : Int32 → Int32 → Int32 → Int32 → Mem → Option (Int32 × Mem)} {x d : Int32} {μ : Mem} : f_X6_from P 5 2 x d μ = P 12 (-1) x d μ :=
  (fr_miss 1999 (j := 0) (k := 5) (m := 2) (a := 2) (i := 1) (by decide) (by decide) (by decide) (by decide) (by decide) (by decide) (by decide) (by decide) (by decide) (by decide)).trans ((fr_miss 1998 (j := 1) (k := 2) (m := 2) (a := 0) (i := 2) (by decide) (by decide) (by decide) (by decide) (by decide) (by decide) (by decide) (by decide) (by decide) (by decide)).trans (fr_hit 1997 (j := 2) (k := 0) (m := 2) (b := 12) (a := -1) (by decide) (by decide) (by decide) (by decide) (by decide) (by decide) (by decide) (by decide) (by decide) (by decide)))
theorem fr_5_3 {P : Int32 → Int32 → Int32 → Int32 → Mem → Option (Int32 × Mem)} {x d : Int32} {μ : Mem} : f_X6_from P 5 3 x d μ = P 13 (-1) x d μ :=
  (fr_miss 1999 (j := 0) (k := 5) (m := 3) (a := 2) (i := 1) (by decide) (by decide) (by decide) (by decide) (by decide) (by decide) (by decide) (by decide) (by decide) (by decide)).trans ((fr_miss 1998 (j := 1) (k := 2) (m := 3) (a := 0) (i := 2) (by decide) (by decide) (by decide) (by decide) (by decide) (by decide) (by decide) (by decide) (by decide) (by decide)).trans (fr_hit 1997 (j := 2) (k := 0) (m := 3) (b := 13) (a := -1) (by decide) (by decide) (by decide) (by decide) (by decide) (by decide) (by decide) (by decide) (by decide) (by decide)))
theorem fr_6_0 {P : Int32 → Int32 → Int32 → Int32 → Mem → Option (Int32 × Mem)} {x d : Int32} {μ : Mem} : f_X6_from P 6 0 x d μ = P 70 (0) x d μ :=
  fr_hit 1999 (j := 0) (k := 6) (m := 0) (b := 70) (a := 0) (by decide) (by decide) (by decide) (by decide) (by decide) (by decide) (by decide) (by decide) (by decide) (by decide)
theorem fr_6_1 {P : Int32 → Int32 → Int32 → Int32 → Mem → Option (Int32 × Mem)} {x d : Int32} {μ : Mem} : f_X6_from P 6 1 x d μ = P 71 (0) x d μ :=
  fr_hit 1999 (j := 0) (k := 6) (m := 1) (b := 71) (a := 0) (by decide) (by decide) (by decide) (by decide) (by decide) (by decide) (by decide) (by decide) (by decide) (by decide)
theorem fr_6_2 {P : Int32 → Int32 → Int32 → Int32 → Mem → Option (Int32 × Mem)} {x d : Int32} {μ : Mem} : f_X6_from P 6 2 x d μ = P 12 (-1) x d μ :=
  (fr_miss 1999 (j := 0) (k := 6) (m := 2) (a := 0) (i := 1) (by decide) (by decide) (by decide) (by decide) (by decide) (by decide) (by decide) (by decide) (by decide) (by decide)).trans (fr_hit 1998 (j := 1) (k := 0) (m := 2) (b := 12) (a := -1) (by decide) (by decide) (by decide) (by decide) (by decide) (by decide) (by decide) (by decide) (by decide) (by decide))
theorem fr_6_3 {P : Int32 → Int32 → Int32 → Int32 → Mem → Option (Int32 × Mem)} {x d : Int32} {μ : Mem} : f_X6_from P 6 3 x d μ = P 13 (-1) x d μ :=
  (fr_miss 1999 (j := 0) (k := 6) (m := 3) (a := 0) (i := 1) (by decide) (by decide) (by decide) (by decide) (by decide) (by decide) (by decide) (by decide) (by decide) (by decide)).trans (fr_hit 1998 (j := 1) (k := 0) (m := 3) (b := 13) (a := -1) (by decide) (by decide) (by decide) (by decide) (by decide) (by decide) (by decide) (by decide) (by decide) (by decide))
def wb10 (P : Int32 → Int32 → Int32 → Int32 → Mem → Option (Int32 × Mem)) (v2 v3 v4 : Int32) (μ : Mem) : Option (Int32 × Mem) := some ((v3 + (μ 55 4)), μ)
theorem wb10_at {P : Int32 → Int32 → Int32 → Int32 → Mem → Option (Int32 × Mem)} {v2 v3 v4 : Int32} {μ : Mem} : f_X6_workb_48 P 10 v2 v3 v4 μ = wb10 P v2 v3 v4 μ := by
  unfold f_X6_workb_48 wb10
  rw [if_pos rfl]
def wb11 (P : Int32 → Int32 → Int32 → Int32 → Mem → Option (Int32 × Mem)) (v2 v3 v4 : Int32) (μ : Mem) : Option (Int32 × Mem) := bd2 (f_X6_own P 0 v3 (v4 + 1) μ) fun r m => some ((r * 2), m)
theorem wb11_at {P : Int32 → Int32 → Int32 → Int32 → Mem → Option (Int32 × Mem)} {v2 v3 v4 : Int32} {μ : Mem} : f_X6_workb_48 P 11 v2 v3 v4 μ = wb11 P v2 v3 v4 μ := by
  unfold f_X6_workb_48 wb11
  rw [if_neg (show ¬ (11 : Int32) = 10 by decide), if_pos rfl]
def wb12 (P : Int32 → Int32 → Int32 → Int32 → Mem → Option (Int32 × Mem)) (v2 v3 v4 : Int32) (μ : Mem) : Option (Int32 × Mem) := bd2 (f_X6_own P 1 v3 (v4 + 1) μ) fun r m => some ((r - (m 55 5)), m)
theorem wb12_at {P : Int32 → Int32 → Int32 → Int32 → Mem → Option (Int32 × Mem)} {v2 v3 v4 : Int32} {μ : Mem} : f_X6_workb_48 P 12 v2 v3 v4 μ = wb12 P v2 v3 v4 μ := by
  unfold f_X6_workb_48 wb12
  rw [if_neg (show ¬ (12 : Int32) = 10 by decide), if_neg (show ¬ (12 : Int32) = 11 by decide), if_pos rfl]
def wb13 (P : Int32 → Int32 → Int32 → Int32 → Mem → Option (Int32 × Mem)) (v2 v3 v4 : Int32) (μ : Mem) : Option (Int32 × Mem) := bd2 (f_X6_divided v3 μ) fun r m => some (r, m)
theorem wb13_at {P : Int32 → Int32 → Int32 → Int32 → Mem → Option (Int32 × Mem)} {v2 v3 v4 : Int32} {μ : Mem} : f_X6_workb_48 P 13 v2 v3 v4 μ = wb13 P v2 v3 v4 μ := by
  unfold f_X6_workb_48 wb13
  rw [if_neg (show ¬ (13 : Int32) = 10 by decide), if_neg (show ¬ (13 : Int32) = 11 by decide), if_neg (show ¬ (13 : Int32) = 12 by decide), if_pos rfl]
def wb20 (P : Int32 → Int32 → Int32 → Int32 → Mem → Option (Int32 × Mem)) (v2 v3 v4 : Int32) (μ : Mem) : Option (Int32 × Mem) := bd2 (f_X6_from P v2 0 v3 (v4 + 1) μ) fun r m => some ((r - 4), m)
theorem wb20_at {P : Int32 → Int32 → Int32 → Int32 → Mem → Option (Int32 × Mem)} {v2 v3 v4 : Int32} {μ : Mem} : f_X6_workb_48 P 20 v2 v3 v4 μ = wb20 P v2 v3 v4 μ := by
  unfold f_X6_workb_48 wb20
  rw [if_neg (show ¬ (20 : Int32) = 10 by decide), if_neg (show ¬ (20 : Int32) = 11 by decide), if_neg (show ¬ (20 : Int32) = 12 by decide), if_neg (show ¬ (20 : Int32) = 13 by decide), if_pos rfl]
def wb21 (P : Int32 → Int32 → Int32 → Int32 → Mem → Option (Int32 × Mem)) (v2 v3 v4 : Int32) (μ : Mem) : Option (Int32 × Mem) := bd2 (f_X6_from P v2 3 v3 (v4 + 1) μ) fun r15 m => bd2 (f_X6_own P 1 1 (v4 + 1) m) fun r17 m2 => some ((r15 + r17), m2)
theorem wb21_at {P : Int32 → Int32 → Int32 → Int32 → Mem → Option (Int32 × Mem)} {v2 v3 v4 : Int32} {μ : Mem} : f_X6_workb_48 P 21 v2 v3 v4 μ = wb21 P v2 v3 v4 μ := by
  unfold f_X6_workb_48 wb21
  rw [if_neg (show ¬ (21 : Int32) = 10 by decide), if_neg (show ¬ (21 : Int32) = 11 by decide), if_neg (show ¬ (21 : Int32) = 12 by decide), if_neg (show ¬ (21 : Int32) = 13 by decide), if_neg (show ¬ (21 : Int32) = 20 by decide), if_pos rfl]
def wb30 (P : Int32 → Int32 → Int32 → Int32 → Mem → Option (Int32 × Mem)) (v2 v3 v4 : Int32) (μ : Mem) : Option (Int32 × Mem) := bd2 (f_X6_from P v2 1 v3 (v4 + 1) μ) fun r m => some ((0 - r), m)
theorem wb30_at {P : Int32 → Int32 → Int32 → Int32 → Mem → Option (Int32 × Mem)} {v2 v3 v4 : Int32} {μ : Mem} : f_X6_workb_48 P 30 v2 v3 v4 μ = wb30 P v2 v3 v4 μ := by
  unfold f_X6_workb_48 wb30
  rw [if_neg (show ¬ (30 : Int32) = 10 by decide), if_neg (show ¬ (30 : Int32) = 11 by decide), if_neg (show ¬ (30 : Int32) = 12 by decide), if_neg (show ¬ (30 : Int32) = 13 by decide), if_neg (show ¬ (30 : Int32) = 20 by decide), if_neg (show ¬ (30 : Int32) = 21 by decide), if_pos rfl]
def wb40 (P : Int32 → Int32 → Int32 → Int32 → Mem → Option (Int32 × Mem)) (v2 v3 v4 : Int32) (μ : Mem) : Option (Int32 × Mem) := bd2 (f_X6_from P v2 2 (v3 / 2) (v4 + 1) μ) fun r m => some (r, m)
theorem wb40_at {P : Int32 → Int32 → Int32 → Int32 → Mem → Option (Int32 × Mem)} {v2 v3 v4 : Int32} {μ : Mem} : f_X6_workb_48 P 40 v2 v3 v4 μ = wb40 P v2 v3 v4 μ := by
  unfold f_X6_workb_48 wb40
  rw [if_neg (show ¬ (40 : Int32) = 10 by decide), if_neg (show ¬ (40 : Int32) = 11 by decide), if_neg (show ¬ (40 : Int32) = 12 by decide), if_neg (show ¬ (40 : Int32) = 13 by decide), if_neg (show ¬ (40 : Int32) = 20 by decide), if_neg (show ¬ (40 : Int32) = 21 by decide), if_neg (show ¬ (40 : Int32) = 30 by decide), if_pos rfl]
def wb50 (P : Int32 → Int32 → Int32 → Int32 → Mem → Option (Int32 × Mem)) (v2 v3 v4 : Int32) (μ : Mem) : Option (Int32 × Mem) := bd2 (f_X6_from P v2 0 v3 (v4 + 1) μ) fun r m => some ((r * 3), m)
theorem wb50_at {P : Int32 → Int32 → Int32 → Int32 → Mem → Option (Int32 × Mem)} {v2 v3 v4 : Int32} {μ : Mem} : f_X6_workb_48 P 50 v2 v3 v4 μ = wb50 P v2 v3 v4 μ := by
  unfold f_X6_workb_48 wb50
  rw [if_neg (show ¬ (50 : Int32) = 10 by decide), if_neg (show ¬ (50 : Int32) = 11 by decide), if_neg (show ¬ (50 : Int32) = 12 by decide), if_neg (show ¬ (50 : Int32) = 13 by decide), if_neg (show ¬ (50 : Int32) = 20 by decide), if_neg (show ¬ (50 : Int32) = 21 by decide), if_neg (show ¬ (50 : Int32) = 30 by decide), if_neg (show ¬ (50 : Int32) = 40 by decide), if_pos rfl]
def wb51 (P : Int32 → Int32 → Int32 → Int32 → Mem → Option (Int32 × Mem)) (v2 v3 v4 : Int32) (μ : Mem) : Option (Int32 × Mem) := bd2 (f_X6_from P v2 2 v3 (v4 + 1) μ) fun r m => some ((r ^^^ (m 55 4)), m)
theorem wb51_at {P : Int32 → Int32 → Int32 → Int32 → Mem → Option (Int32 × Mem)} {v2 v3 v4 : Int32} {μ : Mem} : f_X6_workb_48 P 51 v2 v3 v4 μ = wb51 P v2 v3 v4 μ := by
  unfold f_X6_workb_48 wb51
  rw [if_neg (show ¬ (51 : Int32) = 10 by decide), if_neg (show ¬ (51 : Int32) = 11 by decide), if_neg (show ¬ (51 : Int32) = 12 by decide), if_neg (show ¬ (51 : Int32) = 13 by decide), if_neg (show ¬ (51 : Int32) = 20 by decide), if_neg (show ¬ (51 : Int32) = 21 by decide), if_neg (show ¬ (51 : Int32) = 30 by decide), if_neg (show ¬ (51 : Int32) = 40 by decide), if_neg (show ¬ (51 : Int32) = 50 by decide), if_pos rfl]
def wb60 (P : Int32 → Int32 → Int32 → Int32 → Mem → Option (Int32 × Mem)) (v2 v3 v4 : Int32) (μ : Mem) : Option (Int32 × Mem) := bd2 (f_X6_from P v2 1 (v3 + 1) (v4 + 1) μ) fun r m => some (r, m)
theorem wb60_at {P : Int32 → Int32 → Int32 → Int32 → Mem → Option (Int32 × Mem)} {v2 v3 v4 : Int32} {μ : Mem} : f_X6_workb_48 P 60 v2 v3 v4 μ = wb60 P v2 v3 v4 μ := by
  unfold f_X6_workb_48 wb60
  rw [if_neg (show ¬ (60 : Int32) = 10 by decide), if_neg (show ¬ (60 : Int32) = 11 by decide), if_neg (show ¬ (60 : Int32) = 12 by decide), if_neg (show ¬ (60 : Int32) = 13 by decide), if_neg (show ¬ (60 : Int32) = 20 by decide), if_neg (show ¬ (60 : Int32) = 21 by decide), if_neg (show ¬ (60 : Int32) = 30 by decide), if_neg (show ¬ (60 : Int32) = 40 by decide), if_neg (show ¬ (60 : Int32) = 50 by decide), if_neg (show ¬ (60 : Int32) = 51 by decide), if_pos rfl]
def wb70 (P : Int32 → Int32 → Int32 → Int32 → Mem → Option (Int32 × Mem)) (v2 v3 v4 : Int32) (μ : Mem) : Option (Int32 × Mem) := some (9, μ)
theorem wb70_at {P : Int32 → Int32 → Int32 → Int32 → Mem → Option (Int32 × Mem)} {v2 v3 v4 : Int32} {μ : Mem} : f_X6_workb_48 P 70 v2 v3 v4 μ = wb70 P v2 v3 v4 μ := by
  unfold f_X6_workb_48 wb70
  rw [if_neg (show ¬ (70 : Int32) = 10 by decide), if_neg (show ¬ (70 : Int32) = 11 by decide), if_neg (show ¬ (70 : Int32) = 12 by decide), if_neg (show ¬ (70 : Int32) = 13 by decide), if_neg (show ¬ (70 : Int32) = 20 by decide), if_neg (show ¬ (70 : Int32) = 21 by decide), if_neg (show ¬ (70 : Int32) = 30 by decide), if_neg (show ¬ (70 : Int32) = 40 by decide), if_neg (show ¬ (70 : Int32) = 50 by decide), if_neg (show ¬ (70 : Int32) = 51 by decide), if_neg (show ¬ (70 : Int32) = 60 by decide), if_pos rfl]
def wb71 (P : Int32 → Int32 → Int32 → Int32 → Mem → Option (Int32 × Mem)) (v2 v3 v4 : Int32) (μ : Mem) : Option (Int32 × Mem) := bd2 (f_X6_from P v2 1 v3 (v4 + 1) μ) fun r m => some ((r + (m 55 5)), m)
theorem wb71_at {P : Int32 → Int32 → Int32 → Int32 → Mem → Option (Int32 × Mem)} {v2 v3 v4 : Int32} {μ : Mem} : f_X6_workb_48 P 71 v2 v3 v4 μ = wb71 P v2 v3 v4 μ := by
  unfold f_X6_workb_48 wb71
  rw [if_neg (show ¬ (71 : Int32) = 10 by decide), if_neg (show ¬ (71 : Int32) = 11 by decide), if_neg (show ¬ (71 : Int32) = 12 by decide), if_neg (show ¬ (71 : Int32) = 13 by decide), if_neg (show ¬ (71 : Int32) = 20 by decide), if_neg (show ¬ (71 : Int32) = 21 by decide), if_neg (show ¬ (71 : Int32) = 30 by decide), if_neg (show ¬ (71 : Int32) = 40 by decide), if_neg (show ¬ (71 : Int32) = 50 by decide), if_neg (show ¬ (71 : Int32) = 51 by decide), if_neg (show ¬ (71 : Int32) = 60 by decide), if_neg (show ¬ (71 : Int32) = 70 by decide), if_pos rfl]
def VO (μ0 ν0 : Mem) (kd : Int32) (p : Nat) (z e : Int32) (μ ν : Mem) : Prop := sameC [55, 56] μ0 μ ∧ sameC [0, 15] ν0 ν ∧ (∀ i, i ≠ 21 → i ≠ 22 → ν 0 i = ν0 0 i) ∧ TRR μ ν ∧ μ 55 3 = kd ∧ μ 55 4 = nI p ∧ μ 55 5 = z ∧ μ 55 2 = e ∧ ν 0 22 = e
/-- both sides answer alike -/
def AN (μ0 ν0 : Mem) (kd : Int32) (p : Nat) (z : Int32) (C R : Mem → Option (Int32 × Mem)) : Prop := ∀ μ ν, VO μ0 ν0 kd p z 0 μ ν → ∃ (r : Int32) (μ1 ν1 : Mem), C μ = some (r, μ1) ∧ R ν = some (r, ν1) ∧ VO μ0 ν0 kd p z 0 μ1 ν1
section VO
variable {μ0 ν0 : Mem} {kd z : Int32} {p : Nat}
theorem beg_both {e : Int32} {μ ν : Mem} (b : Int32) (h : VO μ0 ν0 kd p z e μ ν) : ∃ μ1 ν1, (∀ P kk x (d : Nat), e = 0 → d < 40 → f_X6_workb P b kk x (nI d) μ = f_X6_workb_48 P b kk x (nI d) μ1) ∧ f_X9_begins b ν = some ν1 ∧ VO μ0 ν0 kd p z e μ1 ν1 := by
  obtain ⟨h1, h2, h3, ⟨n, hn, t1, t2, t3⟩, h5, h6, h7, h8, h9⟩ := h
  unfold f_X6_workb f_X9_begins
  rw [h8, t1, t2]
  have l30 : (30 : Int32) ≤ nI n ↔ 30 ≤ n := nI_leI (a := 30) (by decide) (by omega)
  have l40 : ∀ d : Nat, d < 40 → nI d < (40 : Int32) := fun d hd => (nI_ltI (a := d) (b := 40) (by omega) (by decide)).mpr hd
  by_cases c : 30 ≤ n
  · rw [if_pos (l30.mpr c)]
    refine ⟨μ, ν, fun P kk x d he hd => ?_, rfl, h1, h2, h3, ⟨n, hn, t1, t2, t3⟩, h5, h6, h7, h8, h9⟩
    rw [if_pos he, if_pos (l40 d hd), if_pos (l30.mpr c)]
  · rw [if_neg (fun q => c (l30.mp q)), ck_c (inb_nI (show n < 30 by omega) (by decide)), ix_nI (by omega), wr_n, wr_n, up_ne (μ := ν) (show (0 : Nat) ≠ 15 by decide), t2, nI_1]
    refine ⟨up (up μ 56 n b) 55 1 (nI (n + 1)), _, fun P kk x d he hd => ?_, rfl, sameC_tr h1 (sameC_up (sameC_up (sameC_rf _ _) (by decide)) (by decide)), sameC_tr h2 (sameC_up (sameC_up (sameC_rf _ _) (by decide)) (by decide)), fun i a b' => ?_, ⟨n + 1, by omega, up_s, up_s, fun k hk => ?_⟩, ?_, ?_, ?_, ?_, ?_⟩
    · rw [if_pos he, if_pos (l40 d hd), if_neg (fun q => c (l30.mp q)), ck_c (inb_nI (show n < 30 by omega) (by decide)), wr_n, wr_n, up_ne (μ := μ) (show (55 : Nat) ≠ 56 by decide), t1, nI_1]
    · rw [up_n (fun q => a q.2), up_ne (by decide)]; exact h3 i a b'
    · rw [up_ne (show (56 : Nat) ≠ 55 by decide), up_ne (show (15 : Nat) ≠ 0 by decide)]
      by_cases e : k = n
      · rw [e, up_s, up_s]
      · rw [up_n (fun q => e q.2), up_n (fun q => e q.2)]; exact t3 k (by omega)
    · rw [up_n (by decide), up_ne (by decide)]; exact h5
    · rw [up_n (by decide), up_ne (by decide)]; exact h6
    · rw [up_n (by decide), up_ne (by decide)]; exact h7
    · rw [up_n (by decide), up_ne (by decide)]; exact h8
    · rw [up_n (by decide), up_ne (by decide)]; exact h9
theorem AN_beg {C : Mem → Option (Int32 × Mem)} {R : Mem → Option (Int32 × Mem)} {b kk x : Int32} {d n : Nat} (hd : d < 40) (hC : ∀ μ, f_X6_workb_48 (f_X6_work n) b kk x (nI d) μ = C μ) (h : AN μ0 ν0 kd p z C R) : AN μ0 ν0 kd p z (f_X6_work (n + 1) b kk x (nI d)) (fun ν => bd (f_X9_begins b ν) R) := by
  intro μ ν hv
  obtain ⟨μ1, ν1, e1, e2, e3⟩ := beg_both b hv
  obtain ⟨r, μ2, ν2, f1, f2, f3⟩ := h μ1 ν1 e3
  refine ⟨r, μ2, ν2, ?_, ?_, f3⟩
  · show f_X6_workb (f_X6_work n) b kk x (nI d) μ = _
    rw [e1 _ _ _ d rfl hd, hC]; exact f1
  · show bd (f_X9_begins b ν) R = _
    rw [e2, bd_n]; exact f2
theorem AN_map {C R : Mem → Option (Int32 × Mem)} {g g' : Int32 → Mem → Int32} (h : AN μ0 ν0 kd p z C R) (hg : ∀ r μ ν, VO μ0 ν0 kd p z 0 μ ν → g r μ = g' r ν) : AN μ0 ν0 kd p z (fun μ => bd2 (C μ) fun r m => some (g r m, m)) (fun ν => bd2 (R ν) fun r m => some (g' r m, m)) := by
  intro μ ν hv
  obtain ⟨r, μ1, ν1, f1, f2, f3⟩ := h μ ν hv
  exact ⟨g r μ1, μ1, ν1, by show bd2 (C μ) _ = _; rw [f1, bd2_n], by show bd2 (R ν) _ = _; rw [f2, bd2_n, hg r μ1 ν1 f3], f3⟩
theorem AN_eq {C C' R R' : Mem → Option (Int32 × Mem)} (h : AN μ0 ν0 kd p z C R) (hC : ∀ μ ν, VO μ0 ν0 kd p z 0 μ ν → C' μ = C μ) (hR : ∀ μ ν, VO μ0 ν0 kd p z 0 μ ν → R' ν = R ν) : AN μ0 ν0 kd p z C' R' := by
  intro μ ν hv
  obtain ⟨r, μ1, ν1, f1, f2, f3⟩ := h μ ν hv
  exact ⟨r, μ1, ν1, (hC μ ν hv).trans f1, (hR μ ν hv).trans f2, f3⟩
theorem of_kd {e : Int32} {μ ν : Mem} (hp : p < 6) (hk : ν0 1 (15 + 2 * p) = kd) (h : VO μ0 ν0 kd p z e μ ν) : f_X9_of (nI p) 0 ν = some kd := by
  have o0 := of_at (p := p) (w := 0) (ν := ν) (by omega)
  rw [show nI 0 = 0 from rfl, Nat.add_zero] at o0
  rw [o0, h.2.1 1 (by decide), hk]
theorem of_z {e : Int32} {μ ν : Mem} (hp : p < 6) (hz : ν0 1 (15 + 2 * p + 1) = z) (h : VO μ0 ν0 kd p z e μ ν) : f_X9_of (nI p) 1 ν = some z := by
  have o0 := of_at (p := p) (w := 1) (ν := ν) (by omega)
  rw [show nI 1 = 1 from rfl] at o0
  rw [o0, h.2.1 1 (by decide), hz]
theorem pn_both {n d : Nat} {kk x : Int32} (hd : d < 40) : AN μ0 ν0 kd p z (f_X6_work (n + 1) 10 kk x (nI d)) (f_X9_plainNods (nI p) x) :=
  AN_beg hd (fun μ => wb10_at) (fun μ ν h => ⟨x + nI p, μ, ν, by unfold wb10; rw [h.2.2.2.2.2.1], rfl, h⟩)
theorem ln_both {n d : Nat} {x : Int32} (hd : d < 39) : AN μ0 ν0 kd p z (f_X6_work (n + 2) 20 0 x (nI d)) (f_X9_loverNods (nI p) x) :=
  AN_beg (by omega) (fun μ => wb20_at) (AN_eq (AN_map (g := fun r _ => r - 4) (g' := fun r _ => r - 4) (pn_both (n := n) (d := d + 1) (kk := -1) (x := x) (by omega)) (fun _ _ _ _ => rfl)) (fun μ ν h => by unfold wb20; rw [fr_0_0, nI_1]) (fun μ ν h => rfl))
theorem own_at {P : Int32 → Int32 → Int32 → Int32 → Mem → Option (Int32 × Mem)} {m x d e : Int32} {μ ν : Mem} (h : VO μ0 ν0 kd p z e μ ν) : f_X6_own P m x d μ = f_X6_from P kd m x d μ := by
  unfold f_X6_own
  rw [bd2_id, h.2.2.2.2.1]
abbrev kinds (kd : Int32) : Prop := kd = 0 ∨ kd = 1 ∨ kd = 2 ∨ kd = 3 ∨ kd = 4 ∨ kd = 5 ∨ kd = 6
theorem nods_both {n d : Nat} {x : Int32} (hd : d < 38) (hp : p < 6) (hk : ν0 1 (15 + 2 * p) = kd) (hkd : kinds kd) : AN μ0 ν0 kd p z (f_X6_own (f_X6_work (n + 3)) 0 x (nI d)) (f_X9_nods (nI p) x) := by
  have pl : ∀ c : ¬ kd = 1 ∧ ¬ kd = 4 ∧ ¬ kd = 6, (∀ μ, f_X6_from (f_X6_work (n + 3)) kd 0 x (nI d) μ = f_X6_work (n + 3) 10 (-1) x (nI d) μ) → AN μ0 ν0 kd p z (f_X6_own (f_X6_work (n + 3)) 0 x (nI d)) (f_X9_nods (nI p) x) := fun c hf =>
    AN_eq (pn_both (n := n + 2) (d := d) (kk := -1) (x := x) (by omega)) (fun μ ν h => by rw [own_at h, hf]) (fun μ ν h => by unfold f_X9_nods; rw [of_kd hp hk h, bd_n, if_neg c.1, if_neg c.2.1, if_neg c.2.2, bd2_id])
  rcases hkd with rfl | rfl | rfl | rfl | rfl | rfl | rfl
  · exact pl (by decide) (fun μ => fr_0_0)
  · exact AN_eq (ln_both (n := n + 1) (d := d) (x := x) (by omega)) (fun μ ν h => by rw [own_at h, fr_1_0]) (fun μ ν h => by unfold f_X9_nods; rw [of_kd hp hk h, bd_n, if_pos rfl, bd2_id])
  · exact pl (by decide) (fun μ => fr_2_0)
  · exact pl (by decide) (fun μ => fr_3_0)
  · refine AN_eq (AN_beg (n := n + 2) (b := 50) (kk := 1) (x := x) (d := d) (by omega) (fun μ => wb50_at) (AN_eq (AN_map (g := fun r _ => r * 3) (g' := fun r _ => r * 3) (ln_both (n := n) (d := d + 1) (x := x) (by omega)) (fun _ _ _ _ => rfl)) (fun μ ν h => by unfold wb50; rw [fr_1_0, nI_1]) (fun μ ν h => rfl))) (fun μ ν h => by rw [own_at h, fr_4_0]) (fun μ ν h => by unfold f_X9_nods; rw [of_kd hp hk h, bd_n, if_neg (by decide), if_pos rfl])
  · exact pl (by decide) (fun μ => fr_5_0)
  · refine AN_eq (AN_beg (n := n + 2) (b := 70) (kk := 0) (x := x) (d := d) (by omega) (fun μ => wb70_at) (R := fun μ10 => some (9, μ10)) (fun μ ν h => ⟨9, μ, ν, rfl, rfl, h⟩)) (fun μ ν h => by rw [own_at h, fr_6_0]) (fun μ ν h => by unfold f_X9_nods; rw [of_kd hp hk h, bd_n, if_neg (by decide), if_neg (by decide), if_pos rfl])
theorem pm_both {n d : Nat} {kk x : Int32} (hd : d < 37) (hp : p < 6) (hk : ν0 1 (15 + 2 * p) = kd) (hkd : kinds kd) : AN μ0 ν0 kd p z (f_X6_work (n + 4) 11 kk x (nI d)) (f_X9_plainMinds (nI p) x) :=
  AN_beg (by omega) (fun μ => wb11_at) (AN_eq (AN_map (g := fun r _ => r * 2) (g' := fun r _ => r * 2) (nods_both (n := n) (d := d + 1) (x := x) (by omega) hp hk hkd) (fun _ _ _ _ => rfl)) (fun μ ν h => by unfold wb11; rw [nI_1]) (fun μ ν h => rfl))
theorem tm_both {n d : Nat} {x : Int32} (hd : d < 36) (hp : p < 6) (hk : ν0 1 (15 + 2 * p) = kd) (hkd : kinds kd) : AN μ0 ν0 kd p z (f_X6_work (n + 5) 30 0 x (nI d)) (f_X9_thinkerMinds (nI p) x) :=
  AN_beg (by omega) (fun μ => wb30_at) (AN_eq (AN_map (g := fun r _ => 0 - r) (g' := fun r _ => -r) (pm_both (n := n) (d := d + 1) (kk := -1) (x := x) (by omega) hp hk hkd) (fun _ _ _ _ => Int32.zero_sub _)) (fun μ ν h => by unfold wb30; rw [fr_0_1, nI_1]) (fun μ ν h => rfl))
theorem minds_both {n d : Nat} {x : Int32} (hd : d < 35) (hp : p < 6) (hk : ν0 1 (15 + 2 * p) = kd) (hz : ν0 1 (15 + 2 * p + 1) = z) (hkd : kinds kd) : AN μ0 ν0 kd p z (f_X6_own (f_X6_work (n + 6)) 1 x (nI d)) (f_X9_minds (nI p) x) := by
  have hkd' := hkd
  have pl : ∀ c : ¬ kd = 2 ∧ ¬ kd = 5 ∧ ¬ kd = 6, (∀ μ, f_X6_from (f_X6_work (n + 6)) kd 1 x (nI d) μ = f_X6_work (n + 6) 11 (-1) x (nI d) μ) → AN μ0 ν0 kd p z (f_X6_own (f_X6_work (n + 6)) 1 x (nI d)) (f_X9_minds (nI p) x) := fun c hf =>
    AN_eq (pm_both (n := n + 2) (d := d) (kk := -1) (x := x) (by omega) hp hk hkd') (fun μ ν h => by rw [own_at h, hf]) (fun μ ν h => by unfold f_X9_minds; rw [of_kd hp hk h, bd_n, if_neg c.1, if_neg c.2.1, if_neg c.2.2, bd2_id])
  rcases hkd with rfl | rfl | rfl | rfl | rfl | rfl | rfl
  · exact pl (by decide) (fun μ => fr_0_1)
  · exact pl (by decide) (fun μ => fr_1_1)
  · exact AN_eq (tm_both (n := n + 1) (d := d) (x := x) (by omega) hp hk hkd') (fun μ ν h => by rw [own_at h, fr_2_1]) (fun μ ν h => by unfold f_X9_minds; rw [of_kd hp hk h, bd_n, if_pos rfl, bd2_id])
  · exact pl (by decide) (fun μ => fr_3_1)
  · exact pl (by decide) (fun μ => fr_4_1)
  · refine AN_eq (AN_beg (n := n + 5) (b := 60) (kk := 2) (x := x) (d := d) (by omega) (fun μ => wb60_at) (AN_eq (AN_map (g := fun r _ => r) (g' := fun r _ => r) (tm_both (n := n) (d := d + 1) (x := x + 1) (by omega) hp hk hkd') (fun _ _ _ _ => rfl)) (fun μ ν h => by unfold wb60; rw [fr_2_1, nI_1]) (fun μ ν h => rfl))) (fun μ ν h => by rw [own_at h, fr_5_1]) (fun μ ν h => by unfold f_X9_minds; rw [of_kd hp hk h, bd_n, if_neg (by decide), if_pos rfl])
  · refine AN_eq (AN_beg (n := n + 5) (b := 71) (kk := 0) (x := x) (d := d) (by omega) (fun μ => wb71_at) (AN_eq (R := fun ν => bd2 (f_X9_plainMinds (nI p) x ν) fun r m => some (r + z, m)) (AN_map (g := fun r m => r + m 55 5) (g' := fun r _ => r + z) (pm_both (n := n + 1) (d := d + 1) (kk := -1) (x := x) (by omega) hp hk hkd') (fun r μ ν h => by rw [h.2.2.2.2.2.2.1])) (fun μ ν h => by unfold wb71; rw [fr_0_1, nI_1]) (R' := fun ν => bd2 (f_X9_plainMinds (nI p) x ν) fun r11 μ12 => bd (f_X9_of (nI p) 1 μ12) fun r13 => some ((r11 + r13), μ12)) (fun μ ν h => by
      obtain ⟨r, μ1, ν1, f1, f2, f3⟩ := pm_both (n := n + 1) (d := d + 1) (kk := -1) (x := x) (by omega) hp hk hkd' μ ν h
      rw [f2, bd2_n, bd2_n, of_z hp hz f3, bd_n]))) (fun μ ν h => by rw [own_at h, fr_6_1]) (fun μ ν h => by unfold f_X9_minds; rw [of_kd hp hk h, bd_n, if_neg (by decide), if_neg (by decide), if_pos rfl])
theorem pw_both {n d : Nat} {kk x : Int32} (hd : d < 34) (hp : p < 6) (hk : ν0 1 (15 + 2 * p) = kd) (hz : ν0 1 (15 + 2 * p + 1) = z) (hkd : kinds kd) : AN μ0 ν0 kd p z (f_X6_work (n + 7) 12 kk x (nI d)) (f_X9_plainWhistles (nI p) x) :=
  AN_beg (by omega) (fun μ => wb12_at) (AN_eq (AN_map (g := fun r m => r - m 55 5) (g' := fun r _ => r - z) (minds_both (n := n) (d := d + 1) (x := x) (by omega) hp hk hz hkd) (fun r μ ν h => by rw [h.2.2.2.2.2.2.1])) (fun μ ν h => by unfold wb12; rw [nI_1]) (fun μ ν h => by
    obtain ⟨r, μ1, ν1, f1, f2, f3⟩ := minds_both (n := n) (d := d + 1) (x := x) (by omega) hp hk hz hkd μ ν h
    rw [f2, bd2_n, bd2_n, of_z hp hz f3, bd_n]))
theorem whistles_both {n d : Nat} {x : Int32} (hd : d < 33) (hp : p < 6) (hk : ν0 1 (15 + 2 * p) = kd) (hz : ν0 1 (15 + 2 * p + 1) = z) (hkd : kinds kd) : AN μ0 ν0 kd p z (f_X6_own (f_X6_work (n + 8)) 2 x (nI d)) (f_X9_whistles (nI p) x) := by
  have hkd' := hkd
  have pl : ∀ c : ¬ kd = 3 ∧ ¬ kd = 4, (∀ μ, f_X6_from (f_X6_work (n + 8)) kd 2 x (nI d) μ = f_X6_work (n + 8) 12 (-1) x (nI d) μ) → AN μ0 ν0 kd p z (f_X6_own (f_X6_work (n + 8)) 2 x (nI d)) (f_X9_whistles (nI p) x) := fun c hf =>
    AN_eq (pw_both (n := n + 1) (d := d) (kk := -1) (x := x) (by omega) hp hk hz hkd') (fun μ ν h => by rw [own_at h, hf]) (fun μ ν h => by unfold f_X9_whistles; rw [of_kd hp hk h, bd_n, if_neg c.1, if_neg c.2, bd2_id])
  rcases hkd with rfl | rfl | rfl | rfl | rfl | rfl | rfl
  · exact pl (by decide) (fun μ => fr_0_2)
  · exact pl (by decide) (fun μ => fr_1_2)
  · exact pl (by decide) (fun μ => fr_2_2)
  · refine AN_eq (AN_beg (n := n + 7) (b := 40) (kk := 0) (x := x) (d := d) (by omega) (fun μ => wb40_at) (AN_eq (AN_map (g := fun r _ => r) (g' := fun r _ => r) (pw_both (n := n) (d := d + 1) (kk := -1) (x := x / 2) (by omega) hp hk hz hkd') (fun _ _ _ _ => rfl)) (fun μ ν h => by unfold wb40; rw [fr_0_2, nI_1]) (fun μ ν h => rfl))) (fun μ ν h => by rw [own_at h, fr_3_2]) (fun μ ν h => by unfold f_X9_whistles; rw [of_kd hp hk h, bd_n, if_pos rfl])
  · refine AN_eq (AN_beg (n := n + 7) (b := 51) (kk := 1) (x := x) (d := d) (by omega) (fun μ => wb51_at) (AN_eq (AN_map (g := fun r m => r ^^^ m 55 4) (g' := fun r _ => r ^^^ nI p) (pw_both (n := n) (d := d + 1) (kk := -1) (x := x) (by omega) hp hk hz hkd') (fun r μ ν h => by rw [h.2.2.2.2.2.1])) (fun μ ν h => by unfold wb51; rw [fr_1_2, nI_1]) (fun μ ν h => rfl))) (fun μ ν h => by rw [own_at h, fr_4_2]) (fun μ ν h => by unfold f_X9_whistles; rw [of_kd hp hk h, bd_n, if_neg (by decide), if_pos rfl])
  · exact pl (by decide) (fun μ => fr_5_2)
  · exact pl (by decide) (fun μ => fr_6_2)
/-! parting -/
theorem pp_both {n d : Nat} {kk x : Int32} {μ ν : Mem} (hd : d < 40) (hp : p < 6) (hz : ν0 1 (15 + 2 * p + 1) = z) (h : VO μ0 ν0 kd p z 0 μ ν) : ∃ (r e : Int32) (μ1 ν1 : Mem), f_X6_work (n + 1) 13 kk x (nI d) μ = some (r, μ1) ∧ f_X9_plainParts (nI p) x ν = some (r, ν1) ∧ VO μ0 ν0 kd p z e μ1 ν1 ∧ (e = 0 ∨ e = 1 ∧ r = 0) := by
  obtain ⟨μ1, ν1, e1, e2, e3⟩ := beg_both 13 h
  unfold f_X9_plainParts
  show ∃ (r e : Int32) (μ1 ν1 : Mem), f_X6_workb (f_X6_work n) 13 kk x (nI d) μ = some (r, μ1) ∧ _ ∧ _ ∧ _
  rw [e1 _ _ _ d rfl hd, wb13_at, e2, bd_n, of_z hp hz e3, bd_n]
  obtain ⟨h1, h2, h3, h4, h5, h6, h7, h8, h9⟩ := id e3
  unfold wb13 f_X6_divided f_X9_plainParts_25
  rw [h6, h7, bd2_id, wr_n, wr_n, wr_n, up_s, up_s, show bl 1 = true from by decide, show bl 0 = true from by decide, ck_n, ck_n]
  by_cases c : z - nI p = 0
  · rw [if_pos c, if_pos c, if_neg (show ¬ (1 : Int32) = 0 by decide)]
    refine ⟨0, 1, _, _, rfl, rfl, ⟨sameC_tr h1 (sameC_up (sameC_rf _ _) (by decide)), sameC_tr h2 (sameC_up (sameC_rf _ _) (by decide)), fun i a b => ?_, ?_, ?_, ?_, ?_, up_s, up_s⟩, Or.inr ⟨rfl, rfl⟩⟩
    · rw [up_n (fun q => b q.2)]; exact h3 i a b
    · obtain ⟨k, k1, k2, k3, k4⟩ := h4
      exact ⟨k, k1, by rw [up_n (by decide)]; exact k2, by rw [up_n (by decide)]; exact k3, fun i hi => by rw [up_ne (by decide), up_ne (by decide)]; exact k4 i hi⟩
    · rw [up_n (by decide)]; exact h5
    · rw [up_n (by decide)]; exact h6
    · rw [up_n (by decide)]; exact h7
  · have hn : nz (z - nI p) = true := by
      simp only [nz, Bool.not_eq_true', beq_eq_false_iff_ne]
      exact c
    have e9 : up ν1 0 22 0 = ν1 := by have q := up_self (ν := ν1) (i := 0) (k := 22); rw [h9] at q; exact q
    rw [if_neg c, if_neg c, if_pos rfl, ck_c hn, ck_c hn, e9]
    exact ⟨_, 0, _, _, rfl, rfl, ⟨h1, h2, h3, h4, h5, h6, h7, h8, h9⟩, Or.inl rfl⟩
theorem own_parted {n : Nat} {x d : Int32} {m : Int32} {μ ν : Mem} (hm : m = 1) (hkd : kinds kd) (h : VO μ0 ν0 kd p z 1 μ ν) : f_X6_own (f_X6_work (n + 1)) m x d μ = some (0, μ) := by
  have w : ∀ b kk, f_X6_work (n + 1) b kk x d μ = some (0, μ) := fun b kk => by
    show f_X6_workb (f_X6_work n) b kk x d μ = _
    unfold f_X6_workb
    rw [h.2.2.2.2.2.2.2.1, if_neg (show ¬ (1 : Int32) = 0 by decide)]
  subst hm
  rw [own_at h]
  rcases hkd with rfl | rfl | rfl | rfl | rfl | rfl | rfl
  · rw [fr_0_1, w]
  · rw [fr_1_1, w]
  · rw [fr_2_1, w]
  · rw [fr_3_1, w]
  · rw [fr_4_1, w]
  · rw [fr_5_1, w]
  · rw [fr_6_1, w]
theorem lp_both {n d : Nat} {x : Int32} {μ ν : Mem} (hd : d < 33) (hp : p < 6) (hk : ν0 1 (15 + 2 * p) = kd) (hz : ν0 1 (15 + 2 * p + 1) = z) (hkd : kinds kd) (h : VO μ0 ν0 kd p z 0 μ ν) : ∃ (r e : Int32) (μ1 ν1 : Mem), f_X6_work (n + 7) 21 0 x (nI d) μ = some (r, μ1) ∧ f_X9_partsBy_20 (nI p) x ν = some (r, ν1) ∧ VO μ0 ν0 kd p z e μ1 ν1 ∧ (e = 0 ∨ e = 1) := by
  obtain ⟨μ1, ν1, e1, e2, e3⟩ := beg_both 21 h
  unfold f_X9_partsBy_20
  show ∃ (r e : Int32) (μ1 ν1 : Mem), f_X6_workb (f_X6_work (n + 6)) 21 0 x (nI d) μ = some (r, μ1) ∧ _ ∧ _ ∧ _
  rw [e1 _ _ _ d rfl (by omega), wb21_at, e2, bd_n]
  unfold wb21
  obtain ⟨r, e, μ2, ν2, f1, f2, f3, f4⟩ := pp_both (n := n + 5) (d := d + 1) (kk := -1) (x := x) (by omega) hp hz e3
  rw [fr_0_3, nI_1, f1, f2, bd2_n, bd2_n, f3.2.2.2.2.2.2.2.2]
  rcases f4 with rfl | ⟨rfl, rfl⟩
  · obtain ⟨s, μ3, ν3, g1, g2, g3⟩ := minds_both (n := n) (d := d + 1) (x := 1) (by omega) hp hk hz hkd μ2 ν2 f3
    rw [if_pos rfl, g1, g2, bd2_n, bd2_n]
    exact ⟨_, 0, _, _, rfl, rfl, g3, Or.inl rfl⟩
  · rw [if_neg (show ¬ (1 : Int32) = 0 by decide), own_parted (n := n + 5) rfl hkd f3, bd2_n]
    exact ⟨_, 1, _, _, rfl, rfl, f3, Or.inr rfl⟩
theorem parts_both {n d : Nat} {x : Int32} {μ ν : Mem} (hd : d < 33) (hp : p < 6) (hk : ν0 1 (15 + 2 * p) = kd) (hz : ν0 1 (15 + 2 * p + 1) = z) (hkd : kinds kd) (h : VO μ0 ν0 kd p z 0 μ ν) : ∃ (r e : Int32) (μ1 ν1 : Mem), f_X6_own (f_X6_work (n + 7)) 3 x (nI d) μ = some (r, μ1) ∧ f_X9_partsBy (nI p) x ν = some (r, ν1) ∧ VO μ0 ν0 kd p z e μ1 ν1 ∧ (e = 0 ∨ e = 1) := by
  have hkd' := hkd
  have pl : ¬ kd = 1 ∧ ¬ kd = 4 → f_X6_from (f_X6_work (n + 7)) kd 3 x (nI d) μ = f_X6_work (n + 7) 13 (-1) x (nI d) μ → ∃ (r e : Int32) (μ1 ν1 : Mem), f_X6_own (f_X6_work (n + 7)) 3 x (nI d) μ = some (r, μ1) ∧ f_X9_partsBy (nI p) x ν = some (r, ν1) ∧ VO μ0 ν0 kd p z e μ1 ν1 ∧ (e = 0 ∨ e = 1) := fun c hf => by
    obtain ⟨r, e, μ1, ν1, f1, f2, f3, f4⟩ := pp_both (n := n + 6) (d := d) (kk := -1) (x := x) (by omega) hp hz h
    refine ⟨r, e, μ1, ν1, by rw [own_at h, hf]; exact f1, ?_, f3, f4.imp id (fun q => q.1)⟩
    unfold f_X9_partsBy
    rw [of_kd hp hk h, bd_n, if_neg c.1, bd_n, if_neg c.2, bd2_id]
    exact f2
  rcases hkd with rfl | rfl | rfl | rfl | rfl | rfl | rfl
  · exact pl (by decide) fr_0_3
  · obtain ⟨r, e, μ1, ν1, f1, f2, f3, f4⟩ := lp_both (n := n) (d := d) (x := x) hd hp hk hz hkd' h
    refine ⟨r, e, μ1, ν1, by rw [own_at h, fr_1_3]; exact f1, ?_, f3, f4⟩
    unfold f_X9_partsBy
    rw [of_kd hp hk h, bd_n, if_pos rfl]
    exact f2
  · exact pl (by decide) fr_2_3
  · exact pl (by decide) fr_3_3
  · obtain ⟨r, e, μ1, ν1, f1, f2, f3, f4⟩ := lp_both (n := n) (d := d) (x := x) hd hp hk hz hkd' h
    refine ⟨r, e, μ1, ν1, by rw [own_at h, fr_4_3]; exact f1, ?_, f3, f4⟩
    unfold f_X9_partsBy
    rw [of_kd hp hk h, bd_n, if_neg (show ¬ (4 : Int32) = 1 by decide), bd_n, if_pos rfl]
    exact f2
  · exact pl (by decide) fr_5_3
  · exact pl (by decide) fr_6_3
end VO
theorem VO_end {μ ν μ0 ν0 μ1 ν1 : Mem} {kd z e : Int32} {p : Nat} (h : Sim μ ν) (h0 : sameC [55, 56] μ μ0) (k0 : sameC [0, 15] ν ν0) (k1 : ∀ i, i ≠ 21 → i ≠ 22 → ν0 0 i = ν 0 i) (v : VO μ0 ν0 kd p z e μ1 ν1) : Sim μ1 ν1 := by
  obtain ⟨v1, v2, v3, v4, -⟩ := v
  have hC := sameC_tr h0 v1
  have hR := sameC_tr k0 v2
  obtain ⟨h1, h2, h3, h4, h5, h6⟩ := h
  refine ⟨by rw [hR 1 (by decide)]; exact KR1_same h1 hC (by decide), ⟨?_, ?_⟩, ?_, SHR_same h4 (fun i a b => hC i (by simp only [List.mem_cons, List.not_mem_nil, or_false]; omega)) (hR 5 (by decide)) (hR 6 (by decide)) (hR 7 (by decide)), v4, ?_⟩
  · rw [hC 0 (by decide), v3 3 (by decide) (by decide), k1 3 (by decide) (by decide)]; exact h2.1
  · rw [hC 0 (by decide), hR 2 (by decide)]
    exact h2.2.imp id (fun q => KR20_same q hC (by decide))
  · rw [hC 66 (by decide), hR 4 (by decide)]; exact h3
  · rw [hC 2 (by decide), hC 5 (by decide)]; exact h6
theorem sim_voice : Sim_voice Sim := by
  intro v1 v2 v3 μ ν h
  obtain ⟨⟨⟨m1, m2, m3, m4, m5⟩, mp, -⟩, ⟨⟨np, hnp, e2⟩, -, -, -, wp, -⟩, -⟩ := id h.1
  have p10 : μ 8 10 = nI np := m1.trans e2
  unfold f_X8_voice f_X9_voice f_X8_voice_27 f_X9_voice_17
  rw [show 1 + 7 = 8 from rfl, isOne_rg p10 hnp, isPerson_rg e2 hnp, hi_rg2 (n := 4) (by decide), in_rg (v := v2) (n := 4) (by decide)]
  simp only [bd2_id]
  have he := err1 h
  by_cases c1 : inb v1 np = true
  · by_cases c2 : inb v2 4 = true
    · obtain ⟨p, hp, rfl⟩ := rg_of c1 (by omega)
      simp only [c1, c2, if_true, if_neg (show ¬ (1 : Int32) = 0 by decide)]
      obtain ⟨q1, q2⟩ := mp p (by omega)
      obtain ⟨k, hk, ek⟩ := rg_of (wp p (by omega)) (by decide)
      have q1' : μ (8 + 1) p = nI k := q1.trans ek
      have q2' : μ (8 + 2) p = ν 1 (15 + 2 * p + 1) := q2
      have hkd : kinds (nI k) := by
        rcases (show k = 0 ∨ k = 1 ∨ k = 2 ∨ k = 3 ∨ k = 4 ∨ k = 5 ∨ k = 6 by omega) with rfl | rfl | rfl | rfl | rfl | rfl | rfl <;> decide
      rw [inb_nI (show p < 6 by omega) (by decide), ck_n, ck_n, ix_nI (by omega), q1', q2', wr_n, wr_n]
      unfold f_X6_speak
      rw [wr_n, wr_n, wr_n, wr_n, wr_n]
      generalize hμ : up (up (up (up (up μ 55 3 (nI k)) 55 4 (nI p)) 55 5 (ν 1 (15 + 2 * p + 1))) 55 1 0) 55 2 0 = μ0
      generalize hν : up (up ν 0 21 0) 0 22 0 = ν0
      have b0 : sameC [55, 56] μ μ0 := by
        rw [← hμ]
        exact sameC_up (sameC_up (sameC_up (sameC_up (sameC_up (sameC_rf _ _) (by decide)) (by decide)) (by decide)) (by decide)) (by decide)
      have b1 : sameC [0, 15] ν ν0 := by
        rw [← hν]
        exact sameC_up (sameC_up (sameC_rf _ _) (by decide)) (by decide)
      have b2 : ∀ i, i ≠ 21 → i ≠ 22 → ν0 0 i = ν 0 i := fun i a b => by
        rw [← hν, up_n (fun q => b q.2), up_n (fun q => a q.2)]
      have hk0 : ν0 1 (15 + 2 * p) = nI k := by rw [b1 1 (by decide)]; exact ek
      have hz0 : ν0 1 (15 + 2 * p + 1) = ν 1 (15 + 2 * p + 1) := by rw [b1 1 (by decide)]
      have v0 : VO μ0 ν0 (nI k) p (ν 1 (15 + 2 * p + 1)) 0 μ0 ν0 := by
        refine ⟨sameC_rf _ _, sameC_rf _ _, fun _ _ _ => rfl, ⟨0, by decide, ?_, ?_, fun k hk => by omega⟩, ?_, ?_, ?_, ?_, ?_⟩
        · rw [← hμ]; simp [up]; rfl
        · rw [← hν]; simp [up]; rfl
        · rw [← hμ]; simp [up]
        · rw [← hμ]; simp [up]
        · rw [← hμ]; simp [up]
        · rw [← hμ]; simp [up]
        · rw [← hν]; simp [up]
      have fin : ∀ (C R : Mem → Option (Int32 × Mem)), (∃ (r e : Int32) (μ1 ν1 : Mem), C μ0 = some (r, μ1) ∧ R ν0 = some (r, ν1) ∧ VO μ0 ν0 (nI k) p (ν 1 (15 + 2 * p + 1)) e μ1 ν1 ∧ (e = 0 ∨ e = 1)) → ∃ (r : Int32) (μ1 ν1 : Mem), (bd2 (C μ0) fun r6 μ7 => if (μ7 55 2) = 0 then some (r6, μ7) else f_X8_fail 6 μ7) = some (r, μ1) ∧ (bd2 (R ν0) fun r14 μ15 => f_X9_voice_81 r14 μ15) = some (r, ν1) ∧ Sim μ1 ν1 := by
        intro C R ⟨r, e, μ1, ν1, f1, f2, f3, f4⟩
        have hS := VO_end h b0 b1 b2 f3
        unfold f_X9_voice_81
        rw [f1, f2, bd2_n, bd2_n, f3.2.2.2.2.2.2.2.1, f3.2.2.2.2.2.2.2.2]
        rcases f4 with rfl | rfl
        · rw [if_pos rfl, if_pos rfl]
          exact ⟨_, _, _, rfl, rfl, hS⟩
        · rw [if_neg (show ¬ (1 : Int32) = 0 by decide), if_neg (show ¬ (1 : Int32) = 0 by decide)]
          simp only [bd2_id]
          exact err6 hS
      have fin0 : ∀ (C R : Mem → Option (Int32 × Mem)), AN μ0 ν0 (nI k) p (ν 1 (15 + 2 * p + 1)) C R → ∃ (r : Int32) (μ1 ν1 : Mem), (bd2 (C μ0) fun r6 μ7 => if (μ7 55 2) = 0 then some (r6, μ7) else f_X8_fail 6 μ7) = some (r, μ1) ∧ (bd2 (R ν0) fun r14 μ15 => f_X9_voice_81 r14 μ15) = some (r, ν1) ∧ Sim μ1 ν1 := by
        intro C R ha
        obtain ⟨r, μ1, ν1, f1, f2, f3⟩ := ha μ0 ν0 v0
        exact fin C R ⟨r, 0, μ1, ν1, f1, f2, f3, Or.inl rfl⟩
      obtain ⟨w, hw, rfl⟩ := rg_of c2 (by decide)
      rcases (show w = 0 ∨ w = 1 ∨ w = 2 ∨ w = 3 by omega) with rfl | rfl | rfl | rfl
      · rw [if_pos (show nI 0 = 0 from rfl), bd2_id]
        exact fin0 _ _ (nods_both (n := 17) (d := 0) (x := v3) (by decide) (by omega) hk0 hkd)
      · rw [if_neg (show ¬ nI 1 = 0 by decide), if_pos (show nI 1 = 1 from rfl), bd2_id]
        exact fin0 _ _ (minds_both (n := 14) (d := 0) (x := v3) (by decide) (by omega) hk0 hz0 hkd)
      · rw [if_neg (show ¬ nI 2 = 0 by decide), if_neg (show ¬ nI 2 = 1 by decide), if_pos (show nI 2 = 2 from rfl), bd2_id]
        exact fin0 _ _ (whistles_both (n := 12) (d := 0) (x := v3) (by decide) (by omega) hk0 hz0 hkd)
      · rw [if_neg (show ¬ nI 3 = 0 by decide), if_neg (show ¬ nI 3 = 1 by decide), if_neg (show ¬ nI 3 = 2 by decide), bd2_id]
        exact fin _ _ (parts_both (n := 13) (d := 0) (x := v3) (by decide) (by omega) hk0 hz0 hkd v0)
    · simp only [c1, c2, if_true, if_neg (show ¬ (1 : Int32) = 0 by decide), if_false, Bool.false_eq_true]
      exact he
  · simp only [c1, if_true, if_false, Bool.false_eq_true]
    exact he
