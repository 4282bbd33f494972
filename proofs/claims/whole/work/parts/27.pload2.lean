theorem load_loop {o p np ng : Nat} (ho : o = 8 ∨ o = 39) (hnp : np ≤ 6) (hng : ng ≤ 9) (hp : p < np) : ∀ f j (s : Int32) (μ ν : Mem), VW o μ ν → ν 1 2 = nI np → ν 1 3 = nI ng → j ≤ ng → 10 ≤ f + j → ∃ (r : Int32) (μ1 ν1 : Mem), f_X2_load_4 o f (nI p) s (nI j) μ = some (r, μ1) ∧ f_X9_loadOf_4 f (nI p) s (nI j) ν = some (r, ν1) ∧ sameC [4, 7] μ μ1 ∧ sameC [10, 11] ν ν1 := by
  intro f
  induction f with
  | zero => intro j s μ ν h h2 h3 hj hf; omega
  | succ f ih =>
    intro j s μ ν h h2 h3 hj hf
    have hh := h
    obtain ⟨⟨⟨m1, m2, m3, m4, m5⟩, mp, mg, -, -⟩, -⟩ := h
    have p11 : μ o 11 = nI ng := m2.trans h3
    unfold f_X2_load_4 f_X9_loadOf_4
    rw [p11, show ix 3 = 3 from rfl, h3]
    by_cases q : ng ≤ j
    · have q' : nI ng ≤ nI j := (nI_leI (by omega) (by omega)).mpr q
      rw [if_pos q', if_pos q']
      exact ⟨_, _, _, rfl, rfl, sameC_rf _ _, sameC_rf _ _⟩
    · have q' : ¬ nI ng ≤ nI j := fun e => q ((nI_leI (by omega) (by omega)).mp e)
      have a3 := about_at (g := j) (w := 3) (ν := ν) (by omega)
      rw [show nI 3 = 3 from rfl] at a3
      rw [if_neg q', if_neg q', ck_c (inb_nI (show j < 9 by omega) (by decide)), ix_nI (show j < 2 ^ 31 by omega), (mg j (by omega)).2.2.2, a3, bd_n]
      unfold f_X9_loadOf_35
      by_cases c : ν 1 (27 + 4 * j + 3) = nI p
      · obtain ⟨r, μ1, ν1, q1, q2, q3, q4⟩ := weight_both ho hh h2 hnp h3 hng hp (show j < ng by omega)
        rw [if_pos c, if_pos c, q1, q2, bd2_n, bd2_n, nI_1]
        obtain ⟨r', μ2, ν2, e1, e2, e3, e4⟩ := ih (j + 1) (s + r) μ1 ν1 (VW_stay ho hh q3 q4) (by rw [q4 1 (by decide)]; exact h2) (by rw [q4 1 (by decide)]; exact h3) (by omega) (by omega)
        exact ⟨r', μ2, ν2, e1, e2, sameC_tr q3 e3, sameC_tr q4 e4⟩
      · rw [if_neg c, if_neg c, nI_1, show s + 0 = s by rw [Int32.add_zero]]
        exact ih (j + 1) s μ ν hh h2 h3 (by omega) (by omega)
theorem load_both {o p np ng : Nat} {μ ν : Mem} (ho : o = 8 ∨ o = 39) (h : VW o μ ν) (h2 : ν 1 2 = nI np) (hnp : np ≤ 6) (h3 : ν 1 3 = nI ng) (hng : ng ≤ 9) (hp : p < np) : ∃ (r : Int32) (μ1 ν1 : Mem), f_X2_load o (nI p) μ = some (r, μ1) ∧ f_X9_loadOf (nI p) ν = some (r, ν1) ∧ sameC [4, 7] μ μ1 ∧ sameC [10, 11] ν ν1 := by
  unfold f_X2_load f_X9_loadOf
  exact load_loop ho hnp hng hp 2000 0 0 μ ν h h2 h3 (by omega) (by omega)
theorem held_loop {o ng : Nat} {v : Int32} {μ ν : Mem} (h : VW o μ ν) (h3 : ν 1 3 = nI ng) (hng : ng ≤ 9) : ∀ f j (s : Int32), j ≤ ng → 10 ≤ f + j → ∃ r, f_X2_heldBy_4 o μ f v s (nI j) = some r ∧ f_X9_howManyBy_4 ν f v s (nI j) = some r := by
  intro f
  induction f with
  | zero => intro j s hj hf; omega
  | succ f ih =>
    intro j s hj hf
    obtain ⟨⟨⟨m1, m2, m3, m4, m5⟩, mp, mg, -, -⟩, -⟩ := id h
    have p11 : μ o 11 = nI ng := m2.trans h3
    unfold f_X2_heldBy_4 f_X9_howManyBy_4
    rw [p11, show ix 3 = 3 from rfl, h3]
    by_cases q : ng ≤ j
    · have q' : nI ng ≤ nI j := (nI_leI (by omega) (by omega)).mpr q
      rw [if_pos q', if_pos q']
      exact ⟨_, rfl, rfl⟩
    · have q' : ¬ nI ng ≤ nI j := fun e => q ((nI_leI (by omega) (by omega)).mp e)
      have a3 := about_at (g := j) (w := 3) (ν := ν) (by omega)
      rw [show nI 3 = 3 from rfl] at a3
      rw [if_neg q', if_neg q', ck_c (inb_nI (show j < 9 by omega) (by decide)), ix_nI (show j < 2 ^ 31 by omega), (mg j (by omega)).2.2.2, a3, bd_n]
      unfold f_X9_howManyBy_30
      by_cases c : ν 1 (27 + 4 * j + 3) = v
      · rw [if_pos c, if_pos c, nI_1]
        exact ih (j + 1) (s + 1) (by omega) (by omega)
      · rw [if_neg c, if_neg c, nI_1, show s + 0 = s by rw [Int32.add_zero]]
        exact ih (j + 1) s (by omega) (by omega)
theorem held_both {o ng : Nat} {v : Int32} {μ ν : Mem} (h : VW o μ ν) (h3 : ν 1 3 = nI ng) (hng : ng ≤ 9) : ∃ r, f_X2_heldBy o v μ = some r ∧ f_X9_howManyBy v ν = some r := by
  unfold f_X2_heldBy f_X9_howManyBy
  exact held_loop h h3 hng 2000 0 0 (by omega) (by omega)
theorem room_both {o p np ng : Nat} {μ ν : Mem} (h : VW o μ ν) (h2 : ν 1 2 = nI np) (hnp : np ≤ 6) (h3 : ν 1 3 = nI ng) (hng : ng ≤ 9) (hp : p < np) : ∃ r, f_X2_room o (nI p) μ = some r ∧ f_X9_roomOf (nI p) ν = some r := by
  obtain ⟨⟨⟨m1, m2, m3, m4, m5⟩, mp, mg, -, -⟩, -⟩ := id h
  have p10 : μ o 10 = nI np := m1.trans h2
  obtain ⟨p1, p2⟩ := mp p (by omega)
  have o0 := of_at (p := p) (w := 0) (ν := ν) (by omega)
  have o1 := of_at (p := p) (w := 1) (ν := ν) (by omega)
  rw [show nI 0 = 0 from rfl, Nat.add_zero] at o0
  rw [show nI 1 = 1 from rfl] at o1
  obtain ⟨x, x1, x2⟩ := held_both (v := nI p) h h3 hng
  unfold f_X2_room f_X9_roomOf
  rw [isOne_rg p10 hnp, inb_nI hp (by omega), if_pos rfl, if_neg (show ¬ (1 : Int32) = 0 by decide), inb_nI (show p < 6 by omega) (by decide), ck_n, ck_n, ix_nI (show p < 2 ^ 31 by omega), p1, p2, m4, o0, o1, bd_n, bd_n, x1, x2, show ix 0 = 0 from rfl, bd_n]
  have h0 : ∀ {e : Option Int32}, (∃ r, e = some r) → ∃ r, e = some r ∧ e = some r := fun ⟨r, hr⟩ => ⟨r, hr, hr⟩
  refine h0 ?_
  repeat' split
  all_goals exact ⟨_, rfl⟩
theorem Sim_vw {μ ν μ1 ν1 : Mem} (h : Sim μ ν) (hC : sameC [4, 7] μ μ1) (hR : sameC [10, 11] ν ν1) : Sim μ1 ν1 :=
  Sim_now h (by rw [hR 1 (by decide)]; exact KR1_same h.1 hC (by decide)) (sameC_mono hC (by decide)) (sameC_mono hR (by decide)) (by rw [hR 0 (by decide)]) (by rw [hR 0 (by decide)]) (by rw [hC 2 (by decide)]) (by rw [hC 5 (by decide)])
theorem sim_personIs : Sim_personIs Sim := by
  intro v1 v2 μ ν h
  have hh := h
  have hV := VW_sim h
  obtain ⟨hK, -, -, -, -, -⟩ := h
  obtain ⟨⟨⟨m1, m2, m3, m4, m5⟩, mp, mg, mb, mf⟩, ⟨⟨np, hnp, e2⟩, ⟨ng, hng, e3⟩, -⟩, -⟩ := id hK
  have p10 : μ 8 10 = nI np := m1.trans e2
  unfold f_X8_personIs f_X9_personIs f_X8_personIs_25
  rw [show 1 + 7 = 8 from rfl, isOne_rg p10 hnp, isPerson_rg e2 hnp]
  simp only [ite10, bd2_id]
  by_cases h1 : inb v1 np = true
  · obtain ⟨p, hp, rfl⟩ := rg_of h1 (by omega)
    rw [if_neg (not_not_intro h1), if_neg (not_not_intro h1), hi_rg (n := 5) (by decide)]
    by_cases h2 : inb v2 5 = true
    · obtain ⟨w, hw, rfl⟩ := rg_of h2 (by decide)
      rw [if_pos h2]
      obtain ⟨q1, q2⟩ := mp p (by omega)
      have q1' : μ (8 + 1) p = ν 1 (15 + 2 * p) := q1
      have q2' : μ (8 + 2) p = ν 1 (15 + 2 * p + 1) := q2
      rcases (show w = 0 ∨ w = 1 ∨ w = 2 ∨ w = 3 ∨ w = 4 by omega) with rfl | rfl | rfl | rfl | rfl
      · rw [if_pos (show nI 0 = 0 from rfl), if_pos (show nI 0 = 0 ∨ nI 0 = 1 from Or.inl rfl), of_at (by omega), bd_n, ck_c (inb_nI (show p < 6 by omega) (by decide)), ix_nI (by omega), q1']
        exact ⟨_, _, _, rfl, rfl, hh⟩
      · rw [if_neg (show ¬ nI 1 = 0 by decide), if_pos (show nI 1 = 1 from rfl), if_pos (show nI 1 = 0 ∨ nI 1 = 1 from Or.inr rfl), of_at (by omega), bd_n, ck_c (inb_nI (show p < 6 by omega) (by decide)), ix_nI (by omega), q2']
        exact ⟨_, _, _, rfl, rfl, hh⟩
      · obtain ⟨r, r1, r2⟩ := held_both (v := nI p) hV e3 hng
        rw [if_neg (show ¬ nI 2 = 0 by decide), if_neg (show ¬ nI 2 = 1 by decide), if_pos (show nI 2 = 2 from rfl), if_neg (show ¬ (nI 2 = 0 ∨ nI 2 = 1) by decide), if_pos (show nI 2 = 2 from rfl), r1, r2, bd_n, bd_n]
        exact ⟨_, _, _, rfl, rfl, hh⟩
      · obtain ⟨r, μ1, ν1, r1, r2, r3, r4⟩ := load_both (Or.inl rfl) hV e2 hnp e3 hng hp
        rw [if_neg (show ¬ nI 3 = 0 by decide), if_neg (show ¬ nI 3 = 1 by decide), if_neg (show ¬ nI 3 = 2 by decide), if_pos (show nI 3 = 3 from rfl), if_neg (show ¬ (nI 3 = 0 ∨ nI 3 = 1) by decide), if_neg (show ¬ nI 3 = 2 by decide), if_pos (show nI 3 = 3 from rfl), r1, r2]
        exact ⟨_, _, _, rfl, rfl, Sim_vw hh r3 r4⟩
      · obtain ⟨r, r1, r2⟩ := room_both hV e2 hnp e3 hng hp
        rw [if_neg (show ¬ nI 4 = 0 by decide), if_neg (show ¬ nI 4 = 1 by decide), if_neg (show ¬ nI 4 = 2 by decide), if_neg (show ¬ nI 4 = 3 by decide), if_neg (show ¬ (nI 4 = 0 ∨ nI 4 = 1) by decide), if_neg (show ¬ nI 4 = 2 by decide), if_neg (show ¬ nI 4 = 3 by decide), if_pos (show nI 4 = 4 from rfl), r1, r2, bd_n, bd_n]
        exact ⟨_, _, _, rfl, rfl, hh⟩
    · rw [if_neg h2]
      have nw : ∀ w, w < 5 → ¬ v2 = nI w := fun w hw e => h2 (by rw [e]; exact inb_nI hw (by decide))
      rw [if_neg (show ¬ (v2 = 0 ∨ v2 = 1) from fun e => e.elim (nw 0 (by decide)) (nw 1 (by decide))), if_neg (show ¬ v2 = 2 from nw 2 (by decide)), if_neg (show ¬ v2 = 3 from nw 3 (by decide)), if_neg (show ¬ v2 = 4 from nw 4 (by decide))]
      exact err1 hh
  · rw [if_pos h1, if_pos h1]
    exact err1 hh
