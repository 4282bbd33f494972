/-! THE START: both sides made, the law's loop entered -/
theorem vals_eq {cA : ClassId} {n : Nat} {f g : Nat → Option Nat} (h : ∀ j, j < n → f j = g j) : vp_cell cA (n, .inr (.inr (.inr (.inr f)))) = vp_cell cA (n, .inr (.inr (.inr (.inr g)))) := by
  rw [vp_cell_q, vp_cell_q]
  unfold arrV
  congr 1
  apply Array.ext
  · simp
  · intro i h1 h2
    simp only [Array.getElem_ofFn]
    rw [h i (by simpa using h1)]
def refsOk (b : Bool) (μ : Mem) : Prop := ∀ i, i < cnt b → (kd b i < 10 → ∀ k, k < nf (kd b i) → tf (kd b i) k ≠ 0 → μ i k ≠ 0) ∧ (kd b i = 12 → ∀ j, j < ln b i → μ i j ≠ 0)
theorem Wd_ofC {D : DT} {b : Bool} {base : Nat} {μ : Mem} {H : Heap} (hD : ∀ i, i < 100 → D.1 i = base + i) (hW : WdC D b base (cnt b) μ H) (hr : refsOk b μ) (hby : ∀ i j, kd b i = 11 → μ i j = 0) : Wd D b μ H := by
  have hc : cnt b ≤ 100 := by cases b <;> decide
  refine ⟨?_, ⟨?_, ?_⟩, fun i j hi => by rw [hby i j hi]; rfl⟩
  · intro k q hk
    have hlt : k < cnt b := by
      rcases Nat.lt_or_ge k (cnt b) with h | h
      · exact h
      · rw [List.getElem?_eq_none (by simpa [cellsD] using h)] at hk
        cases hk
    rw [cellsD_at hlt] at hk
    cases hk
    have h1 := hW.1 k _ (cellsC_at hlt)
    obtain ⟨r1, r2⟩ := hr k hlt
    by_cases h10 : kd b k < 10
    · have e1 : entC D b μ k = ent D b μ k := by
        rw [entC_obj rfl h10, ent_obj rfl h10]
        congr 2
        apply List.map_congr_left
        intro j hj
        have hj2 := List.mem_range.mp hj
        by_cases ht : tf (kd b k) j = 0
        · rw [fvC, fv, if_pos ht, if_pos ht]
        · rw [fvC, fv, if_neg ht, if_neg ht, if_neg (r1 h10 j hj2 ht)]
      rw [e1] at h1
      exact h1
    · by_cases h11 : kd b k = 10
      · have e1 : entC D b μ k = ent D b μ k := by unfold entC ent; rw [if_neg h10, if_neg h10, if_pos h11, if_pos h11]
        rw [e1] at h1
        exact h1
      · by_cases h12 : kd b k = 11
        · have e1 : entC D b μ k = ent D b μ k := by unfold entC ent; rw [if_neg h10, if_neg h10, if_neg h11, if_neg h11, if_pos h12, if_pos h12]
          rw [e1] at h1
          exact h1
        · have e1 : entC D b μ k = .inl (D.2.2.2 2, ln b k, .inr (.inr (.inr (.inr (fun j => if μ k j = 0 then none else some (D.1 (sr b k j))))))) := by unfold entC; rw [if_neg h10, if_neg h11, if_neg h12]
          have e2 : ent D b μ k = .inl (D.2.2.2 2, ln b k, .inr (.inr (.inr (.inr (fun j => some (D.1 (sr b k j))))))) := by unfold ent; rw [if_neg h10, if_neg h11, if_neg h12]
          rw [e1] at h1
          rw [e2]
          have h1' : H[D.1 k]? = some (vp_cell _ _) := h1
          show H[D.1 k]? = some (vp_cell _ _)
          rw [h1']
          congr 1
          have hk12 : kd b k = 12 := by
            have hall : ∀ b : Bool, ∀ i, i < cnt b → kd b i < 13 := by intro b; cases b <;> decide +kernel
            have := hall b k hlt
            omega
          exact vals_eq (fun j hj => by rw [if_neg (r2 hk12 j hj)])
  · intro i j p q hp hq e
    have hi : ∀ (i : Nat) (p : Nat × va_E), (cellsD D b μ)[i]? = some p → i < cnt b ∧ p.1 = base + i := by
      intro i p h
      have hlt : i < cnt b := by
        rcases Nat.lt_or_ge i (cnt b) with h' | h'
        · exact h'
        · rw [List.getElem?_eq_none (by simpa [cellsD] using h')] at h
          cases h
      rw [cellsD_at hlt] at h
      cases h
      exact ⟨hlt, hD i (by omega)⟩
    have a1 := (hi i p hp).2; have a2 := (hi j q hq).2; omega
  · intro k q hk
    have hlt : k < cnt b := by
      rcases Nat.lt_or_ge k (cnt b) with h' | h'
      · exact h'
      · rw [List.getElem?_eq_none (by simpa [cellsD] using h')] at hk
        cases hk
    rw [cellsD_at hlt] at hk
    cases hk
    exact ⟨k, hlt, rfl⟩
def zM : Mem := fun _ _ => 0
theorem refs_c : refsOk true (i_X8_init_0 zM) := by
  unfold refsOk
  decide +kernel
theorem refs_r : refsOk false (i_X9_init_0 zM) := by
  unfold refsOk
  decide +kernel
theorem byt_c : ∀ i j, kd true i = 11 → i_X8_init_0 zM i j = 0 := by
  intro i j h
  have h1 := kd_all (p := fun i => i == 18 || i == 37 || i == 51) (by decide +kernel) h (by decide)
  simp only [Bool.or_eq_true, beq_iff_eq] at h1
  rcases h1 with (rfl | rfl) | rfl <;> simp [i_X8_init_0, i_X0_init_1, i_X0_init_20, i_X1_init_2, i_X1_init_5, i_X1_init_21, i_X1_init_24, i_X2_init_8, i_X2_init_27, i_X2_init_39, i_X7_init_17, i_X7_init_36, i_X7_init_50, i_X4_init_48, i_X3_init_52, i_X6_init_55, i_X5_init_58, i_X5_init_60, i_X5_init_62, i_X5_init_64, up, zM]
theorem byt_r : ∀ i j, kd false i = 11 → i_X9_init_0 zM i j = 0 := by
  intro i j h
  have h1 := kd_all (p := fun i => false) (by decide +kernel) h (by decide)
  simp at h1
