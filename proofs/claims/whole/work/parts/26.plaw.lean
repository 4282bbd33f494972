/-! THE LAW worked out on both sides -/
theorem dep_back {a : Nat → Int32} {k d : Nat} (h : dep a (k + 1) = some d) : ∃ d', dep a k = some d' := by
  unfold dep at h
  cases e : dep a k with
  | none => rw [e] at h; exact absurd h (by simp)
  | some d' => exact ⟨d', rfl⟩
theorem dep_some {a : Nat → Int32} {n d : Nat} (h : dep a n = some d) : ∀ j, j ≤ n → ∃ d', dep a (n - j) = some d' := by
  intro j
  induction j with
  | zero => intro _; exact ⟨d, h⟩
  | succ j ih =>
    intro hj
    obtain ⟨d', e⟩ := ih (by omega)
    rw [show n - j = (n - (j + 1)) + 1 by omega] at e
    exact dep_back e
theorem dep_at {a : Nat → Int32} {n d k : Nat} (h : dep a n = some d) (hk : k ≤ n) : ∃ d', dep a k = some d' := by
  have := dep_some h (n - k) (by omega)
  rwa [show n - (n - k) = k by omega] at this
theorem dep_le {a : Nat → Int32} : ∀ k d, dep a k = some d → d ≤ k := by
  intro k
  induction k with
  | zero => intro d h; simp [dep] at h; omega
  | succ k ih =>
    intro d h
    unfold dep at h
    cases e : dep a k with
    | none => rw [e] at h; exact absurd h (by simp)
    | some d' =>
      have hd := ih d' e
      rw [e] at h
      simp only at h
      split at h
      · injection h with h; omega
      · split at h
        · split at h
          · injection h with h; omega
          · exact absurd h (by simp)
        · split at h
          · injection h with h; omega
          · exact absurd h (by simp)
theorem dep_1 {a : Nat → Int32} {k d : Nat} (h : dep a k = some d) (ha : a k = 1 ∨ a k = 2) : dep a (k + 1) = some (d + 1) := by
  show (match dep a k with | none => none | some d => _) = _
  rw [h]
  exact if_pos ha
theorem dep_3 {a : Nat → Int32} {k d d' : Nat} (h : dep a k = some d) (ha : a k = 3) (h2 : dep a (k + 1) = some d') : 1 ≤ d ∧ d' = d := by
  unfold dep at h2
  rw [h] at h2
  simp only at h2
  rw [if_neg (by rw [ha]; decide), if_pos ha] at h2
  split at h2
  · injection h2 with h2
    exact ⟨by assumption, h2.symm⟩
  · exact absurd h2 (by simp)
theorem dep_o {a : Nat → Int32} {k d d' : Nat} (h : dep a k = some d) (ha : ¬ (a k = 1 ∨ a k = 2)) (ha3 : ¬ a k = 3) (h2 : dep a (k + 1) = some d') : 2 ≤ d ∧ d' = d - 1 := by
  unfold dep at h2
  rw [h] at h2
  simp only at h2
  rw [if_neg ha, if_neg ha3] at h2
  split at h2
  · injection h2 with h2
    exact ⟨by assumption, h2.symm⟩
  · exact absurd h2 (by simp)
theorem nz_t {v : Int32} (h : ¬ v = 0) : nz v = true := by simp [nz, h]
theorem joined_eq {c x y : Int32} (h : c ∈ opL) : ∃ r, f_X1_joined c x y = some r ∧ f_X9_twoOf c x y = some r := by
  simp only [opL, List.mem_cons, List.not_mem_nil, or_false] at h
  have h0 : ∀ (b : Prop) [Decidable b] (p q : Int32), ∃ r, (if b then some p else some q : Option Int32) = some r := fun b _ p q => by
    by_cases e : b
    · exact ⟨p, if_pos e⟩
    · exact ⟨q, if_neg e⟩
  rcases h with rfl | rfl | rfl | rfl | rfl | rfl | rfl | rfl | rfl | rfl
  · by_cases e : y = 0
    · exact ⟨0, by unfold f_X1_joined; rw [if_pos rfl, if_pos e], by unfold f_X9_twoOf; rw [if_pos rfl, if_pos e]⟩
    · exact ⟨jrem x y, by unfold f_X1_joined; rw [if_pos rfl, if_neg e, nz_t e, ck_n], by unfold f_X9_twoOf; rw [if_pos rfl, if_neg e, nz_t e, ck_n]⟩
  · by_cases e : x = 0
    · exact ⟨0, by unfold f_X1_joined; rw [if_neg (by decide), if_pos rfl, if_pos e], by unfold f_X9_twoOf; rw [if_neg (by decide), if_pos rfl, if_pos e]⟩
    · by_cases e2 : y = 0
      · exact ⟨0, by unfold f_X1_joined; rw [if_neg (by decide), if_pos rfl, if_neg e, if_pos e2], by unfold f_X9_twoOf; rw [if_neg (by decide), if_pos rfl, if_neg e, if_pos e2]⟩
      · exact ⟨1, by unfold f_X1_joined; rw [if_neg (by decide), if_pos rfl, if_neg e, if_neg e2], by unfold f_X9_twoOf; rw [if_neg (by decide), if_pos rfl, if_neg e, if_neg e2]⟩
  · exact ⟨x * y, by unfold f_X1_joined; rw [if_neg (by decide), if_neg (by decide), if_pos rfl], by unfold f_X9_twoOf; rw [if_neg (by decide), if_neg (by decide), if_pos rfl]⟩
  · exact ⟨x + y, by unfold f_X1_joined; rw [if_neg (by decide), if_neg (by decide), if_neg (by decide), if_pos rfl], by unfold f_X9_twoOf; rw [if_neg (by decide), if_neg (by decide), if_neg (by decide), if_pos rfl]⟩
  · exact ⟨x - y, by unfold f_X1_joined; rw [if_neg (by decide), if_neg (by decide), if_neg (by decide), if_neg (by decide), if_pos rfl], by unfold f_X9_twoOf; rw [if_neg (by decide), if_neg (by decide), if_neg (by decide), if_neg (by decide), if_pos rfl]⟩
  · by_cases e : y = 0
    · exact ⟨0, by unfold f_X1_joined; rw [if_neg (by decide), if_neg (by decide), if_neg (by decide), if_neg (by decide), if_neg (by decide), if_pos rfl, if_pos e], by unfold f_X9_twoOf; rw [if_neg (by decide), if_neg (by decide), if_neg (by decide), if_neg (by decide), if_neg (by decide), if_pos rfl, if_pos e]⟩
    · exact ⟨x / y, by unfold f_X1_joined; rw [if_neg (by decide), if_neg (by decide), if_neg (by decide), if_neg (by decide), if_neg (by decide), if_pos rfl, if_neg e, nz_t e, ck_n], by unfold f_X9_twoOf; rw [if_neg (by decide), if_neg (by decide), if_neg (by decide), if_neg (by decide), if_neg (by decide), if_pos rfl, if_neg e, nz_t e, ck_n]⟩
  · obtain ⟨r, hr⟩ := h0 (y ≤ x) 0 1
    exact ⟨r, by unfold f_X1_joined; rw [if_neg (by decide), if_neg (by decide), if_neg (by decide), if_neg (by decide), if_neg (by decide), if_neg (by decide), if_pos rfl]; exact hr, by unfold f_X9_twoOf; rw [if_neg (by decide), if_neg (by decide), if_neg (by decide), if_neg (by decide), if_neg (by decide), if_neg (by decide), if_pos rfl]; exact hr⟩
  · obtain ⟨r, hr⟩ := h0 (x = y) 1 0
    exact ⟨r, by unfold f_X1_joined; rw [if_neg (by decide), if_neg (by decide), if_neg (by decide), if_neg (by decide), if_neg (by decide), if_neg (by decide), if_neg (by decide), if_pos rfl]; exact hr, by unfold f_X9_twoOf; rw [if_neg (by decide), if_neg (by decide), if_neg (by decide), if_neg (by decide), if_neg (by decide), if_neg (by decide), if_neg (by decide), if_pos rfl]; exact hr⟩
  · obtain ⟨r, hr⟩ := h0 (x ≤ y) 0 1
    exact ⟨r, by unfold f_X1_joined; rw [if_neg (by decide), if_neg (by decide), if_neg (by decide), if_neg (by decide), if_neg (by decide), if_neg (by decide), if_neg (by decide), if_neg (by decide), if_pos rfl]; exact hr, by unfold f_X9_twoOf; rw [if_neg (by decide), if_neg (by decide), if_neg (by decide), if_neg (by decide), if_neg (by decide), if_neg (by decide), if_neg (by decide), if_neg (by decide), if_pos rfl]; exact hr⟩
  · have hr : ∃ r, (if x = 0 then (if y = 0 then some 0 else some 1) else some 1 : Option Int32) = some r := by
      by_cases e : x = 0
      · rw [if_pos e]; exact h0 _ _ _
      · exact ⟨1, if_neg e⟩
    obtain ⟨r, hr⟩ := hr
    exact ⟨r, by unfold f_X1_joined; rw [if_neg (by decide), if_neg (by decide), if_neg (by decide), if_neg (by decide), if_neg (by decide), if_neg (by decide), if_neg (by decide), if_neg (by decide), if_neg (by decide), if_pos rfl]; exact hr, by unfold f_X9_twoOf; rw [if_neg (by decide), if_neg (by decide), if_neg (by decide), if_neg (by decide), if_neg (by decide), if_neg (by decide), if_neg (by decide), if_neg (by decide), if_neg (by decide)]; exact hr⟩
