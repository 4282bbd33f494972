/-! PURE: numbers, tests, memories -/
theorem ck_t {α : Type} {o : Option α} : ck true o = o := rfl
theorem ck_c {α : Type} {c : Bool} {o : Option α} (h : c = true) : ck c o = o := by rw [h]; rfl
theorem bd_s {α β : Type} {a : α} {f : α → Option β} : bd (some a) f = f a := rfl
theorem bd2_s {α γ β : Type} {a : α} {c : γ} {f : α → γ → Option β} : bd2 (some (a, c)) f = f a c := rfl
theorem wr_e {β : Type} {μ : Mem} {i j : Nat} {x : Int32} {f : Mem → β} : wr μ i j x f = f (up μ i j x) := rfl
theorem cpy_e {β : Type} {μ : Mem} {a0 sp a dp n : Nat} {f : Mem → β} : cpy μ a0 sp a dp n f = f (cpM μ a0 sp a dp n) := rfl
theorem nm_e2 {α β : Type} {a : α} {f : α → β} : nm a f = f a := rfl
theorem ix_nI {n : Nat} (h : n < 2 ^ 31) : ix (nI n) = n := nI_clamp h
theorem inb_nI {j n : Nat} (h : j < n) (hn : n < 2 ^ 31) : inb (nI j) n = true := by
  simp only [inb, nI_toInt (show j < 2 ^ 31 by omega), Bool.and_eq_true, decide_eq_true_eq]
  omega
theorem eq_i {a b : Int32} : a = b ↔ a.toInt = b.toInt := Int32.toInt_inj.symm
/-- a number from 0 on, below n -/
abbrev rg (v : Int32) (n : Nat) : Prop := inb v n = true
theorem rg_iff {v : Int32} {n : Nat} : rg v n ↔ 0 ≤ v.toInt ∧ v.toInt < n := by
  simp only [rg, inb, Bool.and_eq_true, decide_eq_true_eq]
theorem rg_of {v : Int32} {n : Nat} (h : rg v n) (hn : n < 2 ^ 31) : ∃ j, j < n ∧ v = nI j := by
  have h := rg_iff.mp h
  refine ⟨v.toInt.toNat, by omega, ?_⟩
  rw [eq_i, nI_toInt (by omega)]
  omega
theorem rg_nI {j n : Nat} (h : j < n) (hn : n < 2 ^ 31) : rg (nI j) n := by
  rw [rg_iff, nI_toInt (by omega)]
  omega
theorem rg_nI_iff {j n : Nat} (hj : j < 2 ^ 31) : rg (nI j) n ↔ j < n := by
  rw [rg_iff, nI_toInt hj]
  omega
theorem lit_toInt {n : Nat} (h : n < 2 ^ 31) : (Int32.ofNat n).toInt = n := nI_toInt h
/-- tests with two ends -/
theorem in_rg {v : Int32} {n : Nat} {b : Int32} (hb : b.toInt = (n : Int) - 1) : f_X9_in v 0 b = if inb v n = true then 1 else 0 := by
  unfold f_X9_in
  have h0 : (0 : Int32).toInt = 0 := by decide
  by_cases h1 : v < 0
  · rw [if_pos h1, if_neg]
    intro hh; obtain ⟨a, -⟩ := rg_iff.mp hh
    have := Int32.lt_iff_toInt_lt.mp h1
    omega
  · rw [if_neg h1]
    have h1' : ¬ v.toInt < 0 := fun q => h1 (Int32.lt_iff_toInt_lt.mpr (by omega))
    by_cases h2 : b < v
    · rw [if_pos h2, if_neg]
      intro hh; obtain ⟨-, a⟩ := rg_iff.mp hh
      have := Int32.lt_iff_toInt_lt.mp h2
      omega
    · rw [if_neg h2, if_pos]
      have h2' : ¬ b.toInt < v.toInt := fun q => h2 (Int32.lt_iff_toInt_lt.mpr q)
      exact rg_iff.mpr ⟨by omega, by omega⟩
theorem lo_rg {v c : Int32} {n : Nat} {α : Type} {x y : α} (hc : c.toInt = n) : (if v < 0 then x else if c ≤ v then x else y) = if inb v n = true then y else x := by
  have h0 : (0 : Int32).toInt = 0 := by decide
  by_cases h1 : v < 0
  · rw [if_pos h1, if_neg]
    intro hh; obtain ⟨a, -⟩ := rg_iff.mp hh
    have := Int32.lt_iff_toInt_lt.mp h1
    omega
  · rw [if_neg h1]
    have h1' : ¬ v.toInt < 0 := fun q => h1 (Int32.lt_iff_toInt_lt.mpr (by omega))
    by_cases h2 : c ≤ v
    · rw [if_pos h2, if_neg]
      intro hh; obtain ⟨-, a⟩ := rg_iff.mp hh
      have := Int32.le_iff_toInt_le.mp h2
      omega
    · rw [if_neg h2, if_pos]
      have h2' : ¬ c.toInt ≤ v.toInt := fun q => h2 (Int32.le_iff_toInt_le.mpr q)
      exact rg_iff.mpr ⟨by omega, by omega⟩
theorem isKN_rg (v : Int32) : f_X8_isKindAndNumber v = if inb v 70 = true then 1 else 0 := by
  unfold f_X8_isKindAndNumber
  rw [lo_rg (n := 70) (by decide)]
theorem isKm_rg (v : Int32) : f_X9_isKm v = if inb v 70 = true then 1 else 0 := by
  unfold f_X9_isKm
  exact in_rg (n := 70) (by decide)
theorem isField8_rg (v : Int32) : f_X8_isField v = if inb v 7 = true then 1 else 0 := by
  unfold f_X8_isField
  rw [lo_rg (n := 7) (by decide)]
theorem isField9_rg (v : Int32) : f_X9_isField v = if inb v 7 = true then 1 else 0 := by
  unfold f_X9_isField
  exact in_rg (n := 7) (by decide)
theorem isUse_rg (v : Int32) : f_X8_isUse v = if inb v 2 = true then 1 else 0 := by
  unfold f_X8_isUse
  rw [lo_rg (n := 2) (by decide)]
theorem isSheet8_rg (v : Int32) : f_X8_isSheet v = if inb v 4 = true then 1 else 0 := by
  unfold f_X8_isSheet
  rw [lo_rg (n := 4) (by decide)]
theorem isSheet9_rg (v : Int32) : f_X9_isSheet v = if inb v 4 = true then 1 else 0 := by
  unfold f_X9_isSheet
  exact in_rg (n := 4) (by decide)
theorem ite10 {p : Prop} [Decidable p] : ((if p then (1 : Int32) else 0) = 0) ↔ ¬ p := by
  by_cases h : p
  · simp [h]
  · simp [h]
theorem isOne_rg {o k : Nat} {v : Int32} {μ : Mem} (h : μ o 10 = nI k) (hk : k ≤ 6) : f_X2_isOne o v μ = if inb v k = true then 1 else 0 := by
  unfold f_X2_isOne
  rw [h]
  have e : (if v < 0 then (0 : Int32) else if nI k ≤ v then 0 else if 6 ≤ v then 0 else 1) = if v < 0 then 0 else if nI k ≤ v then 0 else 1 := by
    by_cases h1 : v < 0
    · rw [if_pos h1, if_pos h1]
    · rw [if_neg h1, if_neg h1]
      by_cases h2 : nI k ≤ v
      · rw [if_pos h2, if_pos h2]
      · rw [if_neg h2, if_neg h2, if_neg]
        intro h3
        have h3 := Int32.le_iff_toInt_le.mp h3
        have h6 : (6 : Int32).toInt = 6 := by decide
        exact h2 (Int32.le_iff_toInt_le.mpr (by rw [nI_toInt (by omega)]; omega))
  rw [e, lo_rg (n := k) (nI_toInt (by omega))]
theorem isGate_rg {o k : Nat} {v : Int32} {μ : Mem} (h : μ o 11 = nI k) (hk : k ≤ 9) : f_X2_isGate o v μ = if inb v k = true then 1 else 0 := by
  unfold f_X2_isGate
  rw [h]
  have e : (if v < 0 then (0 : Int32) else if nI k ≤ v then 0 else if 9 ≤ v then 0 else 1) = if v < 0 then 0 else if nI k ≤ v then 0 else 1 := by
    by_cases h1 : v < 0
    · rw [if_pos h1, if_pos h1]
    · rw [if_neg h1, if_neg h1]
      by_cases h2 : nI k ≤ v
      · rw [if_pos h2, if_pos h2]
      · rw [if_neg h2, if_neg h2, if_neg]
        intro h3
        have h3 := Int32.le_iff_toInt_le.mp h3
        have h6 : (9 : Int32).toInt = 9 := by decide
        exact h2 (Int32.le_iff_toInt_le.mpr (by rw [nI_toInt (by omega)]; omega))
  rw [e, lo_rg (n := k) (nI_toInt (by omega))]
theorem nI_m1 (k : Nat) (hk : k < 2 ^ 31) : (nI k - 1).toInt = (k : Int) - 1 := by
  have := pk_sub_toInt (a := k) (b := 1)
  cases k with
  | zero => decide
  | succ k => rw [nI_pred, nI_toInt (by omega)]; omega
theorem isPerson_rg {k : Nat} {v : Int32} {ν : Mem} (h : ν 1 2 = nI k) (hk : k ≤ 6) : f_X9_isPerson v ν = if inb v k = true then 1 else 0 := by
  unfold f_X9_isPerson
  rw [show ix 2 = 2 from rfl, h]
  exact in_rg (n := k) (nI_m1 k (by omega))
theorem isGate9_rg {k : Nat} {v : Int32} {ν : Mem} (h : ν 1 3 = nI k) (hk : k ≤ 9) : f_X9_isGate v ν = if inb v k = true then 1 else 0 := by
  unfold f_X9_isGate
  rw [show ix 3 = 3 from rfl, h]
  exact in_rg (n := k) (nI_m1 k (by omega))
/-- places of the reference's row -/
theorem of_at {p w : Nat} {ν : Mem} (h : 15 + 2 * p + w < 395) : f_X9_of (nI p) (nI w) ν = some (ν 1 (15 + 2 * p + w)) := by
  have e : (15 + (2 * nI p)) + nI w = nI (15 + 2 * p + w) := by
    rw [show (2 : Int32) = nI 2 from rfl, pk_mul, show (15 : Int32) = nI 15 from rfl, nI_add, nI_add]
  unfold f_X9_of
  rw [e, ck_c (inb_nI h (by decide)), ix_nI (by omega)]
theorem about_at {g w : Nat} {ν : Mem} (h : 27 + 4 * g + w < 395) : f_X9_about (nI g) (nI w) ν = some (ν 1 (27 + 4 * g + w)) := by
  have e : (27 + (4 * nI g)) + nI w = nI (27 + 4 * g + w) := by
    rw [show (4 : Int32) = nI 4 from rfl, pk_mul, show (27 : Int32) = nI 27 from rfl, nI_add, nI_add]
  unfold f_X9_about
  rw [e, ck_c (inb_nI h (by decide)), ix_nI (by omega)]
theorem lets_at {g w : Nat} {v : Int32} {ν : Mem} (h : 27 + 4 * g + w < 395) : f_X9_lets (nI g) (nI w) v ν = some (up ν 1 (27 + 4 * g + w) v) := by
  have e : (27 + (4 * nI g)) + nI w = nI (27 + 4 * g + w) := by
    rw [show (4 : Int32) = nI 4 from rfl, pk_mul, show (27 : Int32) = nI 27 from rfl, nI_add, nI_add]
  unfold f_X9_lets
  rw [e, ck_c (inb_nI h (by decide)), ix_nI (by omega), wr_e]
theorem becomes_at {i : Nat} {v : Int32} {ν : Mem} (h : i < 395) : f_X9_becomes (nI i) v ν = some (ν 1 i, up ν 1 i v) := by
  unfold f_X9_becomes
  rw [ck_c (inb_nI h (by decide)), ck_c (inb_nI h (by decide)), ix_nI (by omega), wr_e]
theorem isOpen_at {g : Nat} {ν : Mem} (h : g < 9) : f_X9_isOpen (nI g) ν = some (if 0 ≤ ν 1 (27 + 4 * g + 3) then 0 else 1) := by
  unfold f_X9_isOpen
  rw [show (3 : Int32) = nI 3 from rfl, about_at (by omega), bd_s]
  split <;> rfl
/-- an answer that is an error -/
theorem fail_at {k : Nat} {μ : Mem} (h : k < 7) : f_X8_fail (nI k) μ = some (-1000000000 - nI k, up μ 66 k (μ 66 k + 1)) := by
  unfold f_X8_fail
  rw [if_neg (nI_pos (by omega)), if_neg (by rw [show (7 : Int32) = nI 7 from rfl, nI_leI (by omega) (by omega)]; omega), ck_c (inb_nI h (by decide)), ck_c (inb_nI h (by decide)), ix_nI (by omega), wr_e]
theorem error_at {e : Int32} {k : Nat} {ν : Mem} (he : -1000000000 - e = nI k) (h : k < 7) : f_X9_error e ν = some (e, up ν 4 k (ν 4 k + 1)) := by
  unfold f_X9_error
  rw [he, ck_c (inb_nI h (by decide)), ck_c (inb_nI h (by decide)), ix_nI (by omega), wr_e]
theorem up_ne {μ : Mem} {i j a c : Nat} {v : Int32} (h : a ≠ i) : up μ i j v a c = μ a c := up_n (fun q => h q.1)
theorem up_ix {μ : Mem} {i j c : Nat} {v : Int32} : up μ i j v i c = if c = j then v else μ i c := by
  by_cases h : c = j
  · rw [if_pos h, h, up_s]
  · rw [if_neg h, up_n (fun q => h q.2)]
