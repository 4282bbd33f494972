/-! A TEXT read on both sides -/
theorem and255 (x : Int32) : ∃ m, m < 256 ∧ x &&& 255 = nI m := by
  refine ⟨(x.toBitVec &&& 255#32).toNat, ?_, ?_⟩
  · rw [BitVec.toNat_and]
    exact Nat.lt_of_le_of_lt Nat.and_le_right (by decide)
  · apply Int32.toBitVec_inj.mp
    show x.toBitVec &&& 255#32 = BitVec.ofNat 32 (x.toBitVec &&& 255#32).toNat
    rw [BitVec.ofNat_toNat, BitVec.setWidth_eq]
theorem dep_congr {a b : Nat → Int32} : ∀ n, (∀ k, k < n → a k = b k) → dep a n = dep b n := by
  intro n
  induction n with
  | zero => intro _; rfl
  | succ n ih =>
    intro h
    simp only [dep, ih (fun k hk => h k (by omega)), h n (by omega)]
def dstep (x : Int32) (d : Nat) : Option Nat := if x = 1 ∨ x = 2 then some (d + 1) else if x = 3 then (if 1 ≤ d then some d else none) else (if 2 ≤ d then some (d - 1) else none)
theorem dep_next {a : Nat → Int32} {n d d1 : Nat} (h : dep a n = some d) (hs : dstep (a n) d = some d1) : dep a (n + 1) = some d1 := by
  unfold dep
  rw [h]
  exact hs
def RB (μb νb : Mem) (T nm : Nat) (use : Int32) : Prop := T ≤ 60 ∧ μb 17 1 = nI T ∧ νb 1 6 = nI T ∧ (∀ k, k < 60 → μb 18 k &&& 255 = νb 1 (69 + k)) ∧ (nm = 110 ∧ use = 0 ∨ nm = 111 ∧ use = 1)
def RS (μb νb : Mem) (nm : Nat) (use : Int32) (μ ν : Mem) : Prop := sameC [48, 49] μb μ ∧ sameC [0, 8, 9] νb ν ∧ (∀ i, i < 12 ∨ 16 < i → ν 0 i = νb 0 i) ∧ μ 48 1 = 17 ∧ μ 48 2 = nI nm ∧ ν 0 16 = use
def R0 (μb νb : Mem) (T nm : Nat) (use : Int32) (v a n d : Nat) (μ ν : Mem) : Prop := RS μb νb nm use μ ν ∧ μ 48 3 = nI n ∧ μ 48 4 = nI a ∧ μ 48 5 = -1 ∧ ν 0 12 = nI n ∧ ν 0 13 = nI a ∧ ν 0 15 = 0 ∧ ν 0 14 = nI v ∧ n ≤ a ∧ a ≤ T ∧ (∀ k, k < n → WR (μ 49 k) (ν 8 k) (ν 9 k)) ∧ dep (ν 8) n = some d
def R1 (μb νb : Mem) (nm : Nat) (use : Int32) (f : Nat) (μ ν : Mem) : Prop := RS μb νb nm use μ ν ∧ μ 48 5 = nI f ∧ f ≤ 60 ∧ ν 0 15 = 1 ∧ ν 0 13 = nI f ∧ ∃ n, n ≤ 60 ∧ ν 0 12 = nI n
section RD
variable {μb νb : Mem} {T nm : Nat} {use : Int32}
theorem RS_48 {μ ν : Mem} {j : Nat} {x : Int32} (h : RS μb νb nm use μ ν) (hj : 3 ≤ j) : RS μb νb nm use (up μ 48 j x) ν := by
  obtain ⟨h1, h2, h3, h4, h5, h6⟩ := h
  exact ⟨sameC_tr h1 (sameC_up (sameC_rf _ _) (by decide)), h2, h3, by rw [up_n (fun e => by omega)]; exact h4, by rw [up_n (fun e => by omega)]; exact h5, h6⟩
theorem RS_49 {μ ν : Mem} {j : Nat} {x : Int32} (h : RS μb νb nm use μ ν) : RS μb νb nm use (up μ 49 j x) ν := by
  obtain ⟨h1, h2, h3, h4, h5, h6⟩ := h
  exact ⟨sameC_tr h1 (sameC_up (sameC_rf _ _) (by decide)), h2, h3, by rw [up_ne (by decide)]; exact h4, by rw [up_ne (by decide)]; exact h5, h6⟩
theorem RS_r0 {μ ν : Mem} {j : Nat} {x : Int32} (h : RS μb νb nm use μ ν) (hj : 12 ≤ j ∧ j ≤ 15) : RS μb νb nm use μ (up ν 0 j x) := by
  obtain ⟨h1, h2, h3, h4, h5, h6⟩ := h
  exact ⟨h1, sameC_tr h2 (sameC_up (sameC_rf _ _) (by decide)), fun i hi => by rw [up_n (fun e => by omega)]; exact h3 i hi, h4, h5, by rw [up_n (fun e => by omega)]; exact h6⟩
theorem RS_r8 {μ ν : Mem} {i j : Nat} {x : Int32} (h : RS μb νb nm use μ ν) (hi : i = 8 ∨ i = 9) : RS μb νb nm use μ (up ν i j x) := by
  obtain ⟨h1, h2, h3, h4, h5, h6⟩ := h
  exact ⟨h1, sameC_tr h2 (sameC_up (sameC_rf _ _) (by rcases hi with rfl | rfl <;> decide)), fun k hk => by rw [up_ne (by omega)]; exact h3 k hk, h4, h5, by rw [up_ne (by omega)]; exact h6⟩
theorem m1_neg : ¬ (0 : Int32) ≤ -1 := by decide
theorem nI_ge0 {n : Nat} (h : n < 2 ^ 31) : (0 : Int32) ≤ nI n := nI_pos' h
theorem look_both {v a n d : Nat} {μ ν : Mem} (hB : RB μb νb T nm use) (h : R0 μb νb T nm use v a n d μ ν) : ∃ c, f_X4_next μ = some c ∧ f_X9_look ν = some c ∧ (c = -1 ∨ ∃ m, m < 256 ∧ c = nI m ∧ a < T) := by
  obtain ⟨b1, b2, b3, b4, b5⟩ := hB
  obtain ⟨⟨h1, h2, h3, h4, h5, h6⟩, h7, h8, h9, h10, h11, h12, h13, h14, h15, h16, h17⟩ := h
  unfold f_X4_next f_X9_look
  rw [h9, if_neg m1_neg, h8, if_neg (nI_pos (show a < 2 ^ 31 by omega)), h4, show ix 17 = 17 from rfl, show (kd true 17 == 7) = true from by decide, ck_n, ck_n, ck_n, show ix 6 = 6 from rfl, h1 17 (by decide), h2 1 (by decide), b2, b3, h11]
  by_cases q : T ≤ a
  · have q' : nI T ≤ nI a := (nI_leI (by omega) (by omega)).mpr q
    rw [if_pos q', if_pos q']
    exact ⟨-1, rfl, rfl, Or.inl rfl⟩
  · have q' : ¬ nI T ≤ nI a := fun e => q ((nI_leI (by omega) (by omega)).mp e)
    have l60 : nI a < (60 : Int32) := (nI_ltI (a := a) (b := 60) (by omega) (by decide)).mpr (by omega)
    have e69 : 69 + nI a = nI (69 + a) := by rw [show (69 : Int32) = nI 69 from rfl, nI_add]
    obtain ⟨m, hm, e⟩ := and255 (μb 18 a)
    rw [if_neg q', if_neg q', if_pos l60, ck_c (inb_nI (show a < 60 by omega) (by decide)), e69, ck_c (inb_nI (show 69 + a < 395 by omega) (by decide)), ix_nI (show a < 2 ^ 31 by omega), ix_nI (show 69 + a < 2 ^ 31 by omega), show 17 + 1 = 18 from rfl, h1 18 (by decide), ← b4 a (by omega), e]
    exact ⟨_, rfl, rfl, Or.inr ⟨m, hm, rfl, by omega⟩⟩
theorem next_f {f : Nat} {μ ν : Mem} (h : R1 μb νb nm use f μ ν) : f_X4_next μ = some (-1) := by
  obtain ⟨-, h1, h2, -⟩ := h
  unfold f_X4_next
  rw [h1, if_pos (nI_ge0 (by omega))]
theorem look_f {f : Nat} {μ ν : Mem} (h : R1 μb νb nm use f μ ν) : ∃ c, f_X9_look ν = some c := by
  obtain ⟨-, h1, h2, h3, h4, h5⟩ := h
  unfold f_X9_look
  rw [h4, show 69 + nI f = nI (69 + f) by rw [show (69 : Int32) = nI 69 from rfl, nI_add], ck_c (inb_nI (show 69 + f < 395 by omega) (by decide))]
  split
  · exact ⟨_, rfl⟩
  · exact ⟨_, rfl⟩
theorem adv {v a n d : Nat} {μ ν : Mem} (h : R0 μb νb T nm use v a n d μ ν) (ha : a < T) : R0 μb νb T nm use v (a + 1) n d (up μ 48 4 (nI (a + 1))) (up ν 0 13 (nI (a + 1))) := by
  obtain ⟨hs, h7, h8, h9, h10, h11, h12, h13, h14, h15, h16, h17⟩ := h
  refine ⟨RS_r0 (RS_48 hs (by decide)) (by decide), by rw [up_n (by decide)]; exact h7, up_s, by rw [up_n (by decide)]; exact h9, by rw [up_n (by decide)]; exact h10, up_s, by rw [up_n (by decide)]; exact h12, by rw [up_n (by decide)]; exact h13, by omega, by omega, fun k hk => ?_, ?_⟩
  · rw [up_ne (show (49 : Nat) ≠ 48 by decide), up_ne (show (8 : Nat) ≠ 0 by decide), up_ne (show (9 : Nat) ≠ 0 by decide)]; exact h16 k hk
  · rw [up_cell (show (8 : Nat) ≠ 0 by decide)]; exact h17
theorem write_both {v a n d d1 : Nat} {w x y : Int32} {μ ν : Mem} (h : R0 μb νb T nm use v a n d μ ν) (hn : n < 60) (hna : n < a) (hw : WR w x y) (hd : dstep x d = some d1) : ∃ μ1 ν1, f_X4_write w μ = some μ1 ∧ f_X9_lays x y ν = some ν1 ∧ R0 μb νb T nm use v a (n + 1) d1 μ1 ν1 := by
  obtain ⟨hs, h7, h8, h9, h10, h11, h12, h13, h14, h15, h16, h17⟩ := h
  unfold f_X4_write f_X9_lays
  have l60 : ¬ (60 : Int32) ≤ nI n := fun e => by
    have : 60 ≤ n := (nI_leI (a := 60) (by decide) (by omega)).mp e
    omega
  rw [h9, if_neg m1_neg, h7, if_neg l60, ck_c (inb_nI hn (by decide)), wr_n, wr_n, ix_nI (show n < 2 ^ 31 by omega), h10, if_neg l60, ck_c (inb_nI hn (by decide)), wr_n, up_ne (μ := ν) (show (0 : Nat) ≠ 8 by decide), h10, ck_c (inb_nI hn (by decide)), wr_n, wr_n, ix_nI (show n < 2 ^ 31 by omega), up_ne (show (48 : Nat) ≠ 49 by decide), h7, up_ne (show (0 : Nat) ≠ 9 by decide), up_ne (show (0 : Nat) ≠ 8 by decide), h10, nI_1]
  refine ⟨_, _, rfl, rfl, RS_r0 (RS_r8 (RS_r8 (RS_48 (RS_49 hs) (by decide)) (Or.inl rfl)) (Or.inr rfl)) (by decide), up_s, ?_, ?_, up_s, ?_, ?_, ?_, by omega, h15, fun k hk => ?_, ?_⟩
  · rw [up_n (by decide), up_ne (by decide)]; exact h8
  · rw [up_n (by decide), up_ne (by decide)]; exact h9
  · rw [up_n (by decide), up_ne (by decide), up_ne (by decide)]; exact h11
  · rw [up_n (by decide), up_ne (by decide), up_ne (by decide)]; exact h12
  · rw [up_n (by decide), up_ne (by decide), up_ne (by decide)]; exact h13
  · rw [up_ne (show (49 : Nat) ≠ 48 by decide), up_ne (show (8 : Nat) ≠ 0 by decide), up_ne (show (8 : Nat) ≠ 9 by decide), up_ne (show (9 : Nat) ≠ 0 by decide)]
    by_cases c : k = n
    · rw [c, up_s, up_s, up_s]; exact hw
    · rw [up_n (fun e => c e.2), up_n (fun e => c e.2), up_n (fun e => c e.2), up_ne (show (9 : Nat) ≠ 8 by decide)]
      exact h16 k (by omega)
  · rw [up_cell (show (8 : Nat) ≠ 0 by decide), up_cell (show (8 : Nat) ≠ 9 by decide)]
    apply dep_next (d := d)
    · rw [dep_congr (b := ν 8) n (fun k hk => up_n (fun e => by omega))]; exact h17
    · rw [up_s]; exact hd
theorem lays_ok {x y : Int32} {ν : Mem} (h : ∃ n, n ≤ 60 ∧ ν 0 12 = nI n) : ∃ ν1, f_X9_lays x y ν = some ν1 ∧ sameC [0, 8, 9] ν ν1 ∧ (∀ i, i ≠ 12 → ν1 0 i = ν 0 i) ∧ ∃ n, n ≤ 60 ∧ ν1 0 12 = nI n := by
  obtain ⟨n, hn, e⟩ := h
  unfold f_X9_lays
  have l60 : (60 : Int32) ≤ nI n ↔ 60 ≤ n := nI_leI (a := 60) (by decide) (by omega)
  rw [e]
  by_cases c : 60 ≤ n
  · rw [if_pos (l60.mpr c)]
    exact ⟨ν, rfl, sameC_rf _ _, fun _ _ => rfl, n, hn, e⟩
  · rw [if_neg (fun q => c (l60.mp q)), ck_c (inb_nI (show n < 60 by omega) (by decide)), wr_n, up_ne (show (0 : Nat) ≠ 8 by decide), e, ck_c (inb_nI (show n < 60 by omega) (by decide)), wr_n, wr_n, up_ne (show (0 : Nat) ≠ 9 by decide), up_ne (show (0 : Nat) ≠ 8 by decide), e, nI_1]
    refine ⟨_, rfl, sameC_up (sameC_up (sameC_up (sameC_rf _ _) (by decide)) (by decide)) (by decide), fun i hi => ?_, n + 1, by omega, up_s⟩
    rw [up_n (fun q => hi q.2), up_ne (by decide), up_ne (by decide)]
theorem lays_RS {μ ν ν1 : Mem} (h : RS μb νb nm use μ ν) (h1 : sameC [0, 8, 9] ν ν1) (h2 : ∀ i, i ≠ 12 → ν1 0 i = ν 0 i) : RS μb νb nm use μ ν1 := by
  obtain ⟨a1, a2, a3, a4, a5, a6⟩ := h
  exact ⟨a1, sameC_tr a2 h1, fun i hi => (h2 i (by omega)).trans (a3 i hi), a4, a5, (h2 16 (by decide)).trans a6⟩
theorem write_f {f : Nat} {w x y : Int32} {μ ν : Mem} (h : R1 μb νb nm use f μ ν) : ∃ μ1 ν1, f_X4_write w μ = some μ1 ∧ f_X9_lays x y ν = some ν1 ∧ R1 μb νb nm use f μ1 ν1 := by
  obtain ⟨hs, h1, h2, h3, h4, h5⟩ := h
  obtain ⟨ν1, e1, e2, e3, e4⟩ := lays_ok (x := x) (y := y) h5
  unfold f_X4_write
  rw [h1, if_pos (nI_ge0 (by omega)), e1]
  exact ⟨_, _, rfl, rfl, lays_RS hs e2 e3, h1, h2, (e3 15 (by decide)).trans h3, (e3 13 (by decide)).trans h4, e4⟩
/-- how a part of a text ends -/
def OC (μb νb : Mem) (T nm : Nat) (use : Int32) (v a n d : Nat) (μ ν : Mem) : Prop := (∃ a1 n1, n1 + a ≤ a1 + n ∧ a < a1 ∧ R0 μb νb T nm use v a1 n1 d μ ν) ∨ ∃ f, R1 μb νb nm use f μ ν
def SPC (μb νb : Mem) (T nm : Nat) (use : Int32) (v : Nat) (C R : Mem → Option Mem) : Prop := ∀ a n d μ ν, R0 μb νb T nm use v a n d μ ν → ∃ μ1 ν1, C μ = some μ1 ∧ R ν = some ν1 ∧ OC μb νb T nm use v a n (d + 1) μ1 ν1
theorem opL_d : ∀ o, o ∈ opL → ¬ (o = 1 ∨ o = 2) ∧ ¬ o = 3 := by decide
theorem op_step {v a n d : Nat} {o : Int32} {C R : Mem → Option Mem} {μ ν : Mem} (hB : RB μb νb T nm use) (hS : SPC μb νb T nm use v C R) (ho : o ∈ opL) (h : R0 μb νb T nm use v a n (d + 1) μ ν) (ha : a < T) : ∃ μ2 ν2 μ3 ν3, C (up μ 48 4 (nI (a + 1))) = some μ2 ∧ f_X4_write (-o) μ2 = some μ3 ∧ R (up ν 0 13 (nI (a + 1))) = some ν2 ∧ f_X9_lays o 0 ν2 = some ν3 ∧ OC μb νb T nm use v a n (d + 1) μ3 ν3 := by
  have hT : T ≤ 60 := hB.1
  have hna : n ≤ a := h.2.2.2.2.2.2.2.2.1
  obtain ⟨μ2, ν2, e1, e2, e3⟩ := hS (a + 1) n (d + 1) _ _ (adv h ha)
  rcases e3 with ⟨a1, n1, k1, k2, k3⟩ | ⟨f, k⟩
  · have hT1 : a1 ≤ T := k3.2.2.2.2.2.2.2.2.2.1
    obtain ⟨μ3, ν3, w1, w2, w3⟩ := write_both (w := -o) (x := o) (y := 0) (d1 := d + 1) k3 (by omega) (by omega) (Or.inr (Or.inr (Or.inr (Or.inr (Or.inr ⟨o, ho, rfl, rfl⟩))))) (by
      unfold dstep
      rw [if_neg (opL_d o ho).1, if_neg (opL_d o ho).2, if_pos (by omega)]
      rfl)
    exact ⟨μ2, ν2, μ3, ν3, e1, w1, e2, w2, Or.inl ⟨a1, n1 + 1, by omega, by omega, w3⟩⟩
  · obtain ⟨μ3, ν3, w1, w2, w3⟩ := write_f (w := -o) (x := o) (y := 0) k
    exact ⟨μ2, ν2, μ3, ν3, e1, w1, e2, w2, Or.inr ⟨f, w3⟩⟩
/-- how a row of such parts ends -/
def OL (μb νb : Mem) (T nm : Nat) (use : Int32) (v a n d : Nat) (μ ν : Mem) : Prop := (∃ a1 n1, n1 + a ≤ a1 + n ∧ a ≤ a1 ∧ R0 μb νb T nm use v a1 n1 d μ ν) ∨ ∃ f, R1 μb νb nm use f μ ν
theorem OC_OL {v a n d a1 n1 : Nat} {μ ν : Mem} (h1 : n1 + a ≤ a1 + n) (h2 : a ≤ a1) (h : OL μb νb T nm use v a1 n1 d μ ν) : OL μb νb T nm use v a n d μ ν := by
  rcases h with ⟨a2, n2, k1, k2, k3⟩ | k
  · exact Or.inl ⟨a2, n2, by omega, by omega, k3⟩
  · exact Or.inr k
theorem OC_OC {v a n d a1 n1 : Nat} {μ ν : Mem} (h1 : n1 + a ≤ a1 + n) (h2 : a < a1) (h : OL μb νb T nm use v a1 n1 d μ ν) : OC μb νb T nm use v a n d μ ν := by
  rcases h with ⟨a2, n2, k1, k2, k3⟩ | k
  · exact Or.inl ⟨a2, n2, by omega, by omega, k3⟩
  · exact Or.inr k
theorem n60 {j : Nat} (h : j < 60) : ¬ (60 : Int32) ≤ nI j := fun e => by
  have : 60 ≤ j := (nI_leI (a := 60) (by decide) (by omega)).mp e
  omega
theorem R0_T {v a n d : Nat} {μ ν : Mem} (h : R0 μb νb T nm use v a n d μ ν) : a ≤ T := h.2.2.2.2.2.2.2.2.2.1
/-! products -/
theorem prod_exit {P : Int32 → Mem → Option Mem} {v j : Int32} {μ : Mem} (f : Nat) : f_X4_readProduct_12 P (f + 1) v (-1) j μ = some μ := by
  unfold f_X4_readProduct_12
  rw [if_neg (show ¬ (-1 : Int32) = 42 by decide), if_neg (show ¬ (-1 : Int32) = 47 by decide), if_neg (show ¬ (-1 : Int32) = 37 by decide)]
  split <;> rfl
theorem times_exit {R : Mem → Option Mem} {ν : Mem} (f : Nat) (h : ν 0 15 = 1) : f_X9_times_4 R (f + 1) ν = some ν := by
  unfold f_X9_times_4
  rw [h, if_neg (show ¬ (1 : Int32) = 0 by decide)]
theorem prod_loop {v : Nat} {P : Int32 → Mem → Option Mem} {R : Mem → Option Mem} (hB : RB μb νb T nm use) (hS : SPC μb νb T nm use v (P (nI v)) R) : ∀ f j a n d r μ ν, R0 μb νb T nm use v a n (d + 1) μ ν → f_X4_next μ = some r → j < a → 63 ≤ f + a → ∃ μ1 ν1, f_X4_readProduct_12 P f (nI v) r (nI j) μ = some μ1 ∧ f_X9_times_4 R f ν = some ν1 ∧ OL μb νb T nm use v a n (d + 1) μ1 ν1 := by
  have hT : T ≤ 60 := hB.1
  intro f
  induction f with
  | zero => intro j a n d r μ ν h hr hj hf; have := R0_T h; omega
  | succ f ih =>
    intro j a n d r μ ν h hr hj hf
    have haT := R0_T h
    obtain ⟨c, c1, c2, c3⟩ := look_both hB h
    rw [hr] at c1
    obtain rfl := Option.some.inj c1
    have h4 : μ 48 4 = nI a := h.2.2.1
    have h13 : ν 0 13 = nI a := h.2.2.2.2.2.1
    have h15 : ν 0 15 = 0 := h.2.2.2.2.2.2.1
    have step : ∀ o, o ∈ opL → r = o → ∃ μ1 ν1, f_X4_readProduct_36 P (f_X4_readProduct_12 P f) (nI v) r (nI j) μ = some μ1 ∧ f_X9_times_38 R (f_X9_times_4 R f) ν = some ν1 ∧ OL μb νb T nm use v a n (d + 1) μ1 ν1 := by
      intro o ho e
      have ha : a < T := by
        rcases c3 with q | ⟨m, -, -, q⟩
        · rw [q] at e; exact absurd ho (by rw [← e]; decide)
        · exact q
      unfold f_X4_readProduct_36 f_X9_times_38
      obtain ⟨μ2, ν2, μ3, ν3, e1, e2, e3, e4, e5⟩ := op_step hB hS ho h ha
      rw [wr_n, h4, nI_1 a, e1, bd_n, e, e2, bd_n, c2, bd_n, wr_n, h13, nI_1 a, e3, bd_n, e, e4, bd_n]
      rcases e5 with ⟨a1, n1, k1, k2, k3⟩ | ⟨g, k⟩
      · obtain ⟨c', d1, d2, d3⟩ := look_both hB k3
        rw [d1, bd_n, nI_1]
        obtain ⟨μ4, ν4, f1, f2, f3⟩ := ih (j + 1) a1 n1 d c' μ3 ν3 k3 d1 (by omega) (by omega)
        exact ⟨μ4, ν4, f1, f2, OC_OL k1 (by omega) f3⟩
      · obtain ⟨g', rfl⟩ : ∃ g', f = g' + 1 := ⟨f - 1, by omega⟩
        rw [next_f k, bd_n, prod_exit, times_exit g' k.2.2.2.1]
        exact ⟨_, _, rfl, rfl, Or.inr ⟨g, k⟩⟩
    unfold f_X4_readProduct_12 f_X9_times_4
    rw [if_neg (n60 (by omega)), h15, if_pos rfl, c2, bd_n, bd_n, bd_n]
    by_cases q1 : r = 42
    · rw [if_pos q1, if_pos q1]; exact step 42 (by decide) q1
    · rw [if_neg q1, if_neg q1]
      by_cases q2 : r = 47
      · rw [if_pos q2, if_pos q2]; exact step 47 (by decide) q2
      · rw [if_neg q2, if_neg q2]
        by_cases q3 : r = 37
        · rw [if_pos q3, if_pos q3]; exact step 37 (by decide) q3
        · rw [if_neg q3, if_neg q3]
          exact ⟨_, _, rfl, rfl, Or.inl ⟨a, n, by omega, by omega, h⟩⟩
theorem prod_spc {v : Nat} {P : Int32 → Mem → Option Mem} {R : Mem → Option Mem} (hB : RB μb νb T nm use) (hS : SPC μb νb T nm use v (P (nI v)) R) : SPC μb νb T nm use v (f_X4_readProduct P (nI v)) (f_X9_times R) := by
  intro a n d μ ν h
  obtain ⟨μ1, ν1, e1, e2, e3⟩ := hS a n d μ ν h
  unfold f_X4_readProduct f_X9_times
  rw [e1, e2, bd_n, bd_n]
  rcases e3 with ⟨a1, n1, k1, k2, k3⟩ | ⟨g, k⟩
  · obtain ⟨c, c1, c2, c3⟩ := look_both hB k3
    rw [c1, bd_n]
    obtain ⟨μ2, ν2, f1, f2, f3⟩ := prod_loop hB hS 2000 0 a1 n1 d c μ1 ν1 k3 c1 (by omega) (by omega)
    exact ⟨μ2, ν2, f1, f2, OC_OC k1 k2 f3⟩
  · rw [next_f k, bd_n]
    exact ⟨μ1, ν1, prod_exit 1999, times_exit 1999 k.2.2.2.1, Or.inr ⟨g, k⟩⟩
/-! sums -/
theorem rsum_exit {P : Int32 → Mem → Option Mem} {v j : Int32} {μ : Mem} (f : Nat) : f_X4_readSum_12 P (f + 1) v (-1) j μ = some μ := by
  unfold f_X4_readSum_12
  rw [if_neg (show ¬ (-1 : Int32) = 43 by decide), if_neg (show ¬ (-1 : Int32) = 45 by decide)]
  split <;> rfl
theorem sum_exit {R : Mem → Option Mem} {ν : Mem} (f : Nat) (h : ν 0 15 = 1) : f_X9_sum_4 R (f + 1) ν = some ν := by
  unfold f_X9_sum_4
  rw [h, if_neg (show ¬ (1 : Int32) = 0 by decide)]
theorem sum_loop {v : Nat} {P : Int32 → Mem → Option Mem} {R : Mem → Option Mem} (hB : RB μb νb T nm use) (hS : SPC μb νb T nm use v (f_X4_readProduct P (nI v)) (f_X9_times R)) : ∀ f j a n d r μ ν, R0 μb νb T nm use v a n (d + 1) μ ν → f_X4_next μ = some r → j < a → 63 ≤ f + a → ∃ μ1 ν1, f_X4_readSum_12 P f (nI v) r (nI j) μ = some μ1 ∧ f_X9_sum_4 R f ν = some ν1 ∧ OL μb νb T nm use v a n (d + 1) μ1 ν1 := by
  have hT : T ≤ 60 := hB.1
  intro f
  induction f with
  | zero => intro j a n d r μ ν h hr hj hf; have := R0_T h; omega
  | succ f ih =>
    intro j a n d r μ ν h hr hj hf
    have haT := R0_T h
    obtain ⟨c, c1, c2, c3⟩ := look_both hB h
    rw [hr] at c1
    obtain rfl := Option.some.inj c1
    have h4 : μ 48 4 = nI a := h.2.2.1
    have h13 : ν 0 13 = nI a := h.2.2.2.2.2.1
    have h15 : ν 0 15 = 0 := h.2.2.2.2.2.2.1
    have step : ∀ o, o ∈ opL → r = o → ∃ μ1 ν1, f_X4_readSum_30 P (f_X4_readSum_12 P f) (nI v) r (nI j) μ = some μ1 ∧ f_X9_sum_29 R (f_X9_sum_4 R f) ν = some ν1 ∧ OL μb νb T nm use v a n (d + 1) μ1 ν1 := by
      intro o ho e
      have ha : a < T := by
        rcases c3 with q | ⟨m, -, -, q⟩
        · rw [q] at e; exact absurd ho (by rw [← e]; decide)
        · exact q
      unfold f_X4_readSum_30 f_X9_sum_29
      obtain ⟨μ2, ν2, μ3, ν3, e1, e2, e3, e4, e5⟩ := op_step hB hS ho h ha
      rw [wr_n, h4, nI_1 a, e1, bd_n, e, e2, bd_n, c2, bd_n, wr_n, h13, nI_1 a, e3, bd_n, e, e4, bd_n]
      rcases e5 with ⟨a1, n1, k1, k2, k3⟩ | ⟨g, k⟩
      · obtain ⟨c', d1, d2, d3⟩ := look_both hB k3
        rw [d1, bd_n, nI_1]
        obtain ⟨μ4, ν4, f1, f2, f3⟩ := ih (j + 1) a1 n1 d c' μ3 ν3 k3 d1 (by omega) (by omega)
        exact ⟨μ4, ν4, f1, f2, OC_OL k1 (by omega) f3⟩
      · obtain ⟨g', rfl⟩ : ∃ g', f = g' + 1 := ⟨f - 1, by omega⟩
        rw [next_f k, bd_n, rsum_exit, sum_exit g' k.2.2.2.1]
        exact ⟨_, _, rfl, rfl, Or.inr ⟨g, k⟩⟩
    unfold f_X4_readSum_12 f_X9_sum_4
    rw [if_neg (n60 (by omega)), h15, if_pos rfl, c2, bd_n, bd_n]
    by_cases q1 : r = 43
    · rw [if_pos q1, if_pos q1]; exact step 43 (by decide) q1
    · rw [if_neg q1, if_neg q1]
      by_cases q2 : r = 45
      · rw [if_pos q2, if_pos q2]; exact step 45 (by decide) q2
      · rw [if_neg q2, if_neg q2]
        exact ⟨_, _, rfl, rfl, Or.inl ⟨a, n, by omega, by omega, h⟩⟩
theorem sum_spc {v : Nat} {P : Int32 → Mem → Option Mem} {R : Mem → Option Mem} (hB : RB μb νb T nm use) (hS : SPC μb νb T nm use v (f_X4_readProduct P (nI v)) (f_X9_times R)) : SPC μb νb T nm use v (f_X4_readSum P (nI v)) (f_X9_sum R) := by
  intro a n d μ ν h
  obtain ⟨μ1, ν1, e1, e2, e3⟩ := hS a n d μ ν h
  unfold f_X4_readSum f_X9_sum
  rw [e1, e2, bd_n, bd_n]
  rcases e3 with ⟨a1, n1, k1, k2, k3⟩ | ⟨g, k⟩
  · obtain ⟨c, c1, c2, c3⟩ := look_both hB k3
    rw [c1, bd_n]
    obtain ⟨μ2, ν2, f1, f2, f3⟩ := sum_loop hB hS 2000 0 a1 n1 d c μ1 ν1 k3 c1 (by omega) (by omega)
    exact ⟨μ2, ν2, f1, f2, OC_OC k1 k2 f3⟩
  · rw [next_f k, bd_n]
    exact ⟨μ1, ν1, rsum_exit 1999, sum_exit 1999 k.2.2.2.1, Or.inr ⟨g, k⟩⟩
/-! comparisons -/
theorem cmp_spc {v : Nat} {P : Int32 → Mem → Option Mem} {R : Mem → Option Mem} (hB : RB μb νb T nm use) (hS : SPC μb νb T nm use v (f_X4_readSum P (nI v)) (f_X9_sum R)) : SPC μb νb T nm use v (f_X4_readCompared P (nI v)) (f_X9_compares R) := by
  intro a n d μ ν h
  obtain ⟨μ1, ν1, e1, e2, e3⟩ := hS a n d μ ν h
  unfold f_X4_readCompared f_X9_compares
  rw [e1, e2, bd_n, bd_n]
  rcases e3 with ⟨a1, n1, k1, k2, k3⟩ | ⟨g, k⟩
  · obtain ⟨r, c1, c2, c3⟩ := look_both hB k3
    have h4 : μ1 48 4 = nI a1 := k3.2.2.1
    have h13 : ν1 0 13 = nI a1 := k3.2.2.2.2.2.1
    have h15 : ν1 0 15 = 0 := k3.2.2.2.2.2.2.1
    rw [c1, bd_n, c2, bd_n, h15, if_pos rfl]
    have step : ∀ o, o ∈ opL → r = o → ∃ μ2 ν2, f_X4_readCompared_28 P (nI v) r μ1 = some μ2 ∧ f_X9_compares_34 R r ν1 = some ν2 ∧ OC μb νb T nm use v a n (d + 1) μ2 ν2 := by
      intro o ho e
      have ha : a1 < T := by
        rcases c3 with q | ⟨m, -, -, q⟩
        · rw [q] at e; exact absurd ho (by rw [← e]; decide)
        · exact q
      unfold f_X4_readCompared_28 f_X9_compares_34
      obtain ⟨μ2, ν2, μ3, ν3, f1, f2, f3, f4, f5⟩ := op_step hB hS ho k3 ha
      rw [wr_n, h4, nI_1, f1, bd_n, e, f2, bd_n, wr_n, h13, nI_1, f3, bd_n, f4, bd_n]
      refine ⟨_, _, rfl, rfl, ?_⟩
      rcases f5 with ⟨a2, n2, l1, l2, l3⟩ | l
      · exact Or.inl ⟨a2, n2, by omega, by omega, l3⟩
      · exact Or.inr l
    by_cases q1 : r = 60
    · rw [if_pos q1, if_pos q1]; exact step 60 (by decide) q1
    · rw [if_neg q1, if_neg q1]
      by_cases q2 : r = 61
      · rw [if_pos q2, if_pos q2]; exact step 61 (by decide) q2
      · rw [if_neg q2, if_neg q2]
        by_cases q3 : r = 62
        · rw [if_pos q3, if_pos q3]; exact step 62 (by decide) q3
        · rw [if_neg q3, if_neg q3]
          exact ⟨_, _, rfl, rfl, Or.inl ⟨a1, n1, k1, k2, k3⟩⟩
  · obtain ⟨c, c2⟩ := look_f k
    rw [next_f k, bd_n, c2, bd_n, k.2.2.2.1, if_neg (show ¬ (1 : Int32) = 0 by decide), if_neg (show ¬ (-1 : Int32) = 60 by decide), if_neg (show ¬ (-1 : Int32) = 61 by decide), if_neg (show ¬ (-1 : Int32) = 62 by decide)]
    exact ⟨_, _, rfl, rfl, Or.inr ⟨g, k⟩⟩
/-! both, either -/
theorem both_loop {v : Nat} {P : Int32 → Mem → Option Mem} {R : Mem → Option Mem} (hB : RB μb νb T nm use) (hS : SPC μb νb T nm use v (f_X4_readCompared P (nI v)) (f_X9_compares R)) : ∀ f j a n d μ ν, R0 μb νb T nm use v a n (d + 1) μ ν → j < a → 63 ≤ f + a → ∃ μ1 ν1, f_X4_readBoth_7 P f (nI v) (nI j) μ = some μ1 ∧ f_X9_allBy_4 R f ν = some ν1 ∧ OL μb νb T nm use v a n (d + 1) μ1 ν1 := by
  have hT : T ≤ 60 := hB.1
  intro f
  induction f with
  | zero => intro j a n d μ ν h hj hf; have := R0_T h; omega
  | succ f ih =>
    intro j a n d μ ν h hj hf
    have haT := R0_T h
    obtain ⟨r, c1, c2, c3⟩ := look_both hB h
    have h4 : μ 48 4 = nI a := h.2.2.1
    have h13 : ν 0 13 = nI a := h.2.2.2.2.2.1
    have h15 : ν 0 15 = 0 := h.2.2.2.2.2.2.1
    unfold f_X4_readBoth_7 f_X9_allBy_4
    rw [if_neg (n60 (by omega)), h15, if_pos rfl, c1, c2, bd_n, bd_n]
    by_cases q1 : r = 38
    · have ha : a < T := by
        rcases c3 with q | ⟨m, -, -, q⟩
        · rw [q] at q1; exact absurd q1 (by decide)
        · exact q
      obtain ⟨μ2, ν2, μ3, ν3, e1, e2, e3, e4, e5⟩ := op_step (o := 38) hB hS (by decide) h ha
      rw [if_pos q1, if_pos q1, wr_n, h4, nI_1 a, e1, bd_n, e2, bd_n, wr_n, h13, nI_1 a, e3, bd_n, e4, bd_n, nI_1 j]
      rcases e5 with ⟨a1, n1, k1, k2, k3⟩ | ⟨g, k⟩
      · obtain ⟨μ4, ν4, f1, f2, f3⟩ := ih (j + 1) a1 n1 d μ3 ν3 k3 (by omega) (by omega)
        exact ⟨μ4, ν4, f1, f2, OC_OL k1 (by omega) f3⟩
      · obtain ⟨g', rfl⟩ : ∃ g', f = g' + 1 := ⟨f - 1, by omega⟩
        refine ⟨μ3, ν3, ?_, ?_, Or.inr ⟨g, k⟩⟩
        · unfold f_X4_readBoth_7
          rw [next_f k, bd_n, if_neg (show ¬ (-1 : Int32) = 38 by decide)]
          split <;> rfl
        · unfold f_X9_allBy_4
          rw [k.2.2.2.1, if_neg (show ¬ (1 : Int32) = 0 by decide)]
    · rw [if_neg q1, if_neg q1]
      exact ⟨_, _, rfl, rfl, Or.inl ⟨a, n, by omega, by omega, h⟩⟩
theorem both_spc {v : Nat} {P : Int32 → Mem → Option Mem} {R : Mem → Option Mem} (hB : RB μb νb T nm use) (hS : SPC μb νb T nm use v (f_X4_readCompared P (nI v)) (f_X9_compares R)) : SPC μb νb T nm use v (f_X4_readBoth P (nI v)) (f_X9_allBy R) := by
  intro a n d μ ν h
  obtain ⟨μ1, ν1, e1, e2, e3⟩ := hS a n d μ ν h
  unfold f_X4_readBoth f_X9_allBy
  rw [e1, e2, bd_n, bd_n]
  rcases e3 with ⟨a1, n1, k1, k2, k3⟩ | ⟨g, k⟩
  · obtain ⟨μ2, ν2, f1, f2, f3⟩ := both_loop hB hS 2000 0 a1 n1 d μ1 ν1 k3 (by omega) (by omega)
    exact ⟨μ2, ν2, f1, f2, OC_OC k1 k2 f3⟩
  · have x1 : ∀ f, f_X4_readBoth_7 P (f + 1) (nI v) 0 μ1 = some μ1 := fun f => by
      unfold f_X4_readBoth_7
      rw [next_f k, bd_n, if_neg (show ¬ (-1 : Int32) = 38 by decide)]
      split <;> rfl
    have x2 : ∀ f, f_X9_allBy_4 R (f + 1) ν1 = some ν1 := fun f => by
      unfold f_X9_allBy_4
      rw [k.2.2.2.1, if_neg (show ¬ (1 : Int32) = 0 by decide)]
    exact ⟨μ1, ν1, x1 1999, x2 1999, Or.inr ⟨g, k⟩⟩
theorem any_loop {v : Nat} {P : Int32 → Mem → Option Mem} {R : Mem → Option Mem} (hB : RB μb νb T nm use) (hS : SPC μb νb T nm use v (f_X4_readBoth P (nI v)) (f_X9_allBy R)) : ∀ f j a n d μ ν, R0 μb νb T nm use v a n (d + 1) μ ν → j < a → 63 ≤ f + a → ∃ μ1 ν1, f_X4_readEither_7 P f (nI v) (nI j) μ = some μ1 ∧ f_X9_any_4 R f ν = some ν1 ∧ OL μb νb T nm use v a n (d + 1) μ1 ν1 := by
  have hT : T ≤ 60 := hB.1
  intro f
  induction f with
  | zero => intro j a n d μ ν h hj hf; have := R0_T h; omega
  | succ f ih =>
    intro j a n d μ ν h hj hf
    have haT := R0_T h
    obtain ⟨r, c1, c2, c3⟩ := look_both hB h
    have h4 : μ 48 4 = nI a := h.2.2.1
    have h13 : ν 0 13 = nI a := h.2.2.2.2.2.1
    have h15 : ν 0 15 = 0 := h.2.2.2.2.2.2.1
    unfold f_X4_readEither_7 f_X9_any_4
    rw [if_neg (n60 (by omega)), h15, if_pos rfl, c1, c2, bd_n, bd_n]
    by_cases q1 : r = 124
    · have ha : a < T := by
        rcases c3 with q | ⟨m, -, -, q⟩
        · rw [q] at q1; exact absurd q1 (by decide)
        · exact q
      obtain ⟨μ2, ν2, μ3, ν3, e1, e2, e3, e4, e5⟩ := op_step (o := 124) hB hS (by decide) h ha
      rw [if_pos q1, if_pos q1, wr_n, h4, nI_1 a, e1, bd_n, e2, bd_n, wr_n, h13, nI_1 a, e3, bd_n, e4, bd_n, nI_1 j]
      rcases e5 with ⟨a1, n1, k1, k2, k3⟩ | ⟨g, k⟩
      · obtain ⟨μ4, ν4, f1, f2, f3⟩ := ih (j + 1) a1 n1 d μ3 ν3 k3 (by omega) (by omega)
        exact ⟨μ4, ν4, f1, f2, OC_OL k1 (by omega) f3⟩
      · obtain ⟨g', rfl⟩ : ∃ g', f = g' + 1 := ⟨f - 1, by omega⟩
        refine ⟨μ3, ν3, ?_, ?_, Or.inr ⟨g, k⟩⟩
        · unfold f_X4_readEither_7
          rw [next_f k, bd_n, if_neg (show ¬ (-1 : Int32) = 124 by decide)]
          split <;> rfl
        · unfold f_X9_any_4
          rw [k.2.2.2.1, if_neg (show ¬ (1 : Int32) = 0 by decide)]
    · rw [if_neg q1, if_neg q1]
      exact ⟨_, _, rfl, rfl, Or.inl ⟨a, n, by omega, by omega, h⟩⟩
theorem any_spc {v : Nat} {P : Int32 → Mem → Option Mem} {R : Mem → Option Mem} (hB : RB μb νb T nm use) (hS0 : SPC μb νb T nm use v (P (nI v)) R) : SPC μb νb T nm use v (f_X4_readEither P (nI v)) (f_X9_any R) := by
  have hS := both_spc hB (cmp_spc hB (sum_spc hB (prod_spc hB hS0)))
  intro a n d μ ν h
  obtain ⟨μ1, ν1, e1, e2, e3⟩ := hS a n d μ ν h
  unfold f_X4_readEither f_X9_any
  rw [e1, e2, bd_n, bd_n]
  rcases e3 with ⟨a1, n1, k1, k2, k3⟩ | ⟨g, k⟩
  · obtain ⟨μ2, ν2, f1, f2, f3⟩ := any_loop hB hS 2000 0 a1 n1 d μ1 ν1 k3 (by omega) (by omega)
    exact ⟨μ2, ν2, f1, f2, OC_OC k1 k2 f3⟩
  · have x1 : ∀ f, f_X4_readEither_7 P (f + 1) (nI v) 0 μ1 = some μ1 := fun f => by
      unfold f_X4_readEither_7
      rw [next_f k, bd_n, if_neg (show ¬ (-1 : Int32) = 124 by decide)]
      split <;> rfl
    have x2 : ∀ f, f_X9_any_4 R (f + 1) ν1 = some ν1 := fun f => by
      unfold f_X9_any_4
      rw [k.2.2.2.1, if_neg (show ¬ (1 : Int32) = 0 by decide)]
    exact ⟨μ1, ν1, x1 1999, x2 1999, Or.inr ⟨g, k⟩⟩
end RD
