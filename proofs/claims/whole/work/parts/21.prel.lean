/-! THE RELATION of the two sides' memories -/
/-- people, gates, stock and grass -/
def MR (o : Nat) (μ : Mem) (r : Nat → Int32) : Prop :=
  (μ o 10 = r 2 ∧ μ o 11 = r 3 ∧ μ o 12 = r 4 ∧ μ o 13 = r 0 ∧ μ o 14 = r 5) ∧
  (∀ p, p < 6 → μ (o + 1) p = r (15 + 2 * p) ∧ μ (o + 2) p = r (15 + 2 * p + 1)) ∧
  (∀ g, g < 9 → μ (o + 3) g = r (27 + 4 * g) ∧ μ (o + 4) g = r (27 + 4 * g + 1) ∧ μ (o + 5) g = r (27 + 4 * g + 2) ∧ μ (o + 6) g = r (27 + 4 * g + 3)) ∧
  (∀ b, b < 6 → μ (o + 7) b = r (63 + b)) ∧ (∀ f, f < 7 → μ (o + 8) f = r (8 + f))
/-- what such a state keeps to -/
def WM (r : Nat → Int32) : Prop :=
  (∃ np, np ≤ 6 ∧ r 2 = nI np) ∧ (∃ ng, ng ≤ 9 ∧ r 3 = nI ng) ∧ (∃ nb, nb ≤ 6 ∧ r 4 = nI nb) ∧ rg (r 5) 10000 ∧
  (∀ p, p < 6 → rg (r (15 + 2 * p)) 7) ∧
  (∀ g, g < 9 → rg (r (27 + 4 * g)) 7 ∧ rg (r (27 + 4 * g + 1)) 7 ∧ -1 ≤ (r (27 + 4 * g + 3)).toInt) ∧
  (∀ b, b < 6 → rg (r (63 + b)) 7) ∧ (∀ f, f < 7 → rg (r (8 + f)) 100)
def opL : List Int32 := [37, 38, 42, 43, 45, 47, 60, 61, 62, 124]
/-- a word of a text and the reference's step -/
def WR (w a v : Int32) : Prop :=
  (0 ≤ w.toInt ∧ a = 1 ∧ v = w) ∨ (w = -1 ∧ a = 2 ∧ v = 0) ∨ (w = -2 ∧ a = 2 ∧ v = 1) ∨ (w = -3 ∧ a = 2 ∧ v = 2) ∨ (w = -33 ∧ a = 3) ∨ (∃ c, c ∈ opL ∧ w = -c ∧ a = c)
/-- how high the pile stands behind k steps -/
def dep (a : Nat → Int32) : Nat → Option Nat
  | 0 => some 0
  | k + 1 => match dep a k with
    | none => none
    | some d => if a k = 1 ∨ a k = 2 then some (d + 1) else if a k = 3 then (if 1 ≤ d then some d else none) else (if 2 ≤ d then some (d - 1) else none)
def LR (o : Nat) (μ : Mem) (r : Nat → Int32) (c : Nat) : Prop :=
  ∃ n, n ≤ 60 ∧ μ o 4 = nI n ∧ r c = nI n ∧ (∀ k, k < n → WR (μ (o + 1) k) (r (c + 1 + k)) (r (c + 61 + k))) ∧ (n = 0 ∨ ∃ d, 1 ≤ d ∧ dep (fun k => r (c + 1 + k)) n = some d)
def TPR (o : Nat) (μ : Mem) (r : Nat → Int32) : Prop :=
  (∃ n, n ≤ 60 ∧ μ (o + 16) 1 = nI n ∧ r 6 = nI n) ∧ ∀ k, k < 60 → μ (o + 17) k &&& 255 = r (69 + k)
def WTR (o : Nat) (μ : Mem) (r : Nat → Int32) : Prop :=
  μ o 6 = r 1 ∧ (∃ n, n ≤ 24 ∧ μ o 5 = nI n ∧ r 7 = nI n) ∧ ∀ k, k < 24 → μ (o + 18) k = r (129 + k)
def KR (o : Nat) (μ : Mem) (r : Nat → Int32) : Prop := MR (o + 7) μ r ∧ WM r ∧ TPR o μ r ∧ WTR o μ r ∧ LR (o + 1) μ r 153 ∧ LR (o + 4) μ r 274
def SHR (μ ν : Mem) : Prop := ∀ s, s < 4 → μ (58 + 2 * s) 1 = ν 5 s ∧ (ν 5 s = 0 ∨ ν 5 s = 8 ∨ ν 5 s = 16 ∨ ν 5 s = 32) ∧ (∃ n, n ≤ 24 ∧ μ (58 + 2 * s) 2 = nI n ∧ ν 6 s = nI n) ∧ ∀ k, k < 24 → μ (58 + 2 * s + 1) k = ν 7 (24 * s + k)
def TRR (μ ν : Mem) : Prop := ∃ n, n ≤ 30 ∧ μ 55 1 = nI n ∧ ν 0 21 = nI n ∧ ∀ k, k < n → μ 56 k = ν 15 k
def Sim (μ ν : Mem) : Prop :=
  KR 1 μ (ν 1) ∧ (μ 0 8 = ν 0 3 ∧ (μ 0 8 = 0 ∨ KR 20 μ (ν 2))) ∧ (∀ k, k < 7 → μ 66 k = ν 4 k) ∧ SHR μ ν ∧ TRR μ ν ∧ (μ 2 1 = 19 ∧ μ 5 1 = 99)
/-! cells that stay -/
def sameC (L : List Nat) (μ μ1 : Mem) : Prop := ∀ i, i ∉ L → μ1 i = μ i
theorem sameC_rf (L : List Nat) (μ : Mem) : sameC L μ μ := fun _ _ => rfl
theorem up_cell {μ : Mem} {i j a : Nat} {v : Int32} (h : a ≠ i) : (up μ i j v) a = μ a := by funext c; exact up_n (fun q => h q.1)
theorem sameC_up {L : List Nat} {μ μ1 : Mem} {i j : Nat} {v : Int32} (h : sameC L μ μ1) (hi : i ∈ L) : sameC L μ (up μ1 i j v) := fun a ha => by
  rw [up_cell (fun q : a = i => ha (by rw [q]; exact hi))]
  exact h a ha
theorem sameC_tr {L : List Nat} {μ μ1 μ2 : Mem} (h : sameC L μ μ1) (h2 : sameC L μ1 μ2) : sameC L μ μ2 := fun a ha => (h2 a ha).trans (h a ha)
theorem sameC_mono {L L2 : List Nat} {μ μ1 : Mem} (h : sameC L μ μ1) (hs : ∀ i ∈ L, i ∈ L2) : sameC L2 μ μ1 := fun a ha => h a (fun q => ha (hs a q))
theorem MR_same {o : Nat} {μ μ1 : Mem} {r : Nat → Int32} (h : MR o μ r) (hs : ∀ i, i < 9 → μ1 (o + i) = μ (o + i)) : MR o μ1 r := by
  have h0 := hs 0 (by omega); have h1 := hs 1 (by omega); have h2 := hs 2 (by omega); have h3 := hs 3 (by omega); have h4 := hs 4 (by omega); have h5 := hs 5 (by omega); have h6 := hs 6 (by omega); have h7 := hs 7 (by omega); have h8 := hs 8 (by omega)
  rw [Nat.add_zero] at h0
  unfold MR at *
  rw [h0, h1, h2, h3, h4, h5, h6, h7, h8]
  exact h
theorem LR_same {o : Nat} {μ μ1 : Mem} {r : Nat → Int32} {c : Nat} (h : LR o μ r c) (h0 : μ1 o 4 = μ o 4) (h1 : μ1 (o + 1) = μ (o + 1)) : LR o μ1 r c := by
  unfold LR at *
  rw [h0, h1]
  exact h
/-- a kept state stands where its cells stand -/
theorem KR_same {o : Nat} {μ μ1 : Mem} {r : Nat → Int32} (h : KR o μ r) (hs : ∀ i, i < 19 → i ≠ 3 → i ≠ 6 → μ1 (o + i) = μ (o + i)) : KR o μ1 r := by
  obtain ⟨h1, h2, h3, h4, h5, h6⟩ := h
  refine ⟨MR_same h1 (fun i hi => by have := hs (7 + i) (by omega) (by omega) (by omega); rw [show o + 7 + i = o + (7 + i) by omega]; exact this), h2, ?_, ?_, LR_same h5 (by rw [hs 1 (by omega) (by omega) (by omega)]) ?_, LR_same h6 (by rw [hs 4 (by omega) (by omega) (by omega)]) ?_⟩
  · unfold TPR at *
    rw [hs 16 (by omega) (by omega) (by omega), hs 17 (by omega) (by omega) (by omega)]
    exact h3
  · unfold WTR at *
    have h0 := hs 0 (by omega) (by omega) (by omega)
    rw [Nat.add_zero] at h0
    rw [h0, hs 18 (by omega) (by omega) (by omega)]
    exact h4
  · have := hs 2 (by omega) (by omega) (by omega); rw [show o + 1 + 1 = o + 2 by omega]; exact this
  · have := hs 5 (by omega) (by omega) (by omega); rw [show o + 4 + 1 = o + 5 by omega]; exact this
theorem KR20_same {L : List Nat} {μ μ1 : Mem} {r : Nat → Int32} (h : KR 20 μ r) (hs : sameC L μ μ1) (hL : ∀ i, i < 19 → 20 + i ∉ L ∨ i = 3 ∨ i = 6) : KR 20 μ1 r := KR_same h (fun i hi h3 h6 => hs _ ((hL i hi).elim id (fun q => by omega)))
theorem KR1_same {L : List Nat} {μ μ1 : Mem} {r : Nat → Int32} (h : KR 1 μ r) (hs : sameC L μ μ1) (hL : ∀ i, i < 19 → 1 + i ∉ L ∨ i = 3 ∨ i = 6) : KR 1 μ1 r := KR_same h (fun i hi h3 h6 => hs _ ((hL i hi).elim id (fun q => by omega)))
theorem SHR_same {μ μ1 ν ν1 : Mem} (h : SHR μ ν) (hs : ∀ i, 58 ≤ i → i < 66 → μ1 i = μ i) (h5 : ν1 5 = ν 5) (h6 : ν1 6 = ν 6) (h7 : ν1 7 = ν 7) : SHR μ1 ν1 := by
  intro s hs4
  rw [hs (58 + 2 * s) (by omega) (by omega), hs (58 + 2 * s + 1) (by omega) (by omega), h5, h6, h7]
  exact h s hs4
theorem TRR_same {μ μ1 ν ν1 : Mem} (h : TRR μ ν) (h1 : μ1 55 1 = μ 55 1) (h2 : μ1 56 = μ 56) (h3 : ν1 0 21 = ν 0 21) (h4 : ν1 15 = ν 15) : TRR μ1 ν1 := by
  unfold TRR at *
  rw [h1, h2, h3, h4]
  exact h
/-- cells of what is now, and of what is only worked with -/
abbrev LCn : List Nat := [1, 2, 3, 4, 5, 6, 7, 8, 9, 10, 11, 12, 13, 14, 15, 16, 17, 18, 19, 39, 40, 41, 42, 43, 44, 45, 46, 47, 48, 49, 50, 51, 53, 54]
abbrev LRn : List Nat := [0, 1, 3, 8, 9, 10, 11, 12, 13, 14]
theorem Sim_now {μ ν μ1 ν1 : Mem} (h : Sim μ ν) (hK : KR 1 μ1 (ν1 1)) (hC : sameC LCn μ μ1) (hR : sameC LRn ν ν1) (h03 : ν1 0 3 = ν 0 3) (h021 : ν1 0 21 = ν 0 21) (hm1 : μ1 2 1 = μ 2 1) (hm2 : μ1 5 1 = μ 5 1) : Sim μ1 ν1 := by
  obtain ⟨-, h2, h3, h4, h5, h6⟩ := h
  refine ⟨hK, ⟨?_, ?_⟩, ?_, SHR_same h4 (fun i a b => hC i (by simp only [LCn, List.mem_cons, List.not_mem_nil, or_false]; omega)) (hR 5 (by decide)) (hR 6 (by decide)) (hR 7 (by decide)), TRR_same h5 (by rw [hC 55 (by decide)]) (hC 56 (by decide)) h021 (hR 15 (by decide)), ?_⟩
  · rw [hC 0 (by decide), h03]; exact h2.1
  · rw [hC 0 (by decide), hR 2 (by decide)]
    exact h2.2.imp id (fun q => KR20_same q hC (by decide))
  · rw [hC 66 (by decide), hR 4 (by decide)]; exact h3
  · rw [hm1, hm2]; exact h6
/-- an act that answers an error -/
theorem Sim_err {μ ν : Mem} (h : Sim μ ν) {k : Nat} (hk : k < 7) : Sim (up μ 66 k (μ 66 k + 1)) (up ν 4 k (ν 4 k + 1)) := by
  obtain ⟨h1, h2, h3, h4, h5, h6⟩ := h
  have hC : sameC [66] μ (up μ 66 k (μ 66 k + 1)) := sameC_up (sameC_rf _ _) (by decide)
  have hR : sameC [4] ν (up ν 4 k (ν 4 k + 1)) := sameC_up (sameC_rf _ _) (by decide)
  refine ⟨by rw [hR 1 (by decide)]; exact KR1_same h1 hC (by decide), ⟨?_, ?_⟩, ?_, SHR_same h4 (fun i a b => hC i (by simp only [List.mem_cons, List.not_mem_nil, or_false]; omega)) (hR 5 (by decide)) (hR 6 (by decide)) (hR 7 (by decide)), TRR_same h5 (by rw [hC 55 (by decide)]) (hC 56 (by decide)) (by rw [hR 0 (by decide)]) (hR 15 (by decide)), ?_⟩
  · rw [hC 0 (by decide), hR 0 (by decide)]; exact h2.1
  · rw [hC 0 (by decide), hR 2 (by decide)]
    exact h2.2.imp id (fun q => KR20_same q hC (by decide))
  · intro j hj
    by_cases e : j = k
    · subst e; rw [up_s, up_s, h3 j hj]
    · rw [up_n (fun q => e q.2), up_n (fun q => e q.2)]; exact h3 j hj
  · rw [hC 2 (by decide), hC 5 (by decide)]; exact h6
/-- both sides' error of one kind -/
theorem err_both {μ ν : Mem} (h : Sim μ ν) {k : Nat} {e : Int32} (hk : k < 7) (he : -1000000000 - e = nI k) (he2 : -1000000000 - nI k = e) : ∃ (r : Int32) (μ1 ν1 : Mem), f_X8_fail (nI k) μ = some (r, μ1) ∧ f_X9_error e ν = some (r, ν1) ∧ Sim μ1 ν1 :=
  ⟨e, _, _, by rw [fail_at hk, he2], error_at he hk, Sim_err h hk⟩
