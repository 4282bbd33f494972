/-! single changes on both sides -/
def upr (r : Nat → Int32) (k : Nat) (v : Int32) : Nat → Int32 := fun i => if i = k then v else r i
theorem up_row {ν : Mem} {i k : Nat} {v : Int32} : up ν i k v i = upr (ν i) k v := by
  funext j
  simp [up, upr]
theorem LR_row {o : Nat} {μ : Mem} {r r' : Nat → Int32} {c : Nat} (h : LR o μ r c) (hr : ∀ i, c ≤ i → i < c + 121 → r' i = r i) : LR o μ r' c := by
  obtain ⟨n, hn, h1, h2, h3, h4⟩ := h
  refine ⟨n, hn, h1, by rw [hr c (by omega) (by omega)]; exact h2, fun k hk => by rw [hr _ (by omega) (by omega), hr _ (by omega) (by omega)]; exact h3 k hk, h4.imp id (fun ⟨d, h5, h6⟩ => ⟨d, h5, ?_⟩)⟩
  rw [← h6]
  have : ∀ m, m ≤ n → dep (fun k => r' (c + 1 + k)) m = dep (fun k => r (c + 1 + k)) m := by
    intro m
    induction m with
    | zero => intro _; rfl
    | succ m ih =>
      intro hm
      simp only [dep, ih (by omega), hr (c + 1 + m) (by omega) (by omega)]
  exact this n (Nat.le_refl n)
theorem KR_set {μ : Mem} {r : Nat → Int32} {i j k : Nat} {v : Int32} (h : KR 1 μ r) (hM : MR 8 (up μ i j v) (upr r k v)) (hW : WM (upr r k v)) (hi : 8 ≤ i ∧ i ≤ 16) (hk : k < 69 ∧ k ≠ 1 ∧ k ≠ 6 ∧ k ≠ 7) : KR 1 (up μ i j v) (upr r k v) := by
  obtain ⟨-, -, ⟨t1, t2⟩, ⟨w1, w2, w3⟩, l1, l2⟩ := h
  refine ⟨hM, hW, ⟨?_, fun q hq => ?_⟩, ⟨?_, ?_, fun q hq => ?_⟩, LR_row (LR_same l1 ?_ ?_) (fun q a b => ?_), LR_row (LR_same l2 ?_ ?_) (fun q a b => ?_)⟩
  · obtain ⟨n, a, b, c⟩ := t1; exact ⟨n, a, by rw [up_ne (by omega)]; exact b, by simp only [upr]; rw [if_neg (by omega)]; exact c⟩
  · have := t2 q hq; rw [up_ne (by omega)]; simp only [upr]; rw [if_neg (by omega)]; exact this
  · rw [up_ne (by omega)]; simp only [upr]; rw [if_neg (by omega)]; exact w1
  · obtain ⟨n, a, b, c⟩ := w2; exact ⟨n, a, by rw [up_ne (by omega)]; exact b, by simp only [upr]; rw [if_neg (by omega)]; exact c⟩
  · have := w3 q hq; rw [up_ne (by omega)]; simp only [upr]; rw [if_neg (by omega)]; exact this
  · rw [up_ne (by omega)]
  · rw [up_cell (by omega)]
  · simp only [upr]; rw [if_neg (by omega)]
  · rw [up_ne (by omega)]
  · rw [up_cell (by omega)]
  · simp only [upr]; rw [if_neg (by omega)]
theorem MR_people {o : Nat} {μ : Mem} {r : Nat → Int32} {v : Int32} (h : MR o μ r) : MR o (up μ o 10 v) (upr r 2 v) := by
  obtain ⟨⟨a1, a2, a3, a4, a5⟩, b, c, d, e⟩ := h
  refine ⟨⟨?_, ?_, ?_, ?_, ?_⟩, fun p' hp' => ?_, fun g' hg' => ?_, fun z' hz' => ?_, fun f' hf' => ?_⟩ <;> grind [up, upr]
theorem WM_people {r : Nat → Int32} {v : Int32} {n : Nat} (hn : n ≤ 6) (hv : v = nI n) (h : WM r) : WM (upr r 2 v) := by
  obtain ⟨⟨np, a1, a2⟩, ⟨ng, b1, b2⟩, ⟨nb, c1, c2⟩, d, e, f1, f2, f3⟩ := h
  refine ⟨⟨n, ?_, ?_⟩, ⟨ng, ?_, ?_⟩, ⟨nb, ?_, ?_⟩, ?_, fun p' hp' => ?_, fun g' hg' => ?_, fun z' hz' => ?_, fun f' hf' => ?_⟩ <;> grind [upr]
theorem KR_people {μ : Mem} {r : Nat → Int32} {v : Int32} {n : Nat} (hn : n ≤ 6) (hv : v = nI n) (h : KR 1 μ r) : KR 1 (up μ 8 10 v) (upr r 2 v) := KR_set h (MR_people h.1) (WM_people hn hv h.2.1) (by omega) (by omega)
theorem MR_gates {o : Nat} {μ : Mem} {r : Nat → Int32} {v : Int32} (h : MR o μ r) : MR o (up μ o 11 v) (upr r 3 v) := by
  obtain ⟨⟨a1, a2, a3, a4, a5⟩, b, c, d, e⟩ := h
  refine ⟨⟨?_, ?_, ?_, ?_, ?_⟩, fun p' hp' => ?_, fun g' hg' => ?_, fun z' hz' => ?_, fun f' hf' => ?_⟩ <;> grind [up, upr]
theorem WM_gates {r : Nat → Int32} {v : Int32} {n : Nat} (hn : n ≤ 9) (hv : v = nI n) (h : WM r) : WM (upr r 3 v) := by
  obtain ⟨⟨np, a1, a2⟩, ⟨ng, b1, b2⟩, ⟨nb, c1, c2⟩, d, e, f1, f2, f3⟩ := h
  refine ⟨⟨np, ?_, ?_⟩, ⟨n, ?_, ?_⟩, ⟨nb, ?_, ?_⟩, ?_, fun p' hp' => ?_, fun g' hg' => ?_, fun z' hz' => ?_, fun f' hf' => ?_⟩ <;> grind [upr]
theorem KR_gates {μ : Mem} {r : Nat → Int32} {v : Int32} {n : Nat} (hn : n ≤ 9) (hv : v = nI n) (h : KR 1 μ r) : KR 1 (up μ 8 11 v) (upr r 3 v) := KR_set h (MR_gates h.1) (WM_gates hn hv h.2.1) (by omega) (by omega)
theorem MR_beasts {o : Nat} {μ : Mem} {r : Nat → Int32} {v : Int32} (h : MR o μ r) : MR o (up μ o 12 v) (upr r 4 v) := by
  obtain ⟨⟨a1, a2, a3, a4, a5⟩, b, c, d, e⟩ := h
  refine ⟨⟨?_, ?_, ?_, ?_, ?_⟩, fun p' hp' => ?_, fun g' hg' => ?_, fun z' hz' => ?_, fun f' hf' => ?_⟩ <;> grind [up, upr]
theorem WM_beasts {r : Nat → Int32} {v : Int32} {n : Nat} (hn : n ≤ 6) (hv : v = nI n) (h : WM r) : WM (upr r 4 v) := by
  obtain ⟨⟨np, a1, a2⟩, ⟨ng, b1, b2⟩, ⟨nb, c1, c2⟩, d, e, f1, f2, f3⟩ := h
  refine ⟨⟨np, ?_, ?_⟩, ⟨ng, ?_, ?_⟩, ⟨n, ?_, ?_⟩, ?_, fun p' hp' => ?_, fun g' hg' => ?_, fun z' hz' => ?_, fun f' hf' => ?_⟩ <;> grind [upr]
theorem KR_beasts {μ : Mem} {r : Nat → Int32} {v : Int32} {n : Nat} (hn : n ≤ 6) (hv : v = nI n) (h : KR 1 μ r) : KR 1 (up μ 8 12 v) (upr r 4 v) := KR_set h (MR_beasts h.1) (WM_beasts hn hv h.2.1) (by omega) (by omega)
theorem MR_hour {o : Nat} {μ : Mem} {r : Nat → Int32} {v : Int32} (h : MR o μ r) : MR o (up μ o 13 v) (upr r 0 v) := by
  obtain ⟨⟨a1, a2, a3, a4, a5⟩, b, c, d, e⟩ := h
  refine ⟨⟨?_, ?_, ?_, ?_, ?_⟩, fun p' hp' => ?_, fun g' hg' => ?_, fun z' hz' => ?_, fun f' hf' => ?_⟩ <;> grind [up, upr]
theorem WM_hour {r : Nat → Int32} {v : Int32} (h : WM r) : WM (upr r 0 v) := by
  obtain ⟨⟨np, a1, a2⟩, ⟨ng, b1, b2⟩, ⟨nb, c1, c2⟩, d, e, f1, f2, f3⟩ := h
  refine ⟨⟨np, ?_, ?_⟩, ⟨ng, ?_, ?_⟩, ⟨nb, ?_, ?_⟩, ?_, fun p' hp' => ?_, fun g' hg' => ?_, fun z' hz' => ?_, fun f' hf' => ?_⟩ <;> grind [upr]
theorem KR_hour {μ : Mem} {r : Nat → Int32} {v : Int32} (h : KR 1 μ r) : KR 1 (up μ 8 13 v) (upr r 0 v) := KR_set h (MR_hour h.1) (WM_hour h.2.1) (by omega) (by omega)
theorem MR_strays {o : Nat} {μ : Mem} {r : Nat → Int32} {v : Int32} (h : MR o μ r) : MR o (up μ o 14 v) (upr r 5 v) := by
  obtain ⟨⟨a1, a2, a3, a4, a5⟩, b, c, d, e⟩ := h
  refine ⟨⟨?_, ?_, ?_, ?_, ?_⟩, fun p' hp' => ?_, fun g' hg' => ?_, fun z' hz' => ?_, fun f' hf' => ?_⟩ <;> grind [up, upr]
theorem WM_strays {r : Nat → Int32} {v : Int32} (hv : rg v 10000) (h : WM r) : WM (upr r 5 v) := by
  obtain ⟨⟨np, a1, a2⟩, ⟨ng, b1, b2⟩, ⟨nb, c1, c2⟩, d, e, f1, f2, f3⟩ := h
  refine ⟨⟨np, ?_, ?_⟩, ⟨ng, ?_, ?_⟩, ⟨nb, ?_, ?_⟩, ?_, fun p' hp' => ?_, fun g' hg' => ?_, fun z' hz' => ?_, fun f' hf' => ?_⟩ <;> grind [upr]
theorem KR_strays {μ : Mem} {r : Nat → Int32} {v : Int32} (hv : rg v 10000) (h : KR 1 μ r) : KR 1 (up μ 8 14 v) (upr r 5 v) := KR_set h (MR_strays h.1) (WM_strays hv h.2.1) (by omega) (by omega)
theorem MR_kind {o : Nat} {μ : Mem} {r : Nat → Int32} {v : Int32} {p : Nat} (hp : p < 6) (h : MR o μ r) : MR o (up μ (o + 1) p v) (upr r (15 + 2 * p) v) := by
  obtain ⟨⟨a1, a2, a3, a4, a5⟩, b, c, d, e⟩ := h
  refine ⟨⟨?_, ?_, ?_, ?_, ?_⟩, fun p' hp' => ?_, fun g' hg' => ?_, fun z' hz' => ?_, fun f' hf' => ?_⟩ <;> grind [up, upr]
theorem WM_kind {r : Nat → Int32} {v : Int32} {p : Nat} (hp : p < 6) (hv : rg v 7) (h : WM r) : WM (upr r (15 + 2 * p) v) := by
  obtain ⟨⟨np, a1, a2⟩, ⟨ng, b1, b2⟩, ⟨nb, c1, c2⟩, d, e, f1, f2, f3⟩ := h
  refine ⟨⟨np, ?_, ?_⟩, ⟨ng, ?_, ?_⟩, ⟨nb, ?_, ?_⟩, ?_, fun p' hp' => ?_, fun g' hg' => ?_, fun z' hz' => ?_, fun f' hf' => ?_⟩ <;> grind [upr]
theorem KR_kind {μ : Mem} {r : Nat → Int32} {v : Int32} {p : Nat} (hp : p < 6) (hv : rg v 7) (h : KR 1 μ r) : KR 1 (up μ 9 p v) (upr r (15 + 2 * p) v) := KR_set h (MR_kind hp h.1) (WM_kind hp hv h.2.1) (by omega) (by omega)
theorem MR_number {o : Nat} {μ : Mem} {r : Nat → Int32} {v : Int32} {p : Nat} (hp : p < 6) (h : MR o μ r) : MR o (up μ (o + 2) p v) (upr r (15 + 2 * p + 1) v) := by
  obtain ⟨⟨a1, a2, a3, a4, a5⟩, b, c, d, e⟩ := h
  refine ⟨⟨?_, ?_, ?_, ?_, ?_⟩, fun p' hp' => ?_, fun g' hg' => ?_, fun z' hz' => ?_, fun f' hf' => ?_⟩ <;> grind [up, upr]
theorem WM_number {r : Nat → Int32} {v : Int32} {p : Nat} (hp : p < 6) (h : WM r) : WM (upr r (15 + 2 * p + 1) v) := by
  obtain ⟨⟨np, a1, a2⟩, ⟨ng, b1, b2⟩, ⟨nb, c1, c2⟩, d, e, f1, f2, f3⟩ := h
  refine ⟨⟨np, ?_, ?_⟩, ⟨ng, ?_, ?_⟩, ⟨nb, ?_, ?_⟩, ?_, fun p' hp' => ?_, fun g' hg' => ?_, fun z' hz' => ?_, fun f' hf' => ?_⟩ <;> grind [upr]
theorem KR_number {μ : Mem} {r : Nat → Int32} {v : Int32} {p : Nat} (hp : p < 6) (h : KR 1 μ r) : KR 1 (up μ 10 p v) (upr r (15 + 2 * p + 1) v) := KR_set h (MR_number hp h.1) (WM_number hp h.2.1) (by omega) (by omega)
theorem MR_one {o : Nat} {μ : Mem} {r : Nat → Int32} {v : Int32} {g : Nat} (hg : g < 9) (h : MR o μ r) : MR o (up μ (o + 3) g v) (upr r (27 + 4 * g) v) := by
  obtain ⟨⟨a1, a2, a3, a4, a5⟩, b, c, d, e⟩ := h
  refine ⟨⟨?_, ?_, ?_, ?_, ?_⟩, fun p' hp' => ?_, fun g' hg' => ?_, fun z' hz' => ?_, fun f' hf' => ?_⟩ <;> grind [up, upr]
theorem WM_one {r : Nat → Int32} {v : Int32} {g : Nat} (hg : g < 9) (hv : rg v 7) (h : WM r) : WM (upr r (27 + 4 * g) v) := by
  obtain ⟨⟨np, a1, a2⟩, ⟨ng, b1, b2⟩, ⟨nb, c1, c2⟩, d, e, f1, f2, f3⟩ := h
  refine ⟨⟨np, ?_, ?_⟩, ⟨ng, ?_, ?_⟩, ⟨nb, ?_, ?_⟩, ?_, fun p' hp' => ?_, fun g' hg' => ?_, fun z' hz' => ?_, fun f' hf' => ?_⟩ <;> grind [upr]
theorem KR_one {μ : Mem} {r : Nat → Int32} {v : Int32} {g : Nat} (hg : g < 9) (hv : rg v 7) (h : KR 1 μ r) : KR 1 (up μ 11 g v) (upr r (27 + 4 * g) v) := KR_set h (MR_one hg h.1) (WM_one hg hv h.2.1) (by omega) (by omega)
theorem MR_other {o : Nat} {μ : Mem} {r : Nat → Int32} {v : Int32} {g : Nat} (hg : g < 9) (h : MR o μ r) : MR o (up μ (o + 4) g v) (upr r (27 + 4 * g + 1) v) := by
  obtain ⟨⟨a1, a2, a3, a4, a5⟩, b, c, d, e⟩ := h
  refine ⟨⟨?_, ?_, ?_, ?_, ?_⟩, fun p' hp' => ?_, fun g' hg' => ?_, fun z' hz' => ?_, fun f' hf' => ?_⟩ <;> grind [up, upr]
theorem WM_other {r : Nat → Int32} {v : Int32} {g : Nat} (hg : g < 9) (hv : rg v 7) (h : WM r) : WM (upr r (27 + 4 * g + 1) v) := by
  obtain ⟨⟨np, a1, a2⟩, ⟨ng, b1, b2⟩, ⟨nb, c1, c2⟩, d, e, f1, f2, f3⟩ := h
  refine ⟨⟨np, ?_, ?_⟩, ⟨ng, ?_, ?_⟩, ⟨nb, ?_, ?_⟩, ?_, fun p' hp' => ?_, fun g' hg' => ?_, fun z' hz' => ?_, fun f' hf' => ?_⟩ <;> grind [upr]
theorem KR_other {μ : Mem} {r : Nat → Int32} {v : Int32} {g : Nat} (hg : g < 9) (hv : rg v 7) (h : KR 1 μ r) : KR 1 (up μ 12 g v) (upr r (27 + 4 * g + 1) v) := KR_set h (MR_other hg h.1) (WM_other hg hv h.2.1) (by omega) (by omega)
theorem MR_heavy {o : Nat} {μ : Mem} {r : Nat → Int32} {v : Int32} {g : Nat} (hg : g < 9) (h : MR o μ r) : MR o (up μ (o + 5) g v) (upr r (27 + 4 * g + 2) v) := by
  obtain ⟨⟨a1, a2, a3, a4, a5⟩, b, c, d, e⟩ := h
  refine ⟨⟨?_, ?_, ?_, ?_, ?_⟩, fun p' hp' => ?_, fun g' hg' => ?_, fun z' hz' => ?_, fun f' hf' => ?_⟩ <;> grind [up, upr]
theorem WM_heavy {r : Nat → Int32} {v : Int32} {g : Nat} (hg : g < 9) (h : WM r) : WM (upr r (27 + 4 * g + 2) v) := by
  obtain ⟨⟨np, a1, a2⟩, ⟨ng, b1, b2⟩, ⟨nb, c1, c2⟩, d, e, f1, f2, f3⟩ := h
  refine ⟨⟨np, ?_, ?_⟩, ⟨ng, ?_, ?_⟩, ⟨nb, ?_, ?_⟩, ?_, fun p' hp' => ?_, fun g' hg' => ?_, fun z' hz' => ?_, fun f' hf' => ?_⟩ <;> grind [upr]
theorem KR_heavy {μ : Mem} {r : Nat → Int32} {v : Int32} {g : Nat} (hg : g < 9) (h : KR 1 μ r) : KR 1 (up μ 13 g v) (upr r (27 + 4 * g + 2) v) := KR_set h (MR_heavy hg h.1) (WM_heavy hg h.2.1) (by omega) (by omega)
theorem MR_holder {o : Nat} {μ : Mem} {r : Nat → Int32} {v : Int32} {g : Nat} (hg : g < 9) (h : MR o μ r) : MR o (up μ (o + 6) g v) (upr r (27 + 4 * g + 3) v) := by
  obtain ⟨⟨a1, a2, a3, a4, a5⟩, b, c, d, e⟩ := h
  refine ⟨⟨?_, ?_, ?_, ?_, ?_⟩, fun p' hp' => ?_, fun g' hg' => ?_, fun z' hz' => ?_, fun f' hf' => ?_⟩ <;> grind [up, upr]
theorem WM_holder {r : Nat → Int32} {v : Int32} {g : Nat} (hg : g < 9) (hv : -1 ≤ v.toInt) (h : WM r) : WM (upr r (27 + 4 * g + 3) v) := by
  obtain ⟨⟨np, a1, a2⟩, ⟨ng, b1, b2⟩, ⟨nb, c1, c2⟩, d, e, f1, f2, f3⟩ := h
  refine ⟨⟨np, ?_, ?_⟩, ⟨ng, ?_, ?_⟩, ⟨nb, ?_, ?_⟩, ?_, fun p' hp' => ?_, fun g' hg' => ?_, fun z' hz' => ?_, fun f' hf' => ?_⟩ <;> grind [upr]
theorem KR_holder {μ : Mem} {r : Nat → Int32} {v : Int32} {g : Nat} (hg : g < 9) (hv : -1 ≤ v.toInt) (h : KR 1 μ r) : KR 1 (up μ 14 g v) (upr r (27 + 4 * g + 3) v) := KR_set h (MR_holder hg h.1) (WM_holder hg hv h.2.1) (by omega) (by omega)
theorem MR_at {o : Nat} {μ : Mem} {r : Nat → Int32} {v : Int32} {z : Nat} (hz : z < 6) (h : MR o μ r) : MR o (up μ (o + 7) z v) (upr r (63 + z) v) := by
  obtain ⟨⟨a1, a2, a3, a4, a5⟩, b, c, d, e⟩ := h
  refine ⟨⟨?_, ?_, ?_, ?_, ?_⟩, fun p' hp' => ?_, fun g' hg' => ?_, fun z' hz' => ?_, fun f' hf' => ?_⟩ <;> grind [up, upr]
theorem WM_at {r : Nat → Int32} {v : Int32} {z : Nat} (hz : z < 6) (hv : rg v 7) (h : WM r) : WM (upr r (63 + z) v) := by
  obtain ⟨⟨np, a1, a2⟩, ⟨ng, b1, b2⟩, ⟨nb, c1, c2⟩, d, e, f1, f2, f3⟩ := h
  refine ⟨⟨np, ?_, ?_⟩, ⟨ng, ?_, ?_⟩, ⟨nb, ?_, ?_⟩, ?_, fun p' hp' => ?_, fun g' hg' => ?_, fun z' hz' => ?_, fun f' hf' => ?_⟩ <;> grind [upr]
theorem KR_at {μ : Mem} {r : Nat → Int32} {v : Int32} {z : Nat} (hz : z < 6) (hv : rg v 7) (h : KR 1 μ r) : KR 1 (up μ 15 z v) (upr r (63 + z) v) := KR_set h (MR_at hz h.1) (WM_at hz hv h.2.1) (by omega) (by omega)
theorem MR_grass {o : Nat} {μ : Mem} {r : Nat → Int32} {v : Int32} {f : Nat} (hf : f < 7) (h : MR o μ r) : MR o (up μ (o + 8) f v) (upr r (8 + f) v) := by
  obtain ⟨⟨a1, a2, a3, a4, a5⟩, b, c, d, e⟩ := h
  refine ⟨⟨?_, ?_, ?_, ?_, ?_⟩, fun p' hp' => ?_, fun g' hg' => ?_, fun z' hz' => ?_, fun f' hf' => ?_⟩ <;> grind [up, upr]
theorem WM_grass {r : Nat → Int32} {v : Int32} {f : Nat} (hf : f < 7) (hv : rg v 100) (h : WM r) : WM (upr r (8 + f) v) := by
  obtain ⟨⟨np, a1, a2⟩, ⟨ng, b1, b2⟩, ⟨nb, c1, c2⟩, d, e, f1, f2, f3⟩ := h
  refine ⟨⟨np, ?_, ?_⟩, ⟨ng, ?_, ?_⟩, ⟨nb, ?_, ?_⟩, ?_, fun p' hp' => ?_, fun g' hg' => ?_, fun z' hz' => ?_, fun f' hf' => ?_⟩ <;> grind [upr]
theorem KR_grass {μ : Mem} {r : Nat → Int32} {v : Int32} {f : Nat} (hf : f < 7) (hv : rg v 100) (h : KR 1 μ r) : KR 1 (up μ 16 f v) (upr r (8 + f) v) := KR_set h (MR_grass hf h.1) (WM_grass hf hv h.2.1) (by omega) (by omega)
