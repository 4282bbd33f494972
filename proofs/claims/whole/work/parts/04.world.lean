/-! THE WORLD: all cells of one side (b: the class's, else the reference's), at addresses D.1 0, D.1 1, ..; what stands in them is told by a memory μ; and a judgement G over it -/
abbrev DT : Type := (Nat → Nat) × (Nat → ClassId) × (Nat → Nat → Nat) × (Nat → ClassId)
abbrev tysD (D : DT) : List (ClassId × FieldType) := [(D.2.2.2 0, .int), (D.2.2.2 1, .byte), (D.2.2.2 2, .object RX5)]
abbrev gD (D : DT) : va_G := (D.2.1, D.2.2.1)
/-- a field's value -/
def fv (D : DT) (b : Bool) (μ : Mem) (i c k : Nat) : Value := if tf c k = 0 then .int (μ i k) else if tf c k = 1 then .ref (D.1 (sr b i k)) else .ref (D.1 (μ i k).toNatClampNeg)
def ent (D : DT) (b : Bool) (μ : Mem) (i : Nat) : va_E :=
  if kd b i < 10 then .inr (kd b i, (List.range (nf (kd b i))).map (fv D b μ i (kd b i)))
  else if kd b i = 10 then .inl (D.2.2.2 0, ln b i, .inl (μ i))
  else if kd b i = 11 then .inl (D.2.2.2 1, ln b i, .inl (μ i))
  else .inl (D.2.2.2 2, ln b i, .inr (.inr (.inr (.inr (fun j => some (D.1 (sr b i j)))))))
def cellsD (D : DT) (b : Bool) (μ : Mem) : va_W := (List.range (cnt b)).map (fun i => (D.1 i, ent D b μ i))
def AI (D : DT) (b : Bool) : Nat → Prop := fun a => ∃ i, i < cnt b ∧ a = D.1 i
def inB (x : Int32) : Prop := fits .byte (.int x) = true
def Wd (D : DT) (b : Bool) (μ : Mem) (H : Heap) : Prop := va_P (gD D) vwCl (cellsD D b μ) H ∧ va_D (AI D b) (cellsD D b μ) ∧ ∀ i j, kd b i = 11 → inB (μ i j)
theorem kd_lt {b : Bool} {i k : Nat} (h : kd b i = k) (hk : k < 20) : i < cnt b := by
  rcases Nat.lt_or_ge i (cnt b) with q | q
  · exact q
  · exfalso
    have h2 : kd b i = 99 := by
      unfold kd
      cases b
      · exact (by rw [List.getD_eq_getElem?_getD, List.getElem?_eq_none (show kdL_r.length ≤ i from q)]; rfl : kdL_r.getD i 99 = 99)
      · exact (by rw [List.getD_eq_getElem?_getD, List.getElem?_eq_none (show kdL_c.length ≤ i from q)]; rfl : kdL_c.getD i 99 = 99)
    omega
theorem cellsD_at {D : DT} {b : Bool} {μ : Mem} {i : Nat} (h : i < cnt b) : (cellsD D b μ)[i]? = some (D.1 i, ent D b μ i) := by
  unfold cellsD
  rw [List.getElem?_map, List.getElem?_range h]
  rfl
theorem up_s {μ : Mem} {i j : Nat} {v : Int32} : up μ i j v i j = v := by simp [up]
theorem up_n {μ : Mem} {i j a c : Nat} {v : Int32} (h : ¬ (a = i ∧ c = j)) : up μ i j v a c = μ a c := by simp [up, h]
theorem ent_up {D : DT} {b : Bool} {μ : Mem} {i j a : Nat} {v : Int32} (h : a ≠ i) : ent D b (up μ i j v) a = ent D b μ a := by
  have h1 : (up μ i j v) a = μ a := by funext c; exact up_n (fun q => h q.1)
  have h2 : fv D b (up μ i j v) a (kd b a) = fv D b μ a (kd b a) := by funext c; simp only [fv, h1]
  simp only [ent, h1, h2]
theorem cellsD_set {D : DT} {b : Bool} {μ μ2 : Mem} {i : Nat} {e : va_E} (h : i < cnt b) (he : ent D b μ2 i = e) (ho : ∀ a, a ≠ i → ent D b μ2 a = ent D b μ a) : (cellsD D b μ).set i (D.1 i, e) = cellsD D b μ2 := by
  apply List.ext_getElem?
  intro k
  unfold cellsD
  rw [List.getElem?_set, List.getElem?_map, List.getElem?_map]
  by_cases hk : i = k
  · subst hk
    rw [if_pos rfl, List.length_map, List.length_range, if_pos h, List.getElem?_range h]
    simp [he]
  · rw [if_neg hk]
    by_cases hl : k < cnt b
    · rw [List.getElem?_range hl]
      simp [ho k (fun q => hk q.symm)]
    · rw [List.getElem?_eq_none (by simpa using Nat.not_lt.mp hl)]
      rfl
theorem flds_set {D : DT} {b : Bool} {μ : Mem} {i c k N : Nat} {v : Int32} (hk : k < N) (w : Value) (hw : fv D b (up μ i k v) i c k = w) : ((List.range N).map (fv D b μ i c)).set k w = (List.range N).map (fv D b (up μ i k v) i c) := by
  apply List.ext_getElem?
  intro n
  rw [List.getElem?_set, List.getElem?_map, List.getElem?_map]
  by_cases hn : k = n
  · subst hn
    rw [if_pos rfl, List.length_map, List.length_range, if_pos hk, List.getElem?_range hk, Option.map_some, hw]
  · rw [if_neg hn]
    by_cases hl : n < N
    · rw [List.getElem?_range hl, Option.map_some, Option.map_some]
      have h1 : (up μ i k v) i n = μ i n := up_n (fun q => hn q.2.symm)
      unfold fv
      rw [h1]
    · rw [List.getElem?_eq_none (by simpa using Nat.not_lt.mp hl), Option.map_none, Option.map_none]
/-! what is fixed: statics and texts that nobody writes -/
def KA : List Int32 := [-1, 0, 0, 0, 1, 2, 0]
def BO : List Int32 := [10, 11, 12, 13, 20, 0, 0, 21, 0, 30, 0, 0, 0, 0, 40, 0, 50, 0, 51, 0, 0, 60, 0, 0, 70, 71, 0, 0]
def sLen : List Nat := [3, 3, 0]
def sByt : List (List Int32) := [[119, 104, 103], [103, 102, 100], []]
def EnvD (D : DT) (A : Nat → Prop) (s : State) : Prop :=
  va_Z "GateMinds" "KIND_ABOVE" "[I" (.ref (D.1 100)) A s s.heap ∧ va_T .int (D.1 100) 7 (fun j => .int (KA.getD j 0)) A s s.heap ∧
  va_Z "GateMinds$Speech" "BODIES" "[I" (.ref (D.1 101)) A s s.heap ∧ va_T .int (D.1 101) 28 (fun j => .int (BO.getD j 0)) A s s.heap ∧
  va_Z "java/lang/String" "COMPACT_STRINGS" "Z" (.int 1) A s s.heap ∧
  vk_S 3 sLen sByt (fun i => D.1 (110 + i)) (fun i => D.1 (120 + i)) A s s.heap ∧
  vk_R RX0 11 "whg" (D.1 110) s ∧ vk_R RX0 22 "gfd" (D.1 111) s ∧ vk_R RX4 22 "" (D.1 112) s ∧ ∀ w ∈ nestL, va_Nw w s
/-- a contract's start -/
def Sg (D : DT) (b : Bool) (μ : Mem) (U : State) : Prop := Wd D b μ U.heap ∧ va_K (gD D) vwCl (tysD D) U ∧ (b = true → EnvD D (AI D true) U)
def Qr (D : DT) (b : Bool) (v : Option Value) (μ' : Mem) : Array Value → State → Outcome → State → Prop := fun _ st o t => o = .returned v ∧ Wd D b μ' t.heap ∧ va_F (AI D b) st t
def rmD (d : Nat) : Room := { frames := d, cells := 0, slots := 0, locals := 40 * d }
/-! words -/
def BIG : List Cond := lw_tbl.filter goodWord
def wsA (y : MethodName) (cc : ByteArray) (nL : Nat) (ret : Option FieldType) : List Cond := .code y cc nL ret :: BIG
theorem bigAt {w : Cond} (i : Nat) (h : lw_tbl[i]? = some w) (hg : goodWord w = true) : w ∈ BIG := List.mem_filter.mpr ⟨List.mem_of_getElem? h, hg⟩
theorem big_good {w : Cond} (h : w ∈ BIG) : (w.onTables && w.keeps) = true ∨ ∃ ty, w = .arrayClass ty := good_of_word (List.mem_filter.mp h).2
theorem goodA {y y2 : MethodName} {cc cc2 : ByteArray} {nL nL2 : Nat} {ret ret2 : Option FieldType} (h : Cond.code y2 cc2 nL2 ret2 ∈ BIG) : GoodIn (wsA y cc nL ret) (wsA y2 cc2 nL2 ret2) := by
  intro w hw
  have hb : w ∈ BIG := by
    rcases List.mem_cons.mp hw with rfl | q
    · exact h
    · exact q
  exact ⟨List.mem_cons_of_mem _ hb, big_good hb⟩
theorem goodL {y2 : MethodName} {cc2 : ByteArray} {nL2 : Nat} {ret2 : Option FieldType} (h : Cond.code y2 cc2 nL2 ret2 ∈ BIG) : GoodIn lw_tbl (wsA y2 cc2 nL2 ret2) := by
  intro w hw
  have hb : w ∈ BIG := by
    rcases List.mem_cons.mp hw with rfl | q
    · exact h
    · exact q
  exact ⟨(List.mem_filter.mp hb).1, big_good hb⟩
/-! locals by places -/
def toA : Nat → List (Option Value) → List (Nat × Value)
  | _, [] => []
  | i, some v :: l => (i, v) :: toA (i + 1) l
  | i, none :: l => toA (i + 1) l
theorem toA_mem {l : List (Option Value)} : ∀ {i k : Nat} {v : Value}, (k, v) ∈ toA i l ↔ ∃ j, k = i + j ∧ l[j]? = some (some v) := by
  induction l with
  | nil => intro i k v; simp [toA]
  | cons a l ih =>
    intro i k v
    cases a with
    | none =>
      simp only [toA, ih]
      constructor
      · rintro ⟨j, rfl, h⟩
        exact ⟨j + 1, by omega, by simpa using h⟩
      · rintro ⟨j, rfl, h⟩
        cases j with
        | zero => simp at h
        | succ j => exact ⟨j, by omega, by simpa using h⟩
    | some a =>
      simp only [toA, List.mem_cons, Prod.mk.injEq, ih]
      constructor
      · rintro (⟨rfl, rfl⟩ | ⟨j, rfl, h⟩)
        · exact ⟨0, rfl, by simp⟩
        · exact ⟨j + 1, by omega, by simpa using h⟩
      · rintro ⟨j, rfl, h⟩
        cases j with
        | zero => left; simp at h; exact ⟨rfl, h.symm⟩
        | succ j => right; exact ⟨j, by omega, by simpa using h⟩
def lvP (ls : Array Slot) (nL : Nat) (l : List (Option Value)) : Prop := lv_has ls nL (toA 0 l)
theorem lvP_at {ls : Array Slot} {nL i : Nat} {l : List (Option Value)} {v : Value} (h : lvP ls nL l) (hi : l[i]? = some (some v)) : ls[i]? = some (.val v) := h.2.2 (i, v) (toA_mem.mpr ⟨i, by omega, hi⟩)
/-- the place ahead of i holds no wide value -/
def okP (l : List (Option Value)) (i : Nat) : Bool := match i with
  | 0 => true
  | j + 1 => match l[j]? with
    | some (some v) => v.category == 1
    | _ => true
theorem lvP_of {ls : Array Slot} {nL : Nat} {lv : List (Nat × Value)} {l : List (Option Value)} (h : lv_has ls nL lv) (hs : ∀ q ∈ toA 0 l, q ∈ lv) : lvP ls nL l := ⟨h.1, h.2.1, fun q hq => h.2.2 q (hs q hq)⟩
theorem set_sub {l : List (Option Value)} {i : Nat} {v : Value} (hp : okP l i = true) : ∀ q ∈ toA 0 (l.set i (some v)), q ∈ (i, v) :: (toA 0 l).filter (fun q => !(q.1 == i) && !(q.1 + 1 == i && q.2.category == 2)) := by
  rintro ⟨k, w⟩ hq
  obtain ⟨j, rfl, hj⟩ := toA_mem.mp hq
  rw [Nat.zero_add]
  rw [List.getElem?_set] at hj
  by_cases hij : i = j
  · subst hij
    rw [if_pos rfl] at hj
    split at hj
    · cases hj; exact List.mem_cons_self
    · cases hj
  · rw [if_neg hij] at hj
    refine List.mem_cons_of_mem _ (List.mem_filter.mpr ⟨toA_mem.mpr ⟨j, by omega, hj⟩, ?_⟩)
    have h1 : (j == i) = false := by simpa using fun q => hij q.symm
    simp only [h1, Bool.not_false, Bool.true_and]
    by_cases h2 : j + 1 = i
    · subst h2
      simp only [okP, hj] at hp
      have : (w.category == 2) = false := by
        have h3 := eq_of_beq hp
        rw [h3]; rfl
      simp [this]
    · have : (j + 1 == i) = false := by simpa using h2
      simp [this]
theorem lvP_set {ls : Array Slot} {nL i : Nat} {l l' : List (Option Value)} {v : Value} (h : lv_has ls nL ((i, v) :: (toA 0 l).filter (fun q => !(q.1 == i) && !(q.1 + 1 == i && q.2.category == 2)))) (hp : okP l i = true) (hl : l.set i (some v) = l') : lvP ls nL l' := by
  subst hl
  exact lvP_of h (set_sub hp)
def entL : List Value → List (Option Value)
  | [] => []
  | v :: vs => if v.category = 2 then some v :: none :: entL vs else some v :: entL vs
theorem entL_sub : ∀ (vs : List Value) (i : Nat), toA i (entL vs) = lv_args i vs
  | [], i => rfl
  | v :: vs, i => by
    unfold entL lv_args
    by_cases h : v.category = 2
    · rw [if_pos h, if_pos h]
      simp only [toA]
      rw [entL_sub vs (i + 1 + 1)]
    · rw [if_neg h, if_neg h]
      simp only [toA]
      rw [entL_sub vs (i + 1)]
theorem toA_app (l : List (Option Value)) (n : Nat) : ∀ i, toA i (l ++ List.replicate n none) = toA i l := by
  induction l with
  | nil =>
    intro i
    induction n generalizing i with
    | zero => rfl
    | succ n ih =>
      show toA i (none :: ([] ++ List.replicate n none)) = _
      simp only [toA]
      rw [ih]
      rfl
  | cons a l ih =>
    intro i
    cases a with
    | none => simp only [List.cons_append, toA, ih]
    | some a => simp only [List.cons_append, toA, ih]
/-! the judgement -/
abbrev XT : Type := Program × Env × Room × State × MethodId × Array Value × List Frame × Method × Code
def Cx (l : Launch) (D : DT) (b : Bool) (X : XT) (d : Nat) (own : String) (cc : ByteArray) (nL : Nat) (ret : Option FieldType) : Prop := match X with
  | (p, _, R, s, m, args, _, meth, c) => p.tables.exec = Jvm.exec ∧ c.code = cc ∧ c.maxLocals = nL ∧ s.vm.findClass own = some m.cls ∧ (∀ w ∈ BIG, w.before args s = true) ∧ meth.sig.returnType = ret ∧ meth.locks = false ∧ R = rmD d ∧ va_K (gD D) vwCl (tysD D) s ∧ (b = true → EnvD D (AI D true) s)
def G (l : Launch) (D : DT) (b : Bool) (X : XT) (nL : Nat) (v : Option Value) (μ' : Mem) (pc : Nat) (lc : List (Option Value)) (st : List Value) (μ : Mem) : Prop := match X with
  | (p, e, R, s, m, args, below, meth, c) => ∀ (H : Heap) (locs : List Loc) (ls : Array Slot), Wd D b μ H → va_S (AI D b) s.heap H locs → lvP ls nL lc → W p l e R s m args below meth c H locs 0 0 (MQ below (Qr D b v μ') args s 0 0 (AI D b)) (F0 m pc ls st)
def Ct (l : Launch) (D : DT) (b : Bool) (d : Nat) (y : MethodName) (cc : ByteArray) (nL : Nat) (ret : Option FieldType) (as : List Value) (μ : Mem) (v : Option Value) (μ' : Mem) : Prop :=
  Met l y (wsA y cc nL ret) (rmD d) (va_Pc as (Sg D b μ)) (Qr D b v μ') 0 0 (AI D b)
