/-! CONSTRUCTORS: the first N cells are there, at base, base + 1, ..; a reference that isn't set yet is null (0 in the memory) -/
def fvC (D : DT) (b : Bool) (μ : Mem) (i c k : Nat) : Value := if tf c k = 0 then .int (μ i k) else if μ i k = 0 then .null else if tf c k = 1 then .ref (D.1 (sr b i k)) else .ref (D.1 (μ i k).toNatClampNeg)
def entC (D : DT) (b : Bool) (μ : Mem) (i : Nat) : va_E :=
  if kd b i < 10 then .inr (kd b i, (List.range (nf (kd b i))).map (fvC D b μ i (kd b i)))
  else if kd b i = 10 then .inl (D.2.2.2 0, ln b i, .inl (μ i))
  else if kd b i = 11 then .inl (D.2.2.2 1, ln b i, .inl (μ i))
  else .inl (D.2.2.2 2, ln b i, .inr (.inr (.inr (.inr (fun j => if μ i j = 0 then none else some (D.1 (sr b i j)))))))
def cellsC (D : DT) (b : Bool) (N : Nat) (μ : Mem) : va_W := (List.range N).map (fun i => (D.1 i, entC D b μ i))
def WdC (D : DT) (b : Bool) (base N : Nat) (μ : Mem) (H : Heap) : Prop := va_P (gD D) vwCl (cellsC D b N μ) H ∧ H.size = base + N ∧ ∀ i, N ≤ i → ∀ j, μ i j = 0
def rmC (d mc ms : Nat) : Room := { frames := d, cells := mc, slots := ms, locals := 40 * d }
def QrC (D : DT) (b : Bool) (base N' : Nat) (μ' : Mem) : Array Value → State → Outcome → State → Prop := fun _ st o t => o = .returned none ∧ WdC D b base N' μ' t.heap ∧ va_F (fun q => base ≤ q) st t
def SgC (D : DT) (b : Bool) (base N : Nat) (μ : Mem) (U : State) : Prop := WdC D b base N μ U.heap ∧ va_K (gD D) vwCl (tysD D) U ∧ (b = true → EnvD D (fun q => base ≤ q) U) ∧ (b = true → va_AO RX5 U)
def CtC (l : Launch) (D : DT) (b : Bool) (base d mc ms : Nat) (y : MethodName) (cc : ByteArray) (nL : Nat) (as : List Value) (N : Nat) (μ : Mem) (N' : Nat) (μ' : Mem) : Prop :=
  Met l y (wsA y cc nL none) (rmC d mc ms) (va_Pc as (SgC D b base N μ)) (QrC D b base N' μ') mc ms (fun q => base ≤ q)
def CxC (l : Launch) (D : DT) (b : Bool) (base : Nat) (X : XT) (d mc ms : Nat) (own : String) (cc : ByteArray) (nL : Nat) (ret : Option FieldType) : Prop := match X with
  | (p, _, R, s, m, args, _, meth, c) => p.tables.exec = Jvm.exec ∧ c.code = cc ∧ c.maxLocals = nL ∧ s.vm.findClass own = some m.cls ∧ (∀ w ∈ BIG, w.before args s = true) ∧ meth.sig.returnType = ret ∧ meth.locks = false ∧ R = rmC d mc ms ∧ va_K (gD D) vwCl (tysD D) s ∧ (b = true → EnvD D (fun q => base ≤ q) s) ∧ (b = true → va_AO RX5 s) ∧ meth.name = "<init>" ∧ ∀ i, i < 100 → D.1 i = base + i
def GC (l : Launch) (D : DT) (b : Bool) (base : Nat) (X : XT) (nL : Nat) (Q : State → Prop) (pc : Nat) (lc : List (Option Value)) (st : List Value) (N : Nat) (μ : Mem) (cells slots : Nat) : Prop := match X with
  | (p, e, R, s, m, args, below, meth, c) => ∀ (H : Heap) (locs : List Loc) (ls : Array Slot), WdC D b base N μ H → va_S (fun q => base ≤ q) s.heap H locs → lvP ls nL lc → W p l e R s m args below meth c H locs cells slots Q (F0 m pc ls st)
def QC (D : DT) (b : Bool) (base : Nat) (X : XT) (N' : Nat) (μ' : Mem) (mc ms : Nat) : State → Prop := match X with
  | (_, _, _, s, _, args, below, _, _) => MQ below (QrC D b base N' μ') args s mc ms (fun q => base ≤ q)
theorem cellsC_at {D : DT} {b : Bool} {μ : Mem} {i N : Nat} (h : i < N) : (cellsC D b N μ)[i]? = some (D.1 i, entC D b μ i) := by
  unfold cellsC
  rw [List.getElem?_map, List.getElem?_range h]
  rfl
theorem cellsC_D {D : DT} {b : Bool} {μ : Mem} {N base : Nat} (hD : ∀ i, i < 100 → D.1 i = base + i) (hN : N ≤ 100) : va_D (fun q => base ≤ q) (cellsC D b N μ) := by
  have h1 : ∀ (i : Nat) (p : Nat × va_E), (cellsC D b N μ)[i]? = some p → i < N ∧ p.1 = base + i := by
    intro i p h
    have hi : i < N := by
      rcases Nat.lt_or_ge i N with q | q
      · exact q
      · rw [List.getElem?_eq_none (by simpa [cellsC] using q)] at h
        cases h
    rw [cellsC_at hi] at h
    cases h
    exact ⟨hi, hD i (by omega)⟩
  refine ⟨fun i j p q hp hq e => ?_, fun k q hk => ?_⟩
  · have a1 := (h1 i p hp).2; have a2 := (h1 j q hq).2; omega
  · have a1 := (h1 k q hk).2
    show base ≤ q.1
    omega
theorem entC_up {D : DT} {b : Bool} {μ : Mem} {i j a : Nat} {v : Int32} (h : a ≠ i) : entC D b (up μ i j v) a = entC D b μ a := by
  have h1 : (up μ i j v) a = μ a := by funext c; exact up_n (fun q => h q.1)
  have h2 : fvC D b (up μ i j v) a (kd b a) = fvC D b μ a (kd b a) := by funext c; simp only [fvC, h1]
  simp only [entC, h1, h2]
theorem cellsC_set {D : DT} {b : Bool} {μ μ2 : Mem} {i N : Nat} {e : va_E} (h : i < N) (he : entC D b μ2 i = e) (ho : ∀ a, a ≠ i → entC D b μ2 a = entC D b μ a) : (cellsC D b N μ).set i (D.1 i, e) = cellsC D b N μ2 := by
  apply List.ext_getElem?
  intro k
  unfold cellsC
  rw [List.getElem?_set, List.getElem?_map, List.getElem?_map]
  by_cases hk : i = k
  · subst hk
    rw [if_pos rfl, List.length_map, List.length_range, if_pos h, List.getElem?_range h]
    simp [he]
  · rw [if_neg hk]
    by_cases hl : k < N
    · rw [List.getElem?_range hl]
      simp [ho k (fun q => hk q.symm)]
    · rw [List.getElem?_eq_none (by simpa using Nat.not_lt.mp hl)]
      rfl
theorem fldsC_set {D : DT} {b : Bool} {μ : Mem} {i c k N : Nat} {v : Int32} (hk : k < N) (w : Value) (hw : fvC D b (up μ i k v) i c k = w) : ((List.range N).map (fvC D b μ i c)).set k w = (List.range N).map (fvC D b (up μ i k v) i c) := by
  apply List.ext_getElem?
  intro n
  rw [List.getElem?_set, List.getElem?_map, List.getElem?_map]
  by_cases hn : k = n
  · subst hn
    rw [if_pos rfl, List.length_map, List.length_range, if_pos hk, List.getElem?_range hk, Option.map_some, hw]
  · rw [if_neg hn]
    by_cases hl : n < N
    · rw [List.getElem?_range hl, Option.map_some, Option.map_some]
      have h1 : (up μ i k v) i n = μ i n := up_n (fun q => hn q.2.symm)
      unfold fvC
      rw [h1]
    · rw [List.getElem?_eq_none (by simpa using Nat.not_lt.mp hl), Option.map_none, Option.map_none]
theorem entC_obj {D : DT} {b : Bool} {μ : Mem} {i ci : Nat} (hi : kd b i = ci) (hc : ci < 10) : entC D b μ i = .inr (ci, (List.range (nf ci)).map (fvC D b μ i ci)) := by
  subst hi
  unfold entC
  rw [if_pos hc]
theorem cellsC_add {D : DT} {b : Bool} {μ : Mem} {N : Nat} {e : va_E} (he : entC D b μ N = e) : cellsC D b N μ ++ [(D.1 N, e)] = cellsC D b (N + 1) μ := by
  unfold cellsC
  rw [List.range_succ, List.map_append, List.map_singleton, he]
theorem WdC_size_up {D : DT} {b : Bool} {base N : Nat} {μ : Mem} {H H1 : Heap} {o j : Nat} {x : Int32} (hW : WdC D b base N μ H) (ho : o < N) (hP : va_P (gD D) vwCl (cellsC D b N (up μ o j x)) H1) (hz : H1.size = H.size) : WdC D b base N (up μ o j x) H1 :=
  ⟨hP, hz.trans hW.2.1, fun i hi k => by rw [up_n (fun q => by omega)]; exact hW.2.2 i hi k⟩

section GR
variable {l : Launch} {D : DT} {b : Bool} {X : XT} {d : Nat} {own : String} {cc : ByteArray} {nL : Nat} {ret : Option FieldType} {v : Option Value} {μ μ' : Mem} {pc : Nat} {lc lc' : List (Option Value)} {st : List Value} {base N cells slots mc ms : Nat} {Q : State → Prop}

theorem gc_iconst {n : Int} {x : Int32} (hX : CxC l D b base X d mc ms own cc nL ret) (hd : decode cc pc = .ok (.iconst n, 1)) (hv : Int32.ofInt n = x) (k : GC l D b base X nL Q (pc + 1) lc (.int x :: st) N μ cells slots) : GC l D b base X nL Q pc lc st N μ cells slots := by
  obtain ⟨p, e, R, s, m, args, below, meth, c⟩ := X
  exact fun H locs ls hW hS hl => lv_iconst hX.1 hX.2.1 hd hv (k H locs ls hW hS hl)
theorem gc_bipush {n : Int} {x : Int32} (hX : CxC l D b base X d mc ms own cc nL ret) (hd : decode cc pc = .ok (.bipush n, 2)) (hv : (Int8.ofInt n).toInt32 = x) (k : GC l D b base X nL Q (pc + 2) lc (.int x :: st) N μ cells slots) : GC l D b base X nL Q pc lc st N μ cells slots := by
  obtain ⟨p, e, R, s, m, args, below, meth, c⟩ := X
  exact fun H locs ls hW hS hl => lv_bipush hX.1 hX.2.1 hd hv (k H locs ls hW hS hl)
theorem gc_sipush {n : Int} {x : Int32} (hX : CxC l D b base X d mc ms own cc nL ret) (hd : decode cc pc = .ok (.sipush n, 3)) (hv : (Int16.ofInt n).toInt32 = x) (k : GC l D b base X nL Q (pc + 3) lc (.int x :: st) N μ cells slots) : GC l D b base X nL Q pc lc st N μ cells slots := by
  obtain ⟨p, e, R, s, m, args, below, meth, c⟩ := X
  exact fun H locs ls hW hS hl => lv_sipush hX.1 hX.2.1 hd hv (k H locs ls hW hS hl)
theorem gc_iload_n {i : Fin 4} {n : Nat} {x : Int32} (hX : CxC l D b base X d mc ms own cc nL ret) (hd : decode cc pc = .ok (.iload_n i, 1)) (hi : (i : Nat) = n) (hl0 : lc[n]? = some (some (.int x))) (k : GC l D b base X nL Q (pc + 1) lc (.int x :: st) N μ cells slots) : GC l D b base X nL Q pc lc st N μ cells slots := by
  obtain ⟨p, e, R, s, m, args, below, meth, c⟩ := X
  exact fun H locs ls hW hS hl => lv_iload_n hX.1 hX.2.1 hd hi (lvP_at hl hl0) (k H locs ls hW hS hl)
theorem gc_iload {n : Nat} {x : Int32} (hX : CxC l D b base X d mc ms own cc nL ret) (hd : decode cc pc = .ok (.iload n, 2)) (hl0 : lc[n]? = some (some (.int x))) (k : GC l D b base X nL Q (pc + 2) lc (.int x :: st) N μ cells slots) : GC l D b base X nL Q pc lc st N μ cells slots := by
  obtain ⟨p, e, R, s, m, args, below, meth, c⟩ := X
  exact fun H locs ls hW hS hl => lv_iload hX.1 hX.2.1 hd (lvP_at hl hl0) (k H locs ls hW hS hl)
theorem gc_aload_n {i : Fin 4} {n : Nat} {x : Nat} (hX : CxC l D b base X d mc ms own cc nL ret) (hd : decode cc pc = .ok (.aload_n i, 1)) (hi : (i : Nat) = n) (hl0 : lc[n]? = some (some (.ref x))) (k : GC l D b base X nL Q (pc + 1) lc (.ref x :: st) N μ cells slots) : GC l D b base X nL Q pc lc st N μ cells slots := by
  obtain ⟨p, e, R, s, m, args, below, meth, c⟩ := X
  exact fun H locs ls hW hS hl => lv_aload_n hX.1 hX.2.1 hd hi (lvP_at hl hl0) (k H locs ls hW hS hl)
theorem gc_aload {n : Nat} {x : Nat} (hX : CxC l D b base X d mc ms own cc nL ret) (hd : decode cc pc = .ok (.aload n, 2)) (hl0 : lc[n]? = some (some (.ref x))) (k : GC l D b base X nL Q (pc + 2) lc (.ref x :: st) N μ cells slots) : GC l D b base X nL Q pc lc st N μ cells slots := by
  obtain ⟨p, e, R, s, m, args, below, meth, c⟩ := X
  exact fun H locs ls hW hS hl => lv_aload hX.1 hX.2.1 hd (lvP_at hl hl0) (k H locs ls hW hS hl)
theorem gc_istore_n {i : Fin 4} {n : Nat} {x : Int32} (hX : CxC l D b base X d mc ms own cc nL ret) (hd : decode cc pc = .ok (.istore_n i, 1)) (hi : (i : Nat) = n) (hn : n < nL) (hp : okP lc n = true) (hl0 : lc.set n (some (.int x)) = lc') (k : GC l D b base X nL Q (pc + 1) lc' st N μ cells slots) : GC l D b base X nL Q pc lc (.int x :: st) N μ cells slots := by
  obtain ⟨p, e, R, s, m, args, below, meth, c⟩ := X
  exact fun H locs ls hW hS hl => lv_istore_n hX.1 hX.2.1 hd hi hl hn rfl (fun ls' hl' => k H locs ls' hW hS (lvP_set hl' hp hl0))
theorem gc_istore {n : Nat} {x : Int32} (hX : CxC l D b base X d mc ms own cc nL ret) (hd : decode cc pc = .ok (.istore n, 2)) (hn : n < nL) (hp : okP lc n = true) (hl0 : lc.set n (some (.int x)) = lc') (k : GC l D b base X nL Q (pc + 2) lc' st N μ cells slots) : GC l D b base X nL Q pc lc (.int x :: st) N μ cells slots := by
  obtain ⟨p, e, R, s, m, args, below, meth, c⟩ := X
  exact fun H locs ls hW hS hl => lv_istore hX.1 hX.2.1 hd hl hn rfl (fun ls' hl' => k H locs ls' hW hS (lvP_set hl' hp hl0))
theorem gc_iinc {n : Nat} {i : Int} {x y : Int32} (hX : CxC l D b base X d mc ms own cc nL ret) (hd : decode cc pc = .ok (.iinc n i, 3)) (hn : n < nL) (hx : lc[n]? = some (some (.int x))) (hy : x + Int32.ofInt i = y) (hp : okP lc n = true) (hl0 : lc.set n (some (.int y)) = lc') (k : GC l D b base X nL Q (pc + 3) lc' st N μ cells slots) : GC l D b base X nL Q pc lc st N μ cells slots := by
  obtain ⟨p, e, R, s, m, args, below, meth, c⟩ := X
  intro H locs ls hW hS hl
  obtain ⟨k0, hk0⟩ := toA_at hx
  exact lv_iinc hX.1 hX.2.1 hd hl hk0 hy hn rfl (fun ls' hl' => k H locs ls' hW hS (lvP_set hl' hp hl0))
theorem gc_iadd {x y : Int32} (hX : CxC l D b base X d mc ms own cc nL ret) (hd : decode cc pc = .ok (.iadd, 1)) (k : GC l D b base X nL Q (pc + 1) lc (.int (x + y) :: st) N μ cells slots) : GC l D b base X nL Q pc lc (.int y :: .int x :: st) N μ cells slots := by
  obtain ⟨p, e, R, s, m, args, below, meth, c⟩ := X
  exact fun H locs ls hW hS hl => lv_iadd hX.1 hX.2.1 hd (k H locs ls hW hS hl)
theorem gc_dup {a : Value} (hX : CxC l D b base X d mc ms own cc nL ret) (hd : decode cc pc = .ok (.dup, 1)) (ha : a.category = 1) (k : GC l D b base X nL Q (pc + 1) lc (a :: a :: st) N μ cells slots) : GC l D b base X nL Q pc lc (a :: st) N μ cells slots := by
  obtain ⟨p, e, R, s, m, args, below, meth, c⟩ := X
  exact fun H locs ls hW hS hl => lv_dup hX.1 hX.2.1 hd ha (k H locs ls hW hS hl)
theorem gc_icmp_ge {off : Int} {tgt : Nat} {x y : Int32} (hX : CxC l D b base X d mc ms own cc nL ret) (hd : decode cc pc = .ok (.if_icmp .ge off, 3)) (ht : (pc : Int) + off = (tgt : Int)) (kt : y ≤ x → GC l D b base X nL Q tgt lc st N μ cells slots) (kf : ¬ y ≤ x → GC l D b base X nL Q (pc + 3) lc st N μ cells slots) : GC l D b base X nL Q pc lc (.int y :: .int x :: st) N μ cells slots := by
  obtain ⟨p, e, R, s, m, args, below, meth, c⟩ := X
  exact fun H locs ls hW hS hl => lv_icmp_ge hX.1 hX.2.1 hd ht (fun q => kt q H locs ls hW hS hl) (fun q => kf q H locs ls hW hS hl)
theorem gc_goto {off : Int} {tgt : Nat} (hX : CxC l D b base X d mc ms own cc nL ret) (hd : decode cc pc = .ok (.goto off, 3)) (ht : (pc : Int) + off = (tgt : Int)) (k : GC l D b base X nL Q tgt lc st N μ cells slots) : GC l D b base X nL Q pc lc st N μ cells slots := by
  obtain ⟨p, e, R, s, m, args, below, meth, c⟩ := X
  exact fun H locs ls hW hS hl => lv_goto hX.1 hX.2.1 hd ht (k H locs ls hW hS hl)
theorem gc_put {o ci j index : Nat} {C : String} {T : u_T} {ty : FieldType} {w : Value} {x : Int32} {ty0 : Nat → FieldType} (hX : CxC l D b base X d mc ms own cc nL ret) (ho : kd b o = ci) (hoN : o < N) (hN : N ≤ 100) (hf : FG ci j C T ty) (hty : ∀ k, k < nf ci → parseFieldDescriptor (T k).2.2.1 = some (ty0 k)) (hnm : ∀ a, a < nf ci → ∀ b, b < nf ci → a ≠ b → (T a).2.1 ≠ (T b).2.1) (hfin : (T j).2.2.2 = false) (hw : Cond.fieldLink own index (T j).1 (T j).2.1 (T j).2.2.1 ∈ BIG) (hd : decode cc pc = .ok (.putfield index, 3)) (hv : ∀ μ : Mem, fvC D b (up μ o j x) o ci j = w) (hn : narrow ty w = w) (hfit : fits ty w = true)
    (k : GC l D b base X nL Q (pc + 3) lc st N (up μ o j x) cells slots) : GC l D b base X nL Q pc lc (w :: .ref (D.1 o) :: st) N μ cells slots := by
  obtain ⟨p, e, R, s, m, args, below, meth, c⟩ := X
  intro H locs ls hW hS hl
  have hDD := cellsC_D (b := b) (μ := μ) hX.2.2.2.2.2.2.2.2.2.2.2.2 hN
  have he : (cellsC D b N μ)[o]? = some (D.1 o, .inr (ci, (List.range (nf ci)).map (fvC D b μ o ci))) := by rw [cellsC_at hoN, entC_obj ho hf.2.2.1]
  have hap := va_apart (own := own) hX.2.2.2.2.1 hf.2.2.2.1 ty0 hty hnm hX.2.2.2.2.2.2.2.2.1 hf.1
  obtain ⟨r, h1, cell, q1, q2, q3, q4⟩ := hW.1 o _ he
  have hr : r = (C, T, nf ci) := Option.some.inj (h1.symm.trans hf.1)
  subst hr
  obtain ⟨hSl, hfc, kC, hkC, hkind⟩ := hX.2.2.2.2.2.2.2.2.1.1 ci _ hf.1
  obtain ⟨cf, kf, fi, f, hi, hsl⟩ := hSl j hf.2.1
  have hlay := hX.2.2.2.2.1 _ (hf.2.2.2.1 _ (u_in_lay hf.2.1))
  unfold u_lay at hlay
  rw [if_neg (by rw [hfin]; decide)] at hlay
  have hst := (u_facts hfc hkC (u_lays hX.2.2.2.2.1 hf.2.2.2.1 hf.2.1) hi).1
  have hlen : j < ((List.range (nf ci)).map (fvC D b μ o ci)).length := by rw [List.length_map, List.length_range]; exact hf.2.1
  have fin : ∀ H' : Heap, H'[D.1 o]? = some (cell.setSlot (D.2.2.1 ci j) w) → H'.size = H.size → (∀ q, q ≠ D.1 o → H'[q]? = H[q]?) → WdC D b base N (up μ o j x) H' := by
    intro H' e1 e2 e3
    refine WdC_size_up hW hoN ?_ e2
    have hP2 := va_P.set hW.1 hDD he (e := .inr (ci, ((List.range (nf ci)).map (fvC D b μ o ci)).set j w)) ⟨_, hf.1, t_OB.to (V := updV (vp_V ((List.range (nf ci)).map (fvC D b μ o ci))) j w) ⟨_, e1, q2, q3, t_set q4 hap hf.2.1 w⟩ (fun a _ => vp_updV_set hlen w a)⟩ e3
    rw [fldsC_set hf.2.1 w (hv μ)] at hP2
    rw [cellsC_set hoN (entC_obj ho hf.2.2.1) (fun a q => entC_up q)] at hP2
    exact hP2
  have h6 := u_store hfc hkC hkind hlay hi hf.2.2.2.2 hn hfit
  refine W.putK hX.1 hX.2.1 (f := f) ⟨hX.2.2.2.1, hX.2.2.2.2.1 _ hw, ⟨_, _, _, hi⟩, hst⟩ (by rw [q2]; exact h6) q1 q3 (by rw [hsl]; exact k2_hasslot (q4 j hf.2.1)) rfl rfl hd fun H' e1 e2 e3 => ?_
  rw [hsl] at e1 ⊢
  exact k H' _ ls (fin H' e1 e2 e3) (hS.put e2 e3 (hDD.2 o _ he)) hl
theorem gc_putF {o ci j index : Nat} {C : String} {T : u_T} {ty : FieldType} {w : Value} {x : Int32} {ty0 : Nat → FieldType} (hX : CxC l D b base X d mc ms own cc nL ret) (ho : kd b o = ci) (hoN : o < N) (hN : N ≤ 100) (hf : FG ci j C T ty) (hty : ∀ k, k < nf ci → parseFieldDescriptor (T k).2.2.1 = some (ty0 k)) (hnm : ∀ a, a < nf ci → ∀ b, b < nf ci → a ≠ b → (T a).2.1 ≠ (T b).2.1) (hfin : (T j).2.2.2 = true) (hdecl : (T j).1 = own) (hw : Cond.fieldLink own index (T j).1 (T j).2.1 (T j).2.2.1 ∈ BIG) (hd : decode cc pc = .ok (.putfield index, 3)) (hv : ∀ μ : Mem, fvC D b (up μ o j x) o ci j = w) (hn : narrow ty w = w) (hfit : fits ty w = true)
    (k : GC l D b base X nL Q (pc + 3) lc st N (up μ o j x) cells slots) : GC l D b base X nL Q pc lc (w :: .ref (D.1 o) :: st) N μ cells slots := by
  obtain ⟨p, e, R, s, m, args, below, meth, c⟩ := X
  intro H locs ls hW hS hl
  have hDD := cellsC_D (b := b) (μ := μ) hX.2.2.2.2.2.2.2.2.2.2.2.2 hN
  have he : (cellsC D b N μ)[o]? = some (D.1 o, .inr (ci, (List.range (nf ci)).map (fvC D b μ o ci))) := by rw [cellsC_at hoN, entC_obj ho hf.2.2.1]
  have hap := va_apart (own := own) hX.2.2.2.2.1 hf.2.2.2.1 ty0 hty hnm hX.2.2.2.2.2.2.2.2.1 hf.1
  obtain ⟨r, h1, cell, q1, q2, q3, q4⟩ := hW.1 o _ he
  have hr : r = (C, T, nf ci) := Option.some.inj (h1.symm.trans hf.1)
  subst hr
  obtain ⟨hSl, hfc, kC, hkC, hkind⟩ := hX.2.2.2.2.2.2.2.2.1.1 ci _ hf.1
  obtain ⟨cf, kf, fi, f, hi, hsl⟩ := hSl j hf.2.1
  have hlay := hX.2.2.2.2.1 _ (hf.2.2.2.1 _ (u_in_lay hf.2.1))
  unfold u_lay at hlay
  rw [if_pos hfin] at hlay
  have hst := (u_facts hfc hkC (u_lays hX.2.2.2.2.1 hf.2.2.2.1 hf.2.1) hi).1
  have hlen : j < ((List.range (nf ci)).map (fvC D b μ o ci)).length := by rw [List.length_map, List.length_range]; exact hf.2.1
  have fin : ∀ H' : Heap, H'[D.1 o]? = some (cell.setSlot (D.2.2.1 ci j) w) → H'.size = H.size → (∀ q, q ≠ D.1 o → H'[q]? = H[q]?) → WdC D b base N (up μ o j x) H' := by
    intro H' e1 e2 e3
    refine WdC_size_up hW hoN ?_ e2
    have hP2 := va_P.set hW.1 hDD he (e := .inr (ci, ((List.range (nf ci)).map (fvC D b μ o ci)).set j w)) ⟨_, hf.1, t_OB.to (V := updV (vp_V ((List.range (nf ci)).map (fvC D b μ o ci))) j w) ⟨_, e1, q2, q3, t_set q4 hap hf.2.1 w⟩ (fun a _ => vp_updV_set hlen w a)⟩ e3
    rw [fldsC_set hf.2.1 w (hv μ)] at hP2
    rw [cellsC_set hoN (entC_obj ho hf.2.2.1) (fun a q => entC_up q)] at hP2
    exact hP2
  have hcf : m.cls = cf := by
    obtain ⟨_, _, c', _, _, _, -, -, hf', -, -, -, hown2, -⟩ := Cond.laysFinal_spec hlay
    have e1 : c' = cf := by have := hi.symm.trans hf'; simp at this; exact this.1.symm
    rw [hdecl] at hown2
    rw [← e1]; exact Option.some.inj (hX.2.2.2.1.symm.trans hown2)
  have h6 := u_fits hfc hkC hkind (Or.inr hlay) hi hf.2.2.2.2 hn hfit
  refine W.putFinK hX.1 hX.2.1 hX.2.2.2.1 (hX.2.2.2.2.1 _ hw) hi hst hcf hX.2.2.2.2.2.2.2.2.2.2.2.1 (by rw [q2]; exact h6) q1 q3 (by rw [hsl]; exact k2_hasslot (q4 j hf.2.1)) rfl rfl hd fun H' e1 e2 e3 => ?_
  rw [hsl] at e1 ⊢
  exact k H' _ ls (fin H' e1 e2 e3) (hS.put e2 e3 (hDD.2 o _ he)) hl
theorem gc_getr {o ci j index a : Nat} {C : String} {T : u_T} {ty : FieldType} (hX : CxC l D b base X d mc ms own cc nL ret) (ho : kd b o = ci) (hoN : o < N) (hf : FG ci j C T ty) (ht : tf ci j = 1) (hμ : ¬ μ o j = 0) (hw : Cond.fieldLink own index (T j).1 (T j).2.1 (T j).2.2.1 ∈ BIG) (hs : sr b o j = a) (hd : decode cc pc = .ok (.getfield index, 3))
    (k : GC l D b base X nL Q (pc + 3) lc (.ref (D.1 a) :: st) N μ cells slots) : GC l D b base X nL Q pc lc (.ref (D.1 o) :: st) N μ cells slots := by
  obtain ⟨p, e, R, s, m, args, below, meth, c⟩ := X
  intro H locs ls hW hS hl
  have he : (cellsC D b N μ)[o]? = some (D.1 o, .inr (ci, (List.range (nf ci)).map (fvC D b μ o ci))) := by rw [cellsC_at hoN, entC_obj ho hf.2.2.1]
  refine va_get hX.1 hX.2.1 hX.2.2.2.2.1 hf.2.2.2.1 hX.2.2.2.1 hX.2.2.2.2.2.2.2.2.1 hW.1 o he hf.1 _ hf.2.1 (hX.2.2.2.2.1 _ hw) (fun x q => q) (v := .ref (D.1 a)) ?_ hd (k H locs ls hW hS hl)
  rw [List.getElem?_map, List.getElem?_range hf.2.1]
  show some (fvC D b μ o ci j) = _
  rw [fvC, if_neg (by omega), if_neg hμ, if_pos ht, hs]
theorem gc_iast {a n : Nat} {j x : Int32} (hX : CxC l D b base X d mc ms own cc nL ret) (ha : kd b a = 10) (haN : a < N) (hN : N ≤ 100) (hn : ln b a = n) (hin : inb j n = true) (hd : decode cc pc = .ok (.iastore, 1)) (k : GC l D b base X nL Q (pc + 1) lc st N (up μ a (ix j) x) cells slots) : GC l D b base X nL Q pc lc (.int x :: .int j :: .ref (D.1 a) :: st) N μ cells slots := by
  obtain ⟨p, e, R, s, m, args, below, meth, c⟩ := X
  subst hn
  intro H locs ls hW hS hl
  have hDD := cellsC_D (b := b) (μ := μ) hX.2.2.2.2.2.2.2.2.2.2.2.2 hN
  have he : (cellsC D b N μ)[a]? = some (D.1 a, .inl (D.2.2.2 0, ln b a, .inl (μ a))) := by
    rw [cellsC_at haN]; unfold entC; rw [if_neg (by omega), if_pos ha]
  refine W.iast hX.1 hX.2.1 (hW.1 a _ he) ((hX.2.2.2.2.2.2.2.2.1.2 0 _ rfl).1 (ln b a) (fun j => .int (μ a j))) (fun q => by cases q) (by show ¬ (j < 0 ∨ (arrV _ _ _).slots.size ≤ _); rw [arrV_size]; exact inb_vp hin) rfl rfl hd fun H1 e1 z oq => ?_
  refine k H1 _ ls (WdC_size_up hW haN ?_ z) (hS.put z oq (hDD.2 a _ he)) hl
  have hP2 := va_P.set hW.1 hDD he (e := .inl (D.2.2.2 0, ln b a, .inl (upd (μ a) (ix j) x))) (by
    show H1[D.1 a]? = some (vp_cell _ _)
    rw [e1]
    rw [vp_cell_i, vp_cell_i, arrV_store]
    congr 2
    funext q
    by_cases hq : q = j.toNatClampNeg
    · subst hq
      simp [updV, upd]
    · simp [updV, upd, hq]) oq
  rw [cellsC_set haN (μ2 := up μ a (ix j) x) (by unfold entC; rw [if_neg (by omega), if_pos ha, up_upd]) (fun i q => entC_up q)] at hP2
  exact hP2
theorem gc_aast {a v n : Nat} {j : Int32} (hX : CxC l D b base X d mc ms own cc nL ret) (hb : b = true) (ha : kd b a = 12) (haN : a < N) (hN : N ≤ 100) (hv : kd b v = 5) (hvN : v < N) (hsr : sr b a (ix j) = v) (hn : ln b a = n) (hin : inb j n = true) (hd : decode cc pc = .ok (.aastore, 1)) (k : GC l D b base X nL Q (pc + 1) lc st N (up μ a (ix j) 1) cells slots) : GC l D b base X nL Q pc lc (.ref (D.1 v) :: .int j :: .ref (D.1 a) :: st) N μ cells slots := by
  obtain ⟨p, e, R, s, m, args, below, meth, c⟩ := X
  subst hn
  intro H locs ls hW hS hl
  have hDD := cellsC_D (b := b) (μ := μ) hX.2.2.2.2.2.2.2.2.2.2.2.2 hN
  have he : (cellsC D b N μ)[a]? = some (D.1 a, .inl (D.2.2.2 2, ln b a, .inr (.inr (.inr (.inr (fun j => if μ a j = 0 then none else some (D.1 (sr b a j)))))))) := by
    rw [cellsC_at haN]; unfold entC; rw [if_neg (by omega), if_neg (by omega), if_neg (by omega)]
  have hev : (cellsC D b N μ)[v]? = some (D.1 v, .inr (5, (List.range (nf 5)).map (fvC D b μ v 5))) := by rw [cellsC_at hvN, entC_obj hv (by omega)]
  have hlt : j.toNatClampNeg < ln b a := Nat.not_le.mp fun q => inb_vp hin (Or.inr q)
  have h0 : ¬ j < 0 := fun q => inb_vp hin (Or.inl q)
  obtain ⟨r', hr', cellV, g1, g2, g3, -⟩ := hW.1 v _ hev
  have hcls := (hX.2.2.2.2.2.2.2.2.1.1 5 (RX5, TX5, 3) rfl).2
  obtain ⟨kA, comp, k1, k2, k3, -⟩ := (hX.2.2.2.2.2.2.2.2.1.2 2 _ rfl).2
  have hcomp : comp = D.2.1 5 := Option.some.inj (k3.symm.trans hcls.1)
  subst hcomp
  obtain ⟨kC, hkC, -⟩ := hcls.2
  refine W.aast hX.1 hX.2.1 (hW.1 a _ he) (fun q h => by cases h) (fun h => by cases h) k1 k2 rfl hkC ⟨h0, by show _ < (arrV _ _ _).slots.size; rw [arrV_size]; exact hlt⟩ g1 (fun q h => by rw [g3] at h; cases h) (by rw [g2]; exact hkC) (by rw [g2]; exact va_assign hcls) rfl rfl hd fun H1 e1 z oq => ?_
  refine k H1 _ ls (WdC_size_up hW haN ?_ z) (hS.put z oq (hDD.2 a _ he)) hl
  have hP2 := va_P.set hW.1 hDD he (e := .inl (D.2.2.2 2, ln b a, .inr (.inr (.inr (.inr (va_up (fun j => if μ a j = 0 then none else some (D.1 (sr b a j))) (ix j) (some (D.1 v)))))))) (by
    show H1[D.1 a]? = some (vp_cell _ _)
    rw [e1]
    rw [vp_cell_q, vp_cell_q, arrV_store]
    congr 2
    funext q
    by_cases hq : q = j.toNatClampNeg
    · subst hq
      simp [updV, va_up, va_rf]
    · simp [updV, va_up, hq]) oq
  rw [cellsC_set haN (μ2 := up μ a (ix j) 1) (by
    unfold entC
    rw [if_neg (by omega), if_neg (by omega), if_neg (by omega)]
    congr 7
    funext q
    by_cases hq : q = ix j
    · subst hq
      simp [va_up, up, hsr]
    · simp [va_up, up, hq]) (fun i q => entC_up q)] at hP2
  exact hP2
theorem va_S.grow {A : Nat → Prop} {H0 H H1 : Heap} {locs : List Loc} (h : va_S A H0 H locs) (z : H1.size = H.size + 1) (o : ∀ q, q < H.size → H1[q]? = H[q]?) : va_S A H0 H1 locs := ⟨Nat.le_trans h.1 (by omega), fun x h1 h2 => (o x (Nat.lt_of_lt_of_le h1 h.1)).trans (h.2.1 x h1 h2), h.2.2⟩
theorem WdC_grow {D : DT} {b : Bool} {base N : Nat} {μ : Mem} {H H1 : Heap} (hW : WdC D b base N μ H) (z : H1.size = H.size + 1) (o : ∀ q, q < H.size → H1[q]? = H[q]?) (he : va_at (gD D) vwCl (D.1 N, entC D b μ N) H1) : WdC D b base (N + 1) μ H1 := by
  refine ⟨?_, by rw [z, hW.2.1]; omega, fun i hi j => hW.2.2 i (by omega) j⟩
  rw [← cellsC_add (b := b) (μ := μ) (N := N) rfl]
  refine (va_P.kept hW.1 (fun k x hx => o x.1 ((hW.1 k x hx).lt))).app (fun k x hx => ?_)
  have hz : k < 1 := (List.getElem?_eq_some_iff.mp hx).1
  rw [show k = 0 by omega] at hx
  cases hx
  exact he
theorem gc_new {ci index : Nat} {C : String} {T : u_T} {ty0 : Nat → FieldType} (hX : CxC l D b base X d mc ms own cc nL ret) (hk : kd b N = ci) (hci : ci < 10) (hN : N < 100) (hc : vwCl[ci]? = some (C, T, nf ci)) (hws : ∀ w ∈ u_ws C T (nf ci), w ∈ BIG) (hty : ∀ k, k < nf ci → parseFieldDescriptor (T k).2.2.1 = some (ty0 k)) (hdef : ∀ k, k < nf ci → defaultValue (ty0 k) = if tf ci k = 0 then .int 0 else .null)
    (hcl : Cond.classLink own index C ∈ BIG) (hinst : Cond.instantiable C (nf ci) ∈ BIG) (hini : Cond.initialized C ∈ BIG) (hcells : cells + 1 ≤ mc) (hslots : slots + nf ci ≤ ms) (hd : decode cc pc = .ok (.new index, 3))
    (k : GC l D b base X nL Q (pc + 3) lc (.ref (D.1 N) :: st) (N + 1) μ (cells + 1) (slots + nf ci)) : GC l D b base X nL Q pc lc st N μ cells slots := by
  obtain ⟨p, e, R, s, m, args, below, meth, c⟩ := X
  intro H locs ls hW hS hl
  have hR : R = rmC d mc ms := hX.2.2.2.2.2.2.2.1
  subst hR
  have hKn := hX.2.2.2.2.2.2.2.2.1.1 ci _ hc
  have hh : H.size = D.1 N := by rw [hW.2.1, hX.2.2.2.2.2.2.2.2.2.2.2.2 N hN]
  refine W.newcK hX.1 hX.2.1 hX.2.2.2.1 (hX.2.2.2.2.1 _ hcl) (hX.2.2.2.2.1 _ hinst) (hX.2.2.2.2.1 _ hini) rfl hd hcells hslots hKn.2.1 hh fun H1 kC hkC e1 z1 o1 => ?_
  rw [← hh] at z1 o1
  refine k H1 _ ls (WdC_grow hW z1 o1 ?_) (hS.grow z1 o1) hl
  rw [entC_obj hk hci]
  refine ⟨_, hc, (u_born ty0 hX.2.2.2.2.1 hws hKn hkC e1 hty).to (fun j hj => ?_)⟩
  show _ = vp_V _ j
  unfold vp_V
  rw [List.getD_eq_getElem?_getD, List.getElem?_map, List.getElem?_range hj]
  show _ = fvC D b μ N ci j
  rw [hdef j hj, fvC, hW.2.2 N (Nat.le_refl _) j]
  simp

theorem gc_newI {n : Nat} {x : Int32} (hX : CxC l D b base X d mc ms own cc nL ret) (hk : kd b N = 10) (hN : N < 100) (hx : ¬ x < 0) (hn : ix x = n) (hln : ln b N = n) (hbytes : n * 4 ≤ 536870912) (harr : Cond.arrayClass .int ∈ BIG) (hcells : cells + 1 ≤ mc) (hslots : slots + n ≤ ms) (hd : decode cc pc = .ok (.newarray .int, 2))
    (k : GC l D b base X nL Q (pc + 2) lc (.ref (D.1 N) :: st) (N + 1) μ (cells + 1) (slots + n)) : GC l D b base X nL Q pc lc (.int x :: st) N μ cells slots := by
  obtain ⟨p, e, R, s, m, args, below, meth, c⟩ := X
  intro H locs ls hW hS hl
  have hR : R = rmC d mc ms := hX.2.2.2.2.2.2.2.1
  subst hR
  have hh : H.size = D.1 N := by rw [hW.2.1, hX.2.2.2.2.2.2.2.2.2.2.2.2 N hN]
  refine va_newaK (atype := .int) hX.1 hX.2.1 (hX.2.2.2.2.1 _ harr) rfl hd rfl hx hn (by show n * _ ≤ 536870912; first | exact hbytes | (show n * 1 ≤ 536870912; omega)) hcells hslots hh fun H1 cA e1 z1 o1 hAr hNm => ?_
  have hcA : cA = D.2.2.2 0 := Option.some.inj (hNm.symm.trans (hX.2.2.2.2.2.2.2.2.1.2 0 _ rfl).2)
  subst hcA
  rw [← hh] at z1 o1
  refine k H1 _ ls (WdC_grow hW z1 o1 ?_) (hS.grow z1 o1) hl
  have he : entC D b μ N = .inl (D.2.2.2 0, ln b N, .inl (μ N)) := by unfold entC; rw [if_neg (by omega), if_pos hk]
  rw [he]
  show H1[D.1 N]? = some (vp_cell _ _)
  rw [e1, vp_cell_i, hln]
  congr 2
  funext j
  rw [hW.2.2 N (Nat.le_refl _) j]
  rfl

theorem gc_newB {n : Nat} {x : Int32} (hX : CxC l D b base X d mc ms own cc nL ret) (hk : kd b N = 11) (hN : N < 100) (hx : ¬ x < 0) (hn : ix x = n) (hln : ln b N = n) (hbytes : n * 4 ≤ 536870912) (harr : Cond.arrayClass .byte ∈ BIG) (hcells : cells + 1 ≤ mc) (hslots : slots + n ≤ ms) (hd : decode cc pc = .ok (.newarray .byte, 2))
    (k : GC l D b base X nL Q (pc + 2) lc (.ref (D.1 N) :: st) (N + 1) μ (cells + 1) (slots + n)) : GC l D b base X nL Q pc lc (.int x :: st) N μ cells slots := by
  obtain ⟨p, e, R, s, m, args, below, meth, c⟩ := X
  intro H locs ls hW hS hl
  have hR : R = rmC d mc ms := hX.2.2.2.2.2.2.2.1
  subst hR
  have hh : H.size = D.1 N := by rw [hW.2.1, hX.2.2.2.2.2.2.2.2.2.2.2.2 N hN]
  refine va_newaK (atype := .byte) hX.1 hX.2.1 (hX.2.2.2.2.1 _ harr) rfl hd rfl hx hn (by show n * _ ≤ 536870912; first | exact hbytes | (show n * 1 ≤ 536870912; omega)) hcells hslots hh fun H1 cA e1 z1 o1 hAr hNm => ?_
  have hcA : cA = D.2.2.2 1 := Option.some.inj (hNm.symm.trans (hX.2.2.2.2.2.2.2.2.1.2 1 _ rfl).2)
  subst hcA
  rw [← hh] at z1 o1
  refine k H1 _ ls (WdC_grow hW z1 o1 ?_) (hS.grow z1 o1) hl
  have he : entC D b μ N = .inl (D.2.2.2 1, ln b N, .inl (μ N)) := by unfold entC; rw [if_neg (by omega), if_neg (by omega), if_pos hk]
  rw [he]
  show H1[D.1 N]? = some (vp_cell _ _)
  rw [e1, vp_cell_i, hln]
  congr 2
  funext j
  rw [hW.2.2 N (Nat.le_refl _) j]
  rfl

theorem gc_newQ {n index : Nat} {x : Int32} (hX : CxC l D b base X d mc ms own cc nL ret) (hb : b = true) (hk : kd b N = 12) (hN : N < 100) (hx : ¬ x < 0) (hn : ix x = n) (hln : ln b N = n) (hbytes : n * 4 ≤ 536870912) (hcl : Cond.classLink own index RX5 ∈ BIG) (hcells : cells + 1 ≤ mc) (hslots : slots + n ≤ ms) (hd : decode cc pc = .ok (.anewarray index, 3))
    (k : GC l D b base X nL Q (pc + 3) lc (.ref (D.1 N) :: st) (N + 1) μ (cells + 1) (slots + n)) : GC l D b base X nL Q pc lc (.int x :: st) N μ cells slots := by
  obtain ⟨p, e, R, s, m, args, below, meth, c⟩ := X
  intro H locs ls hW hS hl
  have hR : R = rmC d mc ms := hX.2.2.2.2.2.2.2.1
  subst hR
  subst hn
  have hh : H.size = D.1 N := by rw [hW.2.1, hX.2.2.2.2.2.2.2.2.2.2.2.2 N hN]
  refine W.anew hX.1 hX.2.1 hX.2.2.2.1 (hX.2.2.2.2.1 _ hcl) (va_AO.use (hX.2.2.2.2.2.2.2.2.2.2.1 hb)) rfl hd rfl hx hbytes hcells hslots fun cA kA comp f1 f2 f3 f4 => ?_
  generalize hH1 : H.push ({ cls := cA, slots := Array.replicate x.toNatClampNeg .null, vm := .none } : Cell) = H1
  have z1 : H1.size = H.size + 1 := by rw [← hH1, Array.size_push]
  have e1 : H1[H.size]? = some (arrV cA x.toNatClampNeg (fun _ => .null)) := by rw [← hH1, Array.getElem?_push_size, ← arrV_new]
  have o1 : ∀ q : Nat, q < H.size → H1[q]? = H[q]? := fun q hq => by rw [← hH1, Array.getElem?_push, if_neg (Nat.ne_of_lt hq)]
  have hcA : cA = D.2.2.2 2 := by
    obtain ⟨kA2, comp2, k1, k2, k3, k4⟩ := (hX.2.2.2.2.2.2.2.2.1.2 2 _ rfl).2
    exact Option.some.inj (f1.symm.trans k4)
  subst hcA
  rw [show (Value.ref H.size) = .ref (D.1 N) by rw [hh]]
  refine k H1 _ ls (WdC_grow hW z1 o1 ?_) (hS.grow z1 o1) hl
  have he : entC D b μ N = .inl (D.2.2.2 2, ln b N, .inr (.inr (.inr (.inr (fun j => if μ N j = 0 then none else some (D.1 (sr b N j))))))) := by unfold entC; rw [if_neg (by omega), if_neg (by omega), if_neg (by omega)]
  rw [he]
  show H1[D.1 N]? = some (vp_cell _ _)
  rw [← hh, e1, vp_cell_q, hln]
  congr 2
  funext j
  rw [hW.2.2 N (Nat.le_refl _) j]
  rfl
theorem gc_ldcS {index i : Nat} {tx : String} (hX : CxC l D b base X d mc ms own cc nL ret) (hZ : ∀ s : State, EnvD D (fun q => base ≤ q) s → vk_R own index tx (D.1 i) s) (hb : b = true) (hd : decode cc pc = .ok (.ldc index, 2)) (k : GC l D b base X nL Q (pc + 2) lc (.ref (D.1 i) :: st) N μ cells slots) : GC l D b base X nL Q pc lc st N μ cells slots := by
  obtain ⟨p, e, R, s, m, args, below, meth, c⟩ := X
  exact fun H locs ls hW hS hl => va_ldcS hX.1 hX.2.1 hX.2.2.2.1 (hZ _ (hX.2.2.2.2.2.2.2.2.2.1 hb)) hd (k H locs ls hW hS hl)
theorem gc_vret (hX : CxC l D b base X d mc ms own cc nL ret) (hr : ret = none) (hcells : cells = mc) (hslots : slots = ms) (hd : decode cc pc = .ok (.return_, 1)) : GC l D b base X nL (QC D b base X N μ mc ms) pc lc [] N μ cells slots := by
  obtain ⟨p, e, R, s, m, args, below, meth, c⟩ := X
  subst hr
  subst hcells
  subst hslots
  exact fun H locs ls hW hS hl => W.vret hX.1 hX.2.1 hX.2.2.2.2.2.1 (fun t ht _ => ⟨rfl, by rw [ht]; exact hW, hS.F ht⟩) hS.2.2 hd hX.2.2.2.2.2.2.1
theorem SgC_blind {as : List Value} : FrameBlind (va_Pc as (SgC D b base N μ)) := fun a U g mk q => ⟨q.1, q.2.1, va_K.moved (u := U) (U := U.calling g mk a) (Vm.Alike.refl U.vm) q.2.2.1, fun hb => EnvD_calling (q.2.2.2.1 hb), fun hb => va_AO.moved (u := U) (U := U.calling g mk a) (Vm.Alike.refl U.vm) (q.2.2.2.2 hb)⟩
/-- a constructor as a callee -/
def MI (y : MethodName) (cc : ByteArray) (nL n : Nat) : Prop := Cond.instanceMethod y ∈ BIG ∧ Cond.initialized y.cls ∈ BIG ∧ Cond.code y cc nL none ∈ BIG ∧ nL ≤ 21 ∧ y.name = "<init>" ∧ y.cls ≠ "java/lang/invoke/MethodHandle" ∧ y.cls ≠ "java/lang/invoke/VarHandle" ∧ (parseMethodDescriptor y.desc).map (fun d => d.parameters.length) = some n
theorem gc_call {a d1 mc1 ms1 nL1 n index N1 : Nat} {y1 : MethodName} {cc1 : ByteArray} {μ1 : Mem} {as st0 : List Value} (hX : CxC l D b base X d mc ms own cc nL ret) (hM : CtC l D b base d1 mc1 ms1 y1 cc1 nL1 (.ref a :: as) N μ N1 μ1) (mv : MI y1 cc1 nL1 n) (hw : Cond.methodLink own index y1 ∈ BIG) (hd1 : d1 + 1 ≤ d) (hn : as.length = n) (hst : st0 = as.reverse ++ .ref a :: st) (hsum : (st.map fun v => v.category).sum ≤ 8) (hcells : cells + mc1 ≤ mc) (hslots : slots + ms1 ≤ ms) (hd : decode cc pc = .ok (.invokespecial index, 3))
    (k : GC l D b base X nL Q (pc + 3) lc st N1 μ1 (cells + mc1) (slots + ms1)) : GC l D b base X nL Q pc lc st0 N μ cells slots := by
  obtain ⟨p, e, R, s, m, args, below, meth, c⟩ := X
  intro H locs ls hW hS hl T hT Y
  obtain ⟨m1, m3, m4, m5, m6, m7, m8, m9⟩ := mv
  have hR : R = rmC d mc ms := hX.2.2.2.2.2.2.2.1
  subst hR
  have cw := cwI (R := rmC d mc ms) (s := s) (args := args) (own := own) (index := index) (y := y1) (bytes := cc1) (maxL := nL1) (ws := wsA y1 cc1 nL1 none) (rm := rmC d1 mc1 ms1) (mc := mc1) (ms := ms1) (Ts := BIG) n hX.2.2.2.2.1 (goodB m4) rfl rfl rfl (hX.2.2.2.2.1 _ m3) (hX.2.2.2.2.1 _ hw) (hX.2.2.2.2.1 _ m1) m6 ⟨m7, m8, m9⟩ ⟨hd1, by show 8 + (nL1 + 11) + 40 * d1 ≤ 40 * d; omega⟩
  have hrun : va_Run p l e (rmC d mc ms) s m args below meth c H locs cells slots mc1 ms1 (F0 m pc ls st0) st (QrC D b base N1 μ1 (Value.ref a :: as).toArray) (fun q => base ≤ q) := va_runI (own := own) (g := F0 m pc ls st0) ⟨hX.1, hX.2.1, hX.2.2.1, hX.2.2.2.1, hX.2.2.2.2.1⟩ hM cw ⟨SgC_blind, fun U hU hWm => ⟨rfl, by rw [hU]; exact hW, va_K.moved hWm.alike hX.2.2.2.2.2.2.2.2.1, fun hb => EnvD_call (hX.2.2.2.2.2.2.2.2.2.1 hb) hS hU hWm, fun hb => va_AO.moved hWm.alike (hX.2.2.2.2.2.2.2.2.2.2.1 hb)⟩⟩ rfl hn hl.1 hst (lv_room hsum) hd ⟨hcells, hslots⟩
  obtain ⟨v, s0, t, T', L, h0, Y', hL, e1, e2, ⟨hv, hW1, hF⟩, go⟩ := hrun T hT Y
  cases hv
  obtain ⟨z, a1, b1⟩ := k T'.heap (locs ++ L) ls (by rw [e1]; exact hW1) ⟨Nat.le_trans hS.1 (by rw [e1, ← h0]; exact hF.1), fun q g1 g2 => by
      rw [e1, hF.2 q (by rw [h0]; exact Nat.lt_of_lt_of_le g1 hS.1) g2, h0]
      exact hS.2.1 q g1 g2, fun q hq => by
      rcases List.mem_append.mp hq with h | h
      · exact hS.2.2 q h
      · exact hL q h⟩ hl T' rfl Y'
  exact ⟨z, go z a1, b1⟩
theorem CtC.of {y : MethodName} {as : List Value} {lc0 : List (Option Value)} {N' : Nat} {μ' : Mem} (hy : plainName y.cls = true) (hown : y.cls = own) (hname : y.name = "<init>") (hDb : ∀ i, i < 100 → D.1 i = base + i) (hnl : (lg_sl as).length ≤ nL) (hlc : entL as ++ List.replicate (nL - (entL as).length) none = lc0) (hbig : Cond.code y cc nL none ∈ BIG)
    (h : ∀ X : XT, CxC l D b base X d mc ms own cc nL none → GC l D b base X nL (QC D b base X N' μ' mc ms) 0 lc0 [] N μ 0 0) : CtC l D b base d mc ms y cc nL as N μ N' μ' := by
  subst hown
  refine Met.ofW (cc := cc) (maxL := nL) (ret := none) (ws' := BIG) hy rfl ?_
  intro p e s m args below meth c s₁ B hml hv
  obtain ⟨rfl, hW, hK, hE, hAO⟩ := hv
  have hts := atoms_spec (ws := wsA y cc nL none) B.pre
  have hl := lv_entry as hnl
  have hin : meth.name = "<init>" := (name_of_methodNamed B.named B.method).1.trans hname
  have hg := h (p, e, rmC d mc ms, s, m, as.toArray, below, meth, c) ⟨B.exec, B.bytes, hml, findClass_of_methodNamed B.named, fun w hw => hts w (List.mem_cons_of_mem _ hw), B.returns, B.notSynchronized, rfl, hK, hE, hAO, hin, hDb⟩
  rw [lg_entry_eq]
  refine hg s.heap [] _ hW va_S.rf ?_
  subst hlc
  show lv_has _ _ _
  rw [toA_app, entL_sub]
  exact hl

end GR
