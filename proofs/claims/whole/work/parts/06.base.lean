/-! words of the pure functions -/
def ck {α : Type} (c : Bool) (o : Option α) : Option α := bif c then o else none
theorem ck_some {α : Type} {c : Bool} {o : Option α} {r : α} (h : ck c o = some r) : c = true ∧ o = some r := by
  cases c
  · exact absurd h (by simp [ck])
  · exact ⟨rfl, h⟩
def bd {α β : Type} (o : Option α) (f : α → Option β) : Option β := match o with
  | some a => f a
  | none => none
theorem bd_some {α β : Type} {o : Option α} {f : α → Option β} {r : β} (h : bd o f = some r) : ∃ a, o = some a ∧ f a = some r := by
  cases o with
  | none => exact absurd h (by simp [bd])
  | some a => exact ⟨a, rfl, h⟩
def bd2 {α γ β : Type} (o : Option (α × γ)) (f : α → γ → Option β) : Option β := match o with
  | some q => f q.1 q.2
  | none => none
theorem bd2_some {α γ β : Type} {o : Option (α × γ)} {f : α → γ → Option β} {r : β} (h : bd2 o f = some r) : ∃ a m, o = some (a, m) ∧ f a m = some r := by
  cases o with
  | none => exact absurd h (by simp [bd2])
  | some q => exact ⟨q.1, q.2, rfl, h⟩
def wr {β : Type} (μ : Mem) (i j : Nat) (x : Int32) (f : Mem → β) : β := f (up μ i j x)
theorem wr_some {β : Type} {μ : Mem} {i j : Nat} {x : Int32} {f : Mem → β} {r : β} (h : wr μ i j x f = r) : ∃ μ1, up μ i j x = μ1 ∧ f μ1 = r := ⟨_, rfl, h⟩
def cpy {β : Type} (μ : Mem) (a0 sp a dp n : Nat) (f : Mem → β) : β := f (cpM μ a0 sp a dp n)
theorem cpy_some {β : Type} {μ : Mem} {a0 sp a dp n : Nat} {f : Mem → β} {r : β} (h : cpy μ a0 sp a dp n f = r) : ∃ μ1, cpM μ a0 sp a dp n = μ1 ∧ f μ1 = r := ⟨_, rfl, h⟩
def nm {α β : Type} (a : α) (f : α → β) : β := f a
theorem nm_some {α β : Type} {a : α} {f : α → β} {r : β} (h : nm a f = r) : ∃ x, a = x ∧ f x = r := ⟨_, rfl, h⟩
abbrev jshl (x y : Int32) : Int32 := x <<< (y &&& 31)
abbrev jshr (x y : Int32) : Int32 := x >>> (y &&& 31)
abbrev jushr (x y : Int32) : Int32 := (x.toUInt32 >>> (y.toUInt32 &&& Int32.toUInt32 31)).toInt32
abbrev jrem (x y : Int32) : Int32 := x - x / y * y
abbrev jbyte (x : Int32) : Int32 := x.toInt8.toInt32
abbrev jshort (x : Int32) : Int32 := x.toInt16.toInt32
abbrev jchar (x : Int32) : Int32 := (x.toUInt32 % 65536).toInt32
abbrev jlushr (x : Int64) (y : Int32) : Int64 := (x.toUInt64 >>> (y.toInt64.toUInt64 &&& Int64.toUInt64 63)).toInt64
abbrev jlshr (x : Int64) (y : Int32) : Int64 := x >>> (y.toInt64 &&& 63)
abbrev jlshl (x : Int64) (y : Int32) : Int64 := x <<< (y.toInt64 &&& 63)
def nz (x : Int32) : Bool := !(x == 0)
theorem nz_ne {x : Int32} (h : nz x = true) : ¬ x = 0 := fun e => by subst e; exact absurd h (by decide)
def bl (x : Int32) : Bool := x == 0 || x == 1
theorem nar_bl {x : Int32} (h : bl x = true) : narrow .boolean (.int x) = .int x := by
  simp only [bl, Bool.or_eq_true, beq_iff_eq] at h
  rcases h with rfl | rfl <;> rfl
def isStr (i : Nat) : Bool := decide (110 ≤ i) && decide (i < 113)
theorem isStr_lt {i : Nat} (h : isStr i = true) : i - 110 < 3 := by
  simp only [isStr, Bool.and_eq_true, decide_eq_true_eq] at h
  omega
theorem isStr_eq {i : Nat} (h : isStr i = true) : 110 + (i - 110) = i := by
  simp only [isStr, Bool.and_eq_true, decide_eq_true_eq] at h
  omega
theorem kd_31 {b : Bool} {i k : Nat} (h : kd b i = k) (hk : k < 20) : i < 2 ^ 31 := by
  have h1 := kd_lt h hk
  have h2 : cnt b ≤ 100 := by cases b <;> decide
  omega
theorem ix_ofNat {i : Nat} (h : i < 2 ^ 31) : (Int32.ofNat i).toNatClampNeg = i := Int32.toNatClampNeg_ofNat_of_lt h
theorem ts_ne {x c : Int32} {k : Int} (h : ¬ x = c) (hc : c.toInt = k) : x.toInt ≠ k := fun e => h (Int32.toInt_inj.mp (e.trans hc.symm))
theorem ls_ne {x c : Int32} {k : Int} (h : ¬ x = c) (hc : c.toInt = k) : ¬ k = x.toInt := fun e => h (Int32.toInt_inj.mp (e.symm.trans hc.symm))
theorem sheet_kd {j : Int32} (h : inb j 4 = true) : kd true (58 + 2 * ix j) = 5 := by
  have h1 := inb_vp h
  obtain ⟨k, hk, rfl⟩ := vp_in_of h1 (by decide)
  rw [show ix (nI k) = k from nI_clamp (by omega)]
  rcases (show k = 0 ∨ k = 1 ∨ k = 2 ∨ k = 3 by omega) with rfl | rfl | rfl | rfl <;> decide +kernel
theorem sheet_sr {j : Int32} (h : inb j 4 = true) : sr true 57 (ix j) = 58 + 2 * ix j := by
  have h1 := inb_vp h
  obtain ⟨k, hk, rfl⟩ := vp_in_of h1 (by decide)
  rw [show ix (nI k) = k from nI_clamp (by omega)]
  rcases (show k = 0 ∨ k = 1 ∨ k = 2 ∨ k = 3 by omega) with rfl | rfl | rfl | rfl <;> decide +kernel
def subL : List (Option Value) → List (Option Value) → Prop
  | [], _ => True
  | none :: l', _ :: l => subL l' l
  | some v :: l', some w :: l => v = w ∧ subL l' l
  | _, _ => False
theorem subL_at : ∀ {l' l : List (Option Value)} (h : subL l' l) {i : Nat} {v : Value}, l'[i]? = some (some v) → l[i]? = some (some v)
  | [], _, _, i, v, h => by simp at h
  | none :: l', [], h, _, _, _ => h.elim
  | none :: l', a :: l, h, i, v, e => by
    cases i with
    | zero => simp at e
    | succ i => simp at e ⊢; exact subL_at (l' := l') (l := l) (by cases a <;> exact h) e
  | some w :: l', [], h, _, _, _ => h.elim
  | some w :: l', none :: l, h, _, _, _ => h.elim
  | some w :: l', some w2 :: l, h, i, v, e => by
    cases i with
    | zero => simp at e ⊢; exact h.1.symm.trans e
    | succ i => simp at e ⊢; exact subL_at h.2 e

section GR
variable {l : Launch} {D : DT} {b : Bool} {X : XT} {d : Nat} {own : String} {cc : ByteArray} {nL : Nat} {ret : Option FieldType} {v : Option Value} {μ μ' : Mem} {pc : Nat} {lc lc' : List (Option Value)} {st : List Value}

theorem g_weak (h : subL lc' lc) (k : G l D b X nL v μ' pc lc' st μ) : G l D b X nL v μ' pc lc st μ := by
  obtain ⟨p, e, R, s, m, args, below, meth, c⟩ := X
  exact fun H locs ls hW hS hl => k H locs ls hW hS (lvP_of hl (fun q hq => by
    obtain ⟨i, v⟩ := q
    obtain ⟨j, rfl, hj⟩ := toA_mem.mp hq
    exact toA_mem.mpr ⟨j, rfl, subL_at h hj⟩))
theorem g_istore_n' {i : Fin 4} {n : Nat} {x x' : Int32} (hX : Cx l D b X d own cc nL ret) (he : x = x') (hd : decode cc pc = .ok (.istore_n i, 1)) (hi : (i : Nat) = n) (hn : n < nL) (hp : okP lc n = true) (hl0 : lc.set n (some (.int x')) = lc') (k : G l D b X nL v μ' (pc + 1) lc' st μ) : G l D b X nL v μ' pc lc (.int x :: st) μ := by
  subst he
  exact g_istore_n hX hd hi hn hp hl0 k
theorem g_istore' {n : Nat} {x x' : Int32} (hX : Cx l D b X d own cc nL ret) (he : x = x') (hd : decode cc pc = .ok (.istore n, 2)) (hn : n < nL) (hp : okP lc n = true) (hl0 : lc.set n (some (.int x')) = lc') (k : G l D b X nL v μ' (pc + 2) lc' st μ) : G l D b X nL v μ' pc lc (.int x :: st) μ := by
  subst he
  exact g_istore hX hd hn hp hl0 k
theorem g_geti {o ci j index : Nat} {R : String} {T : u_T} {ty : FieldType} (hX : Cx l D b X d own cc nL ret) (ho : kd b o = ci) (hf : FG ci j R T ty) (ht : tf ci j = 0) (hw : Cond.fieldLink own index (T j).1 (T j).2.1 (T j).2.2.1 ∈ BIG) (hd : decode cc pc = .ok (.getfield index, 3))
    (k : G l D b X nL v μ' (pc + 3) lc (.int (μ o j) :: st) μ) : G l D b X nL v μ' pc lc (.ref (D.1 o) :: st) μ := g_get hX ho hf hw hd (by rw [fv, if_pos ht]) k
theorem g_getr {o ci j index a : Nat} {R : String} {T : u_T} {ty : FieldType} (hX : Cx l D b X d own cc nL ret) (ho : kd b o = ci) (hf : FG ci j R T ty) (ht : tf ci j = 1) (hw : Cond.fieldLink own index (T j).1 (T j).2.1 (T j).2.2.1 ∈ BIG) (hs : sr b o j = a) (hd : decode cc pc = .ok (.getfield index, 3))
    (k : G l D b X nL v μ' (pc + 3) lc (.ref (D.1 a) :: st) μ) : G l D b X nL v μ' pc lc (.ref (D.1 o) :: st) μ := g_get hX ho hf hw hd (by rw [fv, if_neg (by omega), if_pos ht, hs]) k
theorem g_getd {o ci j index : Nat} {R : String} {T : u_T} {ty : FieldType} (hX : Cx l D b X d own cc nL ret) (ho : kd b o = ci) (hf : FG ci j R T ty) (ht : tf ci j = 2) (hw : Cond.fieldLink own index (T j).1 (T j).2.1 (T j).2.2.1 ∈ BIG) (hd : decode cc pc = .ok (.getfield index, 3))
    (k : G l D b X nL v μ' (pc + 3) lc (.ref (D.1 (ix (μ o j))) :: st) μ) : G l D b X nL v μ' pc lc (.ref (D.1 o) :: st) μ := g_get hX ho hf hw hd (by rw [fv, if_neg (by omega), if_neg (by omega)]) k
theorem g_gets {o ci j index : Nat} {R : String} {T : u_T} {ty : FieldType} (hX : Cx l D b X d own cc nL ret) (ho : kd b o = ci) (hf : FG ci j R T ty) (ht : tf ci j = 2) (hw : Cond.fieldLink own index (T j).1 (T j).2.1 (T j).2.2.1 ∈ BIG) (hs : isStr (ix (μ o j)) = true) (hd : decode cc pc = .ok (.getfield index, 3))
    (k : G l D b X nL v μ' (pc + 3) lc (.ref (D.1 (110 + (ix (μ o j) - 110))) :: st) μ) : G l D b X nL v μ' pc lc (.ref (D.1 o) :: st) μ := g_get hX ho hf hw hd (by rw [fv, if_neg (by omega), if_neg (by omega), isStr_eq hs]) k

theorem g_puti {o ci j index : Nat} {R : String} {T : u_T} {ty0 : Nat → FieldType} {x : Int32} {μ2 : Mem} (hX : Cx l D b X d own cc nL ret) (ho : kd b o = ci) (hf : FG ci j R T .int) (ht : tf ci j = 0) (hty : ∀ k, k < nf ci → parseFieldDescriptor (T k).2.2.1 = some (ty0 k)) (hnm : ∀ a, a < nf ci → ∀ b, b < nf ci → a ≠ b → (T a).2.1 ≠ (T b).2.1) (hfin : (T j).2.2.2 = false) (hw : Cond.fieldLink own index (T j).1 (T j).2.1 (T j).2.2.1 ∈ BIG) (hd : decode cc pc = .ok (.putfield index, 3)) (hμ : up μ o j x = μ2) (k : G l D b X nL v μ' (pc + 3) lc st μ2) : G l D b X nL v μ' pc lc (.int x :: .ref (D.1 o) :: st) μ := by
  subst hμ
  exact g_put hX ho hf hty hnm hfin hw hd (fun μ => by rw [fv, if_pos ht, up_s]) rfl rfl k
theorem g_putz {o ci j index : Nat} {R : String} {T : u_T} {ty0 : Nat → FieldType} {x : Int32} {μ2 : Mem} (hX : Cx l D b X d own cc nL ret) (hb : bl x = true) (ho : kd b o = ci) (hf : FG ci j R T .boolean) (ht : tf ci j = 0) (hty : ∀ k, k < nf ci → parseFieldDescriptor (T k).2.2.1 = some (ty0 k)) (hnm : ∀ a, a < nf ci → ∀ b, b < nf ci → a ≠ b → (T a).2.1 ≠ (T b).2.1) (hfin : (T j).2.2.2 = false) (hw : Cond.fieldLink own index (T j).1 (T j).2.1 (T j).2.2.1 ∈ BIG) (hd : decode cc pc = .ok (.putfield index, 3)) (hμ : up μ o j x = μ2) (k : G l D b X nL v μ' (pc + 3) lc st μ2) : G l D b X nL v μ' pc lc (.int x :: .ref (D.1 o) :: st) μ := by
  subst hμ
  refine g_put hX ho hf hty hnm hfin hw hd (fun μ => by rw [fv, if_pos ht, up_s]) (nar_bl hb) ?_ k
  simp only [bl, Bool.or_eq_true, beq_iff_eq] at hb
  rcases hb with rfl | rfl <;> rfl
theorem g_putd {a : Nat} {C : String} {o ci j index : Nat} {R : String} {T : u_T} {ty0 : Nat → FieldType} {μ2 : Mem} (hX : Cx l D b X d own cc nL ret) (ha : a < 2 ^ 31) (ho : kd b o = ci) (hf : FG ci j R T (.object C)) (ht : tf ci j = 2) (hty : ∀ k, k < nf ci → parseFieldDescriptor (T k).2.2.1 = some (ty0 k)) (hnm : ∀ a, a < nf ci → ∀ b, b < nf ci → a ≠ b → (T a).2.1 ≠ (T b).2.1) (hfin : (T j).2.2.2 = false) (hw : Cond.fieldLink own index (T j).1 (T j).2.1 (T j).2.2.1 ∈ BIG) (hd : decode cc pc = .ok (.putfield index, 3)) (hμ : up μ o j (Int32.ofNat a) = μ2) (k : G l D b X nL v μ' (pc + 3) lc st μ2) : G l D b X nL v μ' pc lc (.ref (D.1 a) :: .ref (D.1 o) :: st) μ := by
  subst hμ
  exact g_put hX ho hf hty hnm hfin hw hd (fun μ => by rw [fv, if_neg (by omega), if_neg (by omega), up_s, ix_ofNat ha]) rfl rfl k
theorem g_sheet {j : Int32} (hX : Cx l D true X d own cc nL ret) (hin : inb j 4 = true) (hd : decode cc pc = .ok (.aaload, 1)) (k : G l D true X nL v μ' (pc + 1) lc (.ref (D.1 (58 + 2 * ix j)) :: st) μ) : G l D true X nL v μ' pc lc (.int j :: .ref (D.1 57) :: st) μ := by
  refine g_aald (n := 4) hX (by decide +kernel) (by decide +kernel) hin hd ?_
  rw [sheet_sr hin]
  exact k
theorem g_iastM {a n : Nat} {j x : Int32} {μ2 : Mem} (hX : Cx l D b X d own cc nL ret) (ha : kd b a = 10) (hn : ln b a = n) (hin : inb j n = true) (hd : decode cc pc = .ok (.iastore, 1)) (hμ : up μ a (ix j) x = μ2) (k : G l D b X nL v μ' (pc + 1) lc st μ2) : G l D b X nL v μ' pc lc (.int x :: .int j :: .ref (D.1 a) :: st) μ := by
  subst hμ
  exact g_iast hX ha hn hin hd k
theorem g_bastM {a n : Nat} {j x : Int32} {μ2 : Mem} (hX : Cx l D b X d own cc nL ret) (ha : kd b a = 11) (hn : ln b a = n) (hin : inb j n = true) (hd : decode cc pc = .ok (.bastore, 1)) (hμ : up μ a (ix j) x.toInt8.toInt32 = μ2) (k : G l D b X nL v μ' (pc + 1) lc st μ2) : G l D b X nL v μ' pc lc (.int x :: .int j :: .ref (D.1 a) :: st) μ := by
  subst hμ
  exact g_bast hX ha hn hin hd k
theorem g_copyM {a0 a index : Nat} {sp dp n : Int32} {μ2 : Mem} (hX : Cx l D b X d own cc nL ret) (hcp : cpW) (hw : Cond.methodLink own index arraycopyName ∈ BIG) (h0 : kd b a0 = 10) (h1 : kd b a = 10) (hin : inC sp dp n (ln b a0) (ln b a) = true) (hsum : (st.map fun v => v.category).sum ≤ 8) (hd2 : 2 ≤ d) (hd : decode cc pc = .ok (.invokestatic index, 3)) (hμ : cpM μ a0 (ix sp) a (ix dp) (ix n) = μ2)
    (k : G l D b X nL v μ' (pc + 3) lc st μ2) : G l D b X nL v μ' pc lc (.int n :: .int dp :: .ref (D.1 a) :: .int sp :: .ref (D.1 a0) :: st) μ := by
  subst hμ
  exact g_copy hX hcp hw h0 h1 hin hsum hd2 hd k
theorem g_copyBM {a0 a index : Nat} {sp dp n : Int32} {μ2 : Mem} (hX : Cx l D b X d own cc nL ret) (hcp : cpW) (hw : Cond.methodLink own index arraycopyName ∈ BIG) (h0 : kd b a0 = 11) (h1 : kd b a = 11) (hin : inC sp dp n (ln b a0) (ln b a) = true) (hsum : (st.map fun v => v.category).sum ≤ 8) (hd2 : 2 ≤ d) (hd : decode cc pc = .ok (.invokestatic index, 3)) (hμ : cpM μ a0 (ix sp) a (ix dp) (ix n) = μ2)
    (k : G l D b X nL v μ' (pc + 3) lc st μ2) : G l D b X nL v μ' pc lc (.int n :: .int dp :: .ref (D.1 a) :: .int sp :: .ref (D.1 a0) :: st) μ := by
  subst hμ
  exact g_copyB hX hcp hw h0 h1 hin hsum hd2 hd k
theorem g_tsD {dflt lo hi : Int} {offs : Array Int} {len tgt : Nat} {x : Int32} (hX : Cx l D b X d own cc nL ret) (hd : decode cc pc = .ok (.tableswitch dflt lo hi offs, len)) (h : (x.toInt < lo ∨ hi < x.toInt) ∨ (¬ x.toInt < lo ∧ ¬ hi < x.toInt ∧ offs[(x.toInt - lo).toNat]? = some dflt)) (ht : (pc : Int) + dflt = (tgt : Int)) (k : G l D b X nL v μ' tgt lc st μ) : G l D b X nL v μ' pc lc (.int x :: st) μ := by
  rcases h with h | ⟨h1, h2, h3⟩
  · exact g_tsOut hX hd h ht k
  · exact g_tsIn hX hd h1 h2 h3 ht k

theorem g_callVi {d1 nL1 n index : Nat} {y1 : MethodName} {cc1 : ByteArray} {ret1 : Option FieldType} {r : Int32} {μ1 : Mem} {as : List Value} {st0 : List Value} {o ci : Nat} (hX : Cx l D b X d own cc nL ret) (hM : Ct l D b d1 y1 cc1 nL1 ret1 (.ref (D.1 o) :: as) μ (some (.int r)) μ1) (mv : MV y1 cc1 nL1 ret1 n) (hw : Cond.methodLink own index y1 ∈ BIG) (ho : kd b o = ci) (hc : (vwCl[ci]?).map (fun r => r.1) = some y1.cls) (hci : ci < 10) (hd1 : d1 + 1 ≤ d) (hn : as.length = n) (hst : st0 = as.reverse ++ .ref (D.1 o) :: st) (hsum : (st.map fun v => v.category).sum ≤ 8) (hd : decode cc pc = .ok (.invokevirtual index, 3))
    (k : G l D b X nL v μ' (pc + 3) lc (.int r :: st) μ1) : G l D b X nL v μ' pc lc st0 μ := g_callV hX hM mv hw ho hc hci hd1 hn hst hsum hd k
theorem g_callSi {d1 nL1 n index : Nat} {y1 : MethodName} {cc1 : ByteArray} {ret1 : Option FieldType} {r : Int32} {μ1 : Mem} {as : List Value} {st0 : List Value} (hX : Cx l D b X d own cc nL ret) (hM : Ct l D b d1 y1 cc1 nL1 ret1 as μ (some (.int r)) μ1) (mv : MS y1 cc1 nL1 ret1 n) (hw : Cond.methodLink own index y1 ∈ BIG) (hd1 : d1 + 1 ≤ d) (hn : as.length = n) (hst : st0 = as.reverse ++ st) (hsum : (st.map fun v => v.category).sum ≤ 8) (hd : decode cc pc = .ok (.invokestatic index, 3))
    (k : G l D b X nL v μ' (pc + 3) lc (.int r :: st) μ1) : G l D b X nL v μ' pc lc st0 μ := g_callS hX hM mv hw hd1 hn hst hsum hd k
theorem g_callSNi {d1 nL1 n index : Nat} {y1 : MethodName} {cc1 : ByteArray} {ret1 : Option FieldType} {r : Int32} {μ1 : Mem} {as : List Value} {st0 : List Value} {host : String} (hX : Cx l D true X d own cc nL ret) (hM : Ct l D true d1 y1 cc1 nL1 ret1 as μ (some (.int r)) μ1) (mv : MS y1 cc1 nL1 ret1 n) (hw : Cond.methodLinkNest own index y1 host ∈ nestL) (hd1 : d1 + 1 ≤ d) (hn : as.length = n) (hst : st0 = as.reverse ++ st) (hsum : (st.map fun v => v.category).sum ≤ 8) (hd : decode cc pc = .ok (.invokestatic index, 3))
    (k : G l D true X nL v μ' (pc + 3) lc (.int r :: st) μ1) : G l D true X nL v μ' pc lc st0 μ := g_callSN hX hM mv hw hd1 hn hst hsum hd k
theorem g_callVSi {d1 nL1 n index : Nat} {y1 : MethodName} {cc1 : ByteArray} {ret1 : Option FieldType} {r : Int32} {μ1 : Mem} {as : List Value} {st0 : List Value} {i : Nat} (hX : Cx l D true X d own cc nL ret) (hM : Ct l D true d1 y1 cc1 nL1 ret1 (.ref (D.1 (110 + i)) :: as) μ (some (.int r)) μ1) (mv : MV y1 cc1 nL1 ret1 n) (hw : Cond.methodLink own index y1 ∈ BIG) (hi : i < 3) (hc : y1.cls = "java/lang/String") (hd1 : d1 + 1 ≤ d) (hn : as.length = n) (hst : st0 = as.reverse ++ .ref (D.1 (110 + i)) :: st) (hsum : (st.map fun v => v.category).sum ≤ 8) (hd : decode cc pc = .ok (.invokevirtual index, 3))
    (k : G l D true X nL v μ' (pc + 3) lc (.int r :: st) μ1) : G l D true X nL v μ' pc lc st0 μ := g_callVS hX hM mv hw hi hc hd1 hn hst hsum hd k

theorem g_callVv {d1 nL1 n index : Nat} {y1 : MethodName} {cc1 : ByteArray} {ret1 : Option FieldType} {μ1 : Mem} {as : List Value} {st0 : List Value} {o ci : Nat} (hX : Cx l D b X d own cc nL ret) (hM : Ct l D b d1 y1 cc1 nL1 ret1 (.ref (D.1 o) :: as) μ none μ1) (mv : MV y1 cc1 nL1 ret1 n) (hw : Cond.methodLink own index y1 ∈ BIG) (ho : kd b o = ci) (hc : (vwCl[ci]?).map (fun r => r.1) = some y1.cls) (hci : ci < 10) (hd1 : d1 + 1 ≤ d) (hn : as.length = n) (hst : st0 = as.reverse ++ .ref (D.1 o) :: st) (hsum : (st.map fun v => v.category).sum ≤ 8) (hd : decode cc pc = .ok (.invokevirtual index, 3))
    (k : G l D b X nL v μ' (pc + 3) lc st μ1) : G l D b X nL v μ' pc lc st0 μ := g_callV hX hM mv hw ho hc hci hd1 hn hst hsum hd k
theorem g_callSv {d1 nL1 n index : Nat} {y1 : MethodName} {cc1 : ByteArray} {ret1 : Option FieldType} {μ1 : Mem} {as : List Value} {st0 : List Value} (hX : Cx l D b X d own cc nL ret) (hM : Ct l D b d1 y1 cc1 nL1 ret1 as μ none μ1) (mv : MS y1 cc1 nL1 ret1 n) (hw : Cond.methodLink own index y1 ∈ BIG) (hd1 : d1 + 1 ≤ d) (hn : as.length = n) (hst : st0 = as.reverse ++ st) (hsum : (st.map fun v => v.category).sum ≤ 8) (hd : decode cc pc = .ok (.invokestatic index, 3))
    (k : G l D b X nL v μ' (pc + 3) lc st μ1) : G l D b X nL v μ' pc lc st0 μ := g_callS hX hM mv hw hd1 hn hst hsum hd k
theorem g_callSNv {d1 nL1 n index : Nat} {y1 : MethodName} {cc1 : ByteArray} {ret1 : Option FieldType} {μ1 : Mem} {as : List Value} {st0 : List Value} {host : String} (hX : Cx l D true X d own cc nL ret) (hM : Ct l D true d1 y1 cc1 nL1 ret1 as μ none μ1) (mv : MS y1 cc1 nL1 ret1 n) (hw : Cond.methodLinkNest own index y1 host ∈ nestL) (hd1 : d1 + 1 ≤ d) (hn : as.length = n) (hst : st0 = as.reverse ++ st) (hsum : (st.map fun v => v.category).sum ≤ 8) (hd : decode cc pc = .ok (.invokestatic index, 3))
    (k : G l D true X nL v μ' (pc + 3) lc st μ1) : G l D true X nL v μ' pc lc st0 μ := g_callSN hX hM mv hw hd1 hn hst hsum hd k
theorem g_callVSv {d1 nL1 n index : Nat} {y1 : MethodName} {cc1 : ByteArray} {ret1 : Option FieldType} {μ1 : Mem} {as : List Value} {st0 : List Value} {i : Nat} (hX : Cx l D true X d own cc nL ret) (hM : Ct l D true d1 y1 cc1 nL1 ret1 (.ref (D.1 (110 + i)) :: as) μ none μ1) (mv : MV y1 cc1 nL1 ret1 n) (hw : Cond.methodLink own index y1 ∈ BIG) (hi : i < 3) (hc : y1.cls = "java/lang/String") (hd1 : d1 + 1 ≤ d) (hn : as.length = n) (hst : st0 = as.reverse ++ .ref (D.1 (110 + i)) :: st) (hsum : (st.map fun v => v.category).sum ≤ 8) (hd : decode cc pc = .ok (.invokevirtual index, 3))
    (k : G l D true X nL v μ' (pc + 3) lc st μ1) : G l D true X nL v μ' pc lc st0 μ := g_callVS hX hM mv hw hi hc hd1 hn hst hsum hd k

theorem g_callVr {d1 nL1 n index : Nat} {y1 : MethodName} {cc1 : ByteArray} {ret1 : Option FieldType} {r : Nat} {μ1 : Mem} {as : List Value} {st0 : List Value} {o ci : Nat} (hX : Cx l D b X d own cc nL ret) (hM : Ct l D b d1 y1 cc1 nL1 ret1 (.ref (D.1 o) :: as) μ (some (.ref r)) μ1) (mv : MV y1 cc1 nL1 ret1 n) (hw : Cond.methodLink own index y1 ∈ BIG) (ho : kd b o = ci) (hc : (vwCl[ci]?).map (fun r => r.1) = some y1.cls) (hci : ci < 10) (hd1 : d1 + 1 ≤ d) (hn : as.length = n) (hst : st0 = as.reverse ++ .ref (D.1 o) :: st) (hsum : (st.map fun v => v.category).sum ≤ 8) (hd : decode cc pc = .ok (.invokevirtual index, 3))
    (k : G l D b X nL v μ' (pc + 3) lc (.ref r :: st) μ1) : G l D b X nL v μ' pc lc st0 μ := g_callV hX hM mv hw ho hc hci hd1 hn hst hsum hd k
theorem g_callSr {d1 nL1 n index : Nat} {y1 : MethodName} {cc1 : ByteArray} {ret1 : Option FieldType} {r : Nat} {μ1 : Mem} {as : List Value} {st0 : List Value} (hX : Cx l D b X d own cc nL ret) (hM : Ct l D b d1 y1 cc1 nL1 ret1 as μ (some (.ref r)) μ1) (mv : MS y1 cc1 nL1 ret1 n) (hw : Cond.methodLink own index y1 ∈ BIG) (hd1 : d1 + 1 ≤ d) (hn : as.length = n) (hst : st0 = as.reverse ++ st) (hsum : (st.map fun v => v.category).sum ≤ 8) (hd : decode cc pc = .ok (.invokestatic index, 3))
    (k : G l D b X nL v μ' (pc + 3) lc (.ref r :: st) μ1) : G l D b X nL v μ' pc lc st0 μ := g_callS hX hM mv hw hd1 hn hst hsum hd k
theorem g_callSNr {d1 nL1 n index : Nat} {y1 : MethodName} {cc1 : ByteArray} {ret1 : Option FieldType} {r : Nat} {μ1 : Mem} {as : List Value} {st0 : List Value} {host : String} (hX : Cx l D true X d own cc nL ret) (hM : Ct l D true d1 y1 cc1 nL1 ret1 as μ (some (.ref r)) μ1) (mv : MS y1 cc1 nL1 ret1 n) (hw : Cond.methodLinkNest own index y1 host ∈ nestL) (hd1 : d1 + 1 ≤ d) (hn : as.length = n) (hst : st0 = as.reverse ++ st) (hsum : (st.map fun v => v.category).sum ≤ 8) (hd : decode cc pc = .ok (.invokestatic index, 3))
    (k : G l D true X nL v μ' (pc + 3) lc (.ref r :: st) μ1) : G l D true X nL v μ' pc lc st0 μ := g_callSN hX hM mv hw hd1 hn hst hsum hd k
theorem g_callVSr {d1 nL1 n index : Nat} {y1 : MethodName} {cc1 : ByteArray} {ret1 : Option FieldType} {r : Nat} {μ1 : Mem} {as : List Value} {st0 : List Value} {i : Nat} (hX : Cx l D true X d own cc nL ret) (hM : Ct l D true d1 y1 cc1 nL1 ret1 (.ref (D.1 (110 + i)) :: as) μ (some (.ref r)) μ1) (mv : MV y1 cc1 nL1 ret1 n) (hw : Cond.methodLink own index y1 ∈ BIG) (hi : i < 3) (hc : y1.cls = "java/lang/String") (hd1 : d1 + 1 ≤ d) (hn : as.length = n) (hst : st0 = as.reverse ++ .ref (D.1 (110 + i)) :: st) (hsum : (st.map fun v => v.category).sum ≤ 8) (hd : decode cc pc = .ok (.invokevirtual index, 3))
    (k : G l D true X nL v μ' (pc + 3) lc (.ref r :: st) μ1) : G l D true X nL v μ' pc lc st0 μ := g_callVS hX hM mv hw hi hc hd1 hn hst hsum hd k

end GR
