theorem pair_inj {α β : Type} {a c : α} {b d : β} (h : some (a, b) = some (c, d)) : a = c ∧ b = d := by
  have h1 := Option.some.inj h
  exact ⟨congrArg Prod.fst h1, congrArg Prod.snd h1⟩
section GR
variable {l : Launch} {D : DT} {b : Bool} {X : XT} {d : Nat} {own : String} {cc : ByteArray} {nL : Nat} {ret : Option FieldType} {v : Option Value} {μ μ' : Mem} {pc : Nat} {lc lc' : List (Option Value)} {st : List Value}

def jmax (x y : Int32) : Int32 := if x < y then y else x
def mmW_max : Prop := Cond.static Lib.Math.max.name ∈ BIG ∧ Cond.initialized "java/lang/Math" ∈ BIG ∧ Cond.code Lib.Math.max.name Lib.Math.max.code 2 (some .int) ∈ BIG
theorem g_mmax {index : Nat} {x y : Int32} (hX : Cx l D b X d own cc nL ret) (hm : mmW_max) (hw : Cond.methodLink own index Lib.Math.max.name ∈ BIG) (hd1 : 1 ≤ d) (hsum : (st.map fun v => v.category).sum ≤ 8) (hd : decode cc pc = .ok (.invokestatic index, 3))
    (k : G l D b X nL v μ' (pc + 3) lc (.int (jmax x y) :: st) μ) : G l D b X nL v μ' pc lc (.int y :: .int x :: st) μ := by
  obtain ⟨p, e, R, s, m, args, below, meth, c⟩ := X
  have hR : R = rmD d := hX.2.2.2.2.2.2.2.1
  subst hR
  exact fun H locs ls hW hS hl => va_mmax hX.1 hX.2.1 (hX.2.2.1.trans hl.1.symm) hX.2.2.2.1 (hX.2.2.2.2.1 _ hw) (hX.2.2.2.2.1 _ hm.1) (hX.2.2.2.2.1 _ hm.2.1) (hX.2.2.2.2.1 _ hm.2.2) (show 1 ≤ d from hd1) (show _ ≤ 40 * d by omega) (Nat.zero_le _) (Nat.zero_le _) hd (k H locs ls hW hS hl)

def jmin (x y : Int32) : Int32 := if y < x then y else x
def mmW_min : Prop := Cond.static Lib.Math.min.name ∈ BIG ∧ Cond.initialized "java/lang/Math" ∈ BIG ∧ Cond.code Lib.Math.min.name Lib.Math.min.code 2 (some .int) ∈ BIG
theorem g_mmin {index : Nat} {x y : Int32} (hX : Cx l D b X d own cc nL ret) (hm : mmW_min) (hw : Cond.methodLink own index Lib.Math.min.name ∈ BIG) (hd1 : 1 ≤ d) (hsum : (st.map fun v => v.category).sum ≤ 8) (hd : decode cc pc = .ok (.invokestatic index, 3))
    (k : G l D b X nL v μ' (pc + 3) lc (.int (jmin x y) :: st) μ) : G l D b X nL v μ' pc lc (.int y :: .int x :: st) μ := by
  obtain ⟨p, e, R, s, m, args, below, meth, c⟩ := X
  have hR : R = rmD d := hX.2.2.2.2.2.2.2.1
  subst hR
  exact fun H locs ls hW hS hl => va_mmin hX.1 hX.2.1 (hX.2.2.1.trans hl.1.symm) hX.2.2.2.1 (hX.2.2.2.2.1 _ hw) (hX.2.2.2.2.1 _ hm.1) (hX.2.2.2.2.1 _ hm.2.1) (hX.2.2.2.2.1 _ hm.2.2) (show 1 ≤ d from hd1) (show _ ≤ 40 * d by omega) (Nat.zero_le _) (Nat.zero_le _) hd (k H locs ls hW hS hl)

end GR
