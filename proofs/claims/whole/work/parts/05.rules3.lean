section GR
variable {l : Launch} {D : DT} {b : Bool} {X : XT} {d : Nat} {own : String} {cc : ByteArray} {nL : Nat} {ret : Option FieldType} {v : Option Value} {μ μ' : Mem} {pc : Nat} {lc lc' : List (Option Value)} {st : List Value}

/-! statics -/
theorem g_KA {index : Nat} (hX : Cx l D true X d own cc nL ret) (hw : Cond.fieldLink own index "GateMinds" "KIND_ABOVE" "[I" ∈ BIG) (hd : decode cc pc = .ok (.getstatic index, 3)) (k : G l D true X nL v μ' (pc + 3) lc (.ref (D.1 100) :: st) μ) : G l D true X nL v μ' pc lc st μ := by
  obtain ⟨p, e, R, s, m, args, below, meth, c⟩ := X
  have hE := hX.2.2.2.2.2.2.2.2.2 rfl
  exact fun H locs ls hW hS hl => va_gets hX.1 hX.2.1 hE.1 hS hX.2.2.2.1 (hX.2.2.2.2.1 _ hw) (fun x q => q) hd (k H locs ls hW hS hl)
theorem g_KAN {index : Nat} {host : String} (hX : Cx l D true X d own cc nL ret) (hw : Cond.fieldLinkNest own index "GateMinds" "KIND_ABOVE" "[I" host ∈ nestL) (hd : decode cc pc = .ok (.getstatic index, 3)) (k : G l D true X nL v μ' (pc + 3) lc (.ref (D.1 100) :: st) μ) : G l D true X nL v μ' pc lc st μ := by
  obtain ⟨p, e, R, s, m, args, below, meth, c⟩ := X
  have hE := hX.2.2.2.2.2.2.2.2.2 rfl
  exact fun H locs ls hW hS hl => va_getsN hX.1 hX.2.1 hE.1 hS hX.2.2.2.1 (va_Nw.use rfl (hE.2.2.2.2.2.2.2.2.2 _ hw)) (fun x q => q) hd (k H locs ls hW hS hl)
theorem g_BO {index : Nat} (hX : Cx l D true X d own cc nL ret) (hw : Cond.fieldLink own index "GateMinds$Speech" "BODIES" "[I" ∈ BIG) (hd : decode cc pc = .ok (.getstatic index, 3)) (k : G l D true X nL v μ' (pc + 3) lc (.ref (D.1 101) :: st) μ) : G l D true X nL v μ' pc lc st μ := by
  obtain ⟨p, e, R, s, m, args, below, meth, c⟩ := X
  have hE := hX.2.2.2.2.2.2.2.2.2 rfl
  exact fun H locs ls hW hS hl => va_gets hX.1 hX.2.1 hE.2.2.1 hS hX.2.2.2.1 (hX.2.2.2.2.1 _ hw) (fun x q => q) hd (k H locs ls hW hS hl)
theorem g_CS {index : Nat} (hX : Cx l D true X d own cc nL ret) (hw : Cond.fieldLink own index "java/lang/String" "COMPACT_STRINGS" "Z" ∈ BIG) (hd : decode cc pc = .ok (.getstatic index, 3)) (k : G l D true X nL v μ' (pc + 3) lc (.int 1 :: st) μ) : G l D true X nL v μ' pc lc st μ := by
  obtain ⟨p, e, R, s, m, args, below, meth, c⟩ := X
  have hE := hX.2.2.2.2.2.2.2.2.2 rfl
  exact fun H locs ls hW hS hl => va_gets hX.1 hX.2.1 hE.2.2.2.2.1 hS hX.2.2.2.1 (hX.2.2.2.2.1 _ hw) (fun x q => q) hd (k H locs ls hW hS hl)
def kAb (j : Int32) : Int32 := KA.getD (ix j) 0
def bOd (j : Int32) : Int32 := BO.getD (ix j) 0
theorem g_KAld {j : Int32} (hX : Cx l D true X d own cc nL ret) (hin : inb j 7 = true) (hd : decode cc pc = .ok (.iaload, 1)) (k : G l D true X nL v μ' (pc + 1) lc (.int (kAb j) :: st) μ) : G l D true X nL v μ' pc lc (.int j :: .ref (D.1 100) :: st) μ := by
  obtain ⟨p, e, R, s, m, args, below, meth, c⟩ := X
  have hE := hX.2.2.2.2.2.2.2.2.2 rfl
  exact fun H locs ls hW hS hl => va_ti hX.1 hX.2.1 hE.2.1 hS (inb_vp hin) rfl hd (k H locs ls hW hS hl)
theorem g_BOld {j : Int32} (hX : Cx l D true X d own cc nL ret) (hin : inb j 28 = true) (hd : decode cc pc = .ok (.iaload, 1)) (k : G l D true X nL v μ' (pc + 1) lc (.int (bOd j) :: st) μ) : G l D true X nL v μ' pc lc (.int j :: .ref (D.1 101) :: st) μ := by
  obtain ⟨p, e, R, s, m, args, below, meth, c⟩ := X
  have hE := hX.2.2.2.2.2.2.2.2.2 rfl
  exact fun H locs ls hW hS hl => va_ti hX.1 hX.2.1 hE.2.2.2.1 hS (inb_vp hin) rfl hd (k H locs ls hW hS hl)
theorem g_KAlen (hX : Cx l D true X d own cc nL ret) (hd : decode cc pc = .ok (.arraylength, 1)) (k : G l D true X nL v μ' (pc + 1) lc (.int 7 :: st) μ) : G l D true X nL v μ' pc lc (.ref (D.1 100) :: st) μ := by
  obtain ⟨p, e, R, s, m, args, below, meth, c⟩ := X
  have hE := hX.2.2.2.2.2.2.2.2.2 rfl
  exact fun H locs ls hW hS hl => va_tlen hX.1 hX.2.1 hE.2.1 hS (by decide) hd (k H locs ls hW hS hl)
theorem g_BOlen (hX : Cx l D true X d own cc nL ret) (hd : decode cc pc = .ok (.arraylength, 1)) (k : G l D true X nL v μ' (pc + 1) lc (.int 28 :: st) μ) : G l D true X nL v μ' pc lc (.ref (D.1 101) :: st) μ := by
  obtain ⟨p, e, R, s, m, args, below, meth, c⟩ := X
  have hE := hX.2.2.2.2.2.2.2.2.2 rfl
  exact fun H locs ls hW hS hl => va_tlen hX.1 hX.2.1 hE.2.2.2.1 hS (by decide) hd (k H locs ls hW hS hl)
/-! texts -/
theorem g_sVal {i index : Nat} (hX : Cx l D true X d own cc nL ret) (hi : i < 3) (hw : Cond.fieldLink own index "java/lang/String" "value" "[B" ∈ BIG) (hd : decode cc pc = .ok (.getfield index, 3)) (k : G l D true X nL v μ' (pc + 3) lc (.ref (D.1 (120 + i)) :: st) μ) : G l D true X nL v μ' pc lc (.ref (D.1 (110 + i)) :: st) μ := by
  obtain ⟨p, e, R, s, m, args, below, meth, c⟩ := X
  have hE := hX.2.2.2.2.2.2.2.2.2 rfl
  exact fun H locs ls hW hS hl => vk_getf hX.1 hX.2.1 (hE.2.2.2.2.2.1.1 i hi).2.2.1 hS hX.2.2.2.1 (hX.2.2.2.2.1 _ hw) (fun x q => q) hd (k H locs ls hW hS hl)
theorem g_sCod {i index : Nat} (hX : Cx l D true X d own cc nL ret) (hi : i < 3) (hw : Cond.fieldLink own index "java/lang/String" "coder" "B" ∈ BIG) (hd : decode cc pc = .ok (.getfield index, 3)) (k : G l D true X nL v μ' (pc + 3) lc (.int 0 :: st) μ) : G l D true X nL v μ' pc lc (.ref (D.1 (110 + i)) :: st) μ := by
  obtain ⟨p, e, R, s, m, args, below, meth, c⟩ := X
  have hE := hX.2.2.2.2.2.2.2.2.2 rfl
  exact fun H locs ls hW hS hl => vk_getf hX.1 hX.2.1 (hE.2.2.2.2.2.1.1 i hi).2.1 hS hX.2.2.2.1 (hX.2.2.2.2.1 _ hw) (fun x q => q) hd (k H locs ls hW hS hl)
def sB (i : Nat) (j : Int32) : Int32 := (sByt.getD i []).getD (ix j) 0
def sL (i : Nat) : Int32 := Int32.ofNat (sLen.getD i 0)
theorem g_sByte {i : Nat} {j : Int32} (hX : Cx l D true X d own cc nL ret) (hi : i < 3) (hin : inb j (sLen.getD i 0) = true) (hd : decode cc pc = .ok (.baload, 1)) (k : G l D true X nL v μ' (pc + 1) lc (.int (sB i j) :: st) μ) : G l D true X nL v μ' pc lc (.int j :: .ref (D.1 (120 + i)) :: st) μ := by
  obtain ⟨p, e, R, s, m, args, below, meth, c⟩ := X
  have hE := hX.2.2.2.2.2.2.2.2.2 rfl
  exact fun H locs ls hW hS hl => va_tb hX.1 hX.2.1 (hE.2.2.2.2.2.1.1 i hi).2.2.2 hS (inb_vp hin) rfl hd (k H locs ls hW hS hl)
theorem g_sLen {i : Nat} (hX : Cx l D true X d own cc nL ret) (hi : i < 3) (hd : decode cc pc = .ok (.arraylength, 1)) (k : G l D true X nL v μ' (pc + 1) lc (.int (sL i) :: st) μ) : G l D true X nL v μ' pc lc (.ref (D.1 (120 + i)) :: st) μ := by
  obtain ⟨p, e, R, s, m, args, below, meth, c⟩ := X
  have hE := hX.2.2.2.2.2.2.2.2.2 rfl
  exact fun H locs ls hW hS hl => va_tlen hX.1 hX.2.1 (hE.2.2.2.2.2.1.1 i hi).2.2.2 hS rfl hd (k H locs ls hW hS hl)
theorem g_callVS {d1 nL1 n index i : Nat} {y1 : MethodName} {cc1 : ByteArray} {ret1 : Option FieldType} {v1 : Option Value} {μ1 : Mem} {as : List Value} {st0 : List Value} (hX : Cx l D true X d own cc nL ret) (hM : Ct l D true d1 y1 cc1 nL1 ret1 (.ref (D.1 (110 + i)) :: as) μ v1 μ1) (mv : MV y1 cc1 nL1 ret1 n) (hw : Cond.methodLink own index y1 ∈ BIG) (hi : i < 3) (hc : y1.cls = "java/lang/String") (hd1 : d1 + 1 ≤ d) (hn : as.length = n) (hst : st0 = as.reverse ++ .ref (D.1 (110 + i)) :: st) (hsum : (st.map fun v => v.category).sum ≤ 8) (hd : decode cc pc = .ok (.invokevirtual index, 3))
    (k : G l D true X nL v μ' (pc + 3) lc (v1.toList ++ st) μ1) : G l D true X nL v μ' pc lc st0 μ := by
  refine g_run (a := (Value.ref (D.1 (110 + i)) :: as).toArray) ?_ k
  rintro p e R s m args below meth c rfl H locs ls hW hS hl
  obtain ⟨m1, m2, m3, m4, m5, m6, m7, m8⟩ := mv
  have hR : R = rmD d := hX.2.2.2.2.2.2.2.1
  subst hR
  have hE := hX.2.2.2.2.2.2.2.2.2 rfl
  have cw : CallW (rmD d) s args own y1.cls index y1 cc1 nL1 ret1 (wsA y1 cc1 nL1 ret1) (rmD d1) 0 0 n :=
    cwV (Ts := BIG) n hX.2.2.2.2.1 (goodOf (by
      intro w hw2
      unfold wsV at hw2
      rcases List.mem_append.mp hw2 with q | q
      · simp only [List.mem_cons, List.not_mem_nil, or_false] at q
        rcases q with rfl | rfl | rfl | rfl
        · exact hw
        · exact m1
        · exact m2
        · exact m3
      · exact (goodB m4 w q).1)) rfl rfl rfl ⟨rfl, m6, m7, m8⟩ ⟨hd1, by show 8 + (nL1 + 11) + 40 * d1 ≤ 40 * d; omega⟩
  have hrecv := vk_recv (i := i) (H := H) (locs := locs) hE.2.2.2.2.2.1 hi hS
  rw [← hc] at hrecv
  exact va_runV (own := own) (g := F0 m pc ls st0) ⟨hX.1, hX.2.1, hX.2.2.1, hX.2.2.2.1, hX.2.2.2.2.1⟩ hM cw ⟨Sg_blind, hrecv, fun U hU hWm => ⟨rfl, by rw [hU]; exact hW, va_K.moved hWm.alike hX.2.2.2.2.2.2.2.2.1, fun _ => EnvD_call hE hS hU hWm⟩⟩ rfl hn hl.1 hst (lv_room hsum) hd ⟨Nat.le_refl _, Nat.le_refl _⟩
/-! System.arraycopy -/
def inC (sp dp n : Int32) (n0 n1 : Nat) : Bool := decide (0 ≤ sp.toInt) && (decide (0 ≤ dp.toInt) && (decide (0 ≤ n.toInt) && (decide (sp.toInt + n.toInt ≤ n0) && decide (dp.toInt + n.toInt ≤ n1))))
def cpM (μ : Mem) (a0 sp a dp n : Nat) : Mem := fun i k => if i = a then va_cpy (μ a0) (μ a) sp dp n k else μ i k
theorem ent_cp {D : DT} {b : Bool} {μ : Mem} {a0 sp a dp n i : Nat} (h : i ≠ a) : ent D b (cpM μ a0 sp a dp n) i = ent D b μ i := by
  have h1 : (cpM μ a0 sp a dp n) i = μ i := by funext c; simp [cpM, h]
  have h2 : fv D b (cpM μ a0 sp a dp n) i (kd b i) = fv D b μ i (kd b i) := by funext c; simp only [fv, h1]
  simp only [ent, h1, h2]
theorem inC_sp {sp dp n : Int32} {n0 n1 : Nat} (h : inC sp dp n n0 n1 = true) : ¬ sp < 0 ∧ ¬ dp < 0 ∧ ¬ n < 0 ∧ ix sp + ix n ≤ n0 ∧ ix dp + ix n ≤ n1 := by
  simp only [inC, Bool.and_eq_true, decide_eq_true_eq] at h
  obtain ⟨h1, h2, h3, h4, h5⟩ := h
  have e : ∀ z : Int32, 0 ≤ z.toInt → ((ix z : Nat) : Int) = z.toInt := fun z hz => by
    show ((z.toInt.toNat : Nat) : Int) = _
    omega
  have f : ∀ z : Int32, 0 ≤ z.toInt → ¬ z < 0 := fun z hz q => by
    have := Int32.lt_iff_toInt_lt.mp q
    simp at this
    omega
  refine ⟨f _ h1, f _ h2, f _ h3, ?_, ?_⟩
  · have := e _ h1; have := e _ h3; omega
  · have := e _ h2; have := e _ h3; omega
theorem nfw : nativeFrameWords "java/lang/System" "arraycopy" 5 ≤ 41 := by decide +kernel
def cpW : Prop := Cond.native arraycopyName ∈ BIG ∧ Cond.static arraycopyName ∈ BIG ∧ Cond.initialized "java/lang/System" ∈ BIG
theorem g_copy {a0 a index : Nat} {sp dp n : Int32} (hX : Cx l D b X d own cc nL ret) (hcp : cpW) (hw : Cond.methodLink own index arraycopyName ∈ BIG) (h0 : kd b a0 = 10) (h1 : kd b a = 10) (hin : inC sp dp n (ln b a0) (ln b a) = true) (hsum : (st.map fun v => v.category).sum ≤ 8) (hd2 : 2 ≤ d) (hd : decode cc pc = .ok (.invokestatic index, 3))
    (k : G l D b X nL v μ' (pc + 3) lc st (cpM μ a0 (ix sp) a (ix dp) (ix n))) : G l D b X nL v μ' pc lc (.int n :: .int dp :: .ref (D.1 a) :: .int sp :: .ref (D.1 a0) :: st) μ := by
  obtain ⟨p, e, R, s, m, args, below, meth, c⟩ := X
  have hR : R = rmD d := hX.2.2.2.2.2.2.2.1
  subst hR
  obtain ⟨c1, c2, c3, c4, c5⟩ := inC_sp hin
  have hnf := nfw
  intro H locs ls hW hS hl
  refine va_copyi hX.1 hX.2.1 (hX.2.2.1.trans hl.1.symm) hX.2.2.2.1 (hX.2.2.2.2.1 _ hw) (hX.2.2.2.2.1 _ hcp.1) (hX.2.2.2.2.1 _ hcp.2.1) (hX.2.2.2.2.1 _ hcp.2.2) hX.2.2.2.2.2.2.2.2.1 hW.1 hW.2.1 hS a0 a 0 0 (arr_at h0) (arr_at h1) rfl rfl rfl c1 c2 c3 c4 c5 (fun _ _ => rfl) (show 1 ≤ d by omega) (show _ ≤ 40 * d by omega) hd (fun H1 locs1 hP hD hS1 => ?_)
  have he : (cellsD D b μ).set a (D.1 a, .inl (D.2.2.2 0, ln b a, .inl (va_cpy (μ a0) (μ a) sp.toNatClampNeg dp.toNatClampNeg n.toNatClampNeg))) = cellsD D b (cpM μ a0 (ix sp) a (ix dp) (ix n)) := cellsD_set (kd_lt h1 (by omega)) (by
    have e : (cpM μ a0 (ix sp) a (ix dp) (ix n)) a = va_cpy (μ a0) (μ a) sp.toNatClampNeg dp.toNatClampNeg n.toNatClampNeg := by funext c; simp [cpM]
    unfold ent; rw [if_neg (by omega), if_pos h1, e]) (fun i q => ent_cp q)
  rw [he] at hP hD
  refine k H1 locs1 ls ⟨hP, hD, fun i j hi => ?_⟩ hS1 hl
  have hne : i ≠ a := fun q => by rw [q, h1] at hi; omega
  have e : (cpM μ a0 (ix sp) a (ix dp) (ix n)) i j = μ i j := by simp [cpM, hne]
  rw [e]
  exact hW.2.2 i j hi
theorem g_copyB {a0 a index : Nat} {sp dp n : Int32} (hX : Cx l D b X d own cc nL ret) (hcp : cpW) (hw : Cond.methodLink own index arraycopyName ∈ BIG) (h0 : kd b a0 = 11) (h1 : kd b a = 11) (hin : inC sp dp n (ln b a0) (ln b a) = true) (hsum : (st.map fun v => v.category).sum ≤ 8) (hd2 : 2 ≤ d) (hd : decode cc pc = .ok (.invokestatic index, 3))
    (k : G l D b X nL v μ' (pc + 3) lc st (cpM μ a0 (ix sp) a (ix dp) (ix n))) : G l D b X nL v μ' pc lc (.int n :: .int dp :: .ref (D.1 a) :: .int sp :: .ref (D.1 a0) :: st) μ := by
  obtain ⟨p, e, R, s, m, args, below, meth, c⟩ := X
  have hR : R = rmD d := hX.2.2.2.2.2.2.2.1
  subst hR
  obtain ⟨c1, c2, c3, c4, c5⟩ := inC_sp hin
  have hnf := nfw
  intro H locs ls hW hS hl
  refine va_copyi hX.1 hX.2.1 (hX.2.2.1.trans hl.1.symm) hX.2.2.2.1 (hX.2.2.2.2.1 _ hw) (hX.2.2.2.2.1 _ hcp.1) (hX.2.2.2.2.1 _ hcp.2.1) (hX.2.2.2.2.1 _ hcp.2.2) hX.2.2.2.2.2.2.2.2.1 hW.1 hW.2.1 hS a0 a 1 1 (arrB_at h0) (arrB_at h1) rfl rfl rfl c1 c2 c3 c4 c5 (fun i _ => hW.2.2 a0 _ h0) (show 1 ≤ d by omega) (show _ ≤ 40 * d by omega) hd (fun H1 locs1 hP hD hS1 => ?_)
  have he : (cellsD D b μ).set a (D.1 a, .inl (D.2.2.2 1, ln b a, .inl (va_cpy (μ a0) (μ a) sp.toNatClampNeg dp.toNatClampNeg n.toNatClampNeg))) = cellsD D b (cpM μ a0 (ix sp) a (ix dp) (ix n)) := cellsD_set (kd_lt h1 (by omega)) (by
    have e : (cpM μ a0 (ix sp) a (ix dp) (ix n)) a = va_cpy (μ a0) (μ a) sp.toNatClampNeg dp.toNatClampNeg n.toNatClampNeg := by funext c; simp [cpM]
    unfold ent; rw [if_neg (by omega), if_neg (by omega), if_pos h1, e]) (fun i q => ent_cp q)
  rw [he] at hP hD
  refine k H1 locs1 ls ⟨hP, hD, fun i j hi => ?_⟩ hS1 hl
  by_cases hne : i = a
  · subst hne
    have e : (cpM μ a0 (ix sp) i (ix dp) (ix n)) i j = va_cpy (μ a0) (μ i) (ix sp) (ix dp) (ix n) j := by simp [cpM]
    rw [e]
    unfold va_cpy
    split
    · exact hW.2.2 a0 _ h0
    · exact hW.2.2 i _ hi
  · have e : (cpM μ a0 (ix sp) a (ix dp) (ix n)) i j = μ i j := by simp [cpM, hne]
    rw [e]
    exact hW.2.2 i j hi

end GR
