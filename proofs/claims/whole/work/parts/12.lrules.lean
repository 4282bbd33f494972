/-! THE LAW: both sides' worlds at once -/
def CxL (l : Launch) (D E : DT) (X : XT) (sb sL : Nat) (sx : Nat → Int32) (cc : ByteArray) : Prop := match X with
  | (p, _, R, s, m, args, _, meth, c) => p.tables.exec = Jvm.exec ∧ c.code = cc ∧ c.maxLocals = 4 ∧ s.vm.findClass RL = some m.cls ∧ (∀ w ∈ BIG, w.before args s = true) ∧ meth.sig.returnType = ret ∧ meth.locks = false ∧ R = room_1 ∧ va_K (gD D) vwCl (tysD D) s ∧ EnvD D (fun q => s.heap.size ≤ q) s ∧ va_K (gD E) vwCl (tysD E) s ∧ va_X sb sL sx s s.heap ∧ sb < s.heap.size ∧ (∀ i, i < cnt true → s.heap.size ≤ D.1 i) ∧ (∀ i, i < cnt false → s.heap.size ≤ E.1 i) ∧ ∀ i j, i < cnt true → j < cnt false → D.1 i ≠ E.1 j
def GL (l : Launch) (D E : DT) (X : XT) (Q : State → Prop) (cells slots : Nat) (pc : Nat) (lc : List (Option Value)) (st : List Value) (μ ν : Mem) : Prop := match X with
  | (p, e, R, s, m, args, below, meth, c) => ∀ (H : Heap) (locs : List Loc) (ls : Array Slot), (Wd D true μ H ∧ Wd E false ν H) → va_S (fun q => s.heap.size ≤ q) s.heap H locs → lvP ls 4 lc → W p l e R s m args below meth c H locs cells slots Q (F0 m pc ls st)

section GLR
variable {l : Launch} {D E : DT} {X : XT} {Q : State → Prop} {cells slots : Nat} {sb sL : Nat} {sx : Nat → Int32} {cc : ByteArray} {μ ν : Mem} {pc : Nat} {lc lc' : List (Option Value)} {st : List Value}

theorem gl_iconst {n : Int} {x : Int32} (hX : CxL l D E X sb sL sx cc) (hd : decode cc pc = .ok (.iconst n, 1)) (hv : Int32.ofInt n = x) (k : GL l D E X Q cells slots (pc + 1) lc (.int x :: st) μ ν) : GL l D E X Q cells slots pc lc st μ ν := by
  obtain ⟨p, e, R, s, m, args, below, meth, c⟩ := X
  exact fun H locs ls hW hS hl => lv_iconst hX.1 hX.2.1 hd hv (k H locs ls hW hS hl)
theorem gl_bipush {n : Int} {x : Int32} (hX : CxL l D E X sb sL sx cc) (hd : decode cc pc = .ok (.bipush n, 2)) (hv : (Int8.ofInt n).toInt32 = x) (k : GL l D E X Q cells slots (pc + 2) lc (.int x :: st) μ ν) : GL l D E X Q cells slots pc lc st μ ν := by
  obtain ⟨p, e, R, s, m, args, below, meth, c⟩ := X
  exact fun H locs ls hW hS hl => lv_bipush hX.1 hX.2.1 hd hv (k H locs ls hW hS hl)
theorem gl_ldc2 {index : Nat} {x : Int64} (hX : CxL l D E X sb sL sx cc) (hd : decode cc pc = .ok (.ldc2_w index, 3)) (hw : Cond.constantLong RL index x ∈ BIG) (k : GL l D E X Q cells slots (pc + 3) lc (.long x :: st) μ ν) : GL l D E X Q cells slots pc lc st μ ν := by
  obtain ⟨p, e, R, s, m, args, below, meth, c⟩ := X
  exact fun H locs ls hW hS hl => lv_ldc2 hX.1 hX.2.1 hX.2.2.2.1 (hX.2.2.2.2.1 _ hw) hd (k H locs ls hW hS hl)
theorem gl_iload_n {i : Fin 4} {n : Nat} {x : Int32} (hX : CxL l D E X sb sL sx cc) (hd : decode cc pc = .ok (.iload_n i, 1)) (hi : (i : Nat) = n) (hl0 : lc[n]? = some (some (.int x))) (k : GL l D E X Q cells slots (pc + 1) lc (.int x :: st) μ ν) : GL l D E X Q cells slots pc lc st μ ν := by
  obtain ⟨p, e, R, s, m, args, below, meth, c⟩ := X
  exact fun H locs ls hW hS hl => lv_iload_n hX.1 hX.2.1 hd hi (lvP_at hl hl0) (k H locs ls hW hS hl)
theorem gl_aload_n {i : Fin 4} {n : Nat} {x : Nat} (hX : CxL l D E X sb sL sx cc) (hd : decode cc pc = .ok (.aload_n i, 1)) (hi : (i : Nat) = n) (hl0 : lc[n]? = some (some (.ref x))) (k : GL l D E X Q cells slots (pc + 1) lc (.ref x :: st) μ ν) : GL l D E X Q cells slots pc lc st μ ν := by
  obtain ⟨p, e, R, s, m, args, below, meth, c⟩ := X
  exact fun H locs ls hW hS hl => lv_aload_n hX.1 hX.2.1 hd hi (lvP_at hl hl0) (k H locs ls hW hS hl)
theorem gl_istore_n {i : Fin 4} {n : Nat} {x : Int32} (hX : CxL l D E X sb sL sx cc) (hd : decode cc pc = .ok (.istore_n i, 1)) (hi : (i : Nat) = n) (hn : n < 4) (hp : okP lc n = true) (hl0 : lc.set n (some (.int x)) = lc') (k : GL l D E X Q cells slots (pc + 1) lc' st μ ν) : GL l D E X Q cells slots pc lc (.int x :: st) μ ν := by
  obtain ⟨p, e, R, s, m, args, below, meth, c⟩ := X
  exact fun H locs ls hW hS hl => lv_istore_n hX.1 hX.2.1 hd hi hl hn rfl (fun ls' hl' => k H locs ls' hW hS (lvP_set hl' hp hl0))
theorem gl_astore_n {i : Fin 4} {n : Nat} {x : Nat} (hX : CxL l D E X sb sL sx cc) (hd : decode cc pc = .ok (.astore_n i, 1)) (hi : (i : Nat) = n) (hn : n < 4) (hp : okP lc n = true) (hl0 : lc.set n (some (.ref x)) = lc') (k : GL l D E X Q cells slots (pc + 1) lc' st μ ν) : GL l D E X Q cells slots pc lc (.ref x :: st) μ ν := by
  obtain ⟨p, e, R, s, m, args, below, meth, c⟩ := X
  exact fun H locs ls hW hS hl => lv_astore_n hX.1 hX.2.1 hd hi hl hn rfl (fun ls' hl' => k H locs ls' hW hS (lvP_set hl' hp hl0))
theorem gl_iinc {n : Nat} {i : Int} {x y : Int32} (hX : CxL l D E X sb sL sx cc) (hd : decode cc pc = .ok (.iinc n i, 3)) (hn : n < 4) (hx : lc[n]? = some (some (.int x))) (hy : x + Int32.ofInt i = y) (hp : okP lc n = true) (hl0 : lc.set n (some (.int y)) = lc') (k : GL l D E X Q cells slots (pc + 3) lc' st μ ν) : GL l D E X Q cells slots pc lc st μ ν := by
  obtain ⟨p, e, R, s, m, args, below, meth, c⟩ := X
  intro H locs ls hW hS hl
  obtain ⟨k0, hk0⟩ := toA_at hx
  exact lv_iinc hX.1 hX.2.1 hd hl hk0 hy hn rfl (fun ls' hl' => k H locs ls' hW hS (lvP_set hl' hp hl0))
theorem gl_iadd {x y : Int32} (hX : CxL l D E X sb sL sx cc) (hd : decode cc pc = .ok (.iadd, 1)) (k : GL l D E X Q cells slots (pc + 1) lc (.int (x + y) :: st) μ ν) : GL l D E X Q cells slots pc lc (.int y :: .int x :: st) μ ν := by
  obtain ⟨p, e, R, s, m, args, below, meth, c⟩ := X
  exact fun H locs ls hW hS hl => lv_iadd hX.1 hX.2.1 hd (k H locs ls hW hS hl)
theorem gl_isub {x y : Int32} (hX : CxL l D E X sb sL sx cc) (hd : decode cc pc = .ok (.isub, 1)) (k : GL l D E X Q cells slots (pc + 1) lc (.int (x - y) :: st) μ ν) : GL l D E X Q cells slots pc lc (.int y :: .int x :: st) μ ν := by
  obtain ⟨p, e, R, s, m, args, below, meth, c⟩ := X
  exact fun H locs ls hW hS hl => lv_isub hX.1 hX.2.1 hd (k H locs ls hW hS hl)
theorem gl_iand {x y : Int32} (hX : CxL l D E X sb sL sx cc) (hd : decode cc pc = .ok (.iand, 1)) (k : GL l D E X Q cells slots (pc + 1) lc (.int (x &&& y) :: st) μ ν) : GL l D E X Q cells slots pc lc (.int y :: .int x :: st) μ ν := by
  obtain ⟨p, e, R, s, m, args, below, meth, c⟩ := X
  exact fun H locs ls hW hS hl => lv_iand hX.1 hX.2.1 hd (k H locs ls hW hS hl)
theorem gl_i2l {x : Int32} (hX : CxL l D E X sb sL sx cc) (hd : decode cc pc = .ok (.i2l, 1)) (k : GL l D E X Q cells slots (pc + 1) lc (.long x.toInt64 :: st) μ ν) : GL l D E X Q cells slots pc lc (.int x :: st) μ ν := by
  obtain ⟨p, e, R, s, m, args, below, meth, c⟩ := X
  exact fun H locs ls hW hS hl => lv_i2l hX.1 hX.2.1 hd rfl (k H locs ls hW hS hl)
theorem gl_lshl {x : Int64} {y : Int32} (hX : CxL l D E X sb sL sx cc) (hd : decode cc pc = .ok (.lshl, 1)) (k : GL l D E X Q cells slots (pc + 1) lc (.long (x <<< (y.toInt64 &&& 63)) :: st) μ ν) : GL l D E X Q cells slots pc lc (.int y :: .long x :: st) μ ν := by
  obtain ⟨p, e, R, s, m, args, below, meth, c⟩ := X
  exact fun H locs ls hW hS hl => lv_lshl hX.1 hX.2.1 hd rfl (k H locs ls hW hS hl)
theorem gl_land {x y : Int64} (hX : CxL l D E X sb sL sx cc) (hd : decode cc pc = .ok (.land, 1)) (k : GL l D E X Q cells slots (pc + 1) lc (.long (x &&& y) :: st) μ ν) : GL l D E X Q cells slots pc lc (.long y :: .long x :: st) μ ν := by
  obtain ⟨p, e, R, s, m, args, below, meth, c⟩ := X
  exact fun H locs ls hW hS hl => lv_land hX.1 hX.2.1 hd (k H locs ls hW hS hl)
theorem gl_lor {x y : Int64} (hX : CxL l D E X sb sL sx cc) (hd : decode cc pc = .ok (.lor, 1)) (k : GL l D E X Q cells slots (pc + 1) lc (.long (x ||| y) :: st) μ ν) : GL l D E X Q cells slots pc lc (.long y :: .long x :: st) μ ν := by
  obtain ⟨p, e, R, s, m, args, below, meth, c⟩ := X
  exact fun H locs ls hW hS hl => lv_lor hX.1 hX.2.1 hd (k H locs ls hW hS hl)
theorem gl_dup {a : Value} (hX : CxL l D E X sb sL sx cc) (hd : decode cc pc = .ok (.dup, 1)) (ha : a.category = 1) (k : GL l D E X Q cells slots (pc + 1) lc (a :: a :: st) μ ν) : GL l D E X Q cells slots pc lc (a :: st) μ ν := by
  obtain ⟨p, e, R, s, m, args, below, meth, c⟩ := X
  exact fun H locs ls hW hS hl => lv_dup hX.1 hX.2.1 hd ha (k H locs ls hW hS hl)
theorem gl_icmp_eq {off : Int} {tgt : Nat} {x y : Int32} (hX : CxL l D E X sb sL sx cc) (hd : decode cc pc = .ok (.if_icmp .eq off, 3)) (ht : (pc : Int) + off = (tgt : Int)) (kt : x = y → GL l D E X Q cells slots tgt lc st μ ν) (kf : ¬ x = y → GL l D E X Q cells slots (pc + 3) lc st μ ν) : GL l D E X Q cells slots pc lc (.int y :: .int x :: st) μ ν := by
  obtain ⟨p, e, R, s, m, args, below, meth, c⟩ := X
  exact fun H locs ls hW hS hl => lv_icmp_eq hX.1 hX.2.1 hd ht (fun q => kt q H locs ls hW hS hl) (fun q => kf q H locs ls hW hS hl)
theorem gl_icmp_gt {off : Int} {tgt : Nat} {x y : Int32} (hX : CxL l D E X sb sL sx cc) (hd : decode cc pc = .ok (.if_icmp .gt off, 3)) (ht : (pc : Int) + off = (tgt : Int)) (kt : y < x → GL l D E X Q cells slots tgt lc st μ ν) (kf : ¬ y < x → GL l D E X Q cells slots (pc + 3) lc st μ ν) : GL l D E X Q cells slots pc lc (.int y :: .int x :: st) μ ν := by
  obtain ⟨p, e, R, s, m, args, below, meth, c⟩ := X
  exact fun H locs ls hW hS hl => lv_icmp_gt hX.1 hX.2.1 hd ht (fun q => kt q H locs ls hW hS hl) (fun q => kf q H locs ls hW hS hl)
theorem gl_goto {off : Int} {tgt : Nat} (hX : CxL l D E X sb sL sx cc) (hd : decode cc pc = .ok (.goto off, 3)) (ht : (pc : Int) + off = (tgt : Int)) (k : GL l D E X Q cells slots tgt lc st μ ν) : GL l D E X Q cells slots pc lc st μ ν := by
  obtain ⟨p, e, R, s, m, args, below, meth, c⟩ := X
  exact fun H locs ls hW hS hl => lv_goto hX.1 hX.2.1 hd ht (k H locs ls hW hS hl)
theorem gl_tsIn {dflt lo hi off : Int} {offs : Array Int} {len tgt : Nat} {x : Int32} (hX : CxL l D E X sb sL sx cc) (hd : decode cc pc = .ok (.tableswitch dflt lo hi offs, len)) (h1 : ¬ x.toInt < lo) (h2 : ¬ hi < x.toInt) (ho : offs[(x.toInt - lo).toNat]? = some off) (ht : (pc : Int) + off = (tgt : Int)) (k : GL l D E X Q cells slots tgt lc st μ ν) : GL l D E X Q cells slots pc lc (.int x :: st) μ ν := by
  obtain ⟨p, e, R, s, m, args, below, meth, c⟩ := X
  exact fun H locs ls hW hS hl => lv_tableIn hX.1 hX.2.1 hd h1 h2 ho ht (k H locs ls hW hS hl)
theorem gl_tsOut {dflt lo hi : Int} {offs : Array Int} {len tgt : Nat} {x : Int32} (hX : CxL l D E X sb sL sx cc) (hd : decode cc pc = .ok (.tableswitch dflt lo hi offs, len)) (h : x.toInt < lo ∨ hi < x.toInt) (ht : (pc : Int) + dflt = (tgt : Int)) (k : GL l D E X Q cells slots tgt lc st μ ν) : GL l D E X Q cells slots pc lc (.int x :: st) μ ν := by
  obtain ⟨p, e, R, s, m, args, below, meth, c⟩ := X
  exact fun H locs ls hW hS hl => lv_tableOut hX.1 hX.2.1 hd h ht (k H locs ls hW hS hl)
theorem gl_sld {j : Int32} (hX : CxL l D E X sb sL sx cc) (hin : inb j sL = true) (hd : decode cc pc = .ok (.iaload, 1)) (k : GL l D E X Q cells slots (pc + 1) lc (.int (sx (ix j)) :: st) μ ν) : GL l D E X Q cells slots pc lc (.int j :: .ref sb :: st) μ ν := by
  obtain ⟨p, e, R, s, m, args, below, meth, c⟩ := X
  exact fun H locs ls hW hS hl => va_sld hX.1 hX.2.1 hX.2.2.2.2.2.2.2.2.2.2.2.1 hX.2.2.2.2.2.2.2.2.2.2.2.2.1 (Nat.not_le.mpr hX.2.2.2.2.2.2.2.2.2.2.2.2.1) hS (inb_vp hin) hd (k H locs ls hW hS hl)
theorem gl_slen (hX : CxL l D E X sb sL sx cc) (hd : decode cc pc = .ok (.arraylength, 1)) (k : GL l D E X Q cells slots (pc + 1) lc (.int (Int32.ofNat sL) :: st) μ ν) : GL l D E X Q cells slots pc lc (.ref sb :: st) μ ν := by
  obtain ⟨p, e, R, s, m, args, below, meth, c⟩ := X
  exact fun H locs ls hW hS hl => va_slen hX.1 hX.2.1 hX.2.2.2.2.2.2.2.2.2.2.2.1 hX.2.2.2.2.2.2.2.2.2.2.2.2.1 (Nat.not_le.mpr hX.2.2.2.2.2.2.2.2.2.2.2.2.1) hS hd (k H locs ls hW hS hl)
theorem gl_weak (h : subL lc' lc) (k : GL l D E X Q cells slots pc lc' st μ ν) : GL l D E X Q cells slots pc lc st μ ν := by
  obtain ⟨p, e, R, s, m, args, below, meth, c⟩ := X
  exact fun H locs ls hW hS hl => k H locs ls hW hS (lvP_of hl (fun q hq => by
    obtain ⟨i, v⟩ := q
    obtain ⟨j, rfl, hj⟩ := toA_mem.mp hq
    exact toA_mem.mpr ⟨j, rfl, subL_at h hj⟩))
theorem Wd_other {D E : DT} {b b' : Bool} {ν : Mem} {st t : State} (hF : va_F (AI D b) st t) (hW : Wd E b' ν st.heap) (hdj : ∀ i j, i < cnt b → j < cnt b' → D.1 i ≠ E.1 j) : Wd E b' ν t.heap := by
  refine ⟨va_P.kept hW.1 (fun k q hk => ?_), hW.2⟩
  have hlt := (hW.1 k q hk).lt
  refine hF.2 q.1 hlt ?_
  rintro ⟨i, hi, he⟩
  obtain ⟨j, hj, he2⟩ := hW.2.1.2 k q hk
  exact hdj i j hi hj (he.symm.trans he2)

theorem gl_callC {d1 nL1 n index ci : Nat} {y1 : MethodName} {cc1 : ByteArray} {ret1 : Option FieldType} {r : Int32} {μ1 : Mem} {as st0 : List Value} (hX : CxL l D E X sb sL sx cc) (hM : Ct l D true d1 y1 cc1 nL1 ret1 (.ref (D.1 0) :: as) μ (some (.int r)) μ1) (mv : MV y1 cc1 nL1 ret1 n) (hw : Cond.methodLink RL index y1 ∈ BIG) (ho : kd true 0 = ci) (hc : (vwCl[ci]?).map (fun r => r.1) = some y1.cls) (hci : ci < 10) (hd1 : d1 ≤ 500) (hcell : cells ≤ 600000 ∧ slots ≤ 7302249) (hn : as.length = n) (hst : st0 = as.reverse ++ .ref (D.1 0) :: st) (hsum : (st.map fun v => v.category).sum ≤ 8) (hd : decode cc pc = .ok (.invokevirtual index, 3))
    (k : GL l D E X Q cells slots (pc + 3) lc (.int r :: st) μ1 ν) : GL l D E X Q cells slots pc lc st0 μ ν := by
  obtain ⟨p, e, R, s, m, args, below, meth, c⟩ := X
  intro H locs ls hW hS hl T hT Y
  obtain ⟨m1, m2, m3, m4, m5, m6, m7, m8⟩ := mv
  have hR : R = room_1 := hX.2.2.2.2.2.2.2.1
  subst hR
  have hE := hX.2.2.2.2.2.2.2.2.2.1
  have hsub : ∀ q, AI D true q → s.heap.size ≤ q := by rintro q ⟨i, hi, rfl⟩; exact hX.2.2.2.2.2.2.2.2.2.2.2.2.2.1 i hi
  have hSA : va_S (AI D true) s.heap H [] := ⟨hS.1, fun q g1 _ => hS.2.1 q g1 (Nat.not_le.mpr g1), fun _ h => by cases h⟩
  have cw : CallW room_1 s args RL y1.cls index y1 cc1 nL1 ret1 (wsA y1 cc1 nL1 ret1) (rmD d1) 0 0 n :=
    cwV (Ts := BIG) n hX.2.2.2.2.1 (goodOf (by
      intro w hw2
      unfold wsV at hw2
      rcases List.mem_append.mp hw2 with q | q
      · simp only [List.mem_cons, List.not_mem_nil, or_false] at q
        rcases q with rfl | rfl | rfl | rfl
        · exact hw
        · exact m1
        · exact m2
        · exact m3
      · exact (goodB m4 w q).1)) rfl rfl rfl ⟨rfl, m6, m7, m8⟩ ⟨show d1 + 1 ≤ 2048 by omega, show 8 + (nL1 + 11) + 40 * d1 ≤ 84000 by omega⟩
  obtain ⟨r', hr1, hr2⟩ := Option.map_eq_some_iff.mp hc
  have hrecv := va_recv (ci := ci) (q0 := 0) (ws := cellsD D true μ) (H := H) hX.2.2.2.2.2.2.2.2.1 hW.1.1 hr1 (by rw [cellsD_at (kd_lt ho (by omega)), ent_obj ho hci])
  rw [hr2] at hrecv
  have hrun : va_Run p l e room_1 s m args below meth c H locs cells slots 0 0 (F0 m pc ls st0) st (Qr D true (some (.int r)) μ1 (Value.ref (D.1 0) :: as).toArray) (AI D true) :=
    va_runV (own := RL) (g := F0 m pc ls st0) ⟨hX.1, hX.2.1, hX.2.2.1, hX.2.2.2.1, hX.2.2.2.2.1⟩ hM cw ⟨Sg_blind, hrecv, fun U hU hWm => ⟨rfl, by rw [hU]; exact hW.1, va_K.moved hWm.alike hX.2.2.2.2.2.2.2.2.1, fun _ => EnvD_call (D := D) (A := AI D true) ⟨ (hE.1.narrow hsub), (hE.2.1.narrow hsub), (hE.2.2.1.narrow hsub), (hE.2.2.2.1.narrow hsub), (hE.2.2.2.2.1.narrow hsub), (hE.2.2.2.2.2.1.narrow hsub), hE.2.2.2.2.2.2⟩ hSA hU hWm⟩⟩ rfl hn hl.1 hst (lv_room hsum) hd hcell
  obtain ⟨v, s0, t, T', L, h0, Y', hL, e1, e2, ⟨hv, hW1, hF⟩, go⟩ := hrun T hT Y
  cases hv
  obtain ⟨z, a1, b1⟩ := k T'.heap (locs ++ L) ls ⟨by rw [e1]; exact hW1, by rw [e1]; exact Wd_other (st := s0) hF (by rw [h0]; exact hW.2) hX.2.2.2.2.2.2.2.2.2.2.2.2.2.2.2⟩ ⟨Nat.le_trans hS.1 (by rw [e1, ← h0]; exact hF.1), fun q g1 g2 => by
      rw [e1, hF.2 q (by rw [h0]; exact Nat.lt_of_lt_of_le g1 hS.1) (by rintro ⟨i, hi, rfl⟩; exact g2 (hX.2.2.2.2.2.2.2.2.2.2.2.2.2.1 i hi)), h0]
      exact hS.2.1 q g1 g2, fun q hq => by
      rcases List.mem_append.mp hq with h | h
      · exact hS.2.2 q h
      · obtain ⟨i, hi, he⟩ := hL q h
        show s.heap.size ≤ q.base
        rw [he]
        exact hX.2.2.2.2.2.2.2.2.2.2.2.2.2.1 i hi⟩ hl T' rfl Y'
  exact ⟨z, go z a1, b1⟩

theorem gl_callR {d1 nL1 n index ci : Nat} {y1 : MethodName} {cc1 : ByteArray} {ret1 : Option FieldType} {r : Int32} {μ1 : Mem} {as st0 : List Value} (hX : CxL l D E X sb sL sx cc) (hM : Ct l E false d1 y1 cc1 nL1 ret1 (.ref (E.1 0) :: as) ν (some (.int r)) μ1) (mv : MV y1 cc1 nL1 ret1 n) (hw : Cond.methodLink RL index y1 ∈ BIG) (ho : kd false 0 = ci) (hc : (vwCl[ci]?).map (fun r => r.1) = some y1.cls) (hci : ci < 10) (hd1 : d1 ≤ 500) (hcell : cells ≤ 600000 ∧ slots ≤ 7302249) (hn : as.length = n) (hst : st0 = as.reverse ++ .ref (E.1 0) :: st) (hsum : (st.map fun v => v.category).sum ≤ 8) (hd : decode cc pc = .ok (.invokevirtual index, 3))
    (k : GL l D E X Q cells slots (pc + 3) lc (.int r :: st) μ μ1) : GL l D E X Q cells slots pc lc st0 μ ν := by
  obtain ⟨p, e, R, s, m, args, below, meth, c⟩ := X
  intro H locs ls hW hS hl T hT Y
  obtain ⟨m1, m2, m3, m4, m5, m6, m7, m8⟩ := mv
  have hR : R = room_1 := hX.2.2.2.2.2.2.2.1
  subst hR
  have cw : CallW room_1 s args RL y1.cls index y1 cc1 nL1 ret1 (wsA y1 cc1 nL1 ret1) (rmD d1) 0 0 n :=
    cwV (Ts := BIG) n hX.2.2.2.2.1 (goodOf (by
      intro w hw2
      unfold wsV at hw2
      rcases List.mem_append.mp hw2 with q | q
      · simp only [List.mem_cons, List.not_mem_nil, or_false] at q
        rcases q with rfl | rfl | rfl | rfl
        · exact hw
        · exact m1
        · exact m2
        · exact m3
      · exact (goodB m4 w q).1)) rfl rfl rfl ⟨rfl, m6, m7, m8⟩ ⟨show d1 + 1 ≤ 2048 by omega, show 8 + (nL1 + 11) + 40 * d1 ≤ 84000 by omega⟩
  obtain ⟨r', hr1, hr2⟩ := Option.map_eq_some_iff.mp hc
  have hrecv := va_recv (ci := ci) (q0 := 0) (ws := cellsD E false ν) (H := H) hX.2.2.2.2.2.2.2.2.2.2.1 hW.2.1 hr1 (by rw [cellsD_at (kd_lt ho (by omega)), ent_obj ho hci])
  rw [hr2] at hrecv
  have hrun : va_Run p l e room_1 s m args below meth c H locs cells slots 0 0 (F0 m pc ls st0) st (Qr E false (some (.int r)) μ1 (Value.ref (E.1 0) :: as).toArray) (AI E false) :=
    va_runV (own := RL) (g := F0 m pc ls st0) ⟨hX.1, hX.2.1, hX.2.2.1, hX.2.2.2.1, hX.2.2.2.2.1⟩ hM cw ⟨Sg_blind, hrecv, fun U hU hWm => ⟨rfl, by rw [hU]; exact hW.2, va_K.moved hWm.alike hX.2.2.2.2.2.2.2.2.2.2.1, fun hb => absurd hb (by decide)⟩⟩ rfl hn hl.1 hst (lv_room hsum) hd hcell
  obtain ⟨v, s0, t, T', L, h0, Y', hL, e1, e2, ⟨hv, hW1, hF⟩, go⟩ := hrun T hT Y
  cases hv
  obtain ⟨z, a1, b1⟩ := k T'.heap (locs ++ L) ls ⟨by rw [e1]; exact Wd_other (st := s0) hF (by rw [h0]; exact hW.1) (fun i j hi hj q => hX.2.2.2.2.2.2.2.2.2.2.2.2.2.2.2 j i hj hi q.symm), by rw [e1]; exact hW1⟩ ⟨Nat.le_trans hS.1 (by rw [e1, ← h0]; exact hF.1), fun q g1 g2 => by
      rw [e1, hF.2 q (by rw [h0]; exact Nat.lt_of_lt_of_le g1 hS.1) (by rintro ⟨i, hi, rfl⟩; exact g2 (hX.2.2.2.2.2.2.2.2.2.2.2.2.2.2.1 i hi)), h0]
      exact hS.2.1 q g1 g2, fun q hq => by
      rcases List.mem_append.mp hq with h | h
      · exact hS.2.2 q h
      · obtain ⟨i, hi, he⟩ := hL q h
        show s.heap.size ≤ q.base
        rw [he]
        exact hX.2.2.2.2.2.2.2.2.2.2.2.2.2.2.1 i hi⟩ hl T' rfl Y'
  exact ⟨z, go z a1, b1⟩

theorem gl_ret {bb : Nat} {p : Program} {e : Env} {s : State} {m : MethodId} {below : List Frame} {meth : Method} {c : Code} (hX : CxL l D E (p, e, room_1, s, m, #[Value.ref bb], below, meth, c) sb sL sx code) (hcell : cells ≤ 600000 ∧ slots ≤ 7302249) (hd : decode code pc = .ok (.ireturn, 1)) : GL l D E (p, e, room_1, s, m, #[Value.ref bb], below, meth, c) (lw_Z below #[Value.ref bb] s) cells slots pc lc [.int 1] μ ν := by
  intro H locs ls hW hS hl
  refine va_forget (fun q hq => hS.2.2 q hq) ?_
  refine W.widen hcell.1 hcell.2 ?_
  exact lw_ret hX.1 hX.2.1 hX.2.2.2.2.2.1 hX.2.2.2.2.2.2.1 hd

end GLR
