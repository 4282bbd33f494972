section GR
variable {l : Launch} {D : DT} {b : Bool} {X : XT} {d : Nat} {own : String} {cc : ByteArray} {nL : Nat} {ret : Option FieldType} {v : Option Value} {μ μ' : Mem} {pc : Nat} {lc lc' : List (Option Value)} {st : List Value}

theorem g_iconst {n : Int} {x : Int32} (hX : Cx l D b X d own cc nL ret) (hd : decode cc pc = .ok (.iconst n, 1)) (hv : Int32.ofInt n = x) (k : G l D b X nL v μ' (pc + 1) lc (.int x :: st) μ) : G l D b X nL v μ' pc lc st μ := by
  obtain ⟨p, e, R, s, m, args, below, meth, c⟩ := X
  exact fun H locs ls hW hS hl => lv_iconst hX.1 hX.2.1 hd hv (k H locs ls hW hS hl)
theorem g_bipush {n : Int} {x : Int32} (hX : Cx l D b X d own cc nL ret) (hd : decode cc pc = .ok (.bipush n, 2)) (hv : (Int8.ofInt n).toInt32 = x) (k : G l D b X nL v μ' (pc + 2) lc (.int x :: st) μ) : G l D b X nL v μ' pc lc st μ := by
  obtain ⟨p, e, R, s, m, args, below, meth, c⟩ := X
  exact fun H locs ls hW hS hl => lv_bipush hX.1 hX.2.1 hd hv (k H locs ls hW hS hl)
theorem g_sipush {n : Int} {x : Int32} (hX : Cx l D b X d own cc nL ret) (hd : decode cc pc = .ok (.sipush n, 3)) (hv : (Int16.ofInt n).toInt32 = x) (k : G l D b X nL v μ' (pc + 3) lc (.int x :: st) μ) : G l D b X nL v μ' pc lc st μ := by
  obtain ⟨p, e, R, s, m, args, below, meth, c⟩ := X
  exact fun H locs ls hW hS hl => lv_sipush hX.1 hX.2.1 hd hv (k H locs ls hW hS hl)
theorem g_ldc {index : Nat} {x : Int32} (hX : Cx l D b X d own cc nL ret) (hd : decode cc pc = .ok (.ldc index, 2)) (hw : Cond.constant own index x ∈ BIG) (k : G l D b X nL v μ' (pc + 2) lc (.int x :: st) μ) : G l D b X nL v μ' pc lc st μ := by
  obtain ⟨p, e, R, s, m, args, below, meth, c⟩ := X
  exact fun H locs ls hW hS hl => lv_ldc hX.1 hX.2.1 hX.2.2.2.1 (hX.2.2.2.2.1 _ hw) hd (k H locs ls hW hS hl)
theorem g_ldcw {index : Nat} {x : Int32} (hX : Cx l D b X d own cc nL ret) (hd : decode cc pc = .ok (.ldc_w index, 3)) (hw : Cond.constant own index x ∈ BIG) (k : G l D b X nL v μ' (pc + 3) lc (.int x :: st) μ) : G l D b X nL v μ' pc lc st μ := by
  obtain ⟨p, e, R, s, m, args, below, meth, c⟩ := X
  exact fun H locs ls hW hS hl => lv_ldcw hX.1 hX.2.1 hX.2.2.2.1 (hX.2.2.2.2.1 _ hw) hd (k H locs ls hW hS hl)
theorem g_ldc2 {index : Nat} {x : Int64} (hX : Cx l D b X d own cc nL ret) (hd : decode cc pc = .ok (.ldc2_w index, 3)) (hw : Cond.constantLong own index x ∈ BIG) (k : G l D b X nL v μ' (pc + 3) lc (.long x :: st) μ) : G l D b X nL v μ' pc lc st μ := by
  obtain ⟨p, e, R, s, m, args, below, meth, c⟩ := X
  exact fun H locs ls hW hS hl => lv_ldc2 hX.1 hX.2.1 hX.2.2.2.1 (hX.2.2.2.2.1 _ hw) hd (k H locs ls hW hS hl)
theorem g_iload_n {i : Fin 4} {n : Nat} {x : Int32} (hX : Cx l D b X d own cc nL ret) (hd : decode cc pc = .ok (.iload_n i, 1)) (hi : (i : Nat) = n) (hl0 : lc[n]? = some (some (.int x))) (k : G l D b X nL v μ' (pc + 1) lc (.int x :: st) μ) : G l D b X nL v μ' pc lc st μ := by
  obtain ⟨p, e, R, s, m, args, below, meth, c⟩ := X
  exact fun H locs ls hW hS hl => lv_iload_n hX.1 hX.2.1 hd hi (lvP_at hl hl0) (k H locs ls hW hS hl)
theorem g_iload {n : Nat} {x : Int32} (hX : Cx l D b X d own cc nL ret) (hd : decode cc pc = .ok (.iload n, 2)) (hl0 : lc[n]? = some (some (.int x))) (k : G l D b X nL v μ' (pc + 2) lc (.int x :: st) μ) : G l D b X nL v μ' pc lc st μ := by
  obtain ⟨p, e, R, s, m, args, below, meth, c⟩ := X
  exact fun H locs ls hW hS hl => lv_iload hX.1 hX.2.1 hd (lvP_at hl hl0) (k H locs ls hW hS hl)
theorem g_aload_n {i : Fin 4} {n : Nat} {x : Nat} (hX : Cx l D b X d own cc nL ret) (hd : decode cc pc = .ok (.aload_n i, 1)) (hi : (i : Nat) = n) (hl0 : lc[n]? = some (some (.ref x))) (k : G l D b X nL v μ' (pc + 1) lc (.ref x :: st) μ) : G l D b X nL v μ' pc lc st μ := by
  obtain ⟨p, e, R, s, m, args, below, meth, c⟩ := X
  exact fun H locs ls hW hS hl => lv_aload_n hX.1 hX.2.1 hd hi (lvP_at hl hl0) (k H locs ls hW hS hl)
theorem g_aload {n : Nat} {x : Nat} (hX : Cx l D b X d own cc nL ret) (hd : decode cc pc = .ok (.aload n, 2)) (hl0 : lc[n]? = some (some (.ref x))) (k : G l D b X nL v μ' (pc + 2) lc (.ref x :: st) μ) : G l D b X nL v μ' pc lc st μ := by
  obtain ⟨p, e, R, s, m, args, below, meth, c⟩ := X
  exact fun H locs ls hW hS hl => lv_aload hX.1 hX.2.1 hd (lvP_at hl hl0) (k H locs ls hW hS hl)
theorem g_lload_n {i : Fin 4} {n : Nat} {x : Int64} (hX : Cx l D b X d own cc nL ret) (hd : decode cc pc = .ok (.lload_n i, 1)) (hi : (i : Nat) = n) (hl0 : lc[n]? = some (some (.long x))) (k : G l D b X nL v μ' (pc + 1) lc (.long x :: st) μ) : G l D b X nL v μ' pc lc st μ := by
  obtain ⟨p, e, R, s, m, args, below, meth, c⟩ := X
  exact fun H locs ls hW hS hl => lv_lload_n hX.1 hX.2.1 hd hi (lvP_at hl hl0) (k H locs ls hW hS hl)
theorem g_lload {n : Nat} {x : Int64} (hX : Cx l D b X d own cc nL ret) (hd : decode cc pc = .ok (.lload n, 2)) (hl0 : lc[n]? = some (some (.long x))) (k : G l D b X nL v μ' (pc + 2) lc (.long x :: st) μ) : G l D b X nL v μ' pc lc st μ := by
  obtain ⟨p, e, R, s, m, args, below, meth, c⟩ := X
  exact fun H locs ls hW hS hl => lv_lload hX.1 hX.2.1 hd (lvP_at hl hl0) (k H locs ls hW hS hl)
theorem g_istore_n {i : Fin 4} {n : Nat} {x : Int32} (hX : Cx l D b X d own cc nL ret) (hd : decode cc pc = .ok (.istore_n i, 1)) (hi : (i : Nat) = n) (hn : n < nL) (hp : okP lc n = true) (hl0 : lc.set n (some (.int x)) = lc') (k : G l D b X nL v μ' (pc + 1) lc' st μ) : G l D b X nL v μ' pc lc (.int x :: st) μ := by
  obtain ⟨p, e, R, s, m, args, below, meth, c⟩ := X
  exact fun H locs ls hW hS hl => lv_istore_n hX.1 hX.2.1 hd hi hl hn rfl (fun ls' hl' => k H locs ls' hW hS (lvP_set hl' hp hl0))
theorem g_istore {n : Nat} {x : Int32} (hX : Cx l D b X d own cc nL ret) (hd : decode cc pc = .ok (.istore n, 2)) (hn : n < nL) (hp : okP lc n = true) (hl0 : lc.set n (some (.int x)) = lc') (k : G l D b X nL v μ' (pc + 2) lc' st μ) : G l D b X nL v μ' pc lc (.int x :: st) μ := by
  obtain ⟨p, e, R, s, m, args, below, meth, c⟩ := X
  exact fun H locs ls hW hS hl => lv_istore hX.1 hX.2.1 hd hl hn rfl (fun ls' hl' => k H locs ls' hW hS (lvP_set hl' hp hl0))
theorem g_astore_n {i : Fin 4} {n : Nat} {x : Nat} (hX : Cx l D b X d own cc nL ret) (hd : decode cc pc = .ok (.astore_n i, 1)) (hi : (i : Nat) = n) (hn : n < nL) (hp : okP lc n = true) (hl0 : lc.set n (some (.ref x)) = lc') (k : G l D b X nL v μ' (pc + 1) lc' st μ) : G l D b X nL v μ' pc lc (.ref x :: st) μ := by
  obtain ⟨p, e, R, s, m, args, below, meth, c⟩ := X
  exact fun H locs ls hW hS hl => lv_astore_n hX.1 hX.2.1 hd hi hl hn rfl (fun ls' hl' => k H locs ls' hW hS (lvP_set hl' hp hl0))
theorem g_astore {n : Nat} {x : Nat} (hX : Cx l D b X d own cc nL ret) (hd : decode cc pc = .ok (.astore n, 2)) (hn : n < nL) (hp : okP lc n = true) (hl0 : lc.set n (some (.ref x)) = lc') (k : G l D b X nL v μ' (pc + 2) lc' st μ) : G l D b X nL v μ' pc lc (.ref x :: st) μ := by
  obtain ⟨p, e, R, s, m, args, below, meth, c⟩ := X
  exact fun H locs ls hW hS hl => lv_astore hX.1 hX.2.1 hd hl hn rfl (fun ls' hl' => k H locs ls' hW hS (lvP_set hl' hp hl0))
theorem toA_at {l : List (Option Value)} {i : Nat} {v : Value} (h : l[i]? = some (some v)) : ∃ k : Nat, (toA 0 l)[k]? = some (i, v) := List.getElem?_of_mem (toA_mem.mpr ⟨i, by omega, h⟩)
theorem g_iinc {n : Nat} {i : Int} {x y : Int32} (hX : Cx l D b X d own cc nL ret) (hd : decode cc pc = .ok (.iinc n i, 3)) (hn : n < nL) (hx : lc[n]? = some (some (.int x))) (hy : x + Int32.ofInt i = y) (hp : okP lc n = true) (hl0 : lc.set n (some (.int y)) = lc') (k : G l D b X nL v μ' (pc + 3) lc' st μ) : G l D b X nL v μ' pc lc st μ := by
  obtain ⟨p, e, R, s, m, args, below, meth, c⟩ := X
  intro H locs ls hW hS hl
  obtain ⟨k0, hk0⟩ := toA_at hx
  exact lv_iinc hX.1 hX.2.1 hd hl hk0 hy hn rfl (fun ls' hl' => k H locs ls' hW hS (lvP_set hl' hp hl0))
theorem g_iadd {x y : Int32} (hX : Cx l D b X d own cc nL ret) (hd : decode cc pc = .ok (.iadd, 1)) (k : G l D b X nL v μ' (pc + 1) lc (.int (x + y) :: st) μ) : G l D b X nL v μ' pc lc (.int y :: .int x :: st) μ := by
  obtain ⟨p, e, R, s, m, args, below, meth, c⟩ := X
  exact fun H locs ls hW hS hl => lv_iadd hX.1 hX.2.1 hd (k H locs ls hW hS hl)
theorem g_isub {x y : Int32} (hX : Cx l D b X d own cc nL ret) (hd : decode cc pc = .ok (.isub, 1)) (k : G l D b X nL v μ' (pc + 1) lc (.int (x - y) :: st) μ) : G l D b X nL v μ' pc lc (.int y :: .int x :: st) μ := by
  obtain ⟨p, e, R, s, m, args, below, meth, c⟩ := X
  exact fun H locs ls hW hS hl => lv_isub hX.1 hX.2.1 hd (k H locs ls hW hS hl)
theorem g_imul {x y : Int32} (hX : Cx l D b X d own cc nL ret) (hd : decode cc pc = .ok (.imul, 1)) (k : G l D b X nL v μ' (pc + 1) lc (.int (x * y) :: st) μ) : G l D b X nL v μ' pc lc (.int y :: .int x :: st) μ := by
  obtain ⟨p, e, R, s, m, args, below, meth, c⟩ := X
  exact fun H locs ls hW hS hl => lv_imul hX.1 hX.2.1 hd (k H locs ls hW hS hl)
theorem g_iand {x y : Int32} (hX : Cx l D b X d own cc nL ret) (hd : decode cc pc = .ok (.iand, 1)) (k : G l D b X nL v μ' (pc + 1) lc (.int (x &&& y) :: st) μ) : G l D b X nL v μ' pc lc (.int y :: .int x :: st) μ := by
  obtain ⟨p, e, R, s, m, args, below, meth, c⟩ := X
  exact fun H locs ls hW hS hl => lv_iand hX.1 hX.2.1 hd (k H locs ls hW hS hl)
theorem g_ior {x y : Int32} (hX : Cx l D b X d own cc nL ret) (hd : decode cc pc = .ok (.ior, 1)) (k : G l D b X nL v μ' (pc + 1) lc (.int (x ||| y) :: st) μ) : G l D b X nL v μ' pc lc (.int y :: .int x :: st) μ := by
  obtain ⟨p, e, R, s, m, args, below, meth, c⟩ := X
  exact fun H locs ls hW hS hl => lv_ior hX.1 hX.2.1 hd (k H locs ls hW hS hl)
theorem g_ixor {x y : Int32} (hX : Cx l D b X d own cc nL ret) (hd : decode cc pc = .ok (.ixor, 1)) (k : G l D b X nL v μ' (pc + 1) lc (.int (x ^^^ y) :: st) μ) : G l D b X nL v μ' pc lc (.int y :: .int x :: st) μ := by
  obtain ⟨p, e, R, s, m, args, below, meth, c⟩ := X
  exact fun H locs ls hW hS hl => lv_ixor hX.1 hX.2.1 hd (k H locs ls hW hS hl)
theorem g_ishl {x y : Int32} (hX : Cx l D b X d own cc nL ret) (hd : decode cc pc = .ok (.ishl, 1)) (k : G l D b X nL v μ' (pc + 1) lc (.int (x <<< (y &&& 31)) :: st) μ) : G l D b X nL v μ' pc lc (.int y :: .int x :: st) μ := by
  obtain ⟨p, e, R, s, m, args, below, meth, c⟩ := X
  exact fun H locs ls hW hS hl => lv_ishl hX.1 hX.2.1 hd (k H locs ls hW hS hl)
theorem g_ishr {x y : Int32} (hX : Cx l D b X d own cc nL ret) (hd : decode cc pc = .ok (.ishr, 1)) (k : G l D b X nL v μ' (pc + 1) lc (.int (x >>> (y &&& 31)) :: st) μ) : G l D b X nL v μ' pc lc (.int y :: .int x :: st) μ := by
  obtain ⟨p, e, R, s, m, args, below, meth, c⟩ := X
  exact fun H locs ls hW hS hl => lv_ishr hX.1 hX.2.1 hd (k H locs ls hW hS hl)
theorem g_idiv {x y : Int32} (hX : Cx l D b X d own cc nL ret) (hne : ¬ y = 0) (hd : decode cc pc = .ok (.idiv, 1)) (k : G l D b X nL v μ' (pc + 1) lc (.int (x / y) :: st) μ) : G l D b X nL v μ' pc lc (.int y :: .int x :: st) μ := by
  obtain ⟨p, e, R, s, m, args, below, meth, c⟩ := X
  exact fun H locs ls hW hS hl => lv_idiv hX.1 hX.2.1 hd hne (k H locs ls hW hS hl)
theorem g_irem {x y : Int32} (hX : Cx l D b X d own cc nL ret) (hne : ¬ y = 0) (hd : decode cc pc = .ok (.irem, 1)) (k : G l D b X nL v μ' (pc + 1) lc (.int (x - x / y * y) :: st) μ) : G l D b X nL v μ' pc lc (.int y :: .int x :: st) μ := by
  obtain ⟨p, e, R, s, m, args, below, meth, c⟩ := X
  exact fun H locs ls hW hS hl => lv_irem hX.1 hX.2.1 hd hne (k H locs ls hW hS hl)
theorem g_iushr {x y : Int32} (hX : Cx l D b X d own cc nL ret) (hd : decode cc pc = .ok (.iushr, 1)) (k : G l D b X nL v μ' (pc + 1) lc (.int ((x.toUInt32 >>> (y.toUInt32 &&& Int32.toUInt32 31)).toInt32) :: st) μ) : G l D b X nL v μ' pc lc (.int y :: .int x :: st) μ := by
  obtain ⟨p, e, R, s, m, args, below, meth, c⟩ := X
  exact fun H locs ls hW hS hl => lv_iushr hX.1 hX.2.1 hd rfl (k H locs ls hW hS hl)
theorem g_ineg {x : Int32} (hX : Cx l D b X d own cc nL ret) (hd : decode cc pc = .ok (.ineg, 1)) (k : G l D b X nL v μ' (pc + 1) lc (.int (-x) :: st) μ) : G l D b X nL v μ' pc lc (.int x :: st) μ := by
  obtain ⟨p, e, R, s, m, args, below, meth, c⟩ := X
  exact fun H locs ls hW hS hl => lv_ineg hX.1 hX.2.1 hd (k H locs ls hW hS hl)
theorem g_i2b {x : Int32} (hX : Cx l D b X d own cc nL ret) (hd : decode cc pc = .ok (.i2b, 1)) (k : G l D b X nL v μ' (pc + 1) lc (.int (x.toInt8.toInt32) :: st) μ) : G l D b X nL v μ' pc lc (.int x :: st) μ := by
  obtain ⟨p, e, R, s, m, args, below, meth, c⟩ := X
  exact fun H locs ls hW hS hl => lv_i2b hX.1 hX.2.1 hd rfl (k H locs ls hW hS hl)
theorem g_i2s {x : Int32} (hX : Cx l D b X d own cc nL ret) (hd : decode cc pc = .ok (.i2s, 1)) (k : G l D b X nL v μ' (pc + 1) lc (.int (x.toInt16.toInt32) :: st) μ) : G l D b X nL v μ' pc lc (.int x :: st) μ := by
  obtain ⟨p, e, R, s, m, args, below, meth, c⟩ := X
  exact fun H locs ls hW hS hl => lv_i2s hX.1 hX.2.1 hd rfl (k H locs ls hW hS hl)
theorem g_i2c {x : Int32} (hX : Cx l D b X d own cc nL ret) (hd : decode cc pc = .ok (.i2c, 1)) (k : G l D b X nL v μ' (pc + 1) lc (.int ((x.toUInt32 % 65536).toInt32) :: st) μ) : G l D b X nL v μ' pc lc (.int x :: st) μ := by
  obtain ⟨p, e, R, s, m, args, below, meth, c⟩ := X
  exact fun H locs ls hW hS hl => lv_i2c hX.1 hX.2.1 hd rfl (k H locs ls hW hS hl)
theorem g_l2i {x : Int64} (hX : Cx l D b X d own cc nL ret) (hd : decode cc pc = .ok (.l2i, 1)) (k : G l D b X nL v μ' (pc + 1) lc (.int x.toInt32 :: st) μ) : G l D b X nL v μ' pc lc (.long x :: st) μ := by
  obtain ⟨p, e, R, s, m, args, below, meth, c⟩ := X
  exact fun H locs ls hW hS hl => lv_l2i hX.1 hX.2.1 hd rfl (k H locs ls hW hS hl)
theorem g_i2l {x : Int32} (hX : Cx l D b X d own cc nL ret) (hd : decode cc pc = .ok (.i2l, 1)) (k : G l D b X nL v μ' (pc + 1) lc (.long x.toInt64 :: st) μ) : G l D b X nL v μ' pc lc (.int x :: st) μ := by
  obtain ⟨p, e, R, s, m, args, below, meth, c⟩ := X
  exact fun H locs ls hW hS hl => lv_i2l hX.1 hX.2.1 hd rfl (k H locs ls hW hS hl)
theorem g_lushr {x : Int64} {y : Int32} (hX : Cx l D b X d own cc nL ret) (hd : decode cc pc = .ok (.lushr, 1)) (k : G l D b X nL v μ' (pc + 1) lc (.long ((x.toUInt64 >>> (y.toInt64.toUInt64 &&& Int64.toUInt64 63)).toInt64) :: st) μ) : G l D b X nL v μ' pc lc (.int y :: .long x :: st) μ := by
  obtain ⟨p, e, R, s, m, args, below, meth, c⟩ := X
  exact fun H locs ls hW hS hl => lv_lushr hX.1 hX.2.1 hd rfl (k H locs ls hW hS hl)
theorem g_lshr {x : Int64} {y : Int32} (hX : Cx l D b X d own cc nL ret) (hd : decode cc pc = .ok (.lshr, 1)) (k : G l D b X nL v μ' (pc + 1) lc (.long (x >>> (y.toInt64 &&& 63)) :: st) μ) : G l D b X nL v μ' pc lc (.int y :: .long x :: st) μ := by
  obtain ⟨p, e, R, s, m, args, below, meth, c⟩ := X
  exact fun H locs ls hW hS hl => lv_lshr hX.1 hX.2.1 hd rfl (k H locs ls hW hS hl)
theorem g_lshl {x : Int64} {y : Int32} (hX : Cx l D b X d own cc nL ret) (hd : decode cc pc = .ok (.lshl, 1)) (k : G l D b X nL v μ' (pc + 1) lc (.long (x <<< (y.toInt64 &&& 63)) :: st) μ) : G l D b X nL v μ' pc lc (.int y :: .long x :: st) μ := by
  obtain ⟨p, e, R, s, m, args, below, meth, c⟩ := X
  exact fun H locs ls hW hS hl => lv_lshl hX.1 hX.2.1 hd rfl (k H locs ls hW hS hl)
theorem g_land {x y : Int64} (hX : Cx l D b X d own cc nL ret) (hd : decode cc pc = .ok (.land, 1)) (k : G l D b X nL v μ' (pc + 1) lc (.long (x &&& y) :: st) μ) : G l D b X nL v μ' pc lc (.long y :: .long x :: st) μ := by
  obtain ⟨p, e, R, s, m, args, below, meth, c⟩ := X
  exact fun H locs ls hW hS hl => lv_land hX.1 hX.2.1 hd (k H locs ls hW hS hl)
theorem g_lor {x y : Int64} (hX : Cx l D b X d own cc nL ret) (hd : decode cc pc = .ok (.lor, 1)) (k : G l D b X nL v μ' (pc + 1) lc (.long (x ||| y) :: st) μ) : G l D b X nL v μ' pc lc (.long y :: .long x :: st) μ := by
  obtain ⟨p, e, R, s, m, args, below, meth, c⟩ := X
  exact fun H locs ls hW hS hl => lv_lor hX.1 hX.2.1 hd (k H locs ls hW hS hl)
theorem g_dup {a : Value} (hX : Cx l D b X d own cc nL ret) (hd : decode cc pc = .ok (.dup, 1)) (ha : a.category = 1) (k : G l D b X nL v μ' (pc + 1) lc (a :: a :: st) μ) : G l D b X nL v μ' pc lc (a :: st) μ := by
  obtain ⟨p, e, R, s, m, args, below, meth, c⟩ := X
  exact fun H locs ls hW hS hl => lv_dup hX.1 hX.2.1 hd ha (k H locs ls hW hS hl)
theorem g_pop {a : Value} (hX : Cx l D b X d own cc nL ret) (hd : decode cc pc = .ok (.pop, 1)) (ha : a.category = 1) (k : G l D b X nL v μ' (pc + 1) lc st μ) : G l D b X nL v μ' pc lc (a :: st) μ := by
  obtain ⟨p, e, R, s, m, args, below, meth, c⟩ := X
  exact fun H locs ls hW hS hl => lv_pop hX.1 hX.2.1 hd ha (k H locs ls hW hS hl)
theorem g_dup2 {a a2 : Value} (hX : Cx l D b X d own cc nL ret) (hd : decode cc pc = .ok (.dup2, 1)) (ha : a.category = 1) (ha2 : a2.category = 1) (k : G l D b X nL v μ' (pc + 1) lc (a :: a2 :: a :: a2 :: st) μ) : G l D b X nL v μ' pc lc (a :: a2 :: st) μ := by
  obtain ⟨p, e, R, s, m, args, below, meth, c⟩ := X
  exact fun H locs ls hW hS hl => lv_dup2_11 hX.1 hX.2.1 hd ha ha2 (k H locs ls hW hS hl)
theorem g_if_eq {off : Int} {tgt : Nat} {x : Int32} (hX : Cx l D b X d own cc nL ret) (hd : decode cc pc = .ok (.ifCond .eq off, 3)) (ht : (pc : Int) + off = (tgt : Int)) (kt : x = 0 → G l D b X nL v μ' tgt lc st μ) (kf : ¬ x = 0 → G l D b X nL v μ' (pc + 3) lc st μ) : G l D b X nL v μ' pc lc (.int x :: st) μ := by
  obtain ⟨p, e, R, s, m, args, below, meth, c⟩ := X
  exact fun H locs ls hW hS hl => lv_if_eq hX.1 hX.2.1 hd ht (fun q => kt q H locs ls hW hS hl) (fun q => kf q H locs ls hW hS hl)
theorem g_if_ne {off : Int} {tgt : Nat} {x : Int32} (hX : Cx l D b X d own cc nL ret) (hd : decode cc pc = .ok (.ifCond .ne off, 3)) (ht : (pc : Int) + off = (tgt : Int)) (kt : ¬ x = 0 → G l D b X nL v μ' tgt lc st μ) (kf : x = 0 → G l D b X nL v μ' (pc + 3) lc st μ) : G l D b X nL v μ' pc lc (.int x :: st) μ := by
  obtain ⟨p, e, R, s, m, args, below, meth, c⟩ := X
  exact fun H locs ls hW hS hl => lv_if_ne hX.1 hX.2.1 hd ht (fun q => kt q H locs ls hW hS hl) (fun q => kf q H locs ls hW hS hl)
theorem g_if_lt {off : Int} {tgt : Nat} {x : Int32} (hX : Cx l D b X d own cc nL ret) (hd : decode cc pc = .ok (.ifCond .lt off, 3)) (ht : (pc : Int) + off = (tgt : Int)) (kt : x < 0 → G l D b X nL v μ' tgt lc st μ) (kf : ¬ x < 0 → G l D b X nL v μ' (pc + 3) lc st μ) : G l D b X nL v μ' pc lc (.int x :: st) μ := by
  obtain ⟨p, e, R, s, m, args, below, meth, c⟩ := X
  exact fun H locs ls hW hS hl => lv_if_lt hX.1 hX.2.1 hd ht (fun q => kt q H locs ls hW hS hl) (fun q => kf q H locs ls hW hS hl)
theorem g_if_ge {off : Int} {tgt : Nat} {x : Int32} (hX : Cx l D b X d own cc nL ret) (hd : decode cc pc = .ok (.ifCond .ge off, 3)) (ht : (pc : Int) + off = (tgt : Int)) (kt : 0 ≤ x → G l D b X nL v μ' tgt lc st μ) (kf : ¬ 0 ≤ x → G l D b X nL v μ' (pc + 3) lc st μ) : G l D b X nL v μ' pc lc (.int x :: st) μ := by
  obtain ⟨p, e, R, s, m, args, below, meth, c⟩ := X
  exact fun H locs ls hW hS hl => lv_if_ge hX.1 hX.2.1 hd ht (fun q => kt q H locs ls hW hS hl) (fun q => kf q H locs ls hW hS hl)
theorem g_if_gt {off : Int} {tgt : Nat} {x : Int32} (hX : Cx l D b X d own cc nL ret) (hd : decode cc pc = .ok (.ifCond .gt off, 3)) (ht : (pc : Int) + off = (tgt : Int)) (kt : 0 < x → G l D b X nL v μ' tgt lc st μ) (kf : ¬ 0 < x → G l D b X nL v μ' (pc + 3) lc st μ) : G l D b X nL v μ' pc lc (.int x :: st) μ := by
  obtain ⟨p, e, R, s, m, args, below, meth, c⟩ := X
  exact fun H locs ls hW hS hl => lv_if_gt hX.1 hX.2.1 hd ht (fun q => kt q H locs ls hW hS hl) (fun q => kf q H locs ls hW hS hl)
theorem g_if_le {off : Int} {tgt : Nat} {x : Int32} (hX : Cx l D b X d own cc nL ret) (hd : decode cc pc = .ok (.ifCond .le off, 3)) (ht : (pc : Int) + off = (tgt : Int)) (kt : x ≤ 0 → G l D b X nL v μ' tgt lc st μ) (kf : ¬ x ≤ 0 → G l D b X nL v μ' (pc + 3) lc st μ) : G l D b X nL v μ' pc lc (.int x :: st) μ := by
  obtain ⟨p, e, R, s, m, args, below, meth, c⟩ := X
  exact fun H locs ls hW hS hl => lv_if_le hX.1 hX.2.1 hd ht (fun q => kt q H locs ls hW hS hl) (fun q => kf q H locs ls hW hS hl)
theorem g_icmp_eq {off : Int} {tgt : Nat} {x y : Int32} (hX : Cx l D b X d own cc nL ret) (hd : decode cc pc = .ok (.if_icmp .eq off, 3)) (ht : (pc : Int) + off = (tgt : Int)) (kt : x = y → G l D b X nL v μ' tgt lc st μ) (kf : ¬ x = y → G l D b X nL v μ' (pc + 3) lc st μ) : G l D b X nL v μ' pc lc (.int y :: .int x :: st) μ := by
  obtain ⟨p, e, R, s, m, args, below, meth, c⟩ := X
  exact fun H locs ls hW hS hl => lv_icmp_eq hX.1 hX.2.1 hd ht (fun q => kt q H locs ls hW hS hl) (fun q => kf q H locs ls hW hS hl)
theorem g_icmp_ne {off : Int} {tgt : Nat} {x y : Int32} (hX : Cx l D b X d own cc nL ret) (hd : decode cc pc = .ok (.if_icmp .ne off, 3)) (ht : (pc : Int) + off = (tgt : Int)) (kt : ¬ x = y → G l D b X nL v μ' tgt lc st μ) (kf : x = y → G l D b X nL v μ' (pc + 3) lc st μ) : G l D b X nL v μ' pc lc (.int y :: .int x :: st) μ := by
  obtain ⟨p, e, R, s, m, args, below, meth, c⟩ := X
  exact fun H locs ls hW hS hl => lv_icmp_ne hX.1 hX.2.1 hd ht (fun q => kt q H locs ls hW hS hl) (fun q => kf q H locs ls hW hS hl)
theorem g_icmp_lt {off : Int} {tgt : Nat} {x y : Int32} (hX : Cx l D b X d own cc nL ret) (hd : decode cc pc = .ok (.if_icmp .lt off, 3)) (ht : (pc : Int) + off = (tgt : Int)) (kt : x < y → G l D b X nL v μ' tgt lc st μ) (kf : ¬ x < y → G l D b X nL v μ' (pc + 3) lc st μ) : G l D b X nL v μ' pc lc (.int y :: .int x :: st) μ := by
  obtain ⟨p, e, R, s, m, args, below, meth, c⟩ := X
  exact fun H locs ls hW hS hl => lv_icmp_lt hX.1 hX.2.1 hd ht (fun q => kt q H locs ls hW hS hl) (fun q => kf q H locs ls hW hS hl)
theorem g_icmp_ge {off : Int} {tgt : Nat} {x y : Int32} (hX : Cx l D b X d own cc nL ret) (hd : decode cc pc = .ok (.if_icmp .ge off, 3)) (ht : (pc : Int) + off = (tgt : Int)) (kt : y ≤ x → G l D b X nL v μ' tgt lc st μ) (kf : ¬ y ≤ x → G l D b X nL v μ' (pc + 3) lc st μ) : G l D b X nL v μ' pc lc (.int y :: .int x :: st) μ := by
  obtain ⟨p, e, R, s, m, args, below, meth, c⟩ := X
  exact fun H locs ls hW hS hl => lv_icmp_ge hX.1 hX.2.1 hd ht (fun q => kt q H locs ls hW hS hl) (fun q => kf q H locs ls hW hS hl)
theorem g_icmp_gt {off : Int} {tgt : Nat} {x y : Int32} (hX : Cx l D b X d own cc nL ret) (hd : decode cc pc = .ok (.if_icmp .gt off, 3)) (ht : (pc : Int) + off = (tgt : Int)) (kt : y < x → G l D b X nL v μ' tgt lc st μ) (kf : ¬ y < x → G l D b X nL v μ' (pc + 3) lc st μ) : G l D b X nL v μ' pc lc (.int y :: .int x :: st) μ := by
  obtain ⟨p, e, R, s, m, args, below, meth, c⟩ := X
  exact fun H locs ls hW hS hl => lv_icmp_gt hX.1 hX.2.1 hd ht (fun q => kt q H locs ls hW hS hl) (fun q => kf q H locs ls hW hS hl)
theorem g_icmp_le {off : Int} {tgt : Nat} {x y : Int32} (hX : Cx l D b X d own cc nL ret) (hd : decode cc pc = .ok (.if_icmp .le off, 3)) (ht : (pc : Int) + off = (tgt : Int)) (kt : x ≤ y → G l D b X nL v μ' tgt lc st μ) (kf : ¬ x ≤ y → G l D b X nL v μ' (pc + 3) lc st μ) : G l D b X nL v μ' pc lc (.int y :: .int x :: st) μ := by
  obtain ⟨p, e, R, s, m, args, below, meth, c⟩ := X
  exact fun H locs ls hW hS hl => lv_icmp_le hX.1 hX.2.1 hd ht (fun q => kt q H locs ls hW hS hl) (fun q => kf q H locs ls hW hS hl)
theorem g_goto {off : Int} {tgt : Nat} (hX : Cx l D b X d own cc nL ret) (hd : decode cc pc = .ok (.goto off, 3)) (ht : (pc : Int) + off = (tgt : Int)) (k : G l D b X nL v μ' tgt lc st μ) : G l D b X nL v μ' pc lc st μ := by
  obtain ⟨p, e, R, s, m, args, below, meth, c⟩ := X
  exact fun H locs ls hW hS hl => lv_goto hX.1 hX.2.1 hd ht (k H locs ls hW hS hl)
theorem g_tsIn {dflt lo hi off : Int} {offs : Array Int} {len tgt : Nat} {x : Int32} (hX : Cx l D b X d own cc nL ret) (hd : decode cc pc = .ok (.tableswitch dflt lo hi offs, len)) (h1 : ¬ x.toInt < lo) (h2 : ¬ hi < x.toInt) (ho : offs[(x.toInt - lo).toNat]? = some off) (ht : (pc : Int) + off = (tgt : Int)) (k : G l D b X nL v μ' tgt lc st μ) : G l D b X nL v μ' pc lc (.int x :: st) μ := by
  obtain ⟨p, e, R, s, m, args, below, meth, c⟩ := X
  exact fun H locs ls hW hS hl => lv_tableIn hX.1 hX.2.1 hd h1 h2 ho ht (k H locs ls hW hS hl)
theorem g_tsOut {dflt lo hi : Int} {offs : Array Int} {len tgt : Nat} {x : Int32} (hX : Cx l D b X d own cc nL ret) (hd : decode cc pc = .ok (.tableswitch dflt lo hi offs, len)) (h : x.toInt < lo ∨ hi < x.toInt) (ht : (pc : Int) + dflt = (tgt : Int)) (k : G l D b X nL v μ' tgt lc st μ) : G l D b X nL v μ' pc lc (.int x :: st) μ := by
  obtain ⟨p, e, R, s, m, args, below, meth, c⟩ := X
  exact fun H locs ls hW hS hl => lv_tableOut hX.1 hX.2.1 hd h ht (k H locs ls hW hS hl)
theorem g_ls {dflt off : Int} {ps : Array (Int × Int)} {len tgt : Nat} {x : Int32} (hX : Cx l D b X d own cc nL ret) (hd : decode cc pc = .ok (.lookupswitch dflt ps, len)) (hp : (ps.toList.zip (ps.toList.drop 1)).all (fun (a, next) => a.1 < next.1) = true) (ho : Op.lookupswitch.offset ps.toList dflt x.toInt = off) (ht : (pc : Int) + off = (tgt : Int)) (k : G l D b X nL v μ' tgt lc st μ) : G l D b X nL v μ' pc lc (.int x :: st) μ := by
  obtain ⟨p, e, R, s, m, args, below, meth, c⟩ := X
  exact fun H locs ls hW hS hl => lv_lookup hX.1 hX.2.1 hd hp ho ht (k H locs ls hW hS hl)
theorem g_iret {x : Int32} {ty : FieldType} (hX : Cx l D b X d own cc nL ret) (hr : ret = some ty) (hn : narrow ty (.int x) = .int x) (hd : decode cc pc = .ok (.ireturn, 1)) : G l D b X nL (some (.int x)) μ pc lc [.int x] μ := by
  obtain ⟨p, e, R, s, m, args, below, meth, c⟩ := X
  subst hr
  exact fun H locs ls hW hS hl => W.zret hX.1 hX.2.1 hX.2.2.2.2.2.1 hn (fun t ht _ => ⟨rfl, by rw [ht]; exact hW, hS.F ht⟩) hS.2.2 hd hX.2.2.2.2.2.2.1
theorem g_vret (hX : Cx l D b X d own cc nL ret) (hr : ret = none) (hd : decode cc pc = .ok (.return_, 1)) : G l D b X nL none μ pc lc [] μ := by
  obtain ⟨p, e, R, s, m, args, below, meth, c⟩ := X
  subst hr
  exact fun H locs ls hW hS hl => W.vret hX.1 hX.2.1 hX.2.2.2.2.2.1 (fun t ht _ => ⟨rfl, by rw [ht]; exact hW, hS.F ht⟩) hS.2.2 hd hX.2.2.2.2.2.2.1
theorem g_aret {x : Nat} {n : String} (hX : Cx l D b X d own cc nL ret) (hr : ret = some (.object n)) (hd : decode cc pc = .ok (.areturn, 1)) : G l D b X nL (some (.ref x)) μ pc lc [.ref x] μ := by
  obtain ⟨p, e, R, s, m, args, below, meth, c⟩ := X
  subst hr
  exact fun H locs ls hW hS hl => W.aret hX.1 hX.2.1 hX.2.2.2.2.2.1 (Or.inl ⟨_, rfl⟩) (Or.inr ⟨_, rfl⟩) (fun t ht _ => ⟨rfl, by rw [ht]; exact hW, hS.F ht⟩) hS.2.2 hd hX.2.2.2.2.2.2.1
/-- what is known of field k of class number c -/
def FG (ci k : Nat) (R : String) (T : u_T) (ty : FieldType) : Prop := vwCl[ci]? = some (R, T, nf ci) ∧ k < nf ci ∧ ci < 10 ∧ (∀ w ∈ u_ws R T (nf ci), w ∈ BIG) ∧ parseFieldDescriptor (T k).2.2.1 = some ty
theorem ent_obj {D : DT} {b : Bool} {μ : Mem} {i ci : Nat} (hi : kd b i = ci) (hc : ci < 10) : ent D b μ i = .inr (ci, (List.range (nf ci)).map (fv D b μ i ci)) := by
  subst hi
  unfold ent
  rw [if_pos hc]
theorem FG_at {D : DT} {b : Bool} {μ : Mem} {i ci k : Nat} {R : String} {T : u_T} {ty : FieldType} (h : FG ci k R T ty) (hi : kd b i = ci) : (cellsD D b μ)[i]? = some (D.1 i, .inr (ci, (List.range (nf ci)).map (fv D b μ i ci))) := by
  rw [cellsD_at (kd_lt hi (by have := h.2.2.1; omega)), ent_obj hi h.2.2.1]
theorem fv_at {D : DT} {b : Bool} {μ : Mem} {i ci k N : Nat} (h : k < N) : ((List.range N).map (fv D b μ i ci))[k]? = some (fv D b μ i ci k) := by
  rw [List.getElem?_map, List.getElem?_range h]
  rfl
theorem g_get {h ci j index : Nat} {R : String} {T : u_T} {ty : FieldType} {w : Value} (hX : Cx l D b X d own cc nL ret) (hh : kd b h = ci) (hf : FG ci j R T ty) (hw : Cond.fieldLink own index (T j).1 (T j).2.1 (T j).2.2.1 ∈ BIG) (hd : decode cc pc = .ok (.getfield index, 3)) (hv : fv D b μ h ci j = w)
    (k : G l D b X nL v μ' (pc + 3) lc (w :: st) μ) : G l D b X nL v μ' pc lc (.ref (D.1 h) :: st) μ := by
  obtain ⟨p, e, R, s, m, args, below, meth, c⟩ := X
  subst hv
  exact fun H locs ls hW hS hl => va_get hX.1 hX.2.1 hX.2.2.2.2.1 hf.2.2.2.1 hX.2.2.2.1 hX.2.2.2.2.2.2.2.2.1 hW.1 h (FG_at hf hh) hf.1 _ hf.2.1 (hX.2.2.2.2.1 _ hw) (fun x q => q) (fv_at hf.2.1) hd (k H locs ls hW hS hl)
theorem g_put {h ci j index : Nat} {R : String} {T : u_T} {ty : FieldType} {w : Value} {x : Int32} {ty0 : Nat → FieldType} (hX : Cx l D b X d own cc nL ret) (hh : kd b h = ci) (hf : FG ci j R T ty) (hty : ∀ k, k < nf ci → parseFieldDescriptor (T k).2.2.1 = some (ty0 k)) (hnm : ∀ a, a < nf ci → ∀ b, b < nf ci → a ≠ b → (T a).2.1 ≠ (T b).2.1) (hfin : (T j).2.2.2 = false) (hw : Cond.fieldLink own index (T j).1 (T j).2.1 (T j).2.2.1 ∈ BIG) (hd : decode cc pc = .ok (.putfield index, 3)) (hv : ∀ μ : Mem, fv D b (up μ h j x) h ci j = w) (hn : narrow ty w = w) (hfit : fits ty w = true)
    (k : G l D b X nL v μ' (pc + 3) lc st (up μ h j x)) : G l D b X nL v μ' pc lc (w :: .ref (D.1 h) :: st) μ := by
  obtain ⟨p, e, R, s, m, args, below, meth, c⟩ := X
  intro H locs ls hW hS hl
  have hc := kd_lt hh (by have := hf.2.2.1; omega)
  refine va_put hX.1 hX.2.1 hX.2.2.2.2.1 hf.2.2.2.1 ty0 hty hnm hX.2.2.2.1 hX.2.2.2.2.2.2.2.2.1 hW.1 hW.2.1 hS h (FG_at hf hh) hf.1 _ hf.2.1 (hX.2.2.2.2.1 _ hw) (fun x q => q) hfin hf.2.2.2.2 hn hfit (by rw [List.length_map, List.length_range]; exact hf.2.1) hd (fun H1 locs1 hP hD hS1 => ?_)
  rw [flds_set hf.2.1 w (hv μ)] at hP hD
  have he : (cellsD D b μ).set h (D.1 h, .inr (ci, (List.range (nf ci)).map (fv D b (up μ h j x) h ci))) = cellsD D b (up μ h j x) := cellsD_set hc (ent_obj hh hf.2.2.1) (fun a q => ent_up q)
  rw [he] at hP hD
  refine k H1 locs1 ls ⟨hP, hD, fun i j hi => ?_⟩ hS1 hl
  rw [up_n (fun q => by rw [q.1, hh] at hi; have := hf.2.2.1; omega)]
  exact hW.2.2 i j hi
/-! arrays -/
def inb (j : Int32) (n : Nat) : Bool := decide (0 ≤ j.toInt) && decide (j.toInt < n)
theorem inb_vp {j : Int32} {n : Nat} (h : inb j n = true) : vp_in j n := by
  simp only [inb, Bool.and_eq_true, decide_eq_true_eq] at h
  exact vp_in_iff.mpr h
abbrev ix (j : Int32) : Nat := j.toNatClampNeg
theorem arr_at {D : DT} {b : Bool} {μ : Mem} {a : Nat} (h : kd b a = 10) : (cellsD D b μ)[a]? = some (D.1 a, .inl (D.2.2.2 0, ln b a, .inl (μ a))) := by
  rw [cellsD_at (kd_lt h (by omega))]
  unfold ent
  rw [if_neg (by omega), if_pos h]
theorem arrB_at {D : DT} {b : Bool} {μ : Mem} {a : Nat} (h : kd b a = 11) : (cellsD D b μ)[a]? = some (D.1 a, .inl (D.2.2.2 1, ln b a, .inl (μ a))) := by
  rw [cellsD_at (kd_lt h (by omega))]
  unfold ent
  rw [if_neg (by omega), if_neg (by omega), if_pos h]
theorem arrQ_at {D : DT} {b : Bool} {μ : Mem} {a : Nat} (h : kd b a = 12) : (cellsD D b μ)[a]? = some (D.1 a, .inl (D.2.2.2 2, ln b a, .inr (.inr (.inr (.inr (fun j => some (D.1 (sr b a j)))))))) := by
  rw [cellsD_at (kd_lt h (by omega))]
  unfold ent
  rw [if_neg (by omega), if_neg (by omega), if_neg (by omega)]
theorem g_iald {a n : Nat} {j : Int32} (hX : Cx l D b X d own cc nL ret) (ha : kd b a = 10) (hn : ln b a = n) (hin : inb j n = true) (hd : decode cc pc = .ok (.iaload, 1)) (k : G l D b X nL v μ' (pc + 1) lc (.int (μ a (ix j)) :: st) μ) : G l D b X nL v μ' pc lc (.int j :: .ref (D.1 a) :: st) μ := by
  obtain ⟨p, e, R, s, m, args, below, meth, c⟩ := X
  subst hn
  exact fun H locs ls hW hS hl => va_iald hX.1 hX.2.1 hX.2.2.2.2.2.2.2.2.1 hW.1 a 0 (arr_at ha) rfl (inb_vp hin) hd (k H locs ls hW hS hl)
theorem g_bald {a n : Nat} {j : Int32} (hX : Cx l D b X d own cc nL ret) (ha : kd b a = 11) (hn : ln b a = n) (hin : inb j n = true) (hd : decode cc pc = .ok (.baload, 1)) (k : G l D b X nL v μ' (pc + 1) lc (.int (μ a (ix j)) :: st) μ) : G l D b X nL v μ' pc lc (.int j :: .ref (D.1 a) :: st) μ := by
  obtain ⟨p, e, R, s, m, args, below, meth, c⟩ := X
  subst hn
  exact fun H locs ls hW hS hl => va_bald hX.1 hX.2.1 hX.2.2.2.2.2.2.2.2.1 hW.1 a 1 (arrB_at ha) rfl (inb_vp hin) hd (k H locs ls hW hS hl)
theorem g_aald {a n : Nat} {j : Int32} (hX : Cx l D b X d own cc nL ret) (ha : kd b a = 12) (hn : ln b a = n) (hin : inb j n = true) (hd : decode cc pc = .ok (.aaload, 1)) (k : G l D b X nL v μ' (pc + 1) lc (.ref (D.1 (sr b a (ix j))) :: st) μ) : G l D b X nL v μ' pc lc (.int j :: .ref (D.1 a) :: st) μ := by
  obtain ⟨p, e, R, s, m, args, below, meth, c⟩ := X
  subst hn
  exact fun H locs ls hW hS hl => va_aldq hX.1 hX.2.1 hX.2.2.2.2.2.2.2.2.1 hW.1 a 2 (arrQ_at ha) rfl (inb_vp hin) hd (k H locs ls hW hS hl)
theorem up_upd {μ : Mem} {a j : Nat} {x : Int32} : (up μ a j x) a = upd (μ a) j x := by
  funext k
  simp [up, upd]
theorem g_iast {a n : Nat} {j x : Int32} (hX : Cx l D b X d own cc nL ret) (ha : kd b a = 10) (hn : ln b a = n) (hin : inb j n = true) (hd : decode cc pc = .ok (.iastore, 1)) (k : G l D b X nL v μ' (pc + 1) lc st (up μ a (ix j) x)) : G l D b X nL v μ' pc lc (.int x :: .int j :: .ref (D.1 a) :: st) μ := by
  obtain ⟨p, e, R, s, m, args, below, meth, c⟩ := X
  subst hn
  intro H locs ls hW hS hl
  refine va_iast hX.1 hX.2.1 hX.2.2.2.2.2.2.2.2.1 hW.1 hW.2.1 hS a 0 (arr_at ha) rfl (inb_vp hin) hd (fun H1 locs1 hP hD hS1 => ?_)
  have he : (cellsD D b μ).set a (D.1 a, .inl (D.2.2.2 0, ln b a, .inl (upd (μ a) j.toNatClampNeg x))) = cellsD D b (up μ a (ix j) x) := cellsD_set (kd_lt ha (by omega)) (by unfold ent; rw [if_neg (by omega), if_pos ha, up_upd]) (fun i q => ent_up q)
  rw [he] at hP hD
  refine k H1 locs1 ls ⟨hP, hD, fun i j hi => ?_⟩ hS1 hl
  rw [up_n (fun q => by rw [q.1, ha] at hi; omega)]
  exact hW.2.2 i j hi
theorem inB_nar (x : Int32) : inB (vp_nar .byte x) := by
  rw [vp_nar_byte]
  exact pk_fb x
theorem g_bast {a n : Nat} {j x : Int32} (hX : Cx l D b X d own cc nL ret) (ha : kd b a = 11) (hn : ln b a = n) (hin : inb j n = true) (hd : decode cc pc = .ok (.bastore, 1)) (k : G l D b X nL v μ' (pc + 1) lc st (up μ a (ix j) x.toInt8.toInt32)) : G l D b X nL v μ' pc lc (.int x :: .int j :: .ref (D.1 a) :: st) μ := by
  obtain ⟨p, e, R, s, m, args, below, meth, c⟩ := X
  subst hn
  intro H locs ls hW hS hl
  refine va_bast hX.1 hX.2.1 hX.2.2.2.2.2.2.2.2.1 hW.1 hW.2.1 hS a 1 (arrB_at ha) rfl (inb_vp hin) hd (fun H1 locs1 hP hD hS1 => ?_)
  have he : (cellsD D b μ).set a (D.1 a, .inl (D.2.2.2 1, ln b a, .inl (upd (μ a) j.toNatClampNeg (vp_nar .byte x)))) = cellsD D b (up μ a (ix j) x.toInt8.toInt32) := cellsD_set (kd_lt ha (by omega)) (by unfold ent; rw [if_neg (by omega), if_neg (by omega), if_pos ha, up_upd, vp_nar_byte]) (fun i q => ent_up q)
  rw [he] at hP hD
  refine k H1 locs1 ls ⟨hP, hD, fun i j2 hi => ?_⟩ hS1 hl
  by_cases q : i = a ∧ j2 = ix j
  · obtain ⟨rfl, rfl⟩ := q
    rw [up_s, ← vp_nar_byte]
    exact inB_nar x
  · rw [up_n q]
    exact hW.2.2 i j2 hi
theorem g_alen {a n : Nat} {x : Int32} (hX : Cx l D b X d own cc nL ret) (ha : kd b a = 10) (hn : ln b a = n) (hx : Int32.ofNat n = x) (hd : decode cc pc = .ok (.arraylength, 1)) (k : G l D b X nL v μ' (pc + 1) lc (.int x :: st) μ) : G l D b X nL v μ' pc lc (.ref (D.1 a) :: st) μ := by
  obtain ⟨p, e, R, s, m, args, below, meth, c⟩ := X
  subst hn
  exact fun H locs ls hW hS hl => va_alen hX.1 hX.2.1 hX.2.2.2.2.2.2.2.2.1 hW.1 a 0 (arr_at ha) rfl hx hd (k H locs ls hW hS hl)
theorem g_alenB {a n : Nat} {x : Int32} (hX : Cx l D b X d own cc nL ret) (ha : kd b a = 11) (hn : ln b a = n) (hx : Int32.ofNat n = x) (hd : decode cc pc = .ok (.arraylength, 1)) (k : G l D b X nL v μ' (pc + 1) lc (.int x :: st) μ) : G l D b X nL v μ' pc lc (.ref (D.1 a) :: st) μ := by
  obtain ⟨p, e, R, s, m, args, below, meth, c⟩ := X
  subst hn
  exact fun H locs ls hW hS hl => va_alen hX.1 hX.2.1 hX.2.2.2.2.2.2.2.2.1 hW.1 a 1 (arrB_at ha) rfl hx hd (k H locs ls hW hS hl)
end GR
