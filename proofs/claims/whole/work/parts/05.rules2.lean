def nestOk : Cond → Bool
  | .methodLinkNest .. => true
  | .fieldLinkNest .. => true
  | _ => false
theorem nestL_ok : ∀ w ∈ nestL, nestOk w = true := by decide +kernel
theorem nest_warm {w : Cond} {s U : State} (hw : nestOk w = true) (hW : s.WarmedH U.vm) (h : va_Nw w s) : va_Nw w U := by
  cases w <;> first | exact va_Nw.warmM hW h | exact va_Nw.warmF hW h | cases hw
theorem nest_same {w : Cond} {s U : State} (hw : nestOk w = true) (hv : s.vm = U.vm) (h : va_Nw w s) : va_Nw w U := by
  cases w <;> first | exact va_Nw.same rfl hv h | cases hw
theorem EnvD_call {D : DT} {A : Nat → Prop} {s U : State} {H : Heap} {locs : List Loc} (h : EnvD D A s) (hS : va_S A s.heap H locs) (hH : U.heap = H) (hW : s.WarmedH U.vm) : EnvD D A U := by
  subst hH
  obtain ⟨h1, h2, h3, h4, h5, h6, h7, h8, h9, h10⟩ := h
  have hv := hW.alike
  exact ⟨va_Z.moved hv (h1.kept hS.2.1), va_T.moved hv (h2.kept hS.2.1), va_Z.moved hv (h3.kept hS.2.1), va_T.moved hv (h4.kept hS.2.1), va_Z.moved hv (h5.kept hS.2.1), vk_S.moved hv (h6.kept hS.2.1), vk_R.warm hW h7, vk_R.warm hW h8, vk_R.warm hW h9, fun w hw => nest_warm (nestL_ok w hw) hW (h10 w hw)⟩
theorem EnvD_calling {D : DT} {A : Nat → Prop} {U : State} {g : JFrame} {mk : MethodId} {a : Array Value} (h : EnvD D A U) : EnvD D A (U.calling g mk a) := by
  obtain ⟨h1, h2, h3, h4, h5, h6, h7, h8, h9, h10⟩ := h
  have hv : U.vm.Alike (U.calling g mk a).vm := Vm.Alike.refl U.vm
  exact ⟨va_Z.moved hv h1, va_T.moved hv h2, va_Z.moved hv h3, va_T.moved hv h4, va_Z.moved hv h5, vk_S.moved hv h6, vk_R.same rfl h7, vk_R.same rfl h8, vk_R.same rfl h9, fun w hw => nest_same (s := U) (U := U.calling g mk a) (nestL_ok w hw) rfl (h10 w hw)⟩
theorem Sg_blind {D : DT} {b : Bool} {μ : Mem} {as : List Value} : FrameBlind (va_Pc as (Sg D b μ)) := fun a U g mk q => ⟨q.1, q.2.1, va_K.moved (u := U) (U := U.calling g mk a) (Vm.Alike.refl U.vm) q.2.2.1, fun hb => EnvD_calling (q.2.2.2 hb)⟩
/-- a method as a callee -/
def MV (y : MethodName) (cc : ByteArray) (nL : Nat) (ret : Option FieldType) (n : Nat) : Prop := Cond.instanceMethod y ∈ BIG ∧ Cond.selects y.cls y y ∈ BIG ∧ Cond.initialized y.cls ∈ BIG ∧ Cond.code y cc nL ret ∈ BIG ∧ nL ≤ 21 ∧ y.cls ≠ "java/lang/invoke/MethodHandle" ∧ y.cls ≠ "java/lang/invoke/VarHandle" ∧ (parseMethodDescriptor y.desc).map (fun d => d.parameters.length) = some n
def MS (y : MethodName) (cc : ByteArray) (nL : Nat) (ret : Option FieldType) (n : Nat) : Prop := Cond.static y ∈ BIG ∧ Cond.initialized y.cls ∈ BIG ∧ Cond.code y cc nL ret ∈ BIG ∧ nL ≤ 21 ∧ y.cls ≠ "java/lang/invoke/MethodHandle" ∧ y.cls ≠ "java/lang/invoke/VarHandle" ∧ (parseMethodDescriptor y.desc).map (fun d => d.parameters.length) = some n
theorem goodB {y : MethodName} {cc : ByteArray} {nL : Nat} {ret : Option FieldType} (h : Cond.code y cc nL ret ∈ BIG) : GoodIn BIG (wsA y cc nL ret) := by
  intro w hw
  have hb : w ∈ BIG := by
    rcases List.mem_cons.mp hw with rfl | q
    · exact h
    · exact q
  exact ⟨hb, big_good hb⟩
theorem goodOf {ws : List Cond} (h : ∀ w ∈ ws, w ∈ BIG) : GoodIn BIG ws := fun w hw => ⟨h w hw, big_good (h w hw)⟩

section GR
variable {l : Launch} {D : DT} {b : Bool} {X : XT} {d : Nat} {own : String} {cc : ByteArray} {nL : Nat} {ret : Option FieldType} {v : Option Value} {μ μ' : Mem} {pc : Nat} {lc lc' : List (Option Value)} {st : List Value}

theorem g_run {st0 : List Value} {v1 : Option Value} {μ1 : Mem} {a : Array Value} (hX : ∀ (p : Program) (e : Env) (R : Room) (s : State) (m : MethodId) (args : Array Value) (below : List Frame) (meth : Method) (c : Code), X = (p, e, R, s, m, args, below, meth, c) → ∀ (H : Heap) (locs : List Loc) (ls : Array Slot), Wd D b μ H → va_S (AI D b) s.heap H locs → lvP ls nL lc → va_Run p l e R s m args below meth c H locs 0 0 0 0 (F0 m pc ls st0) st (Qr D b v1 μ1 a) (AI D b))
    (k : G l D b X nL v μ' (pc + 3) lc (v1.toList ++ st) μ1) : G l D b X nL v μ' pc lc st0 μ := by
  obtain ⟨p, e, R, s, m, args, below, meth, c⟩ := X
  intro H locs ls hW hS hl T hT Y
  obtain ⟨v, s0, t, T', L, h0, Y', hL, e1, e2, ⟨hv, hW1, hF⟩, go⟩ := hX _ _ _ _ _ _ _ _ _ rfl H locs ls hW hS hl T hT Y
  cases hv
  obtain ⟨z, a1, b1⟩ := k T'.heap (locs ++ L) ls (by rw [e1]; exact hW1) ⟨Nat.le_trans hS.1 (by rw [e1, ← h0]; exact hF.1), fun q g1 g2 => by
      rw [e1, hF.2 q (by rw [h0]; exact Nat.lt_of_lt_of_le g1 hS.1) g2, h0]
      exact hS.2.1 q g1 g2, fun q hq => by
      rcases List.mem_append.mp hq with h | h
      · exact hS.2.2 q h
      · exact hL q h⟩ hl T' rfl Y'
  exact ⟨z, go z a1, b1⟩
theorem lvP_size {ls : Array Slot} {nL : Nat} {l : List (Option Value)} (h : lvP ls nL l) : ls.size = nL := h.1
theorem g_callV {d1 nL1 n index : Nat} {y1 : MethodName} {cc1 : ByteArray} {ret1 : Option FieldType} {v1 : Option Value} {μ1 : Mem} {as : List Value} {st0 : List Value} {h ci : Nat} (hX : Cx l D b X d own cc nL ret) (hM : Ct l D b d1 y1 cc1 nL1 ret1 (.ref (D.1 h) :: as) μ v1 μ1) (mv : MV y1 cc1 nL1 ret1 n) (hw : Cond.methodLink own index y1 ∈ BIG) (hh : kd b h = ci) (hc : (vwCl[ci]?).map (fun r => r.1) = some y1.cls) (hci : ci < 10) (hd1 : d1 + 1 ≤ d) (hn : as.length = n) (hst : st0 = as.reverse ++ .ref (D.1 h) :: st) (hsum : (st.map fun v => v.category).sum ≤ 8) (hd : decode cc pc = .ok (.invokevirtual index, 3))
    (k : G l D b X nL v μ' (pc + 3) lc (v1.toList ++ st) μ1) : G l D b X nL v μ' pc lc st0 μ := by
  refine g_run (a := (Value.ref (D.1 h) :: as).toArray) ?_ k
  rintro p e R s m args below meth c rfl H locs ls hW hS hl
  obtain ⟨m1, m2, m3, m4, m5, m6, m7, m8⟩ := mv
  have hR : R = rmD d := hX.2.2.2.2.2.2.2.1
  subst hR
  have cw : CallW (rmD d) s args own y1.cls index y1 cc1 nL1 ret1 (wsA y1 cc1 nL1 ret1) (rmD d1) 0 0 n :=
    cwV (Ts := BIG) n hX.2.2.2.2.1 (goodOf (by
      intro w hw2
      unfold wsV at hw2
      rcases List.mem_append.mp hw2 with q | q
      · simp only [List.mem_cons, List.not_mem_nil, or_false] at q
        rcases q with rfl | rfl | rfl | rfl
        · exact hw
        · exact m1
        · exact m2
        · exact m3
      · exact (goodB m4 w q).1)) rfl rfl rfl ⟨rfl, m6, m7, m8⟩ ⟨hd1, by show 8 + (nL1 + 11) + 40 * d1 ≤ 40 * d; omega⟩
  obtain ⟨r, hr1, hr2⟩ := Option.map_eq_some_iff.mp hc
  have hrecv := va_recv (ci := ci) (q0 := h) (ws := cellsD D b μ) (H := H) hX.2.2.2.2.2.2.2.2.1 hW.1 hr1 (by rw [cellsD_at (kd_lt hh (by omega)), ent_obj hh hci])
  rw [hr2] at hrecv
  exact va_runV (own := own) (g := F0 m pc ls st0) ⟨hX.1, hX.2.1, hX.2.2.1, hX.2.2.2.1, hX.2.2.2.2.1⟩ hM cw ⟨Sg_blind, hrecv, fun U hU hWm => ⟨rfl, by rw [hU]; exact hW, va_K.moved hWm.alike hX.2.2.2.2.2.2.2.2.1, fun hb => by subst hb; exact EnvD_call (hX.2.2.2.2.2.2.2.2.2 rfl) hS hU hWm⟩⟩ rfl hn hl.1 hst (lv_room hsum) hd ⟨Nat.le_refl _, Nat.le_refl _⟩
theorem g_callS {d1 nL1 n index : Nat} {y1 : MethodName} {cc1 : ByteArray} {ret1 : Option FieldType} {v1 : Option Value} {μ1 : Mem} {as : List Value} {st0 : List Value} (hX : Cx l D b X d own cc nL ret) (hM : Ct l D b d1 y1 cc1 nL1 ret1 as μ v1 μ1) (mv : MS y1 cc1 nL1 ret1 n) (hw : Cond.methodLink own index y1 ∈ BIG) (hd1 : d1 + 1 ≤ d) (hn : as.length = n) (hst : st0 = as.reverse ++ st) (hsum : (st.map fun v => v.category).sum ≤ 8) (hd : decode cc pc = .ok (.invokestatic index, 3))
    (k : G l D b X nL v μ' (pc + 3) lc (v1.toList ++ st) μ1) : G l D b X nL v μ' pc lc st0 μ := by
  refine g_run (a := as.toArray) ?_ k
  rintro p e R s m args below meth c rfl H locs ls hW hS hl
  obtain ⟨m2, m3, m4, m5, m6, m7, m8⟩ := mv
  have hR : R = rmD d := hX.2.2.2.2.2.2.2.1
  subst hR
  have cw := va_cwS (R := rmD d) (s := s) (args := args) (own := own) (index := index) (y := y1) (bytes := cc1) (maxL := nL1) (ret := ret1) (ws := wsA y1 cc1 nL1 ret1) (rm := rmD d1) (mc := 0) (ms := 0) (Ts := BIG) n hX.2.2.2.2.1 (goodOf (by
      intro w hw2
      unfold va_wsS at hw2
      rcases List.mem_append.mp hw2 with q | q
      · simp only [List.mem_cons, List.not_mem_nil, or_false] at q
        rcases q with rfl | rfl | rfl
        · exact hw
        · exact m2
        · exact m3
      · exact (goodB m4 w q).1)) rfl rfl rfl ⟨m6, m7, m8⟩ ⟨hd1, by show 8 + (nL1 + 11) + 40 * d1 ≤ 40 * d; omega⟩
  exact va_runS (own := own) (g := F0 m pc ls st0) ⟨hX.1, hX.2.1, hX.2.2.1, hX.2.2.2.1, hX.2.2.2.2.1⟩ hM cw ⟨Sg_blind, fun U hU hWm => ⟨rfl, by rw [hU]; exact hW, va_K.moved hWm.alike hX.2.2.2.2.2.2.2.2.1, fun hb => by subst hb; exact EnvD_call (hX.2.2.2.2.2.2.2.2.2 rfl) hS hU hWm⟩⟩ rfl hn hl.1 hst (lv_room hsum) hd ⟨Nat.le_refl _, Nat.le_refl _⟩
theorem g_callSN {d1 nL1 n index : Nat} {y1 : MethodName} {cc1 : ByteArray} {ret1 : Option FieldType} {v1 : Option Value} {μ1 : Mem} {as : List Value} {st0 : List Value} {host : String} (hX : Cx l D true X d own cc nL ret) (hM : Ct l D true d1 y1 cc1 nL1 ret1 as μ v1 μ1) (mv : MS y1 cc1 nL1 ret1 n) (hw : Cond.methodLinkNest own index y1 host ∈ nestL) (hd1 : d1 + 1 ≤ d) (hn : as.length = n) (hst : st0 = as.reverse ++ st) (hsum : (st.map fun v => v.category).sum ≤ 8) (hd : decode cc pc = .ok (.invokestatic index, 3))
    (k : G l D true X nL v μ' (pc + 3) lc (v1.toList ++ st) μ1) : G l D true X nL v μ' pc lc st0 μ := by
  refine g_run (a := as.toArray) ?_ k
  rintro p e R s m args below meth c rfl H locs ls hW hS hl
  obtain ⟨m2, m3, m4, m5, m6, m7, m8⟩ := mv
  have hR : R = rmD d := hX.2.2.2.2.2.2.2.1
  subst hR
  have hE := hX.2.2.2.2.2.2.2.2.2 rfl
  have cw := va_cnB (R := rmD d) (s := s) (args := args) (own := own) (index := index) (y := y1) (bytes := cc1) (maxL := nL1) (ret := ret1) (ws := wsA y1 cc1 nL1 ret1) (rm := rmD d1) (mc := 0) (ms := 0) (Ts := BIG) (host := host) n hX.2.2.2.2.1 (goodB m4) rfl rfl rfl (hE.2.2.2.2.2.2.2.2.2 _ hw) (hX.2.2.2.2.1 _ m3) ⟨m6, m7, m8⟩ ⟨hd1, by show 8 + (nL1 + 11) + 40 * d1 ≤ 40 * d; omega⟩
  exact va_runSN (own := own) (g := F0 m pc ls st0) ⟨hX.1, hX.2.1, hX.2.2.1, hX.2.2.2.1, hX.2.2.2.2.1⟩ hM ⟨cw, hX.2.2.2.2.1 _ m2, trivial⟩ ⟨Sg_blind, fun U hU hWm => ⟨rfl, by rw [hU]; exact hW, va_K.moved hWm.alike hX.2.2.2.2.2.2.2.2.1, fun _ => EnvD_call hE hS hU hWm⟩⟩ rfl hn hl.1 hst (lv_room hsum) hd ⟨Nat.le_refl _, Nat.le_refl _⟩
/-- a contract from a walk -/
theorem Ct.of {y : MethodName} {as : List Value} {lc0 : List (Option Value)} (hy : plainName y.cls = true) (hown : y.cls = own) (hnl : (lg_sl as).length ≤ nL) (hlc : entL as ++ List.replicate (nL - (entL as).length) none = lc0) (hbig : Cond.code y cc nL ret ∈ BIG)
    (h : ∀ X : XT, Cx l D b X d own cc nL ret → G l D b X nL v μ' 0 lc0 [] μ) : Ct l D b d y cc nL ret as μ v μ' := by
  subst hown
  refine Met.ofW (cc := cc) (maxL := nL) (ret := ret) (ws' := BIG) hy rfl ?_
  intro p e s m args below meth c s₁ B hml hv
  obtain ⟨rfl, hW, hK, hE⟩ := hv
  have hts := atoms_spec (ws := wsA y cc nL ret) B.pre
  have hl := lv_entry as hnl
  have hg := h (p, e, rmD d, s, m, as.toArray, below, meth, c) ⟨B.exec, B.bytes, hml, findClass_of_methodNamed B.named, fun w hw => hts w (List.mem_cons_of_mem _ hw), B.returns, B.notSynchronized, rfl, hK, hE⟩
  rw [lg_entry_eq]
  refine hg s.heap [] _ hW va_S.rf ?_
  subst hlc
  show lv_has _ _ _
  rw [toA_app, entL_sub]
  exact hl

end GR
