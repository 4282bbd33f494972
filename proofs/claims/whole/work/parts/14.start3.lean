theorem wl_7 : Cond.classLink RL 7 RX8 ∈ BIG := bigAt 101 (by decide +kernel) (by decide +kernel)
theorem wl_10 : Cond.classLink RL 10 RX9 ∈ BIG := bigAt 964 (by decide +kernel) (by decide +kernel)
theorem win_8 : Cond.instantiable RX8 (nf 8) ∈ BIG := bigAt 102 (by decide +kernel) (by decide +kernel)
theorem win_9 : Cond.instantiable RX9 (nf 9) ∈ BIG := bigAt 965 (by decide +kernel) (by decide +kernel)
theorem wini_8 : Cond.initialized RX8 ∈ BIG := by
  have h : Cond.initialized RX8 ∈ lw_tbl := by decide +kernel
  exact List.mem_filter.mpr ⟨h, by decide +kernel⟩
theorem wini_9 : Cond.initialized RX9 ∈ BIG := by
  have h : Cond.initialized RX9 ∈ lw_tbl := by decide +kernel
  exact List.mem_filter.mpr ⟨h, by decide +kernel⟩
theorem df_8 : ∀ k, k < nf 8 → defaultValue (tyX8 k) = if tf 8 k = 0 then .int 0 else .null := by decide +kernel
theorem df_9 : ∀ k, k < nf 9 → defaultValue (tyX9 k) = if tf 9 k = 0 then .int 0 else .null := by decide +kernel
theorem wml_8 : Cond.methodLink RL 9 yX8_init ∈ BIG := by
  have h : Cond.methodLink RL 9 yX8_init ∈ lw_tbl := by decide +kernel
  exact List.mem_filter.mpr ⟨h, by decide +kernel⟩
theorem wml_9 : Cond.methodLink RL 12 yX9_init ∈ BIG := by
  have h : Cond.methodLink RL 12 yX9_init ∈ lw_tbl := by decide +kernel
  exact List.mem_filter.mpr ⟨h, by decide +kernel⟩
theorem mi_X8 : MI yX8_init cX8_init 2 0 := by
  have h1 : Cond.instanceMethod yX8_init ∈ lw_tbl := by decide +kernel
  have h2 : Cond.code yX8_init cX8_init 2 none ∈ lw_tbl := by decide +kernel
  exact ⟨List.mem_filter.mpr ⟨h1, by decide +kernel⟩, wini_8, List.mem_filter.mpr ⟨h2, by decide +kernel⟩, by decide, rfl, by decide +kernel, by decide +kernel, by decide +kernel⟩
theorem mi_X9 : MI yX9_init cX9_init 2 0 := by
  have h1 : Cond.instanceMethod yX9_init ∈ lw_tbl := by decide +kernel
  have h2 : Cond.code yX9_init cX9_init 2 none ∈ lw_tbl := by decide +kernel
  exact ⟨List.mem_filter.mpr ⟨h1, by decide +kernel⟩, wini_9, List.mem_filter.mpr ⟨h2, by decide +kernel⟩, by decide, rfl, by decide +kernel, by decide +kernel, by decide +kernel⟩
section LNEW
variable {l : Launch} {p : Program} {e : Env} {s : State} {m : MethodId} {args : Array Value} {below : List Frame} {meth : Method} {c : Code} {D : DT} {b : Bool} {base : Nat} {μ : Mem} {H : Heap} {locs : List Loc} {cells slots : Nat} {Q : State → Prop} {ls : Array Slot} {st : List Value} {pc : Nat}
/-- the law makes an object of a class: the first cell of a side -/
theorem ln_new {ci index : Nat} {C : String} {T : u_T} {ty0 : Nat → FieldType} (hx : p.tables.exec = Jvm.exec) (hb : c.code = code) (hown : s.vm.findClass RL = some m.cls) (hbig : ∀ w ∈ BIG, w.before args s = true) (hKK : va_K (gD D) vwCl (tysD D) s) (hD : ∀ i, i < 100 → D.1 i = base + i) (hk : kd b 0 = ci) (hci : ci < 10) (hc : vwCl[ci]? = some (C, T, nf ci)) (hws : ∀ w ∈ u_ws C T (nf ci), w ∈ BIG) (hty : ∀ k, k < nf ci → parseFieldDescriptor (T k).2.2.1 = some (ty0 k)) (hdef : ∀ k, k < nf ci → defaultValue (ty0 k) = if tf ci k = 0 then .int 0 else .null)
    (hcl : Cond.classLink RL index C ∈ BIG) (hinst : Cond.instantiable C (nf ci) ∈ BIG) (hini : Cond.initialized C ∈ BIG) (hcells : cells + 1 ≤ 600000) (hslots : slots + nf ci ≤ 7302249) (hd : decode code pc = .ok (.new index, 3)) (hH : H.size = base)
    (kk : ∀ H1 : Heap, WdC D b base 1 zM H1 → H1.size = H.size + 1 → (∀ q, q < H.size → H1[q]? = H[q]?) → W p l e room_1 s m args below meth c H1 locs (cells + 1) (slots + nf ci) Q (F0 m (pc + 3) ls (.ref (D.1 0) :: st))) : W p l e room_1 s m args below meth c H locs cells slots Q (F0 m pc ls st) := by
  have hKn := hKK.1 ci _ hc
  have hh : H.size = D.1 0 := by rw [hD 0 (by decide), hH, Nat.add_zero]
  have hW0 : WdC D b base 0 zM H := ⟨fun k q h => by simp [cellsC] at h, hH, fun _ _ _ => rfl⟩
  refine W.newcK hx hb hown (hbig _ hcl) (hbig _ hinst) (hbig _ hini) rfl hd hcells hslots hKn.2.1 hh fun H1 kC hkC e1 z1 o1 => ?_
  rw [← hh] at z1 o1
  refine kk H1 (WdC_grow hW0 z1 o1 ?_) z1 o1
  rw [entC_obj hk hci]
  refine ⟨_, hc, (u_born ty0 hbig hws hKn hkC e1 hty).to (fun j hj => ?_)⟩
  show _ = vp_V _ j
  unfold vp_V
  rw [List.getD_eq_getElem?_getD, List.getElem?_map, List.getElem?_range hj]
  show _ = fvC D b zM 0 ci j
  rw [hdef j hj, fvC]
  simp [zM]
/-- the law runs its constructor -/
theorem ln_init {d1 mc1 ms1 nL1 index N1 : Nat} {y1 : MethodName} {cc1 : ByteArray} {μ1 : Mem} (hx : p.tables.exec = Jvm.exec) (hb : c.code = code) (hml : c.maxLocals = 4) (hown : s.vm.findClass RL = some m.cls) (hbig : ∀ w ∈ BIG, w.before args s = true) (hKK : va_K (gD D) vwCl (tysD D) s) (hE : b = true → EnvD D (fun q => s.heap.size ≤ q) s) (hAO : va_AO RX5 s) (hsz : s.heap.size ≤ base)
    (hM : CtC l D b base d1 mc1 ms1 y1 cc1 nL1 [.ref (D.1 0)] 1 μ N1 μ1) (mv : MI y1 cc1 nL1 0) (hw : Cond.methodLink RL index y1 ∈ BIG) (hd1 : d1 ≤ 100) (hcells : cells + mc1 ≤ 600000) (hslots : slots + ms1 ≤ 7302249) (hsum : (st.map fun v => v.category).sum ≤ 8) (hsl : ls.size = 4) (hd : decode code pc = .ok (.invokespecial index, 3)) (hW : WdC D b base 1 μ H) (hS : va_S (fun q => s.heap.size ≤ q) s.heap H locs)
    (kk : ∀ (H1 : Heap) (locs1 : List Loc), WdC D b base N1 μ1 H1 → va_S (fun q => s.heap.size ≤ q) s.heap H1 locs1 → (∀ q, q < base → q < H.size → H1[q]? = H[q]?) → W p l e room_1 s m args below meth c H1 locs1 (cells + mc1) (slots + ms1) Q (F0 m (pc + 3) ls st)) : W p l e room_1 s m args below meth c H locs cells slots Q (F0 m pc ls (.ref (D.1 0) :: st)) := by
  obtain ⟨m1, m3, m4, m5, m6, m7, m8, m9⟩ := mv
  have cw := cwI (R := room_1) (s := s) (args := args) (own := RL) (index := index) (y := y1) (bytes := cc1) (maxL := nL1) (ws := wsA y1 cc1 nL1 none) (rm := rmC d1 mc1 ms1) (mc := mc1) (ms := ms1) (Ts := BIG) 0 hbig (goodB m4) rfl rfl rfl (hbig _ m3) (hbig _ hw) (hbig _ m1) m6 ⟨m7, m8, m9⟩ ⟨show d1 + 1 ≤ 2048 by omega, show 8 + (nL1 + 11) + 40 * d1 ≤ 84000 by omega⟩
  have hrun : va_Run p l e room_1 s m args below meth c H locs cells slots mc1 ms1 (F0 m pc ls (.ref (D.1 0) :: st)) st (QrC D b base N1 μ1 (Value.ref (D.1 0) :: []).toArray) (fun q => base ≤ q) := va_runI (own := RL) (As := []) (g := F0 m pc ls (.ref (D.1 0) :: st)) ⟨hx, hb, hml, hown, hbig⟩ hM cw ⟨SgC_blind, fun U hU hWm => ⟨rfl, by rw [hU]; exact hW, va_K.moved hWm.alike hKK, fun hb2 => by
      have hE := hE hb2
      have hsub : ∀ q : Nat, base ≤ q → s.heap.size ≤ q := fun q h => Nat.le_trans hsz h
      exact EnvD_call (A := fun q => base ≤ q) ⟨hE.1.narrow hsub, hE.2.1.narrow hsub, hE.2.2.1.narrow hsub, hE.2.2.2.1.narrow hsub, hE.2.2.2.2.1.narrow hsub, hE.2.2.2.2.2.1.narrow hsub, hE.2.2.2.2.2.2⟩ (locs := []) ⟨hS.1, fun q g1 _ => hS.2.1 q g1 (Nat.not_le.mpr g1), fun _ h => by cases h⟩ hU hWm, fun _ => va_AO.moved hWm.alike hAO⟩⟩ rfl rfl hsl rfl (lv_room hsum) hd ⟨hcells, hslots⟩
  intro T hT Y
  obtain ⟨v, s0, t, T', L, h0, Y', hL, e1, e2, ⟨hv, hW1, hF⟩, go⟩ := hrun T hT Y
  cases hv
  obtain ⟨z, a1, b1⟩ := kk T'.heap (locs ++ L) (by rw [e1]; exact hW1) ⟨Nat.le_trans hS.1 (by rw [e1, ← h0]; exact hF.1), fun q g1 g2 => by
      rw [e1, hF.2 q (by rw [h0]; exact Nat.lt_of_lt_of_le g1 hS.1) (fun h => g2 (Nat.le_trans hsz h)), h0]
      exact hS.2.1 q g1 g2, fun q hq => by
      rcases List.mem_append.mp hq with h | h
      · exact hS.2.2 q h
      · exact Nat.le_trans hsz (hL q h)⟩ (fun q g1 g2 => by rw [e1, hF.2 q (by rw [h0]; exact g2) (Nat.not_le.mpr g1), h0]) T' rfl Y'
  exact ⟨z, go z a1, b1⟩
end LNEW
set_option maxRecDepth 100000 in
set_option maxHeartbeats 4000000 in
theorem whole_start_open {S : Mem → Mem → Prop} (hA : SimAll S) (h0 : S (i_X8_init_0 zM) (i_X9_init_0 zM)) {p : Program} {e : Env} {s : State} {m : MethodId} {below : List Frame} {meth : Method} {c : Code} (l : Launch) {b L : Nat} {xs : Nat → Int32} (hL : L ≤ 3072) (C0 : lw_At p s m meth c b L xs) : W p l e room_1 s m #[Value.ref b] below meth c s.heap [] 0 0 (lw_Z below #[Value.ref b] s) (entryFrame m ([Value.ref b] : List Value).toArray 4) := by
  obtain ⟨hx, hb, hr, hml, hown, hts, hX, hbl, hlocks, hgv⟩ := id C0
  have hbig : ∀ w ∈ BIG, w.before #[Value.ref b] s = true := fun w h => hts w (List.mem_filter.mp h).1
  obtain ⟨tK, tB, aK, aV, dC, dI, cT, hEnv⟩ := start_env hts hgv
  obtain ⟨hKD, hED, hAO⟩ := hEnv s.heap.size
  obtain ⟨hKE, -, -⟩ := hEnv (s.heap.size + 67)
  have hDb : ∀ i, i < 100 → (mkD s.heap.size tK tB aK aV dC dI cT).1 i = s.heap.size + i := fun i hi => if_pos hi
  have hEb : ∀ i, i < 100 → (mkD (s.heap.size + 67) tK tB aK aV dC dI cT).1 i = s.heap.size + 67 + i := fun i hi => if_pos hi
  generalize mkD s.heap.size tK tB aK aV dC dI cT = D at hKD hED hDb
  generalize mkD (s.heap.size + 67) tK tB aK aV dC dI cT = E at hKE hEb
  have hl0 := lv_entry ([.ref b]) (n := 4) (Nat.le_of_ble_eq_true rfl)
  rw [lg_entry_eq]
  generalize (lg_sl ([.ref b]) ++ List.replicate (4 - (lg_sl ([.ref b])).length) Slot.unset).toArray = ls at hl0 ⊢
  have hl : lv_has ls 4 [(0, .ref b)] := hl0
  refine ln_new (D := D) (b := true) (base := s.heap.size) (ty0 := tyX8) hx hb hown hbig hKD hDb (by decide +kernel) (by decide) rfl ws_X8 tyX8_ok df_8 wl_7 win_8 wini_8 (Nat.le_of_ble_eq_true rfl) (Nat.le_of_ble_eq_true rfl) dL_law_0 rfl (fun H1 hW1 z1 o1 => ?_)
  refine lv_dup hx hb dL_law_3 rfl ?_
  have hS1 : va_S (fun q => s.heap.size ≤ q) s.heap H1 [] := va_S.rf.grow z1 o1
  refine ln_init (D := D) (b := true) (base := s.heap.size) hx hb hml hown hbig hKD (fun _ => hED) hAO (Nat.le_refl _) (ci_X8_init_0 hDb) mi_X8 wml_8 (by decide) (Nat.le_of_ble_eq_true rfl) (Nat.le_of_ble_eq_true rfl) (Nat.le_of_ble_eq_true rfl) hl.1 dL_law_4 hW1 hS1 (fun H2 locs2 hW2 hS2 _ => ?_)
  refine lv_astore_n (lv' := [(1, .ref (D.1 0)), (0, .ref b)]) hx hb dL_law_7 rfl hl (by decide) rfl (fun ls hl => ?_)
  have hWc := Wd_ofC hDb hW2 refs_c byt_c
  have hz2 : H2.size = s.heap.size + 67 := hW2.2.1
  refine ln_new (D := E) (b := false) (base := s.heap.size + 67) (ty0 := tyX9) hx hb hown hbig hKE hEb (by decide +kernel) (by decide) rfl ws_X9 tyX9_ok df_9 wl_10 win_9 wini_9 (Nat.le_of_ble_eq_true rfl) (Nat.le_of_ble_eq_true rfl) dL_law_8 hz2 (fun H3 hW3 z3 o3 => ?_)
  refine lv_dup hx hb dL_law_11 rfl ?_
  have hS3 : va_S (fun q => s.heap.size ≤ q) s.heap H3 locs2 := hS2.grow z3 o3
  refine ln_init (D := E) (b := false) (base := s.heap.size + 67) hx hb hml hown hbig hKE (fun h => absurd h (by decide)) hAO (by omega) (ci_X9_init_0 hEb) mi_X9 wml_9 (by decide) (Nat.le_of_ble_eq_true rfl) (Nat.le_of_ble_eq_true rfl) (Nat.le_of_ble_eq_true rfl) hl.1 dL_law_12 hW3 hS3 (fun H4 locs4 hW4 hS4 o4 => ?_)
  have hWr := Wd_ofC hEb hW4 refs_r byt_r
  have hWc4 : Wd D true (i_X8_init_0 zM) H4 := by
    refine ⟨va_P.kept hWc.1 (fun k q hk => ?_), hWc.2⟩
    have hlt := (hWc.1 k q hk).lt
    rw [o4 q.1 (by omega) (by omega)]
    exact o3 q.1 hlt
  refine lv_astore_n (lv' := [(2, .ref (E.1 0)), (1, .ref (D.1 0)), (0, .ref b)]) hx hb dL_law_15 rfl hl (by decide) rfl (fun ls hl => ?_)
  refine lv_iconst (v := 0) hx hb dL_law_16 (by decide) ?_
  refine lv_istore_n (lv' := [(3, .int 0), (2, .ref (E.1 0)), (1, .ref (D.1 0)), (0, .ref b)]) hx hb dL_law_17 rfl hl (by decide) rfl (fun ls hl => ?_)
  have hCx : CxL l D E (p, e, room_1, s, m, #[Value.ref b], below, meth, c) b L xs cL_law := ⟨hx, hb, hml, hown, hbig, hr, hlocks, rfl, hKD, hED, hKE, hX, hbl, fun i hi => by rw [hDb i (by have : cnt true = 67 := rfl; omega)]; omega, fun i hi => by rw [hEb i (by have : cnt false = 16 := rfl; omega)]; omega, fun i j hi hj => by
    have c1 : cnt true = 67 := rfl
    have c2 : cnt false = 16 := rfl
    rw [hDb i (by omega), hEb j (by omega)]; omega⟩
  exact law_loop hA hCx (cells := 0 + 1 + 66 + 1 + 15) (slots := 0 + nf 8 + 2223 + nf 9 + 3045) ⟨Nat.le_of_ble_eq_true rfl, Nat.le_of_ble_eq_true rfl⟩ hL (L + 8) 0 0 (Nat.zero_le _) (by omega) nI_0.symm _ _ h0 H4 locs4 ls ⟨hWc4, hWr⟩ hS4 (lvP_of hl (by
    intro q hq
    simp only [toA, List.mem_cons, List.not_mem_nil, or_false] at hq
    rcases hq with rfl | rfl | rfl | rfl <;> simp))
