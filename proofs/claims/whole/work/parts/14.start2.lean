def tmS (i : Nat) : Term := if i = 0 then .string "GateMinds$Keep" 11 else if i = 1 then .string "GateMinds$Keep" 22 else .string "GateMinds$Reader" 22
def mkD (base tK tB : Nat) (aK aV : Nat → Nat) (dC : Nat → ClassId) (dI : Nat → Nat → Nat) (cT : Nat → ClassId) : DT := (fun i => if i < 100 then base + i else if i = 100 then tK else if i = 101 then tB else if i < 120 then aK (i - 110) else aV (i - 120), dC, dI, cT)
abbrev stC : Cond := Jvm.Cond.and given_1 narrow_1
theorem st_K1 : Cond.arrayOf (.static "GateMinds" "KIND_ABOVE" "[I") .int ∈ flatC stC := by decide +kernel
theorem st_K2 : Cond.eq (.length (.static "GateMinds" "KIND_ABOVE" "[I")) (.int 7) ∈ flatC stC := by decide +kernel
theorem st_K3 : ∀ j, j < 7 → Cond.eq (.elem (.static "GateMinds" "KIND_ABOVE" "[I") (.int (Int32.ofNat j))) (.int (KA.getD j 0)) ∈ flatC stC := by decide +kernel
theorem st_B1 : Cond.arrayOf (.static "GateMinds$Speech" "BODIES" "[I") .int ∈ flatC stC := by decide +kernel
theorem st_B2 : Cond.eq (.length (.static "GateMinds$Speech" "BODIES" "[I")) (.int 28) ∈ flatC stC := by decide +kernel
theorem st_B3 : ∀ j, j < 28 → Cond.eq (.elem (.static "GateMinds$Speech" "BODIES" "[I") (.int (Int32.ofNat j))) (.int (BO.getD j 0)) ∈ flatC stC := by decide +kernel
theorem st_C : Cond.eq (.static "java/lang/String" "COMPACT_STRINGS" "Z") (.int 1) ∈ flatC stC := by decide +kernel
theorem st_S1 : ∀ i, i < 3 → Cond.exactly (tmS i) "java/lang/String" ∈ flatC stC := by decide +kernel
theorem st_S2 : ∀ i, i < 3 → Cond.eq (.field (tmS i) "java/lang/String" "coder" "B") (.int 0) ∈ flatC stC := by decide +kernel
theorem st_S3 : ∀ i, i < 3 → Cond.arrayOf (.field (tmS i) "java/lang/String" "value" "[B") .byte ∈ flatC stC := by decide +kernel
theorem st_S4 : ∀ i, i < 3 → Cond.eq (.length (.field (tmS i) "java/lang/String" "value" "[B")) (.int (Int32.ofNat (sLen.getD i 0))) ∈ flatC stC := by decide +kernel
theorem st_S5 : ∀ i, i < 3 → ∀ j, j < sLen.getD i 0 → Cond.eq (.elem (.field (tmS i) "java/lang/String" "value" "[B") (.int (Int32.ofNat j))) (.int ((sByt.getD i []).getD j 0)) ∈ flatC stC := by decide +kernel
theorem st_S6 : ∀ i, i < 3 → ∀ j, j < 3 → i ≠ j → Cond.not (Cond.eq (tmS i) (tmS j)) ∈ flatC stC ∨ Cond.not (Cond.eq (tmS j) (tmS i)) ∈ flatC stC := by decide +kernel
theorem in_nest : ∀ w ∈ nestL, w ∈ lw_tbl := by decide +kernel
theorem in_ks : Cond.laysStatic "GateMinds" "KIND_ABOVE" "[I" ∈ lw_tbl ∧ Cond.laysStatic "GateMinds$Speech" "BODIES" "[I" ∈ lw_tbl ∧ Cond.laysStatic "java/lang/String" "COMPACT_STRINGS" "Z" ∈ lw_tbl := by decide +kernel
theorem in_ki : Cond.initialized "GateMinds" ∈ lw_tbl ∧ Cond.initialized "GateMinds$Speech" ∈ lw_tbl ∧ Cond.initialized "java/lang/String" ∈ lw_tbl := by decide +kernel
theorem in_sr : Cond.stringRef RX0 11 "whg" ∈ lw_tbl ∧ Cond.stringRef RX0 22 "gfd" ∈ lw_tbl ∧ Cond.stringRef RX4 22 "" ∈ lw_tbl := by decide +kernel
theorem in_ao : Cond.arrayOver (.object RX5) ∈ lw_tbl := by decide +kernel
theorem in_inst : ∀ c, c < 10 → ∀ r, vwCl[c]? = some r → r.2.2 = nf c ∧ Cond.instantiable r.1 r.2.2 ∈ lw_tbl := by
  intro c hc r hr
  rcases (show c = 0 ∨ c = 1 ∨ c = 2 ∨ c = 3 ∨ c = 4 ∨ c = 5 ∨ c = 6 ∨ c = 7 ∨ c = 8 ∨ c = 9 by omega) with rfl | rfl | rfl | rfl | rfl | rfl | rfl | rfl | rfl | rfl <;> cases hr <;> exact ⟨by decide +kernel, by decide +kernel⟩
theorem in_ws : ∀ c, c < 10 → ∀ r, vwCl[c]? = some r → ∀ w ∈ u_ws r.1 r.2.1 r.2.2, w ∈ BIG := by
  intro c hc r hr
  rcases (show c = 0 ∨ c = 1 ∨ c = 2 ∨ c = 3 ∨ c = 4 ∨ c = 5 ∨ c = 6 ∨ c = 7 ∨ c = 8 ∨ c = 9 by omega) with rfl | rfl | rfl | rfl | rfl | rfl | rfl | rfl | rfl | rfl <;> cases hr
  · exact ws_X0
  · exact ws_X1
  · exact ws_X2
  · exact ws_X3
  · exact ws_X4
  · exact ws_X5
  · exact ws_X6
  · exact ws_X7
  · exact ws_X8
  · exact ws_X9
/-- what the start gives, at addresses of our choice -/
theorem start_env {s : State} {b : Nat} (hts : ∀ w ∈ lw_tbl, w.before #[Value.ref b] s = true) (hgv : stC.before #[Value.ref b] s = true) :
    ∃ (tK tB : Nat) (aK aV : Nat → Nat) (dC : Nat → ClassId) (dI : Nat → Nat → Nat) (cT : Nat → ClassId), ∀ base : Nat,
      va_K (gD (mkD base tK tB aK aV dC dI cT)) vwCl (tysD (mkD base tK tB aK aV dC dI cT)) s ∧ EnvD (mkD base tK tB aK aV dC dI cT) (fun q => s.heap.size ≤ q) s ∧ va_AO RX5 s := by
  have hs := flat_of_before _ hgv
  have hA : ∀ a : Nat, a < s.heap.size → ¬ (fun q : Nat => s.heap.size ≤ q) a := fun a h => Nat.not_le.mpr h
  have hbig : ∀ w ∈ BIG, w.before #[Value.ref b] s = true := fun w h => hts w (List.mem_filter.mp h).1
  obtain ⟨tK, hK1, hK2⟩ := va_Tof (N := 7) (f := fun j => .int (KA.getD j 0)) (by decide) (hs _ st_K1) (va_eqt (hs _ st_K2)) (fun j hj => va_eqt (hs _ (st_K3 j hj))) hA
  obtain ⟨tB, hB1, hB2⟩ := va_Tof (N := 28) (f := fun j => .int (BO.getD j 0)) (by decide) (hs _ st_B1) (va_eqt (hs _ st_B2)) (fun j hj => va_eqt (hs _ (st_B3 j hj))) hA
  obtain ⟨aK, aV, hS1, hS2⟩ := vk_Sof (N := 3) (tm := tmS) (len := sLen) (byt := sByt) (A := fun q => s.heap.size ≤ q) (by decide +kernel) (fun i hi => hs _ (st_S1 i hi)) (fun i hi => hs _ (st_S2 i hi)) (fun i hi => hs _ (st_S3 i hi)) (fun i hi => hs _ (st_S4 i hi)) (fun i hi j hj => hs _ (st_S5 i hi j hj)) (fun i j hi hj h => (st_S6 i hi j hj h).elim (fun q => Or.inl (hs _ q)) (fun q => Or.inr (hs _ q))) hA
  have hcl : ∀ k : Nat, ∃ q : ClassId × (Nat → Nat), ∀ r, vwCl[k]? = some r → u_Kn s r.1 r.2.1 r.2.2 q.1 q.2 := by
    intro k
    by_cases hk : k < 10
    · cases hr : vwCl[k]? with
      | none => exact ⟨(0, fun _ => 0), fun r h => by cases h⟩
      | some r =>
        obtain ⟨c, iS, h⟩ := u_known (C := r.1) (T := r.2.1) (N := r.2.2) (n := r.2.2) hbig (in_ws k hk r hr) (hts _ (in_inst k hk r hr).2)
        exact ⟨(c, iS), fun r' h' => by cases h'; exact h⟩
    · exact ⟨(0, fun _ => 0), fun r h => by
        rw [List.getElem?_eq_none (show vwCl.length ≤ k from Nat.not_lt.mp hk)] at h
        cases h⟩
  obtain ⟨fq, hfq⟩ := Classical.axiomOfChoice hcl
  have harr : ∀ ty : FieldType, (Cond.arrayClass ty).before #[Value.ref b] s = true → (∀ C, ty ≠ .object C) → ∃ cA, ArrOfT s cA ty ∧ va_RA s cA ty := by
    intro ty h hno
    obtain ⟨cA, kA, comp, h1, h2, h3⟩ := Cond.arrayClass_spec h
    refine ⟨cA, fun n z => ⟨(fun k h => by cases h), kA, h2, comp, h3⟩, ?_⟩
    cases ty with
    | object C => exact absurd rfl (hno C)
    | _ => exact h1
  obtain ⟨cI, hI1, hI2⟩ := harr .int (hbig _ war_int) (fun C h => by cases h)
  obtain ⟨cB, hB3, hB4⟩ := harr .byte (hbig _ war_byte) (fun C h => by cases h)
  have hao : (Cond.arrayOver (.object RX5)).before #[Value.ref b] s = true := hts _ in_ao
  obtain ⟨comp, cS, kS, f1, -, f2, f3, f4⟩ := Cond.arrayOver_spec hao
  refine ⟨tK, tB, aK, aV, fun k => (fq k).1, fun k => (fq k).2, fun k => if k = 0 then cI else if k = 1 then cB else cS, fun base => ⟨⟨fun k q h => hfq k q h, fun k q h => ?_⟩, ?_, va_AO.of hao⟩⟩
  · have hk : k < 3 := (List.getElem?_eq_some_iff.mp h).1
    rcases (show k = 0 ∨ k = 1 ∨ k = 2 by omega) with rfl | rfl | rfl
    · cases h; exact ⟨hI1, hI2⟩
    · cases h; exact ⟨hB3, hB4⟩
    · cases h
      exact ⟨fun n z => ⟨(fun k h => by cases h), kS, f2, comp, f3⟩, kS, comp, f2, f3, f1, f4⟩
  · have e1 : ∀ i, i < 3 → (mkD base tK tB aK aV (fun k => (fq k).1) (fun k => (fq k).2) (fun k => if k = 0 then cI else if k = 1 then cB else cS)).1 (110 + i) = aK i := by
      intro i hi
      show (if 110 + i < 100 then base + (110 + i) else if 110 + i = 100 then tK else if 110 + i = 101 then tB else if 110 + i < 120 then aK (110 + i - 110) else aV (110 + i - 120)) = aK i
      rw [if_neg (by omega), if_neg (by omega), if_neg (by omega), if_pos (by omega), Nat.add_sub_cancel_left]
    have e2 : ∀ i, i < 3 → (mkD base tK tB aK aV (fun k => (fq k).1) (fun k => (fq k).2) (fun k => if k = 0 then cI else if k = 1 then cB else cS)).1 (120 + i) = aV i := by
      intro i hi
      show (if 120 + i < 100 then base + (120 + i) else if 120 + i = 100 then tK else if 120 + i = 101 then tB else if 120 + i < 120 then aK (120 + i - 110) else aV (120 + i - 120)) = aV i
      rw [if_neg (by omega), if_neg (by omega), if_neg (by omega), if_neg (by omega), Nat.add_sub_cancel_left]
    refine ⟨va_Zof (hts _ in_ks.1) (hts _ in_ki.1) hK1 hA, hK2, va_Zof (hts _ in_ks.2.1) (hts _ in_ki.2.1) hB1 hA, hB2, va_Zof (hts _ in_ks.2.2) (hts _ in_ki.2.2) (va_eqi (hs _ st_C)) hA, ?_, ?_, ?_, ?_, fun w hw => ?_⟩
    · refine ⟨fun i hi => ?_, fun i j hi hj h => ?_⟩
      · dsimp only
        rw [e1 i hi, e2 i hi]
        exact hS1.1 i hi
      · dsimp only at h
        rw [e1 i hi, e1 j hj] at h
        exact hS1.2 i j hi hj h
    · rw [e1 0 (by decide)]
      exact vk_R.of (A := #[Value.ref b]) (hts _ in_sr.1) (hS2 0 (by decide)) |> fun h => h
    · rw [e1 1 (by decide)]
      exact vk_R.of (A := #[Value.ref b]) (hts _ in_sr.2.1) (hS2 1 (by decide))
    · rw [e1 2 (by decide)]
      exact vk_R.of (A := #[Value.ref b]) (hts _ in_sr.2.2) (hS2 2 (by decide))
    · have h1 := hts w (in_nest w hw)
      have h2 := nestL_ok w hw
      cases w <;> first | exact va_Nw.of rfl h1 | cases h2
