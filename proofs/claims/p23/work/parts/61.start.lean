/-! the start: what the tables and the premises give -/
theorem zgLB_ {U : List Cond} (hU : U.all goodWord = true) (hin : ∀ w ∈ U, w ∈ lw_tbl) {c2 : Cond} (h : c2 ∈ U) : GoodIn lw_tbl (c2 :: U) := fun w hw => (List.mem_cons.mp hw).elim (fun e => ⟨by rw [e]; exact hin _ h, good_of_word (List.all_eq_true.mp hU w (e ▸ h))⟩) (fun h2 => ⟨hin w h2, good_of_word (List.all_eq_true.mp hU w h2)⟩)
theorem zgLV_ {U : List Cond} (hU : U.all goodWord = true) (hin : ∀ w ∈ U, w ∈ lw_tbl) {c2 : Cond} {own : String} {idx : Nat} {C : String} {y : MethodName} (h : c2 ∈ U) (h1 : Cond.methodLink own idx y ∈ lw_tbl) (h2 : Cond.instanceMethod y ∈ lw_tbl) (h3 : Cond.selects C y y ∈ lw_tbl) (h4 : Cond.initialized C ∈ lw_tbl) : GoodIn lw_tbl (wsV own idx C y (c2 :: U)) := fun w hw => by
  rcases List.mem_append.mp hw with hw | hw
  · simp only [List.mem_cons, List.not_mem_nil, or_false] at hw
    rcases hw with rfl | rfl | rfl | rfl
    · exact ⟨h1, good_of_word rfl⟩
    · exact ⟨h2, good_of_word rfl⟩
    · exact ⟨h3, good_of_word rfl⟩
    · exact ⟨h4, good_of_word rfl⟩
  · exact zgLB_ hU hin h w hw
theorem zE_arr {s : State} {args : Array Value} {ty : FieldType} (h : (Cond.arrayClass ty).before args s = true) : ∃ cA : ClassId, ArrOfT s cA ty ∧ s.vm.findClass ("[" ++ ty.toString) = some cA := by
  obtain ⟨c, k, comp, h1, h2, h3⟩ := Cond.arrayClass_spec h
  exact ⟨c, fun n z => ⟨fun q h => (by cases h), k, h2, comp, h3⟩, h1⟩
theorem zE_start {s : State} {args : Array Value} (hts : ∀ w ∈ lw_tbl, w.before args s = true) : ∃ V : zV, zE V s := by
  obtain ⟨c0, i0, k0⟩ := u_known (C := RX0) (T := TX0) (N := 14) (n := 14) hts wsX00_in (hts (.instantiable RX0 14) (tq_1 _ (List.mem_of_getElem? (i := 19) rfl)))
  obtain ⟨c1, i1, k1⟩ := u_known (C := RX1) (T := TX1) (N := 3) (n := 3) hts wsX10_in (hts (.instantiable RX1 3) (tq_1 _ (List.mem_of_getElem? (i := 141) rfl)))
  obtain ⟨c2, i2, k2⟩ := u_known (C := RX2) (T := TX2) (N := 4) (n := 4) hts wsX20_in (hts (.instantiable RX2 4) (tq_1 _ (List.mem_of_getElem? (i := 27) rfl)))
  obtain ⟨c3, i3, k3⟩ := u_known (C := RX3) (T := TX3) (N := 2) (n := 2) hts wsX30_in (hts (.instantiable RX3 2) (tq_1 _ (List.mem_of_getElem? (i := 175) rfl)))
  obtain ⟨c4, i4, k4⟩ := u_known (C := RX4) (T := TX4) (N := 5) (n := 5) hts wsX40_in (hts (.instantiable RX4 5) (tq_1 _ (List.mem_of_getElem? (i := 188) rfl)))
  obtain ⟨c5, i5, k5⟩ := u_known (C := RX5) (T := TX5) (N := 8) (n := 8) hts wsX50_in (hts (.instantiable RX5 8) (tq_1 _ (List.mem_of_getElem? (i := 51) rfl)))
  obtain ⟨c6, i6, k6⟩ := u_known (C := RX6) (T := TX6) (N := 2) (n := 2) hts wsX60_in (hts (.instantiable RX6 2) (tq_1 _ (List.mem_of_getElem? (i := 161) rfl)))
  obtain ⟨c7, i7, k7⟩ := u_known (C := RX7) (T := TX7) (N := 7) (n := 7) hts wsX70_in (hts (.instantiable RX7 7) (tq_1 _ (List.mem_of_getElem? (i := 11) rfl)))
  obtain ⟨cI, aI, nI_⟩ := zE_arr (hts (.arrayClass .int) (tq_1 _ (List.mem_of_getElem? (i := 46) rfl)))
  obtain ⟨comp, cA, kA, f1, -, f2, f3, f4⟩ := Cond.arrayOver_spec (hts (.arrayOver (.object RX0)) (tq_1 _ (List.mem_of_getElem? (i := 147) rfl)))
  have aA : ArrOfT s cA (.object RX0) := fun n z => ⟨fun q h => (by cases h), kA, f2, comp, f3⟩
  refine ⟨((fun k => match k with | 0 => c0 | 1 => c1 | 2 => c2 | 3 => c3 | 4 => c4 | 5 => c5 | 6 => c6 | _ => c7, fun k => match k with | 0 => i0 | 1 => i1 | 2 => i2 | 3 => i3 | 4 => i4 | 5 => i5 | 6 => i6 | _ => i7), cI, cI, cA), ⟨fun k q hq => ?_, fun k q hq => ?_⟩, fun w hw => ?_⟩
  · match k, hq with
    | 0, hq => cases hq; exact k0
    | 1, hq => cases hq; exact k1
    | 2, hq => cases hq; exact k2
    | 3, hq => cases hq; exact k3
    | 4, hq => cases hq; exact k4
    | 5, hq => cases hq; exact k5
    | 6, hq => cases hq; exact k6
    | 7, hq => cases hq; exact k7
    | k + 8, hq => simp [vwCl] at hq
  · match k, hq with
    | 0, hq => cases hq; exact ⟨aI, nI_⟩
    | 1, hq => cases hq; exact ⟨aI, nI_⟩
    | 2, hq => cases hq; exact ⟨aA, kA, comp, f2, f3, f1, f4⟩
    | k + 3, hq => simp [zTY] at hq
  · exact va_Nw.of (zNb_tables (List.all_eq_true.mp zNW_all w hw)) (hts w (zNW_in w hw))
theorem zST_start {s : State} {args : Array Value} (hts : ∀ w ∈ lw_tbl, w.before args s = true) (hgv : (Jvm.Cond.and given_1 narrow_1).before args s = true) : zST (fun q => s.heap.size ≤ q) s s.heap := by
  have hs := flat_of_before _ hgv
  have hA : ∀ a : Nat, a < s.heap.size → ¬ (fun q => s.heap.size ≤ q) a := fun a h q => absurd h (Nat.not_lt.mpr q)
  refine ⟨?_, ?_, ?_⟩
  · obtain ⟨t, ht, hT⟩ := va_Tof (tm := .static "DrawerSlips" "LEAST_VALUES" "[I") (ty := .int) (N := 6) (f := fun j => .int (zLe j)) (A := fun q => s.heap.size ≤ q) (by decide) (hs _ (by decide +kernel)) (va_eqt (z := 6) (hs _ (by decide +kernel))) (fun j hj => by
      rcases (show j = 0 ∨ j = 1 ∨ j = 2 ∨ j = 3 ∨ j = 4 ∨ j = 5 by omega) with rfl | rfl | rfl | rfl | rfl | rfl
      · exact va_eqt (z := 1) (hs _ (by decide +kernel))
      · exact va_eqt (z := 1) (hs _ (by decide +kernel))
      · exact va_eqt (z := 1) (hs _ (by decide +kernel))
      · exact va_eqt (z := 1) (hs _ (by decide +kernel))
      · exact va_eqt (z := 0) (hs _ (by decide +kernel))
      · exact va_eqt (z := 1) (hs _ (by decide +kernel))) hA
    exact ⟨t, va_Zref (hts (.laysStatic "DrawerSlips" "LEAST_VALUES" "[I") (tq_2 _ (List.mem_of_getElem? (i := 20) rfl))) (hts (.initialized RX7) (tq_1 _ (List.mem_of_getElem? (i := 1) rfl))) ht hA, hT⟩
  · obtain ⟨t, ht, hT⟩ := va_Tof (tm := .static "DrawerSlips" "MOST_VALUES" "[I") (ty := .int) (N := 6) (f := fun j => .int (zMo j)) (A := fun q => s.heap.size ≤ q) (by decide) (hs _ (by decide +kernel)) (va_eqt (z := 6) (hs _ (by decide +kernel))) (fun j hj => by
      rcases (show j = 0 ∨ j = 1 ∨ j = 2 ∨ j = 3 ∨ j = 4 ∨ j = 5 by omega) with rfl | rfl | rfl | rfl | rfl | rfl
      · exact va_eqt (z := 999) (hs _ (by decide +kernel))
      · exact va_eqt (z := 999) (hs _ (by decide +kernel))
      · exact va_eqt (z := 16) (hs _ (by decide +kernel))
      · exact va_eqt (z := 9) (hs _ (by decide +kernel))
      · exact va_eqt (z := 9) (hs _ (by decide +kernel))
      · exact va_eqt (z := 20) (hs _ (by decide +kernel))) hA
    exact ⟨t, va_Zref (hts (.laysStatic "DrawerSlips" "MOST_VALUES" "[I") (tq_2 _ (List.mem_of_getElem? (i := 25) rfl))) (hts (.initialized RX7) (tq_1 _ (List.mem_of_getElem? (i := 1) rfl))) ht hA, hT⟩
  · obtain ⟨t, ht, hT⟩ := va_Tof (tm := .static "DrawerSlips" "FIRST_VALUES" "[I") (ty := .int) (N := 6) (f := fun j => .int (zFi j)) (A := fun q => s.heap.size ≤ q) (by decide) (hs _ (by decide +kernel)) (va_eqt (z := 6) (hs _ (by decide +kernel))) (fun j hj => by
      rcases (show j = 0 ∨ j = 1 ∨ j = 2 ∨ j = 3 ∨ j = 4 ∨ j = 5 by omega) with rfl | rfl | rfl | rfl | rfl | rfl
      · exact va_eqt (z := 50) (hs _ (by decide +kernel))
      · exact va_eqt (z := 200) (hs _ (by decide +kernel))
      · exact va_eqt (z := 4) (hs _ (by decide +kernel))
      · exact va_eqt (z := 2) (hs _ (by decide +kernel))
      · exact va_eqt (z := 1) (hs _ (by decide +kernel))
      · exact va_eqt (z := 2) (hs _ (by decide +kernel))) hA
    exact ⟨t, va_Zref (hts (.laysStatic "DrawerSlips" "FIRST_VALUES" "[I") (tq_1 _ (List.mem_of_getElem? (i := 25) rfl))) (hts (.initialized RX7) (tq_1 _ (List.mem_of_getElem? (i := 1) rfl))) ht hA, hT⟩
def mW0 : Nat → Int32 := upd (upd (upd (upd (upd (upd (upd (fun _ => 0) 0 50) 1 200) 2 4) 3 2) 4 1) 5 2) 16 2
theorem rRep0 : Rep zA0 mW0 0 0 0 := by
  refine ⟨fun k => k, 0, 0, ⟨fun k hk => absurd hk (by omega), fun k hk => absurd hk (by omega), fun i hi => ⟨fun z => absurd rfl z, fun ⟨k, hk, _⟩ => absurd hk (by omega)⟩, fun k hk => absurd hk (by omega)⟩, ?_, fun k hk => absurd hk (by omega), fun k j _ hj => absurd hj (by omega), ?_, fun j _ hj => absurd hj (Nat.not_lt_zero _), fun i hi => Or.inl rfl⟩
  · exact ⟨rfl, by decide, rfl, Nat.le_refl _, by decide, rfl, by decide, rfl, by decide, rfl, rfl, Nat.le_refl _, rfl, Or.inl ⟨rfl, rfl⟩, ⟨1, by decide, rfl⟩, ⟨2, by decide, rfl⟩⟩
  · refine ⟨fun j hj => ?_, rfl, rfl, rfl, rfl, rfl, rfl, rfl, rfl, fun h => absurd h (by omega), rfl, rfl⟩
    rcases (show j = 0 ∨ j = 1 ∨ j = 2 ∨ j = 3 ∨ j = 4 ∨ j = 5 by omega) with rfl | rfl | rfl | rfl | rfl | rfl <;> rfl
