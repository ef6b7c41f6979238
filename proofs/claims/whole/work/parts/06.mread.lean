theorem z_lc (x a : Int32) : (lg_cmp x.toInt64 a.toInt64 < 0 ↔ x < a) ∧ (0 < lg_cmp x.toInt64 a.toInt64 ↔ a < x) := by
  have e1 : x.toInt64.toInt = x.toInt := Int32.toInt_toInt64 x
  have e2 : a.toInt64.toInt = a.toInt := Int32.toInt_toInt64 a
  have h1 : (x.toInt64 > a.toInt64) ↔ a < x := by
    show a.toInt64 < x.toInt64 ↔ _
    rw [Int64.lt_iff_toInt_lt, Int32.lt_iff_toInt_lt, e1, e2]
  have h2 : (x.toInt64 = a.toInt64) ↔ x = a := by
    rw [← Int64.toInt_inj, ← Int32.toInt_inj, e1, e2]
  unfold lg_cmp
  by_cases g1 : a < x
  · rw [if_pos (h1.mpr g1)]
    refine ⟨⟨fun h => absurd h (by decide), fun h => ?_⟩, ⟨fun _ => g1, fun _ => by decide⟩⟩
    exact absurd h (by rw [Int32.lt_iff_toInt_lt] at g1 ⊢; omega)
  · rw [if_neg (fun h => g1 (h1.mp h))]
    by_cases g2 : x = a
    · rw [if_pos (h2.mpr g2)]
      refine ⟨⟨fun h => absurd h (by decide), fun h => ?_⟩, ⟨fun h => absurd h (by decide), fun h => absurd h g1⟩⟩
      rw [g2, Int32.lt_iff_toInt_lt] at h
      omega
    · rw [if_neg (fun h => g2 (h2.mp h))]
      refine ⟨⟨fun _ => ?_, fun _ => by decide⟩, ⟨fun h => absurd h (by decide), fun h => absurd h g1⟩⟩
      rw [Int32.lt_iff_toInt_lt] at g1 ⊢
      have g3 : x.toInt ≠ a.toInt := fun h => g2 (Int32.toInt_inj.mp h)
      omega
theorem z_nlt {a b : Int32} (h : ¬ a < b) : b ≤ a := by rw [Int32.lt_iff_toInt_lt] at h; rw [Int32.le_iff_toInt_le]; omega
theorem z_nle {a b : Int32} (h : ¬ a ≤ b) : b < a := by rw [Int32.le_iff_toInt_le] at h; rw [Int32.lt_iff_toInt_lt]; omega
theorem z_lt' {a b : Int32} (h : a < b) : ¬ b ≤ a := by rw [Int32.lt_iff_toInt_lt] at h; rw [Int32.le_iff_toInt_le]; omega
theorem z_le' {a b : Int32} (h : a ≤ b) : ¬ b < a := by rw [Int32.le_iff_toInt_le] at h; rw [Int32.lt_iff_toInt_lt]; omega
theorem z_in1 {x a b : Int32} (h1 : ¬ lg_cmp x.toInt64 a.toInt64 < 0) (h2 : ¬ 0 < lg_cmp x.toInt64 b.toInt64) : a ≤ x ∧ x ≤ b := ⟨z_nlt (fun h => h1 ((z_lc x a).1.mpr h)), z_nlt (fun h => h2 ((z_lc x b).2.mpr h))⟩
theorem z_in2 {x a b : Int32} (h1 : lg_cmp x.toInt64 a.toInt64 < 0) : ¬ (a ≤ x ∧ x ≤ b) := fun h => z_lt' ((z_lc x a).1.mp h1) h.1
theorem z_in3 {x a b : Int32} (h1 : 0 < lg_cmp x.toInt64 b.toInt64) : ¬ (a ≤ x ∧ x ≤ b) := fun h => z_lt' ((z_lc x b).2.mp h1) h.2
theorem z_n6 {b : Nat} (h : b < 2 ^ 31) : ¬ nI b = -6 := by
  intro e
  have h1 := congrArg Int32.toInt e
  rw [nI_toInt h] at h1
  have h2 : ((-6 : Int32)).toInt = -6 := by decide
  omega
theorem z_01 {x : Int32} (h : x = 0 ∨ x = 1) : ∃ j : Nat, j < 2 ∧ x = nI j := by
  rcases h with rfl | rfl
  · exact ⟨0, by decide, rfl⟩
  · exact ⟨1, by decide, rfl⟩
set_option maxHeartbeats 4000000 in
set_option maxRecDepth 100000 in
theorem c_X8_its (l : Launch) (V : zV) (g : Nat → Nat) (w pa be av sl sv pd cd : Nat → Int32) (st le ap pl wy : Int32) (k f : Nat) (hk : 78 + 6 * k + f < 258) : Met l yX8_its wsX8_its (zR 0 0 0) (zPc V [.ref (g 0), .int (nI k), .int (nI f)] (fun H => va_P V.1 vwCl (zmW V g w pa be av sl sv pd cd st le ap pl wy) H)) (vp_Si (fun r => r = (zF w k f))) 0 0 (fun _ => False) := by
  refine Met.ofW (cc := cX8_its) (maxL := 3) (ret := (some .int)) (by decide) rfl ?_
  intro p e s m args below meth c s₁ B hml hv
  obtain ⟨rfl, hP, hE⟩ := hv
  have hx := B.exec
  have hb := B.bytes
  have hr := B.returns
  have hts := atoms_spec (ws := wsX8_its) B.pre
  have hown : s.vm.findClass RX8 = some m.cls := findClass_of_methodNamed B.named
  have hlocks := B.notSynchronized
  have hl := lv_entry ([.ref (g 0), .int (nI k), .int (nI f)]) (n := 3) (Nat.le_of_ble_eq_true rfl)
  rw [lg_entry_eq]
  generalize (lg_sl ([.ref (g 0), .int (nI k), .int (nI f)]) ++ List.replicate (3 - (lg_sl ([.ref (g 0), .int (nI k), .int (nI f)])).length) Slot.unset).toArray = ls at hl ⊢
  have hl : lv_has ls 3 [(0, .ref (g 0)), (1, .int (nI k)), (2, .int (nI f))] := hl
  refine lv_aload_n hx hb dX8_its_0 rfl (lv_at hl 0 rfl) ?_
  refine zm_get 0 (.ref (g 1)) hx hb hts (fun x h => List.mem_cons_of_mem _ (hU_X8 x h)) hown hE hP (by decide) rfl (hts _ (List.mem_cons_of_mem _ uM_5)) (fun _ h9 => h9) dX8_its_1 ?_
  refine lv_bipush (v := 78) hx hb dX8_its_4 (by decide +kernel) ?_
  refine lv_bipush (v := 6) hx hb dX8_its_6 (by decide +kernel) ?_
  refine lv_iload_n hx hb dX8_its_8 rfl (lv_at hl 1 rfl) ?_
  refine lv_imul hx hb dX8_its_9 ?_
  refine zt_i (z_mul (a := 6) (b := k) (by first | rfl | omega)) ?_
  refine lv_iadd hx hb dX8_its_10 ?_
  refine zt_i (z_add (a := 78) (b := 6 * k) (by first | rfl | omega)) ?_
  refine lv_iload_n hx hb dX8_its_11 rfl (lv_at hl 2 rfl) ?_
  refine lv_iadd hx hb dX8_its_12 ?_
  refine zt_i (z_add (a := 78 + 6 * k) (b := f) (by first | rfl | omega)) ?_
  refine z_iald (k := 78 + 6 * k + f) hx hb hE hP 1 (zm_c1 V g w pa be av sl sv pd cd st le ap pl wy) (by omega) (by decide) dX8_its_13 ?_
  exact zr_si hx hb hr hlocks (by rfl) dX8_its_14
set_option maxHeartbeats 4000000 in
set_option maxRecDepth 100000 in
theorem c_X8_in (l : Launch) (V : zV) (x a b : Int32) : Met l yX8_in wsX8_in (zR 0 0 0) (zPc V [.long x.toInt64, .int a, .int b] (fun H => True)) (vp_Si (fun r => r = (if a ≤ x ∧ x ≤ b then 1 else 0))) 0 0 (fun _ => False) := by
  refine Met.ofW (cc := cX8_in) (maxL := 4) (ret := (some .boolean)) (by decide) rfl ?_
  intro p e s m args below meth c s₁ B hml hv
  obtain ⟨rfl, hP, hE⟩ := hv
  have hx := B.exec
  have hb := B.bytes
  have hr := B.returns
  have hts := atoms_spec (ws := wsX8_in) B.pre
  have hown : s.vm.findClass RX8 = some m.cls := findClass_of_methodNamed B.named
  have hlocks := B.notSynchronized
  have hl := lv_entry ([.long x.toInt64, .int a, .int b]) (n := 4) (Nat.le_of_ble_eq_true rfl)
  rw [lg_entry_eq]
  generalize (lg_sl ([.long x.toInt64, .int a, .int b]) ++ List.replicate (4 - (lg_sl ([.long x.toInt64, .int a, .int b])).length) Slot.unset).toArray = ls at hl ⊢
  have hl : lv_has ls 4 [(0, .long x.toInt64), (2, .int a), (3, .int b)] := hl
  refine lv_lload_n hx hb dX8_in_0 rfl (lv_at hl 0 rfl) ?_
  refine lv_iload_n hx hb dX8_in_1 rfl (lv_at hl 1 rfl) ?_
  refine lv_i2l (v := a.toInt64) hx hb dX8_in_2 rfl ?_
  refine W.lcmp hx hb dX8_in_3 ?_
  refine lv_if_lt (tgt := 18) hx hb dX8_in_4 (by decide) (fun c_4 => ?_) (fun c_4 => ?_)
  · refine lv_iconst (v := 0) hx hb dX8_in_18 (by decide +kernel) ?_
    exact zr_sz hx hb hr hlocks (by first | exact Or.inl rfl | exact Or.inr rfl | assumption) (by first | (rw [if_pos (z_in1 c_4 c_11)]) | (rw [if_neg (z_in2 c_4)]) | (rw [if_neg (z_in3 c_11)])) dX8_in_19
  · refine lv_lload_n hx hb dX8_in_7 rfl (lv_at hl 0 rfl) ?_
    refine lv_iload_n hx hb dX8_in_8 rfl (lv_at hl 2 rfl) ?_
    refine lv_i2l (v := b.toInt64) hx hb dX8_in_9 rfl ?_
    refine W.lcmp hx hb dX8_in_10 ?_
    refine lv_if_gt (tgt := 18) hx hb dX8_in_11 (by decide) (fun c_11 => ?_) (fun c_11 => ?_)
    · refine lv_iconst (v := 0) hx hb dX8_in_18 (by decide +kernel) ?_
      exact zr_sz hx hb hr hlocks (by first | exact Or.inl rfl | exact Or.inr rfl | assumption) (by first | (rw [if_pos (z_in1 c_4 c_11)]) | (rw [if_neg (z_in2 c_4)]) | (rw [if_neg (z_in3 c_11)])) dX8_in_19
    · refine lv_iconst (v := 1) hx hb dX8_in_14 (by decide +kernel) ?_
      refine lv_goto (tgt := 19) hx hb dX8_in_15 (by decide) ?_
      exact zr_sz hx hb hr hlocks (by first | exact Or.inl rfl | exact Or.inr rfl | assumption) (by first | (rw [if_pos (z_in1 c_4 c_11)]) | (rw [if_neg (z_in2 c_4)]) | (rw [if_neg (z_in3 c_11)])) dX8_in_19
set_option maxHeartbeats 4000000 in
set_option maxRecDepth 100000 in
theorem c_X8_far (l : Launch) (V : zV) (a b : Int32) : Met l yX8_far wsX8_far (zR 0 0 0) (zPc V [.int a, .int b] (fun H => True)) (vp_Si (fun r => r = (mFar a b))) 0 0 (fun _ => False) := by
  refine Met.ofW (cc := cX8_far) (maxL := 2) (ret := (some .int)) (by decide) rfl ?_
  intro p e s m args below meth c s₁ B hml hv
  obtain ⟨rfl, hP, hE⟩ := hv
  have hx := B.exec
  have hb := B.bytes
  have hr := B.returns
  have hts := atoms_spec (ws := wsX8_far) B.pre
  have hown : s.vm.findClass RX8 = some m.cls := findClass_of_methodNamed B.named
  have hlocks := B.notSynchronized
  have hl := lv_entry ([.int a, .int b]) (n := 2) (Nat.le_of_ble_eq_true rfl)
  rw [lg_entry_eq]
  generalize (lg_sl ([.int a, .int b]) ++ List.replicate (2 - (lg_sl ([.int a, .int b])).length) Slot.unset).toArray = ls at hl ⊢
  have hl : lv_has ls 2 [(0, .int a), (1, .int b)] := hl
  refine lv_iload_n hx hb dX8_far_0 rfl (lv_at hl 0 rfl) ?_
  refine lv_iload_n hx hb dX8_far_1 rfl (lv_at hl 1 rfl) ?_
  refine lv_icmp_ge (tgt := 11) hx hb dX8_far_2 (by decide) (fun c_2 => ?_) (fun c_2 => ?_)
  · refine lv_iload_n hx hb dX8_far_11 rfl (lv_at hl 0 rfl) ?_
    refine lv_iload_n hx hb dX8_far_12 rfl (lv_at hl 1 rfl) ?_
    refine lv_isub hx hb dX8_far_13 ?_
    exact zr_si hx hb hr hlocks (by first | exact (if_neg (z_le' c_2)).symm | exact (if_pos (z_nle c_2)).symm) dX8_far_14
  · refine lv_iload_n hx hb dX8_far_5 rfl (lv_at hl 1 rfl) ?_
    refine lv_iload_n hx hb dX8_far_6 rfl (lv_at hl 0 rfl) ?_
    refine lv_isub hx hb dX8_far_7 ?_
    refine lv_goto (tgt := 14) hx hb dX8_far_8 (by decide) ?_
    exact zr_si hx hb hr hlocks (by first | exact (if_neg (z_le' c_2)).symm | exact (if_pos (z_nle c_2)).symm) dX8_far_14
set_option maxHeartbeats 4000000 in
set_option maxRecDepth 100000 in
theorem c_X8_lastOf (l : Launch) (V : zV) (g : Nat → Nat) (w pa be av sl sv pd cd : Nat → Int32) (st le ap pl wy : Int32) (k : Nat) (hk : k < 30) : Met l yX8_lastOf wsX8_lastOf (zR 1 0 0) (zPc V [.ref (g 0), .int (nI k)] (fun H => va_P V.1 vwCl (zmW V g w pa be av sl sv pd cd st le ap pl wy) H)) (vp_Si (fun r => r = (mLast w k))) 0 0 (fun _ => False) := by
  refine Met.ofW (cc := cX8_lastOf) (maxL := 2) (ret := (some .int)) (by decide) rfl ?_
  intro p e s m args below meth c s₁ B hml hv
  obtain ⟨rfl, hP, hE⟩ := hv
  have hx := B.exec
  have hb := B.bytes
  have hr := B.returns
  have hts := atoms_spec (ws := wsX8_lastOf) B.pre
  have hown : s.vm.findClass RX8 = some m.cls := findClass_of_methodNamed B.named
  have hlocks := B.notSynchronized
  have hl := lv_entry ([.ref (g 0), .int (nI k)]) (n := 2) (Nat.le_of_ble_eq_true rfl)
  rw [lg_entry_eq]
  generalize (lg_sl ([.ref (g 0), .int (nI k)]) ++ List.replicate (2 - (lg_sl ([.ref (g 0), .int (nI k)])).length) Slot.unset).toArray = ls at hl ⊢
  have hl : lv_has ls 2 [(0, .ref (g 0)), (1, .int (nI k))] := hl
  refine lv_aload_n hx hb dX8_lastOf_0 rfl (lv_at hl 0 rfl) ?_
  refine lv_iload_n hx hb dX8_lastOf_1 rfl (lv_at hl 1 rfl) ?_
  refine lv_iconst (v := 2) hx hb dX8_lastOf_2 (by decide +kernel) ?_
  refine zc_se (va_runV (As := [.int (nI k), .int 2]) (rest := []) ⟨hx, hb, hml, hown, hts⟩ (c_X8_its l V g w pa be av sl sv pd cd st le ap pl wy k 2 (by omega)) (cwV 2 hts (zgV_ wsM_all uM_16 uM_18 uM_19 uM_20 uM_21) rfl rfl rfl (by decide +kernel) ⟨Nat.le_of_ble_eq_true rfl, Nat.le_of_ble_eq_true rfl⟩) (zPreV (B := fun H => va_P V.1 vwCl (zmW V g w pa be av sl sv pd cd st le ap pl wy) H) hP hE (va_recv hE.1 hP (ci := 8) (q0 := 0) (q := (RX8, TX8, 13)) rfl (zm_c0 V g w pa be av sl sv pd cd st le ap pl wy))) rfl rfl hl.1 rfl (lv_room (Nat.le_of_ble_eq_true rfl)) dX8_lastOf_3 ⟨Nat.le_of_ble_eq_true rfl, Nat.le_of_ble_eq_true rfl⟩) ?_
  refine lv_aload_n hx hb dX8_lastOf_6 rfl (lv_at hl 0 rfl) ?_
  refine lv_iload_n hx hb dX8_lastOf_7 rfl (lv_at hl 1 rfl) ?_
  refine lv_iconst (v := 3) hx hb dX8_lastOf_8 (by decide +kernel) ?_
  refine zc_se (va_runV (As := [.int (nI k), .int 3]) (rest := [.int (zF w k 2)]) ⟨hx, hb, hml, hown, hts⟩ (c_X8_its l V g w pa be av sl sv pd cd st le ap pl wy k 3 (by omega)) (cwV 2 hts (zgV_ wsM_all uM_16 uM_18 uM_19 uM_20 uM_21) rfl rfl rfl (by decide +kernel) ⟨Nat.le_of_ble_eq_true rfl, Nat.le_of_ble_eq_true rfl⟩) (zPreV (B := fun H => va_P V.1 vwCl (zmW V g w pa be av sl sv pd cd st le ap pl wy) H) hP hE (va_recv hE.1 hP (ci := 8) (q0 := 0) (q := (RX8, TX8, 13)) rfl (zm_c0 V g w pa be av sl sv pd cd st le ap pl wy))) rfl rfl hl.1 rfl (lv_room (Nat.le_of_ble_eq_true rfl)) dX8_lastOf_9 ⟨Nat.le_of_ble_eq_true rfl, Nat.le_of_ble_eq_true rfl⟩) ?_
  refine lv_iadd hx hb dX8_lastOf_12 ?_
  refine lv_iconst (v := 1) hx hb dX8_lastOf_13 (by decide +kernel) ?_
  refine lv_isub hx hb dX8_lastOf_14 ?_
  exact zr_si hx hb hr hlocks (by rfl) dX8_lastOf_15
set_option maxHeartbeats 4000000 in
set_option maxRecDepth 100000 in
theorem c_X8_find (l : Launch) (V : zV) (g : Nat → Nat) (w pa be av sl sv pd cd : Nat → Int32) (st le ap pl wy : Int32) (n : Nat) (x : Int32) (hn : w 7 = nI n) (h30 : n ≤ 30) : Met l yX8_find wsX8_find (zR 1 0 0) (zPc V [.ref (g 0), .int x] (fun H => va_P V.1 vwCl (zmW V g w pa be av sl sv pd cd st le ap pl wy) H)) (vp_Si (fun r => r = (zoI (mFind w n x)))) 0 0 (fun _ => False) := by
  refine Met.ofW (cc := cX8_find) (maxL := 3) (ret := (some .int)) (by decide) rfl ?_
  intro p e s m args below meth c s₁ B hml hv
  obtain ⟨rfl, hP, hE⟩ := hv
  have hx := B.exec
  have hb := B.bytes
  have hr := B.returns
  have hts := atoms_spec (ws := wsX8_find) B.pre
  have hown : s.vm.findClass RX8 = some m.cls := findClass_of_methodNamed B.named
  have hlocks := B.notSynchronized
  have hl := lv_entry ([.ref (g 0), .int x]) (n := 3) (Nat.le_of_ble_eq_true rfl)
  rw [lg_entry_eq]
  generalize (lg_sl ([.ref (g 0), .int x]) ++ List.replicate (3 - (lg_sl ([.ref (g 0), .int x])).length) Slot.unset).toArray = ls at hl ⊢
  have hl : lv_has ls 3 [(0, .ref (g 0)), (1, .int x)] := hl
  refine lv_iconst (v := 0) hx hb dX8_find_0 (by decide +kernel) ?_
  refine lv_istore_n (lv' := [(2, .int 0), (0, .ref (g 0)), (1, .int x)]) hx hb dX8_find_1 rfl hl (by decide) rfl (fun ls hl => ?_)
  have L_2 : ∀ (n_ i : Nat) (ls : Array Slot), i ≤ n → n + 1 ≤ i + n_ → (mFind w i x = none) → lv_has ls 3 [(2, .int (nI i)), (0, .ref (g 0)), (1, .int x)] → W p l e (headSpec wsX8_find (zR 1 0 0)).room s m (List.toArray [.ref (g 0), .int x]) below meth c s.heap [] 0 0 (MQ below (vp_Si (fun r => r = (zoI (mFind w n x)))) (List.toArray [.ref (g 0), .int x]) s 0 0 (fun _ => False)) (F0 m 2 ls []) := by
    intro n_
    induction n_ with
    | zero => intro i   ls hi_ hn_; exact absurd hn_ (by omega)
    | succ n_ ih =>
      intro i   ls hi_ hn_ hno  hl
      refine lv_iload_n hx hb dX8_find_2 rfl (lv_at hl 0 rfl) ?_
      refine lv_aload_n hx hb dX8_find_3 rfl (lv_at hl 1 rfl) ?_
      refine zm_get 0 (.ref (g 1)) hx hb hts (fun x h => List.mem_cons_of_mem _ (hU_X8 x h)) hown hE hP (by decide) rfl (hts _ (List.mem_cons_of_mem _ uM_5)) (fun _ h9 => h9) dX8_find_4 ?_
      refine lv_bipush (v := 7) hx hb dX8_find_7 (by decide +kernel) ?_
      refine z_iald (k := 7) hx hb hE hP 1 (zm_c1 V g w pa be av sl sv pd cd st le ap pl wy) (by omega) (by decide) dX8_find_9 ?_
      refine zt_i hn ?_
      refine zb_ge (x := i) (y := n) (tgt := 31) hx hb dX8_find_10 (by decide) (by omega) (by omega) (fun c_10 => ?_) (fun c_10 => ?_)
      · refine lv_bipush (v := (-6)) hx hb dX8_find_31 (by decide +kernel) ?_
        exact zr_si hx hb hr hlocks (by rw [show n = i by omega, hno]; rfl) dX8_find_33
      · refine lv_aload_n hx hb dX8_find_13 rfl (lv_at hl 1 rfl) ?_
        refine lv_iload_n hx hb dX8_find_14 rfl (lv_at hl 0 rfl) ?_
        refine lv_iconst (v := 0) hx hb dX8_find_15 (by decide +kernel) ?_
        refine zc_se (va_runV (As := [.int (nI i), .int 0]) (rest := []) ⟨hx, hb, hml, hown, hts⟩ (c_X8_its l V g w pa be av sl sv pd cd st le ap pl wy i 0 (by omega)) (cwV 2 hts (zgV_ wsM_all uM_16 uM_18 uM_19 uM_20 uM_21) rfl rfl rfl (by decide +kernel) ⟨Nat.le_of_ble_eq_true rfl, Nat.le_of_ble_eq_true rfl⟩) (zPreV (B := fun H => va_P V.1 vwCl (zmW V g w pa be av sl sv pd cd st le ap pl wy) H) hP hE (va_recv hE.1 hP (ci := 8) (q0 := 0) (q := (RX8, TX8, 13)) rfl (zm_c0 V g w pa be av sl sv pd cd st le ap pl wy))) rfl rfl hl.1 rfl (lv_room (Nat.le_of_ble_eq_true rfl)) dX8_find_16 ⟨Nat.le_of_ble_eq_true rfl, Nat.le_of_ble_eq_true rfl⟩) ?_
        refine lv_iload_n hx hb dX8_find_19 rfl (lv_at hl 2 rfl) ?_
        refine lv_icmp_ne (tgt := 25) hx hb dX8_find_20 (by decide) (fun c_20 => ?_) (fun c_20 => ?_)
        · refine lv_iinc (v := nI (i + 1)) (lv' := [(2, .int (nI (i + 1))), (0, .ref (g 0)), (1, .int x)]) hx hb dX8_find_25 hl (k := 0) rfl (z_inc1 i) (by decide) rfl (fun ls hl => ?_)
          refine lv_goto (tgt := 2) hx hb dX8_find_28 (by decide) ?_
          exact ih (i + 1) ls (by omega) (by omega) (zFirst_no hno (decide_eq_false c_20)) (lv_sub hl [0, 1, 2] rfl)
        · refine lv_iload_n hx hb dX8_find_23 rfl (lv_at hl 0 rfl) ?_
          exact zr_si hx hb hr hlocks (by rw [mFind, zFirst_hit hno (decide_eq_true c_20) (by omega)]; rfl) dX8_find_24
  exact L_2 (n + 1) 0 ls (by omega) (by omega) rfl (lv_sub hl [0, 1, 2] rfl)
set_option maxHeartbeats 4000000 in
set_option maxRecDepth 100000 in
theorem c_X8_many (l : Launch) (V : zV) (g : Nat → Nat) (w pa be av sl sv pd cd : Nat → Int32) (st le ap pl wy : Int32) (n : Nat) (x : Int32) (hn : w 7 = nI n) (h30 : n ≤ 30) : Met l yX8_many wsX8_many (zR 1 0 0) (zPc V [.ref (g 0), .int x] (fun H => va_P V.1 vwCl (zmW V g w pa be av sl sv pd cd st le ap pl wy) H)) (vp_Si (fun r => r = (nI (mMany w n x)))) 0 0 (fun _ => False) := by
  refine Met.ofW (cc := cX8_many) (maxL := 4) (ret := (some .int)) (by decide) rfl ?_
  intro p e s m args below meth c s₁ B hml hv
  obtain ⟨rfl, hP, hE⟩ := hv
  have hx := B.exec
  have hb := B.bytes
  have hr := B.returns
  have hts := atoms_spec (ws := wsX8_many) B.pre
  have hown : s.vm.findClass RX8 = some m.cls := findClass_of_methodNamed B.named
  have hlocks := B.notSynchronized
  have hl := lv_entry ([.ref (g 0), .int x]) (n := 4) (Nat.le_of_ble_eq_true rfl)
  rw [lg_entry_eq]
  generalize (lg_sl ([.ref (g 0), .int x]) ++ List.replicate (4 - (lg_sl ([.ref (g 0), .int x])).length) Slot.unset).toArray = ls at hl ⊢
  have hl : lv_has ls 4 [(0, .ref (g 0)), (1, .int x)] := hl
  refine lv_iconst (v := 0) hx hb dX8_many_0 (by decide +kernel) ?_
  refine lv_istore_n (lv' := [(2, .int 0), (0, .ref (g 0)), (1, .int x)]) hx hb dX8_many_1 rfl hl (by decide) rfl (fun ls hl => ?_)
  refine lv_iconst (v := 0) hx hb dX8_many_2 (by decide +kernel) ?_
  refine lv_istore_n (lv' := [(3, .int 0), (2, .int 0), (0, .ref (g 0)), (1, .int x)]) hx hb dX8_many_3 rfl hl (by decide) rfl (fun ls hl => ?_)
  have L_4 : ∀ (n_ i : Nat) (ls : Array Slot), i ≤ n → n + 1 ≤ i + n_ → lv_has ls 4 [(3, .int (nI i)), (2, .int (nI (mMany w i x))), (0, .ref (g 0)), (1, .int x)] → W p l e (headSpec wsX8_many (zR 1 0 0)).room s m (List.toArray [.ref (g 0), .int x]) below meth c s.heap [] 0 0 (MQ below (vp_Si (fun r => r = (nI (mMany w n x)))) (List.toArray [.ref (g 0), .int x]) s 0 0 (fun _ => False)) (F0 m 4 ls []) := by
    intro n_
    induction n_ with
    | zero => intro i   ls hi_ hn_; exact absurd hn_ (by omega)
    | succ n_ ih =>
      intro i   ls hi_ hn_   hl
      refine lv_iload_n hx hb dX8_many_4 rfl (lv_at hl 0 rfl) ?_
      refine lv_aload_n hx hb dX8_many_5 rfl (lv_at hl 2 rfl) ?_
      refine zm_get 0 (.ref (g 1)) hx hb hts (fun x h => List.mem_cons_of_mem _ (hU_X8 x h)) hown hE hP (by decide) rfl (hts _ (List.mem_cons_of_mem _ uM_5)) (fun _ h9 => h9) dX8_many_6 ?_
      refine lv_bipush (v := 7) hx hb dX8_many_9 (by decide +kernel) ?_
      refine z_iald (k := 7) hx hb hE hP 1 (zm_c1 V g w pa be av sl sv pd cd st le ap pl wy) (by omega) (by decide) dX8_many_11 ?_
      refine zt_i hn ?_
      refine zb_ge (x := i) (y := n) (tgt := 39) hx hb dX8_many_12 (by decide) (by omega) (by omega) (fun c_12 => ?_) (fun c_12 => ?_)
      · refine lv_iload_n hx hb dX8_many_39 rfl (lv_at hl 1 rfl) ?_
        exact zr_si hx hb hr hlocks (by rw [show n = i by omega]) dX8_many_40
      · refine lv_iload_n hx hb dX8_many_15 rfl (lv_at hl 1 rfl) ?_
        refine lv_aload_n hx hb dX8_many_16 rfl (lv_at hl 2 rfl) ?_
        refine lv_iload_n hx hb dX8_many_17 rfl (lv_at hl 0 rfl) ?_
        refine lv_iconst (v := 1) hx hb dX8_many_18 (by decide +kernel) ?_
        refine zc_se (va_runV (As := [.int (nI i), .int 1]) (rest := [.int (nI (mMany w i x))]) ⟨hx, hb, hml, hown, hts⟩ (c_X8_its l V g w pa be av sl sv pd cd st le ap pl wy i 1 (by omega)) (cwV 2 hts (zgV_ wsM_all uM_16 uM_18 uM_19 uM_20 uM_21) rfl rfl rfl (by decide +kernel) ⟨Nat.le_of_ble_eq_true rfl, Nat.le_of_ble_eq_true rfl⟩) (zPreV (B := fun H => va_P V.1 vwCl (zmW V g w pa be av sl sv pd cd st le ap pl wy) H) hP hE (va_recv hE.1 hP (ci := 8) (q0 := 0) (q := (RX8, TX8, 13)) rfl (zm_c0 V g w pa be av sl sv pd cd st le ap pl wy))) rfl rfl hl.1 rfl (lv_room (Nat.le_of_ble_eq_true rfl)) dX8_many_19 ⟨Nat.le_of_ble_eq_true rfl, Nat.le_of_ble_eq_true rfl⟩) ?_
        refine lv_iload_n hx hb dX8_many_22 rfl (lv_at hl 3 rfl) ?_
        refine lv_icmp_ne (tgt := 30) hx hb dX8_many_23 (by decide) (fun c_23 => ?_) (fun c_23 => ?_)
        · refine lv_iconst (v := 0) hx hb dX8_many_30 (by decide +kernel) ?_
          refine lv_iadd hx hb dX8_many_31 ?_
          refine zt_i (z_add (a := mMany w i x) (b := 0) (by first | rfl | omega)) ?_
          refine lv_istore_n (lv' := [(2, .int (nI (mMany w i x))), (3, .int (nI i)), (0, .ref (g 0)), (1, .int x)]) hx hb dX8_many_32 rfl hl (by decide) rfl (fun ls hl => ?_)
          refine lv_iinc (v := nI (i + 1)) (lv' := [(3, .int (nI (i + 1))), (2, .int (nI (mMany w i x))), (0, .ref (g 0)), (1, .int x)]) hx hb dX8_many_33 hl (k := 1) rfl (z_inc1 i) (by decide) rfl (fun ls hl => ?_)
          refine lv_goto (tgt := 4) hx hb dX8_many_36 (by decide) ?_
          have e_ : mMany w i x = mMany w (i + 1) x := by simp [mMany, zCnt, c_23]
          rw [e_] at hl
          exact ih (i + 1) ls (by omega) (by omega) (lv_sub hl [0, 1, 2, 3] rfl)
        · refine lv_iconst (v := 1) hx hb dX8_many_26 (by decide +kernel) ?_
          refine lv_goto (tgt := 31) hx hb dX8_many_27 (by decide) ?_
          refine lv_iadd hx hb dX8_many_31 ?_
          refine zt_i (z_add (a := mMany w i x) (b := 1) (by first | rfl | omega)) ?_
          refine lv_istore_n (lv' := [(2, .int (nI (mMany w i x + 1))), (3, .int (nI i)), (0, .ref (g 0)), (1, .int x)]) hx hb dX8_many_32 rfl hl (by decide) rfl (fun ls hl => ?_)
          refine lv_iinc (v := nI (i + 1)) (lv' := [(3, .int (nI (i + 1))), (2, .int (nI (mMany w i x + 1))), (0, .ref (g 0)), (1, .int x)]) hx hb dX8_many_33 hl (k := 1) rfl (z_inc1 i) (by decide) rfl (fun ls hl => ?_)
          refine lv_goto (tgt := 4) hx hb dX8_many_36 (by decide) ?_
          have e_ : mMany w i x + 1 = mMany w (i + 1) x := by simp [mMany, zCnt, c_23]
          rw [e_] at hl
          exact ih (i + 1) ls (by omega) (by omega) (lv_sub hl [0, 1, 2, 3] rfl)
  exact L_4 (n + 1) 0 ls (by omega) (by omega) (lv_sub hl [0, 1, 2, 3] rfl)
theorem zBest_skip {can : Nat → Bool} {lt : Nat → Nat → Bool} {n : Nat} (h : can n = false) : zBest can lt (n + 1) = zBest can lt n := by
  cases hz : zBest can lt n with
  | none => simp [zBest, hz, h]
  | some b => simp [zBest, hz, h]
theorem zBest_first {can : Nat → Bool} {lt : Nat → Nat → Bool} {n : Nat} (hz : zBest can lt n = none) (h : can n = true) : zBest can lt (n + 1) = some n := by simp [zBest, hz, h]
theorem zBest_less {can : Nat → Bool} {lt : Nat → Nat → Bool} {n b : Nat} (hz : zBest can lt n = some b) (h : can n = true) (h2 : lt n b = true) : zBest can lt (n + 1) = some n := by simp [zBest, hz, h, h2]
theorem zBest_keep {can : Nat → Bool} {lt : Nat → Nat → Bool} {n b : Nat} (hz : zBest can lt n = some b) (h2 : lt n b = false) : zBest can lt (n + 1) = some b := by simp [zBest, hz, h2]
theorem zCnt_y {p : Nat → Bool} {n : Nat} (h : p n = true) : zCnt p n + 1 = zCnt p (n + 1) := by simp [zCnt, h]
theorem zCnt_n {p : Nat → Bool} {n : Nat} (h : p n = false) : zCnt p n = zCnt p (n + 1) := by simp [zCnt, h]
def mOf (w : Nat → Int32) (n : Nat) (x what : Int32) : Int32 := match mFind w n x with
  | none => -1
  | some k => if what = 0 then zF w k 1 else if what = 1 then zF w k 2 else if what = 2 then mLast w k else if what = 3 then w 6 - zF w k 4 else if what = 4 then (if w (zF w k 1).toNatClampNeg ≤ w 6 - zF w k 4 then 1 else 0) else if what = 5 then zF w k 5 else -2
def mWait (w : Nat → Int32) (n : Nat) (wr rk : Int32) : Int32 := if 0 ≤ wr ∧ wr ≤ 1 then (match zFirst (fun k => decide (zF w k 1 = wr ∧ nI (mRank w n k) = rk)) n with
  | none => -1
  | some k => zF w k 0) else -2
def mLog (w : Nat → Int32) (ago what : Int32) : Int32 := if 0 ≤ ago ∧ ago ≤ w 17 - 1 then (if 0 ≤ what ∧ what ≤ 2 then w (18 + 3 * ago.toNatClampNeg + what.toNatClampNeg) else -2) else -1
def mCount (w : Nat → Int32) (n : Nat) (le st what : Int32) : Int32 := if 10 ≤ what ∧ what ≤ 15 then w (what.toNatClampNeg - 10) else if what = 0 then w 6 else if what = 1 then nI (mMany w n 0) else if what = 2 then nI (mMany w n 1) else if what = 3 then w 9 else if what = 4 then w 10 else if what = 5 then w 11 else if what = 6 then w 12 else if what = 7 then w 13 else if what = 8 then w 14 else if what = 9 then w 15 else if what = 16 then le else if what = 17 then st else -2
def mJoined (w : Nat → Int32) (n : Nat) (wr d m : Int32) : Int32 := if mSlip wr d m then (match mPart w n wr d m with
  | none => -6
  | some k => zF w k 0) else -2
theorem z_ix {x a b : Int32} {na nb : Nat} (ha : a = nI na) (hb : b = nI nb) (hla : na < 2 ^ 31) (hlb : nb < 2 ^ 31) (h : a ≤ x ∧ x ≤ b) : ∃ j : Nat, x = nI j ∧ na ≤ j ∧ j ≤ nb := by
  have h1 := h.1
  have h2 := h.2
  rw [ha, Int32.le_iff_toInt_le, nI_toInt hla] at h1
  rw [hb, Int32.le_iff_toInt_le, nI_toInt hlb] at h2
  obtain ⟨j, hj, rfl⟩ := nI_of (x := x) (fun z => by rw [Int32.lt_iff_toInt_lt] at z; have : (0 : Int32).toInt = 0 := by decide
                                                     omega)
  rw [nI_toInt hj] at h1 h2
  exact ⟨j, rfl, by omega, by omega⟩
set_option maxHeartbeats 4000000 in
set_option maxRecDepth 100000 in
theorem c_X8_lowest (l : Launch) (V : zV) (g : Nat → Nat) (w pa be av sl sv pd cd : Nat → Int32) (st le ap pl wy : Int32) (n : Nat) (wr fr : Int32) (hn : w 7 = nI n) (h30 : n ≤ 30) : Met l yX8_lowest wsX8_lowest (zR 1 0 0) (zPc V [.ref (g 0), .int wr, .int fr] (fun H => va_P V.1 vwCl (zmW V g w pa be av sl sv pd cd st le ap pl wy) H)) (vp_Si (fun r => r = (zoI (mLow w n wr fr)))) 0 0 (fun _ => False) := by
  refine Met.ofW (cc := cX8_lowest) (maxL := 6) (ret := (some .int)) (by decide) rfl ?_
  intro p e s m args below meth c s₁ B hml hv
  obtain ⟨rfl, hP, hE⟩ := hv
  have hx := B.exec
  have hb := B.bytes
  have hr := B.returns
  have hts := atoms_spec (ws := wsX8_lowest) B.pre
  have hown : s.vm.findClass RX8 = some m.cls := findClass_of_methodNamed B.named
  have hlocks := B.notSynchronized
  have hl := lv_entry ([.ref (g 0), .int wr, .int fr]) (n := 6) (Nat.le_of_ble_eq_true rfl)
  rw [lg_entry_eq]
  generalize (lg_sl ([.ref (g 0), .int wr, .int fr]) ++ List.replicate (6 - (lg_sl ([.ref (g 0), .int wr, .int fr])).length) Slot.unset).toArray = ls at hl ⊢
  have hl : lv_has ls 6 [(0, .ref (g 0)), (1, .int wr), (2, .int fr)] := hl
  refine lv_bipush (v := (-6)) hx hb dX8_lowest_0 (by decide +kernel) ?_
  refine lv_istore_n (lv' := [(3, .int (-6)), (0, .ref (g 0)), (1, .int wr), (2, .int fr)]) hx hb dX8_lowest_2 rfl hl (by decide) rfl (fun ls hl => ?_)
  refine lv_iconst (v := 0) hx hb dX8_lowest_3 (by decide +kernel) ?_
  refine lv_istore (lv' := [(4, .int 0), (3, .int (-6)), (0, .ref (g 0)), (1, .int wr), (2, .int fr)]) hx hb dX8_lowest_4 hl (by decide) rfl (fun ls hl => ?_)
  have L_6 : ∀ (n_ i : Nat) (ls : Array Slot), i ≤ n → n + 1 ≤ i + n_ → lv_has ls 6 [(4, .int (nI i)), (3, .int (zoI (mLow w i wr fr))), (0, .ref (g 0)), (1, .int wr), (2, .int fr)] → W p l e (headSpec wsX8_lowest (zR 1 0 0)).room s m (List.toArray [.ref (g 0), .int wr, .int fr]) below meth c s.heap [] 0 0 (MQ below (vp_Si (fun r => r = (zoI (mLow w n wr fr)))) (List.toArray [.ref (g 0), .int wr, .int fr]) s 0 0 (fun _ => False)) (F0 m 6 ls []) := by
    intro n_
    induction n_ with
    | zero => intro i   ls hi_ hn_; exact absurd hn_ (by omega)
    | succ n_ ih =>
      intro i   ls hi_ hn_   hl
      refine lv_iload hx hb dX8_lowest_6 (lv_at hl 0 rfl) ?_
      refine lv_aload_n hx hb dX8_lowest_8 rfl (lv_at hl 2 rfl) ?_
      refine zm_get 0 (.ref (g 1)) hx hb hts (fun x h => List.mem_cons_of_mem _ (hU_X8 x h)) hown hE hP (by decide) rfl (hts _ (List.mem_cons_of_mem _ uM_5)) (fun _ h9 => h9) dX8_lowest_9 ?_
      refine lv_bipush (v := 7) hx hb dX8_lowest_12 (by decide +kernel) ?_
      refine z_iald (k := 7) hx hb hE hP 1 (zm_c1 V g w pa be av sl sv pd cd st le ap pl wy) (by omega) (by decide) dX8_lowest_14 ?_
      refine zt_i hn ?_
      refine zb_ge (x := i) (y := n) (tgt := 87) hx hb dX8_lowest_15 (by decide) (by omega) (by omega) (fun c_15 => ?_) (fun c_15 => ?_)
      · refine lv_iload_n hx hb dX8_lowest_87 rfl (lv_at hl 1 rfl) ?_
        exact zr_si hx hb hr hlocks (by rw [show n = i by omega]) dX8_lowest_88
      · refine lv_aload_n hx hb dX8_lowest_18 rfl (lv_at hl 2 rfl) ?_
        refine lv_iload hx hb dX8_lowest_19 (lv_at hl 0 rfl) ?_
        refine lv_iconst (v := 1) hx hb dX8_lowest_21 (by decide +kernel) ?_
        refine zc_se (va_runV (As := [.int (nI i), .int 1]) (rest := []) ⟨hx, hb, hml, hown, hts⟩ (c_X8_its l V g w pa be av sl sv pd cd st le ap pl wy i 1 (by omega)) (cwV 2 hts (zgV_ wsM_all uM_16 uM_18 uM_19 uM_20 uM_21) rfl rfl rfl (by decide +kernel) ⟨Nat.le_of_ble_eq_true rfl, Nat.le_of_ble_eq_true rfl⟩) (zPreV (B := fun H => va_P V.1 vwCl (zmW V g w pa be av sl sv pd cd st le ap pl wy) H) hP hE (va_recv hE.1 hP (ci := 8) (q0 := 0) (q := (RX8, TX8, 13)) rfl (zm_c0 V g w pa be av sl sv pd cd st le ap pl wy))) rfl rfl hl.1 rfl (lv_room (Nat.le_of_ble_eq_true rfl)) dX8_lowest_22 ⟨Nat.le_of_ble_eq_true rfl, Nat.le_of_ble_eq_true rfl⟩) ?_
        refine lv_iload_n hx hb dX8_lowest_25 rfl (lv_at hl 3 rfl) ?_
        refine lv_icmp_ne (tgt := 44) hx hb dX8_lowest_26 (by decide) (fun c_26 => ?_) (fun c_26 => ?_)
        · refine lv_iconst (v := 0) hx hb dX8_lowest_44 (by decide +kernel) ?_
          refine lv_istore (lv' := [(5, .int 0), (4, .int (nI i)), (3, .int (zoI (mLow w i wr fr))), (0, .ref (g 0)), (1, .int wr), (2, .int fr)]) hx hb dX8_lowest_45 hl (by decide) rfl (fun ls hl => ?_)
          refine lv_iload hx hb dX8_lowest_47 (lv_at hl 0 rfl) ?_
          refine lv_if_eq (tgt := 79) hx hb dX8_lowest_49 (by decide) (fun c_49 => ?_) (fun c_49 => ?_)
          rotate_left
          · exact absurd c_49 (by decide +kernel)
          refine lv_iload_n hx hb dX8_lowest_79 rfl (lv_at hl 2 rfl) ?_
          refine lv_istore_n (lv' := [(3, .int (zoI (mLow w i wr fr))), (5, .int 0), (4, .int (nI i)), (0, .ref (g 0)), (1, .int wr), (2, .int fr)]) hx hb dX8_lowest_80 rfl hl (by decide) rfl (fun ls hl => ?_)
          refine lv_iinc (v := nI (i + 1)) (lv' := [(4, .int (nI (i + 1))), (3, .int (zoI (mLow w i wr fr))), (5, .int 0), (0, .ref (g 0)), (1, .int wr), (2, .int fr)]) hx hb dX8_lowest_81 hl (k := 2) rfl (z_inc1 i) (by decide) rfl (fun ls hl => ?_)
          refine lv_goto (tgt := 6) hx hb dX8_lowest_84 (by decide) ?_
          have e_ : zoI (mLow w i wr fr) = zoI (mLow w (i + 1) wr fr) := by
            first
              | exact congrArg zoI (zBest_skip (decide_eq_false (fun h => c_26 h.1))).symm
              | exact congrArg zoI (zBest_skip (decide_eq_false (fun h => z_lt' c_37 h.2))).symm
              | exact congrArg zoI (zBest_first hq (decide_eq_true ⟨c_26, z_nlt c_37⟩)).symm
              | exact congrArg zoI (zBest_less hq (decide_eq_true ⟨c_26, z_nlt c_37⟩) (decide_eq_true (z_nle c_71))).symm
              | exact congrArg zoI (zBest_keep hq (decide_eq_false (z_le' c_71))).symm
          rw [e_] at hl
          exact ih (i + 1) ls (by omega) (by omega) (lv_sub hl [0, 1, 3, 4, 5] rfl)
        · refine lv_aload_n hx hb dX8_lowest_29 rfl (lv_at hl 2 rfl) ?_
          refine lv_iload hx hb dX8_lowest_30 (lv_at hl 0 rfl) ?_
          refine lv_iconst (v := 2) hx hb dX8_lowest_32 (by decide +kernel) ?_
          refine zc_se (va_runV (As := [.int (nI i), .int 2]) (rest := []) ⟨hx, hb, hml, hown, hts⟩ (c_X8_its l V g w pa be av sl sv pd cd st le ap pl wy i 2 (by omega)) (cwV 2 hts (zgV_ wsM_all uM_16 uM_18 uM_19 uM_20 uM_21) rfl rfl rfl (by decide +kernel) ⟨Nat.le_of_ble_eq_true rfl, Nat.le_of_ble_eq_true rfl⟩) (zPreV (B := fun H => va_P V.1 vwCl (zmW V g w pa be av sl sv pd cd st le ap pl wy) H) hP hE (va_recv hE.1 hP (ci := 8) (q0 := 0) (q := (RX8, TX8, 13)) rfl (zm_c0 V g w pa be av sl sv pd cd st le ap pl wy))) rfl rfl hl.1 rfl (lv_room (Nat.le_of_ble_eq_true rfl)) dX8_lowest_33 ⟨Nat.le_of_ble_eq_true rfl, Nat.le_of_ble_eq_true rfl⟩) ?_
          refine lv_iload_n hx hb dX8_lowest_36 rfl (lv_at hl 4 rfl) ?_
          refine lv_icmp_lt (tgt := 44) hx hb dX8_lowest_37 (by decide) (fun c_37 => ?_) (fun c_37 => ?_)
          · refine lv_iconst (v := 0) hx hb dX8_lowest_44 (by decide +kernel) ?_
            refine lv_istore (lv' := [(5, .int 0), (4, .int (nI i)), (3, .int (zoI (mLow w i wr fr))), (0, .ref (g 0)), (1, .int wr), (2, .int fr)]) hx hb dX8_lowest_45 hl (by decide) rfl (fun ls hl => ?_)
            refine lv_iload hx hb dX8_lowest_47 (lv_at hl 0 rfl) ?_
            refine lv_if_eq (tgt := 79) hx hb dX8_lowest_49 (by decide) (fun c_49 => ?_) (fun c_49 => ?_)
            rotate_left
            · exact absurd c_49 (by decide +kernel)
            refine lv_iload_n hx hb dX8_lowest_79 rfl (lv_at hl 2 rfl) ?_
            refine lv_istore_n (lv' := [(3, .int (zoI (mLow w i wr fr))), (5, .int 0), (4, .int (nI i)), (0, .ref (g 0)), (1, .int wr), (2, .int fr)]) hx hb dX8_lowest_80 rfl hl (by decide) rfl (fun ls hl => ?_)
            refine lv_iinc (v := nI (i + 1)) (lv' := [(4, .int (nI (i + 1))), (3, .int (zoI (mLow w i wr fr))), (5, .int 0), (0, .ref (g 0)), (1, .int wr), (2, .int fr)]) hx hb dX8_lowest_81 hl (k := 2) rfl (z_inc1 i) (by decide) rfl (fun ls hl => ?_)
            refine lv_goto (tgt := 6) hx hb dX8_lowest_84 (by decide) ?_
            have e_ : zoI (mLow w i wr fr) = zoI (mLow w (i + 1) wr fr) := by
              first
                | exact congrArg zoI (zBest_skip (decide_eq_false (fun h => c_26 h.1))).symm
                | exact congrArg zoI (zBest_skip (decide_eq_false (fun h => z_lt' c_37 h.2))).symm
                | exact congrArg zoI (zBest_first hq (decide_eq_true ⟨c_26, z_nlt c_37⟩)).symm
                | exact congrArg zoI (zBest_less hq (decide_eq_true ⟨c_26, z_nlt c_37⟩) (decide_eq_true (z_nle c_71))).symm
                | exact congrArg zoI (zBest_keep hq (decide_eq_false (z_le' c_71))).symm
            rw [e_] at hl
            exact ih (i + 1) ls (by omega) (by omega) (lv_sub hl [0, 1, 3, 4, 5] rfl)
          · refine lv_iconst (v := 1) hx hb dX8_lowest_40 (by decide +kernel) ?_
            refine lv_goto (tgt := 45) hx hb dX8_lowest_41 (by decide) ?_
            refine lv_istore (lv' := [(5, .int 1), (4, .int (nI i)), (3, .int (zoI (mLow w i wr fr))), (0, .ref (g 0)), (1, .int wr), (2, .int fr)]) hx hb dX8_lowest_45 hl (by decide) rfl (fun ls hl => ?_)
            refine lv_iload hx hb dX8_lowest_47 (lv_at hl 0 rfl) ?_
            refine lv_if_eq (tgt := 79) hx hb dX8_lowest_49 (by decide) (fun c_49 => ?_) (fun c_49 => ?_)
            · exact absurd c_49 (by decide +kernel)
            rcases hq : mLow w i wr fr with _ | b
            · rw [hq] at hl
              have hl : lv_has ls 6 [(5, .int 1), (4, .int (nI i)), (3, .int (-6)), (0, .ref (g 0)), (1, .int wr), (2, .int fr)] := hl
              refine lv_iload_n hx hb dX8_lowest_52 rfl (lv_at hl 2 rfl) ?_
              refine lv_bipush (v := (-6)) hx hb dX8_lowest_53 (by decide +kernel) ?_
              refine lv_icmp_eq (tgt := 74) hx hb dX8_lowest_55 (by decide) (fun c_55 => ?_) (fun c_55 => ?_)
              · refine lv_iload hx hb dX8_lowest_74 (lv_at hl 1 rfl) ?_
                refine lv_goto (tgt := 80) hx hb dX8_lowest_76 (by decide) ?_
                refine lv_istore_n (lv' := [(3, .int (nI i)), (5, .int 1), (4, .int (nI i)), (0, .ref (g 0)), (1, .int wr), (2, .int fr)]) hx hb dX8_lowest_80 rfl hl (by decide) rfl (fun ls hl => ?_)
                refine lv_iinc (v := nI (i + 1)) (lv' := [(4, .int (nI (i + 1))), (3, .int (nI i)), (5, .int 1), (0, .ref (g 0)), (1, .int wr), (2, .int fr)]) hx hb dX8_lowest_81 hl (k := 2) rfl (z_inc1 i) (by decide) rfl (fun ls hl => ?_)
                refine lv_goto (tgt := 6) hx hb dX8_lowest_84 (by decide) ?_
                have e_ : nI i = zoI (mLow w (i + 1) wr fr) := by
                  first
                    | exact congrArg zoI (zBest_skip (decide_eq_false (fun h => c_26 h.1))).symm
                    | exact congrArg zoI (zBest_skip (decide_eq_false (fun h => z_lt' c_37 h.2))).symm
                    | exact congrArg zoI (zBest_first hq (decide_eq_true ⟨c_26, z_nlt c_37⟩)).symm
                    | exact congrArg zoI (zBest_less hq (decide_eq_true ⟨c_26, z_nlt c_37⟩) (decide_eq_true (z_nle c_71))).symm
                    | exact congrArg zoI (zBest_keep hq (decide_eq_false (z_le' c_71))).symm
                rw [e_] at hl
                exact ih (i + 1) ls (by omega) (by omega) (lv_sub hl [0, 1, 3, 4, 5] rfl)
              · exact absurd rfl c_55
            · rw [hq] at hl
              have hl : lv_has ls 6 [(5, .int 1), (4, .int (nI i)), (3, .int (nI b)), (0, .ref (g 0)), (1, .int wr), (2, .int fr)] := hl
              have hb30 : b < i := (zBest_lt hq).1
              refine lv_iload_n hx hb dX8_lowest_52 rfl (lv_at hl 2 rfl) ?_
              refine lv_bipush (v := (-6)) hx hb dX8_lowest_53 (by decide +kernel) ?_
              refine lv_icmp_eq (tgt := 74) hx hb dX8_lowest_55 (by decide) (fun c_55 => ?_) (fun c_55 => ?_)
              · exact absurd c_55 (z_n6 (by omega))
              · refine lv_aload_n hx hb dX8_lowest_58 rfl (lv_at hl 3 rfl) ?_
                refine lv_iload hx hb dX8_lowest_59 (lv_at hl 1 rfl) ?_
                refine lv_iconst (v := 2) hx hb dX8_lowest_61 (by decide +kernel) ?_
                refine zc_se (va_runV (As := [.int (nI i), .int 2]) (rest := []) ⟨hx, hb, hml, hown, hts⟩ (c_X8_its l V g w pa be av sl sv pd cd st le ap pl wy i 2 (by omega)) (cwV 2 hts (zgV_ wsM_all uM_16 uM_18 uM_19 uM_20 uM_21) rfl rfl rfl (by decide +kernel) ⟨Nat.le_of_ble_eq_true rfl, Nat.le_of_ble_eq_true rfl⟩) (zPreV (B := fun H => va_P V.1 vwCl (zmW V g w pa be av sl sv pd cd st le ap pl wy) H) hP hE (va_recv hE.1 hP (ci := 8) (q0 := 0) (q := (RX8, TX8, 13)) rfl (zm_c0 V g w pa be av sl sv pd cd st le ap pl wy))) rfl rfl hl.1 rfl (lv_room (Nat.le_of_ble_eq_true rfl)) dX8_lowest_62 ⟨Nat.le_of_ble_eq_true rfl, Nat.le_of_ble_eq_true rfl⟩) ?_
                refine lv_aload_n hx hb dX8_lowest_65 rfl (lv_at hl 3 rfl) ?_
                refine lv_iload_n hx hb dX8_lowest_66 rfl (lv_at hl 2 rfl) ?_
                refine lv_iconst (v := 2) hx hb dX8_lowest_67 (by decide +kernel) ?_
                refine zc_se (va_runV (As := [.int (nI b), .int 2]) (rest := [.int (zF w i 2)]) ⟨hx, hb, hml, hown, hts⟩ (c_X8_its l V g w pa be av sl sv pd cd st le ap pl wy b 2 (by omega)) (cwV 2 hts (zgV_ wsM_all uM_16 uM_18 uM_19 uM_20 uM_21) rfl rfl rfl (by decide +kernel) ⟨Nat.le_of_ble_eq_true rfl, Nat.le_of_ble_eq_true rfl⟩) (zPreV (B := fun H => va_P V.1 vwCl (zmW V g w pa be av sl sv pd cd st le ap pl wy) H) hP hE (va_recv hE.1 hP (ci := 8) (q0 := 0) (q := (RX8, TX8, 13)) rfl (zm_c0 V g w pa be av sl sv pd cd st le ap pl wy))) rfl rfl hl.1 rfl (lv_room (Nat.le_of_ble_eq_true rfl)) dX8_lowest_68 ⟨Nat.le_of_ble_eq_true rfl, Nat.le_of_ble_eq_true rfl⟩) ?_
                refine lv_icmp_ge (tgt := 79) hx hb dX8_lowest_71 (by decide) (fun c_71 => ?_) (fun c_71 => ?_)
                · refine lv_iload_n hx hb dX8_lowest_79 rfl (lv_at hl 2 rfl) ?_
                  refine lv_istore_n (lv' := [(3, .int (nI b)), (5, .int 1), (4, .int (nI i)), (0, .ref (g 0)), (1, .int wr), (2, .int fr)]) hx hb dX8_lowest_80 rfl hl (by decide) rfl (fun ls hl => ?_)
                  refine lv_iinc (v := nI (i + 1)) (lv' := [(4, .int (nI (i + 1))), (3, .int (nI b)), (5, .int 1), (0, .ref (g 0)), (1, .int wr), (2, .int fr)]) hx hb dX8_lowest_81 hl (k := 2) rfl (z_inc1 i) (by decide) rfl (fun ls hl => ?_)
                  refine lv_goto (tgt := 6) hx hb dX8_lowest_84 (by decide) ?_
                  have e_ : nI b = zoI (mLow w (i + 1) wr fr) := by
                    first
                      | exact congrArg zoI (zBest_skip (decide_eq_false (fun h => c_26 h.1))).symm
                      | exact congrArg zoI (zBest_skip (decide_eq_false (fun h => z_lt' c_37 h.2))).symm
                      | exact congrArg zoI (zBest_first hq (decide_eq_true ⟨c_26, z_nlt c_37⟩)).symm
                      | exact congrArg zoI (zBest_less hq (decide_eq_true ⟨c_26, z_nlt c_37⟩) (decide_eq_true (z_nle c_71))).symm
                      | exact congrArg zoI (zBest_keep hq (decide_eq_false (z_le' c_71))).symm
                  rw [e_] at hl
                  exact ih (i + 1) ls (by omega) (by omega) (lv_sub hl [0, 1, 3, 4, 5] rfl)
                · refine lv_iload hx hb dX8_lowest_74 (lv_at hl 1 rfl) ?_
                  refine lv_goto (tgt := 80) hx hb dX8_lowest_76 (by decide) ?_
                  refine lv_istore_n (lv' := [(3, .int (nI i)), (5, .int 1), (4, .int (nI i)), (0, .ref (g 0)), (1, .int wr), (2, .int fr)]) hx hb dX8_lowest_80 rfl hl (by decide) rfl (fun ls hl => ?_)
                  refine lv_iinc (v := nI (i + 1)) (lv' := [(4, .int (nI (i + 1))), (3, .int (nI i)), (5, .int 1), (0, .ref (g 0)), (1, .int wr), (2, .int fr)]) hx hb dX8_lowest_81 hl (k := 2) rfl (z_inc1 i) (by decide) rfl (fun ls hl => ?_)
                  refine lv_goto (tgt := 6) hx hb dX8_lowest_84 (by decide) ?_
                  have e_ : nI i = zoI (mLow w (i + 1) wr fr) := by
                    first
                      | exact congrArg zoI (zBest_skip (decide_eq_false (fun h => c_26 h.1))).symm
                      | exact congrArg zoI (zBest_skip (decide_eq_false (fun h => z_lt' c_37 h.2))).symm
                      | exact congrArg zoI (zBest_first hq (decide_eq_true ⟨c_26, z_nlt c_37⟩)).symm
                      | exact congrArg zoI (zBest_less hq (decide_eq_true ⟨c_26, z_nlt c_37⟩) (decide_eq_true (z_nle c_71))).symm
                      | exact congrArg zoI (zBest_keep hq (decide_eq_false (z_le' c_71))).symm
                  rw [e_] at hl
                  exact ih (i + 1) ls (by omega) (by omega) (lv_sub hl [0, 1, 3, 4, 5] rfl)
  exact L_6 (n + 1) 0 ls (by omega) (by omega) (lv_sub hl [0, 1, 2, 3, 4] rfl)
set_option maxHeartbeats 4000000 in
set_option maxRecDepth 100000 in
theorem c_X8_oldest (l : Launch) (V : zV) (g : Nat → Nat) (w pa be av sl sv pd cd : Nat → Int32) (st le ap pl wy : Int32) (n : Nat) (wr : Int32) (hn : w 7 = nI n) (h30 : n ≤ 30) : Met l yX8_oldest wsX8_oldest (zR 1 0 0) (zPc V [.ref (g 0), .int wr] (fun H => va_P V.1 vwCl (zmW V g w pa be av sl sv pd cd st le ap pl wy) H)) (vp_Si (fun r => r = (zoI (mOld w n wr)))) 0 0 (fun _ => False) := by
  refine Met.ofW (cc := cX8_oldest) (maxL := 4) (ret := (some .int)) (by decide) rfl ?_
  intro p e s m args below meth c s₁ B hml hv
  obtain ⟨rfl, hP, hE⟩ := hv
  have hx := B.exec
  have hb := B.bytes
  have hr := B.returns
  have hts := atoms_spec (ws := wsX8_oldest) B.pre
  have hown : s.vm.findClass RX8 = some m.cls := findClass_of_methodNamed B.named
  have hlocks := B.notSynchronized
  have hl := lv_entry ([.ref (g 0), .int wr]) (n := 4) (Nat.le_of_ble_eq_true rfl)
  rw [lg_entry_eq]
  generalize (lg_sl ([.ref (g 0), .int wr]) ++ List.replicate (4 - (lg_sl ([.ref (g 0), .int wr])).length) Slot.unset).toArray = ls at hl ⊢
  have hl : lv_has ls 4 [(0, .ref (g 0)), (1, .int wr)] := hl
  refine lv_bipush (v := (-6)) hx hb dX8_oldest_0 (by decide +kernel) ?_
  refine lv_istore_n (lv' := [(2, .int (-6)), (0, .ref (g 0)), (1, .int wr)]) hx hb dX8_oldest_2 rfl hl (by decide) rfl (fun ls hl => ?_)
  refine lv_iconst (v := 0) hx hb dX8_oldest_3 (by decide +kernel) ?_
  refine lv_istore_n (lv' := [(3, .int 0), (2, .int (-6)), (0, .ref (g 0)), (1, .int wr)]) hx hb dX8_oldest_4 rfl hl (by decide) rfl (fun ls hl => ?_)
  have L_5 : ∀ (n_ i : Nat) (ls : Array Slot), i ≤ n → n + 1 ≤ i + n_ → lv_has ls 4 [(3, .int (nI i)), (2, .int (zoI (mOld w i wr))), (0, .ref (g 0)), (1, .int wr)] → W p l e (headSpec wsX8_oldest (zR 1 0 0)).room s m (List.toArray [.ref (g 0), .int wr]) below meth c s.heap [] 0 0 (MQ below (vp_Si (fun r => r = (zoI (mOld w n wr)))) (List.toArray [.ref (g 0), .int wr]) s 0 0 (fun _ => False)) (F0 m 5 ls []) := by
    intro n_
    induction n_ with
    | zero => intro i   ls hi_ hn_; exact absurd hn_ (by omega)
    | succ n_ ih =>
      intro i   ls hi_ hn_   hl
      refine lv_iload_n hx hb dX8_oldest_5 rfl (lv_at hl 0 rfl) ?_
      refine lv_aload_n hx hb dX8_oldest_6 rfl (lv_at hl 2 rfl) ?_
      refine zm_get 0 (.ref (g 1)) hx hb hts (fun x h => List.mem_cons_of_mem _ (hU_X8 x h)) hown hE hP (by decide) rfl (hts _ (List.mem_cons_of_mem _ uM_5)) (fun _ h9 => h9) dX8_oldest_7 ?_
      refine lv_bipush (v := 7) hx hb dX8_oldest_10 (by decide +kernel) ?_
      refine z_iald (k := 7) hx hb hE hP 1 (zm_c1 V g w pa be av sl sv pd cd st le ap pl wy) (by omega) (by decide) dX8_oldest_12 ?_
      refine zt_i hn ?_
      refine zb_ge (x := i) (y := n) (tgt := 59) hx hb dX8_oldest_13 (by decide) (by omega) (by omega) (fun c_13 => ?_) (fun c_13 => ?_)
      · refine lv_iload_n hx hb dX8_oldest_59 rfl (lv_at hl 1 rfl) ?_
        exact zr_si hx hb hr hlocks (by rw [show n = i by omega]) dX8_oldest_60
      · refine lv_aload_n hx hb dX8_oldest_16 rfl (lv_at hl 2 rfl) ?_
        refine lv_iload_n hx hb dX8_oldest_17 rfl (lv_at hl 0 rfl) ?_
        refine lv_iconst (v := 1) hx hb dX8_oldest_18 (by decide +kernel) ?_
        refine zc_se (va_runV (As := [.int (nI i), .int 1]) (rest := []) ⟨hx, hb, hml, hown, hts⟩ (c_X8_its l V g w pa be av sl sv pd cd st le ap pl wy i 1 (by omega)) (cwV 2 hts (zgV_ wsM_all uM_16 uM_18 uM_19 uM_20 uM_21) rfl rfl rfl (by decide +kernel) ⟨Nat.le_of_ble_eq_true rfl, Nat.le_of_ble_eq_true rfl⟩) (zPreV (B := fun H => va_P V.1 vwCl (zmW V g w pa be av sl sv pd cd st le ap pl wy) H) hP hE (va_recv hE.1 hP (ci := 8) (q0 := 0) (q := (RX8, TX8, 13)) rfl (zm_c0 V g w pa be av sl sv pd cd st le ap pl wy))) rfl rfl hl.1 rfl (lv_room (Nat.le_of_ble_eq_true rfl)) dX8_oldest_19 ⟨Nat.le_of_ble_eq_true rfl, Nat.le_of_ble_eq_true rfl⟩) ?_
        refine lv_iload_n hx hb dX8_oldest_22 rfl (lv_at hl 3 rfl) ?_
        refine lv_icmp_ne (tgt := 51) hx hb dX8_oldest_23 (by decide) (fun c_23 => ?_) (fun c_23 => ?_)
        · refine lv_iload_n hx hb dX8_oldest_51 rfl (lv_at hl 1 rfl) ?_
          refine lv_istore_n (lv' := [(2, .int (zoI (mOld w i wr))), (3, .int (nI i)), (0, .ref (g 0)), (1, .int wr)]) hx hb dX8_oldest_52 rfl hl (by decide) rfl (fun ls hl => ?_)
          refine lv_iinc (v := nI (i + 1)) (lv' := [(3, .int (nI (i + 1))), (2, .int (zoI (mOld w i wr))), (0, .ref (g 0)), (1, .int wr)]) hx hb dX8_oldest_53 hl (k := 1) rfl (z_inc1 i) (by decide) rfl (fun ls hl => ?_)
          refine lv_goto (tgt := 5) hx hb dX8_oldest_56 (by decide) ?_
          have e_ : zoI (mOld w i wr) = zoI (mOld w (i + 1) wr) := by
            first
              | exact congrArg zoI (zBest_skip (decide_eq_false c_23)).symm
              | exact congrArg zoI (zBest_first hq (decide_eq_true c_23)).symm
              | exact congrArg zoI (zBest_less hq (decide_eq_true c_23) (decide_eq_true (z_nle c_44))).symm
              | exact congrArg zoI (zBest_keep hq (decide_eq_false (z_le' c_44))).symm
          rw [e_] at hl
          exact ih (i + 1) ls (by omega) (by omega) (lv_sub hl [0, 1, 2, 3] rfl)
        · rcases hq : mOld w i wr with _ | b
          · rw [hq] at hl
            have hl : lv_has ls 4 [(3, .int (nI i)), (2, .int (-6)), (0, .ref (g 0)), (1, .int wr)] := hl
            refine lv_iload_n hx hb dX8_oldest_26 rfl (lv_at hl 1 rfl) ?_
            refine lv_bipush (v := (-6)) hx hb dX8_oldest_27 (by decide +kernel) ?_
            refine lv_icmp_eq (tgt := 47) hx hb dX8_oldest_29 (by decide) (fun c_29 => ?_) (fun c_29 => ?_)
            · refine lv_iload_n hx hb dX8_oldest_47 rfl (lv_at hl 0 rfl) ?_
              refine lv_goto (tgt := 52) hx hb dX8_oldest_48 (by decide) ?_
              refine lv_istore_n (lv' := [(2, .int (nI i)), (3, .int (nI i)), (0, .ref (g 0)), (1, .int wr)]) hx hb dX8_oldest_52 rfl hl (by decide) rfl (fun ls hl => ?_)
              refine lv_iinc (v := nI (i + 1)) (lv' := [(3, .int (nI (i + 1))), (2, .int (nI i)), (0, .ref (g 0)), (1, .int wr)]) hx hb dX8_oldest_53 hl (k := 1) rfl (z_inc1 i) (by decide) rfl (fun ls hl => ?_)
              refine lv_goto (tgt := 5) hx hb dX8_oldest_56 (by decide) ?_
              have e_ : nI i = zoI (mOld w (i + 1) wr) := by
                first
                  | exact congrArg zoI (zBest_skip (decide_eq_false c_23)).symm
                  | exact congrArg zoI (zBest_first hq (decide_eq_true c_23)).symm
                  | exact congrArg zoI (zBest_less hq (decide_eq_true c_23) (decide_eq_true (z_nle c_44))).symm
                  | exact congrArg zoI (zBest_keep hq (decide_eq_false (z_le' c_44))).symm
              rw [e_] at hl
              exact ih (i + 1) ls (by omega) (by omega) (lv_sub hl [0, 1, 2, 3] rfl)
            · exact absurd rfl c_29
          · rw [hq] at hl
            have hl : lv_has ls 4 [(3, .int (nI i)), (2, .int (nI b)), (0, .ref (g 0)), (1, .int wr)] := hl
            have hb30 : b < i := (zBest_lt hq).1
            refine lv_iload_n hx hb dX8_oldest_26 rfl (lv_at hl 1 rfl) ?_
            refine lv_bipush (v := (-6)) hx hb dX8_oldest_27 (by decide +kernel) ?_
            refine lv_icmp_eq (tgt := 47) hx hb dX8_oldest_29 (by decide) (fun c_29 => ?_) (fun c_29 => ?_)
            · exact absurd c_29 (z_n6 (by omega))
            · refine lv_aload_n hx hb dX8_oldest_32 rfl (lv_at hl 2 rfl) ?_
              refine lv_iload_n hx hb dX8_oldest_33 rfl (lv_at hl 0 rfl) ?_
              refine lv_iconst (v := 4) hx hb dX8_oldest_34 (by decide +kernel) ?_
              refine zc_se (va_runV (As := [.int (nI i), .int 4]) (rest := []) ⟨hx, hb, hml, hown, hts⟩ (c_X8_its l V g w pa be av sl sv pd cd st le ap pl wy i 4 (by omega)) (cwV 2 hts (zgV_ wsM_all uM_16 uM_18 uM_19 uM_20 uM_21) rfl rfl rfl (by decide +kernel) ⟨Nat.le_of_ble_eq_true rfl, Nat.le_of_ble_eq_true rfl⟩) (zPreV (B := fun H => va_P V.1 vwCl (zmW V g w pa be av sl sv pd cd st le ap pl wy) H) hP hE (va_recv hE.1 hP (ci := 8) (q0 := 0) (q := (RX8, TX8, 13)) rfl (zm_c0 V g w pa be av sl sv pd cd st le ap pl wy))) rfl rfl hl.1 rfl (lv_room (Nat.le_of_ble_eq_true rfl)) dX8_oldest_35 ⟨Nat.le_of_ble_eq_true rfl, Nat.le_of_ble_eq_true rfl⟩) ?_
              refine lv_aload_n hx hb dX8_oldest_38 rfl (lv_at hl 2 rfl) ?_
              refine lv_iload_n hx hb dX8_oldest_39 rfl (lv_at hl 1 rfl) ?_
              refine lv_iconst (v := 4) hx hb dX8_oldest_40 (by decide +kernel) ?_
              refine zc_se (va_runV (As := [.int (nI b), .int 4]) (rest := [.int (zF w i 4)]) ⟨hx, hb, hml, hown, hts⟩ (c_X8_its l V g w pa be av sl sv pd cd st le ap pl wy b 4 (by omega)) (cwV 2 hts (zgV_ wsM_all uM_16 uM_18 uM_19 uM_20 uM_21) rfl rfl rfl (by decide +kernel) ⟨Nat.le_of_ble_eq_true rfl, Nat.le_of_ble_eq_true rfl⟩) (zPreV (B := fun H => va_P V.1 vwCl (zmW V g w pa be av sl sv pd cd st le ap pl wy) H) hP hE (va_recv hE.1 hP (ci := 8) (q0 := 0) (q := (RX8, TX8, 13)) rfl (zm_c0 V g w pa be av sl sv pd cd st le ap pl wy))) rfl rfl hl.1 rfl (lv_room (Nat.le_of_ble_eq_true rfl)) dX8_oldest_41 ⟨Nat.le_of_ble_eq_true rfl, Nat.le_of_ble_eq_true rfl⟩) ?_
              refine lv_icmp_ge (tgt := 51) hx hb dX8_oldest_44 (by decide) (fun c_44 => ?_) (fun c_44 => ?_)
              · refine lv_iload_n hx hb dX8_oldest_51 rfl (lv_at hl 1 rfl) ?_
                refine lv_istore_n (lv' := [(2, .int (nI b)), (3, .int (nI i)), (0, .ref (g 0)), (1, .int wr)]) hx hb dX8_oldest_52 rfl hl (by decide) rfl (fun ls hl => ?_)
                refine lv_iinc (v := nI (i + 1)) (lv' := [(3, .int (nI (i + 1))), (2, .int (nI b)), (0, .ref (g 0)), (1, .int wr)]) hx hb dX8_oldest_53 hl (k := 1) rfl (z_inc1 i) (by decide) rfl (fun ls hl => ?_)
                refine lv_goto (tgt := 5) hx hb dX8_oldest_56 (by decide) ?_
                have e_ : nI b = zoI (mOld w (i + 1) wr) := by
                  first
                    | exact congrArg zoI (zBest_skip (decide_eq_false c_23)).symm
                    | exact congrArg zoI (zBest_first hq (decide_eq_true c_23)).symm
                    | exact congrArg zoI (zBest_less hq (decide_eq_true c_23) (decide_eq_true (z_nle c_44))).symm
                    | exact congrArg zoI (zBest_keep hq (decide_eq_false (z_le' c_44))).symm
                rw [e_] at hl
                exact ih (i + 1) ls (by omega) (by omega) (lv_sub hl [0, 1, 2, 3] rfl)
              · refine lv_iload_n hx hb dX8_oldest_47 rfl (lv_at hl 0 rfl) ?_
                refine lv_goto (tgt := 52) hx hb dX8_oldest_48 (by decide) ?_
                refine lv_istore_n (lv' := [(2, .int (nI i)), (3, .int (nI i)), (0, .ref (g 0)), (1, .int wr)]) hx hb dX8_oldest_52 rfl hl (by decide) rfl (fun ls hl => ?_)
                refine lv_iinc (v := nI (i + 1)) (lv' := [(3, .int (nI (i + 1))), (2, .int (nI i)), (0, .ref (g 0)), (1, .int wr)]) hx hb dX8_oldest_53 hl (k := 1) rfl (z_inc1 i) (by decide) rfl (fun ls hl => ?_)
                refine lv_goto (tgt := 5) hx hb dX8_oldest_56 (by decide) ?_
                have e_ : nI i = zoI (mOld w (i + 1) wr) := by
                  first
                    | exact congrArg zoI (zBest_skip (decide_eq_false c_23)).symm
                    | exact congrArg zoI (zBest_first hq (decide_eq_true c_23)).symm
                    | exact congrArg zoI (zBest_less hq (decide_eq_true c_23) (decide_eq_true (z_nle c_44))).symm
                    | exact congrArg zoI (zBest_keep hq (decide_eq_false (z_le' c_44))).symm
                rw [e_] at hl
                exact ih (i + 1) ls (by omega) (by omega) (lv_sub hl [0, 1, 2, 3] rfl)
  exact L_5 (n + 1) 0 ls (by omega) (by omega) (lv_sub hl [0, 1, 2, 3] rfl)
set_option maxHeartbeats 4000000 in
set_option maxRecDepth 100000 in
theorem c_X8_isOld (l : Launch) (V : zV) (g : Nat → Nat) (w pa be av sl sv pd cd : Nat → Int32) (st le ap pl wy : Int32) (k : Nat) (hk : k < 30) (hw1 : zF w k 1 = 0 ∨ zF w k 1 = 1) : Met l yX8_isOld wsX8_isOld (zR 1 0 0) (zPc V [.ref (g 0), .int (nI k)] (fun H => va_P V.1 vwCl (zmW V g w pa be av sl sv pd cd st le ap pl wy) H)) (vp_Si (fun r => r = (if w (zF w k 1).toNatClampNeg ≤ w 6 - zF w k 4 then 1 else 0))) 0 0 (fun _ => False) := by
  refine Met.ofW (cc := cX8_isOld) (maxL := 2) (ret := (some .boolean)) (by decide) rfl ?_
  intro p e s m args below meth c s₁ B hml hv
  obtain ⟨rfl, hP, hE⟩ := hv
  have hx := B.exec
  have hb := B.bytes
  have hr := B.returns
  have hts := atoms_spec (ws := wsX8_isOld) B.pre
  have hown : s.vm.findClass RX8 = some m.cls := findClass_of_methodNamed B.named
  have hlocks := B.notSynchronized
  have hl := lv_entry ([.ref (g 0), .int (nI k)]) (n := 2) (Nat.le_of_ble_eq_true rfl)
  rw [lg_entry_eq]
  generalize (lg_sl ([.ref (g 0), .int (nI k)]) ++ List.replicate (2 - (lg_sl ([.ref (g 0), .int (nI k)])).length) Slot.unset).toArray = ls at hl ⊢
  have hl : lv_has ls 2 [(0, .ref (g 0)), (1, .int (nI k))] := hl
  refine lv_aload_n hx hb dX8_isOld_0 rfl (lv_at hl 0 rfl) ?_
  refine zm_get 0 (.ref (g 1)) hx hb hts (fun x h => List.mem_cons_of_mem _ (hU_X8 x h)) hown hE hP (by decide) rfl (hts _ (List.mem_cons_of_mem _ uM_5)) (fun _ h9 => h9) dX8_isOld_1 ?_
  refine lv_bipush (v := 6) hx hb dX8_isOld_4 (by decide +kernel) ?_
  refine z_iald (k := 6) hx hb hE hP 1 (zm_c1 V g w pa be av sl sv pd cd st le ap pl wy) (by omega) (by decide) dX8_isOld_6 ?_
  refine lv_aload_n hx hb dX8_isOld_7 rfl (lv_at hl 0 rfl) ?_
  refine lv_iload_n hx hb dX8_isOld_8 rfl (lv_at hl 1 rfl) ?_
  refine lv_iconst (v := 4) hx hb dX8_isOld_9 (by decide +kernel) ?_
  refine zc_se (va_runV (As := [.int (nI k), .int 4]) (rest := [.int (w 6)]) ⟨hx, hb, hml, hown, hts⟩ (c_X8_its l V g w pa be av sl sv pd cd st le ap pl wy k 4 (by omega)) (cwV 2 hts (zgV_ wsM_all uM_16 uM_18 uM_19 uM_20 uM_21) rfl rfl rfl (by decide +kernel) ⟨Nat.le_of_ble_eq_true rfl, Nat.le_of_ble_eq_true rfl⟩) (zPreV (B := fun H => va_P V.1 vwCl (zmW V g w pa be av sl sv pd cd st le ap pl wy) H) hP hE (va_recv hE.1 hP (ci := 8) (q0 := 0) (q := (RX8, TX8, 13)) rfl (zm_c0 V g w pa be av sl sv pd cd st le ap pl wy))) rfl rfl hl.1 rfl (lv_room (Nat.le_of_ble_eq_true rfl)) dX8_isOld_10 ⟨Nat.le_of_ble_eq_true rfl, Nat.le_of_ble_eq_true rfl⟩) ?_
  refine lv_isub hx hb dX8_isOld_13 ?_
  refine lv_aload_n hx hb dX8_isOld_14 rfl (lv_at hl 0 rfl) ?_
  refine zm_get 0 (.ref (g 1)) hx hb hts (fun x h => List.mem_cons_of_mem _ (hU_X8 x h)) hown hE hP (by decide) rfl (hts _ (List.mem_cons_of_mem _ uM_5)) (fun _ h9 => h9) dX8_isOld_15 ?_
  refine lv_aload_n hx hb dX8_isOld_18 rfl (lv_at hl 0 rfl) ?_
  refine lv_iload_n hx hb dX8_isOld_19 rfl (lv_at hl 1 rfl) ?_
  refine lv_iconst (v := 1) hx hb dX8_isOld_20 (by decide +kernel) ?_
  refine zc_se (va_runV (As := [.int (nI k), .int 1]) (rest := [.ref (g 1), .int ((w 6) - (zF w k 4))]) ⟨hx, hb, hml, hown, hts⟩ (c_X8_its l V g w pa be av sl sv pd cd st le ap pl wy k 1 (by omega)) (cwV 2 hts (zgV_ wsM_all uM_16 uM_18 uM_19 uM_20 uM_21) rfl rfl rfl (by decide +kernel) ⟨Nat.le_of_ble_eq_true rfl, Nat.le_of_ble_eq_true rfl⟩) (zPreV (B := fun H => va_P V.1 vwCl (zmW V g w pa be av sl sv pd cd st le ap pl wy) H) hP hE (va_recv hE.1 hP (ci := 8) (q0 := 0) (q := (RX8, TX8, 13)) rfl (zm_c0 V g w pa be av sl sv pd cd st le ap pl wy))) rfl rfl hl.1 rfl (lv_room (Nat.le_of_ble_eq_true rfl)) dX8_isOld_21 ⟨Nat.le_of_ble_eq_true rfl, Nat.le_of_ble_eq_true rfl⟩) ?_
  obtain ⟨j_, hj_, ej_⟩ := z_01 hw1
  refine zt_i ej_ ?_
  refine z_iald (k := j_) hx hb hE hP 1 (zm_c1 V g w pa be av sl sv pd cd st le ap pl wy) (by omega) (by decide) dX8_isOld_24 ?_
  refine lv_icmp_lt (tgt := 32) hx hb dX8_isOld_25 (by decide) (fun c_25 => ?_) (fun c_25 => ?_)
  · refine lv_iconst (v := 0) hx hb dX8_isOld_32 (by decide +kernel) ?_
    exact zr_sz hx hb hr hlocks (by first | exact Or.inl rfl | exact Or.inr rfl | assumption) (by rw [ej_, nI_clamp (by omega)]; first | rw [if_neg (z_lt' c_25)] | rw [if_pos (z_nlt c_25)]) dX8_isOld_33
  · refine lv_iconst (v := 1) hx hb dX8_isOld_28 (by decide +kernel) ?_
    refine lv_goto (tgt := 33) hx hb dX8_isOld_29 (by decide) ?_
    exact zr_sz hx hb hr hlocks (by first | exact Or.inl rfl | exact Or.inr rfl | assumption) (by rw [ej_, nI_clamp (by omega)]; first | rw [if_neg (z_lt' c_25)] | rw [if_pos (z_nlt c_25)]) dX8_isOld_33
set_option maxHeartbeats 4000000 in
set_option maxRecDepth 100000 in
theorem c_X8_nextSort (l : Launch) (V : zV) (g : Nat → Nat) (w pa be av sl sv pd cd : Nat → Int32) (st le ap pl wy : Int32) (n : Nat) (hn : w 7 = nI n) (h30 : n ≤ 30) : Met l yX8_nextSort wsX8_nextSort (zR 2 0 0) (zPc V [.ref (g 0)] (fun H => va_P V.1 vwCl (zmW V g w pa be av sl sv pd cd st le ap pl wy) H)) (vp_Si (fun r => r = (mNext w n))) 0 0 (fun _ => False) := by
  refine Met.ofW (cc := cX8_nextSort) (maxL := 2) (ret := (some .int)) (by decide) rfl ?_
  intro p e s m args below meth c s₁ B hml hv
  obtain ⟨rfl, hP, hE⟩ := hv
  have hx := B.exec
  have hb := B.bytes
  have hr := B.returns
  have hts := atoms_spec (ws := wsX8_nextSort) B.pre
  have hown : s.vm.findClass RX8 = some m.cls := findClass_of_methodNamed B.named
  have hlocks := B.notSynchronized
  have hl := lv_entry ([.ref (g 0)]) (n := 2) (Nat.le_of_ble_eq_true rfl)
  rw [lg_entry_eq]
  generalize (lg_sl ([.ref (g 0)]) ++ List.replicate (2 - (lg_sl ([.ref (g 0)])).length) Slot.unset).toArray = ls at hl ⊢
  have hl : lv_has ls 2 [(0, .ref (g 0))] := hl
  have hm1 := zCnt_le (fun k => decide (zF w k 1 = 1)) n
  have hm2 : mMany w n 1 ≤ n := hm1
  refine lv_aload_n hx hb dX8_nextSort_0 rfl (lv_at hl 0 rfl) ?_
  refine lv_iconst (v := 1) hx hb dX8_nextSort_1 (by decide +kernel) ?_
  refine zc_se (va_runV (As := [.int 1]) (rest := []) ⟨hx, hb, hml, hown, hts⟩ (c_X8_many l V g w pa be av sl sv pd cd st le ap pl wy n 1 hn h30) (cwV 1 hts (zgV_ wsM_all uM_23 uM_44 uM_45 uM_46 uM_21) rfl rfl rfl (by decide +kernel) ⟨Nat.le_of_ble_eq_true rfl, Nat.le_of_ble_eq_true rfl⟩) (zPreV (B := fun H => va_P V.1 vwCl (zmW V g w pa be av sl sv pd cd st le ap pl wy) H) hP hE (va_recv hE.1 hP (ci := 8) (q0 := 0) (q := (RX8, TX8, 13)) rfl (zm_c0 V g w pa be av sl sv pd cd st le ap pl wy))) rfl rfl hl.1 rfl (lv_room (Nat.le_of_ble_eq_true rfl)) dX8_nextSort_2 ⟨Nat.le_of_ble_eq_true rfl, Nat.le_of_ble_eq_true rfl⟩) ?_
  refine lv_istore_n (lv' := [(1, .int (nI (mMany w n 1))), (0, .ref (g 0))]) hx hb dX8_nextSort_5 rfl hl (by decide) rfl (fun ls hl => ?_)
  refine lv_iload_n hx hb dX8_nextSort_6 rfl (lv_at hl 0 rfl) ?_
  refine lv_aload_n hx hb dX8_nextSort_7 rfl (lv_at hl 1 rfl) ?_
  refine zm_get 0 (.ref (g 1)) hx hb hts (fun x h => List.mem_cons_of_mem _ (hU_X8 x h)) hown hE hP (by decide) rfl (hts _ (List.mem_cons_of_mem _ uM_5)) (fun _ h9 => h9) dX8_nextSort_8 ?_
  refine lv_bipush (v := 7) hx hb dX8_nextSort_11 (by decide +kernel) ?_
  refine z_iald (k := 7) hx hb hE hP 1 (zm_c1 V g w pa be av sl sv pd cd st le ap pl wy) (by omega) (by decide) dX8_nextSort_13 ?_
  refine zt_i hn ?_
  refine zb_ne (x := mMany w n 1) (y := n) (tgt := 21) hx hb dX8_nextSort_14 (by decide) (by omega) (by omega) (fun c_14 => ?_) (fun c_14 => ?_)
  · refine lv_iload_n hx hb dX8_nextSort_21 rfl (lv_at hl 0 rfl) ?_
    refine zb0_ne (x := mMany w n 1) (tgt := 29) hx hb dX8_nextSort_22 (by decide) (by omega) (fun c_22 => ?_) (fun c_22 => ?_)
    · refine lv_aload_n hx hb dX8_nextSort_29 rfl (lv_at hl 1 rfl) ?_
      refine zm_get 0 (.ref (g 1)) hx hb hts (fun x h => List.mem_cons_of_mem _ (hU_X8 x h)) hown hE hP (by decide) rfl (hts _ (List.mem_cons_of_mem _ uM_5)) (fun _ h9 => h9) dX8_nextSort_30 ?_
      refine lv_bipush (v := 15) hx hb dX8_nextSort_33 (by decide +kernel) ?_
      refine z_iald (k := 15) hx hb hE hP 1 (zm_c1 V g w pa be av sl sv pd cd st le ap pl wy) (by omega) (by decide) dX8_nextSort_35 ?_
      refine lv_aload_n hx hb dX8_nextSort_36 rfl (lv_at hl 1 rfl) ?_
      refine zm_get 0 (.ref (g 1)) hx hb hts (fun x h => List.mem_cons_of_mem _ (hU_X8 x h)) hown hE hP (by decide) rfl (hts _ (List.mem_cons_of_mem _ uM_5)) (fun _ h9 => h9) dX8_nextSort_37 ?_
      refine lv_iconst (v := 3) hx hb dX8_nextSort_40 (by decide +kernel) ?_
      refine z_iald (k := 3) hx hb hE hP 1 (zm_c1 V g w pa be av sl sv pd cd st le ap pl wy) (by omega) (by decide) dX8_nextSort_41 ?_
      refine lv_icmp_lt (tgt := 49) hx hb dX8_nextSort_42 (by decide) (fun c_42 => ?_) (fun c_42 => ?_)
      · refine lv_iconst (v := 0) hx hb dX8_nextSort_49 (by decide +kernel) ?_
        exact zr_si hx hb hr hlocks (by first | exact (if_pos c_14).symm | exact ((if_neg c_14).trans (if_pos c_22)).symm | exact ((if_neg c_14).trans ((if_neg c_22).trans (if_pos (z_nlt c_42)))).symm | exact ((if_neg c_14).trans ((if_neg c_22).trans (if_neg (z_lt' c_42)))).symm) dX8_nextSort_50
      · refine lv_iconst (v := 1) hx hb dX8_nextSort_45 (by decide +kernel) ?_
        refine lv_goto (tgt := 50) hx hb dX8_nextSort_46 (by decide) ?_
        exact zr_si hx hb hr hlocks (by first | exact (if_pos c_14).symm | exact ((if_neg c_14).trans (if_pos c_22)).symm | exact ((if_neg c_14).trans ((if_neg c_22).trans (if_pos (z_nlt c_42)))).symm | exact ((if_neg c_14).trans ((if_neg c_22).trans (if_neg (z_lt' c_42)))).symm) dX8_nextSort_50
    · refine lv_iconst (v := 0) hx hb dX8_nextSort_25 (by decide +kernel) ?_
      refine lv_goto (tgt := 50) hx hb dX8_nextSort_26 (by decide) ?_
      exact zr_si hx hb hr hlocks (by first | exact (if_pos c_14).symm | exact ((if_neg c_14).trans (if_pos c_22)).symm | exact ((if_neg c_14).trans ((if_neg c_22).trans (if_pos (z_nlt c_42)))).symm | exact ((if_neg c_14).trans ((if_neg c_22).trans (if_neg (z_lt' c_42)))).symm) dX8_nextSort_50
  · refine lv_iconst (v := 1) hx hb dX8_nextSort_17 (by decide +kernel) ?_
    refine lv_goto (tgt := 50) hx hb dX8_nextSort_18 (by decide) ?_
    exact zr_si hx hb hr hlocks (by first | exact (if_pos c_14).symm | exact ((if_neg c_14).trans (if_pos c_22)).symm | exact ((if_neg c_14).trans ((if_neg c_22).trans (if_pos (z_nlt c_42)))).symm | exact ((if_neg c_14).trans ((if_neg c_22).trans (if_neg (z_lt' c_42)))).symm) dX8_nextSort_50
set_option maxHeartbeats 4000000 in
set_option maxRecDepth 100000 in
theorem c_X8_minute (l : Launch) (V : zV) (g : Nat → Nat) (w pa be av sl sv pd cd : Nat → Int32) (st le ap pl wy : Int32) (k : Nat) (hk : k < 30) (hpl : pl = nI k) : Met l yX8_minute wsX8_minute (zR 1 0 0) (zPc V [.ref (g 0)] (fun H => va_P V.1 vwCl (zmW V g w pa be av sl sv pd cd st le ap pl wy) H)) (vp_Si (fun r => r = (mMinute w k))) 0 0 (fun _ => False) := by
  refine Met.ofW (cc := cX8_minute) (maxL := 1) (ret := (some .int)) (by decide) rfl ?_
  intro p e s m args below meth c s₁ B hml hv
  obtain ⟨rfl, hP, hE⟩ := hv
  have hx := B.exec
  have hb := B.bytes
  have hr := B.returns
  have hts := atoms_spec (ws := wsX8_minute) B.pre
  have hown : s.vm.findClass RX8 = some m.cls := findClass_of_methodNamed B.named
  have hlocks := B.notSynchronized
  have hl := lv_entry ([.ref (g 0)]) (n := 1) (Nat.le_of_ble_eq_true rfl)
  rw [lg_entry_eq]
  generalize (lg_sl ([.ref (g 0)]) ++ List.replicate (1 - (lg_sl ([.ref (g 0)])).length) Slot.unset).toArray = ls at hl ⊢
  have hl : lv_has ls 1 [(0, .ref (g 0))] := hl
  subst hpl
  refine lv_aload_n hx hb dX8_minute_0 rfl (lv_at hl 0 rfl) ?_
  refine zm_get 0 (.ref (g 1)) hx hb hts (fun x h => List.mem_cons_of_mem _ (hU_X8 x h)) hown hE hP (by decide) rfl (hts _ (List.mem_cons_of_mem _ uM_5)) (fun _ h9 => h9) dX8_minute_1 ?_
  refine lv_bipush (v := 6) hx hb dX8_minute_4 (by decide +kernel) ?_
  refine z_iald (k := 6) hx hb hE hP 1 (zm_c1 V g w pa be av sl sv pd cd st le ap (nI k) wy) (by omega) (by decide) dX8_minute_6 ?_
  refine lv_aload_n hx hb dX8_minute_7 rfl (lv_at hl 0 rfl) ?_
  refine zm_get 0 (.ref (g 1)) hx hb hts (fun x h => List.mem_cons_of_mem _ (hU_X8 x h)) hown hE hP (by decide) rfl (hts _ (List.mem_cons_of_mem _ uM_5)) (fun _ h9 => h9) dX8_minute_8 ?_
  refine lv_iconst (v := 4) hx hb dX8_minute_11 (by decide +kernel) ?_
  refine z_iald (k := 4) hx hb hE hP 1 (zm_c1 V g w pa be av sl sv pd cd st le ap (nI k) wy) (by omega) (by decide) dX8_minute_12 ?_
  refine lv_aload_n hx hb dX8_minute_13 rfl (lv_at hl 0 rfl) ?_
  refine lv_aload_n hx hb dX8_minute_14 rfl (lv_at hl 0 rfl) ?_
  refine zm_get 11 (.int (nI k)) hx hb hts (fun x h => List.mem_cons_of_mem _ (hU_X8 x h)) hown hE hP (by decide) rfl (hts _ (List.mem_cons_of_mem _ uM_48)) (fun _ h9 => h9) dX8_minute_15 ?_
  refine lv_iconst (v := 2) hx hb dX8_minute_18 (by decide +kernel) ?_
  refine zc_se (va_runV (As := [.int (nI k), .int 2]) (rest := [.int (w 4), .int (w 6)]) ⟨hx, hb, hml, hown, hts⟩ (c_X8_its l V g w pa be av sl sv pd cd st le ap (nI k) wy k 2 (by omega)) (cwV 2 hts (zgV_ wsM_all uM_16 uM_18 uM_19 uM_20 uM_21) rfl rfl rfl (by decide +kernel) ⟨Nat.le_of_ble_eq_true rfl, Nat.le_of_ble_eq_true rfl⟩) (zPreV (B := fun H => va_P V.1 vwCl (zmW V g w pa be av sl sv pd cd st le ap (nI k) wy) H) hP hE (va_recv hE.1 hP (ci := 8) (q0 := 0) (q := (RX8, TX8, 13)) rfl (zm_c0 V g w pa be av sl sv pd cd st le ap (nI k) wy))) rfl rfl hl.1 rfl (lv_room (Nat.le_of_ble_eq_true rfl)) dX8_minute_19 ⟨Nat.le_of_ble_eq_true rfl, Nat.le_of_ble_eq_true rfl⟩) ?_
  refine lv_aload_n hx hb dX8_minute_22 rfl (lv_at hl 0 rfl) ?_
  refine zm_get 0 (.ref (g 1)) hx hb hts (fun x h => List.mem_cons_of_mem _ (hU_X8 x h)) hown hE hP (by decide) rfl (hts _ (List.mem_cons_of_mem _ uM_5)) (fun _ h9 => h9) dX8_minute_23 ?_
  refine lv_bipush (v := 9) hx hb dX8_minute_26 (by decide +kernel) ?_
  refine z_iald (k := 9) hx hb hE hP 1 (zm_c1 V g w pa be av sl sv pd cd st le ap (nI k) wy) (by omega) (by decide) dX8_minute_28 ?_
  refine zc_se (va_runS (As := [.int (zF w k 2), .int (w 9)]) (rest := [.int (w 4), .int (w 6)]) ⟨hx, hb, hml, hown, hts⟩ (c_X8_far l V (zF w k 2) (w 9)) (va_cwS 2 hts (zgS_ wsM_all uM_15 uM_63 uM_64 uM_21) rfl rfl rfl (by decide +kernel) ⟨Nat.le_of_ble_eq_true rfl, Nat.le_of_ble_eq_true rfl⟩) (zPreS (B := fun _ => True) trivial hE) rfl rfl hl.1 rfl (lv_room (Nat.le_of_ble_eq_true rfl)) dX8_minute_29 ⟨Nat.le_of_ble_eq_true rfl, Nat.le_of_ble_eq_true rfl⟩) ?_
  refine lv_imul hx hb dX8_minute_32 ?_
  refine lv_iadd hx hb dX8_minute_33 ?_
  refine lv_aload_n hx hb dX8_minute_34 rfl (lv_at hl 0 rfl) ?_
  refine zm_get 0 (.ref (g 1)) hx hb hts (fun x h => List.mem_cons_of_mem _ (hU_X8 x h)) hown hE hP (by decide) rfl (hts _ (List.mem_cons_of_mem _ uM_5)) (fun _ h9 => h9) dX8_minute_35 ?_
  refine lv_iconst (v := 5) hx hb dX8_minute_38 (by decide +kernel) ?_
  refine z_iald (k := 5) hx hb hE hP 1 (zm_c1 V g w pa be av sl sv pd cd st le ap (nI k) wy) (by omega) (by decide) dX8_minute_39 ?_
  refine lv_aload_n hx hb dX8_minute_40 rfl (lv_at hl 0 rfl) ?_
  refine lv_aload_n hx hb dX8_minute_41 rfl (lv_at hl 0 rfl) ?_
  refine zm_get 11 (.int (nI k)) hx hb hts (fun x h => List.mem_cons_of_mem _ (hU_X8 x h)) hown hE hP (by decide) rfl (hts _ (List.mem_cons_of_mem _ uM_48)) (fun _ h9 => h9) dX8_minute_42 ?_
  refine lv_iconst (v := 3) hx hb dX8_minute_45 (by decide +kernel) ?_
  refine zc_se (va_runV (As := [.int (nI k), .int 3]) (rest := [.int (w 5), .int ((w 6) + ((w 4) * (mFar (zF w k 2) (w 9))))]) ⟨hx, hb, hml, hown, hts⟩ (c_X8_its l V g w pa be av sl sv pd cd st le ap (nI k) wy k 3 (by omega)) (cwV 2 hts (zgV_ wsM_all uM_16 uM_18 uM_19 uM_20 uM_21) rfl rfl rfl (by decide +kernel) ⟨Nat.le_of_ble_eq_true rfl, Nat.le_of_ble_eq_true rfl⟩) (zPreV (B := fun H => va_P V.1 vwCl (zmW V g w pa be av sl sv pd cd st le ap (nI k) wy) H) hP hE (va_recv hE.1 hP (ci := 8) (q0 := 0) (q := (RX8, TX8, 13)) rfl (zm_c0 V g w pa be av sl sv pd cd st le ap (nI k) wy))) rfl rfl hl.1 rfl (lv_room (Nat.le_of_ble_eq_true rfl)) dX8_minute_46 ⟨Nat.le_of_ble_eq_true rfl, Nat.le_of_ble_eq_true rfl⟩) ?_
  refine lv_imul hx hb dX8_minute_49 ?_
  refine lv_iadd hx hb dX8_minute_50 ?_
  exact zr_si hx hb hr hlocks (by rfl) dX8_minute_51
set_option maxHeartbeats 4000000 in
set_option maxRecDepth 100000 in
theorem c_X8_isSlip (l : Launch) (V : zV) (a d mm : Int32) : Met l yX8_isSlip wsX8_isSlip (zR 1 0 0) (zPc V [.int a, .int d, .int mm] (fun H => True)) (vp_Si (fun r => r = (if mSlip a d mm then 1 else 0))) 0 0 (fun _ => False) := by
  refine Met.ofW (cc := cX8_isSlip) (maxL := 3) (ret := (some .boolean)) (by decide) rfl ?_
  intro p e s m args below meth c s₁ B hml hv
  obtain ⟨rfl, hP, hE⟩ := hv
  have hx := B.exec
  have hb := B.bytes
  have hr := B.returns
  have hts := atoms_spec (ws := wsX8_isSlip) B.pre
  have hown : s.vm.findClass RX8 = some m.cls := findClass_of_methodNamed B.named
  have hlocks := B.notSynchronized
  have hl := lv_entry ([.int a, .int d, .int mm]) (n := 3) (Nat.le_of_ble_eq_true rfl)
  rw [lg_entry_eq]
  generalize (lg_sl ([.int a, .int d, .int mm]) ++ List.replicate (3 - (lg_sl ([.int a, .int d, .int mm])).length) Slot.unset).toArray = ls at hl ⊢
  have hl : lv_has ls 3 [(0, .int a), (1, .int d), (2, .int mm)] := hl
  refine lv_iload_n hx hb dX8_isSlip_0 rfl (lv_at hl 0 rfl) ?_
  refine lv_i2l (v := a.toInt64) hx hb dX8_isSlip_1 rfl ?_
  refine lv_iconst (v := 0) hx hb dX8_isSlip_2 (by decide +kernel) ?_
  refine lv_iconst (v := 1) hx hb dX8_isSlip_3 (by decide +kernel) ?_
  refine zc_se (va_runS (As := [.long a.toInt64, .int 0, .int 1]) (rest := []) ⟨hx, hb, hml, hown, hts⟩ (c_X8_in l V a 0 1) (va_cwS 3 hts (zgS_ wsM_all uM_14 uM_29 uM_30 uM_21) rfl rfl rfl (by decide +kernel) ⟨Nat.le_of_ble_eq_true rfl, Nat.le_of_ble_eq_true rfl⟩) (zPreS (B := fun _ => True) trivial hE) rfl rfl hl.1 rfl (lv_room (Nat.le_of_ble_eq_true rfl)) dX8_isSlip_4 ⟨Nat.le_of_ble_eq_true rfl, Nat.le_of_ble_eq_true rfl⟩) ?_
  refine zbp_eq (P := 0 ≤ a ∧ a ≤ 1) (tgt := 44) hx hb dX8_isSlip_7 (by decide) (fun c_7 => ?_) (fun c_7 => ?_)
  · refine lv_iconst (v := 0) hx hb dX8_isSlip_44 (by decide +kernel) ?_
    exact zr_sz hx hb hr hlocks (by first | exact Or.inl rfl | exact Or.inr rfl | assumption) (by first | exact (if_neg (fun h => c_7 h.1)).symm | exact (if_neg (fun h => c_18 h.2.1)).symm | exact (if_neg (fun h => c_29 h.2.2.1)).symm | exact (if_neg (fun h => z_lt' c_37 h.2.2.2)).symm | exact (if_pos ⟨c_7, c_18, c_29, z_nlt c_37⟩).symm) dX8_isSlip_45
  · refine lv_iload_n hx hb dX8_isSlip_10 rfl (lv_at hl 1 rfl) ?_
    refine lv_i2l (v := d.toInt64) hx hb dX8_isSlip_11 rfl ?_
    refine lv_iconst (v := 0) hx hb dX8_isSlip_12 (by decide +kernel) ?_
    refine lv_bipush (v := 99) hx hb dX8_isSlip_13 (by decide +kernel) ?_
    refine zc_se (va_runS (As := [.long d.toInt64, .int 0, .int 99]) (rest := []) ⟨hx, hb, hml, hown, hts⟩ (c_X8_in l V d 0 99) (va_cwS 3 hts (zgS_ wsM_all uM_14 uM_29 uM_30 uM_21) rfl rfl rfl (by decide +kernel) ⟨Nat.le_of_ble_eq_true rfl, Nat.le_of_ble_eq_true rfl⟩) (zPreS (B := fun _ => True) trivial hE) rfl rfl hl.1 rfl (lv_room (Nat.le_of_ble_eq_true rfl)) dX8_isSlip_15 ⟨Nat.le_of_ble_eq_true rfl, Nat.le_of_ble_eq_true rfl⟩) ?_
    refine zbp_eq (P := 0 ≤ d ∧ d ≤ 99) (tgt := 44) hx hb dX8_isSlip_18 (by decide) (fun c_18 => ?_) (fun c_18 => ?_)
    · refine lv_iconst (v := 0) hx hb dX8_isSlip_44 (by decide +kernel) ?_
      exact zr_sz hx hb hr hlocks (by first | exact Or.inl rfl | exact Or.inr rfl | assumption) (by first | exact (if_neg (fun h => c_7 h.1)).symm | exact (if_neg (fun h => c_18 h.2.1)).symm | exact (if_neg (fun h => c_29 h.2.2.1)).symm | exact (if_neg (fun h => z_lt' c_37 h.2.2.2)).symm | exact (if_pos ⟨c_7, c_18, c_29, z_nlt c_37⟩).symm) dX8_isSlip_45
    · refine lv_iload_n hx hb dX8_isSlip_21 rfl (lv_at hl 2 rfl) ?_
      refine lv_i2l (v := mm.toInt64) hx hb dX8_isSlip_22 rfl ?_
      refine lv_iconst (v := 1) hx hb dX8_isSlip_23 (by decide +kernel) ?_
      refine lv_bipush (v := 9) hx hb dX8_isSlip_24 (by decide +kernel) ?_
      refine zc_se (va_runS (As := [.long mm.toInt64, .int 1, .int 9]) (rest := []) ⟨hx, hb, hml, hown, hts⟩ (c_X8_in l V mm 1 9) (va_cwS 3 hts (zgS_ wsM_all uM_14 uM_29 uM_30 uM_21) rfl rfl rfl (by decide +kernel) ⟨Nat.le_of_ble_eq_true rfl, Nat.le_of_ble_eq_true rfl⟩) (zPreS (B := fun _ => True) trivial hE) rfl rfl hl.1 rfl (lv_room (Nat.le_of_ble_eq_true rfl)) dX8_isSlip_26 ⟨Nat.le_of_ble_eq_true rfl, Nat.le_of_ble_eq_true rfl⟩) ?_
      refine zbp_eq (P := 1 ≤ mm ∧ mm ≤ 9) (tgt := 44) hx hb dX8_isSlip_29 (by decide) (fun c_29 => ?_) (fun c_29 => ?_)
      · refine lv_iconst (v := 0) hx hb dX8_isSlip_44 (by decide +kernel) ?_
        exact zr_sz hx hb hr hlocks (by first | exact Or.inl rfl | exact Or.inr rfl | assumption) (by first | exact (if_neg (fun h => c_7 h.1)).symm | exact (if_neg (fun h => c_18 h.2.1)).symm | exact (if_neg (fun h => c_29 h.2.2.1)).symm | exact (if_neg (fun h => z_lt' c_37 h.2.2.2)).symm | exact (if_pos ⟨c_7, c_18, c_29, z_nlt c_37⟩).symm) dX8_isSlip_45
      · refine lv_iload_n hx hb dX8_isSlip_32 rfl (lv_at hl 1 rfl) ?_
        refine lv_iload_n hx hb dX8_isSlip_33 rfl (lv_at hl 2 rfl) ?_
        refine lv_iadd hx hb dX8_isSlip_34 ?_
        refine lv_bipush (v := 100) hx hb dX8_isSlip_35 (by decide +kernel) ?_
        refine lv_icmp_gt (tgt := 44) hx hb dX8_isSlip_37 (by decide) (fun c_37 => ?_) (fun c_37 => ?_)
        · refine lv_iconst (v := 0) hx hb dX8_isSlip_44 (by decide +kernel) ?_
          exact zr_sz hx hb hr hlocks (by first | exact Or.inl rfl | exact Or.inr rfl | assumption) (by first | exact (if_neg (fun h => c_7 h.1)).symm | exact (if_neg (fun h => c_18 h.2.1)).symm | exact (if_neg (fun h => c_29 h.2.2.1)).symm | exact (if_neg (fun h => z_lt' c_37 h.2.2.2)).symm | exact (if_pos ⟨c_7, c_18, c_29, z_nlt c_37⟩).symm) dX8_isSlip_45
        · refine lv_iconst (v := 1) hx hb dX8_isSlip_40 (by decide +kernel) ?_
          refine lv_goto (tgt := 45) hx hb dX8_isSlip_41 (by decide) ?_
          exact zr_sz hx hb hr hlocks (by first | exact Or.inl rfl | exact Or.inr rfl | assumption) (by first | exact (if_neg (fun h => c_7 h.1)).symm | exact (if_neg (fun h => c_18 h.2.1)).symm | exact (if_neg (fun h => c_29 h.2.2.1)).symm | exact (if_neg (fun h => z_lt' c_37 h.2.2.2)).symm | exact (if_pos ⟨c_7, c_18, c_29, z_nlt c_37⟩).symm) dX8_isSlip_45
set_option maxHeartbeats 4000000 in
set_option maxRecDepth 100000 in
theorem c_X8_partner (l : Launch) (V : zV) (g : Nat → Nat) (w pa be av sl sv pd cd : Nat → Int32) (st le ap pl wy : Int32) (n : Nat) (wr d mm : Int32) (hn : w 7 = nI n) (h30 : n ≤ 30) : Met l yX8_partner wsX8_partner (zR 2 0 0) (zPc V [.ref (g 0), .int wr, .int d, .int mm] (fun H => va_P V.1 vwCl (zmW V g w pa be av sl sv pd cd st le ap pl wy) H)) (vp_Si (fun r => r = (zoI (mPart w n wr d mm)))) 0 0 (fun _ => False) := by
  refine Met.ofW (cc := cX8_partner) (maxL := 5) (ret := (some .int)) (by decide) rfl ?_
  intro p e s m args below meth c s₁ B hml hv
  obtain ⟨rfl, hP, hE⟩ := hv
  have hx := B.exec
  have hb := B.bytes
  have hr := B.returns
  have hts := atoms_spec (ws := wsX8_partner) B.pre
  have hown : s.vm.findClass RX8 = some m.cls := findClass_of_methodNamed B.named
  have hlocks := B.notSynchronized
  have hl := lv_entry ([.ref (g 0), .int wr, .int d, .int mm]) (n := 5) (Nat.le_of_ble_eq_true rfl)
  rw [lg_entry_eq]
  generalize (lg_sl ([.ref (g 0), .int wr, .int d, .int mm]) ++ List.replicate (5 - (lg_sl ([.ref (g 0), .int wr, .int d, .int mm])).length) Slot.unset).toArray = ls at hl ⊢
  have hl : lv_has ls 5 [(0, .ref (g 0)), (1, .int wr), (2, .int d), (3, .int mm)] := hl
  refine lv_iconst (v := 0) hx hb dX8_partner_0 (by decide +kernel) ?_
  refine lv_istore (lv' := [(4, .int 0), (0, .ref (g 0)), (1, .int wr), (2, .int d), (3, .int mm)]) hx hb dX8_partner_1 hl (by decide) rfl (fun ls hl => ?_)
  have L_3 : ∀ (n_ i : Nat) (ls : Array Slot), i ≤ n → n + 1 ≤ i + n_ → (mPart w i wr d mm = none) → lv_has ls 5 [(4, .int (nI i)), (0, .ref (g 0)), (1, .int wr), (2, .int d), (3, .int mm)] → W p l e (headSpec wsX8_partner (zR 2 0 0)).room s m (List.toArray [.ref (g 0), .int wr, .int d, .int mm]) below meth c s.heap [] 0 0 (MQ below (vp_Si (fun r => r = (zoI (mPart w n wr d mm)))) (List.toArray [.ref (g 0), .int wr, .int d, .int mm]) s 0 0 (fun _ => False)) (F0 m 3 ls []) := by
    intro n_
    induction n_ with
    | zero => intro i   ls hi_ hn_; exact absurd hn_ (by omega)
    | succ n_ ih =>
      intro i   ls hi_ hn_ hno  hl
      refine lv_iload hx hb dX8_partner_3 (lv_at hl 0 rfl) ?_
      refine lv_aload_n hx hb dX8_partner_5 rfl (lv_at hl 1 rfl) ?_
      refine zm_get 0 (.ref (g 1)) hx hb hts (fun x h => List.mem_cons_of_mem _ (hU_X8 x h)) hown hE hP (by decide) rfl (hts _ (List.mem_cons_of_mem _ uM_5)) (fun _ h9 => h9) dX8_partner_6 ?_
      refine lv_bipush (v := 7) hx hb dX8_partner_9 (by decide +kernel) ?_
      refine z_iald (k := 7) hx hb hE hP 1 (zm_c1 V g w pa be av sl sv pd cd st le ap pl wy) (by omega) (by decide) dX8_partner_11 ?_
      refine zt_i hn ?_
      refine zb_ge (x := i) (y := n) (tgt := 61) hx hb dX8_partner_12 (by decide) (by omega) (by omega) (fun c_12 => ?_) (fun c_12 => ?_)
      · refine lv_bipush (v := (-6)) hx hb dX8_partner_61 (by decide +kernel) ?_
        exact zr_si hx hb hr hlocks (by rw [show n = i by omega, hno]; rfl) dX8_partner_63
      · refine lv_aload_n hx hb dX8_partner_15 rfl (lv_at hl 1 rfl) ?_
        refine lv_iload hx hb dX8_partner_16 (lv_at hl 0 rfl) ?_
        refine lv_iconst (v := 1) hx hb dX8_partner_18 (by decide +kernel) ?_
        refine zc_se (va_runV (As := [.int (nI i), .int 1]) (rest := []) ⟨hx, hb, hml, hown, hts⟩ (c_X8_its l V g w pa be av sl sv pd cd st le ap pl wy i 1 (by omega)) (cwV 2 hts (zgV_ wsM_all uM_16 uM_18 uM_19 uM_20 uM_21) rfl rfl rfl (by decide +kernel) ⟨Nat.le_of_ble_eq_true rfl, Nat.le_of_ble_eq_true rfl⟩) (zPreV (B := fun H => va_P V.1 vwCl (zmW V g w pa be av sl sv pd cd st le ap pl wy) H) hP hE (va_recv hE.1 hP (ci := 8) (q0 := 0) (q := (RX8, TX8, 13)) rfl (zm_c0 V g w pa be av sl sv pd cd st le ap pl wy))) rfl rfl hl.1 rfl (lv_room (Nat.le_of_ble_eq_true rfl)) dX8_partner_19 ⟨Nat.le_of_ble_eq_true rfl, Nat.le_of_ble_eq_true rfl⟩) ?_
        refine lv_iload_n hx hb dX8_partner_22 rfl (lv_at hl 2 rfl) ?_
        refine lv_icmp_ne (tgt := 55) hx hb dX8_partner_23 (by decide) (fun c_23 => ?_) (fun c_23 => ?_)
        · refine lv_iinc (v := nI (i + 1)) (lv' := [(4, .int (nI (i + 1))), (0, .ref (g 0)), (1, .int wr), (2, .int d), (3, .int mm)]) hx hb dX8_partner_55 hl (k := 0) rfl (z_inc1 i) (by decide) rfl (fun ls hl => ?_)
          refine lv_goto (tgt := 3) hx hb dX8_partner_58 (by decide) ?_
          exact ih (i + 1) ls (by omega) (by omega) (zFirst_no hno (by first | exact decide_eq_false (fun h => c_23 h.1) | exact decide_eq_false (fun h => c_35 h.2.1) | exact decide_eq_false (fun h => z_lt' c_49 h.2.2))) (lv_sub hl [0, 1, 2, 3, 4] rfl)
        · refine lv_aload_n hx hb dX8_partner_26 rfl (lv_at hl 1 rfl) ?_
          refine lv_iload hx hb dX8_partner_27 (lv_at hl 0 rfl) ?_
          refine zc_se (va_runV (As := [.int (nI i)]) (rest := []) ⟨hx, hb, hml, hown, hts⟩ (c_X8_lastOf l V g w pa be av sl sv pd cd st le ap pl wy i (by omega)) (cwV 1 hts (zgV_ wsM_all uM_17 uM_74 uM_75 uM_76 uM_21) rfl rfl rfl (by decide +kernel) ⟨Nat.le_of_ble_eq_true rfl, Nat.le_of_ble_eq_true rfl⟩) (zPreV (B := fun H => va_P V.1 vwCl (zmW V g w pa be av sl sv pd cd st le ap pl wy) H) hP hE (va_recv hE.1 hP (ci := 8) (q0 := 0) (q := (RX8, TX8, 13)) rfl (zm_c0 V g w pa be av sl sv pd cd st le ap pl wy))) rfl rfl hl.1 rfl (lv_room (Nat.le_of_ble_eq_true rfl)) dX8_partner_29 ⟨Nat.le_of_ble_eq_true rfl, Nat.le_of_ble_eq_true rfl⟩) ?_
          refine lv_iload_n hx hb dX8_partner_32 rfl (lv_at hl 3 rfl) ?_
          refine lv_iconst (v := 1) hx hb dX8_partner_33 (by decide +kernel) ?_
          refine lv_isub hx hb dX8_partner_34 ?_
          refine lv_icmp_ne (tgt := 55) hx hb dX8_partner_35 (by decide) (fun c_35 => ?_) (fun c_35 => ?_)
          · refine lv_iinc (v := nI (i + 1)) (lv' := [(4, .int (nI (i + 1))), (0, .ref (g 0)), (1, .int wr), (2, .int d), (3, .int mm)]) hx hb dX8_partner_55 hl (k := 0) rfl (z_inc1 i) (by decide) rfl (fun ls hl => ?_)
            refine lv_goto (tgt := 3) hx hb dX8_partner_58 (by decide) ?_
            exact ih (i + 1) ls (by omega) (by omega) (zFirst_no hno (by first | exact decide_eq_false (fun h => c_23 h.1) | exact decide_eq_false (fun h => c_35 h.2.1) | exact decide_eq_false (fun h => z_lt' c_49 h.2.2))) (lv_sub hl [0, 1, 2, 3, 4] rfl)
          · refine lv_aload_n hx hb dX8_partner_38 rfl (lv_at hl 1 rfl) ?_
            refine lv_iload hx hb dX8_partner_39 (lv_at hl 0 rfl) ?_
            refine lv_iconst (v := 3) hx hb dX8_partner_41 (by decide +kernel) ?_
            refine zc_se (va_runV (As := [.int (nI i), .int 3]) (rest := []) ⟨hx, hb, hml, hown, hts⟩ (c_X8_its l V g w pa be av sl sv pd cd st le ap pl wy i 3 (by omega)) (cwV 2 hts (zgV_ wsM_all uM_16 uM_18 uM_19 uM_20 uM_21) rfl rfl rfl (by decide +kernel) ⟨Nat.le_of_ble_eq_true rfl, Nat.le_of_ble_eq_true rfl⟩) (zPreV (B := fun H => va_P V.1 vwCl (zmW V g w pa be av sl sv pd cd st le ap pl wy) H) hP hE (va_recv hE.1 hP (ci := 8) (q0 := 0) (q := (RX8, TX8, 13)) rfl (zm_c0 V g w pa be av sl sv pd cd st le ap pl wy))) rfl rfl hl.1 rfl (lv_room (Nat.le_of_ble_eq_true rfl)) dX8_partner_42 ⟨Nat.le_of_ble_eq_true rfl, Nat.le_of_ble_eq_true rfl⟩) ?_
            refine lv_iload_n hx hb dX8_partner_45 rfl (lv_at hl 4 rfl) ?_
            refine lv_iadd hx hb dX8_partner_46 ?_
            refine lv_bipush (v := 9) hx hb dX8_partner_47 (by decide +kernel) ?_
            refine lv_icmp_gt (tgt := 55) hx hb dX8_partner_49 (by decide) (fun c_49 => ?_) (fun c_49 => ?_)
            · refine lv_iinc (v := nI (i + 1)) (lv' := [(4, .int (nI (i + 1))), (0, .ref (g 0)), (1, .int wr), (2, .int d), (3, .int mm)]) hx hb dX8_partner_55 hl (k := 0) rfl (z_inc1 i) (by decide) rfl (fun ls hl => ?_)
              refine lv_goto (tgt := 3) hx hb dX8_partner_58 (by decide) ?_
              exact ih (i + 1) ls (by omega) (by omega) (zFirst_no hno (by first | exact decide_eq_false (fun h => c_23 h.1) | exact decide_eq_false (fun h => c_35 h.2.1) | exact decide_eq_false (fun h => z_lt' c_49 h.2.2))) (lv_sub hl [0, 1, 2, 3, 4] rfl)
            · refine lv_iload hx hb dX8_partner_52 (lv_at hl 0 rfl) ?_
              exact zr_si hx hb hr hlocks (by rw [mPart, zFirst_hit hno (decide_eq_true ⟨c_23, c_35, z_nlt c_49⟩) (by omega)]; rfl) dX8_partner_54
  exact L_3 (n + 1) 0 ls (by omega) (by omega) rfl (lv_sub hl [0, 1, 2, 3, 4] rfl)
def mLeast (x : Int32) : Int32 := if x = 4 then 0 else 1
def mMost (x : Int32) : Int32 := if x < 2 then 999 else if x = 2 then 16 else if x = 5 then 20 else 9
theorem z_lg {ago : Int32} {e : Nat} (he : e ≤ 20) (h : 0 ≤ ago ∧ ago ≤ nI e - 1) : ∃ j : Nat, ago = nI j ∧ j < e := by
  obtain ⟨h1, h2⟩ := h
  have h3 : (nI e - nI 1).toInt = (e : Int) - (1 : Nat) := pk_sub_toInt (by omega) (by decide)
  rw [Int32.le_iff_toInt_le, show nI e - 1 = nI e - nI 1 from rfl, h3] at h2
  obtain ⟨j, hj, rfl⟩ := nI_of (x := ago) (z_le' h1)
  rw [nI_toInt hj] at h2
  exact ⟨j, rfl, by omega⟩
set_option maxHeartbeats 4000000 in
set_option maxRecDepth 100000 in
theorem c_X8_leastOf (l : Launch) (V : zV) (x : Int32) : Met l yX8_leastOf wsX8_leastOf (zR 0 0 0) (zPc V [.int x] (fun H => True)) (vp_Si (fun r => r = (mLeast x))) 0 0 (fun _ => False) := by
  refine Met.ofW (cc := cX8_leastOf) (maxL := 1) (ret := (some .int)) (by decide) rfl ?_
  intro p e s m args below meth c s₁ B hml hv
  obtain ⟨rfl, hP, hE⟩ := hv
  have hx := B.exec
  have hb := B.bytes
  have hr := B.returns
  have hts := atoms_spec (ws := wsX8_leastOf) B.pre
  have hown : s.vm.findClass RX8 = some m.cls := findClass_of_methodNamed B.named
  have hlocks := B.notSynchronized
  have hl := lv_entry ([.int x]) (n := 1) (Nat.le_of_ble_eq_true rfl)
  rw [lg_entry_eq]
  generalize (lg_sl ([.int x]) ++ List.replicate (1 - (lg_sl ([.int x])).length) Slot.unset).toArray = ls at hl ⊢
  have hl : lv_has ls 1 [(0, .int x)] := hl
  refine lv_iload_n hx hb dX8_leastOf_0 rfl (lv_at hl 0 rfl) ?_
  refine lv_iconst (v := 4) hx hb dX8_leastOf_1 (by decide +kernel) ?_
  refine lv_icmp_ne (tgt := 9) hx hb dX8_leastOf_2 (by decide) (fun c_2 => ?_) (fun c_2 => ?_)
  · refine lv_iconst (v := 1) hx hb dX8_leastOf_9 (by decide +kernel) ?_
    exact zr_si hx hb hr hlocks (by first | exact (if_neg c_2).symm | exact (if_pos c_2).symm) dX8_leastOf_10
  · refine lv_iconst (v := 0) hx hb dX8_leastOf_5 (by decide +kernel) ?_
    refine lv_goto (tgt := 10) hx hb dX8_leastOf_6 (by decide) ?_
    exact zr_si hx hb hr hlocks (by first | exact (if_neg c_2).symm | exact (if_pos c_2).symm) dX8_leastOf_10
set_option maxHeartbeats 4000000 in
set_option maxRecDepth 100000 in
theorem c_X8_mostOf (l : Launch) (V : zV) (x : Int32) : Met l yX8_mostOf wsX8_mostOf (zR 0 0 0) (zPc V [.int x] (fun H => True)) (vp_Si (fun r => r = (mMost x))) 0 0 (fun _ => False) := by
  refine Met.ofW (cc := cX8_mostOf) (maxL := 1) (ret := (some .int)) (by decide) rfl ?_
  intro p e s m args below meth c s₁ B hml hv
  obtain ⟨rfl, hP, hE⟩ := hv
  have hx := B.exec
  have hb := B.bytes
  have hr := B.returns
  have hts := atoms_spec (ws := wsX8_mostOf) B.pre
  have hown : s.vm.findClass RX8 = some m.cls := findClass_of_methodNamed B.named
  have hlocks := B.notSynchronized
  have hl := lv_entry ([.int x]) (n := 1) (Nat.le_of_ble_eq_true rfl)
  rw [lg_entry_eq]
  generalize (lg_sl ([.int x]) ++ List.replicate (1 - (lg_sl ([.int x])).length) Slot.unset).toArray = ls at hl ⊢
  have hl : lv_has ls 1 [(0, .int x)] := hl
  refine lv_iload_n hx hb dX8_mostOf_0 rfl (lv_at hl 0 rfl) ?_
  refine lv_iconst (v := 2) hx hb dX8_mostOf_1 (by decide +kernel) ?_
  refine lv_icmp_ge (tgt := 11) hx hb dX8_mostOf_2 (by decide) (fun c_2 => ?_) (fun c_2 => ?_)
  · refine lv_iload_n hx hb dX8_mostOf_11 rfl (lv_at hl 0 rfl) ?_
    refine lv_iconst (v := 2) hx hb dX8_mostOf_12 (by decide +kernel) ?_
    refine lv_icmp_ne (tgt := 21) hx hb dX8_mostOf_13 (by decide) (fun c_13 => ?_) (fun c_13 => ?_)
    · refine lv_iload_n hx hb dX8_mostOf_21 rfl (lv_at hl 0 rfl) ?_
      refine lv_iconst (v := 5) hx hb dX8_mostOf_22 (by decide +kernel) ?_
      refine lv_icmp_ne (tgt := 31) hx hb dX8_mostOf_23 (by decide) (fun c_23 => ?_) (fun c_23 => ?_)
      · refine lv_bipush (v := 9) hx hb dX8_mostOf_31 (by decide +kernel) ?_
        exact zr_si hx hb hr hlocks (by first | exact (if_pos (z_nle c_2)).symm | exact ((if_neg (z_le' c_2)).trans (if_pos c_13)).symm | exact ((if_neg (z_le' c_2)).trans ((if_neg c_13).trans (if_pos c_23))).symm | exact ((if_neg (z_le' c_2)).trans ((if_neg c_13).trans (if_neg c_23))).symm) dX8_mostOf_33
      · refine lv_bipush (v := 20) hx hb dX8_mostOf_26 (by decide +kernel) ?_
        refine lv_goto (tgt := 33) hx hb dX8_mostOf_28 (by decide) ?_
        exact zr_si hx hb hr hlocks (by first | exact (if_pos (z_nle c_2)).symm | exact ((if_neg (z_le' c_2)).trans (if_pos c_13)).symm | exact ((if_neg (z_le' c_2)).trans ((if_neg c_13).trans (if_pos c_23))).symm | exact ((if_neg (z_le' c_2)).trans ((if_neg c_13).trans (if_neg c_23))).symm) dX8_mostOf_33
    · refine lv_bipush (v := 16) hx hb dX8_mostOf_16 (by decide +kernel) ?_
      refine lv_goto (tgt := 33) hx hb dX8_mostOf_18 (by decide) ?_
      exact zr_si hx hb hr hlocks (by first | exact (if_pos (z_nle c_2)).symm | exact ((if_neg (z_le' c_2)).trans (if_pos c_13)).symm | exact ((if_neg (z_le' c_2)).trans ((if_neg c_13).trans (if_pos c_23))).symm | exact ((if_neg (z_le' c_2)).trans ((if_neg c_13).trans (if_neg c_23))).symm) dX8_mostOf_33
  · refine lv_sipush (v := 999) hx hb dX8_mostOf_5 (by decide +kernel) ?_
    refine lv_goto (tgt := 33) hx hb dX8_mostOf_8 (by decide) ?_
    exact zr_si hx hb hr hlocks (by first | exact (if_pos (z_nle c_2)).symm | exact ((if_neg (z_le' c_2)).trans (if_pos c_13)).symm | exact ((if_neg (z_le' c_2)).trans ((if_neg c_13).trans (if_pos c_23))).symm | exact ((if_neg (z_le' c_2)).trans ((if_neg c_13).trans (if_neg c_23))).symm) dX8_mostOf_33
set_option maxHeartbeats 4000000 in
set_option maxRecDepth 100000 in
theorem c_X8_sees (l : Launch) (V : zV) (g : Nat → Nat) (w pa be av sl sv pd cd : Nat → Int32) (st le ap pl wy : Int32) (a n : Nat) (lo hi : Int32) (hap : ap = nI a) (hle : le = nI n) (h80 : n ≤ 80) (ha : a < 2 ^ 31) : Met l yX8_sees wsX8_sees (zR 1 0 0) (zPc V [.ref (g 0), .int lo, .int hi] (fun H => va_P V.1 vwCl (zmW V g w pa be av sl sv pd cd st le ap pl wy) H)) (vp_Si (fun r => r = (if a < n ∧ (lo ≤ pd a ∧ pd a ≤ hi) then 1 else 0))) 0 0 (fun _ => False) := by
  refine Met.ofW (cc := cX8_sees) (maxL := 3) (ret := (some .boolean)) (by decide) rfl ?_
  intro p e s m args below meth c s₁ B hml hv
  obtain ⟨rfl, hP, hE⟩ := hv
  have hx := B.exec
  have hb := B.bytes
  have hr := B.returns
  have hts := atoms_spec (ws := wsX8_sees) B.pre
  have hown : s.vm.findClass RX8 = some m.cls := findClass_of_methodNamed B.named
  have hlocks := B.notSynchronized
  have hl := lv_entry ([.ref (g 0), .int lo, .int hi]) (n := 3) (Nat.le_of_ble_eq_true rfl)
  rw [lg_entry_eq]
  generalize (lg_sl ([.ref (g 0), .int lo, .int hi]) ++ List.replicate (3 - (lg_sl ([.ref (g 0), .int lo, .int hi])).length) Slot.unset).toArray = ls at hl ⊢
  have hl : lv_has ls 3 [(0, .ref (g 0)), (1, .int lo), (2, .int hi)] := hl
  subst hap
  subst hle
  refine lv_aload_n hx hb dX8_sees_0 rfl (lv_at hl 0 rfl) ?_
  refine zm_get 9 (.int (nI a)) hx hb hts (fun x h => List.mem_cons_of_mem _ (hU_X8 x h)) hown hE hP (by decide) rfl (hts _ (List.mem_cons_of_mem _ uM_143)) (fun _ h9 => h9) dX8_sees_1 ?_
  refine lv_aload_n hx hb dX8_sees_4 rfl (lv_at hl 0 rfl) ?_
  refine zm_get 8 (.int (nI n)) hx hb hts (fun x h => List.mem_cons_of_mem _ (hU_X8 x h)) hown hE hP (by decide) rfl (hts _ (List.mem_cons_of_mem _ uM_134)) (fun _ h9 => h9) dX8_sees_5 ?_
  refine zb_ge (x := a) (y := n) (tgt := 33) hx hb dX8_sees_8 (by decide) (by omega) (by omega) (fun c_8 => ?_) (fun c_8 => ?_)
  · refine lv_iconst (v := 0) hx hb dX8_sees_33 (by decide +kernel) ?_
    exact zr_sz hx hb hr hlocks (by first | exact Or.inl rfl | exact Or.inr rfl | assumption) (by first | exact (if_neg (fun h => absurd h.1 (by omega))).symm | exact (if_pos ⟨c_8, c_26⟩).symm | exact (if_neg (fun h => c_26 h.2)).symm) dX8_sees_34
  · refine lv_aload_n hx hb dX8_sees_11 rfl (lv_at hl 0 rfl) ?_
    refine zm_get 7 (.ref (g 7)) hx hb hts (fun x h => List.mem_cons_of_mem _ (hU_X8 x h)) hown hE hP (by decide) rfl (hts _ (List.mem_cons_of_mem _ uM_12)) (fun _ h9 => h9) dX8_sees_12 ?_
    refine lv_aload_n hx hb dX8_sees_15 rfl (lv_at hl 0 rfl) ?_
    refine zm_get 9 (.int (nI a)) hx hb hts (fun x h => List.mem_cons_of_mem _ (hU_X8 x h)) hown hE hP (by decide) rfl (hts _ (List.mem_cons_of_mem _ uM_143)) (fun _ h9 => h9) dX8_sees_16 ?_
    refine z_iald (k := a) hx hb hE hP 7 (zm_c7 V g w pa be av sl sv pd cd st (nI n) (nI a) pl wy) (by omega) (by decide) dX8_sees_19 ?_
    refine lv_i2l (v := (pd a).toInt64) hx hb dX8_sees_20 rfl ?_
    refine lv_iload_n hx hb dX8_sees_21 rfl (lv_at hl 1 rfl) ?_
    refine lv_iload_n hx hb dX8_sees_22 rfl (lv_at hl 2 rfl) ?_
    refine zc_se (va_runS (As := [.long ((pd a).toInt64), .int lo, .int hi]) (rest := []) ⟨hx, hb, hml, hown, hts⟩ (c_X8_in l V (pd a) lo hi) (va_cwS 3 hts (zgS_ wsM_all uM_14 uM_29 uM_30 uM_21) rfl rfl rfl (by decide +kernel) ⟨Nat.le_of_ble_eq_true rfl, Nat.le_of_ble_eq_true rfl⟩) (zPreS (B := fun _ => True) trivial hE) rfl rfl hl.1 rfl (lv_room (Nat.le_of_ble_eq_true rfl)) dX8_sees_23 ⟨Nat.le_of_ble_eq_true rfl, Nat.le_of_ble_eq_true rfl⟩) ?_
    refine zbp_eq (P := lo ≤ pd a ∧ pd a ≤ hi) (tgt := 33) hx hb dX8_sees_26 (by decide) (fun c_26 => ?_) (fun c_26 => ?_)
    · refine lv_iconst (v := 0) hx hb dX8_sees_33 (by decide +kernel) ?_
      exact zr_sz hx hb hr hlocks (by first | exact Or.inl rfl | exact Or.inr rfl | assumption) (by first | exact (if_neg (fun h => absurd h.1 (by omega))).symm | exact (if_pos ⟨c_8, c_26⟩).symm | exact (if_neg (fun h => c_26 h.2)).symm) dX8_sees_34
    · refine lv_iconst (v := 1) hx hb dX8_sees_29 (by decide +kernel) ?_
      refine lv_goto (tgt := 34) hx hb dX8_sees_30 (by decide) ?_
      exact zr_sz hx hb hr hlocks (by first | exact Or.inl rfl | exact Or.inr rfl | assumption) (by first | exact (if_neg (fun h => absurd h.1 (by omega))).symm | exact (if_pos ⟨c_8, c_26⟩).symm | exact (if_neg (fun h => c_26 h.2)).symm) dX8_sees_34
set_option maxHeartbeats 4000000 in
set_option maxRecDepth 100000 in
theorem c_X8_rank (l : Launch) (V : zV) (g : Nat → Nat) (w pa be av sl sv pd cd : Nat → Int32) (st le ap pl wy : Int32) (n k : Nat) (hn : w 7 = nI n) (h30 : n ≤ 30) (hk : k < 30) : Met l yX8_rank wsX8_rank (zR 1 0 0) (zPc V [.ref (g 0), .int (nI k)] (fun H => va_P V.1 vwCl (zmW V g w pa be av sl sv pd cd st le ap pl wy) H)) (vp_Si (fun r => r = (nI (mRank w n k)))) 0 0 (fun _ => False) := by
  refine Met.ofW (cc := cX8_rank) (maxL := 5) (ret := (some .int)) (by decide) rfl ?_
  intro p e s m args below meth c s₁ B hml hv
  obtain ⟨rfl, hP, hE⟩ := hv
  have hx := B.exec
  have hb := B.bytes
  have hr := B.returns
  have hts := atoms_spec (ws := wsX8_rank) B.pre
  have hown : s.vm.findClass RX8 = some m.cls := findClass_of_methodNamed B.named
  have hlocks := B.notSynchronized
  have hl := lv_entry ([.ref (g 0), .int (nI k)]) (n := 5) (Nat.le_of_ble_eq_true rfl)
  rw [lg_entry_eq]
  generalize (lg_sl ([.ref (g 0), .int (nI k)]) ++ List.replicate (5 - (lg_sl ([.ref (g 0), .int (nI k)])).length) Slot.unset).toArray = ls at hl ⊢
  have hl : lv_has ls 5 [(0, .ref (g 0)), (1, .int (nI k))] := hl
  refine lv_iconst (v := 0) hx hb dX8_rank_0 (by decide +kernel) ?_
  refine lv_istore_n (lv' := [(2, .int 0), (0, .ref (g 0)), (1, .int (nI k))]) hx hb dX8_rank_1 rfl hl (by decide) rfl (fun ls hl => ?_)
  refine lv_iconst (v := 0) hx hb dX8_rank_2 (by decide +kernel) ?_
  refine lv_istore_n (lv' := [(3, .int 0), (2, .int 0), (0, .ref (g 0)), (1, .int (nI k))]) hx hb dX8_rank_3 rfl hl (by decide) rfl (fun ls hl => ?_)
  have L_4 : ∀ (n_ i : Nat) (ls : Array Slot), i ≤ n → n + 1 ≤ i + n_ → lv_has ls 5 [(3, .int (nI i)), (2, .int (nI (mRank w i k))), (0, .ref (g 0)), (1, .int (nI k))] → W p l e (headSpec wsX8_rank (zR 1 0 0)).room s m (List.toArray [.ref (g 0), .int (nI k)]) below meth c s.heap [] 0 0 (MQ below (vp_Si (fun r => r = (nI (mRank w n k)))) (List.toArray [.ref (g 0), .int (nI k)]) s 0 0 (fun _ => False)) (F0 m 4 ls []) := by
    intro n_
    induction n_ with
    | zero => intro i   ls hi_ hn_; exact absurd hn_ (by omega)
    | succ n_ ih =>
      intro i   ls hi_ hn_   hl
      refine lv_iload_n hx hb dX8_rank_4 rfl (lv_at hl 0 rfl) ?_
      refine lv_aload_n hx hb dX8_rank_5 rfl (lv_at hl 2 rfl) ?_
      refine zm_get 0 (.ref (g 1)) hx hb hts (fun x h => List.mem_cons_of_mem _ (hU_X8 x h)) hown hE hP (by decide) rfl (hts _ (List.mem_cons_of_mem _ uM_5)) (fun _ h9 => h9) dX8_rank_6 ?_
      refine lv_bipush (v := 7) hx hb dX8_rank_9 (by decide +kernel) ?_
      refine z_iald (k := 7) hx hb hE hP 1 (zm_c1 V g w pa be av sl sv pd cd st le ap pl wy) (by omega) (by decide) dX8_rank_11 ?_
      refine zt_i hn ?_
      refine zb_ge (x := i) (y := n) (tgt := 91) hx hb dX8_rank_12 (by decide) (by omega) (by omega) (fun c_12 => ?_) (fun c_12 => ?_)
      · refine lv_iload_n hx hb dX8_rank_91 rfl (lv_at hl 1 rfl) ?_
        exact zr_si hx hb hr hlocks (by rw [show n = i by omega]) dX8_rank_92
      · refine lv_aload_n hx hb dX8_rank_15 rfl (lv_at hl 2 rfl) ?_
        refine lv_iload_n hx hb dX8_rank_16 rfl (lv_at hl 0 rfl) ?_
        refine lv_iconst (v := 2) hx hb dX8_rank_17 (by decide +kernel) ?_
        refine zc_se (va_runV (As := [.int (nI i), .int 2]) (rest := []) ⟨hx, hb, hml, hown, hts⟩ (c_X8_its l V g w pa be av sl sv pd cd st le ap pl wy i 2 (by omega)) (cwV 2 hts (zgV_ wsM_all uM_16 uM_18 uM_19 uM_20 uM_21) rfl rfl rfl (by decide +kernel) ⟨Nat.le_of_ble_eq_true rfl, Nat.le_of_ble_eq_true rfl⟩) (zPreV (B := fun H => va_P V.1 vwCl (zmW V g w pa be av sl sv pd cd st le ap pl wy) H) hP hE (va_recv hE.1 hP (ci := 8) (q0 := 0) (q := (RX8, TX8, 13)) rfl (zm_c0 V g w pa be av sl sv pd cd st le ap pl wy))) rfl rfl hl.1 rfl (lv_room (Nat.le_of_ble_eq_true rfl)) dX8_rank_18 ⟨Nat.le_of_ble_eq_true rfl, Nat.le_of_ble_eq_true rfl⟩) ?_
        refine lv_aload_n hx hb dX8_rank_21 rfl (lv_at hl 2 rfl) ?_
        refine lv_iload_n hx hb dX8_rank_22 rfl (lv_at hl 3 rfl) ?_
        refine lv_iconst (v := 2) hx hb dX8_rank_23 (by decide +kernel) ?_
        refine zc_se (va_runV (As := [.int (nI k), .int 2]) (rest := [.int (zF w i 2)]) ⟨hx, hb, hml, hown, hts⟩ (c_X8_its l V g w pa be av sl sv pd cd st le ap pl wy k 2 (by omega)) (cwV 2 hts (zgV_ wsM_all uM_16 uM_18 uM_19 uM_20 uM_21) rfl rfl rfl (by decide +kernel) ⟨Nat.le_of_ble_eq_true rfl, Nat.le_of_ble_eq_true rfl⟩) (zPreV (B := fun H => va_P V.1 vwCl (zmW V g w pa be av sl sv pd cd st le ap pl wy) H) hP hE (va_recv hE.1 hP (ci := 8) (q0 := 0) (q := (RX8, TX8, 13)) rfl (zm_c0 V g w pa be av sl sv pd cd st le ap pl wy))) rfl rfl hl.1 rfl (lv_room (Nat.le_of_ble_eq_true rfl)) dX8_rank_24 ⟨Nat.le_of_ble_eq_true rfl, Nat.le_of_ble_eq_true rfl⟩) ?_
        refine lv_icmp_lt (tgt := 50) hx hb dX8_rank_27 (by decide) (fun c_27 => ?_) (fun c_27 => ?_)
        · refine lv_iconst (v := 1) hx hb dX8_rank_50 (by decide +kernel) ?_
          refine lv_goto (tgt := 55) hx hb dX8_rank_51 (by decide) ?_
          refine lv_istore (lv' := [(4, .int 1), (3, .int (nI i)), (2, .int (nI (mRank w i k))), (0, .ref (g 0)), (1, .int (nI k))]) hx hb dX8_rank_55 hl (by decide) rfl (fun ls hl => ?_)
          refine lv_iload_n hx hb dX8_rank_57 rfl (lv_at hl 2 rfl) ?_
          refine lv_aload_n hx hb dX8_rank_58 rfl (lv_at hl 3 rfl) ?_
          refine lv_iload_n hx hb dX8_rank_59 rfl (lv_at hl 1 rfl) ?_
          refine lv_iconst (v := 1) hx hb dX8_rank_60 (by decide +kernel) ?_
          refine zc_se (va_runV (As := [.int (nI i), .int 1]) (rest := [.int (nI (mRank w i k))]) ⟨hx, hb, hml, hown, hts⟩ (c_X8_its l V g w pa be av sl sv pd cd st le ap pl wy i 1 (by omega)) (cwV 2 hts (zgV_ wsM_all uM_16 uM_18 uM_19 uM_20 uM_21) rfl rfl rfl (by decide +kernel) ⟨Nat.le_of_ble_eq_true rfl, Nat.le_of_ble_eq_true rfl⟩) (zPreV (B := fun H => va_P V.1 vwCl (zmW V g w pa be av sl sv pd cd st le ap pl wy) H) hP hE (va_recv hE.1 hP (ci := 8) (q0 := 0) (q := (RX8, TX8, 13)) rfl (zm_c0 V g w pa be av sl sv pd cd st le ap pl wy))) rfl rfl hl.1 rfl (lv_room (Nat.le_of_ble_eq_true rfl)) dX8_rank_61 ⟨Nat.le_of_ble_eq_true rfl, Nat.le_of_ble_eq_true rfl⟩) ?_
          refine lv_aload_n hx hb dX8_rank_64 rfl (lv_at hl 3 rfl) ?_
          refine lv_iload_n hx hb dX8_rank_65 rfl (lv_at hl 4 rfl) ?_
          refine lv_iconst (v := 1) hx hb dX8_rank_66 (by decide +kernel) ?_
          refine zc_se (va_runV (As := [.int (nI k), .int 1]) (rest := [.int (zF w i 1), .int (nI (mRank w i k))]) ⟨hx, hb, hml, hown, hts⟩ (c_X8_its l V g w pa be av sl sv pd cd st le ap pl wy k 1 (by omega)) (cwV 2 hts (zgV_ wsM_all uM_16 uM_18 uM_19 uM_20 uM_21) rfl rfl rfl (by decide +kernel) ⟨Nat.le_of_ble_eq_true rfl, Nat.le_of_ble_eq_true rfl⟩) (zPreV (B := fun H => va_P V.1 vwCl (zmW V g w pa be av sl sv pd cd st le ap pl wy) H) hP hE (va_recv hE.1 hP (ci := 8) (q0 := 0) (q := (RX8, TX8, 13)) rfl (zm_c0 V g w pa be av sl sv pd cd st le ap pl wy))) rfl rfl hl.1 rfl (lv_room (Nat.le_of_ble_eq_true rfl)) dX8_rank_67 ⟨Nat.le_of_ble_eq_true rfl, Nat.le_of_ble_eq_true rfl⟩) ?_
          refine lv_icmp_ne (tgt := 82) hx hb dX8_rank_70 (by decide) (fun c_70 => ?_) (fun c_70 => ?_)
          · refine lv_iconst (v := 0) hx hb dX8_rank_82 (by decide +kernel) ?_
            refine lv_iadd hx hb dX8_rank_83 ?_
            refine zt_i (z_add (a := mRank w i k) (b := 0) (by first | rfl | omega)) ?_
            refine lv_istore_n (lv' := [(2, .int (nI (mRank w i k))), (4, .int 1), (3, .int (nI i)), (0, .ref (g 0)), (1, .int (nI k))]) hx hb dX8_rank_84 rfl hl (by decide) rfl (fun ls hl => ?_)
            refine lv_iinc (v := nI (i + 1)) (lv' := [(3, .int (nI (i + 1))), (2, .int (nI (mRank w i k))), (4, .int 1), (0, .ref (g 0)), (1, .int (nI k))]) hx hb dX8_rank_85 hl (k := 2) rfl (z_inc1 i) (by decide) rfl (fun ls hl => ?_)
            refine lv_goto (tgt := 4) hx hb dX8_rank_88 (by decide) ?_
            have e_ : mRank w i k = mRank w (i + 1) k := by
              first
                | exact zCnt_y (decide_eq_true ⟨c_70, Or.inl c_27⟩)
                | exact zCnt_y (decide_eq_true ⟨c_70, Or.inr ⟨c_42, c_47⟩⟩)
                | exact zCnt_n (decide_eq_false (fun h => c_70 h.1))
                | exact zCnt_n (decide_eq_false (fun h => h.2.elim c_27 (fun q => c_42 q.1)))
                | exact zCnt_n (decide_eq_false (fun h => h.2.elim c_27 (fun q => absurd q.2 (by omega))))
            rw [e_] at hl
            exact ih (i + 1) ls (by omega) (by omega) (lv_sub hl [0, 1, 3, 4] rfl)
          · refine lv_iload hx hb dX8_rank_73 (lv_at hl 0 rfl) ?_
            refine lv_if_eq (tgt := 82) hx hb dX8_rank_75 (by decide) (fun c_75 => ?_) (fun c_75 => ?_)
            · exact absurd c_75 (by decide +kernel)
            refine lv_iconst (v := 1) hx hb dX8_rank_78 (by decide +kernel) ?_
            refine lv_goto (tgt := 83) hx hb dX8_rank_79 (by decide) ?_
            refine lv_iadd hx hb dX8_rank_83 ?_
            refine zt_i (z_add (a := mRank w i k) (b := 1) (by first | rfl | omega)) ?_
            refine lv_istore_n (lv' := [(2, .int (nI (mRank w i k + 1))), (4, .int 1), (3, .int (nI i)), (0, .ref (g 0)), (1, .int (nI k))]) hx hb dX8_rank_84 rfl hl (by decide) rfl (fun ls hl => ?_)
            refine lv_iinc (v := nI (i + 1)) (lv' := [(3, .int (nI (i + 1))), (2, .int (nI (mRank w i k + 1))), (4, .int 1), (0, .ref (g 0)), (1, .int (nI k))]) hx hb dX8_rank_85 hl (k := 2) rfl (z_inc1 i) (by decide) rfl (fun ls hl => ?_)
            refine lv_goto (tgt := 4) hx hb dX8_rank_88 (by decide) ?_
            have e_ : mRank w i k + 1 = mRank w (i + 1) k := by
              first
                | exact zCnt_y (decide_eq_true ⟨c_70, Or.inl c_27⟩)
                | exact zCnt_y (decide_eq_true ⟨c_70, Or.inr ⟨c_42, c_47⟩⟩)
                | exact zCnt_n (decide_eq_false (fun h => c_70 h.1))
                | exact zCnt_n (decide_eq_false (fun h => h.2.elim c_27 (fun q => c_42 q.1)))
                | exact zCnt_n (decide_eq_false (fun h => h.2.elim c_27 (fun q => absurd q.2 (by omega))))
            rw [e_] at hl
            exact ih (i + 1) ls (by omega) (by omega) (lv_sub hl [0, 1, 3, 4] rfl)
        · refine lv_aload_n hx hb dX8_rank_30 rfl (lv_at hl 2 rfl) ?_
          refine lv_iload_n hx hb dX8_rank_31 rfl (lv_at hl 0 rfl) ?_
          refine lv_iconst (v := 2) hx hb dX8_rank_32 (by decide +kernel) ?_
          refine zc_se (va_runV (As := [.int (nI i), .int 2]) (rest := []) ⟨hx, hb, hml, hown, hts⟩ (c_X8_its l V g w pa be av sl sv pd cd st le ap pl wy i 2 (by omega)) (cwV 2 hts (zgV_ wsM_all uM_16 uM_18 uM_19 uM_20 uM_21) rfl rfl rfl (by decide +kernel) ⟨Nat.le_of_ble_eq_true rfl, Nat.le_of_ble_eq_true rfl⟩) (zPreV (B := fun H => va_P V.1 vwCl (zmW V g w pa be av sl sv pd cd st le ap pl wy) H) hP hE (va_recv hE.1 hP (ci := 8) (q0 := 0) (q := (RX8, TX8, 13)) rfl (zm_c0 V g w pa be av sl sv pd cd st le ap pl wy))) rfl rfl hl.1 rfl (lv_room (Nat.le_of_ble_eq_true rfl)) dX8_rank_33 ⟨Nat.le_of_ble_eq_true rfl, Nat.le_of_ble_eq_true rfl⟩) ?_
          refine lv_aload_n hx hb dX8_rank_36 rfl (lv_at hl 2 rfl) ?_
          refine lv_iload_n hx hb dX8_rank_37 rfl (lv_at hl 3 rfl) ?_
          refine lv_iconst (v := 2) hx hb dX8_rank_38 (by decide +kernel) ?_
          refine zc_se (va_runV (As := [.int (nI k), .int 2]) (rest := [.int (zF w i 2)]) ⟨hx, hb, hml, hown, hts⟩ (c_X8_its l V g w pa be av sl sv pd cd st le ap pl wy k 2 (by omega)) (cwV 2 hts (zgV_ wsM_all uM_16 uM_18 uM_19 uM_20 uM_21) rfl rfl rfl (by decide +kernel) ⟨Nat.le_of_ble_eq_true rfl, Nat.le_of_ble_eq_true rfl⟩) (zPreV (B := fun H => va_P V.1 vwCl (zmW V g w pa be av sl sv pd cd st le ap pl wy) H) hP hE (va_recv hE.1 hP (ci := 8) (q0 := 0) (q := (RX8, TX8, 13)) rfl (zm_c0 V g w pa be av sl sv pd cd st le ap pl wy))) rfl rfl hl.1 rfl (lv_room (Nat.le_of_ble_eq_true rfl)) dX8_rank_39 ⟨Nat.le_of_ble_eq_true rfl, Nat.le_of_ble_eq_true rfl⟩) ?_
          refine lv_icmp_ne (tgt := 54) hx hb dX8_rank_42 (by decide) (fun c_42 => ?_) (fun c_42 => ?_)
          · refine lv_iconst (v := 0) hx hb dX8_rank_54 (by decide +kernel) ?_
            refine lv_istore (lv' := [(4, .int 0), (3, .int (nI i)), (2, .int (nI (mRank w i k))), (0, .ref (g 0)), (1, .int (nI k))]) hx hb dX8_rank_55 hl (by decide) rfl (fun ls hl => ?_)
            refine lv_iload_n hx hb dX8_rank_57 rfl (lv_at hl 2 rfl) ?_
            refine lv_aload_n hx hb dX8_rank_58 rfl (lv_at hl 3 rfl) ?_
            refine lv_iload_n hx hb dX8_rank_59 rfl (lv_at hl 1 rfl) ?_
            refine lv_iconst (v := 1) hx hb dX8_rank_60 (by decide +kernel) ?_
            refine zc_se (va_runV (As := [.int (nI i), .int 1]) (rest := [.int (nI (mRank w i k))]) ⟨hx, hb, hml, hown, hts⟩ (c_X8_its l V g w pa be av sl sv pd cd st le ap pl wy i 1 (by omega)) (cwV 2 hts (zgV_ wsM_all uM_16 uM_18 uM_19 uM_20 uM_21) rfl rfl rfl (by decide +kernel) ⟨Nat.le_of_ble_eq_true rfl, Nat.le_of_ble_eq_true rfl⟩) (zPreV (B := fun H => va_P V.1 vwCl (zmW V g w pa be av sl sv pd cd st le ap pl wy) H) hP hE (va_recv hE.1 hP (ci := 8) (q0 := 0) (q := (RX8, TX8, 13)) rfl (zm_c0 V g w pa be av sl sv pd cd st le ap pl wy))) rfl rfl hl.1 rfl (lv_room (Nat.le_of_ble_eq_true rfl)) dX8_rank_61 ⟨Nat.le_of_ble_eq_true rfl, Nat.le_of_ble_eq_true rfl⟩) ?_
            refine lv_aload_n hx hb dX8_rank_64 rfl (lv_at hl 3 rfl) ?_
            refine lv_iload_n hx hb dX8_rank_65 rfl (lv_at hl 4 rfl) ?_
            refine lv_iconst (v := 1) hx hb dX8_rank_66 (by decide +kernel) ?_
            refine zc_se (va_runV (As := [.int (nI k), .int 1]) (rest := [.int (zF w i 1), .int (nI (mRank w i k))]) ⟨hx, hb, hml, hown, hts⟩ (c_X8_its l V g w pa be av sl sv pd cd st le ap pl wy k 1 (by omega)) (cwV 2 hts (zgV_ wsM_all uM_16 uM_18 uM_19 uM_20 uM_21) rfl rfl rfl (by decide +kernel) ⟨Nat.le_of_ble_eq_true rfl, Nat.le_of_ble_eq_true rfl⟩) (zPreV (B := fun H => va_P V.1 vwCl (zmW V g w pa be av sl sv pd cd st le ap pl wy) H) hP hE (va_recv hE.1 hP (ci := 8) (q0 := 0) (q := (RX8, TX8, 13)) rfl (zm_c0 V g w pa be av sl sv pd cd st le ap pl wy))) rfl rfl hl.1 rfl (lv_room (Nat.le_of_ble_eq_true rfl)) dX8_rank_67 ⟨Nat.le_of_ble_eq_true rfl, Nat.le_of_ble_eq_true rfl⟩) ?_
            refine lv_icmp_ne (tgt := 82) hx hb dX8_rank_70 (by decide) (fun c_70 => ?_) (fun c_70 => ?_)
            · refine lv_iconst (v := 0) hx hb dX8_rank_82 (by decide +kernel) ?_
              refine lv_iadd hx hb dX8_rank_83 ?_
              refine zt_i (z_add (a := mRank w i k) (b := 0) (by first | rfl | omega)) ?_
              refine lv_istore_n (lv' := [(2, .int (nI (mRank w i k))), (4, .int 0), (3, .int (nI i)), (0, .ref (g 0)), (1, .int (nI k))]) hx hb dX8_rank_84 rfl hl (by decide) rfl (fun ls hl => ?_)
              refine lv_iinc (v := nI (i + 1)) (lv' := [(3, .int (nI (i + 1))), (2, .int (nI (mRank w i k))), (4, .int 0), (0, .ref (g 0)), (1, .int (nI k))]) hx hb dX8_rank_85 hl (k := 2) rfl (z_inc1 i) (by decide) rfl (fun ls hl => ?_)
              refine lv_goto (tgt := 4) hx hb dX8_rank_88 (by decide) ?_
              have e_ : mRank w i k = mRank w (i + 1) k := by
                first
                  | exact zCnt_y (decide_eq_true ⟨c_70, Or.inl c_27⟩)
                  | exact zCnt_y (decide_eq_true ⟨c_70, Or.inr ⟨c_42, c_47⟩⟩)
                  | exact zCnt_n (decide_eq_false (fun h => c_70 h.1))
                  | exact zCnt_n (decide_eq_false (fun h => h.2.elim c_27 (fun q => c_42 q.1)))
                  | exact zCnt_n (decide_eq_false (fun h => h.2.elim c_27 (fun q => absurd q.2 (by omega))))
              rw [e_] at hl
              exact ih (i + 1) ls (by omega) (by omega) (lv_sub hl [0, 1, 3, 4] rfl)
            · refine lv_iload hx hb dX8_rank_73 (lv_at hl 0 rfl) ?_
              refine lv_if_eq (tgt := 82) hx hb dX8_rank_75 (by decide) (fun c_75 => ?_) (fun c_75 => ?_)
              rotate_left
              · exact absurd c_75 (by decide +kernel)
              refine lv_iconst (v := 0) hx hb dX8_rank_82 (by decide +kernel) ?_
              refine lv_iadd hx hb dX8_rank_83 ?_
              refine zt_i (z_add (a := mRank w i k) (b := 0) (by first | rfl | omega)) ?_
              refine lv_istore_n (lv' := [(2, .int (nI (mRank w i k))), (4, .int 0), (3, .int (nI i)), (0, .ref (g 0)), (1, .int (nI k))]) hx hb dX8_rank_84 rfl hl (by decide) rfl (fun ls hl => ?_)
              refine lv_iinc (v := nI (i + 1)) (lv' := [(3, .int (nI (i + 1))), (2, .int (nI (mRank w i k))), (4, .int 0), (0, .ref (g 0)), (1, .int (nI k))]) hx hb dX8_rank_85 hl (k := 2) rfl (z_inc1 i) (by decide) rfl (fun ls hl => ?_)
              refine lv_goto (tgt := 4) hx hb dX8_rank_88 (by decide) ?_
              have e_ : mRank w i k = mRank w (i + 1) k := by
                first
                  | exact zCnt_y (decide_eq_true ⟨c_70, Or.inl c_27⟩)
                  | exact zCnt_y (decide_eq_true ⟨c_70, Or.inr ⟨c_42, c_47⟩⟩)
                  | exact zCnt_n (decide_eq_false (fun h => c_70 h.1))
                  | exact zCnt_n (decide_eq_false (fun h => h.2.elim c_27 (fun q => c_42 q.1)))
                  | exact zCnt_n (decide_eq_false (fun h => h.2.elim c_27 (fun q => absurd q.2 (by omega))))
              rw [e_] at hl
              exact ih (i + 1) ls (by omega) (by omega) (lv_sub hl [0, 1, 3, 4] rfl)
          · refine lv_iload_n hx hb dX8_rank_45 rfl (lv_at hl 0 rfl) ?_
            refine lv_iload_n hx hb dX8_rank_46 rfl (lv_at hl 3 rfl) ?_
            refine zb_ge (x := i) (y := k) (tgt := 54) hx hb dX8_rank_47 (by decide) (by omega) (by omega) (fun c_47 => ?_) (fun c_47 => ?_)
            · refine lv_iconst (v := 0) hx hb dX8_rank_54 (by decide +kernel) ?_
              refine lv_istore (lv' := [(4, .int 0), (3, .int (nI i)), (2, .int (nI (mRank w i k))), (0, .ref (g 0)), (1, .int (nI k))]) hx hb dX8_rank_55 hl (by decide) rfl (fun ls hl => ?_)
              refine lv_iload_n hx hb dX8_rank_57 rfl (lv_at hl 2 rfl) ?_
              refine lv_aload_n hx hb dX8_rank_58 rfl (lv_at hl 3 rfl) ?_
              refine lv_iload_n hx hb dX8_rank_59 rfl (lv_at hl 1 rfl) ?_
              refine lv_iconst (v := 1) hx hb dX8_rank_60 (by decide +kernel) ?_
              refine zc_se (va_runV (As := [.int (nI i), .int 1]) (rest := [.int (nI (mRank w i k))]) ⟨hx, hb, hml, hown, hts⟩ (c_X8_its l V g w pa be av sl sv pd cd st le ap pl wy i 1 (by omega)) (cwV 2 hts (zgV_ wsM_all uM_16 uM_18 uM_19 uM_20 uM_21) rfl rfl rfl (by decide +kernel) ⟨Nat.le_of_ble_eq_true rfl, Nat.le_of_ble_eq_true rfl⟩) (zPreV (B := fun H => va_P V.1 vwCl (zmW V g w pa be av sl sv pd cd st le ap pl wy) H) hP hE (va_recv hE.1 hP (ci := 8) (q0 := 0) (q := (RX8, TX8, 13)) rfl (zm_c0 V g w pa be av sl sv pd cd st le ap pl wy))) rfl rfl hl.1 rfl (lv_room (Nat.le_of_ble_eq_true rfl)) dX8_rank_61 ⟨Nat.le_of_ble_eq_true rfl, Nat.le_of_ble_eq_true rfl⟩) ?_
              refine lv_aload_n hx hb dX8_rank_64 rfl (lv_at hl 3 rfl) ?_
              refine lv_iload_n hx hb dX8_rank_65 rfl (lv_at hl 4 rfl) ?_
              refine lv_iconst (v := 1) hx hb dX8_rank_66 (by decide +kernel) ?_
              refine zc_se (va_runV (As := [.int (nI k), .int 1]) (rest := [.int (zF w i 1), .int (nI (mRank w i k))]) ⟨hx, hb, hml, hown, hts⟩ (c_X8_its l V g w pa be av sl sv pd cd st le ap pl wy k 1 (by omega)) (cwV 2 hts (zgV_ wsM_all uM_16 uM_18 uM_19 uM_20 uM_21) rfl rfl rfl (by decide +kernel) ⟨Nat.le_of_ble_eq_true rfl, Nat.le_of_ble_eq_true rfl⟩) (zPreV (B := fun H => va_P V.1 vwCl (zmW V g w pa be av sl sv pd cd st le ap pl wy) H) hP hE (va_recv hE.1 hP (ci := 8) (q0 := 0) (q := (RX8, TX8, 13)) rfl (zm_c0 V g w pa be av sl sv pd cd st le ap pl wy))) rfl rfl hl.1 rfl (lv_room (Nat.le_of_ble_eq_true rfl)) dX8_rank_67 ⟨Nat.le_of_ble_eq_true rfl, Nat.le_of_ble_eq_true rfl⟩) ?_
              refine lv_icmp_ne (tgt := 82) hx hb dX8_rank_70 (by decide) (fun c_70 => ?_) (fun c_70 => ?_)
              · refine lv_iconst (v := 0) hx hb dX8_rank_82 (by decide +kernel) ?_
                refine lv_iadd hx hb dX8_rank_83 ?_
                refine zt_i (z_add (a := mRank w i k) (b := 0) (by first | rfl | omega)) ?_
                refine lv_istore_n (lv' := [(2, .int (nI (mRank w i k))), (4, .int 0), (3, .int (nI i)), (0, .ref (g 0)), (1, .int (nI k))]) hx hb dX8_rank_84 rfl hl (by decide) rfl (fun ls hl => ?_)
                refine lv_iinc (v := nI (i + 1)) (lv' := [(3, .int (nI (i + 1))), (2, .int (nI (mRank w i k))), (4, .int 0), (0, .ref (g 0)), (1, .int (nI k))]) hx hb dX8_rank_85 hl (k := 2) rfl (z_inc1 i) (by decide) rfl (fun ls hl => ?_)
                refine lv_goto (tgt := 4) hx hb dX8_rank_88 (by decide) ?_
                have e_ : mRank w i k = mRank w (i + 1) k := by
                  first
                    | exact zCnt_y (decide_eq_true ⟨c_70, Or.inl c_27⟩)
                    | exact zCnt_y (decide_eq_true ⟨c_70, Or.inr ⟨c_42, c_47⟩⟩)
                    | exact zCnt_n (decide_eq_false (fun h => c_70 h.1))
                    | exact zCnt_n (decide_eq_false (fun h => h.2.elim c_27 (fun q => c_42 q.1)))
                    | exact zCnt_n (decide_eq_false (fun h => h.2.elim c_27 (fun q => absurd q.2 (by omega))))
                rw [e_] at hl
                exact ih (i + 1) ls (by omega) (by omega) (lv_sub hl [0, 1, 3, 4] rfl)
              · refine lv_iload hx hb dX8_rank_73 (lv_at hl 0 rfl) ?_
                refine lv_if_eq (tgt := 82) hx hb dX8_rank_75 (by decide) (fun c_75 => ?_) (fun c_75 => ?_)
                rotate_left
                · exact absurd c_75 (by decide +kernel)
                refine lv_iconst (v := 0) hx hb dX8_rank_82 (by decide +kernel) ?_
                refine lv_iadd hx hb dX8_rank_83 ?_
                refine zt_i (z_add (a := mRank w i k) (b := 0) (by first | rfl | omega)) ?_
                refine lv_istore_n (lv' := [(2, .int (nI (mRank w i k))), (4, .int 0), (3, .int (nI i)), (0, .ref (g 0)), (1, .int (nI k))]) hx hb dX8_rank_84 rfl hl (by decide) rfl (fun ls hl => ?_)
                refine lv_iinc (v := nI (i + 1)) (lv' := [(3, .int (nI (i + 1))), (2, .int (nI (mRank w i k))), (4, .int 0), (0, .ref (g 0)), (1, .int (nI k))]) hx hb dX8_rank_85 hl (k := 2) rfl (z_inc1 i) (by decide) rfl (fun ls hl => ?_)
                refine lv_goto (tgt := 4) hx hb dX8_rank_88 (by decide) ?_
                have e_ : mRank w i k = mRank w (i + 1) k := by
                  first
                    | exact zCnt_y (decide_eq_true ⟨c_70, Or.inl c_27⟩)
                    | exact zCnt_y (decide_eq_true ⟨c_70, Or.inr ⟨c_42, c_47⟩⟩)
                    | exact zCnt_n (decide_eq_false (fun h => c_70 h.1))
                    | exact zCnt_n (decide_eq_false (fun h => h.2.elim c_27 (fun q => c_42 q.1)))
                    | exact zCnt_n (decide_eq_false (fun h => h.2.elim c_27 (fun q => absurd q.2 (by omega))))
                rw [e_] at hl
                exact ih (i + 1) ls (by omega) (by omega) (lv_sub hl [0, 1, 3, 4] rfl)
            · refine lv_iconst (v := 1) hx hb dX8_rank_50 (by decide +kernel) ?_
              refine lv_goto (tgt := 55) hx hb dX8_rank_51 (by decide) ?_
              refine lv_istore (lv' := [(4, .int 1), (3, .int (nI i)), (2, .int (nI (mRank w i k))), (0, .ref (g 0)), (1, .int (nI k))]) hx hb dX8_rank_55 hl (by decide) rfl (fun ls hl => ?_)
              refine lv_iload_n hx hb dX8_rank_57 rfl (lv_at hl 2 rfl) ?_
              refine lv_aload_n hx hb dX8_rank_58 rfl (lv_at hl 3 rfl) ?_
              refine lv_iload_n hx hb dX8_rank_59 rfl (lv_at hl 1 rfl) ?_
              refine lv_iconst (v := 1) hx hb dX8_rank_60 (by decide +kernel) ?_
              refine zc_se (va_runV (As := [.int (nI i), .int 1]) (rest := [.int (nI (mRank w i k))]) ⟨hx, hb, hml, hown, hts⟩ (c_X8_its l V g w pa be av sl sv pd cd st le ap pl wy i 1 (by omega)) (cwV 2 hts (zgV_ wsM_all uM_16 uM_18 uM_19 uM_20 uM_21) rfl rfl rfl (by decide +kernel) ⟨Nat.le_of_ble_eq_true rfl, Nat.le_of_ble_eq_true rfl⟩) (zPreV (B := fun H => va_P V.1 vwCl (zmW V g w pa be av sl sv pd cd st le ap pl wy) H) hP hE (va_recv hE.1 hP (ci := 8) (q0 := 0) (q := (RX8, TX8, 13)) rfl (zm_c0 V g w pa be av sl sv pd cd st le ap pl wy))) rfl rfl hl.1 rfl (lv_room (Nat.le_of_ble_eq_true rfl)) dX8_rank_61 ⟨Nat.le_of_ble_eq_true rfl, Nat.le_of_ble_eq_true rfl⟩) ?_
              refine lv_aload_n hx hb dX8_rank_64 rfl (lv_at hl 3 rfl) ?_
              refine lv_iload_n hx hb dX8_rank_65 rfl (lv_at hl 4 rfl) ?_
              refine lv_iconst (v := 1) hx hb dX8_rank_66 (by decide +kernel) ?_
              refine zc_se (va_runV (As := [.int (nI k), .int 1]) (rest := [.int (zF w i 1), .int (nI (mRank w i k))]) ⟨hx, hb, hml, hown, hts⟩ (c_X8_its l V g w pa be av sl sv pd cd st le ap pl wy k 1 (by omega)) (cwV 2 hts (zgV_ wsM_all uM_16 uM_18 uM_19 uM_20 uM_21) rfl rfl rfl (by decide +kernel) ⟨Nat.le_of_ble_eq_true rfl, Nat.le_of_ble_eq_true rfl⟩) (zPreV (B := fun H => va_P V.1 vwCl (zmW V g w pa be av sl sv pd cd st le ap pl wy) H) hP hE (va_recv hE.1 hP (ci := 8) (q0 := 0) (q := (RX8, TX8, 13)) rfl (zm_c0 V g w pa be av sl sv pd cd st le ap pl wy))) rfl rfl hl.1 rfl (lv_room (Nat.le_of_ble_eq_true rfl)) dX8_rank_67 ⟨Nat.le_of_ble_eq_true rfl, Nat.le_of_ble_eq_true rfl⟩) ?_
              refine lv_icmp_ne (tgt := 82) hx hb dX8_rank_70 (by decide) (fun c_70 => ?_) (fun c_70 => ?_)
              · refine lv_iconst (v := 0) hx hb dX8_rank_82 (by decide +kernel) ?_
                refine lv_iadd hx hb dX8_rank_83 ?_
                refine zt_i (z_add (a := mRank w i k) (b := 0) (by first | rfl | omega)) ?_
                refine lv_istore_n (lv' := [(2, .int (nI (mRank w i k))), (4, .int 1), (3, .int (nI i)), (0, .ref (g 0)), (1, .int (nI k))]) hx hb dX8_rank_84 rfl hl (by decide) rfl (fun ls hl => ?_)
                refine lv_iinc (v := nI (i + 1)) (lv' := [(3, .int (nI (i + 1))), (2, .int (nI (mRank w i k))), (4, .int 1), (0, .ref (g 0)), (1, .int (nI k))]) hx hb dX8_rank_85 hl (k := 2) rfl (z_inc1 i) (by decide) rfl (fun ls hl => ?_)
                refine lv_goto (tgt := 4) hx hb dX8_rank_88 (by decide) ?_
                have e_ : mRank w i k = mRank w (i + 1) k := by
                  first
                    | exact zCnt_y (decide_eq_true ⟨c_70, Or.inl c_27⟩)
                    | exact zCnt_y (decide_eq_true ⟨c_70, Or.inr ⟨c_42, c_47⟩⟩)
                    | exact zCnt_n (decide_eq_false (fun h => c_70 h.1))
                    | exact zCnt_n (decide_eq_false (fun h => h.2.elim c_27 (fun q => c_42 q.1)))
                    | exact zCnt_n (decide_eq_false (fun h => h.2.elim c_27 (fun q => absurd q.2 (by omega))))
                rw [e_] at hl
                exact ih (i + 1) ls (by omega) (by omega) (lv_sub hl [0, 1, 3, 4] rfl)
              · refine lv_iload hx hb dX8_rank_73 (lv_at hl 0 rfl) ?_
                refine lv_if_eq (tgt := 82) hx hb dX8_rank_75 (by decide) (fun c_75 => ?_) (fun c_75 => ?_)
                · exact absurd c_75 (by decide +kernel)
                refine lv_iconst (v := 1) hx hb dX8_rank_78 (by decide +kernel) ?_
                refine lv_goto (tgt := 83) hx hb dX8_rank_79 (by decide) ?_
                refine lv_iadd hx hb dX8_rank_83 ?_
                refine zt_i (z_add (a := mRank w i k) (b := 1) (by first | rfl | omega)) ?_
                refine lv_istore_n (lv' := [(2, .int (nI (mRank w i k + 1))), (4, .int 1), (3, .int (nI i)), (0, .ref (g 0)), (1, .int (nI k))]) hx hb dX8_rank_84 rfl hl (by decide) rfl (fun ls hl => ?_)
                refine lv_iinc (v := nI (i + 1)) (lv' := [(3, .int (nI (i + 1))), (2, .int (nI (mRank w i k + 1))), (4, .int 1), (0, .ref (g 0)), (1, .int (nI k))]) hx hb dX8_rank_85 hl (k := 2) rfl (z_inc1 i) (by decide) rfl (fun ls hl => ?_)
                refine lv_goto (tgt := 4) hx hb dX8_rank_88 (by decide) ?_
                have e_ : mRank w i k + 1 = mRank w (i + 1) k := by
                  first
                    | exact zCnt_y (decide_eq_true ⟨c_70, Or.inl c_27⟩)
                    | exact zCnt_y (decide_eq_true ⟨c_70, Or.inr ⟨c_42, c_47⟩⟩)
                    | exact zCnt_n (decide_eq_false (fun h => c_70 h.1))
                    | exact zCnt_n (decide_eq_false (fun h => h.2.elim c_27 (fun q => c_42 q.1)))
                    | exact zCnt_n (decide_eq_false (fun h => h.2.elim c_27 (fun q => absurd q.2 (by omega))))
                rw [e_] at hl
                exact ih (i + 1) ls (by omega) (by omega) (lv_sub hl [0, 1, 3, 4] rfl)
  exact L_4 (n + 1) 0 ls (by omega) (by omega) (lv_sub hl [0, 1, 2, 3] rfl)
set_option maxHeartbeats 4000000 in
set_option maxRecDepth 100000 in
theorem c_X8_of (l : Launch) (V : zV) (g : Nat → Nat) (w pa be av sl sv pd cd : Nat → Int32) (st le ap pl wy : Int32) (n : Nat) (x what : Int32) (hn : w 7 = nI n) (h30 : n ≤ 30) (hwr : ∀ k, k < n → zF w k 1 = 0 ∨ zF w k 1 = 1) : Met l yX8_of wsX8_of (zR 2 0 0) (zPc V [.ref (g 0), .int x, .int what] (fun H => va_P V.1 vwCl (zmW V g w pa be av sl sv pd cd st le ap pl wy) H)) (vp_Si (fun r => r = (mOf w n x what))) 0 0 (fun _ => False) := by
  refine Met.ofW (cc := cX8_of) (maxL := 4) (ret := (some .int)) (by decide) rfl ?_
  intro p e s m args below meth c s₁ B hml hv
  obtain ⟨rfl, hP, hE⟩ := hv
  have hx := B.exec
  have hb := B.bytes
  have hr := B.returns
  have hts := atoms_spec (ws := wsX8_of) B.pre
  have hown : s.vm.findClass RX8 = some m.cls := findClass_of_methodNamed B.named
  have hlocks := B.notSynchronized
  have hl := lv_entry ([.ref (g 0), .int x, .int what]) (n := 4) (Nat.le_of_ble_eq_true rfl)
  rw [lg_entry_eq]
  generalize (lg_sl ([.ref (g 0), .int x, .int what]) ++ List.replicate (4 - (lg_sl ([.ref (g 0), .int x, .int what])).length) Slot.unset).toArray = ls at hl ⊢
  have hl : lv_has ls 4 [(0, .ref (g 0)), (1, .int x), (2, .int what)] := hl
  refine lv_aload_n hx hb dX8_of_0 rfl (lv_at hl 0 rfl) ?_
  refine lv_iload_n hx hb dX8_of_1 rfl (lv_at hl 1 rfl) ?_
  refine zc_se (va_runV (As := [.int x]) (rest := []) ⟨hx, hb, hml, hown, hts⟩ (c_X8_find l V g w pa be av sl sv pd cd st le ap pl wy n x hn h30) (cwV 1 hts (zgV_ wsM_all uM_22 uM_115 uM_116 uM_117 uM_21) rfl rfl rfl (by decide +kernel) ⟨Nat.le_of_ble_eq_true rfl, Nat.le_of_ble_eq_true rfl⟩) (zPreV (B := fun H => va_P V.1 vwCl (zmW V g w pa be av sl sv pd cd st le ap pl wy) H) hP hE (va_recv hE.1 hP (ci := 8) (q0 := 0) (q := (RX8, TX8, 13)) rfl (zm_c0 V g w pa be av sl sv pd cd st le ap pl wy))) rfl rfl hl.1 rfl (lv_room (Nat.le_of_ble_eq_true rfl)) dX8_of_2 ⟨Nat.le_of_ble_eq_true rfl, Nat.le_of_ble_eq_true rfl⟩) ?_
  rcases hq : mFind w n x with _ | k
  · refine zt_i (y := (-6)) (by first | rfl | exact congrArg zoI hq) ?_
    refine lv_istore_n (lv' := [(3, .int (-6)), (0, .ref (g 0)), (1, .int x), (2, .int what)]) hx hb dX8_of_5 rfl hl (by decide) rfl (fun ls hl => ?_)
    refine lv_iload_n hx hb dX8_of_6 rfl (lv_at hl 0 rfl) ?_
    refine lv_bipush (v := (-6)) hx hb dX8_of_7 (by decide +kernel) ?_
    refine lv_icmp_ne (tgt := 14) hx hb dX8_of_9 (by decide) (fun c_9 => ?_) (fun c_9 => ?_)
    · exact absurd rfl c_9
    · refine lv_iconst (v := (-1)) hx hb dX8_of_12 (by decide +kernel) ?_
      exact zr_si hx hb hr hlocks (by rw [mOf, hq]) dX8_of_13
  · refine zt_i (y := nI k) (by first | rfl | exact congrArg zoI hq) ?_
    have hkn : k < n := (zFirst_lt hq).1
    refine lv_istore_n (lv' := [(3, .int (nI k)), (0, .ref (g 0)), (1, .int x), (2, .int what)]) hx hb dX8_of_5 rfl hl (by decide) rfl (fun ls hl => ?_)
    refine lv_iload_n hx hb dX8_of_6 rfl (lv_at hl 0 rfl) ?_
    refine lv_bipush (v := (-6)) hx hb dX8_of_7 (by decide +kernel) ?_
    refine lv_icmp_ne (tgt := 14) hx hb dX8_of_9 (by decide) (fun c_9 => ?_) (fun c_9 => ?_)
    · refine lv_iload_n hx hb dX8_of_14 rfl (lv_at hl 3 rfl) ?_
      rcases z_rng what 6 (by decide) with ⟨k_, hk_, hc_⟩ | hc_
      · rcases (show k_ = 0 ∨ k_ = 1 ∨ k_ = 2 ∨ k_ = 3 ∨ k_ = 4 ∨ k_ = 5 by omega) with rfl | rfl | rfl | rfl | rfl | rfl
        · have hc_ : what = 0 := hc_
          refine lv_tableIn (off := 37) (tgt := 52) hx hb dX8_of_15 (by rw [hc_]; decide) (by rw [hc_]; decide) (by rw [hc_]; rfl) (by decide) ?_
          refine lv_aload_n hx hb dX8_of_52 rfl (lv_at hl 1 rfl) ?_
          refine lv_iload_n hx hb dX8_of_53 rfl (lv_at hl 0 rfl) ?_
          refine lv_iconst (v := 1) hx hb dX8_of_54 (by decide +kernel) ?_
          refine zc_se (va_runV (As := [.int (nI k), .int 1]) (rest := []) ⟨hx, hb, hml, hown, hts⟩ (c_X8_its l V g w pa be av sl sv pd cd st le ap pl wy k 1 (by omega)) (cwV 2 hts (zgV_ wsM_all uM_16 uM_18 uM_19 uM_20 uM_21) rfl rfl rfl (by decide +kernel) ⟨Nat.le_of_ble_eq_true rfl, Nat.le_of_ble_eq_true rfl⟩) (zPreV (B := fun H => va_P V.1 vwCl (zmW V g w pa be av sl sv pd cd st le ap pl wy) H) hP hE (va_recv hE.1 hP (ci := 8) (q0 := 0) (q := (RX8, TX8, 13)) rfl (zm_c0 V g w pa be av sl sv pd cd st le ap pl wy))) rfl rfl hl.1 rfl (lv_room (Nat.le_of_ble_eq_true rfl)) dX8_of_55 ⟨Nat.le_of_ble_eq_true rfl, Nat.le_of_ble_eq_true rfl⟩) ?_
          exact zr_si hx hb hr hlocks (by subst hc_; rw [mOf, hq]; rfl) dX8_of_58
        · have hc_ : what = 1 := hc_
          refine lv_tableIn (off := 44) (tgt := 59) hx hb dX8_of_15 (by rw [hc_]; decide) (by rw [hc_]; decide) (by rw [hc_]; rfl) (by decide) ?_
          refine lv_aload_n hx hb dX8_of_59 rfl (lv_at hl 1 rfl) ?_
          refine lv_iload_n hx hb dX8_of_60 rfl (lv_at hl 0 rfl) ?_
          refine lv_iconst (v := 2) hx hb dX8_of_61 (by decide +kernel) ?_
          refine zc_se (va_runV (As := [.int (nI k), .int 2]) (rest := []) ⟨hx, hb, hml, hown, hts⟩ (c_X8_its l V g w pa be av sl sv pd cd st le ap pl wy k 2 (by omega)) (cwV 2 hts (zgV_ wsM_all uM_16 uM_18 uM_19 uM_20 uM_21) rfl rfl rfl (by decide +kernel) ⟨Nat.le_of_ble_eq_true rfl, Nat.le_of_ble_eq_true rfl⟩) (zPreV (B := fun H => va_P V.1 vwCl (zmW V g w pa be av sl sv pd cd st le ap pl wy) H) hP hE (va_recv hE.1 hP (ci := 8) (q0 := 0) (q := (RX8, TX8, 13)) rfl (zm_c0 V g w pa be av sl sv pd cd st le ap pl wy))) rfl rfl hl.1 rfl (lv_room (Nat.le_of_ble_eq_true rfl)) dX8_of_62 ⟨Nat.le_of_ble_eq_true rfl, Nat.le_of_ble_eq_true rfl⟩) ?_
          exact zr_si hx hb hr hlocks (by subst hc_; rw [mOf, hq]; rfl) dX8_of_65
        · have hc_ : what = 2 := hc_
          refine lv_tableIn (off := 51) (tgt := 66) hx hb dX8_of_15 (by rw [hc_]; decide) (by rw [hc_]; decide) (by rw [hc_]; rfl) (by decide) ?_
          refine lv_aload_n hx hb dX8_of_66 rfl (lv_at hl 1 rfl) ?_
          refine lv_iload_n hx hb dX8_of_67 rfl (lv_at hl 0 rfl) ?_
          refine zc_se (va_runV (As := [.int (nI k)]) (rest := []) ⟨hx, hb, hml, hown, hts⟩ (c_X8_lastOf l V g w pa be av sl sv pd cd st le ap pl wy k (by omega)) (cwV 1 hts (zgV_ wsM_all uM_17 uM_74 uM_75 uM_76 uM_21) rfl rfl rfl (by decide +kernel) ⟨Nat.le_of_ble_eq_true rfl, Nat.le_of_ble_eq_true rfl⟩) (zPreV (B := fun H => va_P V.1 vwCl (zmW V g w pa be av sl sv pd cd st le ap pl wy) H) hP hE (va_recv hE.1 hP (ci := 8) (q0 := 0) (q := (RX8, TX8, 13)) rfl (zm_c0 V g w pa be av sl sv pd cd st le ap pl wy))) rfl rfl hl.1 rfl (lv_room (Nat.le_of_ble_eq_true rfl)) dX8_of_68 ⟨Nat.le_of_ble_eq_true rfl, Nat.le_of_ble_eq_true rfl⟩) ?_
          exact zr_si hx hb hr hlocks (by subst hc_; rw [mOf, hq]; rfl) dX8_of_71
        · have hc_ : what = 3 := hc_
          refine lv_tableIn (off := 57) (tgt := 72) hx hb dX8_of_15 (by rw [hc_]; decide) (by rw [hc_]; decide) (by rw [hc_]; rfl) (by decide) ?_
          refine lv_aload_n hx hb dX8_of_72 rfl (lv_at hl 1 rfl) ?_
          refine zm_get 0 (.ref (g 1)) hx hb hts (fun x h => List.mem_cons_of_mem _ (hU_X8 x h)) hown hE hP (by decide) rfl (hts _ (List.mem_cons_of_mem _ uM_5)) (fun _ h9 => h9) dX8_of_73 ?_
          refine lv_bipush (v := 6) hx hb dX8_of_76 (by decide +kernel) ?_
          refine z_iald (k := 6) hx hb hE hP 1 (zm_c1 V g w pa be av sl sv pd cd st le ap pl wy) (by omega) (by decide) dX8_of_78 ?_
          refine lv_aload_n hx hb dX8_of_79 rfl (lv_at hl 1 rfl) ?_
          refine lv_iload_n hx hb dX8_of_80 rfl (lv_at hl 0 rfl) ?_
          refine lv_iconst (v := 4) hx hb dX8_of_81 (by decide +kernel) ?_
          refine zc_se (va_runV (As := [.int (nI k), .int 4]) (rest := [.int (w 6)]) ⟨hx, hb, hml, hown, hts⟩ (c_X8_its l V g w pa be av sl sv pd cd st le ap pl wy k 4 (by omega)) (cwV 2 hts (zgV_ wsM_all uM_16 uM_18 uM_19 uM_20 uM_21) rfl rfl rfl (by decide +kernel) ⟨Nat.le_of_ble_eq_true rfl, Nat.le_of_ble_eq_true rfl⟩) (zPreV (B := fun H => va_P V.1 vwCl (zmW V g w pa be av sl sv pd cd st le ap pl wy) H) hP hE (va_recv hE.1 hP (ci := 8) (q0 := 0) (q := (RX8, TX8, 13)) rfl (zm_c0 V g w pa be av sl sv pd cd st le ap pl wy))) rfl rfl hl.1 rfl (lv_room (Nat.le_of_ble_eq_true rfl)) dX8_of_82 ⟨Nat.le_of_ble_eq_true rfl, Nat.le_of_ble_eq_true rfl⟩) ?_
          refine lv_isub hx hb dX8_of_85 ?_
          exact zr_si hx hb hr hlocks (by subst hc_; rw [mOf, hq]; rfl) dX8_of_86
        · have hc_ : what = 4 := hc_
          refine lv_tableIn (off := 72) (tgt := 87) hx hb dX8_of_15 (by rw [hc_]; decide) (by rw [hc_]; decide) (by rw [hc_]; rfl) (by decide) ?_
          refine lv_aload_n hx hb dX8_of_87 rfl (lv_at hl 1 rfl) ?_
          refine lv_iload_n hx hb dX8_of_88 rfl (lv_at hl 0 rfl) ?_
          refine zc_se (va_runV (As := [.int (nI k)]) (rest := []) ⟨hx, hb, hml, hown, hts⟩ (c_X8_isOld l V g w pa be av sl sv pd cd st le ap pl wy k (by omega) (hwr k (by omega))) (cwV 1 hts (zgV_ wsM_all uM_42 uM_59 uM_60 uM_61 uM_21) rfl rfl rfl (by decide +kernel) ⟨Nat.le_of_ble_eq_true rfl, Nat.le_of_ble_eq_true rfl⟩) (zPreV (B := fun H => va_P V.1 vwCl (zmW V g w pa be av sl sv pd cd st le ap pl wy) H) hP hE (va_recv hE.1 hP (ci := 8) (q0 := 0) (q := (RX8, TX8, 13)) rfl (zm_c0 V g w pa be av sl sv pd cd st le ap pl wy))) rfl rfl hl.1 rfl (lv_room (Nat.le_of_ble_eq_true rfl)) dX8_of_89 ⟨Nat.le_of_ble_eq_true rfl, Nat.le_of_ble_eq_true rfl⟩) ?_
          refine zbp_eq (P := w (zF w k 1).toNatClampNeg ≤ w 6 - zF w k 4) (tgt := 99) hx hb dX8_of_92 (by decide) (fun c_92 => ?_) (fun c_92 => ?_)
          · refine lv_iconst (v := 0) hx hb dX8_of_99 (by decide +kernel) ?_
            exact zr_si hx hb hr hlocks (by subst hc_; rw [mOf, hq]; first | exact (if_pos c_92).symm | exact (if_neg c_92).symm) dX8_of_100
          · refine lv_iconst (v := 1) hx hb dX8_of_95 (by decide +kernel) ?_
            refine lv_goto (tgt := 100) hx hb dX8_of_96 (by decide) ?_
            exact zr_si hx hb hr hlocks (by subst hc_; rw [mOf, hq]; first | exact (if_pos c_92).symm | exact (if_neg c_92).symm) dX8_of_100
        · have hc_ : what = 5 := hc_
          refine lv_tableIn (off := 86) (tgt := 101) hx hb dX8_of_15 (by rw [hc_]; decide) (by rw [hc_]; decide) (by rw [hc_]; rfl) (by decide) ?_
          refine lv_aload_n hx hb dX8_of_101 rfl (lv_at hl 1 rfl) ?_
          refine lv_iload_n hx hb dX8_of_102 rfl (lv_at hl 0 rfl) ?_
          refine lv_iconst (v := 5) hx hb dX8_of_103 (by decide +kernel) ?_
          refine zc_se (va_runV (As := [.int (nI k), .int 5]) (rest := []) ⟨hx, hb, hml, hown, hts⟩ (c_X8_its l V g w pa be av sl sv pd cd st le ap pl wy k 5 (by omega)) (cwV 2 hts (zgV_ wsM_all uM_16 uM_18 uM_19 uM_20 uM_21) rfl rfl rfl (by decide +kernel) ⟨Nat.le_of_ble_eq_true rfl, Nat.le_of_ble_eq_true rfl⟩) (zPreV (B := fun H => va_P V.1 vwCl (zmW V g w pa be av sl sv pd cd st le ap pl wy) H) hP hE (va_recv hE.1 hP (ci := 8) (q0 := 0) (q := (RX8, TX8, 13)) rfl (zm_c0 V g w pa be av sl sv pd cd st le ap pl wy))) rfl rfl hl.1 rfl (lv_room (Nat.le_of_ble_eq_true rfl)) dX8_of_104 ⟨Nat.le_of_ble_eq_true rfl, Nat.le_of_ble_eq_true rfl⟩) ?_
          exact zr_si hx hb hr hlocks (by subst hc_; rw [mOf, hq]; rfl) dX8_of_107
      · have hne_ : ¬ what = 0 ∧ ¬ what = 1 ∧ ¬ what = 2 ∧ ¬ what = 3 ∧ ¬ what = 4 ∧ ¬ what = 5 := by
          refine ⟨?_, ?_, ?_, ?_, ?_, ?_⟩ <;> (intro e_; rw [e_] at hc_; revert hc_; decide)
        refine lv_tableOut (tgt := 108) hx hb dX8_of_15 hc_ (by decide) ?_
        refine lv_bipush (v := (-2)) hx hb dX8_of_108 (by decide +kernel) ?_
        exact zr_si hx hb hr hlocks (by rw [mOf, hq]; simp [hne_]) dX8_of_110
    · exact absurd c_9 (z_n6 (by omega))
set_option maxHeartbeats 4000000 in
set_option maxRecDepth 100000 in
theorem c_X8_waiting (l : Launch) (V : zV) (g : Nat → Nat) (w pa be av sl sv pd cd : Nat → Int32) (st le ap pl wy : Int32) (n : Nat) (wr rk : Int32) (hn : w 7 = nI n) (h30 : n ≤ 30) : Met l yX8_waiting wsX8_waiting (zR 2 0 0) (zPc V [.ref (g 0), .int wr, .int rk] (fun H => va_P V.1 vwCl (zmW V g w pa be av sl sv pd cd st le ap pl wy) H)) (vp_Si (fun r => r = (mWait w n wr rk))) 0 0 (fun _ => False) := by
  refine Met.ofW (cc := cX8_waiting) (maxL := 4) (ret := (some .int)) (by decide) rfl ?_
  intro p e s m args below meth c s₁ B hml hv
  obtain ⟨rfl, hP, hE⟩ := hv
  have hx := B.exec
  have hb := B.bytes
  have hr := B.returns
  have hts := atoms_spec (ws := wsX8_waiting) B.pre
  have hown : s.vm.findClass RX8 = some m.cls := findClass_of_methodNamed B.named
  have hlocks := B.notSynchronized
  have hl := lv_entry ([.ref (g 0), .int wr, .int rk]) (n := 4) (Nat.le_of_ble_eq_true rfl)
  rw [lg_entry_eq]
  generalize (lg_sl ([.ref (g 0), .int wr, .int rk]) ++ List.replicate (4 - (lg_sl ([.ref (g 0), .int wr, .int rk])).length) Slot.unset).toArray = ls at hl ⊢
  have hl : lv_has ls 4 [(0, .ref (g 0)), (1, .int wr), (2, .int rk)] := hl
  refine lv_iload_n hx hb dX8_waiting_0 rfl (lv_at hl 1 rfl) ?_
  refine lv_i2l (v := wr.toInt64) hx hb dX8_waiting_1 rfl ?_
  refine lv_iconst (v := 0) hx hb dX8_waiting_2 (by decide +kernel) ?_
  refine lv_iconst (v := 1) hx hb dX8_waiting_3 (by decide +kernel) ?_
  refine zc_se (va_runS (As := [.long wr.toInt64, .int 0, .int 1]) (rest := []) ⟨hx, hb, hml, hown, hts⟩ (c_X8_in l V wr 0 1) (va_cwS 3 hts (zgS_ wsM_all uM_14 uM_29 uM_30 uM_21) rfl rfl rfl (by decide +kernel) ⟨Nat.le_of_ble_eq_true rfl, Nat.le_of_ble_eq_true rfl⟩) (zPreS (B := fun _ => True) trivial hE) rfl rfl hl.1 rfl (lv_room (Nat.le_of_ble_eq_true rfl)) dX8_waiting_4 ⟨Nat.le_of_ble_eq_true rfl, Nat.le_of_ble_eq_true rfl⟩) ?_
  refine zbp_ne (P := 0 ≤ wr ∧ wr ≤ 1) (tgt := 13) hx hb dX8_waiting_7 (by decide) (fun c_7 => ?_) (fun c_7 => ?_)
  · refine lv_iconst (v := 0) hx hb dX8_waiting_13 (by decide +kernel) ?_
    refine lv_istore_n (lv' := [(3, .int 0), (0, .ref (g 0)), (1, .int wr), (2, .int rk)]) hx hb dX8_waiting_14 rfl hl (by decide) rfl (fun ls hl => ?_)
    have L_15 : ∀ (n_ i : Nat) (ls : Array Slot), i ≤ n → n + 1 ≤ i + n_ → (zFirst (fun k => decide (zF w k 1 = wr ∧ nI (mRank w n k) = rk)) i = none) → lv_has ls 4 [(3, .int (nI i)), (0, .ref (g 0)), (1, .int wr), (2, .int rk)] → W p l e (headSpec wsX8_waiting (zR 2 0 0)).room s m (List.toArray [.ref (g 0), .int wr, .int rk]) below meth c s.heap [] 0 0 (MQ below (vp_Si (fun r => r = (mWait w n wr rk))) (List.toArray [.ref (g 0), .int wr, .int rk]) s 0 0 (fun _ => False)) (F0 m 15 ls []) := by
      intro n_
      induction n_ with
      | zero => intro i   ls hi_ hn_; exact absurd hn_ (by omega)
      | succ n_ ih =>
        intro i   ls hi_ hn_ hno  hl
        refine lv_iload_n hx hb dX8_waiting_15 rfl (lv_at hl 0 rfl) ?_
        refine lv_aload_n hx hb dX8_waiting_16 rfl (lv_at hl 1 rfl) ?_
        refine zm_get 0 (.ref (g 1)) hx hb hts (fun x h => List.mem_cons_of_mem _ (hU_X8 x h)) hown hE hP (by decide) rfl (hts _ (List.mem_cons_of_mem _ uM_5)) (fun _ h9 => h9) dX8_waiting_17 ?_
        refine lv_bipush (v := 7) hx hb dX8_waiting_20 (by decide +kernel) ?_
        refine z_iald (k := 7) hx hb hE hP 1 (zm_c1 V g w pa be av sl sv pd cd st le ap pl wy) (by omega) (by decide) dX8_waiting_22 ?_
        refine zt_i hn ?_
        refine zb_ge (x := i) (y := n) (tgt := 58) hx hb dX8_waiting_23 (by decide) (by omega) (by omega) (fun c_23 => ?_) (fun c_23 => ?_)
        · refine lv_iconst (v := (-1)) hx hb dX8_waiting_58 (by decide +kernel) ?_
          exact zr_si hx hb hr hlocks (by rw [show i = n by omega] at hno; rw [mWait, if_pos c_7, hno]) dX8_waiting_59
        · refine lv_aload_n hx hb dX8_waiting_26 rfl (lv_at hl 1 rfl) ?_
          refine lv_iload_n hx hb dX8_waiting_27 rfl (lv_at hl 0 rfl) ?_
          refine lv_iconst (v := 1) hx hb dX8_waiting_28 (by decide +kernel) ?_
          refine zc_se (va_runV (As := [.int (nI i), .int 1]) (rest := []) ⟨hx, hb, hml, hown, hts⟩ (c_X8_its l V g w pa be av sl sv pd cd st le ap pl wy i 1 (by omega)) (cwV 2 hts (zgV_ wsM_all uM_16 uM_18 uM_19 uM_20 uM_21) rfl rfl rfl (by decide +kernel) ⟨Nat.le_of_ble_eq_true rfl, Nat.le_of_ble_eq_true rfl⟩) (zPreV (B := fun H => va_P V.1 vwCl (zmW V g w pa be av sl sv pd cd st le ap pl wy) H) hP hE (va_recv hE.1 hP (ci := 8) (q0 := 0) (q := (RX8, TX8, 13)) rfl (zm_c0 V g w pa be av sl sv pd cd st le ap pl wy))) rfl rfl hl.1 rfl (lv_room (Nat.le_of_ble_eq_true rfl)) dX8_waiting_29 ⟨Nat.le_of_ble_eq_true rfl, Nat.le_of_ble_eq_true rfl⟩) ?_
          refine lv_iload_n hx hb dX8_waiting_32 rfl (lv_at hl 2 rfl) ?_
          refine lv_icmp_ne (tgt := 52) hx hb dX8_waiting_33 (by decide) (fun c_33 => ?_) (fun c_33 => ?_)
          · refine lv_iinc (v := nI (i + 1)) (lv' := [(3, .int (nI (i + 1))), (0, .ref (g 0)), (1, .int wr), (2, .int rk)]) hx hb dX8_waiting_52 hl (k := 0) rfl (z_inc1 i) (by decide) rfl (fun ls hl => ?_)
            refine lv_goto (tgt := 15) hx hb dX8_waiting_55 (by decide) ?_
            exact ih (i + 1) ls (by omega) (by omega) (zFirst_no hno (by first | exact decide_eq_false (fun h => c_33 h.1) | exact decide_eq_false (fun h => c_42 h.2))) (lv_sub hl [0, 1, 2, 3] rfl)
          · refine lv_aload_n hx hb dX8_waiting_36 rfl (lv_at hl 1 rfl) ?_
            refine lv_iload_n hx hb dX8_waiting_37 rfl (lv_at hl 0 rfl) ?_
            refine zc_se (va_runV (As := [.int (nI i)]) (rest := []) ⟨hx, hb, hml, hown, hts⟩ (c_X8_rank l V g w pa be av sl sv pd cd st le ap pl wy n i hn h30 (by omega)) (cwV 1 hts (zgV_ wsM_all uM_127 uM_129 uM_130 uM_131 uM_21) rfl rfl rfl (by decide +kernel) ⟨Nat.le_of_ble_eq_true rfl, Nat.le_of_ble_eq_true rfl⟩) (zPreV (B := fun H => va_P V.1 vwCl (zmW V g w pa be av sl sv pd cd st le ap pl wy) H) hP hE (va_recv hE.1 hP (ci := 8) (q0 := 0) (q := (RX8, TX8, 13)) rfl (zm_c0 V g w pa be av sl sv pd cd st le ap pl wy))) rfl rfl hl.1 rfl (lv_room (Nat.le_of_ble_eq_true rfl)) dX8_waiting_38 ⟨Nat.le_of_ble_eq_true rfl, Nat.le_of_ble_eq_true rfl⟩) ?_
            refine lv_iload_n hx hb dX8_waiting_41 rfl (lv_at hl 3 rfl) ?_
            refine lv_icmp_ne (tgt := 52) hx hb dX8_waiting_42 (by decide) (fun c_42 => ?_) (fun c_42 => ?_)
            · refine lv_iinc (v := nI (i + 1)) (lv' := [(3, .int (nI (i + 1))), (0, .ref (g 0)), (1, .int wr), (2, .int rk)]) hx hb dX8_waiting_52 hl (k := 0) rfl (z_inc1 i) (by decide) rfl (fun ls hl => ?_)
              refine lv_goto (tgt := 15) hx hb dX8_waiting_55 (by decide) ?_
              exact ih (i + 1) ls (by omega) (by omega) (zFirst_no hno (by first | exact decide_eq_false (fun h => c_33 h.1) | exact decide_eq_false (fun h => c_42 h.2))) (lv_sub hl [0, 1, 2, 3] rfl)
            · refine lv_aload_n hx hb dX8_waiting_45 rfl (lv_at hl 1 rfl) ?_
              refine lv_iload_n hx hb dX8_waiting_46 rfl (lv_at hl 0 rfl) ?_
              refine lv_iconst (v := 0) hx hb dX8_waiting_47 (by decide +kernel) ?_
              refine zc_se (va_runV (As := [.int (nI i), .int 0]) (rest := []) ⟨hx, hb, hml, hown, hts⟩ (c_X8_its l V g w pa be av sl sv pd cd st le ap pl wy i 0 (by omega)) (cwV 2 hts (zgV_ wsM_all uM_16 uM_18 uM_19 uM_20 uM_21) rfl rfl rfl (by decide +kernel) ⟨Nat.le_of_ble_eq_true rfl, Nat.le_of_ble_eq_true rfl⟩) (zPreV (B := fun H => va_P V.1 vwCl (zmW V g w pa be av sl sv pd cd st le ap pl wy) H) hP hE (va_recv hE.1 hP (ci := 8) (q0 := 0) (q := (RX8, TX8, 13)) rfl (zm_c0 V g w pa be av sl sv pd cd st le ap pl wy))) rfl rfl hl.1 rfl (lv_room (Nat.le_of_ble_eq_true rfl)) dX8_waiting_48 ⟨Nat.le_of_ble_eq_true rfl, Nat.le_of_ble_eq_true rfl⟩) ?_
              exact zr_si hx hb hr hlocks (by rw [mWait, if_pos c_7, zFirst_hit hno (decide_eq_true ⟨c_33, c_42⟩) (by omega)]) dX8_waiting_51
    exact L_15 (n + 1) 0 ls (by omega) (by omega) rfl (lv_sub hl [0, 1, 2, 3] rfl)
  · refine lv_bipush (v := (-2)) hx hb dX8_waiting_10 (by decide +kernel) ?_
    exact zr_si hx hb hr hlocks (by rw [mWait, if_neg c_7]) dX8_waiting_12
set_option maxHeartbeats 4000000 in
set_option maxRecDepth 100000 in
theorem c_X8_log (l : Launch) (V : zV) (g : Nat → Nat) (w pa be av sl sv pd cd : Nat → Int32) (st le ap pl wy : Int32) (e_ : Nat) (ago what : Int32) (he : w 17 = nI e_) (h20 : e_ ≤ 20) : Met l yX8_log wsX8_log (zR 1 0 0) (zPc V [.ref (g 0), .int ago, .int what] (fun H => va_P V.1 vwCl (zmW V g w pa be av sl sv pd cd st le ap pl wy) H)) (vp_Si (fun r => r = (mLog w ago what))) 0 0 (fun _ => False) := by
  refine Met.ofW (cc := cX8_log) (maxL := 3) (ret := (some .int)) (by decide) rfl ?_
  intro p e s m args below meth c s₁ B hml hv
  obtain ⟨rfl, hP, hE⟩ := hv
  have hx := B.exec
  have hb := B.bytes
  have hr := B.returns
  have hts := atoms_spec (ws := wsX8_log) B.pre
  have hown : s.vm.findClass RX8 = some m.cls := findClass_of_methodNamed B.named
  have hlocks := B.notSynchronized
  have hl := lv_entry ([.ref (g 0), .int ago, .int what]) (n := 3) (Nat.le_of_ble_eq_true rfl)
  rw [lg_entry_eq]
  generalize (lg_sl ([.ref (g 0), .int ago, .int what]) ++ List.replicate (3 - (lg_sl ([.ref (g 0), .int ago, .int what])).length) Slot.unset).toArray = ls at hl ⊢
  have hl : lv_has ls 3 [(0, .ref (g 0)), (1, .int ago), (2, .int what)] := hl
  refine lv_iload_n hx hb dX8_log_0 rfl (lv_at hl 1 rfl) ?_
  refine lv_i2l (v := ago.toInt64) hx hb dX8_log_1 rfl ?_
  refine lv_iconst (v := 0) hx hb dX8_log_2 (by decide +kernel) ?_
  refine lv_aload_n hx hb dX8_log_3 rfl (lv_at hl 0 rfl) ?_
  refine zm_get 0 (.ref (g 1)) hx hb hts (fun x h => List.mem_cons_of_mem _ (hU_X8 x h)) hown hE hP (by decide) rfl (hts _ (List.mem_cons_of_mem _ uM_5)) (fun _ h9 => h9) dX8_log_4 ?_
  refine lv_bipush (v := 17) hx hb dX8_log_7 (by decide +kernel) ?_
  refine z_iald (k := 17) hx hb hE hP 1 (zm_c1 V g w pa be av sl sv pd cd st le ap pl wy) (by omega) (by decide) dX8_log_9 ?_
  refine lv_iconst (v := 1) hx hb dX8_log_10 (by decide +kernel) ?_
  refine lv_isub hx hb dX8_log_11 ?_
  refine zc_se (va_runS (As := [.long ago.toInt64, .int 0, .int ((w 17) - 1)]) (rest := []) ⟨hx, hb, hml, hown, hts⟩ (c_X8_in l V ago 0 ((w 17) - 1)) (va_cwS 3 hts (zgS_ wsM_all uM_14 uM_29 uM_30 uM_21) rfl rfl rfl (by decide +kernel) ⟨Nat.le_of_ble_eq_true rfl, Nat.le_of_ble_eq_true rfl⟩) (zPreS (B := fun _ => True) trivial hE) rfl rfl hl.1 rfl (lv_room (Nat.le_of_ble_eq_true rfl)) dX8_log_12 ⟨Nat.le_of_ble_eq_true rfl, Nat.le_of_ble_eq_true rfl⟩) ?_
  refine zbp_ne (P := 0 ≤ ago ∧ ago ≤ (w 17) - 1) (tgt := 22) hx hb dX8_log_15 (by decide) (fun c_15 => ?_) (fun c_15 => ?_)
  · refine lv_iload_n hx hb dX8_log_22 rfl (lv_at hl 2 rfl) ?_
    refine lv_i2l (v := what.toInt64) hx hb dX8_log_23 rfl ?_
    refine lv_iconst (v := 0) hx hb dX8_log_24 (by decide +kernel) ?_
    refine lv_iconst (v := 2) hx hb dX8_log_25 (by decide +kernel) ?_
    refine zc_se (va_runS (As := [.long what.toInt64, .int 0, .int 2]) (rest := []) ⟨hx, hb, hml, hown, hts⟩ (c_X8_in l V what 0 2) (va_cwS 3 hts (zgS_ wsM_all uM_14 uM_29 uM_30 uM_21) rfl rfl rfl (by decide +kernel) ⟨Nat.le_of_ble_eq_true rfl, Nat.le_of_ble_eq_true rfl⟩) (zPreS (B := fun _ => True) trivial hE) rfl rfl hl.1 rfl (lv_room (Nat.le_of_ble_eq_true rfl)) dX8_log_26 ⟨Nat.le_of_ble_eq_true rfl, Nat.le_of_ble_eq_true rfl⟩) ?_
    refine zbp_eq (P := 0 ≤ what ∧ what ≤ 2) (tgt := 48) hx hb dX8_log_29 (by decide) (fun c_29 => ?_) (fun c_29 => ?_)
    · refine lv_bipush (v := (-2)) hx hb dX8_log_48 (by decide +kernel) ?_
      exact zr_si hx hb hr hlocks (by first | exact (if_neg c_15).symm | exact ((if_pos c_15).trans (if_neg c_29)).symm | (rw [mLog, he, if_pos c_15, if_pos c_29, nI_clamp (by omega), nI_clamp (by omega)])) dX8_log_50
    · rw [he] at c_15
      obtain ⟨j, rfl, hj⟩ := z_lg h20 c_15
      obtain ⟨j2, rfl, -, hj2⟩ := z_ix (na := 0) (nb := 2) rfl rfl (by decide) (by decide) c_29
      refine lv_aload_n hx hb dX8_log_32 rfl (lv_at hl 0 rfl) ?_
      refine zm_get 0 (.ref (g 1)) hx hb hts (fun x h => List.mem_cons_of_mem _ (hU_X8 x h)) hown hE hP (by decide) rfl (hts _ (List.mem_cons_of_mem _ uM_5)) (fun _ h9 => h9) dX8_log_33 ?_
      refine lv_bipush (v := 18) hx hb dX8_log_36 (by decide +kernel) ?_
      refine lv_iconst (v := 3) hx hb dX8_log_38 (by decide +kernel) ?_
      refine lv_iload_n hx hb dX8_log_39 rfl (lv_at hl 1 rfl) ?_
      refine lv_imul hx hb dX8_log_40 ?_
      refine zt_i (z_mul (a := 3) (b := j) (by first | rfl | omega)) ?_
      refine lv_iadd hx hb dX8_log_41 ?_
      refine zt_i (z_add (a := 18) (b := 3 * j) (by first | rfl | omega)) ?_
      refine lv_iload_n hx hb dX8_log_42 rfl (lv_at hl 2 rfl) ?_
      refine lv_iadd hx hb dX8_log_43 ?_
      refine zt_i (z_add (a := 18 + 3 * j) (b := j2) (by first | rfl | omega)) ?_
      refine z_iald (k := 18 + 3 * j + j2) hx hb hE hP 1 (zm_c1 V g w pa be av sl sv pd cd st le ap pl wy) (by omega) (by decide) dX8_log_44 ?_
      refine lv_goto (tgt := 50) hx hb dX8_log_45 (by decide) ?_
      exact zr_si hx hb hr hlocks (by first | exact (if_neg c_15).symm | exact ((if_pos c_15).trans (if_neg c_29)).symm | (rw [mLog, he, if_pos c_15, if_pos c_29, nI_clamp (by omega), nI_clamp (by omega)])) dX8_log_50
  · refine lv_iconst (v := (-1)) hx hb dX8_log_18 (by decide +kernel) ?_
    refine lv_goto (tgt := 50) hx hb dX8_log_19 (by decide) ?_
    exact zr_si hx hb hr hlocks (by first | exact (if_neg c_15).symm | exact ((if_pos c_15).trans (if_neg c_29)).symm | (rw [mLog, he, if_pos c_15, if_pos c_29, nI_clamp (by omega), nI_clamp (by omega)])) dX8_log_50
set_option maxHeartbeats 4000000 in
set_option maxRecDepth 100000 in
theorem c_X8_count (l : Launch) (V : zV) (g : Nat → Nat) (w pa be av sl sv pd cd : Nat → Int32) (st le ap pl wy : Int32) (n : Nat) (what : Int32) (hn : w 7 = nI n) (h30 : n ≤ 30) : Met l yX8_count wsX8_count (zR 2 0 0) (zPc V [.ref (g 0), .int what] (fun H => va_P V.1 vwCl (zmW V g w pa be av sl sv pd cd st le ap pl wy) H)) (vp_Si (fun r => r = (mCount w n le st what))) 0 0 (fun _ => False) := by
  refine Met.ofW (cc := cX8_count) (maxL := 2) (ret := (some .int)) (by decide) rfl ?_
  intro p e s m args below meth c s₁ B hml hv
  obtain ⟨rfl, hP, hE⟩ := hv
  have hx := B.exec
  have hb := B.bytes
  have hr := B.returns
  have hts := atoms_spec (ws := wsX8_count) B.pre
  have hown : s.vm.findClass RX8 = some m.cls := findClass_of_methodNamed B.named
  have hlocks := B.notSynchronized
  have hl := lv_entry ([.ref (g 0), .int what]) (n := 2) (Nat.le_of_ble_eq_true rfl)
  rw [lg_entry_eq]
  generalize (lg_sl ([.ref (g 0), .int what]) ++ List.replicate (2 - (lg_sl ([.ref (g 0), .int what])).length) Slot.unset).toArray = ls at hl ⊢
  have hl : lv_has ls 2 [(0, .ref (g 0)), (1, .int what)] := hl
  refine lv_iload_n hx hb dX8_count_0 rfl (lv_at hl 1 rfl) ?_
  refine lv_i2l (v := what.toInt64) hx hb dX8_count_1 rfl ?_
  refine lv_bipush (v := 10) hx hb dX8_count_2 (by decide +kernel) ?_
  refine lv_bipush (v := 15) hx hb dX8_count_4 (by decide +kernel) ?_
  refine zc_se (va_runS (As := [.long what.toInt64, .int 10, .int 15]) (rest := []) ⟨hx, hb, hml, hown, hts⟩ (c_X8_in l V what 10 15) (va_cwS 3 hts (zgS_ wsM_all uM_14 uM_29 uM_30 uM_21) rfl rfl rfl (by decide +kernel) ⟨Nat.le_of_ble_eq_true rfl, Nat.le_of_ble_eq_true rfl⟩) (zPreS (B := fun _ => True) trivial hE) rfl rfl hl.1 rfl (lv_room (Nat.le_of_ble_eq_true rfl)) dX8_count_6 ⟨Nat.le_of_ble_eq_true rfl, Nat.le_of_ble_eq_true rfl⟩) ?_
  refine zbp_eq (P := 10 ≤ what ∧ what ≤ 15) (tgt := 22) hx hb dX8_count_9 (by decide) (fun c_9 => ?_) (fun c_9 => ?_)
  · refine lv_iload_n hx hb dX8_count_22 rfl (lv_at hl 1 rfl) ?_
    rcases z_rng what 18 (by decide) with ⟨k_, hk_, hc_⟩ | hc_
    · rcases (show k_ = 0 ∨ k_ = 1 ∨ k_ = 2 ∨ k_ = 3 ∨ k_ = 4 ∨ k_ = 5 ∨ k_ = 6 ∨ k_ = 7 ∨ k_ = 8 ∨ k_ = 9 ∨ k_ = 10 ∨ k_ = 11 ∨ k_ = 12 ∨ k_ = 13 ∨ k_ = 14 ∨ k_ = 15 ∨ k_ = 16 ∨ k_ = 17 by omega) with rfl | rfl | rfl | rfl | rfl | rfl | rfl | rfl | rfl | rfl | rfl | rfl | rfl | rfl | rfl | rfl | rfl | rfl
      · have hc_ : what = 0 := hc_
        refine lv_tableIn (off := 85) (tgt := 108) hx hb dX8_count_23 (by rw [hc_]; decide) (by rw [hc_]; decide) (by rw [hc_]; rfl) (by decide) ?_
        refine lv_aload_n hx hb dX8_count_108 rfl (lv_at hl 0 rfl) ?_
        refine zm_get 0 (.ref (g 1)) hx hb hts (fun x h => List.mem_cons_of_mem _ (hU_X8 x h)) hown hE hP (by decide) rfl (hts _ (List.mem_cons_of_mem _ uM_5)) (fun _ h9 => h9) dX8_count_109 ?_
        refine lv_bipush (v := 6) hx hb dX8_count_112 (by decide +kernel) ?_
        refine z_iald (k := 6) hx hb hE hP 1 (zm_c1 V g w pa be av sl sv pd cd st le ap pl wy) (by omega) (by decide) dX8_count_114 ?_
        exact zr_si hx hb hr hlocks (by subst hc_; first | rfl | exact absurd ⟨by decide, by decide⟩ c_9) dX8_count_115
      · have hc_ : what = 1 := hc_
        refine lv_tableIn (off := 93) (tgt := 116) hx hb dX8_count_23 (by rw [hc_]; decide) (by rw [hc_]; decide) (by rw [hc_]; rfl) (by decide) ?_
        refine lv_aload_n hx hb dX8_count_116 rfl (lv_at hl 0 rfl) ?_
        refine lv_iload_n hx hb dX8_count_117 rfl (lv_at hl 1 rfl) ?_
        refine lv_iconst (v := 1) hx hb dX8_count_118 (by decide +kernel) ?_
        refine lv_isub hx hb dX8_count_119 ?_
        refine zc_se (va_runV (As := [.int (what - 1)]) (rest := []) ⟨hx, hb, hml, hown, hts⟩ (c_X8_many l V g w pa be av sl sv pd cd st le ap pl wy n (what - 1) hn h30) (cwV 1 hts (zgV_ wsM_all uM_23 uM_44 uM_45 uM_46 uM_21) rfl rfl rfl (by decide +kernel) ⟨Nat.le_of_ble_eq_true rfl, Nat.le_of_ble_eq_true rfl⟩) (zPreV (B := fun H => va_P V.1 vwCl (zmW V g w pa be av sl sv pd cd st le ap pl wy) H) hP hE (va_recv hE.1 hP (ci := 8) (q0 := 0) (q := (RX8, TX8, 13)) rfl (zm_c0 V g w pa be av sl sv pd cd st le ap pl wy))) rfl rfl hl.1 rfl (lv_room (Nat.le_of_ble_eq_true rfl)) dX8_count_120 ⟨Nat.le_of_ble_eq_true rfl, Nat.le_of_ble_eq_true rfl⟩) ?_
        exact zr_si hx hb hr hlocks (by subst hc_; first | rfl | exact absurd ⟨by decide, by decide⟩ c_9) dX8_count_123
      · have hc_ : what = 2 := hc_
        refine lv_tableIn (off := 93) (tgt := 116) hx hb dX8_count_23 (by rw [hc_]; decide) (by rw [hc_]; decide) (by rw [hc_]; rfl) (by decide) ?_
        refine lv_aload_n hx hb dX8_count_116 rfl (lv_at hl 0 rfl) ?_
        refine lv_iload_n hx hb dX8_count_117 rfl (lv_at hl 1 rfl) ?_
        refine lv_iconst (v := 1) hx hb dX8_count_118 (by decide +kernel) ?_
        refine lv_isub hx hb dX8_count_119 ?_
        refine zc_se (va_runV (As := [.int (what - 1)]) (rest := []) ⟨hx, hb, hml, hown, hts⟩ (c_X8_many l V g w pa be av sl sv pd cd st le ap pl wy n (what - 1) hn h30) (cwV 1 hts (zgV_ wsM_all uM_23 uM_44 uM_45 uM_46 uM_21) rfl rfl rfl (by decide +kernel) ⟨Nat.le_of_ble_eq_true rfl, Nat.le_of_ble_eq_true rfl⟩) (zPreV (B := fun H => va_P V.1 vwCl (zmW V g w pa be av sl sv pd cd st le ap pl wy) H) hP hE (va_recv hE.1 hP (ci := 8) (q0 := 0) (q := (RX8, TX8, 13)) rfl (zm_c0 V g w pa be av sl sv pd cd st le ap pl wy))) rfl rfl hl.1 rfl (lv_room (Nat.le_of_ble_eq_true rfl)) dX8_count_120 ⟨Nat.le_of_ble_eq_true rfl, Nat.le_of_ble_eq_true rfl⟩) ?_
        exact zr_si hx hb hr hlocks (by subst hc_; first | rfl | exact absurd ⟨by decide, by decide⟩ c_9) dX8_count_123
      · have hc_ : what = 3 := hc_
        refine lv_tableIn (off := 101) (tgt := 124) hx hb dX8_count_23 (by rw [hc_]; decide) (by rw [hc_]; decide) (by rw [hc_]; rfl) (by decide) ?_
        refine lv_aload_n hx hb dX8_count_124 rfl (lv_at hl 0 rfl) ?_
        refine zm_get 0 (.ref (g 1)) hx hb hts (fun x h => List.mem_cons_of_mem _ (hU_X8 x h)) hown hE hP (by decide) rfl (hts _ (List.mem_cons_of_mem _ uM_5)) (fun _ h9 => h9) dX8_count_125 ?_
        refine lv_bipush (v := 9) hx hb dX8_count_128 (by decide +kernel) ?_
        refine z_iald (k := 9) hx hb hE hP 1 (zm_c1 V g w pa be av sl sv pd cd st le ap pl wy) (by omega) (by decide) dX8_count_130 ?_
        exact zr_si hx hb hr hlocks (by subst hc_; first | rfl | exact absurd ⟨by decide, by decide⟩ c_9) dX8_count_131
      · have hc_ : what = 4 := hc_
        refine lv_tableIn (off := 109) (tgt := 132) hx hb dX8_count_23 (by rw [hc_]; decide) (by rw [hc_]; decide) (by rw [hc_]; rfl) (by decide) ?_
        refine lv_aload_n hx hb dX8_count_132 rfl (lv_at hl 0 rfl) ?_
        refine zm_get 0 (.ref (g 1)) hx hb hts (fun x h => List.mem_cons_of_mem _ (hU_X8 x h)) hown hE hP (by decide) rfl (hts _ (List.mem_cons_of_mem _ uM_5)) (fun _ h9 => h9) dX8_count_133 ?_
        refine lv_bipush (v := 10) hx hb dX8_count_136 (by decide +kernel) ?_
        refine z_iald (k := 10) hx hb hE hP 1 (zm_c1 V g w pa be av sl sv pd cd st le ap pl wy) (by omega) (by decide) dX8_count_138 ?_
        exact zr_si hx hb hr hlocks (by subst hc_; first | rfl | exact absurd ⟨by decide, by decide⟩ c_9) dX8_count_139
      · have hc_ : what = 5 := hc_
        refine lv_tableIn (off := 117) (tgt := 140) hx hb dX8_count_23 (by rw [hc_]; decide) (by rw [hc_]; decide) (by rw [hc_]; rfl) (by decide) ?_
        refine lv_aload_n hx hb dX8_count_140 rfl (lv_at hl 0 rfl) ?_
        refine zm_get 0 (.ref (g 1)) hx hb hts (fun x h => List.mem_cons_of_mem _ (hU_X8 x h)) hown hE hP (by decide) rfl (hts _ (List.mem_cons_of_mem _ uM_5)) (fun _ h9 => h9) dX8_count_141 ?_
        refine lv_bipush (v := 11) hx hb dX8_count_144 (by decide +kernel) ?_
        refine z_iald (k := 11) hx hb hE hP 1 (zm_c1 V g w pa be av sl sv pd cd st le ap pl wy) (by omega) (by decide) dX8_count_146 ?_
        exact zr_si hx hb hr hlocks (by subst hc_; first | rfl | exact absurd ⟨by decide, by decide⟩ c_9) dX8_count_147
      · have hc_ : what = 6 := hc_
        refine lv_tableIn (off := 125) (tgt := 148) hx hb dX8_count_23 (by rw [hc_]; decide) (by rw [hc_]; decide) (by rw [hc_]; rfl) (by decide) ?_
        refine lv_aload_n hx hb dX8_count_148 rfl (lv_at hl 0 rfl) ?_
        refine zm_get 0 (.ref (g 1)) hx hb hts (fun x h => List.mem_cons_of_mem _ (hU_X8 x h)) hown hE hP (by decide) rfl (hts _ (List.mem_cons_of_mem _ uM_5)) (fun _ h9 => h9) dX8_count_149 ?_
        refine lv_bipush (v := 12) hx hb dX8_count_152 (by decide +kernel) ?_
        refine z_iald (k := 12) hx hb hE hP 1 (zm_c1 V g w pa be av sl sv pd cd st le ap pl wy) (by omega) (by decide) dX8_count_154 ?_
        exact zr_si hx hb hr hlocks (by subst hc_; first | rfl | exact absurd ⟨by decide, by decide⟩ c_9) dX8_count_155
      · have hc_ : what = 7 := hc_
        refine lv_tableIn (off := 133) (tgt := 156) hx hb dX8_count_23 (by rw [hc_]; decide) (by rw [hc_]; decide) (by rw [hc_]; rfl) (by decide) ?_
        refine lv_aload_n hx hb dX8_count_156 rfl (lv_at hl 0 rfl) ?_
        refine zm_get 0 (.ref (g 1)) hx hb hts (fun x h => List.mem_cons_of_mem _ (hU_X8 x h)) hown hE hP (by decide) rfl (hts _ (List.mem_cons_of_mem _ uM_5)) (fun _ h9 => h9) dX8_count_157 ?_
        refine lv_bipush (v := 13) hx hb dX8_count_160 (by decide +kernel) ?_
        refine z_iald (k := 13) hx hb hE hP 1 (zm_c1 V g w pa be av sl sv pd cd st le ap pl wy) (by omega) (by decide) dX8_count_162 ?_
        exact zr_si hx hb hr hlocks (by subst hc_; first | rfl | exact absurd ⟨by decide, by decide⟩ c_9) dX8_count_163
      · have hc_ : what = 8 := hc_
        refine lv_tableIn (off := 141) (tgt := 164) hx hb dX8_count_23 (by rw [hc_]; decide) (by rw [hc_]; decide) (by rw [hc_]; rfl) (by decide) ?_
        refine lv_aload_n hx hb dX8_count_164 rfl (lv_at hl 0 rfl) ?_
        refine zm_get 0 (.ref (g 1)) hx hb hts (fun x h => List.mem_cons_of_mem _ (hU_X8 x h)) hown hE hP (by decide) rfl (hts _ (List.mem_cons_of_mem _ uM_5)) (fun _ h9 => h9) dX8_count_165 ?_
        refine lv_bipush (v := 14) hx hb dX8_count_168 (by decide +kernel) ?_
        refine z_iald (k := 14) hx hb hE hP 1 (zm_c1 V g w pa be av sl sv pd cd st le ap pl wy) (by omega) (by decide) dX8_count_170 ?_
        exact zr_si hx hb hr hlocks (by subst hc_; first | rfl | exact absurd ⟨by decide, by decide⟩ c_9) dX8_count_171
      · have hc_ : what = 9 := hc_
        refine lv_tableIn (off := 149) (tgt := 172) hx hb dX8_count_23 (by rw [hc_]; decide) (by rw [hc_]; decide) (by rw [hc_]; rfl) (by decide) ?_
        refine lv_aload_n hx hb dX8_count_172 rfl (lv_at hl 0 rfl) ?_
        refine zm_get 0 (.ref (g 1)) hx hb hts (fun x h => List.mem_cons_of_mem _ (hU_X8 x h)) hown hE hP (by decide) rfl (hts _ (List.mem_cons_of_mem _ uM_5)) (fun _ h9 => h9) dX8_count_173 ?_
        refine lv_bipush (v := 15) hx hb dX8_count_176 (by decide +kernel) ?_
        refine z_iald (k := 15) hx hb hE hP 1 (zm_c1 V g w pa be av sl sv pd cd st le ap pl wy) (by omega) (by decide) dX8_count_178 ?_
        exact zr_si hx hb hr hlocks (by subst hc_; first | rfl | exact absurd ⟨by decide, by decide⟩ c_9) dX8_count_179
      · have hc_ : what = 10 := hc_
        refine lv_tableIn (off := 167) (tgt := 190) hx hb dX8_count_23 (by rw [hc_]; decide) (by rw [hc_]; decide) (by rw [hc_]; rfl) (by decide) ?_
        refine lv_bipush (v := (-2)) hx hb dX8_count_190 (by decide +kernel) ?_
        exact zr_si hx hb hr hlocks (by subst hc_; first | rfl | exact absurd ⟨by decide, by decide⟩ c_9) dX8_count_192
      · have hc_ : what = 11 := hc_
        refine lv_tableIn (off := 167) (tgt := 190) hx hb dX8_count_23 (by rw [hc_]; decide) (by rw [hc_]; decide) (by rw [hc_]; rfl) (by decide) ?_
        refine lv_bipush (v := (-2)) hx hb dX8_count_190 (by decide +kernel) ?_
        exact zr_si hx hb hr hlocks (by subst hc_; first | rfl | exact absurd ⟨by decide, by decide⟩ c_9) dX8_count_192
      · have hc_ : what = 12 := hc_
        refine lv_tableIn (off := 167) (tgt := 190) hx hb dX8_count_23 (by rw [hc_]; decide) (by rw [hc_]; decide) (by rw [hc_]; rfl) (by decide) ?_
        refine lv_bipush (v := (-2)) hx hb dX8_count_190 (by decide +kernel) ?_
        exact zr_si hx hb hr hlocks (by subst hc_; first | rfl | exact absurd ⟨by decide, by decide⟩ c_9) dX8_count_192
      · have hc_ : what = 13 := hc_
        refine lv_tableIn (off := 167) (tgt := 190) hx hb dX8_count_23 (by rw [hc_]; decide) (by rw [hc_]; decide) (by rw [hc_]; rfl) (by decide) ?_
        refine lv_bipush (v := (-2)) hx hb dX8_count_190 (by decide +kernel) ?_
        exact zr_si hx hb hr hlocks (by subst hc_; first | rfl | exact absurd ⟨by decide, by decide⟩ c_9) dX8_count_192
      · have hc_ : what = 14 := hc_
        refine lv_tableIn (off := 167) (tgt := 190) hx hb dX8_count_23 (by rw [hc_]; decide) (by rw [hc_]; decide) (by rw [hc_]; rfl) (by decide) ?_
        refine lv_bipush (v := (-2)) hx hb dX8_count_190 (by decide +kernel) ?_
        exact zr_si hx hb hr hlocks (by subst hc_; first | rfl | exact absurd ⟨by decide, by decide⟩ c_9) dX8_count_192
      · have hc_ : what = 15 := hc_
        refine lv_tableIn (off := 167) (tgt := 190) hx hb dX8_count_23 (by rw [hc_]; decide) (by rw [hc_]; decide) (by rw [hc_]; rfl) (by decide) ?_
        refine lv_bipush (v := (-2)) hx hb dX8_count_190 (by decide +kernel) ?_
        exact zr_si hx hb hr hlocks (by subst hc_; first | rfl | exact absurd ⟨by decide, by decide⟩ c_9) dX8_count_192
      · have hc_ : what = 16 := hc_
        refine lv_tableIn (off := 157) (tgt := 180) hx hb dX8_count_23 (by rw [hc_]; decide) (by rw [hc_]; decide) (by rw [hc_]; rfl) (by decide) ?_
        refine lv_aload_n hx hb dX8_count_180 rfl (lv_at hl 0 rfl) ?_
        refine zm_get 8 (.int le) hx hb hts (fun x h => List.mem_cons_of_mem _ (hU_X8 x h)) hown hE hP (by decide) rfl (hts _ (List.mem_cons_of_mem _ uM_134)) (fun _ h9 => h9) dX8_count_181 ?_
        exact zr_si hx hb hr hlocks (by subst hc_; first | rfl | exact absurd ⟨by decide, by decide⟩ c_9) dX8_count_184
      · have hc_ : what = 17 := hc_
        refine lv_tableIn (off := 162) (tgt := 185) hx hb dX8_count_23 (by rw [hc_]; decide) (by rw [hc_]; decide) (by rw [hc_]; rfl) (by decide) ?_
        refine lv_aload_n hx hb dX8_count_185 rfl (lv_at hl 0 rfl) ?_
        refine zm_get 6 (.int st) hx hb hts (fun x h => List.mem_cons_of_mem _ (hU_X8 x h)) hown hE hP (by decide) rfl (hts _ (List.mem_cons_of_mem _ uM_26)) (fun _ h9 => h9) dX8_count_186 ?_
        exact zr_si hx hb hr hlocks (by subst hc_; first | rfl | exact absurd ⟨by decide, by decide⟩ c_9) dX8_count_189
    · have hne_ : ¬ what = 0 ∧ ¬ what = 1 ∧ ¬ what = 2 ∧ ¬ what = 3 ∧ ¬ what = 4 ∧ ¬ what = 5 ∧ ¬ what = 6 ∧ ¬ what = 7 ∧ ¬ what = 8 ∧ ¬ what = 9 ∧ ¬ what = 10 ∧ ¬ what = 11 ∧ ¬ what = 12 ∧ ¬ what = 13 ∧ ¬ what = 14 ∧ ¬ what = 15 ∧ ¬ what = 16 ∧ ¬ what = 17 := by
        refine ⟨?_, ?_, ?_, ?_, ?_, ?_, ?_, ?_, ?_, ?_, ?_, ?_, ?_, ?_, ?_, ?_, ?_, ?_⟩ <;> (intro e_; rw [e_] at hc_; revert hc_; decide)
      refine lv_tableOut (tgt := 190) hx hb dX8_count_23 hc_ (by decide) ?_
      refine lv_bipush (v := (-2)) hx hb dX8_count_190 (by decide +kernel) ?_
      exact zr_si hx hb hr hlocks (by rw [mCount, if_neg c_9]; simp [hne_]) dX8_count_192
  · obtain ⟨j, rfl, hj1, hj2⟩ := z_ix (na := 10) (nb := 15) rfl rfl (by decide) (by decide) c_9
    refine lv_aload_n hx hb dX8_count_12 rfl (lv_at hl 0 rfl) ?_
    refine zm_get 0 (.ref (g 1)) hx hb hts (fun x h => List.mem_cons_of_mem _ (hU_X8 x h)) hown hE hP (by decide) rfl (hts _ (List.mem_cons_of_mem _ uM_5)) (fun _ h9 => h9) dX8_count_13 ?_
    refine lv_iload_n hx hb dX8_count_16 rfl (lv_at hl 1 rfl) ?_
    refine lv_bipush (v := 10) hx hb dX8_count_17 (by decide +kernel) ?_
    refine lv_isub hx hb dX8_count_19 ?_
    refine zt_i (z_sub (a := j) (b := 10) (by omega) (by first | rfl | omega)) ?_
    refine z_iald (k := j - 10) hx hb hE hP 1 (zm_c1 V g w pa be av sl sv pd cd st le ap pl wy) (by omega) (by decide) dX8_count_20 ?_
    exact zr_si hx hb hr hlocks (by rw [mCount, if_pos c_9, nI_clamp (by omega)]) dX8_count_21
set_option maxHeartbeats 4000000 in
set_option maxRecDepth 100000 in
theorem c_X8_joined (l : Launch) (V : zV) (g : Nat → Nat) (w pa be av sl sv pd cd : Nat → Int32) (st le ap pl wy : Int32) (n : Nat) (wr d mm : Int32) (hn : w 7 = nI n) (h30 : n ≤ 30) : Met l yX8_joined wsX8_joined (zR 3 0 0) (zPc V [.ref (g 0), .int wr, .int d, .int mm] (fun H => va_P V.1 vwCl (zmW V g w pa be av sl sv pd cd st le ap pl wy) H)) (vp_Si (fun r => r = (mJoined w n wr d mm))) 0 0 (fun _ => False) := by
  refine Met.ofW (cc := cX8_joined) (maxL := 5) (ret := (some .int)) (by decide) rfl ?_
  intro p e s m args below meth c s₁ B hml hv
  obtain ⟨rfl, hP, hE⟩ := hv
  have hx := B.exec
  have hb := B.bytes
  have hr := B.returns
  have hts := atoms_spec (ws := wsX8_joined) B.pre
  have hown : s.vm.findClass RX8 = some m.cls := findClass_of_methodNamed B.named
  have hlocks := B.notSynchronized
  have hl := lv_entry ([.ref (g 0), .int wr, .int d, .int mm]) (n := 5) (Nat.le_of_ble_eq_true rfl)
  rw [lg_entry_eq]
  generalize (lg_sl ([.ref (g 0), .int wr, .int d, .int mm]) ++ List.replicate (5 - (lg_sl ([.ref (g 0), .int wr, .int d, .int mm])).length) Slot.unset).toArray = ls at hl ⊢
  have hl : lv_has ls 5 [(0, .ref (g 0)), (1, .int wr), (2, .int d), (3, .int mm)] := hl
  refine lv_iload_n hx hb dX8_joined_0 rfl (lv_at hl 1 rfl) ?_
  refine lv_iload_n hx hb dX8_joined_1 rfl (lv_at hl 2 rfl) ?_
  refine lv_iload_n hx hb dX8_joined_2 rfl (lv_at hl 3 rfl) ?_
  refine zc_se (va_runS (As := [.int wr, .int d, .int mm]) (rest := []) ⟨hx, hb, hml, hown, hts⟩ (c_X8_isSlip l V wr d mm) (va_cwS 3 hts (zgS_ wsM_all uM_83 uM_86 uM_87 uM_21) rfl rfl rfl (by decide +kernel) ⟨Nat.le_of_ble_eq_true rfl, Nat.le_of_ble_eq_true rfl⟩) (zPreS (B := fun _ => True) trivial hE) rfl rfl hl.1 rfl (lv_room (Nat.le_of_ble_eq_true rfl)) dX8_joined_3 ⟨Nat.le_of_ble_eq_true rfl, Nat.le_of_ble_eq_true rfl⟩) ?_
  refine zbp_ne (P := mSlip wr d mm) (tgt := 12) hx hb dX8_joined_6 (by decide) (fun c_6 => ?_) (fun c_6 => ?_)
  · refine lv_aload_n hx hb dX8_joined_12 rfl (lv_at hl 0 rfl) ?_
    refine lv_iload_n hx hb dX8_joined_13 rfl (lv_at hl 1 rfl) ?_
    refine lv_iload_n hx hb dX8_joined_14 rfl (lv_at hl 2 rfl) ?_
    refine lv_iload_n hx hb dX8_joined_15 rfl (lv_at hl 3 rfl) ?_
    refine zc_se (va_runV (As := [.int wr, .int d, .int mm]) (rest := []) ⟨hx, hb, hml, hown, hts⟩ (c_X8_partner l V g w pa be av sl sv pd cd st le ap pl wy n wr d mm hn h30) (cwV 3 hts (zgV_ wsM_all uM_84 uM_88 uM_89 uM_90 uM_21) rfl rfl rfl (by decide +kernel) ⟨Nat.le_of_ble_eq_true rfl, Nat.le_of_ble_eq_true rfl⟩) (zPreV (B := fun H => va_P V.1 vwCl (zmW V g w pa be av sl sv pd cd st le ap pl wy) H) hP hE (va_recv hE.1 hP (ci := 8) (q0 := 0) (q := (RX8, TX8, 13)) rfl (zm_c0 V g w pa be av sl sv pd cd st le ap pl wy))) rfl rfl hl.1 rfl (lv_room (Nat.le_of_ble_eq_true rfl)) dX8_joined_16 ⟨Nat.le_of_ble_eq_true rfl, Nat.le_of_ble_eq_true rfl⟩) ?_
    rcases hq : mPart w n wr d mm with _ | k
    · refine zt_i (y := (-6)) (by first | rfl | exact congrArg zoI hq) ?_
      refine lv_istore (lv' := [(4, .int (-6)), (0, .ref (g 0)), (1, .int wr), (2, .int d), (3, .int mm)]) hx hb dX8_joined_19 hl (by decide) rfl (fun ls hl => ?_)
      refine lv_iload hx hb dX8_joined_21 (lv_at hl 0 rfl) ?_
      refine lv_bipush (v := (-6)) hx hb dX8_joined_23 (by decide +kernel) ?_
      refine lv_icmp_ne (tgt := 33) hx hb dX8_joined_25 (by decide) (fun c_25 => ?_) (fun c_25 => ?_)
      · exact absurd rfl c_25
      · refine lv_bipush (v := (-6)) hx hb dX8_joined_28 (by decide +kernel) ?_
        refine lv_goto (tgt := 40) hx hb dX8_joined_30 (by decide) ?_
        exact zr_si hx hb hr hlocks (by rw [mJoined, if_pos c_6, hq]) dX8_joined_40
    · refine zt_i (y := nI k) (by first | rfl | exact congrArg zoI hq) ?_
      have hkn : k < n := (zFirst_lt hq).1
      refine lv_istore (lv' := [(4, .int (nI k)), (0, .ref (g 0)), (1, .int wr), (2, .int d), (3, .int mm)]) hx hb dX8_joined_19 hl (by decide) rfl (fun ls hl => ?_)
      refine lv_iload hx hb dX8_joined_21 (lv_at hl 0 rfl) ?_
      refine lv_bipush (v := (-6)) hx hb dX8_joined_23 (by decide +kernel) ?_
      refine lv_icmp_ne (tgt := 33) hx hb dX8_joined_25 (by decide) (fun c_25 => ?_) (fun c_25 => ?_)
      · refine lv_aload_n hx hb dX8_joined_33 rfl (lv_at hl 1 rfl) ?_
        refine lv_iload hx hb dX8_joined_34 (lv_at hl 0 rfl) ?_
        refine lv_iconst (v := 0) hx hb dX8_joined_36 (by decide +kernel) ?_
        refine zc_se (va_runV (As := [.int (nI k), .int 0]) (rest := []) ⟨hx, hb, hml, hown, hts⟩ (c_X8_its l V g w pa be av sl sv pd cd st le ap pl wy k 0 (by omega)) (cwV 2 hts (zgV_ wsM_all uM_16 uM_18 uM_19 uM_20 uM_21) rfl rfl rfl (by decide +kernel) ⟨Nat.le_of_ble_eq_true rfl, Nat.le_of_ble_eq_true rfl⟩) (zPreV (B := fun H => va_P V.1 vwCl (zmW V g w pa be av sl sv pd cd st le ap pl wy) H) hP hE (va_recv hE.1 hP (ci := 8) (q0 := 0) (q := (RX8, TX8, 13)) rfl (zm_c0 V g w pa be av sl sv pd cd st le ap pl wy))) rfl rfl hl.1 rfl (lv_room (Nat.le_of_ble_eq_true rfl)) dX8_joined_37 ⟨Nat.le_of_ble_eq_true rfl, Nat.le_of_ble_eq_true rfl⟩) ?_
        exact zr_si hx hb hr hlocks (by rw [mJoined, if_pos c_6, hq]) dX8_joined_40
      · exact absurd c_25 (z_n6 (by omega))
  · refine lv_bipush (v := (-2)) hx hb dX8_joined_9 (by decide +kernel) ?_
    exact zr_si hx hb hr hlocks (by rw [mJoined, if_neg c_6]) dX8_joined_11
