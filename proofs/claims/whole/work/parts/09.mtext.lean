def mDig (pd : Nat → Int32) (n a : Nat) : Prop := a < n ∧ (48 ≤ pd a ∧ pd a ≤ 57)
def mNum (pd : Nat → Int32) (n a : Nat) : Int32 × Nat := if 0 < pd a - 48 ∧ (a + 1 < n ∧ (48 ≤ pd (a + 1) ∧ pd (a + 1) ≤ 57)) then (10 * (pd a - 48) + pd (a + 1) - 48, a + 2) else (pd a - 48, a + 1)
def mSg (pd : Nat → Int32) (n a : Nat) : Int32 := if a < n then pd a else 0
/-- an order is read from a place on: is it one, where the reading stands then, its sign, its number, how many more -/
def mTok (pd : Nat → Int32) (n a : Nat) : Bool × Nat × Int32 × Int32 × Int32 :=
  if mSg pd n a = 114 ∨ mSg pd n a = 119 ∨ mSg pd n a = 115 ∨ mSg pd n a = 116 then
    (if a + 1 < n ∧ (48 ≤ pd (a + 1) ∧ pd (a + 1) ≤ 57) then
      (if (mSg pd n a = 114 ∨ mSg pd n a = 119) ∧ ((mNum pd n (a + 1)).2 < n ∧ (43 ≤ pd (mNum pd n (a + 1)).2 ∧ pd (mNum pd n (a + 1)).2 ≤ 43)) then
        (if (mNum pd n (a + 1)).2 + 1 < n ∧ (48 ≤ pd ((mNum pd n (a + 1)).2 + 1) ∧ pd ((mNum pd n (a + 1)).2 + 1) ≤ 57) then
          (true, (mNum pd n (a + 1)).2 + 2, mSg pd n a, (mNum pd n (a + 1)).1, pd ((mNum pd n (a + 1)).2 + 1) - 48)
        else (false, (mNum pd n (a + 1)).2 + 1, mSg pd n a, 0, 0))
      else (true, (mNum pd n (a + 1)).2, mSg pd n a, (mNum pd n (a + 1)).1, 0))
    else (false, a + 1, mSg pd n a, 0, 0))
  else (false, a, mSg pd n a, 0, 0)
theorem mNum_le (pd : Nat → Int32) {n a : Nat} (h : a < n) : a < (mNum pd n a).2 ∧ (mNum pd n a).2 ≤ n := by
  unfold mNum
  split
  · rename_i h1
    exact ⟨by show a < a + 2; omega, by show a + 2 ≤ n; omega⟩
  · exact ⟨by show a < a + 1; omega, by show a + 1 ≤ n; omega⟩
theorem mTok_le (pd : Nat → Int32) {n a : Nat} (h : a ≤ n) : a ≤ (mTok pd n a).2.1 ∧ (mTok pd n a).2.1 ≤ n ∧ ((mTok pd n a).1 = true → a < (mTok pd n a).2.1) := by
  unfold mTok
  split
  · rename_i h0
    have han : a < n := by
      rcases Nat.lt_or_ge a n with q | q
      · exact q
      · exfalso
        have e : mSg pd n a = 0 := if_neg (by omega)
        rw [e] at h0
        revert h0
        decide
    split
    · rename_i h1
      have h2 := mNum_le pd (n := n) (a := a + 1) h1.1
      split
      · rename_i h3
        split
        · rename_i h4
          exact ⟨by show a ≤ _ + 2; omega, by show _ + 2 ≤ n; omega, fun _ => by show a < _ + 2; omega⟩
        · exact ⟨by show a ≤ _ + 1; omega, by show _ + 1 ≤ n; omega, fun h => by cases h⟩
      · exact ⟨by show a ≤ (mNum pd n (a + 1)).2; omega, by show (mNum pd n (a + 1)).2 ≤ n; omega, fun _ => by show a < (mNum pd n (a + 1)).2; omega⟩
    · exact ⟨by show a ≤ a + 1; omega, by show a + 1 ≤ n; omega, fun h => by cases h⟩
  · exact ⟨Nat.le_refl _, h, fun h => by cases h⟩
/-- an order is carried out -/
def mDo (w : Nat → Int32) (n : Nat) (t : Bool × Nat × Int32 × Int32 × Int32) : Int32 × (Nat → Int32) :=
  if t.2.2.1 = 114 ∨ t.2.2.1 = 119 then mComes w n (if t.2.2.1 = 119 then 1 else 0) t.2.2.2.1 (1 + t.2.2.2.2)
  else if t.2.2.1 = 115 then mServes w n t.2.2.2.1 else mWaits w t.2.2.2.1
/-- the pad is read to its end, or to its fault: is it well, where the reading stands -/
def mWl (pd : Nat → Int32) (n : Nat) : Nat → Bool × Nat → Bool × Nat
  | 0, s => s
  | f + 1, s => if s.1 = true ∧ s.2 < n then (if 59 ≤ pd s.2 ∧ pd s.2 ≤ 59 then mWl pd n f ((mTok pd n (s.2 + 1)).1, (mTok pd n (s.2 + 1)).2.1) else (false, s.2)) else s
def mWell (pd : Nat → Int32) (n : Nat) : Bool × Nat := mWl pd n (n + 1) ((mTok pd n 0).1, (mTok pd n 0).2.1)
def nOf (w : Nat → Int32) : Nat := (w 7).toNatClampNeg
/-- the orders of a text that is well: the row, how many were carried out -/
def mCO (pd : Nat → Int32) (n : Nat) : Nat → Bool × Nat × (Nat → Int32) × Nat → (Nat → Int32) × Nat
  | 0, s => (s.2.2.1, s.2.2.2)
  | f + 1, s => if s.1 = true ∧ s.2.1 < n then
      (let t := mTok pd n s.2.1
       let r := mDo s.2.2.1 (nOf s.2.2.1) t
       if t.1 = true ∧ 0 ≤ r.1 then mCO pd n f (true, t.2.1 + 1, r.2, s.2.2.2 + 1) else ((if t.1 = true then r.2 else s.2.2.1), s.2.2.2))
    else (s.2.2.1, s.2.2.2)
set_option maxHeartbeats 4000000 in
set_option maxRecDepth 100000 in
theorem c_X8_number (l : Launch) (V : zV) (g : Nat → Nat) (w pa be av sl sv pd cd : Nat → Int32) (st le ap pl wy : Int32) (n a : Nat) (hJ : zInj 9 g) (hle : le = nI n) (hap : ap = nI a) (h80 : n ≤ 80) (han : a < n) : Met l yX8_number wsX8_number (zR 2 0 0) (zPc V [.ref (g 0)] (fun H => va_P V.1 vwCl (zmW V g w pa be av sl sv pd cd st le ap pl wy) H)) (zQi (fun r H => r = ((mNum pd n a).1) ∧ va_P V.1 vwCl (zmW V g w pa be av sl sv pd cd st le (nI (mNum pd n a).2) pl wy) H) (zIn 9 g)) 0 0 (zIn 9 g) := by
  refine Met.ofW (cc := cX8_number) (maxL := 2) (ret := (some .int)) (by decide) rfl ?_
  intro p e s m args below meth c s₁ B hml hv
  obtain ⟨rfl, hP, hE⟩ := hv
  have hx := B.exec
  have hb := B.bytes
  have hr := B.returns
  have hts := atoms_spec (ws := wsX8_number) B.pre
  have hown : s.vm.findClass RX8 = some m.cls := findClass_of_methodNamed B.named
  have hlocks := B.notSynchronized
  have hl := lv_entry ([.ref (g 0)]) (n := 2) (Nat.le_of_ble_eq_true rfl)
  rw [lg_entry_eq]
  generalize (lg_sl ([.ref (g 0)]) ++ List.replicate (2 - (lg_sl ([.ref (g 0)])).length) Slot.unset).toArray = ls at hl ⊢
  have hl : lv_has ls 2 [(0, .ref (g 0))] := hl
  have hS : va_S (zIn 9 g) s.heap s.heap [] := va_S.rf
  subst hap
  subst hle
  refine lv_aload_n hx hb dX8_number_0 rfl (lv_at hl 0 rfl) ?_
  refine zm_get 7 (.ref (g 7)) hx hb hts (fun x h => List.mem_cons_of_mem _ (hU_X8 x h)) hown hE hP (by decide) rfl (hts _ (List.mem_cons_of_mem _ uM_12)) (fun _ h9 => h9) dX8_number_1 ?_
  refine lv_aload_n hx hb dX8_number_4 rfl (lv_at hl 0 rfl) ?_
  refine zm_get 9 (.int (nI a)) hx hb hts (fun x h => List.mem_cons_of_mem _ (hU_X8 x h)) hown hE hP (by decide) rfl (hts _ (List.mem_cons_of_mem _ uM_143)) (fun _ h9 => h9) dX8_number_5 ?_
  refine z_iald (k := a) hx hb hE hP 7 (zm_c7 V g w pa be av sl sv pd cd st (nI n) (nI a) pl wy) (by omega) (by decide) dX8_number_8 ?_
  refine lv_bipush (v := 48) hx hb dX8_number_9 (by decide +kernel) ?_
  refine lv_isub hx hb dX8_number_11 ?_
  refine lv_istore_n (lv' := [(1, .int ((pd a) - 48)), (0, .ref (g 0))]) hx hb dX8_number_12 rfl hl (by decide) rfl (fun ls hl => ?_)
  refine lv_aload_n hx hb dX8_number_13 rfl (lv_at hl 1 rfl) ?_
  refine lv_dup hx hb dX8_number_14 rfl ?_
  refine zm_get 9 (.int (nI a)) hx hb hts (fun x h => List.mem_cons_of_mem _ (hU_X8 x h)) hown hE hP (by decide) rfl (hts _ (List.mem_cons_of_mem _ uM_143)) (fun _ h9 => h9) dX8_number_15 ?_
  refine lv_iconst (v := 1) hx hb dX8_number_18 (by decide +kernel) ?_
  refine lv_iadd hx hb dX8_number_19 ?_
  refine zt_i (z_add (a := a) (b := 1) (by first | rfl | omega)) ?_
  refine zm_put (st' := st) (le' := (nI n)) (ap' := nI (a + 1)) (pl' := pl) (wy' := wy) 9 (nI (a + 1)) hx hb hts (fun x h => List.mem_cons_of_mem _ (hU_X8 x h)) hown hE hP hJ hS (by decide) rfl rfl (by decide +kernel) (hts _ (List.mem_cons_of_mem _ uM_143)) (fun _ h9 => h9) dX8_number_20 (fun H locs hP hS => ?_)
  refine lv_iload_n hx hb dX8_number_23 rfl (lv_at hl 0 rfl) ?_
  refine lv_if_le (tgt := 66) hx hb dX8_number_24 (by decide) (fun c_24 => ?_) (fun c_24 => ?_)
  · refine lv_iload_n hx hb dX8_number_66 rfl (lv_at hl 0 rfl) ?_
    exact zr_i hx hb hr hlocks hS (⟨by rw [mNum, if_neg (fun h => z_le' c_24 h.1)], by rw [show mNum pd n a = ((pd a) - 48, a + 1) by rw [mNum, if_neg (fun h => z_le' c_24 h.1)]]; exact hP⟩) dX8_number_67
  · refine lv_aload_n hx hb dX8_number_27 rfl (lv_at hl 1 rfl) ?_
    refine lv_bipush (v := 48) hx hb dX8_number_28 (by decide +kernel) ?_
    refine lv_bipush (v := 57) hx hb dX8_number_30 (by decide +kernel) ?_
    refine zc_se (va_runV (As := [.int 48, .int 57]) (rest := []) ⟨hx, hb, hml, hown, hts⟩ (c_X8_sees l V g w pa be av sl sv pd cd st (nI n) (nI (a + 1)) pl wy (a + 1) n 48 57 rfl rfl (by omega) (by omega)) (cwV 2 hts (zgV_ wsM_all uM_142 uM_145 uM_146 uM_147 uM_21) rfl rfl rfl (by decide +kernel) ⟨Nat.le_of_ble_eq_true rfl, Nat.le_of_ble_eq_true rfl⟩) (zPreV (B := fun H => va_P V.1 vwCl (zmW V g w pa be av sl sv pd cd st (nI n) (nI (a + 1)) pl wy) H) hP hE (va_recv hE.1 hP (ci := 8) (q0 := 0) (q := (RX8, TX8, 13)) rfl (zm_c0 V g w pa be av sl sv pd cd st (nI n) (nI (a + 1)) pl wy))) rfl rfl hl.1 rfl (lv_room (Nat.le_of_ble_eq_true rfl)) dX8_number_32 ⟨Nat.le_of_ble_eq_true rfl, Nat.le_of_ble_eq_true rfl⟩) ?_
    refine zbp_eq (P := (a + 1) < n ∧ (48 ≤ pd (a + 1) ∧ pd (a + 1) ≤ 57)) (tgt := 66) hx hb dX8_number_35 (by decide) (fun c_35 => ?_) (fun c_35 => ?_)
    · refine lv_iload_n hx hb dX8_number_66 rfl (lv_at hl 0 rfl) ?_
      exact zr_i hx hb hr hlocks hS (⟨by rw [mNum, if_neg (fun h => c_35 h.2)], by rw [show mNum pd n a = ((pd a) - 48, a + 1) by rw [mNum, if_neg (fun h => c_35 h.2)]]; exact hP⟩) dX8_number_67
    · refine lv_bipush (v := 10) hx hb dX8_number_38 (by decide +kernel) ?_
      refine lv_iload_n hx hb dX8_number_40 rfl (lv_at hl 0 rfl) ?_
      refine lv_imul hx hb dX8_number_41 ?_
      refine lv_aload_n hx hb dX8_number_42 rfl (lv_at hl 1 rfl) ?_
      refine zm_get 7 (.ref (g 7)) hx hb hts (fun x h => List.mem_cons_of_mem _ (hU_X8 x h)) hown hE hP (by decide) rfl (hts _ (List.mem_cons_of_mem _ uM_12)) (fun _ h9 => h9) dX8_number_43 ?_
      refine lv_aload_n hx hb dX8_number_46 rfl (lv_at hl 1 rfl) ?_
      refine zm_get 9 (.int (nI (a + 1))) hx hb hts (fun x h => List.mem_cons_of_mem _ (hU_X8 x h)) hown hE hP (by decide) rfl (hts _ (List.mem_cons_of_mem _ uM_143)) (fun _ h9 => h9) dX8_number_47 ?_
      refine z_iald (k := a + 1) hx hb hE hP 7 (zm_c7 V g w pa be av sl sv pd cd st (nI n) (nI (a + 1)) pl wy) (by omega) (by decide) dX8_number_50 ?_
      refine lv_iadd hx hb dX8_number_51 ?_
      refine lv_bipush (v := 48) hx hb dX8_number_52 (by decide +kernel) ?_
      refine lv_isub hx hb dX8_number_54 ?_
      refine lv_istore_n (lv' := [(1, .int (((10 * ((pd a) - 48)) + (pd (a + 1))) - 48)), (0, .ref (g 0))]) hx hb dX8_number_55 rfl hl (by decide) rfl (fun ls hl => ?_)
      refine lv_aload_n hx hb dX8_number_56 rfl (lv_at hl 1 rfl) ?_
      refine lv_dup hx hb dX8_number_57 rfl ?_
      refine zm_get 9 (.int (nI (a + 1))) hx hb hts (fun x h => List.mem_cons_of_mem _ (hU_X8 x h)) hown hE hP (by decide) rfl (hts _ (List.mem_cons_of_mem _ uM_143)) (fun _ h9 => h9) dX8_number_58 ?_
      refine lv_iconst (v := 1) hx hb dX8_number_61 (by decide +kernel) ?_
      refine lv_iadd hx hb dX8_number_62 ?_
      refine zt_i (z_add (a := a + 1) (b := 1) (by first | rfl | omega)) ?_
      refine zm_put (st' := st) (le' := (nI n)) (ap' := nI (a + 2)) (pl' := pl) (wy' := wy) 9 (nI (a + 2)) hx hb hts (fun x h => List.mem_cons_of_mem _ (hU_X8 x h)) hown hE hP hJ hS (by decide) rfl rfl (by decide +kernel) (hts _ (List.mem_cons_of_mem _ uM_143)) (fun _ h9 => h9) dX8_number_63 (fun H locs hP hS => ?_)
      refine lv_iload_n hx hb dX8_number_66 rfl (lv_at hl 0 rfl) ?_
      exact zr_i hx hb hr hlocks hS (⟨by rw [mNum, if_pos ⟨z_nle c_24, c_35⟩], by rw [show mNum pd n a = (((10 * ((pd a) - 48)) + (pd (a + 1))) - 48, a + 2) by rw [mNum, if_pos ⟨z_nle c_24, c_35⟩]]; exact hP⟩) dX8_number_67
set_option maxHeartbeats 4000000 in
set_option maxRecDepth 100000 in
theorem c_X8_order (l : Launch) (V : zV) (g : Nat → Nat) (w pa be av sl sv pd cd : Nat → Int32) (st le ap pl wy : Int32) (n a : Nat) (hJ : zInj 9 g) (hle : le = nI n) (hap : ap = nI a) (h80 : n ≤ 80) (han : a ≤ n) : Met l yX8_order wsX8_order (zR 6 0 0) (zPc V [.ref (g 0), .int 0] (fun H => va_P V.1 vwCl (zmW V g w pa be av sl sv pd cd st le ap pl wy) H)) (zQi (fun r H => r = (if (mTok pd n a).1 = true then 0 else -3) ∧ va_P V.1 vwCl (zmW V g w pa be av sl sv pd cd st le (nI (mTok pd n a).2.1) pl wy) H) (zIn 9 g)) 0 0 (zIn 9 g) := by
  refine Met.ofW (cc := cX8_order) (maxL := 6) (ret := (some .int)) (by decide) rfl ?_
  intro p e s m args below meth c s₁ B hml hv
  obtain ⟨rfl, hP, hE⟩ := hv
  have hx := B.exec
  have hb := B.bytes
  have hr := B.returns
  have hts := atoms_spec (ws := wsX8_order) B.pre
  have hown : s.vm.findClass RX8 = some m.cls := findClass_of_methodNamed B.named
  have hlocks := B.notSynchronized
  have hl := lv_entry ([.ref (g 0), .int 0]) (n := 6) (Nat.le_of_ble_eq_true rfl)
  rw [lg_entry_eq]
  generalize (lg_sl ([.ref (g 0), .int 0]) ++ List.replicate (6 - (lg_sl ([.ref (g 0), .int 0])).length) Slot.unset).toArray = ls at hl ⊢
  have hl : lv_has ls 6 [(0, .ref (g 0)), (1, .int 0)] := hl
  have hS : va_S (zIn 9 g) s.heap s.heap [] := va_S.rf
  subst hap
  subst hle
  have J_24 : ∀ (sg : Int32) (ls : Array Slot), True → (sg = mSg pd n a) → lv_has ls 6 [(0, .ref (g 0)), (1, .int 0)] → W p l e (headSpec wsX8_order (zR 6 0 0)).room s m (List.toArray [.ref (g 0), .int 0]) below meth c s.heap [] 0 0 (MQ below (zQi (fun r H => r = (if (mTok pd n a).1 = true then 0 else -3) ∧ va_P V.1 vwCl (zmW V g w pa be av sl sv pd cd st (nI n) (nI (mTok pd n a).2.1) pl wy) H) (zIn 9 g)) (List.toArray [.ref (g 0), .int 0]) s 0 0 (zIn 9 g)) (F0 m 24 ls [.int sg]) := by
    intro sg  ls _ hsg  hl
    refine lv_istore_n (lv' := [(2, .int sg), (0, .ref (g 0)), (1, .int 0)]) hx hb dX8_order_24 rfl hl (by decide) rfl (fun ls hl => ?_)
    have J_52 : ∀ (ls : Array Slot), True → (mSg pd n a = 114 ∨ mSg pd n a = 119 ∨ mSg pd n a = 115 ∨ mSg pd n a = 116) → lv_has ls 6 [(2, .int sg), (0, .ref (g 0)), (1, .int 0)] → W p l e (headSpec wsX8_order (zR 6 0 0)).room s m (List.toArray [.ref (g 0), .int 0]) below meth c s.heap [] 0 0 (MQ below (zQi (fun r H => r = (if (mTok pd n a).1 = true then 0 else -3) ∧ va_P V.1 vwCl (zmW V g w pa be av sl sv pd cd st (nI n) (nI (mTok pd n a).2.1) pl wy) H) (zIn 9 g)) (List.toArray [.ref (g 0), .int 0]) s 0 0 (zIn 9 g)) (F0 m 52 ls []) := by
      intro   ls _ hsg4  hl
      have han : a < n := by
        rcases Nat.lt_or_ge a n with q | q
        · exact q
        · exfalso; have e0 : mSg pd n a = 0 := if_neg (by omega)
          rw [e0] at hsg4; revert hsg4; decide
      refine lv_aload_n hx hb dX8_order_52 rfl (lv_at hl 1 rfl) ?_
      refine lv_dup hx hb dX8_order_53 rfl ?_
      refine zm_get 9 (.int (nI a)) hx hb hts (fun x h => List.mem_cons_of_mem _ (hU_X8 x h)) hown hE hP (by decide) rfl (hts _ (List.mem_cons_of_mem _ uM_143)) (fun _ h9 => h9) dX8_order_54 ?_
      refine lv_iconst (v := 1) hx hb dX8_order_57 (by decide +kernel) ?_
      refine lv_iadd hx hb dX8_order_58 ?_
      refine zt_i (z_add (a := a) (b := 1) (by first | rfl | omega)) ?_
      refine zm_put (st' := st) (le' := (nI n)) (ap' := nI (a + 1)) (pl' := pl) (wy' := wy) 9 (nI (a + 1)) hx hb hts (fun x h => List.mem_cons_of_mem _ (hU_X8 x h)) hown hE hP hJ hS (by decide) rfl rfl (by decide +kernel) (hts _ (List.mem_cons_of_mem _ uM_143)) (fun _ h9 => h9) dX8_order_59 (fun H locs hP hS => ?_)
      refine lv_aload_n hx hb dX8_order_62 rfl (lv_at hl 1 rfl) ?_
      refine lv_bipush (v := 48) hx hb dX8_order_63 (by decide +kernel) ?_
      refine lv_bipush (v := 57) hx hb dX8_order_65 (by decide +kernel) ?_
      refine zc_se (va_runV (As := [.int 48, .int 57]) (rest := []) ⟨hx, hb, hml, hown, hts⟩ (c_X8_sees l V g w pa be av sl sv pd cd st (nI n) (nI (a + 1)) pl wy (a + 1) n 48 57 rfl rfl (by omega) (by omega)) (cwV 2 hts (zgV_ wsM_all uM_142 uM_145 uM_146 uM_147 uM_21) rfl rfl rfl (by decide +kernel) ⟨Nat.le_of_ble_eq_true rfl, Nat.le_of_ble_eq_true rfl⟩) (zPreV (B := fun H => va_P V.1 vwCl (zmW V g w pa be av sl sv pd cd st (nI n) (nI (a + 1)) pl wy) H) hP hE (va_recv hE.1 hP (ci := 8) (q0 := 0) (q := (RX8, TX8, 13)) rfl (zm_c0 V g w pa be av sl sv pd cd st (nI n) (nI (a + 1)) pl wy))) rfl rfl hl.1 rfl (lv_room (Nat.le_of_ble_eq_true rfl)) dX8_order_67 ⟨Nat.le_of_ble_eq_true rfl, Nat.le_of_ble_eq_true rfl⟩) ?_
      refine zbp_ne (P := (a + 1) < n ∧ (48 ≤ pd (a + 1) ∧ pd (a + 1) ≤ 57)) (tgt := 76) hx hb dX8_order_70 (by decide) (fun c_70 => ?_) (fun c_70 => ?_)
      · have hnu_ := mNum_le pd (n := n) (a := a + 1) (by omega)
        refine lv_aload_n hx hb dX8_order_76 rfl (lv_at hl 1 rfl) ?_
        refine zc_i (va_runV (As := []) (rest := []) ⟨hx, hb, hml, hown, hts⟩ (c_X8_number l V g w pa be av sl sv pd cd st (nI n) (nI (a + 1)) pl wy  n (a + 1) hJ rfl rfl (by omega) (by omega)) (cwV 0 hts (zgV_ wsM_all uM_144 uM_149 uM_150 uM_151 uM_21) rfl rfl rfl (by decide +kernel) ⟨Nat.le_of_ble_eq_true rfl, Nat.le_of_ble_eq_true rfl⟩) (zPreV (B := fun H => va_P V.1 vwCl (zmW V g w pa be av sl sv pd cd st (nI n) (nI (a + 1)) pl wy) H) hP hE (va_recv hE.1 hP (ci := 8) (q0 := 0) (q := (RX8, TX8, 13)) rfl (zm_c0 V g w pa be av sl sv pd cd st (nI n) (nI (a + 1)) pl wy))) rfl rfl hl.1 rfl (lv_room (Nat.le_of_ble_eq_true rfl)) dX8_order_77 ⟨Nat.le_of_ble_eq_true rfl, Nat.le_of_ble_eq_true rfl⟩) hS (fun _ h => h) (fun _ h => h) (fun r_ H locs hQ_ _ _ hS => ?_)
        obtain ⟨hr_, hP⟩ := hQ_
        subst hr_
        refine lv_istore_n (lv' := [(3, .int ((mNum pd n (a + 1)).1)), (2, .int sg), (0, .ref (g 0)), (1, .int 0)]) hx hb dX8_order_80 rfl hl (by decide) rfl (fun ls hl => ?_)
        refine lv_iconst (v := 0) hx hb dX8_order_81 (by decide +kernel) ?_
        refine lv_istore (lv' := [(4, .int 0), (3, .int ((mNum pd n (a + 1)).1)), (2, .int sg), (0, .ref (g 0)), (1, .int 0)]) hx hb dX8_order_82 hl (by decide) rfl (fun ls hl => ?_)
        have J_103 : ∀ (b5 : Int32) (H : Heap) (locs : List Loc) (ls : Array Slot), True → ((b5 = 1 ∧ (sg = 114 ∨ sg = 119)) ∨ (b5 = 0 ∧ ¬ (sg = 114 ∨ sg = 119))) → va_P V.1 vwCl (zmW V g w pa be av sl sv pd cd st (nI n) (nI (mNum pd n (a + 1)).2) pl wy) H → va_S (zIn 9 g) s.heap H locs → lv_has ls 6 [(5, .int b5), (4, .int 0), (3, .int ((mNum pd n (a + 1)).1)), (2, .int sg), (0, .ref (g 0)), (1, .int 0)] → W p l e (headSpec wsX8_order (zR 6 0 0)).room s m (List.toArray [.ref (g 0), .int 0]) below meth c H locs 0 0 (MQ below (zQi (fun r H => r = (if (mTok pd n a).1 = true then 0 else -3) ∧ va_P V.1 vwCl (zmW V g w pa be av sl sv pd cd st (nI n) (nI (mTok pd n a).2.1) pl wy) H) (zIn 9 g)) (List.toArray [.ref (g 0), .int 0]) s 0 0 (zIn 9 g)) (F0 m 103 ls []) := by
          intro b5 H locs ls _ hb5 hP hS hl
          rcases hb5 with ⟨rfl, hsl_⟩ | ⟨rfl, hsl_⟩
          · refine lv_iload hx hb dX8_order_103 (lv_at hl 0 rfl) ?_
            refine lv_if_eq (tgt := 167) hx hb dX8_order_105 (by decide) (fun c_105 => ?_) (fun c_105 => ?_)
            · exact absurd c_105 (by decide +kernel)
            refine lv_aload_n hx hb dX8_order_108 rfl (lv_at hl 4 rfl) ?_
            refine lv_bipush (v := 43) hx hb dX8_order_109 (by decide +kernel) ?_
            refine lv_bipush (v := 43) hx hb dX8_order_111 (by decide +kernel) ?_
            refine zc_se (va_runV (As := [.int 43, .int 43]) (rest := []) ⟨hx, hb, hml, hown, hts⟩ (c_X8_sees l V g w pa be av sl sv pd cd st (nI n) (nI (mNum pd n (a + 1)).2) pl wy ((mNum pd n (a + 1)).2) n 43 43 rfl rfl (by omega) (by omega)) (cwV 2 hts (zgV_ wsM_all uM_142 uM_145 uM_146 uM_147 uM_21) rfl rfl rfl (by decide +kernel) ⟨Nat.le_of_ble_eq_true rfl, Nat.le_of_ble_eq_true rfl⟩) (zPreV (B := fun H => va_P V.1 vwCl (zmW V g w pa be av sl sv pd cd st (nI n) (nI (mNum pd n (a + 1)).2) pl wy) H) hP hE (va_recv hE.1 hP (ci := 8) (q0 := 0) (q := (RX8, TX8, 13)) rfl (zm_c0 V g w pa be av sl sv pd cd st (nI n) (nI (mNum pd n (a + 1)).2) pl wy))) rfl rfl hl.1 rfl (lv_room (Nat.le_of_ble_eq_true rfl)) dX8_order_113 ⟨Nat.le_of_ble_eq_true rfl, Nat.le_of_ble_eq_true rfl⟩) ?_
            refine zbp_eq (P := ((mNum pd n (a + 1)).2) < n ∧ (43 ≤ pd ((mNum pd n (a + 1)).2) ∧ pd ((mNum pd n (a + 1)).2) ≤ 43)) (tgt := 167) hx hb dX8_order_116 (by decide) (fun c_116 => ?_) (fun c_116 => ?_)
            · refine lv_iload_n hx hb dX8_order_167 rfl (lv_at hl 5 rfl) ?_
              refine lv_if_ne (tgt := 173) hx hb dX8_order_168 (by decide) (fun c_168 => ?_) (fun c_168 => ?_)
              · exact absurd c_168 (by decide +kernel)
              refine lv_iconst (v := 0) hx hb dX8_order_171 (by decide +kernel) ?_
              exact zr_i hx hb hr hlocks hS (⟨by rw [show mTok pd n a = (true, (mNum pd n (a + 1)).2, mSg pd n a, (mNum pd n (a + 1)).1, 0) by rw [mTok, if_pos hsg4, if_pos c_70, if_neg (fun h => c_116 h.2)]]; rfl, by rw [show mTok pd n a = (true, (mNum pd n (a + 1)).2, mSg pd n a, (mNum pd n (a + 1)).1, 0) by rw [mTok, if_pos hsg4, if_pos c_70, if_neg (fun h => c_116 h.2)]]; exact hP⟩) dX8_order_172
            · refine lv_aload_n hx hb dX8_order_119 rfl (lv_at hl 4 rfl) ?_
              refine lv_dup hx hb dX8_order_120 rfl ?_
              refine zm_get 9 (.int (nI ((mNum pd n (a + 1)).2))) hx hb hts (fun x h => List.mem_cons_of_mem _ (hU_X8 x h)) hown hE hP (by decide) rfl (hts _ (List.mem_cons_of_mem _ uM_143)) (fun _ h9 => h9) dX8_order_121 ?_
              refine lv_iconst (v := 1) hx hb dX8_order_124 (by decide +kernel) ?_
              refine lv_iadd hx hb dX8_order_125 ?_
              refine zt_i (z_add (a := (mNum pd n (a + 1)).2) (b := 1) (by first | rfl | omega)) ?_
              refine zm_put (st' := st) (le' := (nI n)) (ap' := nI (((mNum pd n (a + 1)).2) + 1)) (pl' := pl) (wy' := wy) 9 (nI (((mNum pd n (a + 1)).2) + 1)) hx hb hts (fun x h => List.mem_cons_of_mem _ (hU_X8 x h)) hown hE hP hJ hS (by decide) rfl rfl (by decide +kernel) (hts _ (List.mem_cons_of_mem _ uM_143)) (fun _ h9 => h9) dX8_order_126 (fun H locs hP hS => ?_)
              refine lv_aload_n hx hb dX8_order_129 rfl (lv_at hl 4 rfl) ?_
              refine lv_bipush (v := 48) hx hb dX8_order_130 (by decide +kernel) ?_
              refine lv_bipush (v := 57) hx hb dX8_order_132 (by decide +kernel) ?_
              refine zc_se (va_runV (As := [.int 48, .int 57]) (rest := []) ⟨hx, hb, hml, hown, hts⟩ (c_X8_sees l V g w pa be av sl sv pd cd st (nI n) (nI (((mNum pd n (a + 1)).2) + 1)) pl wy (((mNum pd n (a + 1)).2) + 1) n 48 57 rfl rfl (by omega) (by omega)) (cwV 2 hts (zgV_ wsM_all uM_142 uM_145 uM_146 uM_147 uM_21) rfl rfl rfl (by decide +kernel) ⟨Nat.le_of_ble_eq_true rfl, Nat.le_of_ble_eq_true rfl⟩) (zPreV (B := fun H => va_P V.1 vwCl (zmW V g w pa be av sl sv pd cd st (nI n) (nI (((mNum pd n (a + 1)).2) + 1)) pl wy) H) hP hE (va_recv hE.1 hP (ci := 8) (q0 := 0) (q := (RX8, TX8, 13)) rfl (zm_c0 V g w pa be av sl sv pd cd st (nI n) (nI (((mNum pd n (a + 1)).2) + 1)) pl wy))) rfl rfl hl.1 rfl (lv_room (Nat.le_of_ble_eq_true rfl)) dX8_order_134 ⟨Nat.le_of_ble_eq_true rfl, Nat.le_of_ble_eq_true rfl⟩) ?_
              refine zbp_ne (P := (((mNum pd n (a + 1)).2) + 1) < n ∧ (48 ≤ pd (((mNum pd n (a + 1)).2) + 1) ∧ pd (((mNum pd n (a + 1)).2) + 1) ≤ 57)) (tgt := 143) hx hb dX8_order_137 (by decide) (fun c_137 => ?_) (fun c_137 => ?_)
              · refine lv_aload_n hx hb dX8_order_143 rfl (lv_at hl 4 rfl) ?_
                refine zm_get 7 (.ref (g 7)) hx hb hts (fun x h => List.mem_cons_of_mem _ (hU_X8 x h)) hown hE hP (by decide) rfl (hts _ (List.mem_cons_of_mem _ uM_12)) (fun _ h9 => h9) dX8_order_144 ?_
                refine lv_aload_n hx hb dX8_order_147 rfl (lv_at hl 4 rfl) ?_
                refine zm_get 9 (.int (nI (((mNum pd n (a + 1)).2) + 1))) hx hb hts (fun x h => List.mem_cons_of_mem _ (hU_X8 x h)) hown hE hP (by decide) rfl (hts _ (List.mem_cons_of_mem _ uM_143)) (fun _ h9 => h9) dX8_order_148 ?_
                refine z_iald (k := ((mNum pd n (a + 1)).2) + 1) hx hb hE hP 7 (zm_c7 V g w pa be av sl sv pd cd st (nI n) (nI (((mNum pd n (a + 1)).2) + 1)) pl wy) (by omega) (by decide) dX8_order_151 ?_
                refine lv_bipush (v := 48) hx hb dX8_order_152 (by decide +kernel) ?_
                refine lv_isub hx hb dX8_order_154 ?_
                refine lv_istore (lv' := [(4, .int ((pd (((mNum pd n (a + 1)).2) + 1)) - 48)), (5, .int 1), (3, .int ((mNum pd n (a + 1)).1)), (2, .int sg), (0, .ref (g 0)), (1, .int 0)]) hx hb dX8_order_155 hl (by decide) rfl (fun ls hl => ?_)
                refine lv_aload_n hx hb dX8_order_157 rfl (lv_at hl 4 rfl) ?_
                refine lv_dup hx hb dX8_order_158 rfl ?_
                refine zm_get 9 (.int (nI (((mNum pd n (a + 1)).2) + 1))) hx hb hts (fun x h => List.mem_cons_of_mem _ (hU_X8 x h)) hown hE hP (by decide) rfl (hts _ (List.mem_cons_of_mem _ uM_143)) (fun _ h9 => h9) dX8_order_159 ?_
                refine lv_iconst (v := 1) hx hb dX8_order_162 (by decide +kernel) ?_
                refine lv_iadd hx hb dX8_order_163 ?_
                refine zt_i (z_add (a := ((mNum pd n (a + 1)).2) + 1) (b := 1) (by first | rfl | omega)) ?_
                refine zm_put (st' := st) (le' := (nI n)) (ap' := nI (((mNum pd n (a + 1)).2) + 2)) (pl' := pl) (wy' := wy) 9 (nI (((mNum pd n (a + 1)).2) + 2)) hx hb hts (fun x h => List.mem_cons_of_mem _ (hU_X8 x h)) hown hE hP hJ hS (by decide) rfl rfl (by decide +kernel) (hts _ (List.mem_cons_of_mem _ uM_143)) (fun _ h9 => h9) dX8_order_164 (fun H locs hP hS => ?_)
                refine lv_iload_n hx hb dX8_order_167 rfl (lv_at hl 5 rfl) ?_
                refine lv_if_ne (tgt := 173) hx hb dX8_order_168 (by decide) (fun c_168 => ?_) (fun c_168 => ?_)
                · exact absurd c_168 (by decide +kernel)
                refine lv_iconst (v := 0) hx hb dX8_order_171 (by decide +kernel) ?_
                exact zr_i hx hb hr hlocks hS (⟨by rw [show mTok pd n a = (true, (mNum pd n (a + 1)).2 + 2, mSg pd n a, (mNum pd n (a + 1)).1, pd ((mNum pd n (a + 1)).2 + 1) - 48) by rw [mTok, if_pos hsg4, if_pos c_70, if_pos ⟨by rw [← hsg]; exact hsl_, c_116⟩, if_pos c_137]]; rfl, by rw [show mTok pd n a = (true, (mNum pd n (a + 1)).2 + 2, mSg pd n a, (mNum pd n (a + 1)).1, pd ((mNum pd n (a + 1)).2 + 1) - 48) by rw [mTok, if_pos hsg4, if_pos c_70, if_pos ⟨by rw [← hsg]; exact hsl_, c_116⟩, if_pos c_137]]; exact hP⟩) dX8_order_172
              · refine lv_bipush (v := (-3)) hx hb dX8_order_140 (by decide +kernel) ?_
                exact zr_i hx hb hr hlocks hS (⟨by rw [show mTok pd n a = (false, (mNum pd n (a + 1)).2 + 1, mSg pd n a, 0, 0) by rw [mTok, if_pos hsg4, if_pos c_70, if_pos ⟨by rw [← hsg]; exact hsl_, c_116⟩, if_neg c_137]]; rfl, by rw [show mTok pd n a = (false, (mNum pd n (a + 1)).2 + 1, mSg pd n a, 0, 0) by rw [mTok, if_pos hsg4, if_pos c_70, if_pos ⟨by rw [← hsg]; exact hsl_, c_116⟩, if_neg c_137]]; exact hP⟩) dX8_order_142
          · refine lv_iload hx hb dX8_order_103 (lv_at hl 0 rfl) ?_
            refine lv_if_eq (tgt := 167) hx hb dX8_order_105 (by decide) (fun c_105 => ?_) (fun c_105 => ?_)
            rotate_left
            · exact absurd c_105 (by decide +kernel)
            refine lv_iload_n hx hb dX8_order_167 rfl (lv_at hl 5 rfl) ?_
            refine lv_if_ne (tgt := 173) hx hb dX8_order_168 (by decide) (fun c_168 => ?_) (fun c_168 => ?_)
            · exact absurd c_168 (by decide +kernel)
            refine lv_iconst (v := 0) hx hb dX8_order_171 (by decide +kernel) ?_
            exact zr_i hx hb hr hlocks hS (⟨by rw [show mTok pd n a = (true, (mNum pd n (a + 1)).2, mSg pd n a, (mNum pd n (a + 1)).1, 0) by rw [mTok, if_pos hsg4, if_pos c_70, if_neg (fun h => hsl_ (by rw [hsg]; exact h.1))]]; rfl, by rw [show mTok pd n a = (true, (mNum pd n (a + 1)).2, mSg pd n a, (mNum pd n (a + 1)).1, 0) by rw [mTok, if_pos hsg4, if_pos c_70, if_neg (fun h => hsl_ (by rw [hsg]; exact h.1))]]; exact hP⟩) dX8_order_172
        refine lv_iload_n hx hb dX8_order_84 rfl (lv_at hl 2 rfl) ?_
        refine lv_bipush (v := 114) hx hb dX8_order_85 (by decide +kernel) ?_
        refine lv_icmp_eq (tgt := 96) hx hb dX8_order_87 (by decide) (fun c_87 => ?_) (fun c_87 => ?_)
        · refine lv_iconst (v := 1) hx hb dX8_order_96 (by decide +kernel) ?_
          refine lv_goto (tgt := 101) hx hb dX8_order_97 (by decide) ?_
          refine lv_istore (lv' := [(5, .int 1), (4, .int 0), (3, .int ((mNum pd n (a + 1)).1)), (2, .int sg), (0, .ref (g 0)), (1, .int 0)]) hx hb dX8_order_101 hl (by decide) rfl (fun ls hl => ?_)
          exact J_103 _ H locs ls trivial (by first | exact Or.inl ⟨rfl, Or.inl c_87⟩ | exact Or.inl ⟨rfl, Or.inr c_93⟩ | exact Or.inr ⟨rfl, fun h => h.elim c_87 c_93⟩) hP hS (lv_sub hl [0, 1, 2, 3, 4, 5] rfl)
        · refine lv_iload_n hx hb dX8_order_90 rfl (lv_at hl 2 rfl) ?_
          refine lv_bipush (v := 119) hx hb dX8_order_91 (by decide +kernel) ?_
          refine lv_icmp_ne (tgt := 100) hx hb dX8_order_93 (by decide) (fun c_93 => ?_) (fun c_93 => ?_)
          · refine lv_iconst (v := 0) hx hb dX8_order_100 (by decide +kernel) ?_
            refine lv_istore (lv' := [(5, .int 0), (4, .int 0), (3, .int ((mNum pd n (a + 1)).1)), (2, .int sg), (0, .ref (g 0)), (1, .int 0)]) hx hb dX8_order_101 hl (by decide) rfl (fun ls hl => ?_)
            exact J_103 _ H locs ls trivial (by first | exact Or.inl ⟨rfl, Or.inl c_87⟩ | exact Or.inl ⟨rfl, Or.inr c_93⟩ | exact Or.inr ⟨rfl, fun h => h.elim c_87 c_93⟩) hP hS (lv_sub hl [0, 1, 2, 3, 4, 5] rfl)
          · refine lv_iconst (v := 1) hx hb dX8_order_96 (by decide +kernel) ?_
            refine lv_goto (tgt := 101) hx hb dX8_order_97 (by decide) ?_
            refine lv_istore (lv' := [(5, .int 1), (4, .int 0), (3, .int ((mNum pd n (a + 1)).1)), (2, .int sg), (0, .ref (g 0)), (1, .int 0)]) hx hb dX8_order_101 hl (by decide) rfl (fun ls hl => ?_)
            exact J_103 _ H locs ls trivial (by first | exact Or.inl ⟨rfl, Or.inl c_87⟩ | exact Or.inl ⟨rfl, Or.inr c_93⟩ | exact Or.inr ⟨rfl, fun h => h.elim c_87 c_93⟩) hP hS (lv_sub hl [0, 1, 2, 3, 4, 5] rfl)
      · refine lv_bipush (v := (-3)) hx hb dX8_order_73 (by decide +kernel) ?_
        exact zr_i hx hb hr hlocks hS (⟨by rw [show mTok pd n a = (false, a + 1, mSg pd n a, 0, 0) by rw [mTok, if_pos hsg4, if_neg c_70]]; rfl, by rw [show mTok pd n a = (false, a + 1, mSg pd n a, 0, 0) by rw [mTok, if_pos hsg4, if_neg c_70]]; exact hP⟩) dX8_order_75
    refine lv_iload_n hx hb dX8_order_25 rfl (lv_at hl 0 rfl) ?_
    refine lv_bipush (v := 114) hx hb dX8_order_26 (by decide +kernel) ?_
    refine lv_icmp_eq (tgt := 52) hx hb dX8_order_28 (by decide) (fun c_28 => ?_) (fun c_28 => ?_)
    · exact J_52 ls trivial (by rw [← hsg]; first | exact Or.inl c_28 | exact Or.inr (Or.inl c_34) | exact Or.inr (Or.inr (Or.inl c_40)) | exact Or.inr (Or.inr (Or.inr c_46))) (lv_sub hl [0, 1, 2] rfl)
    · refine lv_iload_n hx hb dX8_order_31 rfl (lv_at hl 0 rfl) ?_
      refine lv_bipush (v := 119) hx hb dX8_order_32 (by decide +kernel) ?_
      refine lv_icmp_eq (tgt := 52) hx hb dX8_order_34 (by decide) (fun c_34 => ?_) (fun c_34 => ?_)
      · exact J_52 ls trivial (by rw [← hsg]; first | exact Or.inl c_28 | exact Or.inr (Or.inl c_34) | exact Or.inr (Or.inr (Or.inl c_40)) | exact Or.inr (Or.inr (Or.inr c_46))) (lv_sub hl [0, 1, 2] rfl)
      · refine lv_iload_n hx hb dX8_order_37 rfl (lv_at hl 0 rfl) ?_
        refine lv_bipush (v := 115) hx hb dX8_order_38 (by decide +kernel) ?_
        refine lv_icmp_eq (tgt := 52) hx hb dX8_order_40 (by decide) (fun c_40 => ?_) (fun c_40 => ?_)
        · exact J_52 ls trivial (by rw [← hsg]; first | exact Or.inl c_28 | exact Or.inr (Or.inl c_34) | exact Or.inr (Or.inr (Or.inl c_40)) | exact Or.inr (Or.inr (Or.inr c_46))) (lv_sub hl [0, 1, 2] rfl)
        · refine lv_iload_n hx hb dX8_order_43 rfl (lv_at hl 0 rfl) ?_
          refine lv_bipush (v := 116) hx hb dX8_order_44 (by decide +kernel) ?_
          refine lv_icmp_eq (tgt := 52) hx hb dX8_order_46 (by decide) (fun c_46 => ?_) (fun c_46 => ?_)
          · exact J_52 ls trivial (by rw [← hsg]; first | exact Or.inl c_28 | exact Or.inr (Or.inl c_34) | exact Or.inr (Or.inr (Or.inl c_40)) | exact Or.inr (Or.inr (Or.inr c_46))) (lv_sub hl [0, 1, 2] rfl)
          · refine lv_bipush (v := (-3)) hx hb dX8_order_49 (by decide +kernel) ?_
            exact zr_i hx hb hr hlocks hS (⟨by rw [show mTok pd n a = (false, a, mSg pd n a, 0, 0) by rw [mTok, if_neg (fun h => by rw [← hsg] at h; exact h.elim c_28 (fun h => h.elim c_34 (fun h => h.elim c_40 c_46)))]]; rfl, by rw [show mTok pd n a = (false, a, mSg pd n a, 0, 0) by rw [mTok, if_neg (fun h => by rw [← hsg] at h; exact h.elim c_28 (fun h => h.elim c_34 (fun h => h.elim c_40 c_46)))]]; exact hP⟩) dX8_order_51
  refine lv_aload_n hx hb dX8_order_0 rfl (lv_at hl 0 rfl) ?_
  refine zm_get 9 (.int (nI a)) hx hb hts (fun x h => List.mem_cons_of_mem _ (hU_X8 x h)) hown hE hP (by decide) rfl (hts _ (List.mem_cons_of_mem _ uM_143)) (fun _ h9 => h9) dX8_order_1 ?_
  refine lv_aload_n hx hb dX8_order_4 rfl (lv_at hl 0 rfl) ?_
  refine zm_get 8 (.int (nI n)) hx hb hts (fun x h => List.mem_cons_of_mem _ (hU_X8 x h)) hown hE hP (by decide) rfl (hts _ (List.mem_cons_of_mem _ uM_134)) (fun _ h9 => h9) dX8_order_5 ?_
  refine zb_ge (x := a) (y := n) (tgt := 23) hx hb dX8_order_8 (by decide) (by omega) (by omega) (fun c_8 => ?_) (fun c_8 => ?_)
  · refine lv_iconst (v := 0) hx hb dX8_order_23 (by decide +kernel) ?_
    exact J_24 _ ls trivial (by unfold mSg; first | rw [if_pos (by omega)] | rw [if_neg (by omega)]) (lv_sub hl [0, 1] rfl)
  · refine lv_aload_n hx hb dX8_order_11 rfl (lv_at hl 0 rfl) ?_
    refine zm_get 7 (.ref (g 7)) hx hb hts (fun x h => List.mem_cons_of_mem _ (hU_X8 x h)) hown hE hP (by decide) rfl (hts _ (List.mem_cons_of_mem _ uM_12)) (fun _ h9 => h9) dX8_order_12 ?_
    refine lv_aload_n hx hb dX8_order_15 rfl (lv_at hl 0 rfl) ?_
    refine zm_get 9 (.int (nI a)) hx hb hts (fun x h => List.mem_cons_of_mem _ (hU_X8 x h)) hown hE hP (by decide) rfl (hts _ (List.mem_cons_of_mem _ uM_143)) (fun _ h9 => h9) dX8_order_16 ?_
    refine z_iald (k := a) hx hb hE hP 7 (zm_c7 V g w pa be av sl sv pd cd st (nI n) (nI a) pl wy) (by omega) (by decide) dX8_order_19 ?_
    refine lv_goto (tgt := 24) hx hb dX8_order_20 (by decide) ?_
    exact J_24 _ ls trivial (by unfold mSg; first | rw [if_pos (by omega)] | rw [if_neg (by omega)]) (lv_sub hl [0, 1] rfl)
theorem mComes_ok {w : Nat → Int32} {n : Nat} (h : mOK w n) (wr d mm : Int32) : ∃ n', mOK (mComes w n wr d mm).2 n' ∧ n ≤ n' ∧ n' ≤ n + 1 := by
  obtain ⟨h1, h2, h3, h4⟩ := h
  unfold mComes
  by_cases hs : mSlip wr d mm
  · rw [if_pos hs]
    cases hq : mPart w n wr d mm with
    | some k =>
      have hk : k < n := (zFirst_lt hq).1
      refine ⟨n, ⟨?_, h2, fun j hj => ?_, fun j hj => ?_⟩, Nat.le_refl _, Nat.le_succ _⟩
      · show upd (upd w _ _) _ _ 7 = nI n
        simp only [upd]
        rw [if_neg (by omega), if_neg (by omega)]
        exact h1
      · show zF (upd (upd w _ _) _ _) j 1 = 0 ∨ zF (upd (upd w _ _) _ _) j 1 = 1
        unfold zF
        simp only [upd]
        rw [if_neg (by omega), if_neg (by omega)]
        exact h3 j hj
      · show 0 ≤ zF (upd (upd w _ _) _ _) j 2
        unfold zF
        simp only [upd]
        rw [if_neg (by omega), if_neg (by omega)]
        exact h4 j hj
    | none =>
      by_cases h30 : n = 30
      · refine ⟨n, ?_, Nat.le_refl _, Nat.le_succ _⟩
        show mOK (if n = 30 then ((-4 : Int32), w) else _).2 n
        rw [if_pos h30]
        exact ⟨h1, h2, h3, h4⟩
      · refine ⟨n + 1, ?_, Nat.le_succ _, Nat.le_refl _⟩
        show mOK (if n = 30 then ((-4 : Int32), w) else _).2 (n + 1)
        rw [if_neg h30]
        refine ⟨?_, by omega, fun j hj => ?_, fun j hj => ?_⟩
        · simp [upd]
        · show zF (upd (upd (upd (upd (upd (upd (upd (upd w _ _) _ _) _ _) _ _) _ _) _ _) _ _) _ _) j 1 = 0 ∨ zF (upd (upd (upd (upd (upd (upd (upd (upd w _ _) _ _) _ _) _ _) _ _) _ _) _ _) _ _) j 1 = 1
          unfold zF
          simp only [upd]
          rw [if_neg (show ¬ 78 + 6 * j + 1 = 8 by omega), if_neg (show ¬ 78 + 6 * j + 1 = 7 by omega), if_neg (show ¬ 78 + 6 * j + 1 = 78 + 6 * n + 5 by omega), if_neg (show ¬ 78 + 6 * j + 1 = 78 + 6 * n + 4 by omega), if_neg (show ¬ 78 + 6 * j + 1 = 78 + 6 * n + 3 by omega), if_neg (show ¬ 78 + 6 * j + 1 = 78 + 6 * n + 2 by omega)]
          by_cases hjn : j = n
          · rw [if_pos (by omega)]
            obtain ⟨⟨ha, hb⟩, -⟩ := hs
            obtain ⟨q, rfl, -, hq1⟩ := z_ix (na := 0) (nb := 1) rfl rfl (by decide) (by decide) ⟨ha, hb⟩
            rcases (show q = 0 ∨ q = 1 by omega) with rfl | rfl
            · exact Or.inl rfl
            · exact Or.inr rfl
          · rw [if_neg (show ¬ 78 + 6 * j + 1 = 78 + 6 * n + 1 by omega), if_neg (show ¬ 78 + 6 * j + 1 = 78 + 6 * n by omega)]
            exact h3 j (by omega)
        · show 0 ≤ zF (upd (upd (upd (upd (upd (upd (upd (upd w _ _) _ _) _ _) _ _) _ _) _ _) _ _) _ _) j 2
          unfold zF
          simp only [upd]
          rw [if_neg (show ¬ 78 + 6 * j + 2 = 8 by omega), if_neg (show ¬ 78 + 6 * j + 2 = 7 by omega), if_neg (show ¬ 78 + 6 * j + 2 = 78 + 6 * n + 5 by omega), if_neg (show ¬ 78 + 6 * j + 2 = 78 + 6 * n + 4 by omega), if_neg (show ¬ 78 + 6 * j + 2 = 78 + 6 * n + 3 by omega)]
          by_cases hjn : j = n
          · rw [if_pos (by omega)]
            exact hs.2.1.1
          · rw [if_neg (show ¬ 78 + 6 * j + 2 = 78 + 6 * n + 2 by omega), if_neg (show ¬ 78 + 6 * j + 2 = 78 + 6 * n + 1 by omega), if_neg (show ¬ 78 + 6 * j + 2 = 78 + 6 * n by omega)]
            exact h4 j (by omega)
  · rw [if_neg hs]
    exact ⟨n, ⟨h1, h2, h3, h4⟩, Nat.le_refl _, Nat.le_succ _⟩
theorem mServes_ok {w : Nat → Int32} {n : Nat} (h : mOK w n) (many : Int32) : ∃ n', mOK (mServes w n many).2 n' ∧ n' ≤ n := by
  unfold mServes
  split
  · split
    · exact ⟨n, h, Nat.le_refl _⟩
    · split
      · exact ⟨n, h, Nat.le_refl _⟩
      · exact ⟨n - min many.toNatClampNeg n, mRun_ok h (by omega), by omega⟩
  · exact ⟨n, h, Nat.le_refl _⟩
theorem mWaits_ok {w : Nat → Int32} {n : Nat} (h : mOK w n) (mi : Int32) : mOK (mWaits w mi).2 n := by
  unfold mWaits
  split
  · split
    · exact h
    · obtain ⟨h1, h2, h3, h4⟩ := h
      have e : ∀ x k f, zF (upd w 6 x) k f = zF w k f := fun x k f => by unfold zF upd; exact if_neg (by omega)
      exact ⟨h1, h2, fun k hk => by rw [e]; exact h3 k hk, fun k hk => by rw [e]; exact h4 k hk⟩
  · exact h
theorem mDo_ok {w : Nat → Int32} {n : Nat} (h : mOK w n) (t : Bool × Nat × Int32 × Int32 × Int32) : ∃ n', mOK (mDo w n t).2 n' := by
  unfold mDo
  split
  · obtain ⟨n', h', -⟩ := mComes_ok h (if t.2.2.1 = 119 then 1 else 0) t.2.2.2.1 (1 + t.2.2.2.2)
    exact ⟨n', h'⟩
  · split
    · obtain ⟨n', h', -⟩ := mServes_ok h t.2.2.2.1
      exact ⟨n', h'⟩
    · exact ⟨n, mWaits_ok h _⟩
theorem nOf_ok {w : Nat → Int32} {n : Nat} (h : mOK w n) : nOf w = n := by unfold nOf; rw [h.1, nI_clamp (by have := h.2.1; omega)]
theorem mWl_stop (pd : Nat → Int32) (n : Nat) {s : Bool × Nat} (h : ¬ (s.1 = true ∧ s.2 < n)) : ∀ f, mWl pd n f s = s
  | 0 => rfl
  | f + 1 => if_neg h
theorem mCO_stop (pd : Nat → Int32) (n : Nat) {s : Bool × Nat × (Nat → Int32) × Nat} (h : ¬ (s.1 = true ∧ s.2.1 < n)) : ∀ f, mCO pd n f s = (s.2.2.1, s.2.2.2)
  | 0 => rfl
  | f + 1 => if_neg h
set_option maxHeartbeats 4000000 in
set_option maxRecDepth 100000 in
theorem c_X8_order1 (l : Launch) (V : zV) (g : Nat → Nat) (w pa be av sl sv pd cd : Nat → Int32) (st le ap pl wy : Int32) (n a m_ : Nat) (hJ : zInj 9 g) (hle : le = nI n) (hap : ap = nI a) (h80 : n ≤ 80) (han : a ≤ n) (hok : mOK w m_) : Met l yX8_order wsX8_order (zR 6 0 0) (zPc V [.ref (g 0), .int 1] (fun H => va_P V.1 vwCl (zmW V g w pa be av sl sv pd cd st le ap pl wy) H)) (zQi (fun r H => r = (if (mTok pd n a).1 = true then (mDo w m_ (mTok pd n a)).1 else -3) ∧ (∃ av' : Nat → Int32, ∃ pl' : Int32, ∃ wy' : Int32, va_P V.1 vwCl (zmW V g (if (mTok pd n a).1 = true then (mDo w m_ (mTok pd n a)).2 else w) pa be av' sl sv pd cd st le (nI (mTok pd n a).2.1) pl' wy') H)) (zIn 9 g)) 0 0 (zIn 9 g) := by
  refine Met.ofW (cc := cX8_order) (maxL := 6) (ret := (some .int)) (by decide) rfl ?_
  intro p e s m args below meth c s₁ B hml hv
  obtain ⟨rfl, hP, hE⟩ := hv
  have hx := B.exec
  have hb := B.bytes
  have hr := B.returns
  have hts := atoms_spec (ws := wsX8_order) B.pre
  have hown : s.vm.findClass RX8 = some m.cls := findClass_of_methodNamed B.named
  have hlocks := B.notSynchronized
  have hl := lv_entry ([.ref (g 0), .int 1]) (n := 6) (Nat.le_of_ble_eq_true rfl)
  rw [lg_entry_eq]
  generalize (lg_sl ([.ref (g 0), .int 1]) ++ List.replicate (6 - (lg_sl ([.ref (g 0), .int 1])).length) Slot.unset).toArray = ls at hl ⊢
  have hl : lv_has ls 6 [(0, .ref (g 0)), (1, .int 1)] := hl
  have hS : va_S (zIn 9 g) s.heap s.heap [] := va_S.rf
  subst hap
  subst hle
  have hok0 : mOK w m_ := hok
  obtain ⟨hn, h30, hwr, hfd⟩ := hok
  have J_24 : ∀ (sg : Int32) (ls : Array Slot), True → (sg = mSg pd n a) → lv_has ls 6 [(0, .ref (g 0)), (1, .int 1)] → W p l e (headSpec wsX8_order (zR 6 0 0)).room s m (List.toArray [.ref (g 0), .int 1]) below meth c s.heap [] 0 0 (MQ below (zQi (fun r H => r = (if (mTok pd n a).1 = true then (mDo w m_ (mTok pd n a)).1 else -3) ∧ (∃ av' : Nat → Int32, ∃ pl' : Int32, ∃ wy' : Int32, va_P V.1 vwCl (zmW V g (if (mTok pd n a).1 = true then (mDo w m_ (mTok pd n a)).2 else w) pa be av' sl sv pd cd st (nI n) (nI (mTok pd n a).2.1) pl' wy') H)) (zIn 9 g)) (List.toArray [.ref (g 0), .int 1]) s 0 0 (zIn 9 g)) (F0 m 24 ls [.int sg]) := by
    intro sg  ls _ hsg  hl
    refine lv_istore_n (lv' := [(2, .int sg), (0, .ref (g 0)), (1, .int 1)]) hx hb dX8_order_24 rfl hl (by decide) rfl (fun ls hl => ?_)
    have J_52 : ∀ (ls : Array Slot), True → (mSg pd n a = 114 ∨ mSg pd n a = 119 ∨ mSg pd n a = 115 ∨ mSg pd n a = 116) → lv_has ls 6 [(2, .int sg), (0, .ref (g 0)), (1, .int 1)] → W p l e (headSpec wsX8_order (zR 6 0 0)).room s m (List.toArray [.ref (g 0), .int 1]) below meth c s.heap [] 0 0 (MQ below (zQi (fun r H => r = (if (mTok pd n a).1 = true then (mDo w m_ (mTok pd n a)).1 else -3) ∧ (∃ av' : Nat → Int32, ∃ pl' : Int32, ∃ wy' : Int32, va_P V.1 vwCl (zmW V g (if (mTok pd n a).1 = true then (mDo w m_ (mTok pd n a)).2 else w) pa be av' sl sv pd cd st (nI n) (nI (mTok pd n a).2.1) pl' wy') H)) (zIn 9 g)) (List.toArray [.ref (g 0), .int 1]) s 0 0 (zIn 9 g)) (F0 m 52 ls []) := by
      intro   ls _ hsg4  hl
      have han : a < n := by
        rcases Nat.lt_or_ge a n with q | q
        · exact q
        · exfalso; have e0 : mSg pd n a = 0 := if_neg (by omega)
          rw [e0] at hsg4; revert hsg4; decide
      refine lv_aload_n hx hb dX8_order_52 rfl (lv_at hl 1 rfl) ?_
      refine lv_dup hx hb dX8_order_53 rfl ?_
      refine zm_get 9 (.int (nI a)) hx hb hts (fun x h => List.mem_cons_of_mem _ (hU_X8 x h)) hown hE hP (by decide) rfl (hts _ (List.mem_cons_of_mem _ uM_143)) (fun _ h9 => h9) dX8_order_54 ?_
      refine lv_iconst (v := 1) hx hb dX8_order_57 (by decide +kernel) ?_
      refine lv_iadd hx hb dX8_order_58 ?_
      refine zt_i (z_add (a := a) (b := 1) (by first | rfl | omega)) ?_
      refine zm_put (st' := st) (le' := (nI n)) (ap' := nI (a + 1)) (pl' := pl) (wy' := wy) 9 (nI (a + 1)) hx hb hts (fun x h => List.mem_cons_of_mem _ (hU_X8 x h)) hown hE hP hJ hS (by decide) rfl rfl (by decide +kernel) (hts _ (List.mem_cons_of_mem _ uM_143)) (fun _ h9 => h9) dX8_order_59 (fun H locs hP hS => ?_)
      refine lv_aload_n hx hb dX8_order_62 rfl (lv_at hl 1 rfl) ?_
      refine lv_bipush (v := 48) hx hb dX8_order_63 (by decide +kernel) ?_
      refine lv_bipush (v := 57) hx hb dX8_order_65 (by decide +kernel) ?_
      refine zc_se (va_runV (As := [.int 48, .int 57]) (rest := []) ⟨hx, hb, hml, hown, hts⟩ (c_X8_sees l V g w pa be av sl sv pd cd st (nI n) (nI (a + 1)) pl wy (a + 1) n 48 57 rfl rfl (by omega) (by omega)) (cwV 2 hts (zgV_ wsM_all uM_142 uM_145 uM_146 uM_147 uM_21) rfl rfl rfl (by decide +kernel) ⟨Nat.le_of_ble_eq_true rfl, Nat.le_of_ble_eq_true rfl⟩) (zPreV (B := fun H => va_P V.1 vwCl (zmW V g w pa be av sl sv pd cd st (nI n) (nI (a + 1)) pl wy) H) hP hE (va_recv hE.1 hP (ci := 8) (q0 := 0) (q := (RX8, TX8, 13)) rfl (zm_c0 V g w pa be av sl sv pd cd st (nI n) (nI (a + 1)) pl wy))) rfl rfl hl.1 rfl (lv_room (Nat.le_of_ble_eq_true rfl)) dX8_order_67 ⟨Nat.le_of_ble_eq_true rfl, Nat.le_of_ble_eq_true rfl⟩) ?_
      refine zbp_ne (P := (a + 1) < n ∧ (48 ≤ pd (a + 1) ∧ pd (a + 1) ≤ 57)) (tgt := 76) hx hb dX8_order_70 (by decide) (fun c_70 => ?_) (fun c_70 => ?_)
      · have hnu_ := mNum_le pd (n := n) (a := a + 1) (by omega)
        refine lv_aload_n hx hb dX8_order_76 rfl (lv_at hl 1 rfl) ?_
        refine zc_i (va_runV (As := []) (rest := []) ⟨hx, hb, hml, hown, hts⟩ (c_X8_number l V g w pa be av sl sv pd cd st (nI n) (nI (a + 1)) pl wy  n (a + 1) hJ rfl rfl (by omega) (by omega)) (cwV 0 hts (zgV_ wsM_all uM_144 uM_149 uM_150 uM_151 uM_21) rfl rfl rfl (by decide +kernel) ⟨Nat.le_of_ble_eq_true rfl, Nat.le_of_ble_eq_true rfl⟩) (zPreV (B := fun H => va_P V.1 vwCl (zmW V g w pa be av sl sv pd cd st (nI n) (nI (a + 1)) pl wy) H) hP hE (va_recv hE.1 hP (ci := 8) (q0 := 0) (q := (RX8, TX8, 13)) rfl (zm_c0 V g w pa be av sl sv pd cd st (nI n) (nI (a + 1)) pl wy))) rfl rfl hl.1 rfl (lv_room (Nat.le_of_ble_eq_true rfl)) dX8_order_77 ⟨Nat.le_of_ble_eq_true rfl, Nat.le_of_ble_eq_true rfl⟩) hS (fun _ h => h) (fun _ h => h) (fun r_ H locs hQ_ _ _ hS => ?_)
        obtain ⟨hr_, hP⟩ := hQ_
        subst hr_
        refine lv_istore_n (lv' := [(3, .int ((mNum pd n (a + 1)).1)), (2, .int sg), (0, .ref (g 0)), (1, .int 1)]) hx hb dX8_order_80 rfl hl (by decide) rfl (fun ls hl => ?_)
        refine lv_iconst (v := 0) hx hb dX8_order_81 (by decide +kernel) ?_
        refine lv_istore (lv' := [(4, .int 0), (3, .int ((mNum pd n (a + 1)).1)), (2, .int sg), (0, .ref (g 0)), (1, .int 1)]) hx hb dX8_order_82 hl (by decide) rfl (fun ls hl => ?_)
        have J_103 : ∀ (b5 : Int32) (H : Heap) (locs : List Loc) (ls : Array Slot), True → ((b5 = 1 ∧ (sg = 114 ∨ sg = 119)) ∨ (b5 = 0 ∧ ¬ (sg = 114 ∨ sg = 119))) → va_P V.1 vwCl (zmW V g w pa be av sl sv pd cd st (nI n) (nI (mNum pd n (a + 1)).2) pl wy) H → va_S (zIn 9 g) s.heap H locs → lv_has ls 6 [(5, .int b5), (4, .int 0), (3, .int ((mNum pd n (a + 1)).1)), (2, .int sg), (0, .ref (g 0)), (1, .int 1)] → W p l e (headSpec wsX8_order (zR 6 0 0)).room s m (List.toArray [.ref (g 0), .int 1]) below meth c H locs 0 0 (MQ below (zQi (fun r H => r = (if (mTok pd n a).1 = true then (mDo w m_ (mTok pd n a)).1 else -3) ∧ (∃ av' : Nat → Int32, ∃ pl' : Int32, ∃ wy' : Int32, va_P V.1 vwCl (zmW V g (if (mTok pd n a).1 = true then (mDo w m_ (mTok pd n a)).2 else w) pa be av' sl sv pd cd st (nI n) (nI (mTok pd n a).2.1) pl' wy') H)) (zIn 9 g)) (List.toArray [.ref (g 0), .int 1]) s 0 0 (zIn 9 g)) (F0 m 103 ls []) := by
          intro b5 H locs ls _ hb5 hP hS hl
          rcases hb5 with ⟨rfl, hsl_⟩ | ⟨rfl, hsl_⟩
          · refine lv_iload hx hb dX8_order_103 (lv_at hl 0 rfl) ?_
            refine lv_if_eq (tgt := 167) hx hb dX8_order_105 (by decide) (fun c_105 => ?_) (fun c_105 => ?_)
            · exact absurd c_105 (by decide +kernel)
            refine lv_aload_n hx hb dX8_order_108 rfl (lv_at hl 4 rfl) ?_
            refine lv_bipush (v := 43) hx hb dX8_order_109 (by decide +kernel) ?_
            refine lv_bipush (v := 43) hx hb dX8_order_111 (by decide +kernel) ?_
            refine zc_se (va_runV (As := [.int 43, .int 43]) (rest := []) ⟨hx, hb, hml, hown, hts⟩ (c_X8_sees l V g w pa be av sl sv pd cd st (nI n) (nI (mNum pd n (a + 1)).2) pl wy ((mNum pd n (a + 1)).2) n 43 43 rfl rfl (by omega) (by omega)) (cwV 2 hts (zgV_ wsM_all uM_142 uM_145 uM_146 uM_147 uM_21) rfl rfl rfl (by decide +kernel) ⟨Nat.le_of_ble_eq_true rfl, Nat.le_of_ble_eq_true rfl⟩) (zPreV (B := fun H => va_P V.1 vwCl (zmW V g w pa be av sl sv pd cd st (nI n) (nI (mNum pd n (a + 1)).2) pl wy) H) hP hE (va_recv hE.1 hP (ci := 8) (q0 := 0) (q := (RX8, TX8, 13)) rfl (zm_c0 V g w pa be av sl sv pd cd st (nI n) (nI (mNum pd n (a + 1)).2) pl wy))) rfl rfl hl.1 rfl (lv_room (Nat.le_of_ble_eq_true rfl)) dX8_order_113 ⟨Nat.le_of_ble_eq_true rfl, Nat.le_of_ble_eq_true rfl⟩) ?_
            refine zbp_eq (P := ((mNum pd n (a + 1)).2) < n ∧ (43 ≤ pd ((mNum pd n (a + 1)).2) ∧ pd ((mNum pd n (a + 1)).2) ≤ 43)) (tgt := 167) hx hb dX8_order_116 (by decide) (fun c_116 => ?_) (fun c_116 => ?_)
            · refine lv_iload_n hx hb dX8_order_167 rfl (lv_at hl 5 rfl) ?_
              refine lv_if_ne (tgt := 173) hx hb dX8_order_168 (by decide) (fun c_168 => ?_) (fun c_168 => ?_)
              rotate_left
              · exact absurd c_168 (by decide +kernel)
              refine lv_iload hx hb dX8_order_173 (lv_at hl 0 rfl) ?_
              refine lv_if_eq (tgt := 201) hx hb dX8_order_175 (by decide) (fun c_175 => ?_) (fun c_175 => ?_)
              · exact absurd c_175 (by decide +kernel)
              refine lv_aload_n hx hb dX8_order_178 rfl (lv_at hl 4 rfl) ?_
              refine lv_iload_n hx hb dX8_order_179 rfl (lv_at hl 3 rfl) ?_
              refine lv_bipush (v := 119) hx hb dX8_order_180 (by decide +kernel) ?_
              refine lv_icmp_ne (tgt := 189) hx hb dX8_order_182 (by decide) (fun c_182 => ?_) (fun c_182 => ?_)
              · refine lv_iconst (v := 0) hx hb dX8_order_189 (by decide +kernel) ?_
                refine lv_iload_n hx hb dX8_order_190 rfl (lv_at hl 2 rfl) ?_
                refine lv_iconst (v := 1) hx hb dX8_order_191 (by decide +kernel) ?_
                refine lv_iload hx hb dX8_order_192 (lv_at hl 1 rfl) ?_
                refine lv_iadd hx hb dX8_order_194 ?_
                refine zt_i (z_add (a := 1) (b := 0) (by first | rfl | omega)) ?_
                refine zc_i (va_runV (As := [.int 0, .int ((mNum pd n (a + 1)).1), .int 1]) (rest := []) ⟨hx, hb, hml, hown, hts⟩ (c_X8_comes l V g w pa be av sl sv pd cd st (nI n) (nI (mNum pd n (a + 1)).2) pl wy  m_ 0 ((mNum pd n (a + 1)).1) 1 hJ hn (by omega)) (cwV 3 hts (zgV_ wsM_all uM_85 uM_111 uM_112 uM_113 uM_21) rfl rfl rfl (by decide +kernel) ⟨Nat.le_of_ble_eq_true rfl, Nat.le_of_ble_eq_true rfl⟩) (zPreV (B := fun H => va_P V.1 vwCl (zmW V g w pa be av sl sv pd cd st (nI n) (nI (mNum pd n (a + 1)).2) pl wy) H) hP hE (va_recv hE.1 hP (ci := 8) (q0 := 0) (q := (RX8, TX8, 13)) rfl (zm_c0 V g w pa be av sl sv pd cd st (nI n) (nI (mNum pd n (a + 1)).2) pl wy))) rfl rfl hl.1 rfl (lv_room (Nat.le_of_ble_eq_true rfl)) dX8_order_195 ⟨Nat.le_of_ble_eq_true rfl, Nat.le_of_ble_eq_true rfl⟩) hS (fun _ h => h) (fun _ h => h) (fun r_ H locs hQ_ _ _ hS => ?_)
                obtain ⟨hr_, hP⟩ := hQ_
                subst hr_
                refine lv_goto (tgt := 220) hx hb dX8_order_198 (by decide) ?_
                have htk_ : mTok pd n a = (true, (mNum pd n (a + 1)).2, mSg pd n a, (mNum pd n (a + 1)).1, 0) := by rw [mTok, if_pos hsg4, if_pos c_70, if_neg (fun h => c_116 h.2)]
                have hdo_ : mDo w m_ (true, (mNum pd n (a + 1)).2, mSg pd n a, (mNum pd n (a + 1)).1, 0) = mComes w m_ 0 ((mNum pd n (a + 1)).1) 1 := by unfold mDo; dsimp only; rw [← hsg, if_pos hsl_, if_neg c_182]; rfl
                exact zr_i hx hb hr hlocks hS (⟨by rw [htk_]; exact (congrArg Prod.fst hdo_).symm, _, _, _, by rw [htk_, if_pos rfl, hdo_]; exact hP⟩) dX8_order_220
              · refine lv_iconst (v := 1) hx hb dX8_order_185 (by decide +kernel) ?_
                refine lv_goto (tgt := 190) hx hb dX8_order_186 (by decide) ?_
                refine lv_iload_n hx hb dX8_order_190 rfl (lv_at hl 2 rfl) ?_
                refine lv_iconst (v := 1) hx hb dX8_order_191 (by decide +kernel) ?_
                refine lv_iload hx hb dX8_order_192 (lv_at hl 1 rfl) ?_
                refine lv_iadd hx hb dX8_order_194 ?_
                refine zt_i (z_add (a := 1) (b := 0) (by first | rfl | omega)) ?_
                refine zc_i (va_runV (As := [.int 1, .int ((mNum pd n (a + 1)).1), .int 1]) (rest := []) ⟨hx, hb, hml, hown, hts⟩ (c_X8_comes l V g w pa be av sl sv pd cd st (nI n) (nI (mNum pd n (a + 1)).2) pl wy  m_ 1 ((mNum pd n (a + 1)).1) 1 hJ hn (by omega)) (cwV 3 hts (zgV_ wsM_all uM_85 uM_111 uM_112 uM_113 uM_21) rfl rfl rfl (by decide +kernel) ⟨Nat.le_of_ble_eq_true rfl, Nat.le_of_ble_eq_true rfl⟩) (zPreV (B := fun H => va_P V.1 vwCl (zmW V g w pa be av sl sv pd cd st (nI n) (nI (mNum pd n (a + 1)).2) pl wy) H) hP hE (va_recv hE.1 hP (ci := 8) (q0 := 0) (q := (RX8, TX8, 13)) rfl (zm_c0 V g w pa be av sl sv pd cd st (nI n) (nI (mNum pd n (a + 1)).2) pl wy))) rfl rfl hl.1 rfl (lv_room (Nat.le_of_ble_eq_true rfl)) dX8_order_195 ⟨Nat.le_of_ble_eq_true rfl, Nat.le_of_ble_eq_true rfl⟩) hS (fun _ h => h) (fun _ h => h) (fun r_ H locs hQ_ _ _ hS => ?_)
                obtain ⟨hr_, hP⟩ := hQ_
                subst hr_
                refine lv_goto (tgt := 220) hx hb dX8_order_198 (by decide) ?_
                have htk_ : mTok pd n a = (true, (mNum pd n (a + 1)).2, mSg pd n a, (mNum pd n (a + 1)).1, 0) := by rw [mTok, if_pos hsg4, if_pos c_70, if_neg (fun h => c_116 h.2)]
                have hdo_ : mDo w m_ (true, (mNum pd n (a + 1)).2, mSg pd n a, (mNum pd n (a + 1)).1, 0) = mComes w m_ 1 ((mNum pd n (a + 1)).1) 1 := by unfold mDo; dsimp only; rw [← hsg, if_pos hsl_, if_pos c_182]; rfl
                exact zr_i hx hb hr hlocks hS (⟨by rw [htk_]; exact (congrArg Prod.fst hdo_).symm, _, _, _, by rw [htk_, if_pos rfl, hdo_]; exact hP⟩) dX8_order_220
            · refine lv_aload_n hx hb dX8_order_119 rfl (lv_at hl 4 rfl) ?_
              refine lv_dup hx hb dX8_order_120 rfl ?_
              refine zm_get 9 (.int (nI ((mNum pd n (a + 1)).2))) hx hb hts (fun x h => List.mem_cons_of_mem _ (hU_X8 x h)) hown hE hP (by decide) rfl (hts _ (List.mem_cons_of_mem _ uM_143)) (fun _ h9 => h9) dX8_order_121 ?_
              refine lv_iconst (v := 1) hx hb dX8_order_124 (by decide +kernel) ?_
              refine lv_iadd hx hb dX8_order_125 ?_
              refine zt_i (z_add (a := (mNum pd n (a + 1)).2) (b := 1) (by first | rfl | omega)) ?_
              refine zm_put (st' := st) (le' := (nI n)) (ap' := nI (((mNum pd n (a + 1)).2) + 1)) (pl' := pl) (wy' := wy) 9 (nI (((mNum pd n (a + 1)).2) + 1)) hx hb hts (fun x h => List.mem_cons_of_mem _ (hU_X8 x h)) hown hE hP hJ hS (by decide) rfl rfl (by decide +kernel) (hts _ (List.mem_cons_of_mem _ uM_143)) (fun _ h9 => h9) dX8_order_126 (fun H locs hP hS => ?_)
              refine lv_aload_n hx hb dX8_order_129 rfl (lv_at hl 4 rfl) ?_
              refine lv_bipush (v := 48) hx hb dX8_order_130 (by decide +kernel) ?_
              refine lv_bipush (v := 57) hx hb dX8_order_132 (by decide +kernel) ?_
              refine zc_se (va_runV (As := [.int 48, .int 57]) (rest := []) ⟨hx, hb, hml, hown, hts⟩ (c_X8_sees l V g w pa be av sl sv pd cd st (nI n) (nI (((mNum pd n (a + 1)).2) + 1)) pl wy (((mNum pd n (a + 1)).2) + 1) n 48 57 rfl rfl (by omega) (by omega)) (cwV 2 hts (zgV_ wsM_all uM_142 uM_145 uM_146 uM_147 uM_21) rfl rfl rfl (by decide +kernel) ⟨Nat.le_of_ble_eq_true rfl, Nat.le_of_ble_eq_true rfl⟩) (zPreV (B := fun H => va_P V.1 vwCl (zmW V g w pa be av sl sv pd cd st (nI n) (nI (((mNum pd n (a + 1)).2) + 1)) pl wy) H) hP hE (va_recv hE.1 hP (ci := 8) (q0 := 0) (q := (RX8, TX8, 13)) rfl (zm_c0 V g w pa be av sl sv pd cd st (nI n) (nI (((mNum pd n (a + 1)).2) + 1)) pl wy))) rfl rfl hl.1 rfl (lv_room (Nat.le_of_ble_eq_true rfl)) dX8_order_134 ⟨Nat.le_of_ble_eq_true rfl, Nat.le_of_ble_eq_true rfl⟩) ?_
              refine zbp_ne (P := (((mNum pd n (a + 1)).2) + 1) < n ∧ (48 ≤ pd (((mNum pd n (a + 1)).2) + 1) ∧ pd (((mNum pd n (a + 1)).2) + 1) ≤ 57)) (tgt := 143) hx hb dX8_order_137 (by decide) (fun c_137 => ?_) (fun c_137 => ?_)
              · refine lv_aload_n hx hb dX8_order_143 rfl (lv_at hl 4 rfl) ?_
                refine zm_get 7 (.ref (g 7)) hx hb hts (fun x h => List.mem_cons_of_mem _ (hU_X8 x h)) hown hE hP (by decide) rfl (hts _ (List.mem_cons_of_mem _ uM_12)) (fun _ h9 => h9) dX8_order_144 ?_
                refine lv_aload_n hx hb dX8_order_147 rfl (lv_at hl 4 rfl) ?_
                refine zm_get 9 (.int (nI (((mNum pd n (a + 1)).2) + 1))) hx hb hts (fun x h => List.mem_cons_of_mem _ (hU_X8 x h)) hown hE hP (by decide) rfl (hts _ (List.mem_cons_of_mem _ uM_143)) (fun _ h9 => h9) dX8_order_148 ?_
                refine z_iald (k := ((mNum pd n (a + 1)).2) + 1) hx hb hE hP 7 (zm_c7 V g w pa be av sl sv pd cd st (nI n) (nI (((mNum pd n (a + 1)).2) + 1)) pl wy) (by omega) (by decide) dX8_order_151 ?_
                refine lv_bipush (v := 48) hx hb dX8_order_152 (by decide +kernel) ?_
                refine lv_isub hx hb dX8_order_154 ?_
                refine lv_istore (lv' := [(4, .int ((pd (((mNum pd n (a + 1)).2) + 1)) - 48)), (5, .int 1), (3, .int ((mNum pd n (a + 1)).1)), (2, .int sg), (0, .ref (g 0)), (1, .int 1)]) hx hb dX8_order_155 hl (by decide) rfl (fun ls hl => ?_)
                refine lv_aload_n hx hb dX8_order_157 rfl (lv_at hl 4 rfl) ?_
                refine lv_dup hx hb dX8_order_158 rfl ?_
                refine zm_get 9 (.int (nI (((mNum pd n (a + 1)).2) + 1))) hx hb hts (fun x h => List.mem_cons_of_mem _ (hU_X8 x h)) hown hE hP (by decide) rfl (hts _ (List.mem_cons_of_mem _ uM_143)) (fun _ h9 => h9) dX8_order_159 ?_
                refine lv_iconst (v := 1) hx hb dX8_order_162 (by decide +kernel) ?_
                refine lv_iadd hx hb dX8_order_163 ?_
                refine zt_i (z_add (a := ((mNum pd n (a + 1)).2) + 1) (b := 1) (by first | rfl | omega)) ?_
                refine zm_put (st' := st) (le' := (nI n)) (ap' := nI (((mNum pd n (a + 1)).2) + 2)) (pl' := pl) (wy' := wy) 9 (nI (((mNum pd n (a + 1)).2) + 2)) hx hb hts (fun x h => List.mem_cons_of_mem _ (hU_X8 x h)) hown hE hP hJ hS (by decide) rfl rfl (by decide +kernel) (hts _ (List.mem_cons_of_mem _ uM_143)) (fun _ h9 => h9) dX8_order_164 (fun H locs hP hS => ?_)
                refine lv_iload_n hx hb dX8_order_167 rfl (lv_at hl 5 rfl) ?_
                refine lv_if_ne (tgt := 173) hx hb dX8_order_168 (by decide) (fun c_168 => ?_) (fun c_168 => ?_)
                rotate_left
                · exact absurd c_168 (by decide +kernel)
                refine lv_iload hx hb dX8_order_173 (lv_at hl 1 rfl) ?_
                refine lv_if_eq (tgt := 201) hx hb dX8_order_175 (by decide) (fun c_175 => ?_) (fun c_175 => ?_)
                · exact absurd c_175 (by decide +kernel)
                refine lv_aload_n hx hb dX8_order_178 rfl (lv_at hl 4 rfl) ?_
                refine lv_iload_n hx hb dX8_order_179 rfl (lv_at hl 3 rfl) ?_
                refine lv_bipush (v := 119) hx hb dX8_order_180 (by decide +kernel) ?_
                refine lv_icmp_ne (tgt := 189) hx hb dX8_order_182 (by decide) (fun c_182 => ?_) (fun c_182 => ?_)
                · refine lv_iconst (v := 0) hx hb dX8_order_189 (by decide +kernel) ?_
                  refine lv_iload_n hx hb dX8_order_190 rfl (lv_at hl 2 rfl) ?_
                  refine lv_iconst (v := 1) hx hb dX8_order_191 (by decide +kernel) ?_
                  refine lv_iload hx hb dX8_order_192 (lv_at hl 0 rfl) ?_
                  refine lv_iadd hx hb dX8_order_194 ?_
                  refine zc_i (va_runV (As := [.int 0, .int ((mNum pd n (a + 1)).1), .int (1 + ((pd (((mNum pd n (a + 1)).2) + 1)) - 48))]) (rest := []) ⟨hx, hb, hml, hown, hts⟩ (c_X8_comes l V g w pa be av sl sv pd cd st (nI n) (nI (((mNum pd n (a + 1)).2) + 2)) pl wy  m_ 0 ((mNum pd n (a + 1)).1) (1 + ((pd (((mNum pd n (a + 1)).2) + 1)) - 48)) hJ hn (by omega)) (cwV 3 hts (zgV_ wsM_all uM_85 uM_111 uM_112 uM_113 uM_21) rfl rfl rfl (by decide +kernel) ⟨Nat.le_of_ble_eq_true rfl, Nat.le_of_ble_eq_true rfl⟩) (zPreV (B := fun H => va_P V.1 vwCl (zmW V g w pa be av sl sv pd cd st (nI n) (nI (((mNum pd n (a + 1)).2) + 2)) pl wy) H) hP hE (va_recv hE.1 hP (ci := 8) (q0 := 0) (q := (RX8, TX8, 13)) rfl (zm_c0 V g w pa be av sl sv pd cd st (nI n) (nI (((mNum pd n (a + 1)).2) + 2)) pl wy))) rfl rfl hl.1 rfl (lv_room (Nat.le_of_ble_eq_true rfl)) dX8_order_195 ⟨Nat.le_of_ble_eq_true rfl, Nat.le_of_ble_eq_true rfl⟩) hS (fun _ h => h) (fun _ h => h) (fun r_ H locs hQ_ _ _ hS => ?_)
                  obtain ⟨hr_, hP⟩ := hQ_
                  subst hr_
                  refine lv_goto (tgt := 220) hx hb dX8_order_198 (by decide) ?_
                  have htk_ : mTok pd n a = (true, (mNum pd n (a + 1)).2 + 2, mSg pd n a, (mNum pd n (a + 1)).1, pd ((mNum pd n (a + 1)).2 + 1) - 48) := by rw [mTok, if_pos hsg4, if_pos c_70, if_pos ⟨by rw [← hsg]; exact hsl_, c_116⟩, if_pos c_137]
                  have hdo_ : mDo w m_ (true, (mNum pd n (a + 1)).2 + 2, mSg pd n a, (mNum pd n (a + 1)).1, pd ((mNum pd n (a + 1)).2 + 1) - 48) = mComes w m_ 0 ((mNum pd n (a + 1)).1) (1 + ((pd (((mNum pd n (a + 1)).2) + 1)) - 48)) := by unfold mDo; dsimp only; rw [← hsg, if_pos hsl_, if_neg c_182]
                  exact zr_i hx hb hr hlocks hS (⟨by rw [htk_]; exact (congrArg Prod.fst hdo_).symm, _, _, _, by rw [htk_, if_pos rfl, hdo_]; exact hP⟩) dX8_order_220
                · refine lv_iconst (v := 1) hx hb dX8_order_185 (by decide +kernel) ?_
                  refine lv_goto (tgt := 190) hx hb dX8_order_186 (by decide) ?_
                  refine lv_iload_n hx hb dX8_order_190 rfl (lv_at hl 2 rfl) ?_
                  refine lv_iconst (v := 1) hx hb dX8_order_191 (by decide +kernel) ?_
                  refine lv_iload hx hb dX8_order_192 (lv_at hl 0 rfl) ?_
                  refine lv_iadd hx hb dX8_order_194 ?_
                  refine zc_i (va_runV (As := [.int 1, .int ((mNum pd n (a + 1)).1), .int (1 + ((pd (((mNum pd n (a + 1)).2) + 1)) - 48))]) (rest := []) ⟨hx, hb, hml, hown, hts⟩ (c_X8_comes l V g w pa be av sl sv pd cd st (nI n) (nI (((mNum pd n (a + 1)).2) + 2)) pl wy  m_ 1 ((mNum pd n (a + 1)).1) (1 + ((pd (((mNum pd n (a + 1)).2) + 1)) - 48)) hJ hn (by omega)) (cwV 3 hts (zgV_ wsM_all uM_85 uM_111 uM_112 uM_113 uM_21) rfl rfl rfl (by decide +kernel) ⟨Nat.le_of_ble_eq_true rfl, Nat.le_of_ble_eq_true rfl⟩) (zPreV (B := fun H => va_P V.1 vwCl (zmW V g w pa be av sl sv pd cd st (nI n) (nI (((mNum pd n (a + 1)).2) + 2)) pl wy) H) hP hE (va_recv hE.1 hP (ci := 8) (q0 := 0) (q := (RX8, TX8, 13)) rfl (zm_c0 V g w pa be av sl sv pd cd st (nI n) (nI (((mNum pd n (a + 1)).2) + 2)) pl wy))) rfl rfl hl.1 rfl (lv_room (Nat.le_of_ble_eq_true rfl)) dX8_order_195 ⟨Nat.le_of_ble_eq_true rfl, Nat.le_of_ble_eq_true rfl⟩) hS (fun _ h => h) (fun _ h => h) (fun r_ H locs hQ_ _ _ hS => ?_)
                  obtain ⟨hr_, hP⟩ := hQ_
                  subst hr_
                  refine lv_goto (tgt := 220) hx hb dX8_order_198 (by decide) ?_
                  have htk_ : mTok pd n a = (true, (mNum pd n (a + 1)).2 + 2, mSg pd n a, (mNum pd n (a + 1)).1, pd ((mNum pd n (a + 1)).2 + 1) - 48) := by rw [mTok, if_pos hsg4, if_pos c_70, if_pos ⟨by rw [← hsg]; exact hsl_, c_116⟩, if_pos c_137]
                  have hdo_ : mDo w m_ (true, (mNum pd n (a + 1)).2 + 2, mSg pd n a, (mNum pd n (a + 1)).1, pd ((mNum pd n (a + 1)).2 + 1) - 48) = mComes w m_ 1 ((mNum pd n (a + 1)).1) (1 + ((pd (((mNum pd n (a + 1)).2) + 1)) - 48)) := by unfold mDo; dsimp only; rw [← hsg, if_pos hsl_, if_pos c_182]
                  exact zr_i hx hb hr hlocks hS (⟨by rw [htk_]; exact (congrArg Prod.fst hdo_).symm, _, _, _, by rw [htk_, if_pos rfl, hdo_]; exact hP⟩) dX8_order_220
              · refine lv_bipush (v := (-3)) hx hb dX8_order_140 (by decide +kernel) ?_
                have htk_ : mTok pd n a = (false, (mNum pd n (a + 1)).2 + 1, mSg pd n a, 0, 0) := by rw [mTok, if_pos hsg4, if_pos c_70, if_pos ⟨by rw [← hsg]; exact hsl_, c_116⟩, if_neg c_137]
                exact zr_i hx hb hr hlocks hS (⟨by rw [htk_]; rfl, _, _, _, by rw [htk_]; exact hP⟩) dX8_order_142
          · refine lv_iload hx hb dX8_order_103 (lv_at hl 0 rfl) ?_
            refine lv_if_eq (tgt := 167) hx hb dX8_order_105 (by decide) (fun c_105 => ?_) (fun c_105 => ?_)
            rotate_left
            · exact absurd c_105 (by decide +kernel)
            refine lv_iload_n hx hb dX8_order_167 rfl (lv_at hl 5 rfl) ?_
            refine lv_if_ne (tgt := 173) hx hb dX8_order_168 (by decide) (fun c_168 => ?_) (fun c_168 => ?_)
            rotate_left
            · exact absurd c_168 (by decide +kernel)
            refine lv_iload hx hb dX8_order_173 (lv_at hl 0 rfl) ?_
            refine lv_if_eq (tgt := 201) hx hb dX8_order_175 (by decide) (fun c_175 => ?_) (fun c_175 => ?_)
            rotate_left
            · exact absurd c_175 (by decide +kernel)
            refine lv_iload_n hx hb dX8_order_201 rfl (lv_at hl 3 rfl) ?_
            refine lv_bipush (v := 115) hx hb dX8_order_202 (by decide +kernel) ?_
            refine lv_icmp_ne (tgt := 215) hx hb dX8_order_204 (by decide) (fun c_204 => ?_) (fun c_204 => ?_)
            · refine lv_aload_n hx hb dX8_order_215 rfl (lv_at hl 4 rfl) ?_
              refine lv_iload_n hx hb dX8_order_216 rfl (lv_at hl 2 rfl) ?_
              refine zc_i (va_runV (As := [.int ((mNum pd n (a + 1)).1)]) (rest := []) ⟨hx, hb, hml, hown, hts⟩ (c_X8_waits l V g w pa be av sl sv pd cd st (nI n) (nI (mNum pd n (a + 1)).2) pl wy  ((mNum pd n (a + 1)).1) hJ) (cwV 1 hts (zgV_ wsM_all uM_102 uM_123 uM_124 uM_125 uM_21) rfl rfl rfl (by decide +kernel) ⟨Nat.le_of_ble_eq_true rfl, Nat.le_of_ble_eq_true rfl⟩) (zPreV (B := fun H => va_P V.1 vwCl (zmW V g w pa be av sl sv pd cd st (nI n) (nI (mNum pd n (a + 1)).2) pl wy) H) hP hE (va_recv hE.1 hP (ci := 8) (q0 := 0) (q := (RX8, TX8, 13)) rfl (zm_c0 V g w pa be av sl sv pd cd st (nI n) (nI (mNum pd n (a + 1)).2) pl wy))) rfl rfl hl.1 rfl (lv_room (Nat.le_of_ble_eq_true rfl)) dX8_order_217 ⟨Nat.le_of_ble_eq_true rfl, Nat.le_of_ble_eq_true rfl⟩) hS (fun _ h => h) (fun _ h => h) (fun r_ H locs hQ_ _ _ hS => ?_)
              obtain ⟨hr_, hP⟩ := hQ_
              subst hr_
              have htk_ : mTok pd n a = (true, (mNum pd n (a + 1)).2, mSg pd n a, (mNum pd n (a + 1)).1, 0) := by rw [mTok, if_pos hsg4, if_pos c_70, if_neg (fun h => hsl_ (by rw [hsg]; exact h.1))]
              have hdo_ : mDo w m_ (true, (mNum pd n (a + 1)).2, mSg pd n a, (mNum pd n (a + 1)).1, 0) = mWaits w ((mNum pd n (a + 1)).1) := by unfold mDo; dsimp only; rw [← hsg, if_neg hsl_, if_neg c_204]
              exact zr_i hx hb hr hlocks hS (⟨by rw [htk_]; exact (congrArg Prod.fst hdo_).symm, _, _, _, by rw [htk_, if_pos rfl, hdo_]; exact hP⟩) dX8_order_220
            · refine lv_aload_n hx hb dX8_order_207 rfl (lv_at hl 4 rfl) ?_
              refine lv_iload_n hx hb dX8_order_208 rfl (lv_at hl 2 rfl) ?_
              refine zc_i (va_runV (As := [.int ((mNum pd n (a + 1)).1)]) (rest := []) ⟨hx, hb, hml, hown, hts⟩ (c_X8_serves l V g w pa be av sl sv pd cd st (nI n) (nI (mNum pd n (a + 1)).2) pl wy  m_ ((mNum pd n (a + 1)).1) hJ hok0) (cwV 1 hts (zgV_ wsM_all uM_91 uM_119 uM_120 uM_121 uM_21) rfl rfl rfl (by decide +kernel) ⟨Nat.le_of_ble_eq_true rfl, Nat.le_of_ble_eq_true rfl⟩) (zPreV (B := fun H => va_P V.1 vwCl (zmW V g w pa be av sl sv pd cd st (nI n) (nI (mNum pd n (a + 1)).2) pl wy) H) hP hE (va_recv hE.1 hP (ci := 8) (q0 := 0) (q := (RX8, TX8, 13)) rfl (zm_c0 V g w pa be av sl sv pd cd st (nI n) (nI (mNum pd n (a + 1)).2) pl wy))) rfl rfl hl.1 rfl (lv_room (Nat.le_of_ble_eq_true rfl)) dX8_order_209 ⟨Nat.le_of_ble_eq_true rfl, Nat.le_of_ble_eq_true rfl⟩) hS (fun _ h => h) (fun _ h => h) (fun r_ H locs hQ_ _ _ hS => ?_)
              obtain ⟨hr_, av'_1, pl'_2, wy'_3, hP⟩ := hQ_
              subst hr_
              refine lv_goto (tgt := 220) hx hb dX8_order_212 (by decide) ?_
              have htk_ : mTok pd n a = (true, (mNum pd n (a + 1)).2, mSg pd n a, (mNum pd n (a + 1)).1, 0) := by rw [mTok, if_pos hsg4, if_pos c_70, if_neg (fun h => hsl_ (by rw [hsg]; exact h.1))]
              have hdo_ : mDo w m_ (true, (mNum pd n (a + 1)).2, mSg pd n a, (mNum pd n (a + 1)).1, 0) = mServes w m_ ((mNum pd n (a + 1)).1) := by unfold mDo; dsimp only; rw [← hsg, if_neg hsl_, if_pos c_204]
              exact zr_i hx hb hr hlocks hS (⟨by rw [htk_]; exact (congrArg Prod.fst hdo_).symm, _, _, _, by rw [htk_, if_pos rfl, hdo_]; exact hP⟩) dX8_order_220
        refine lv_iload_n hx hb dX8_order_84 rfl (lv_at hl 2 rfl) ?_
        refine lv_bipush (v := 114) hx hb dX8_order_85 (by decide +kernel) ?_
        refine lv_icmp_eq (tgt := 96) hx hb dX8_order_87 (by decide) (fun c_87 => ?_) (fun c_87 => ?_)
        · refine lv_iconst (v := 1) hx hb dX8_order_96 (by decide +kernel) ?_
          refine lv_goto (tgt := 101) hx hb dX8_order_97 (by decide) ?_
          refine lv_istore (lv' := [(5, .int 1), (4, .int 0), (3, .int ((mNum pd n (a + 1)).1)), (2, .int sg), (0, .ref (g 0)), (1, .int 1)]) hx hb dX8_order_101 hl (by decide) rfl (fun ls hl => ?_)
          exact J_103 _ H locs ls trivial (by first | exact Or.inl ⟨rfl, Or.inl c_87⟩ | exact Or.inl ⟨rfl, Or.inr c_93⟩ | exact Or.inr ⟨rfl, fun h => h.elim c_87 c_93⟩) hP hS (lv_sub hl [0, 1, 2, 3, 4, 5] rfl)
        · refine lv_iload_n hx hb dX8_order_90 rfl (lv_at hl 2 rfl) ?_
          refine lv_bipush (v := 119) hx hb dX8_order_91 (by decide +kernel) ?_
          refine lv_icmp_ne (tgt := 100) hx hb dX8_order_93 (by decide) (fun c_93 => ?_) (fun c_93 => ?_)
          · refine lv_iconst (v := 0) hx hb dX8_order_100 (by decide +kernel) ?_
            refine lv_istore (lv' := [(5, .int 0), (4, .int 0), (3, .int ((mNum pd n (a + 1)).1)), (2, .int sg), (0, .ref (g 0)), (1, .int 1)]) hx hb dX8_order_101 hl (by decide) rfl (fun ls hl => ?_)
            exact J_103 _ H locs ls trivial (by first | exact Or.inl ⟨rfl, Or.inl c_87⟩ | exact Or.inl ⟨rfl, Or.inr c_93⟩ | exact Or.inr ⟨rfl, fun h => h.elim c_87 c_93⟩) hP hS (lv_sub hl [0, 1, 2, 3, 4, 5] rfl)
          · refine lv_iconst (v := 1) hx hb dX8_order_96 (by decide +kernel) ?_
            refine lv_goto (tgt := 101) hx hb dX8_order_97 (by decide) ?_
            refine lv_istore (lv' := [(5, .int 1), (4, .int 0), (3, .int ((mNum pd n (a + 1)).1)), (2, .int sg), (0, .ref (g 0)), (1, .int 1)]) hx hb dX8_order_101 hl (by decide) rfl (fun ls hl => ?_)
            exact J_103 _ H locs ls trivial (by first | exact Or.inl ⟨rfl, Or.inl c_87⟩ | exact Or.inl ⟨rfl, Or.inr c_93⟩ | exact Or.inr ⟨rfl, fun h => h.elim c_87 c_93⟩) hP hS (lv_sub hl [0, 1, 2, 3, 4, 5] rfl)
      · refine lv_bipush (v := (-3)) hx hb dX8_order_73 (by decide +kernel) ?_
        have htk_ : mTok pd n a = (false, a + 1, mSg pd n a, 0, 0) := by rw [mTok, if_pos hsg4, if_neg c_70]
        exact zr_i hx hb hr hlocks hS (⟨by rw [htk_]; rfl, _, _, _, by rw [htk_]; exact hP⟩) dX8_order_75
    refine lv_iload_n hx hb dX8_order_25 rfl (lv_at hl 0 rfl) ?_
    refine lv_bipush (v := 114) hx hb dX8_order_26 (by decide +kernel) ?_
    refine lv_icmp_eq (tgt := 52) hx hb dX8_order_28 (by decide) (fun c_28 => ?_) (fun c_28 => ?_)
    · exact J_52 ls trivial (by rw [← hsg]; first | exact Or.inl c_28 | exact Or.inr (Or.inl c_34) | exact Or.inr (Or.inr (Or.inl c_40)) | exact Or.inr (Or.inr (Or.inr c_46))) (lv_sub hl [0, 1, 2] rfl)
    · refine lv_iload_n hx hb dX8_order_31 rfl (lv_at hl 0 rfl) ?_
      refine lv_bipush (v := 119) hx hb dX8_order_32 (by decide +kernel) ?_
      refine lv_icmp_eq (tgt := 52) hx hb dX8_order_34 (by decide) (fun c_34 => ?_) (fun c_34 => ?_)
      · exact J_52 ls trivial (by rw [← hsg]; first | exact Or.inl c_28 | exact Or.inr (Or.inl c_34) | exact Or.inr (Or.inr (Or.inl c_40)) | exact Or.inr (Or.inr (Or.inr c_46))) (lv_sub hl [0, 1, 2] rfl)
      · refine lv_iload_n hx hb dX8_order_37 rfl (lv_at hl 0 rfl) ?_
        refine lv_bipush (v := 115) hx hb dX8_order_38 (by decide +kernel) ?_
        refine lv_icmp_eq (tgt := 52) hx hb dX8_order_40 (by decide) (fun c_40 => ?_) (fun c_40 => ?_)
        · exact J_52 ls trivial (by rw [← hsg]; first | exact Or.inl c_28 | exact Or.inr (Or.inl c_34) | exact Or.inr (Or.inr (Or.inl c_40)) | exact Or.inr (Or.inr (Or.inr c_46))) (lv_sub hl [0, 1, 2] rfl)
        · refine lv_iload_n hx hb dX8_order_43 rfl (lv_at hl 0 rfl) ?_
          refine lv_bipush (v := 116) hx hb dX8_order_44 (by decide +kernel) ?_
          refine lv_icmp_eq (tgt := 52) hx hb dX8_order_46 (by decide) (fun c_46 => ?_) (fun c_46 => ?_)
          · exact J_52 ls trivial (by rw [← hsg]; first | exact Or.inl c_28 | exact Or.inr (Or.inl c_34) | exact Or.inr (Or.inr (Or.inl c_40)) | exact Or.inr (Or.inr (Or.inr c_46))) (lv_sub hl [0, 1, 2] rfl)
          · refine lv_bipush (v := (-3)) hx hb dX8_order_49 (by decide +kernel) ?_
            have htk_ : mTok pd n a = (false, a, mSg pd n a, 0, 0) := by rw [mTok, if_neg (fun h => by rw [← hsg] at h; exact h.elim c_28 (fun h => h.elim c_34 (fun h => h.elim c_40 c_46)))]
            exact zr_i hx hb hr hlocks hS (⟨by rw [htk_]; rfl, _, _, _, by rw [htk_]; exact hP⟩) dX8_order_51
  refine lv_aload_n hx hb dX8_order_0 rfl (lv_at hl 0 rfl) ?_
  refine zm_get 9 (.int (nI a)) hx hb hts (fun x h => List.mem_cons_of_mem _ (hU_X8 x h)) hown hE hP (by decide) rfl (hts _ (List.mem_cons_of_mem _ uM_143)) (fun _ h9 => h9) dX8_order_1 ?_
  refine lv_aload_n hx hb dX8_order_4 rfl (lv_at hl 0 rfl) ?_
  refine zm_get 8 (.int (nI n)) hx hb hts (fun x h => List.mem_cons_of_mem _ (hU_X8 x h)) hown hE hP (by decide) rfl (hts _ (List.mem_cons_of_mem _ uM_134)) (fun _ h9 => h9) dX8_order_5 ?_
  refine zb_ge (x := a) (y := n) (tgt := 23) hx hb dX8_order_8 (by decide) (by omega) (by omega) (fun c_8 => ?_) (fun c_8 => ?_)
  · refine lv_iconst (v := 0) hx hb dX8_order_23 (by decide +kernel) ?_
    exact J_24 _ ls trivial (by unfold mSg; first | rw [if_pos (by omega)] | rw [if_neg (by omega)]) (lv_sub hl [0, 1] rfl)
  · refine lv_aload_n hx hb dX8_order_11 rfl (lv_at hl 0 rfl) ?_
    refine zm_get 7 (.ref (g 7)) hx hb hts (fun x h => List.mem_cons_of_mem _ (hU_X8 x h)) hown hE hP (by decide) rfl (hts _ (List.mem_cons_of_mem _ uM_12)) (fun _ h9 => h9) dX8_order_12 ?_
    refine lv_aload_n hx hb dX8_order_15 rfl (lv_at hl 0 rfl) ?_
    refine zm_get 9 (.int (nI a)) hx hb hts (fun x h => List.mem_cons_of_mem _ (hU_X8 x h)) hown hE hP (by decide) rfl (hts _ (List.mem_cons_of_mem _ uM_143)) (fun _ h9 => h9) dX8_order_16 ?_
    refine z_iald (k := a) hx hb hE hP 7 (zm_c7 V g w pa be av sl sv pd cd st (nI n) (nI a) pl wy) (by omega) (by decide) dX8_order_19 ?_
    refine lv_goto (tgt := 24) hx hb dX8_order_20 (by decide) ?_
    exact J_24 _ ls trivial (by unfold mSg; first | rw [if_pos (by omega)] | rw [if_neg (by omega)]) (lv_sub hl [0, 1] rfl)
set_option maxHeartbeats 4000000 in
set_option maxRecDepth 100000 in
theorem c_X8_isWell (l : Launch) (V : zV) (g : Nat → Nat) (w pa be av sl sv pd cd : Nat → Int32) (st le ap pl wy : Int32) (n : Nat) (hJ : zInj 9 g) (hle : le = nI n) (h80 : n ≤ 80) : Met l yX8_isWell wsX8_isWell (zR 7 0 0) (zPc V [.ref (g 0)] (fun H => va_P V.1 vwCl (zmW V g w pa be av sl sv pd cd st le ap pl wy) H)) (zQi (fun r H => r = (if (mWell pd n).1 = true then 1 else 0) ∧ va_P V.1 vwCl (zmW V g w pa be av sl sv pd cd st le (nI (mWell pd n).2) pl wy) H) (zIn 9 g)) 0 0 (zIn 9 g) := by
  refine Met.ofW (cc := cX8_isWell) (maxL := 2) (ret := (some .boolean)) (by decide) rfl ?_
  intro p e s m args below meth c s₁ B hml hv
  obtain ⟨rfl, hP, hE⟩ := hv
  have hx := B.exec
  have hb := B.bytes
  have hr := B.returns
  have hts := atoms_spec (ws := wsX8_isWell) B.pre
  have hown : s.vm.findClass RX8 = some m.cls := findClass_of_methodNamed B.named
  have hlocks := B.notSynchronized
  have hl := lv_entry ([.ref (g 0)]) (n := 2) (Nat.le_of_ble_eq_true rfl)
  rw [lg_entry_eq]
  generalize (lg_sl ([.ref (g 0)]) ++ List.replicate (2 - (lg_sl ([.ref (g 0)])).length) Slot.unset).toArray = ls at hl ⊢
  have hl : lv_has ls 2 [(0, .ref (g 0))] := hl
  have hS : va_S (zIn 9 g) s.heap s.heap [] := va_S.rf
  subst hle
  refine lv_aload_n hx hb dX8_isWell_0 rfl (lv_at hl 0 rfl) ?_
  refine lv_iconst (v := 0) hx hb dX8_isWell_1 (by decide +kernel) ?_
  refine zm_put (st' := st) (le' := (nI n)) (ap' := 0) (pl' := pl) (wy' := wy) 9 0 hx hb hts (fun x h => List.mem_cons_of_mem _ (hU_X8 x h)) hown hE hP hJ hS (by decide) rfl rfl (by decide +kernel) (hts _ (List.mem_cons_of_mem _ uM_143)) (fun _ h9 => h9) dX8_isWell_2 (fun H locs hP hS => ?_)
  refine lv_aload_n hx hb dX8_isWell_5 rfl (lv_at hl 0 rfl) ?_
  refine lv_iconst (v := 0) hx hb dX8_isWell_6 (by decide +kernel) ?_
  refine zc_i (va_runV (As := [.int 0]) (rest := []) ⟨hx, hb, hml, hown, hts⟩ (c_X8_order l V g w pa be av sl sv pd cd st (nI n) 0 pl wy  n 0 hJ rfl rfl (by omega) (by omega)) (cwV 1 hts (zgV_ wsM_all uM_148 uM_153 uM_154 uM_155 uM_21) rfl rfl rfl (by decide +kernel) ⟨Nat.le_of_ble_eq_true rfl, Nat.le_of_ble_eq_true rfl⟩) (zPreV (B := fun H => va_P V.1 vwCl (zmW V g w pa be av sl sv pd cd st (nI n) 0 pl wy) H) hP hE (va_recv hE.1 hP (ci := 8) (q0 := 0) (q := (RX8, TX8, 13)) rfl (zm_c0 V g w pa be av sl sv pd cd st (nI n) 0 pl wy))) rfl rfl hl.1 rfl (lv_room (Nat.le_of_ble_eq_true rfl)) dX8_isWell_7 ⟨Nat.le_of_ble_eq_true rfl, Nat.le_of_ble_eq_true rfl⟩) hS (fun _ h => h) (fun _ h => h) (fun r_ H locs hQ_ _ _ hS => ?_)
  obtain ⟨hr_, hP⟩ := hQ_
  subst hr_
  refine zbz_ne (P := (mTok pd n 0).1 = true) (tgt := 17) hx hb dX8_isWell_10 (by decide) (fun c_10 => ?_) (fun c_10 => ?_)
  · refine lv_iconst (v := 0) hx hb dX8_isWell_17 (by decide +kernel) ?_
    refine lv_istore_n (lv' := [(1, .int 0), (0, .ref (g 0))]) hx hb dX8_isWell_18 rfl hl (by decide) rfl (fun ls hl => ?_)
    have L_19 : ∀ (n_ i : Nat) (b : Bool) (a : Nat) (H : Heap) (locs : List Loc) (ls : Array Slot), i ≤ (n + 1) → (n + 1) + 1 ≤ i + n_ → (mWl pd n (n + 1 - i) (b, a) = mWell pd n) → (b = true → i ≤ a) → (i ≤ a + 1) → (a ≤ n) → va_P V.1 vwCl (zmW V g w pa be av sl sv pd cd st (nI n) (nI a) pl wy) H → va_S (zIn 9 g) s.heap H locs → lv_has ls 2 [(1, .int (if b = true then 1 else 0)), (0, .ref (g 0))] → W p l e (headSpec wsX8_isWell (zR 7 0 0)).room s m (List.toArray [.ref (g 0)]) below meth c H locs 0 0 (MQ below (zQi (fun r H => r = (if (mWell pd n).1 = true then 1 else 0) ∧ va_P V.1 vwCl (zmW V g w pa be av sl sv pd cd st (nI n) (nI (mWell pd n).2) pl wy) H) (zIn 9 g)) (List.toArray [.ref (g 0)]) s 0 0 (zIn 9 g)) (F0 m 19 ls []) := by
      intro n_
      induction n_ with
      | zero => intro i b a H locs ls hi_ hn_; exact absurd hn_ (by omega)
      | succ n_ ih =>
        intro i b a H locs ls hi_ hn_ hwl hia hia2 han hP hS hl
        refine lv_iload_n hx hb dX8_isWell_19 rfl (lv_at hl 0 rfl) ?_
        refine zbp_eq (P := b = true) (tgt := 82) hx hb dX8_isWell_20 (by decide) (fun c_20 => ?_) (fun c_20 => ?_)
        · have hst_ : mWell pd n = (b, a) := by rw [← hwl]; exact mWl_stop pd n (s := (b, a)) (by first | exact fun h => c_20 h.1 | exact fun h => absurd (show a < n from h.2) (by omega)) _
          refine lv_iload_n hx hb dX8_isWell_82 rfl (lv_at hl 0 rfl) ?_
          exact zr_z hx hb hr hlocks hS (by first | exact Or.inl rfl | exact Or.inr rfl | exact z_ite01 | assumption) (⟨by rw [hst_], by rw [hst_]; exact hP⟩) dX8_isWell_83
        · have hia_ := hia c_20
          refine lv_aload_n hx hb dX8_isWell_23 rfl (lv_at hl 1 rfl) ?_
          refine zm_get 9 (.int (nI a)) hx hb hts (fun x h => List.mem_cons_of_mem _ (hU_X8 x h)) hown hE hP (by decide) rfl (hts _ (List.mem_cons_of_mem _ uM_143)) (fun _ h9 => h9) dX8_isWell_24 ?_
          refine lv_aload_n hx hb dX8_isWell_27 rfl (lv_at hl 1 rfl) ?_
          refine zm_get 8 (.int (nI n)) hx hb hts (fun x h => List.mem_cons_of_mem _ (hU_X8 x h)) hown hE hP (by decide) rfl (hts _ (List.mem_cons_of_mem _ uM_134)) (fun _ h9 => h9) dX8_isWell_28 ?_
          refine zb_ge (x := a) (y := n) (tgt := 82) hx hb dX8_isWell_31 (by decide) (by omega) (by omega) (fun c_31 => ?_) (fun c_31 => ?_)
          · have hst_ : mWell pd n = (b, a) := by rw [← hwl]; exact mWl_stop pd n (s := (b, a)) (by first | exact fun h => c_20 h.1 | exact fun h => absurd (show a < n from h.2) (by omega)) _
            refine lv_iload_n hx hb dX8_isWell_82 rfl (lv_at hl 0 rfl) ?_
            exact zr_z hx hb hr hlocks hS (by first | exact Or.inl rfl | exact Or.inr rfl | exact z_ite01 | assumption) (⟨by rw [hst_], by rw [hst_]; exact hP⟩) dX8_isWell_83
          · refine lv_aload_n hx hb dX8_isWell_34 rfl (lv_at hl 1 rfl) ?_
            refine lv_bipush (v := 59) hx hb dX8_isWell_35 (by decide +kernel) ?_
            refine lv_bipush (v := 59) hx hb dX8_isWell_37 (by decide +kernel) ?_
            refine zc_se (va_runV (As := [.int 59, .int 59]) (rest := []) ⟨hx, hb, hml, hown, hts⟩ (c_X8_sees l V g w pa be av sl sv pd cd st (nI n) (nI a) pl wy a n 59 59 rfl rfl (by omega) (by omega)) (cwV 2 hts (zgV_ wsM_all uM_142 uM_145 uM_146 uM_147 uM_21) rfl rfl rfl (by decide +kernel) ⟨Nat.le_of_ble_eq_true rfl, Nat.le_of_ble_eq_true rfl⟩) (zPreV (B := fun H => va_P V.1 vwCl (zmW V g w pa be av sl sv pd cd st (nI n) (nI a) pl wy) H) hP hE (va_recv hE.1 hP (ci := 8) (q0 := 0) (q := (RX8, TX8, 13)) rfl (zm_c0 V g w pa be av sl sv pd cd st (nI n) (nI a) pl wy))) rfl rfl hl.1 rfl (lv_room (Nat.le_of_ble_eq_true rfl)) dX8_isWell_39 ⟨Nat.le_of_ble_eq_true rfl, Nat.le_of_ble_eq_true rfl⟩) ?_
            refine lv_istore_n (lv' := [(1, .int (if a < n ∧ (59 ≤ pd a ∧ pd a ≤ 59) then 1 else 0)), (0, .ref (g 0))]) hx hb dX8_isWell_42 rfl hl (by decide) rfl (fun ls hl => ?_)
            refine lv_aload_n hx hb dX8_isWell_43 rfl (lv_at hl 1 rfl) ?_
            refine lv_dup hx hb dX8_isWell_44 rfl ?_
            refine zm_get 9 (.int (nI a)) hx hb hts (fun x h => List.mem_cons_of_mem _ (hU_X8 x h)) hown hE hP (by decide) rfl (hts _ (List.mem_cons_of_mem _ uM_143)) (fun _ h9 => h9) dX8_isWell_45 ?_
            refine lv_iload_n hx hb dX8_isWell_48 rfl (lv_at hl 0 rfl) ?_
            refine zbp_eq (P := a < n ∧ (59 ≤ pd a ∧ pd a ≤ 59)) (tgt := 56) hx hb dX8_isWell_49 (by decide) (fun c_49 => ?_) (fun c_49 => ?_)
            · refine lv_iconst (v := 0) hx hb dX8_isWell_56 (by decide +kernel) ?_
              refine lv_iadd hx hb dX8_isWell_57 ?_
              refine zt_i (z_add (a := a) (b := 0) (by first | rfl | omega)) ?_
              refine zm_put (st' := st) (le' := (nI n)) (ap' := nI a) (pl' := pl) (wy' := wy) 9 (nI a) hx hb hts (fun x h => List.mem_cons_of_mem _ (hU_X8 x h)) hown hE hP hJ hS (by decide) rfl rfl (by decide +kernel) (hts _ (List.mem_cons_of_mem _ uM_143)) (fun _ h9 => h9) dX8_isWell_58 (fun H locs hP hS => ?_)
              refine lv_iload_n hx hb dX8_isWell_61 rfl (lv_at hl 0 rfl) ?_
              refine zbp_eq (P := a < n ∧ (59 ≤ pd a ∧ pd a ≤ 59)) (tgt := 77) hx hb dX8_isWell_62 (by decide) (fun c_62 => ?_) (fun c_62 => ?_)
              · refine lv_iconst (v := 0) hx hb dX8_isWell_77 (by decide +kernel) ?_
                refine lv_istore_n (lv' := [(1, .int 0), (0, .ref (g 0))]) hx hb dX8_isWell_78 rfl hl (by decide) rfl (fun ls hl => ?_)
                refine lv_goto (tgt := 19) hx hb dX8_isWell_79 (by decide) ?_
                have hw1_ : mWl pd n (n + 1 - (i + 1)) (false, a) = mWell pd n := by
                  rw [mWl_stop pd n (s := (false, a)) (fun h => by cases h.1), ← hwl, show n + 1 - i = (n + 1 - (i + 1)) + 1 by omega, c_20]
                  exact ((if_pos ⟨rfl, c_31⟩).trans (if_neg (fun h => c_49 ⟨c_31, h⟩))).symm
                exact ih (i + 1) false a H locs ls (by omega) (by omega) hw1_ (fun h => by cases h) (by omega) han hP hS (lv_sub hl [0, 1] rfl)
              · exact absurd c_62 c_49
            · refine lv_iconst (v := 1) hx hb dX8_isWell_52 (by decide +kernel) ?_
              refine lv_goto (tgt := 57) hx hb dX8_isWell_53 (by decide) ?_
              refine lv_iadd hx hb dX8_isWell_57 ?_
              refine zt_i (z_add (a := a) (b := 1) (by first | rfl | omega)) ?_
              refine zm_put (st' := st) (le' := (nI n)) (ap' := nI (a + 1)) (pl' := pl) (wy' := wy) 9 (nI (a + 1)) hx hb hts (fun x h => List.mem_cons_of_mem _ (hU_X8 x h)) hown hE hP hJ hS (by decide) rfl rfl (by decide +kernel) (hts _ (List.mem_cons_of_mem _ uM_143)) (fun _ h9 => h9) dX8_isWell_58 (fun H locs hP hS => ?_)
              refine lv_iload_n hx hb dX8_isWell_61 rfl (lv_at hl 0 rfl) ?_
              refine zbp_eq (P := a < n ∧ (59 ≤ pd a ∧ pd a ≤ 59)) (tgt := 77) hx hb dX8_isWell_62 (by decide) (fun c_62 => ?_) (fun c_62 => ?_)
              · exact absurd c_49 c_62
              · refine lv_aload_n hx hb dX8_isWell_65 rfl (lv_at hl 1 rfl) ?_
                refine lv_iconst (v := 0) hx hb dX8_isWell_66 (by decide +kernel) ?_
                refine zc_i (va_runV (As := [.int 0]) (rest := []) ⟨hx, hb, hml, hown, hts⟩ (c_X8_order l V g w pa be av sl sv pd cd st (nI n) (nI (a + 1)) pl wy  n (a + 1) hJ rfl rfl (by omega) (by omega)) (cwV 1 hts (zgV_ wsM_all uM_148 uM_153 uM_154 uM_155 uM_21) rfl rfl rfl (by decide +kernel) ⟨Nat.le_of_ble_eq_true rfl, Nat.le_of_ble_eq_true rfl⟩) (zPreV (B := fun H => va_P V.1 vwCl (zmW V g w pa be av sl sv pd cd st (nI n) (nI (a + 1)) pl wy) H) hP hE (va_recv hE.1 hP (ci := 8) (q0 := 0) (q := (RX8, TX8, 13)) rfl (zm_c0 V g w pa be av sl sv pd cd st (nI n) (nI (a + 1)) pl wy))) rfl rfl hl.1 rfl (lv_room (Nat.le_of_ble_eq_true rfl)) dX8_isWell_67 ⟨Nat.le_of_ble_eq_true rfl, Nat.le_of_ble_eq_true rfl⟩) hS (fun _ h => h) (fun _ h => h) (fun r_ H locs hQ_ _ _ hS => ?_)
                obtain ⟨hr_, hP⟩ := hQ_
                subst hr_
                refine zbz_ne (P := (mTok pd n (a + 1)).1 = true) (tgt := 77) hx hb dX8_isWell_70 (by decide) (fun c_70 => ?_) (fun c_70 => ?_)
                · refine lv_iconst (v := 0) hx hb dX8_isWell_77 (by decide +kernel) ?_
                  refine lv_istore_n (lv' := [(1, .int 0), (0, .ref (g 0))]) hx hb dX8_isWell_78 rfl hl (by decide) rfl (fun ls hl => ?_)
                  refine lv_goto (tgt := 19) hx hb dX8_isWell_79 (by decide) ?_
                  have hle1_ := mTok_le pd (n := n) (a := a + 1) (by omega)
                  have hw1_ : mWl pd n (n + 1 - (i + 1)) (false, (mTok pd n (a + 1)).2.1) = mWell pd n := by
                    rw [← hwl, show n + 1 - i = (n + 1 - (i + 1)) + 1 by omega, c_20]
                    refine Eq.trans ?_ ((if_pos ⟨rfl, c_31⟩).trans (if_pos c_49.2)).symm
                    show mWl pd n _ _ = mWl pd n _ ((mTok pd n (a + 1)).1, (mTok pd n (a + 1)).2.1)
                    rw [Bool.eq_false_iff.mpr c_70]
                  exact ih (i + 1) false ((mTok pd n (a + 1)).2.1) H locs ls (by omega) (by omega) hw1_ (fun _ => by omega) (by omega) hle1_.2.1 hP hS (lv_sub hl [0, 1] rfl)
                · refine lv_iconst (v := 1) hx hb dX8_isWell_73 (by decide +kernel) ?_
                  refine lv_goto (tgt := 78) hx hb dX8_isWell_74 (by decide) ?_
                  refine lv_istore_n (lv' := [(1, .int 1), (0, .ref (g 0))]) hx hb dX8_isWell_78 rfl hl (by decide) rfl (fun ls hl => ?_)
                  refine lv_goto (tgt := 19) hx hb dX8_isWell_79 (by decide) ?_
                  have hle1_ := mTok_le pd (n := n) (a := a + 1) (by omega)
                  have hw1_ : mWl pd n (n + 1 - (i + 1)) (true, (mTok pd n (a + 1)).2.1) = mWell pd n := by
                    rw [← hwl, show n + 1 - i = (n + 1 - (i + 1)) + 1 by omega, c_20]
                    refine Eq.trans ?_ ((if_pos ⟨rfl, c_31⟩).trans (if_pos c_49.2)).symm
                    show mWl pd n _ _ = mWl pd n _ ((mTok pd n (a + 1)).1, (mTok pd n (a + 1)).2.1)
                    rw [c_70]
                  exact ih (i + 1) true ((mTok pd n (a + 1)).2.1) H locs ls (by omega) (by omega) hw1_ (fun _ => by omega) (by omega) hle1_.2.1 hP hS (lv_sub hl [0, 1] rfl)
    have hw0_ : mWl pd n (n + 1 - 0) (false, (mTok pd n 0).2.1) = mWell pd n := by rw [mWell, show n + 1 - 0 = n + 1 by omega, Bool.eq_false_iff.mpr c_10]
    have hle0_ := mTok_le pd (n := n) (a := 0) (Nat.zero_le n)
    exact L_19 ((n + 1) + 1) 0 false ((mTok pd n 0).2.1) H locs ls (by omega) (by omega) hw0_ (fun _ => Nat.zero_le _) (Nat.zero_le _) hle0_.2.1 hP hS (lv_sub hl [0, 1] rfl)
  · refine lv_iconst (v := 1) hx hb dX8_isWell_13 (by decide +kernel) ?_
    refine lv_goto (tgt := 18) hx hb dX8_isWell_14 (by decide) ?_
    refine lv_istore_n (lv' := [(1, .int 1), (0, .ref (g 0))]) hx hb dX8_isWell_18 rfl hl (by decide) rfl (fun ls hl => ?_)
    have L_19 : ∀ (n_ i : Nat) (b : Bool) (a : Nat) (H : Heap) (locs : List Loc) (ls : Array Slot), i ≤ (n + 1) → (n + 1) + 1 ≤ i + n_ → (mWl pd n (n + 1 - i) (b, a) = mWell pd n) → (b = true → i ≤ a) → (i ≤ a + 1) → (a ≤ n) → va_P V.1 vwCl (zmW V g w pa be av sl sv pd cd st (nI n) (nI a) pl wy) H → va_S (zIn 9 g) s.heap H locs → lv_has ls 2 [(1, .int (if b = true then 1 else 0)), (0, .ref (g 0))] → W p l e (headSpec wsX8_isWell (zR 7 0 0)).room s m (List.toArray [.ref (g 0)]) below meth c H locs 0 0 (MQ below (zQi (fun r H => r = (if (mWell pd n).1 = true then 1 else 0) ∧ va_P V.1 vwCl (zmW V g w pa be av sl sv pd cd st (nI n) (nI (mWell pd n).2) pl wy) H) (zIn 9 g)) (List.toArray [.ref (g 0)]) s 0 0 (zIn 9 g)) (F0 m 19 ls []) := by
      intro n_
      induction n_ with
      | zero => intro i b a H locs ls hi_ hn_; exact absurd hn_ (by omega)
      | succ n_ ih =>
        intro i b a H locs ls hi_ hn_ hwl hia hia2 han hP hS hl
        refine lv_iload_n hx hb dX8_isWell_19 rfl (lv_at hl 0 rfl) ?_
        refine zbp_eq (P := b = true) (tgt := 82) hx hb dX8_isWell_20 (by decide) (fun c_20 => ?_) (fun c_20 => ?_)
        · have hst_ : mWell pd n = (b, a) := by rw [← hwl]; exact mWl_stop pd n (s := (b, a)) (by first | exact fun h => c_20 h.1 | exact fun h => absurd (show a < n from h.2) (by omega)) _
          refine lv_iload_n hx hb dX8_isWell_82 rfl (lv_at hl 0 rfl) ?_
          exact zr_z hx hb hr hlocks hS (by first | exact Or.inl rfl | exact Or.inr rfl | exact z_ite01 | assumption) (⟨by rw [hst_], by rw [hst_]; exact hP⟩) dX8_isWell_83
        · have hia_ := hia c_20
          refine lv_aload_n hx hb dX8_isWell_23 rfl (lv_at hl 1 rfl) ?_
          refine zm_get 9 (.int (nI a)) hx hb hts (fun x h => List.mem_cons_of_mem _ (hU_X8 x h)) hown hE hP (by decide) rfl (hts _ (List.mem_cons_of_mem _ uM_143)) (fun _ h9 => h9) dX8_isWell_24 ?_
          refine lv_aload_n hx hb dX8_isWell_27 rfl (lv_at hl 1 rfl) ?_
          refine zm_get 8 (.int (nI n)) hx hb hts (fun x h => List.mem_cons_of_mem _ (hU_X8 x h)) hown hE hP (by decide) rfl (hts _ (List.mem_cons_of_mem _ uM_134)) (fun _ h9 => h9) dX8_isWell_28 ?_
          refine zb_ge (x := a) (y := n) (tgt := 82) hx hb dX8_isWell_31 (by decide) (by omega) (by omega) (fun c_31 => ?_) (fun c_31 => ?_)
          · have hst_ : mWell pd n = (b, a) := by rw [← hwl]; exact mWl_stop pd n (s := (b, a)) (by first | exact fun h => c_20 h.1 | exact fun h => absurd (show a < n from h.2) (by omega)) _
            refine lv_iload_n hx hb dX8_isWell_82 rfl (lv_at hl 0 rfl) ?_
            exact zr_z hx hb hr hlocks hS (by first | exact Or.inl rfl | exact Or.inr rfl | exact z_ite01 | assumption) (⟨by rw [hst_], by rw [hst_]; exact hP⟩) dX8_isWell_83
          · refine lv_aload_n hx hb dX8_isWell_34 rfl (lv_at hl 1 rfl) ?_
            refine lv_bipush (v := 59) hx hb dX8_isWell_35 (by decide +kernel) ?_
            refine lv_bipush (v := 59) hx hb dX8_isWell_37 (by decide +kernel) ?_
            refine zc_se (va_runV (As := [.int 59, .int 59]) (rest := []) ⟨hx, hb, hml, hown, hts⟩ (c_X8_sees l V g w pa be av sl sv pd cd st (nI n) (nI a) pl wy a n 59 59 rfl rfl (by omega) (by omega)) (cwV 2 hts (zgV_ wsM_all uM_142 uM_145 uM_146 uM_147 uM_21) rfl rfl rfl (by decide +kernel) ⟨Nat.le_of_ble_eq_true rfl, Nat.le_of_ble_eq_true rfl⟩) (zPreV (B := fun H => va_P V.1 vwCl (zmW V g w pa be av sl sv pd cd st (nI n) (nI a) pl wy) H) hP hE (va_recv hE.1 hP (ci := 8) (q0 := 0) (q := (RX8, TX8, 13)) rfl (zm_c0 V g w pa be av sl sv pd cd st (nI n) (nI a) pl wy))) rfl rfl hl.1 rfl (lv_room (Nat.le_of_ble_eq_true rfl)) dX8_isWell_39 ⟨Nat.le_of_ble_eq_true rfl, Nat.le_of_ble_eq_true rfl⟩) ?_
            refine lv_istore_n (lv' := [(1, .int (if a < n ∧ (59 ≤ pd a ∧ pd a ≤ 59) then 1 else 0)), (0, .ref (g 0))]) hx hb dX8_isWell_42 rfl hl (by decide) rfl (fun ls hl => ?_)
            refine lv_aload_n hx hb dX8_isWell_43 rfl (lv_at hl 1 rfl) ?_
            refine lv_dup hx hb dX8_isWell_44 rfl ?_
            refine zm_get 9 (.int (nI a)) hx hb hts (fun x h => List.mem_cons_of_mem _ (hU_X8 x h)) hown hE hP (by decide) rfl (hts _ (List.mem_cons_of_mem _ uM_143)) (fun _ h9 => h9) dX8_isWell_45 ?_
            refine lv_iload_n hx hb dX8_isWell_48 rfl (lv_at hl 0 rfl) ?_
            refine zbp_eq (P := a < n ∧ (59 ≤ pd a ∧ pd a ≤ 59)) (tgt := 56) hx hb dX8_isWell_49 (by decide) (fun c_49 => ?_) (fun c_49 => ?_)
            · refine lv_iconst (v := 0) hx hb dX8_isWell_56 (by decide +kernel) ?_
              refine lv_iadd hx hb dX8_isWell_57 ?_
              refine zt_i (z_add (a := a) (b := 0) (by first | rfl | omega)) ?_
              refine zm_put (st' := st) (le' := (nI n)) (ap' := nI a) (pl' := pl) (wy' := wy) 9 (nI a) hx hb hts (fun x h => List.mem_cons_of_mem _ (hU_X8 x h)) hown hE hP hJ hS (by decide) rfl rfl (by decide +kernel) (hts _ (List.mem_cons_of_mem _ uM_143)) (fun _ h9 => h9) dX8_isWell_58 (fun H locs hP hS => ?_)
              refine lv_iload_n hx hb dX8_isWell_61 rfl (lv_at hl 0 rfl) ?_
              refine zbp_eq (P := a < n ∧ (59 ≤ pd a ∧ pd a ≤ 59)) (tgt := 77) hx hb dX8_isWell_62 (by decide) (fun c_62 => ?_) (fun c_62 => ?_)
              · refine lv_iconst (v := 0) hx hb dX8_isWell_77 (by decide +kernel) ?_
                refine lv_istore_n (lv' := [(1, .int 0), (0, .ref (g 0))]) hx hb dX8_isWell_78 rfl hl (by decide) rfl (fun ls hl => ?_)
                refine lv_goto (tgt := 19) hx hb dX8_isWell_79 (by decide) ?_
                have hw1_ : mWl pd n (n + 1 - (i + 1)) (false, a) = mWell pd n := by
                  rw [mWl_stop pd n (s := (false, a)) (fun h => by cases h.1), ← hwl, show n + 1 - i = (n + 1 - (i + 1)) + 1 by omega, c_20]
                  exact ((if_pos ⟨rfl, c_31⟩).trans (if_neg (fun h => c_49 ⟨c_31, h⟩))).symm
                exact ih (i + 1) false a H locs ls (by omega) (by omega) hw1_ (fun h => by cases h) (by omega) han hP hS (lv_sub hl [0, 1] rfl)
              · exact absurd c_62 c_49
            · refine lv_iconst (v := 1) hx hb dX8_isWell_52 (by decide +kernel) ?_
              refine lv_goto (tgt := 57) hx hb dX8_isWell_53 (by decide) ?_
              refine lv_iadd hx hb dX8_isWell_57 ?_
              refine zt_i (z_add (a := a) (b := 1) (by first | rfl | omega)) ?_
              refine zm_put (st' := st) (le' := (nI n)) (ap' := nI (a + 1)) (pl' := pl) (wy' := wy) 9 (nI (a + 1)) hx hb hts (fun x h => List.mem_cons_of_mem _ (hU_X8 x h)) hown hE hP hJ hS (by decide) rfl rfl (by decide +kernel) (hts _ (List.mem_cons_of_mem _ uM_143)) (fun _ h9 => h9) dX8_isWell_58 (fun H locs hP hS => ?_)
              refine lv_iload_n hx hb dX8_isWell_61 rfl (lv_at hl 0 rfl) ?_
              refine zbp_eq (P := a < n ∧ (59 ≤ pd a ∧ pd a ≤ 59)) (tgt := 77) hx hb dX8_isWell_62 (by decide) (fun c_62 => ?_) (fun c_62 => ?_)
              · exact absurd c_49 c_62
              · refine lv_aload_n hx hb dX8_isWell_65 rfl (lv_at hl 1 rfl) ?_
                refine lv_iconst (v := 0) hx hb dX8_isWell_66 (by decide +kernel) ?_
                refine zc_i (va_runV (As := [.int 0]) (rest := []) ⟨hx, hb, hml, hown, hts⟩ (c_X8_order l V g w pa be av sl sv pd cd st (nI n) (nI (a + 1)) pl wy  n (a + 1) hJ rfl rfl (by omega) (by omega)) (cwV 1 hts (zgV_ wsM_all uM_148 uM_153 uM_154 uM_155 uM_21) rfl rfl rfl (by decide +kernel) ⟨Nat.le_of_ble_eq_true rfl, Nat.le_of_ble_eq_true rfl⟩) (zPreV (B := fun H => va_P V.1 vwCl (zmW V g w pa be av sl sv pd cd st (nI n) (nI (a + 1)) pl wy) H) hP hE (va_recv hE.1 hP (ci := 8) (q0 := 0) (q := (RX8, TX8, 13)) rfl (zm_c0 V g w pa be av sl sv pd cd st (nI n) (nI (a + 1)) pl wy))) rfl rfl hl.1 rfl (lv_room (Nat.le_of_ble_eq_true rfl)) dX8_isWell_67 ⟨Nat.le_of_ble_eq_true rfl, Nat.le_of_ble_eq_true rfl⟩) hS (fun _ h => h) (fun _ h => h) (fun r_ H locs hQ_ _ _ hS => ?_)
                obtain ⟨hr_, hP⟩ := hQ_
                subst hr_
                refine zbz_ne (P := (mTok pd n (a + 1)).1 = true) (tgt := 77) hx hb dX8_isWell_70 (by decide) (fun c_70 => ?_) (fun c_70 => ?_)
                · refine lv_iconst (v := 0) hx hb dX8_isWell_77 (by decide +kernel) ?_
                  refine lv_istore_n (lv' := [(1, .int 0), (0, .ref (g 0))]) hx hb dX8_isWell_78 rfl hl (by decide) rfl (fun ls hl => ?_)
                  refine lv_goto (tgt := 19) hx hb dX8_isWell_79 (by decide) ?_
                  have hle1_ := mTok_le pd (n := n) (a := a + 1) (by omega)
                  have hw1_ : mWl pd n (n + 1 - (i + 1)) (false, (mTok pd n (a + 1)).2.1) = mWell pd n := by
                    rw [← hwl, show n + 1 - i = (n + 1 - (i + 1)) + 1 by omega, c_20]
                    refine Eq.trans ?_ ((if_pos ⟨rfl, c_31⟩).trans (if_pos c_49.2)).symm
                    show mWl pd n _ _ = mWl pd n _ ((mTok pd n (a + 1)).1, (mTok pd n (a + 1)).2.1)
                    rw [Bool.eq_false_iff.mpr c_70]
                  exact ih (i + 1) false ((mTok pd n (a + 1)).2.1) H locs ls (by omega) (by omega) hw1_ (fun _ => by omega) (by omega) hle1_.2.1 hP hS (lv_sub hl [0, 1] rfl)
                · refine lv_iconst (v := 1) hx hb dX8_isWell_73 (by decide +kernel) ?_
                  refine lv_goto (tgt := 78) hx hb dX8_isWell_74 (by decide) ?_
                  refine lv_istore_n (lv' := [(1, .int 1), (0, .ref (g 0))]) hx hb dX8_isWell_78 rfl hl (by decide) rfl (fun ls hl => ?_)
                  refine lv_goto (tgt := 19) hx hb dX8_isWell_79 (by decide) ?_
                  have hle1_ := mTok_le pd (n := n) (a := a + 1) (by omega)
                  have hw1_ : mWl pd n (n + 1 - (i + 1)) (true, (mTok pd n (a + 1)).2.1) = mWell pd n := by
                    rw [← hwl, show n + 1 - i = (n + 1 - (i + 1)) + 1 by omega, c_20]
                    refine Eq.trans ?_ ((if_pos ⟨rfl, c_31⟩).trans (if_pos c_49.2)).symm
                    show mWl pd n _ _ = mWl pd n _ ((mTok pd n (a + 1)).1, (mTok pd n (a + 1)).2.1)
                    rw [c_70]
                  exact ih (i + 1) true ((mTok pd n (a + 1)).2.1) H locs ls (by omega) (by omega) hw1_ (fun _ => by omega) (by omega) hle1_.2.1 hP hS (lv_sub hl [0, 1] rfl)
    have hw0_ : mWl pd n (n + 1 - 0) (true, (mTok pd n 0).2.1) = mWell pd n := by rw [mWell, show n + 1 - 0 = n + 1 by omega, c_10]
    have hle0_ := mTok_le pd (n := n) (a := 0) (Nat.zero_le n)
    exact L_19 ((n + 1) + 1) 0 true ((mTok pd n 0).2.1) H locs ls (by omega) (by omega) hw0_ (fun _ => Nat.zero_le _) (Nat.zero_le _) hle0_.2.1 hP hS (lv_sub hl [0, 1] rfl)
set_option maxHeartbeats 4000000 in
set_option maxRecDepth 100000 in
theorem c_X8_fault (l : Launch) (V : zV) (g : Nat → Nat) (w pa be av sl sv pd cd : Nat → Int32) (st le ap pl wy : Int32) (n : Nat) (hJ : zInj 9 g) (hle : le = nI n) (h80 : n ≤ 80) : Met l yX8_fault wsX8_fault (zR 8 0 0) (zPc V [.ref (g 0)] (fun H => va_P V.1 vwCl (zmW V g w pa be av sl sv pd cd st le ap pl wy) H)) (zQi (fun r H => r = (if (mWell pd n).1 = true then -6 else nI (mWell pd n).2) ∧ (∃ ap' : Int32, va_P V.1 vwCl (zmW V g w pa be av sl sv pd cd st le ap' pl wy) H)) (zIn 9 g)) 0 0 (zIn 9 g) := by
  refine Met.ofW (cc := cX8_fault) (maxL := 1) (ret := (some .int)) (by decide) rfl ?_
  intro p e s m args below meth c s₁ B hml hv
  obtain ⟨rfl, hP, hE⟩ := hv
  have hx := B.exec
  have hb := B.bytes
  have hr := B.returns
  have hts := atoms_spec (ws := wsX8_fault) B.pre
  have hown : s.vm.findClass RX8 = some m.cls := findClass_of_methodNamed B.named
  have hlocks := B.notSynchronized
  have hl := lv_entry ([.ref (g 0)]) (n := 1) (Nat.le_of_ble_eq_true rfl)
  rw [lg_entry_eq]
  generalize (lg_sl ([.ref (g 0)]) ++ List.replicate (1 - (lg_sl ([.ref (g 0)])).length) Slot.unset).toArray = ls at hl ⊢
  have hl : lv_has ls 1 [(0, .ref (g 0))] := hl
  have hS : va_S (zIn 9 g) s.heap s.heap [] := va_S.rf
  subst hle
  refine lv_aload_n hx hb dX8_fault_0 rfl (lv_at hl 0 rfl) ?_
  refine zc_i (va_runV (As := []) (rest := []) ⟨hx, hb, hml, hown, hts⟩ (c_X8_isWell l V g w pa be av sl sv pd cd st (nI n) ap pl wy  n hJ rfl (by omega)) (cwV 0 hts (zgV_ wsM_all uM_152 uM_157 uM_158 uM_159 uM_21) rfl rfl rfl (by decide +kernel) ⟨Nat.le_of_ble_eq_true rfl, Nat.le_of_ble_eq_true rfl⟩) (zPreV (B := fun H => va_P V.1 vwCl (zmW V g w pa be av sl sv pd cd st (nI n) ap pl wy) H) hP hE (va_recv hE.1 hP (ci := 8) (q0 := 0) (q := (RX8, TX8, 13)) rfl (zm_c0 V g w pa be av sl sv pd cd st (nI n) ap pl wy))) rfl rfl hl.1 rfl (lv_room (Nat.le_of_ble_eq_true rfl)) dX8_fault_1 ⟨Nat.le_of_ble_eq_true rfl, Nat.le_of_ble_eq_true rfl⟩) hS (fun _ h => h) (fun _ h => h) (fun r_ H locs hQ_ _ _ hS => ?_)
  obtain ⟨hr_, hP⟩ := hQ_
  subst hr_
  refine zbp_eq (P := (mWell pd n).1 = true) (tgt := 12) hx hb dX8_fault_4 (by decide) (fun c_4 => ?_) (fun c_4 => ?_)
  · refine lv_aload_n hx hb dX8_fault_12 rfl (lv_at hl 0 rfl) ?_
    refine zm_get 9 (.int (nI ((mWell pd n).2))) hx hb hts (fun x h => List.mem_cons_of_mem _ (hU_X8 x h)) hown hE hP (by decide) rfl (hts _ (List.mem_cons_of_mem _ uM_143)) (fun _ h9 => h9) dX8_fault_13 ?_
    exact zr_i hx hb hr hlocks hS (⟨(if_neg c_4).symm, _, hP⟩) dX8_fault_16
  · refine lv_bipush (v := (-6)) hx hb dX8_fault_7 (by decide +kernel) ?_
    refine lv_goto (tgt := 16) hx hb dX8_fault_9 (by decide) ?_
    exact zr_i hx hb hr hlocks hS (⟨(if_pos c_4).symm, _, hP⟩) dX8_fault_16
set_option maxHeartbeats 4000000 in
set_option maxRecDepth 100000 in
theorem c_X8_carryOut (l : Launch) (V : zV) (g : Nat → Nat) (w pa be av sl sv pd cd : Nat → Int32) (st le ap pl wy : Int32) (n k m_ : Nat) (hJ : zInj 9 g) (hle : le = nI n) (h80 : n ≤ 80) (hok : mOK w m_) (hst : st = nI k) (hk6 : k ≤ 6) : Met l yX8_carryOut wsX8_carryOut (zR 8 0 0) (zPc V [.ref (g 0)] (fun H => va_P V.1 vwCl (zmW V g w pa be av sl sv pd cd st le ap pl wy) H)) (zQi (fun r H => r = (if (mWell pd n).1 = true then nI (mCO pd n (n + 2) (true, 0, w, 0)).2 else -3) ∧ (∃ be' : Nat → Int32, ∃ av' : Nat → Int32, ∃ ap' : Int32, ∃ pl' : Int32, ∃ wy' : Int32, va_P V.1 vwCl (zmW V g (if (mWell pd n).1 = true then (mCO pd n (n + 2) (true, 0, w, 0)).1 else w) (if (mWell pd n).1 = true then mRP pa w k (nI (mCO pd n (n + 2) (true, 0, w, 0)).2) else pa) be' av' sl sv pd cd (if (mWell pd n).1 = true then nI (mRK k (nI (mCO pd n (n + 2) (true, 0, w, 0)).2)) else nI k) (if (mWell pd n).1 = true then 0 else nI n) ap' pl' wy') H)) (zIn 9 g)) 0 0 (zIn 9 g) := by
  refine Met.ofW (cc := cX8_carryOut) (maxL := 3) (ret := (some .int)) (by decide) rfl ?_
  intro p e s m args below meth c s₁ B hml hv
  obtain ⟨rfl, hP, hE⟩ := hv
  have hx := B.exec
  have hb := B.bytes
  have hr := B.returns
  have hts := atoms_spec (ws := wsX8_carryOut) B.pre
  have hown : s.vm.findClass RX8 = some m.cls := findClass_of_methodNamed B.named
  have hlocks := B.notSynchronized
  have hl := lv_entry ([.ref (g 0)]) (n := 3) (Nat.le_of_ble_eq_true rfl)
  rw [lg_entry_eq]
  generalize (lg_sl ([.ref (g 0)]) ++ List.replicate (3 - (lg_sl ([.ref (g 0)])).length) Slot.unset).toArray = ls at hl ⊢
  have hl : lv_has ls 3 [(0, .ref (g 0))] := hl
  have hS : va_S (zIn 9 g) s.heap s.heap [] := va_S.rf
  subst hle
  subst hst
  have hok0 : mOK w m_ := hok
  obtain ⟨hn, h30, hwr, hfd⟩ := hok
  refine lv_aload_n hx hb dX8_carryOut_0 rfl (lv_at hl 0 rfl) ?_
  refine zc_i (va_runV (As := []) (rest := []) ⟨hx, hb, hml, hown, hts⟩ (c_X8_isWell l V g w pa be av sl sv pd cd (nI k) (nI n) ap pl wy  n hJ rfl (by omega)) (cwV 0 hts (zgV_ wsM_all uM_152 uM_157 uM_158 uM_159 uM_21) rfl rfl rfl (by decide +kernel) ⟨Nat.le_of_ble_eq_true rfl, Nat.le_of_ble_eq_true rfl⟩) (zPreV (B := fun H => va_P V.1 vwCl (zmW V g w pa be av sl sv pd cd (nI k) (nI n) ap pl wy) H) hP hE (va_recv hE.1 hP (ci := 8) (q0 := 0) (q := (RX8, TX8, 13)) rfl (zm_c0 V g w pa be av sl sv pd cd (nI k) (nI n) ap pl wy))) rfl rfl hl.1 rfl (lv_room (Nat.le_of_ble_eq_true rfl)) dX8_carryOut_1 ⟨Nat.le_of_ble_eq_true rfl, Nat.le_of_ble_eq_true rfl⟩) hS (fun _ h => h) (fun _ h => h) (fun r_ H locs hQ_ _ _ hS => ?_)
  obtain ⟨hr_, hP⟩ := hQ_
  subst hr_
  refine zbp_ne (P := (mWell pd n).1 = true) (tgt := 10) hx hb dX8_carryOut_4 (by decide) (fun c_4 => ?_) (fun c_4 => ?_)
  · refine lv_aload_n hx hb dX8_carryOut_10 rfl (lv_at hl 0 rfl) ?_
    refine zc_v (va_runV (As := []) (rest := []) ⟨hx, hb, hml, hown, hts⟩ (c_X8_remember l V g w pa be av sl sv pd cd (nI k) (nI n) (nI (mWell pd n).2) pl wy  hJ) (cwV 0 hts (zgV_ wsM_all uM_24 uM_32 uM_33 uM_34 uM_21) rfl rfl rfl (by decide +kernel) ⟨Nat.le_of_ble_eq_true rfl, Nat.le_of_ble_eq_true rfl⟩) (zPreV (B := fun H => va_P V.1 vwCl (zmW V g w pa be av sl sv pd cd (nI k) (nI n) (nI (mWell pd n).2) pl wy) H) hP hE (va_recv hE.1 hP (ci := 8) (q0 := 0) (q := (RX8, TX8, 13)) rfl (zm_c0 V g w pa be av sl sv pd cd (nI k) (nI n) (nI (mWell pd n).2) pl wy))) rfl rfl hl.1 rfl (lv_room (Nat.le_of_ble_eq_true rfl)) dX8_carryOut_11 ⟨Nat.le_of_ble_eq_true rfl, Nat.le_of_ble_eq_true rfl⟩) hS (fun _ h => h) (fun _ h => h) (fun H locs hQ_ _ _ hS => ?_)
    have hP := hQ_
    refine lv_aload_n hx hb dX8_carryOut_14 rfl (lv_at hl 0 rfl) ?_
    refine lv_iconst (v := 0) hx hb dX8_carryOut_15 (by decide +kernel) ?_
    refine zm_put (st' := (nI k)) (le' := (nI n)) (ap' := 0) (pl' := pl) (wy' := wy) 9 0 hx hb hts (fun x h => List.mem_cons_of_mem _ (hU_X8 x h)) hown hE hP hJ hS (by decide) rfl rfl (by decide +kernel) (hts _ (List.mem_cons_of_mem _ uM_143)) (fun _ h9 => h9) dX8_carryOut_16 (fun H locs hP hS => ?_)
    refine lv_iconst (v := 0) hx hb dX8_carryOut_19 (by decide +kernel) ?_
    refine lv_istore_n (lv' := [(1, .int 0), (0, .ref (g 0))]) hx hb dX8_carryOut_20 rfl hl (by decide) rfl (fun ls hl => ?_)
    refine lv_iconst (v := 1) hx hb dX8_carryOut_21 (by decide +kernel) ?_
    refine lv_istore_n (lv' := [(2, .int 1), (1, .int 0), (0, .ref (g 0))]) hx hb dX8_carryOut_22 rfl hl (by decide) rfl (fun ls hl => ?_)
    have L_23 : ∀ (n_ i : Nat) (b : Bool) (a : Nat) (w_ : Nat → Int32) (cnt : Nat) (q_ : Nat) (av_ : Nat → Int32) (pl_ : Int32) (wy_ : Int32) (H : Heap) (locs : List Loc) (ls : Array Slot), i ≤ (n + 1) → (n + 1) + 1 ≤ i + n_ → (mOK w_ q_) → (mCO pd n (n + 2 - i) (b, a, w_, cnt) = mCO pd n (n + 2) (true, 0, w, 0)) → (i ≤ a) → (a ≤ n + 1) → (cnt ≤ i) → va_P V.1 vwCl (zmW V g w_ pa w av_ sl sv pd cd (nI k) (nI n) (nI a) pl_ wy_) H → va_S (zIn 9 g) s.heap H locs → lv_has ls 3 [(1, .int (nI cnt)), (2, .int (if b = true then 1 else 0)), (0, .ref (g 0))] → W p l e (headSpec wsX8_carryOut (zR 8 0 0)).room s m (List.toArray [.ref (g 0)]) below meth c H locs 0 0 (MQ below (zQi (fun r H => r = (if (mWell pd n).1 = true then nI (mCO pd n (n + 2) (true, 0, w, 0)).2 else -3) ∧ (∃ be' : Nat → Int32, ∃ av' : Nat → Int32, ∃ ap' : Int32, ∃ pl' : Int32, ∃ wy' : Int32, va_P V.1 vwCl (zmW V g (if (mWell pd n).1 = true then (mCO pd n (n + 2) (true, 0, w, 0)).1 else w) (if (mWell pd n).1 = true then mRP pa w k (nI (mCO pd n (n + 2) (true, 0, w, 0)).2) else pa) be' av' sl sv pd cd (if (mWell pd n).1 = true then nI (mRK k (nI (mCO pd n (n + 2) (true, 0, w, 0)).2)) else nI k) (if (mWell pd n).1 = true then 0 else nI n) ap' pl' wy') H)) (zIn 9 g)) (List.toArray [.ref (g 0)]) s 0 0 (zIn 9 g)) (F0 m 23 ls []) := by
      intro n_
      induction n_ with
      | zero => intro i b a w_ cnt q_ av_ pl_ wy_ H locs ls hi_ hn_; exact absurd hn_ (by omega)
      | succ n_ ih =>
        intro i b a w_ cnt q_ av_ pl_ wy_ H locs ls hi_ hn_ hokq hfin hia han hcn hP hS hl
        refine lv_iload_n hx hb dX8_carryOut_23 rfl (lv_at hl 1 rfl) ?_
        refine zbp_eq (P := b = true) (tgt := 77) hx hb dX8_carryOut_24 (by decide) (fun c_24 => ?_) (fun c_24 => ?_)
        · have hst_ : mCO pd n (n + 2) (true, 0, w, 0) = (w_, cnt) := by rw [← hfin]; exact mCO_stop pd n (s := (b, a, w_, cnt)) (by first | exact fun h => c_24 h.1 | exact fun h => absurd (show a < n from h.2) (by omega)) _
          refine lv_aload_n hx hb dX8_carryOut_77 rfl (lv_at hl 2 rfl) ?_
          refine lv_iconst (v := 0) hx hb dX8_carryOut_78 (by decide +kernel) ?_
          refine zm_put (st' := (nI k)) (le' := 0) (ap' := (nI a)) (pl' := pl_) (wy' := wy_) 8 0 hx hb hts (fun x h => List.mem_cons_of_mem _ (hU_X8 x h)) hown hE hP hJ hS (by decide) rfl rfl (by decide +kernel) (hts _ (List.mem_cons_of_mem _ uM_134)) (fun _ h9 => h9) dX8_carryOut_79 (fun H locs hP hS => ?_)
          refine lv_aload_n hx hb dX8_carryOut_82 rfl (lv_at hl 2 rfl) ?_
          refine lv_iload_n hx hb dX8_carryOut_83 rfl (lv_at hl 0 rfl) ?_
          refine zc_i (va_runV (As := [.int (nI cnt)]) (rest := []) ⟨hx, hb, hml, hown, hts⟩ (c_X8_record l V g w_ pa w av_ sl sv pd cd (nI k) 0 (nI a) pl_ wy_  k (nI cnt) hJ rfl (by omega)) (cwV 1 hts (zgV_ wsM_all uM_25 uM_35 uM_36 uM_37 uM_21) rfl rfl rfl (by decide +kernel) ⟨Nat.le_of_ble_eq_true rfl, Nat.le_of_ble_eq_true rfl⟩) (zPreV (B := fun H => va_P V.1 vwCl (zmW V g w_ pa w av_ sl sv pd cd (nI k) 0 (nI a) pl_ wy_) H) hP hE (va_recv hE.1 hP (ci := 8) (q0 := 0) (q := (RX8, TX8, 13)) rfl (zm_c0 V g w_ pa w av_ sl sv pd cd (nI k) 0 (nI a) pl_ wy_))) rfl rfl hl.1 rfl (lv_room (Nat.le_of_ble_eq_true rfl)) dX8_carryOut_84 ⟨Nat.le_of_ble_eq_true rfl, Nat.le_of_ble_eq_true rfl⟩) hS (fun _ h => h) (fun _ h => h) (fun r_ H locs hQ_ _ _ hS => ?_)
          obtain ⟨hr_, hP⟩ := hQ_
          subst hr_
          exact zr_i hx hb hr hlocks hS (⟨by rw [if_pos c_4, hst_], _, _, _, _, _, by rw [if_pos c_4, if_pos c_4, if_pos c_4, if_pos c_4, hst_]; exact hP⟩) dX8_carryOut_87
        · refine lv_aload_n hx hb dX8_carryOut_27 rfl (lv_at hl 2 rfl) ?_
          refine zm_get 9 (.int (nI a)) hx hb hts (fun x h => List.mem_cons_of_mem _ (hU_X8 x h)) hown hE hP (by decide) rfl (hts _ (List.mem_cons_of_mem _ uM_143)) (fun _ h9 => h9) dX8_carryOut_28 ?_
          refine lv_aload_n hx hb dX8_carryOut_31 rfl (lv_at hl 2 rfl) ?_
          refine zm_get 8 (.int (nI n)) hx hb hts (fun x h => List.mem_cons_of_mem _ (hU_X8 x h)) hown hE hP (by decide) rfl (hts _ (List.mem_cons_of_mem _ uM_134)) (fun _ h9 => h9) dX8_carryOut_32 ?_
          refine zb_ge (x := a) (y := n) (tgt := 77) hx hb dX8_carryOut_35 (by decide) (by omega) (by omega) (fun c_35 => ?_) (fun c_35 => ?_)
          · have hst_ : mCO pd n (n + 2) (true, 0, w, 0) = (w_, cnt) := by rw [← hfin]; exact mCO_stop pd n (s := (b, a, w_, cnt)) (by first | exact fun h => c_24 h.1 | exact fun h => absurd (show a < n from h.2) (by omega)) _
            refine lv_aload_n hx hb dX8_carryOut_77 rfl (lv_at hl 2 rfl) ?_
            refine lv_iconst (v := 0) hx hb dX8_carryOut_78 (by decide +kernel) ?_
            refine zm_put (st' := (nI k)) (le' := 0) (ap' := (nI a)) (pl' := pl_) (wy' := wy_) 8 0 hx hb hts (fun x h => List.mem_cons_of_mem _ (hU_X8 x h)) hown hE hP hJ hS (by decide) rfl rfl (by decide +kernel) (hts _ (List.mem_cons_of_mem _ uM_134)) (fun _ h9 => h9) dX8_carryOut_79 (fun H locs hP hS => ?_)
            refine lv_aload_n hx hb dX8_carryOut_82 rfl (lv_at hl 2 rfl) ?_
            refine lv_iload_n hx hb dX8_carryOut_83 rfl (lv_at hl 0 rfl) ?_
            refine zc_i (va_runV (As := [.int (nI cnt)]) (rest := []) ⟨hx, hb, hml, hown, hts⟩ (c_X8_record l V g w_ pa w av_ sl sv pd cd (nI k) 0 (nI a) pl_ wy_  k (nI cnt) hJ rfl (by omega)) (cwV 1 hts (zgV_ wsM_all uM_25 uM_35 uM_36 uM_37 uM_21) rfl rfl rfl (by decide +kernel) ⟨Nat.le_of_ble_eq_true rfl, Nat.le_of_ble_eq_true rfl⟩) (zPreV (B := fun H => va_P V.1 vwCl (zmW V g w_ pa w av_ sl sv pd cd (nI k) 0 (nI a) pl_ wy_) H) hP hE (va_recv hE.1 hP (ci := 8) (q0 := 0) (q := (RX8, TX8, 13)) rfl (zm_c0 V g w_ pa w av_ sl sv pd cd (nI k) 0 (nI a) pl_ wy_))) rfl rfl hl.1 rfl (lv_room (Nat.le_of_ble_eq_true rfl)) dX8_carryOut_84 ⟨Nat.le_of_ble_eq_true rfl, Nat.le_of_ble_eq_true rfl⟩) hS (fun _ h => h) (fun _ h => h) (fun r_ H locs hQ_ _ _ hS => ?_)
            obtain ⟨hr_, hP⟩ := hQ_
            subst hr_
            exact zr_i hx hb hr hlocks hS (⟨by rw [if_pos c_4, hst_], _, _, _, _, _, by rw [if_pos c_4, if_pos c_4, if_pos c_4, if_pos c_4, hst_]; exact hP⟩) dX8_carryOut_87
          · refine lv_aload_n hx hb dX8_carryOut_38 rfl (lv_at hl 2 rfl) ?_
            refine lv_iconst (v := 1) hx hb dX8_carryOut_39 (by decide +kernel) ?_
            refine zc_i (va_runV (As := [.int 1]) (rest := []) ⟨hx, hb, hml, hown, hts⟩ (c_X8_order1 l V g w_ pa w av_ sl sv pd cd (nI k) (nI n) (nI a) pl_ wy_  n a q_ hJ rfl rfl (by omega) (by omega) hokq) (cwV 1 hts (zgV_ wsM_all uM_148 uM_153 uM_154 uM_155 uM_21) rfl rfl rfl (by decide +kernel) ⟨Nat.le_of_ble_eq_true rfl, Nat.le_of_ble_eq_true rfl⟩) (zPreV (B := fun H => va_P V.1 vwCl (zmW V g w_ pa w av_ sl sv pd cd (nI k) (nI n) (nI a) pl_ wy_) H) hP hE (va_recv hE.1 hP (ci := 8) (q0 := 0) (q := (RX8, TX8, 13)) rfl (zm_c0 V g w_ pa w av_ sl sv pd cd (nI k) (nI n) (nI a) pl_ wy_))) rfl rfl hl.1 rfl (lv_room (Nat.le_of_ble_eq_true rfl)) dX8_carryOut_40 ⟨Nat.le_of_ble_eq_true rfl, Nat.le_of_ble_eq_true rfl⟩) hS (fun _ h => h) (fun _ h => h) (fun r_ H locs hQ_ _ _ hS => ?_)
            obtain ⟨hr_, av'_1, pl'_2, wy'_3, hP⟩ := hQ_
            subst hr_
            refine lv_if_lt (tgt := 50) hx hb dX8_carryOut_43 (by decide) (fun c_43 => ?_) (fun c_43 => ?_)
            · refine lv_iconst (v := 0) hx hb dX8_carryOut_50 (by decide +kernel) ?_
              refine lv_istore_n (lv' := [(2, .int 0), (1, .int (nI cnt)), (0, .ref (g 0))]) hx hb dX8_carryOut_51 rfl hl (by decide) rfl (fun ls hl => ?_)
              refine lv_iload_n hx hb dX8_carryOut_52 rfl (lv_at hl 1 rfl) ?_
              refine lv_iload_n hx hb dX8_carryOut_53 rfl (lv_at hl 0 rfl) ?_
              refine lv_if_eq (tgt := 61) hx hb dX8_carryOut_54 (by decide) (fun c_54 => ?_) (fun c_54 => ?_)
              rotate_left
              · exact absurd c_54 (by decide +kernel)
              refine lv_iconst (v := 0) hx hb dX8_carryOut_61 (by decide +kernel) ?_
              refine lv_iadd hx hb dX8_carryOut_62 ?_
              refine zt_i (z_add (a := cnt) (b := 0) (by first | rfl | omega)) ?_
              refine lv_istore_n (lv' := [(1, .int (nI cnt)), (2, .int 0), (0, .ref (g 0))]) hx hb dX8_carryOut_63 rfl hl (by decide) rfl (fun ls hl => ?_)
              refine lv_aload_n hx hb dX8_carryOut_64 rfl (lv_at hl 2 rfl) ?_
              refine lv_dup hx hb dX8_carryOut_65 rfl ?_
              refine zm_get 9 (.int (nI ((mTok pd n a).2.1))) hx hb hts (fun x h => List.mem_cons_of_mem _ (hU_X8 x h)) hown hE hP (by decide) rfl (hts _ (List.mem_cons_of_mem _ uM_143)) (fun _ h9 => h9) dX8_carryOut_66 ?_
              refine lv_iconst (v := 1) hx hb dX8_carryOut_69 (by decide +kernel) ?_
              refine lv_iadd hx hb dX8_carryOut_70 ?_
              refine zt_i (z_add (a := (mTok pd n a).2.1) (b := 1) (by first | rfl | omega)) ?_
              refine zm_put (st' := (nI k)) (le' := (nI n)) (ap' := nI (((mTok pd n a).2.1) + 1)) (pl' := pl'_2) (wy' := wy'_3) 9 (nI (((mTok pd n a).2.1) + 1)) hx hb hts (fun x h => List.mem_cons_of_mem _ (hU_X8 x h)) hown hE hP hJ hS (by decide) rfl rfl (by decide +kernel) (hts _ (List.mem_cons_of_mem _ uM_143)) (fun _ h9 => h9) dX8_carryOut_71 (fun H locs hP hS => ?_)
              refine lv_goto (tgt := 23) hx hb dX8_carryOut_74 (by decide) ?_
              have hle1_ := mTok_le pd (n := n) (a := a) (by omega)
              obtain ⟨q2_, hq2_⟩ := mDo_ok hokq (mTok pd n a)
              have hok2_ : ∃ q, mOK (if (mTok pd n a).1 = true then (mDo w_ q_ (mTok pd n a)).2 else w_) q := by
                by_cases h : (mTok pd n a).1 = true
                · rw [if_pos h]; exact ⟨q2_, hq2_⟩
                · rw [if_neg h]; exact ⟨q_, hokq⟩
              obtain ⟨q3_, hq3_⟩ := hok2_
              have hf1_ : mCO pd n (n + 2 - (i + 1)) (false, (mTok pd n a).2.1 + 1, (if (mTok pd n a).1 = true then (mDo w_ q_ (mTok pd n a)).2 else w_), cnt) = mCO pd n (n + 2) (true, 0, w, 0) := by
                rw [← hfin, show n + 2 - i = (n + 2 - (i + 1)) + 1 by omega, c_24]
                refine Eq.trans ?_ (if_pos ⟨rfl, c_35⟩).symm
                dsimp only
                rw [nOf_ok hokq]
                rw [mCO_stop pd n (fun h => by cases h.1)]
                by_cases h : (mTok pd n a).1 = true
                · rw [if_pos h] at c_43 ⊢; rw [if_neg (fun q => z_lt' c_43 q.2)]; first | done | rfl
                · rw [if_neg h, if_neg (fun q => h q.1)]; first | done | rfl
              exact ih (i + 1) false ((mTok pd n a).2.1 + 1) (if (mTok pd n a).1 = true then (mDo w_ q_ (mTok pd n a)).2 else w_) cnt q3_ av'_1 pl'_2 wy'_3 H locs ls (by omega) (by omega) hq3_ hf1_ (by omega) (by omega) (by omega) hP hS (lv_sub hl [0, 1, 2] rfl)
            · refine lv_iconst (v := 1) hx hb dX8_carryOut_46 (by decide +kernel) ?_
              refine lv_goto (tgt := 51) hx hb dX8_carryOut_47 (by decide) ?_
              refine lv_istore_n (lv' := [(2, .int 1), (1, .int (nI cnt)), (0, .ref (g 0))]) hx hb dX8_carryOut_51 rfl hl (by decide) rfl (fun ls hl => ?_)
              refine lv_iload_n hx hb dX8_carryOut_52 rfl (lv_at hl 1 rfl) ?_
              refine lv_iload_n hx hb dX8_carryOut_53 rfl (lv_at hl 0 rfl) ?_
              refine lv_if_eq (tgt := 61) hx hb dX8_carryOut_54 (by decide) (fun c_54 => ?_) (fun c_54 => ?_)
              · exact absurd c_54 (by decide +kernel)
              refine lv_iconst (v := 1) hx hb dX8_carryOut_57 (by decide +kernel) ?_
              refine lv_goto (tgt := 62) hx hb dX8_carryOut_58 (by decide) ?_
              refine lv_iadd hx hb dX8_carryOut_62 ?_
              refine zt_i (z_add (a := cnt) (b := 1) (by first | rfl | omega)) ?_
              refine lv_istore_n (lv' := [(1, .int (nI (cnt + 1))), (2, .int 1), (0, .ref (g 0))]) hx hb dX8_carryOut_63 rfl hl (by decide) rfl (fun ls hl => ?_)
              refine lv_aload_n hx hb dX8_carryOut_64 rfl (lv_at hl 2 rfl) ?_
              refine lv_dup hx hb dX8_carryOut_65 rfl ?_
              refine zm_get 9 (.int (nI ((mTok pd n a).2.1))) hx hb hts (fun x h => List.mem_cons_of_mem _ (hU_X8 x h)) hown hE hP (by decide) rfl (hts _ (List.mem_cons_of_mem _ uM_143)) (fun _ h9 => h9) dX8_carryOut_66 ?_
              refine lv_iconst (v := 1) hx hb dX8_carryOut_69 (by decide +kernel) ?_
              refine lv_iadd hx hb dX8_carryOut_70 ?_
              refine zt_i (z_add (a := (mTok pd n a).2.1) (b := 1) (by first | rfl | omega)) ?_
              refine zm_put (st' := (nI k)) (le' := (nI n)) (ap' := nI (((mTok pd n a).2.1) + 1)) (pl' := pl'_2) (wy' := wy'_3) 9 (nI (((mTok pd n a).2.1) + 1)) hx hb hts (fun x h => List.mem_cons_of_mem _ (hU_X8 x h)) hown hE hP hJ hS (by decide) rfl rfl (by decide +kernel) (hts _ (List.mem_cons_of_mem _ uM_143)) (fun _ h9 => h9) dX8_carryOut_71 (fun H locs hP hS => ?_)
              refine lv_goto (tgt := 23) hx hb dX8_carryOut_74 (by decide) ?_
              have hle1_ := mTok_le pd (n := n) (a := a) (by omega)
              obtain ⟨q2_, hq2_⟩ := mDo_ok hokq (mTok pd n a)
              have hok2_ : ∃ q, mOK (if (mTok pd n a).1 = true then (mDo w_ q_ (mTok pd n a)).2 else w_) q := by
                by_cases h : (mTok pd n a).1 = true
                · rw [if_pos h]; exact ⟨q2_, hq2_⟩
                · rw [if_neg h]; exact ⟨q_, hokq⟩
              obtain ⟨q3_, hq3_⟩ := hok2_
              have hf1_ : mCO pd n (n + 2 - (i + 1)) (true, (mTok pd n a).2.1 + 1, (if (mTok pd n a).1 = true then (mDo w_ q_ (mTok pd n a)).2 else w_), cnt + 1) = mCO pd n (n + 2) (true, 0, w, 0) := by
                rw [← hfin, show n + 2 - i = (n + 2 - (i + 1)) + 1 by omega, c_24]
                refine Eq.trans ?_ (if_pos ⟨rfl, c_35⟩).symm
                dsimp only
                rw [nOf_ok hokq]
                have htk_ : (mTok pd n a).1 = true := by
                  by_cases h : (mTok pd n a).1 = true
                  · exact h
                  · rw [if_neg h] at c_43; exact absurd c_43 (by decide)
                rw [if_pos htk_] at c_43 ⊢
                rw [if_pos ⟨htk_, z_nlt c_43⟩]
              exact ih (i + 1) true ((mTok pd n a).2.1 + 1) (if (mTok pd n a).1 = true then (mDo w_ q_ (mTok pd n a)).2 else w_) (cnt + 1) q3_ av'_1 pl'_2 wy'_3 H locs ls (by omega) (by omega) hq3_ hf1_ (by omega) (by omega) (by omega) hP hS (lv_sub hl [0, 1, 2] rfl)
    exact L_23 ((n + 1) + 1) 0 true 0 w 0 m_ av pl wy H locs ls (by omega) (by omega) hok0 rfl (by omega) (by omega) (by omega) hP hS (lv_sub hl [1, 0, 2] rfl)
  · refine lv_bipush (v := (-3)) hx hb dX8_carryOut_7 (by decide +kernel) ?_
    exact zr_i hx hb hr hlocks hS (⟨(if_neg c_4).symm, _, _, _, _, _, by rw [if_neg c_4, if_neg c_4, if_neg c_4, if_neg c_4]; exact hP⟩) dX8_carryOut_9
