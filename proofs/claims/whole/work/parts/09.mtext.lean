def mDig (pd : Nat → Int32) (n a : Nat) : Prop := a < n ∧ (48 ≤ pd a ∧ pd a ≤ 57)
def mNum (pd : Nat → Int32) (n a : Nat) : Int32 × Nat := if 0 < pd a - 48 ∧ (a + 1 < n ∧ (48 ≤ pd (a + 1) ∧ pd (a + 1) ≤ 57)) then (10 * (pd a - 48) + pd (a + 1) - 48, a + 2) else (pd a - 48, a + 1)
def mSg (pd : Nat → Int32) (n a : Nat) : Int32 := if a < n then pd a else 0
/-- an order is read from a place on: is it one, where the reading stands then, its sign, its number, how many more -/
def mTok (pd : Nat → Int32) (n a : Nat) : Bool × Nat × Int32 × Int32 × Int32 :=
  if mSg pd n a = 114 ∨ mSg pd n a = 119 ∨ mSg pd n a = 115 ∨ mSg pd n a = 116 then
    (if a + 1 < n ∧ (48 ≤ pd (a + 1) ∧ pd (a + 1) ≤ 57) then
      (if (mSg pd n a = 114 ∨ mSg pd n a = 119) ∧ ((mNum pd n (a + 1)).2 < n ∧ (43 ≤ pd (mNum pd n (a + 1)).2 ∧ pd (mNum pd n (a + 1)).2 ≤ 43)) then
        (if (mNum pd n (a + 1)).2 + 1 < n ∧ (48 ≤ pd ((mNum pd n (a + 1)).2 + 1) ∧ pd ((mNum pd n (a + 1)).2 + 1) ≤ 57) then
          (true, (mNum pd n (a + 1)).2 + 2, mSg pd n a, (mNum pd n (a + 1)).1, pd ((mNum pd n (a + 1)).2 + 1) - 48)
        else (false, (mNum pd n (a + 1)).2 + 1, mSg pd n a, 0, 0))
      else (true, (mNum pd n (a + 1)).2, mSg pd n a, (mNum pd n (a + 1)).1, 0))
    else (false, a + 1, mSg pd n a, 0, 0))
  else (false, a, mSg pd n a, 0, 0)
theorem mNum_le (pd : Nat → Int32) {n a : Nat} (h : a < n) : a < (mNum pd n a).2 ∧ (mNum pd n a).2 ≤ n := by
  unfold mNum
  split
  · rename_i h1
    exact ⟨by show a < a + 2; omega, by show a + 2 ≤ n; omega⟩
  · exact ⟨by show a < a + 1; omega, by show a + 1 ≤ n; omega⟩
theorem mTok_le (pd : Nat → Int32) {n a : Nat} (h : a ≤ n) : a ≤ (mTok pd n a).2.1 ∧ (mTok pd n a).2.1 ≤ n ∧ ((mTok pd n a).1 = true → a < (mTok pd n a).2.1) := by
  unfold mTok
  split
  · rename_i h0
    have han : a < n := by
      rcases Nat.lt_or_ge a n with q | q
      · exact q
      · exfalso
        have e : mSg pd n a = 0 := if_neg (by omega)
        rw [e] at h0
        revert h0
        decide
    split
    · rename_i h1
      have h2 := mNum_le pd (n := n) (a := a + 1) h1.1
      split
      · rename_i h3
        split
        · rename_i h4
          exact ⟨by show a ≤ _ + 2; omega, by show _ + 2 ≤ n; omega, fun _ => by show a < _ + 2; omega⟩
        · exact ⟨by show a ≤ _ + 1; omega, by show _ + 1 ≤ n; omega, fun h => by cases h⟩
      · exact ⟨by show a ≤ (mNum pd n (a + 1)).2; omega, by show (mNum pd n (a + 1)).2 ≤ n; omega, fun _ => by show a < (mNum pd n (a + 1)).2; omega⟩
    · exact ⟨by show a ≤ a + 1; omega, by show a + 1 ≤ n; omega, fun h => by cases h⟩
  · exact ⟨Nat.le_refl _, h, fun h => by cases h⟩
/-- an order is carried out -/
def mDo (w : Nat → Int32) (n : Nat) (t : Bool × Nat × Int32 × Int32 × Int32) : Int32 × (Nat → Int32) :=
  if t.2.2.1 = 114 ∨ t.2.2.1 = 119 then mComes w n (if t.2.2.1 = 119 then 1 else 0) t.2.2.2.1 (1 + t.2.2.2.2)
  else if t.2.2.1 = 115 then mServes w n t.2.2.2.1 else mWaits w t.2.2.2.1
/-- the pad is read to its end, or to its fault: is it well, where the reading stands -/
def mWl (pd : Nat → Int32) (n : Nat) : Nat → Bool × Nat → Bool × Nat
  | 0, s => s
  | f + 1, s => if s.1 = true ∧ s.2 < n then (if 59 ≤ pd s.2 ∧ pd s.2 ≤ 59 then mWl pd n f ((mTok pd n (s.2 + 1)).1, (mTok pd n (s.2 + 1)).2.1) else (false, s.2)) else s
def mWell (pd : Nat → Int32) (n : Nat) : Bool × Nat := mWl pd n (n + 1) ((mTok pd n 0).1, (mTok pd n 0).2.1)
def nOf (w : Nat → Int32) : Nat := (w 7).toNatClampNeg
/-- the orders of a text that is well: the row, how many were carried out -/
def mCO (pd : Nat → Int32) (n : Nat) : Nat → Bool × Nat × (Nat → Int32) × Nat → (Nat → Int32) × Nat
  | 0, s => (s.2.2.1, s.2.2.2)
  | f + 1, s => if s.1 = true ∧ s.2.1 < n then
      (let t := mTok pd n s.2.1
       let r := mDo s.2.2.1 (nOf s.2.2.1) t
       if t.1 = true ∧ 0 ≤ r.1 then mCO pd n f (true, t.2.1 + 1, r.2, s.2.2.2 + 1) else ((if t.1 = true then r.2 else s.2.2.1), s.2.2.2))
    else (s.2.2.1, s.2.2.2)
set_option maxHeartbeats 4000000 in
set_option maxRecDepth 100000 in
theorem c_X8_number (l : Launch) (V : zV) (g : Nat → Nat) (w pa be av sl sv pd cd : Nat → Int32) (st le ap pl wy : Int32) (n a : Nat) (hJ : zInj 9 g) (hle : le = nI n) (hap : ap = nI a) (h80 : n ≤ 80) (han : a < n) : Met l yX8_number wsX8_number (zR 2 0 0) (zPc V [.ref (g 0)] (fun H => va_P V.1 vwCl (zmW V g w pa be av sl sv pd cd st le ap pl wy) H)) (zQi (fun r H => r = ((mNum pd n a).1) ∧ va_P V.1 vwCl (zmW V g w pa be av sl sv pd cd st le (nI (mNum pd n a).2) pl wy) H) (zIn 9 g)) 0 0 (zIn 9 g) := by
  refine Met.ofW (cc := cX8_number) (maxL := 2) (ret := (some .int)) (by decide) rfl ?_
  intro p e s m args below meth c s₁ B hml hv
  obtain ⟨rfl, hP, hE⟩ := hv
  have hx := B.exec
  have hb := B.bytes
  have hr := B.returns
  have hts := atoms_spec (ws := wsX8_number) B.pre
  have hown : s.vm.findClass RX8 = some m.cls := findClass_of_methodNamed B.named
  have hlocks := B.notSynchronized
  have hl := lv_entry ([.ref (g 0)]) (n := 2) (Nat.le_of_ble_eq_true rfl)
  rw [lg_entry_eq]
  generalize (lg_sl ([.ref (g 0)]) ++ List.replicate (2 - (lg_sl ([.ref (g 0)])).length) Slot.unset).toArray = ls at hl ⊢
  have hl : lv_has ls 2 [(0, .ref (g 0))] := hl
  have hS : va_S (zIn 9 g) s.heap s.heap [] := va_S.rf
  subst hap
  subst hle
  refine lv_aload_n hx hb dX8_number_0 rfl (lv_at hl 0 rfl) ?_
  refine zm_get 7 (.ref (g 7)) hx hb hts (fun x h => List.mem_cons_of_mem _ (hU_X8 x h)) hown hE hP (by decide) rfl (hts _ (List.mem_cons_of_mem _ uM_12)) (fun _ h9 => h9) dX8_number_1 ?_
  refine lv_aload_n hx hb dX8_number_4 rfl (lv_at hl 0 rfl) ?_
  refine zm_get 9 (.int (nI a)) hx hb hts (fun x h => List.mem_cons_of_mem _ (hU_X8 x h)) hown hE hP (by decide) rfl (hts _ (List.mem_cons_of_mem _ uM_143)) (fun _ h9 => h9) dX8_number_5 ?_
  refine z_iald (k := a) hx hb hE hP 7 (zm_c7 V g w pa be av sl sv pd cd st (nI n) (nI a) pl wy) (by omega) (by decide) dX8_number_8 ?_
  refine lv_bipush (v := 48) hx hb dX8_number_9 (by decide +kernel) ?_
  refine lv_isub hx hb dX8_number_11 ?_
  refine lv_istore_n (lv' := [(1, .int ((pd a) - 48)), (0, .ref (g 0))]) hx hb dX8_number_12 rfl hl (by decide) rfl (fun ls hl => ?_)
  refine lv_aload_n hx hb dX8_number_13 rfl (lv_at hl 1 rfl) ?_
  refine lv_dup hx hb dX8_number_14 rfl ?_
  refine zm_get 9 (.int (nI a)) hx hb hts (fun x h => List.mem_cons_of_mem _ (hU_X8 x h)) hown hE hP (by decide) rfl (hts _ (List.mem_cons_of_mem _ uM_143)) (fun _ h9 => h9) dX8_number_15 ?_
  refine lv_iconst (v := 1) hx hb dX8_number_18 (by decide +kernel) ?_
  refine lv_iadd hx hb dX8_number_19 ?_
  refine zt_i (z_add (a := a) (b := 1) (by first | rfl | omega)) ?_
  refine zm_put (st' := st) (le' := (nI n)) (ap' := nI (a + 1)) (pl' := pl) (wy' := wy) 9 (nI (a + 1)) hx hb hts (fun x h => List.mem_cons_of_mem _ (hU_X8 x h)) hown hE hP hJ hS (by decide) rfl rfl (by decide +kernel) (hts _ (List.mem_cons_of_mem _ uM_143)) (fun _ h9 => h9) dX8_number_20 (fun H locs hP hS => ?_)
  refine lv_iload_n hx hb dX8_number_23 rfl (lv_at hl 0 rfl) ?_
  refine lv_if_le (tgt := 66) hx hb dX8_number_24 (by decide) (fun c_24 => ?_) (fun c_24 => ?_)
  · refine lv_iload_n hx hb dX8_number_66 rfl (lv_at hl 0 rfl) ?_
    exact zr_i hx hb hr hlocks hS (⟨by rw [mNum, if_neg (fun h => z_le' c_24 h.1)], by rw [show mNum pd n a = ((pd a) - 48, a + 1) by rw [mNum, if_neg (fun h => z_le' c_24 h.1)]]; exact hP⟩) dX8_number_67
  · refine lv_aload_n hx hb dX8_number_27 rfl (lv_at hl 1 rfl) ?_
    refine lv_bipush (v := 48) hx hb dX8_number_28 (by decide +kernel) ?_
    refine lv_bipush (v := 57) hx hb dX8_number_30 (by decide +kernel) ?_
    refine zc_se (va_runV (As := [.int 48, .int 57]) (rest := []) ⟨hx, hb, hml, hown, hts⟩ (c_X8_sees l V g w pa be av sl sv pd cd st (nI n) (nI (a + 1)) pl wy (a + 1) n 48 57 rfl rfl (by omega) (by omega)) (cwV 2 hts (zgV_ wsM_all uM_142 uM_145 uM_146 uM_147 uM_21) rfl rfl rfl (by decide +kernel) ⟨Nat.le_of_ble_eq_true rfl, Nat.le_of_ble_eq_true rfl⟩) (zPreV (B := fun H => va_P V.1 vwCl (zmW V g w pa be av sl sv pd cd st (nI n) (nI (a + 1)) pl wy) H) hP hE (va_recv hE.1 hP (ci := 8) (q0 := 0) (q := (RX8, TX8, 13)) rfl (zm_c0 V g w pa be av sl sv pd cd st (nI n) (nI (a + 1)) pl wy))) rfl rfl hl.1 rfl (lv_room (Nat.le_of_ble_eq_true rfl)) dX8_number_32 ⟨Nat.le_of_ble_eq_true rfl, Nat.le_of_ble_eq_true rfl⟩) ?_
    refine zbp_eq (P := (a + 1) < n ∧ (48 ≤ pd (a + 1) ∧ pd (a + 1) ≤ 57)) (tgt := 66) hx hb dX8_number_35 (by decide) (fun c_35 => ?_) (fun c_35 => ?_)
    · refine lv_iload_n hx hb dX8_number_66 rfl (lv_at hl 0 rfl) ?_
      exact zr_i hx hb hr hlocks hS (⟨by rw [mNum, if_neg (fun h => c_35 h.2)], by rw [show mNum pd n a = ((pd a) - 48, a + 1) by rw [mNum, if_neg (fun h => c_35 h.2)]]; exact hP⟩) dX8_number_67
    · refine lv_bipush (v := 10) hx hb dX8_number_38 (by decide +kernel) ?_
      refine lv_iload_n hx hb dX8_number_40 rfl (lv_at hl 0 rfl) ?_
      refine lv_imul hx hb dX8_number_41 ?_
      refine lv_aload_n hx hb dX8_number_42 rfl (lv_at hl 1 rfl) ?_
      refine zm_get 7 (.ref (g 7)) hx hb hts (fun x h => List.mem_cons_of_mem _ (hU_X8 x h)) hown hE hP (by decide) rfl (hts _ (List.mem_cons_of_mem _ uM_12)) (fun _ h9 => h9) dX8_number_43 ?_
      refine lv_aload_n hx hb dX8_number_46 rfl (lv_at hl 1 rfl) ?_
      refine zm_get 9 (.int (nI (a + 1))) hx hb hts (fun x h => List.mem_cons_of_mem _ (hU_X8 x h)) hown hE hP (by decide) rfl (hts _ (List.mem_cons_of_mem _ uM_143)) (fun _ h9 => h9) dX8_number_47 ?_
      refine z_iald (k := a + 1) hx hb hE hP 7 (zm_c7 V g w pa be av sl sv pd cd st (nI n) (nI (a + 1)) pl wy) (by omega) (by decide) dX8_number_50 ?_
      refine lv_iadd hx hb dX8_number_51 ?_
      refine lv_bipush (v := 48) hx hb dX8_number_52 (by decide +kernel) ?_
      refine lv_isub hx hb dX8_number_54 ?_
      refine lv_istore_n (lv' := [(1, .int (((10 * ((pd a) - 48)) + (pd (a + 1))) - 48)), (0, .ref (g 0))]) hx hb dX8_number_55 rfl hl (by decide) rfl (fun ls hl => ?_)
      refine lv_aload_n hx hb dX8_number_56 rfl (lv_at hl 1 rfl) ?_
      refine lv_dup hx hb dX8_number_57 rfl ?_
      refine zm_get 9 (.int (nI (a + 1))) hx hb hts (fun x h => List.mem_cons_of_mem _ (hU_X8 x h)) hown hE hP (by decide) rfl (hts _ (List.mem_cons_of_mem _ uM_143)) (fun _ h9 => h9) dX8_number_58 ?_
      refine lv_iconst (v := 1) hx hb dX8_number_61 (by decide +kernel) ?_
      refine lv_iadd hx hb dX8_number_62 ?_
      refine zt_i (z_add (a := a + 1) (b := 1) (by first | rfl | omega)) ?_
      refine zm_put (st' := st) (le' := (nI n)) (ap' := nI (a + 2)) (pl' := pl) (wy' := wy) 9 (nI (a + 2)) hx hb hts (fun x h => List.mem_cons_of_mem _ (hU_X8 x h)) hown hE hP hJ hS (by decide) rfl rfl (by decide +kernel) (hts _ (List.mem_cons_of_mem _ uM_143)) (fun _ h9 => h9) dX8_number_63 (fun H locs hP hS => ?_)
      refine lv_iload_n hx hb dX8_number_66 rfl (lv_at hl 0 rfl) ?_
      exact zr_i hx hb hr hlocks hS (⟨by rw [mNum, if_pos ⟨z_nle c_24, c_35⟩], by rw [show mNum pd n a = (((10 * ((pd a) - 48)) + (pd (a + 1))) - 48, a + 2) by rw [mNum, if_pos ⟨z_nle c_24, c_35⟩]]; exact hP⟩) dX8_number_67
set_option maxHeartbeats 4000000 in
set_option maxRecDepth 100000 in
theorem c_X8_order (l : Launch) (V : zV) (g : Nat → Nat) (w pa be av sl sv pd cd : Nat → Int32) (st le ap pl wy : Int32) (n a : Nat) (hJ : zInj 9 g) (hle : le = nI n) (hap : ap = nI a) (h80 : n ≤ 80) (han : a ≤ n) : Met l yX8_order wsX8_order (zR 6 0 0) (zPc V [.ref (g 0), .int 0] (fun H => va_P V.1 vwCl (zmW V g w pa be av sl sv pd cd st le ap pl wy) H)) (zQi (fun r H => r = (if (mTok pd n a).1 = true then 0 else -3) ∧ va_P V.1 vwCl (zmW V g w pa be av sl sv pd cd st le (nI (mTok pd n a).2.1) pl wy) H) (zIn 9 g)) 0 0 (zIn 9 g) := by
  refine Met.ofW (cc := cX8_order) (maxL := 6) (ret := (some .int)) (by decide) rfl ?_
  intro p e s m args below meth c s₁ B hml hv
  obtain ⟨rfl, hP, hE⟩ := hv
  have hx := B.exec
  have hb := B.bytes
  have hr := B.returns
  have hts := atoms_spec (ws := wsX8_order) B.pre
  have hown : s.vm.findClass RX8 = some m.cls := findClass_of_methodNamed B.named
  have hlocks := B.notSynchronized
  have hl := lv_entry ([.ref (g 0), .int 0]) (n := 6) (Nat.le_of_ble_eq_true rfl)
  rw [lg_entry_eq]
  generalize (lg_sl ([.ref (g 0), .int 0]) ++ List.replicate (6 - (lg_sl ([.ref (g 0), .int 0])).length) Slot.unset).toArray = ls at hl ⊢
  have hl : lv_has ls 6 [(0, .ref (g 0)), (1, .int 0)] := hl
  have hS : va_S (zIn 9 g) s.heap s.heap [] := va_S.rf
  subst hap
  subst hle
  have J_24 : ∀ (sg : Int32) (ls : Array Slot), True → (sg = mSg pd n a) → lv_has ls 6 [(0, .ref (g 0)), (1, .int 0)] → W p l e (headSpec wsX8_order (zR 6 0 0)).room s m (List.toArray [.ref (g 0), .int 0]) below meth c s.heap [] 0 0 (MQ below (zQi (fun r H => r = (if (mTok pd n a).1 = true then 0 else -3) ∧ va_P V.1 vwCl (zmW V g w pa be av sl sv pd cd st (nI n) (nI (mTok pd n a).2.1) pl wy) H) (zIn 9 g)) (List.toArray [.ref (g 0), .int 0]) s 0 0 (zIn 9 g)) (F0 m 24 ls [.int sg]) := by
    intro sg  ls _ hsg  hl
    refine lv_istore_n (lv' := [(2, .int sg), (0, .ref (g 0)), (1, .int 0)]) hx hb dX8_order_24 rfl hl (by decide) rfl (fun ls hl => ?_)
    have J_52 : ∀ (ls : Array Slot), True → (mSg pd n a = 114 ∨ mSg pd n a = 119 ∨ mSg pd n a = 115 ∨ mSg pd n a = 116) → lv_has ls 6 [(2, .int sg), (0, .ref (g 0)), (1, .int 0)] → W p l e (headSpec wsX8_order (zR 6 0 0)).room s m (List.toArray [.ref (g 0), .int 0]) below meth c s.heap [] 0 0 (MQ below (zQi (fun r H => r = (if (mTok pd n a).1 = true then 0 else -3) ∧ va_P V.1 vwCl (zmW V g w pa be av sl sv pd cd st (nI n) (nI (mTok pd n a).2.1) pl wy) H) (zIn 9 g)) (List.toArray [.ref (g 0), .int 0]) s 0 0 (zIn 9 g)) (F0 m 52 ls []) := by
      intro   ls _ hsg4  hl
      have han : a < n := by
        rcases Nat.lt_or_ge a n with q | q
        · exact q
        · exfalso; have e0 : mSg pd n a = 0 := if_neg (by omega)
          rw [e0] at hsg4; revert hsg4; decide
      refine lv_aload_n hx hb dX8_order_52 rfl (lv_at hl 1 rfl) ?_
      refine lv_dup hx hb dX8_order_53 rfl ?_
      refine zm_get 9 (.int (nI a)) hx hb hts (fun x h => List.mem_cons_of_mem _ (hU_X8 x h)) hown hE hP (by decide) rfl (hts _ (List.mem_cons_of_mem _ uM_143)) (fun _ h9 => h9) dX8_order_54 ?_
      refine lv_iconst (v := 1) hx hb dX8_order_57 (by decide +kernel) ?_
      refine lv_iadd hx hb dX8_order_58 ?_
      refine zt_i (z_add (a := a) (b := 1) (by first | rfl | omega)) ?_
      refine zm_put (st' := st) (le' := (nI n)) (ap' := nI (a + 1)) (pl' := pl) (wy' := wy) 9 (nI (a + 1)) hx hb hts (fun x h => List.mem_cons_of_mem _ (hU_X8 x h)) hown hE hP hJ hS (by decide) rfl rfl (by decide +kernel) (hts _ (List.mem_cons_of_mem _ uM_143)) (fun _ h9 => h9) dX8_order_59 (fun H locs hP hS => ?_)
      refine lv_aload_n hx hb dX8_order_62 rfl (lv_at hl 1 rfl) ?_
      refine lv_bipush (v := 48) hx hb dX8_order_63 (by decide +kernel) ?_
      refine lv_bipush (v := 57) hx hb dX8_order_65 (by decide +kernel) ?_
      refine zc_se (va_runV (As := [.int 48, .int 57]) (rest := []) ⟨hx, hb, hml, hown, hts⟩ (c_X8_sees l V g w pa be av sl sv pd cd st (nI n) (nI (a + 1)) pl wy (a + 1) n 48 57 rfl rfl (by omega) (by omega)) (cwV 2 hts (zgV_ wsM_all uM_142 uM_145 uM_146 uM_147 uM_21) rfl rfl rfl (by decide +kernel) ⟨Nat.le_of_ble_eq_true rfl, Nat.le_of_ble_eq_true rfl⟩) (zPreV (B := fun H => va_P V.1 vwCl (zmW V g w pa be av sl sv pd cd st (nI n) (nI (a + 1)) pl wy) H) hP hE (va_recv hE.1 hP (ci := 8) (q0 := 0) (q := (RX8, TX8, 13)) rfl (zm_c0 V g w pa be av sl sv pd cd st (nI n) (nI (a + 1)) pl wy))) rfl rfl hl.1 rfl (lv_room (Nat.le_of_ble_eq_true rfl)) dX8_order_67 ⟨Nat.le_of_ble_eq_true rfl, Nat.le_of_ble_eq_true rfl⟩) ?_
      refine zbp_ne (P := (a + 1) < n ∧ (48 ≤ pd (a + 1) ∧ pd (a + 1) ≤ 57)) (tgt := 76) hx hb dX8_order_70 (by decide) (fun c_70 => ?_) (fun c_70 => ?_)
      · have hnu_ := mNum_le pd (n := n) (a := a + 1) (by omega)
        refine lv_aload_n hx hb dX8_order_76 rfl (lv_at hl 1 rfl) ?_
        refine zc_i (va_runV (As := []) (rest := []) ⟨hx, hb, hml, hown, hts⟩ (c_X8_number l V g w pa be av sl sv pd cd st (nI n) (nI (a + 1)) pl wy  n (a + 1) hJ rfl rfl (by omega) (by omega)) (cwV 0 hts (zgV_ wsM_all uM_144 uM_149 uM_150 uM_151 uM_21) rfl rfl rfl (by decide +kernel) ⟨Nat.le_of_ble_eq_true rfl, Nat.le_of_ble_eq_true rfl⟩) (zPreV (B := fun H => va_P V.1 vwCl (zmW V g w pa be av sl sv pd cd st (nI n) (nI (a + 1)) pl wy) H) hP hE (va_recv hE.1 hP (ci := 8) (q0 := 0) (q := (RX8, TX8, 13)) rfl (zm_c0 V g w pa be av sl sv pd cd st (nI n) (nI (a + 1)) pl wy))) rfl rfl hl.1 rfl (lv_room (Nat.le_of_ble_eq_true rfl)) dX8_order_77 ⟨Nat.le_of_ble_eq_true rfl, Nat.le_of_ble_eq_true rfl⟩) hS (fun _ h => h) (fun _ h => h) (fun r_ H locs hQ_ _ _ hS => ?_)
        obtain ⟨hr_, hP⟩ := hQ_
        subst hr_
        refine lv_istore_n (lv' := [(3, .int ((mNum pd n (a + 1)).1)), (2, .int sg), (0, .ref (g 0)), (1, .int 0)]) hx hb dX8_order_80 rfl hl (by decide) rfl (fun ls hl => ?_)
        refine lv_iconst (v := 0) hx hb dX8_order_81 (by decide +kernel) ?_
        refine lv_istore (lv' := [(4, .int 0), (3, .int ((mNum pd n (a + 1)).1)), (2, .int sg), (0, .ref (g 0)), (1, .int 0)]) hx hb dX8_order_82 hl (by decide) rfl (fun ls hl => ?_)
        have J_103 : ∀ (b5 : Int32) (H : Heap) (locs : List Loc) (ls : Array Slot), True → ((b5 = 1 ∧ (sg = 114 ∨ sg = 119)) ∨ (b5 = 0 ∧ ¬ (sg = 114 ∨ sg = 119))) → va_P V.1 vwCl (zmW V g w pa be av sl sv pd cd st (nI n) (nI (mNum pd n (a + 1)).2) pl wy) H → va_S (zIn 9 g) s.heap H locs → lv_has ls 6 [(5, .int b5), (4, .int 0), (3, .int ((mNum pd n (a + 1)).1)), (2, .int sg), (0, .ref (g 0)), (1, .int 0)] → W p l e (headSpec wsX8_order (zR 6 0 0)).room s m (List.toArray [.ref (g 0), .int 0]) below meth c H locs 0 0 (MQ below (zQi (fun r H => r = (if (mTok pd n a).1 = true then 0 else -3) ∧ va_P V.1 vwCl (zmW V g w pa be av sl sv pd cd st (nI n) (nI (mTok pd n a).2.1) pl wy) H) (zIn 9 g)) (List.toArray [.ref (g 0), .int 0]) s 0 0 (zIn 9 g)) (F0 m 103 ls []) := by
          intro b5 H locs ls _ hb5 hP hS hl
          rcases hb5 with ⟨rfl, hsl_⟩ | ⟨rfl, hsl_⟩
          · refine lv_iload hx hb dX8_order_103 (lv_at hl 0 rfl) ?_
            refine lv_if_eq (tgt := 167) hx hb dX8_order_105 (by decide) (fun c_105 => ?_) (fun c_105 => ?_)
            · exact absurd c_105 (by decide +kernel)
            refine lv_aload_n hx hb dX8_order_108 rfl (lv_at hl 4 rfl) ?_
            refine lv_bipush (v := 43) hx hb dX8_order_109 (by decide +kernel) ?_
            refine lv_bipush (v := 43) hx hb dX8_order_111 (by decide +kernel) ?_
            refine zc_se (va_runV (As := [.int 43, .int 43]) (rest := []) ⟨hx, hb, hml, hown, hts⟩ (c_X8_sees l V g w pa be av sl sv pd cd st (nI n) (nI (mNum pd n (a + 1)).2) pl wy ((mNum pd n (a + 1)).2) n 43 43 rfl rfl (by omega) (by omega)) (cwV 2 hts (zgV_ wsM_all uM_142 uM_145 uM_146 uM_147 uM_21) rfl rfl rfl (by decide +kernel) ⟨Nat.le_of_ble_eq_true rfl, Nat.le_of_ble_eq_true rfl⟩) (zPreV (B := fun H => va_P V.1 vwCl (zmW V g w pa be av sl sv pd cd st (nI n) (nI (mNum pd n (a + 1)).2) pl wy) H) hP hE (va_recv hE.1 hP (ci := 8) (q0 := 0) (q := (RX8, TX8, 13)) rfl (zm_c0 V g w pa be av sl sv pd cd st (nI n) (nI (mNum pd n (a + 1)).2) pl wy))) rfl rfl hl.1 rfl (lv_room (Nat.le_of_ble_eq_true rfl)) dX8_order_113 ⟨Nat.le_of_ble_eq_true rfl, Nat.le_of_ble_eq_true rfl⟩) ?_
            refine zbp_eq (P := ((mNum pd n (a + 1)).2) < n ∧ (43 ≤ pd ((mNum pd n (a + 1)).2) ∧ pd ((mNum pd n (a + 1)).2) ≤ 43)) (tgt := 167) hx hb dX8_order_116 (by decide) (fun c_116 => ?_) (fun c_116 => ?_)
            · refine lv_iload_n hx hb dX8_order_167 rfl (lv_at hl 5 rfl) ?_
              refine lv_if_ne (tgt := 173) hx hb dX8_order_168 (by decide) (fun c_168 => ?_) (fun c_168 => ?_)
              · exact absurd c_168 (by decide +kernel)
              refine lv_iconst (v := 0) hx hb dX8_order_171 (by decide +kernel) ?_
              exact zr_i hx hb hr hlocks hS (⟨by rw [show mTok pd n a = (true, (mNum pd n (a + 1)).2, mSg pd n a, (mNum pd n (a + 1)).1, 0) by rw [mTok, if_pos hsg4, if_pos c_70, if_neg (fun h => c_116 h.2)]]; rfl, by rw [show mTok pd n a = (true, (mNum pd n (a + 1)).2, mSg pd n a, (mNum pd n (a + 1)).1, 0) by rw [mTok, if_pos hsg4, if_pos c_70, if_neg (fun h => c_116 h.2)]]; exact hP⟩) dX8_order_172
            · refine lv_aload_n hx hb dX8_order_119 rfl (lv_at hl 4 rfl) ?_
              refine lv_dup hx hb dX8_order_120 rfl ?_
              refine zm_get 9 (.int (nI ((mNum pd n (a + 1)).2))) hx hb hts (fun x h => List.mem_cons_of_mem _ (hU_X8 x h)) hown hE hP (by decide) rfl (hts _ (List.mem_cons_of_mem _ uM_143)) (fun _ h9 => h9) dX8_order_121 ?_
              refine lv_iconst (v := 1) hx hb dX8_order_124 (by decide +kernel) ?_
              refine lv_iadd hx hb dX8_order_125 ?_
              refine zt_i (z_add (a := (mNum pd n (a + 1)).2) (b := 1) (by first | rfl | omega)) ?_
              refine zm_put (st' := st) (le' := (nI n)) (ap' := nI (((mNum pd n (a + 1)).2) + 1)) (pl' := pl) (wy' := wy) 9 (nI (((mNum pd n (a + 1)).2) + 1)) hx hb hts (fun x h => List.mem_cons_of_mem _ (hU_X8 x h)) hown hE hP hJ hS (by decide) rfl rfl (by decide +kernel) (hts _ (List.mem_cons_of_mem _ uM_143)) (fun _ h9 => h9) dX8_order_126 (fun H locs hP hS => ?_)
              refine lv_aload_n hx hb dX8_order_129 rfl (lv_at hl 4 rfl) ?_
              refine lv_bipush (v := 48) hx hb dX8_order_130 (by decide +kernel) ?_
              refine lv_bipush (v := 57) hx hb dX8_order_132 (by decide +kernel) ?_
              refine zc_se (va_runV (As := [.int 48, .int 57]) (rest := []) ⟨hx, hb, hml, hown, hts⟩ (c_X8_sees l V g w pa be av sl sv pd cd st (nI n) (nI (((mNum pd n (a + 1)).2) + 1)) pl wy (((mNum pd n (a + 1)).2) + 1) n 48 57 rfl rfl (by omega) (by omega)) (cwV 2 hts (zgV_ wsM_all uM_142 uM_145 uM_146 uM_147 uM_21) rfl rfl rfl (by decide +kernel) ⟨Nat.le_of_ble_eq_true rfl, Nat.le_of_ble_eq_true rfl⟩) (zPreV (B := fun H => va_P V.1 vwCl (zmW V g w pa be av sl sv pd cd st (nI n) (nI (((mNum pd n (a + 1)).2) + 1)) pl wy) H) hP hE (va_recv hE.1 hP (ci := 8) (q0 := 0) (q := (RX8, TX8, 13)) rfl (zm_c0 V g w pa be av sl sv pd cd st (nI n) (nI (((mNum pd n (a + 1)).2) + 1)) pl wy))) rfl rfl hl.1 rfl (lv_room (Nat.le_of_ble_eq_true rfl)) dX8_order_134 ⟨Nat.le_of_ble_eq_true rfl, Nat.le_of_ble_eq_true rfl⟩) ?_
              refine zbp_ne (P := (((mNum pd n (a + 1)).2) + 1) < n ∧ (48 ≤ pd (((mNum pd n (a + 1)).2) + 1) ∧ pd (((mNum pd n (a + 1)).2) + 1) ≤ 57)) (tgt := 143) hx hb dX8_order_137 (by decide) (fun c_137 => ?_) (fun c_137 => ?_)
              · refine lv_aload_n hx hb dX8_order_143 rfl (lv_at hl 4 rfl) ?_
                refine zm_get 7 (.ref (g 7)) hx hb hts (fun x h => List.mem_cons_of_mem _ (hU_X8 x h)) hown hE hP (by decide) rfl (hts _ (List.mem_cons_of_mem _ uM_12)) (fun _ h9 => h9) dX8_order_144 ?_
                refine lv_aload_n hx hb dX8_order_147 rfl (lv_at hl 4 rfl) ?_
                refine zm_get 9 (.int (nI (((mNum pd n (a + 1)).2) + 1))) hx hb hts (fun x h => List.mem_cons_of_mem _ (hU_X8 x h)) hown hE hP (by decide) rfl (hts _ (List.mem_cons_of_mem _ uM_143)) (fun _ h9 => h9) dX8_order_148 ?_
                refine z_iald (k := ((mNum pd n (a + 1)).2) + 1) hx hb hE hP 7 (zm_c7 V g w pa be av sl sv pd cd st (nI n) (nI (((mNum pd n (a + 1)).2) + 1)) pl wy) (by omega) (by decide) dX8_order_151 ?_
                refine lv_bipush (v := 48) hx hb dX8_order_152 (by decide +kernel) ?_
                refine lv_isub hx hb dX8_order_154 ?_
                refine lv_istore (lv' := [(4, .int ((pd (((mNum pd n (a + 1)).2) + 1)) - 48)), (5, .int 1), (3, .int ((mNum pd n (a + 1)).1)), (2, .int sg), (0, .ref (g 0)), (1, .int 0)]) hx hb dX8_order_155 hl (by decide) rfl (fun ls hl => ?_)
                refine lv_aload_n hx hb dX8_order_157 rfl (lv_at hl 4 rfl) ?_
                refine lv_dup hx hb dX8_order_158 rfl ?_
                refine zm_get 9 (.int (nI (((mNum pd n (a + 1)).2) + 1))) hx hb hts (fun x h => List.mem_cons_of_mem _ (hU_X8 x h)) hown hE hP (by decide) rfl (hts _ (List.mem_cons_of_mem _ uM_143)) (fun _ h9 => h9) dX8_order_159 ?_
                refine lv_iconst (v := 1) hx hb dX8_order_162 (by decide +kernel) ?_
                refine lv_iadd hx hb dX8_order_163 ?_
                refine zt_i (z_add (a := ((mNum pd n (a + 1)).2) + 1) (b := 1) (by first | rfl | omega)) ?_
                refine zm_put (st' := st) (le' := (nI n)) (ap' := nI (((mNum pd n (a + 1)).2) + 2)) (pl' := pl) (wy' := wy) 9 (nI (((mNum pd n (a + 1)).2) + 2)) hx hb hts (fun x h => List.mem_cons_of_mem _ (hU_X8 x h)) hown hE hP hJ hS (by decide) rfl rfl (by decide +kernel) (hts _ (List.mem_cons_of_mem _ uM_143)) (fun _ h9 => h9) dX8_order_164 (fun H locs hP hS => ?_)
                refine lv_iload_n hx hb dX8_order_167 rfl (lv_at hl 5 rfl) ?_
                refine lv_if_ne (tgt := 173) hx hb dX8_order_168 (by decide) (fun c_168 => ?_) (fun c_168 => ?_)
                · exact absurd c_168 (by decide +kernel)
                refine lv_iconst (v := 0) hx hb dX8_order_171 (by decide +kernel) ?_
                exact zr_i hx hb hr hlocks hS (⟨by rw [show mTok pd n a = (true, (mNum pd n (a + 1)).2 + 2, mSg pd n a, (mNum pd n (a + 1)).1, pd ((mNum pd n (a + 1)).2 + 1) - 48) by rw [mTok, if_pos hsg4, if_pos c_70, if_pos ⟨by rw [← hsg]; exact hsl_, c_116⟩, if_pos c_137]]; rfl, by rw [show mTok pd n a = (true, (mNum pd n (a + 1)).2 + 2, mSg pd n a, (mNum pd n (a + 1)).1, pd ((mNum pd n (a + 1)).2 + 1) - 48) by rw [mTok, if_pos hsg4, if_pos c_70, if_pos ⟨by rw [← hsg]; exact hsl_, c_116⟩, if_pos c_137]]; exact hP⟩) dX8_order_172
              · refine lv_bipush (v := (-3)) hx hb dX8_order_140 (by decide +kernel) ?_
                exact zr_i hx hb hr hlocks hS (⟨by rw [show mTok pd n a = (false, (mNum pd n (a + 1)).2 + 1, mSg pd n a, 0, 0) by rw [mTok, if_pos hsg4, if_pos c_70, if_pos ⟨by rw [← hsg]; exact hsl_, c_116⟩, if_neg c_137]]; rfl, by rw [show mTok pd n a = (false, (mNum pd n (a + 1)).2 + 1, mSg pd n a, 0, 0) by rw [mTok, if_pos hsg4, if_pos c_70, if_pos ⟨by rw [← hsg]; exact hsl_, c_116⟩, if_neg c_137]]; exact hP⟩) dX8_order_142
          · refine lv_iload hx hb dX8_order_103 (lv_at hl 0 rfl) ?_
            refine lv_if_eq (tgt := 167) hx hb dX8_order_105 (by decide) (fun c_105 => ?_) (fun c_105 => ?_)
            rotate_left
            · exact absurd c_105 (by decide +kernel)
            refine lv_iload_n hx hb dX8_order_167 rfl (lv_at hl 5 rfl) ?_
            refine lv_if_ne (tgt := 173) hx hb dX8_order_168 (by decide) (fun c_168 => ?_) (fun c_168 => ?_)
            · exact absurd c_168 (by decide +kernel)
            refine lv_iconst (v := 0) hx hb dX8_order_171 (by decide +kernel) ?_
            exact zr_i hx hb hr hlocks hS (⟨by rw [show mTok pd n a = (true, (mNum pd n (a + 1)).2, mSg pd n a, (mNum pd n (a + 1)).1, 0) by rw [mTok, if_pos hsg4, if_pos c_70, if_neg (fun h => hsl_ (by rw [hsg]; exact h.1))]]; rfl, by rw [show mTok pd n a = (true, (mNum pd n (a + 1)).2, mSg pd n a, (mNum pd n (a + 1)).1, 0) by rw [mTok, if_pos hsg4, if_pos c_70, if_neg (fun h => hsl_ (by rw [hsg]; exact h.1))]]; exact hP⟩) dX8_order_172
        refine lv_iload_n hx hb dX8_order_84 rfl (lv_at hl 2 rfl) ?_
        refine lv_bipush (v := 114) hx hb dX8_order_85 (by decide +kernel) ?_
        refine lv_icmp_eq (tgt := 96) hx hb dX8_order_87 (by decide) (fun c_87 => ?_) (fun c_87 => ?_)
        · refine lv_iconst (v := 1) hx hb dX8_order_96 (by decide +kernel) ?_
          refine lv_goto (tgt := 101) hx hb dX8_order_97 (by decide) ?_
          refine lv_istore (lv' := [(5, .int 1), (4, .int 0), (3, .int ((mNum pd n (a + 1)).1)), (2, .int sg), (0, .ref (g 0)), (1, .int 0)]) hx hb dX8_order_101 hl (by decide) rfl (fun ls hl => ?_)
          exact J_103 _ H locs ls trivial (by first | exact Or.inl ⟨rfl, Or.inl c_87⟩ | exact Or.inl ⟨rfl, Or.inr c_93⟩ | exact Or.inr ⟨rfl, fun h => h.elim c_87 c_93⟩) hP hS (lv_sub hl [0, 1, 2, 3, 4, 5] rfl)
        · refine lv_iload_n hx hb dX8_order_90 rfl (lv_at hl 2 rfl) ?_
          refine lv_bipush (v := 119) hx hb dX8_order_91 (by decide +kernel) ?_
          refine lv_icmp_ne (tgt := 100) hx hb dX8_order_93 (by decide) (fun c_93 => ?_) (fun c_93 => ?_)
          · refine lv_iconst (v := 0) hx hb dX8_order_100 (by decide +kernel) ?_
            refine lv_istore (lv' := [(5, .int 0), (4, .int 0), (3, .int ((mNum pd n (a + 1)).1)), (2, .int sg), (0, .ref (g 0)), (1, .int 0)]) hx hb dX8_order_101 hl (by decide) rfl (fun ls hl => ?_)
            exact J_103 _ H locs ls trivial (by first | exact Or.inl ⟨rfl, Or.inl c_87⟩ | exact Or.inl ⟨rfl, Or.inr c_93⟩ | exact Or.inr ⟨rfl, fun h => h.elim c_87 c_93⟩) hP hS (lv_sub hl [0, 1, 2, 3, 4, 5] rfl)
          · refine lv_iconst (v := 1) hx hb dX8_order_96 (by decide +kernel) ?_
            refine lv_goto (tgt := 101) hx hb dX8_order_97 (by decide) ?_
            refine lv_istore (lv' := [(5, .int 1), (4, .int 0), (3, .int ((mNum pd n (a + 1)).1)), (2, .int sg), (0, .ref (g 0)), (1, .int 0)]) hx hb dX8_order_101 hl (by decide) rfl (fun ls hl => ?_)
            exact J_103 _ H locs ls trivial (by first | exact Or.inl ⟨rfl, Or.inl c_87⟩ | exact Or.inl ⟨rfl, Or.inr c_93⟩ | exact Or.inr ⟨rfl, fun h => h.elim c_87 c_93⟩) hP hS (lv_sub hl [0, 1, 2, 3, 4, 5] rfl)
      · refine lv_bipush (v := (-3)) hx hb dX8_order_73 (by decide +kernel) ?_
        exact zr_i hx hb hr hlocks hS (⟨by rw [show mTok pd n a = (false, a + 1, mSg pd n a, 0, 0) by rw [mTok, if_pos hsg4, if_neg c_70]]; rfl, by rw [show mTok pd n a = (false, a + 1, mSg pd n a, 0, 0) by rw [mTok, if_pos hsg4, if_neg c_70]]; exact hP⟩) dX8_order_75
    refine lv_iload_n hx hb dX8_order_25 rfl (lv_at hl 0 rfl) ?_
    refine lv_bipush (v := 114) hx hb dX8_order_26 (by decide +kernel) ?_
    refine lv_icmp_eq (tgt := 52) hx hb dX8_order_28 (by decide) (fun c_28 => ?_) (fun c_28 => ?_)
    · exact J_52 ls trivial (by rw [← hsg]; first | exact Or.inl c_28 | exact Or.inr (Or.inl c_34) | exact Or.inr (Or.inr (Or.inl c_40)) | exact Or.inr (Or.inr (Or.inr c_46))) (lv_sub hl [0, 1, 2] rfl)
    · refine lv_iload_n hx hb dX8_order_31 rfl (lv_at hl 0 rfl) ?_
      refine lv_bipush (v := 119) hx hb dX8_order_32 (by decide +kernel) ?_
      refine lv_icmp_eq (tgt := 52) hx hb dX8_order_34 (by decide) (fun c_34 => ?_) (fun c_34 => ?_)
      · exact J_52 ls trivial (by rw [← hsg]; first | exact Or.inl c_28 | exact Or.inr (Or.inl c_34) | exact Or.inr (Or.inr (Or.inl c_40)) | exact Or.inr (Or.inr (Or.inr c_46))) (lv_sub hl [0, 1, 2] rfl)
      · refine lv_iload_n hx hb dX8_order_37 rfl (lv_at hl 0 rfl) ?_
        refine lv_bipush (v := 115) hx hb dX8_order_38 (by decide +kernel) ?_
        refine lv_icmp_eq (tgt := 52) hx hb dX8_order_40 (by decide) (fun c_40 => ?_) (fun c_40 => ?_)
        · exact J_52 ls trivial (by rw [← hsg]; first | exact Or.inl c_28 | exact Or.inr (Or.inl c_34) | exact Or.inr (Or.inr (Or.inl c_40)) | exact Or.inr (Or.inr (Or.inr c_46))) (lv_sub hl [0, 1, 2] rfl)
        · refine lv_iload_n hx hb dX8_order_43 rfl (lv_at hl 0 rfl) ?_
          refine lv_bipush (v := 116) hx hb dX8_order_44 (by decide +kernel) ?_
          refine lv_icmp_eq (tgt := 52) hx hb dX8_order_46 (by decide) (fun c_46 => ?_) (fun c_46 => ?_)
          · exact J_52 ls trivial (by rw [← hsg]; first | exact Or.inl c_28 | exact Or.inr (Or.inl c_34) | exact Or.inr (Or.inr (Or.inl c_40)) | exact Or.inr (Or.inr (Or.inr c_46))) (lv_sub hl [0, 1, 2] rfl)
          · refine lv_bipush (v := (-3)) hx hb dX8_order_49 (by decide +kernel) ?_
            exact zr_i hx hb hr hlocks hS (⟨by rw [show mTok pd n a = (false, a, mSg pd n a, 0, 0) by rw [mTok, if_neg (fun h => by rw [← hsg] at h; exact h.elim c_28 (fun h => h.elim c_34 (fun h => h.elim c_40 c_46)))]]; rfl, by rw [show mTok pd n a = (false, a, mSg pd n a, 0, 0) by rw [mTok, if_neg (fun h => by rw [← hsg] at h; exact h.elim c_28 (fun h => h.elim c_34 (fun h => h.elim c_40 c_46)))]]; exact hP⟩) dX8_order_51
  refine lv_aload_n hx hb dX8_order_0 rfl (lv_at hl 0 rfl) ?_
  refine zm_get 9 (.int (nI a)) hx hb hts (fun x h => List.mem_cons_of_mem _ (hU_X8 x h)) hown hE hP (by decide) rfl (hts _ (List.mem_cons_of_mem _ uM_143)) (fun _ h9 => h9) dX8_order_1 ?_
  refine lv_aload_n hx hb dX8_order_4 rfl (lv_at hl 0 rfl) ?_
  refine zm_get 8 (.int (nI n)) hx hb hts (fun x h => List.mem_cons_of_mem _ (hU_X8 x h)) hown hE hP (by decide) rfl (hts _ (List.mem_cons_of_mem _ uM_134)) (fun _ h9 => h9) dX8_order_5 ?_
  refine zb_ge (x := a) (y := n) (tgt := 23) hx hb dX8_order_8 (by decide) (by omega) (by omega) (fun c_8 => ?_) (fun c_8 => ?_)
  · refine lv_iconst (v := 0) hx hb dX8_order_23 (by decide +kernel) ?_
    exact J_24 _ ls trivial (by unfold mSg; first | rw [if_pos (by omega)] | rw [if_neg (by omega)]) (lv_sub hl [0, 1] rfl)
  · refine lv_aload_n hx hb dX8_order_11 rfl (lv_at hl 0 rfl) ?_
    refine zm_get 7 (.ref (g 7)) hx hb hts (fun x h => List.mem_cons_of_mem _ (hU_X8 x h)) hown hE hP (by decide) rfl (hts _ (List.mem_cons_of_mem _ uM_12)) (fun _ h9 => h9) dX8_order_12 ?_
    refine lv_aload_n hx hb dX8_order_15 rfl (lv_at hl 0 rfl) ?_
    refine zm_get 9 (.int (nI a)) hx hb hts (fun x h => List.mem_cons_of_mem _ (hU_X8 x h)) hown hE hP (by decide) rfl (hts _ (List.mem_cons_of_mem _ uM_143)) (fun _ h9 => h9) dX8_order_16 ?_
    refine z_iald (k := a) hx hb hE hP 7 (zm_c7 V g w pa be av sl sv pd cd st (nI n) (nI a) pl wy) (by omega) (by decide) dX8_order_19 ?_
    refine lv_goto (tgt := 24) hx hb dX8_order_20 (by decide) ?_
    exact J_24 _ ls trivial (by unfold mSg; first | rw [if_pos (by omega)] | rw [if_neg (by omega)]) (lv_sub hl [0, 1] rfl)
