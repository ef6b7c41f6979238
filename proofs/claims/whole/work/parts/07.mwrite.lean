set_option maxHeartbeats 4000000 in
set_option maxRecDepth 100000 in
theorem c_X8_remember (l : Launch) (V : zV) (g : Nat → Nat) (w pa be av sl sv pd cd : Nat → Int32) (st le ap pl wy : Int32)  (hJ : zInj 9 g) : Met l yX8_remember wsX8_remember (zR 0 0 0) (zPc V [.ref (g 0)] (fun H => va_P V.1 vwCl (zmW V g w pa be av sl sv pd cd st le ap pl wy) H)) (zQv (fun H => va_P V.1 vwCl (zmW V g w pa w av sl sv pd cd st le ap pl wy) H) (zIn 9 g)) 0 0 (zIn 9 g) := by
  refine Met.ofW (cc := cX8_remember) (maxL := 2) (ret := none) (by decide) rfl ?_
  intro p e s m args below meth c s₁ B hml hv
  obtain ⟨rfl, hP, hE⟩ := hv
  have hx := B.exec
  have hb := B.bytes
  have hr := B.returns
  have hts := atoms_spec (ws := wsX8_remember) B.pre
  have hown : s.vm.findClass RX8 = some m.cls := findClass_of_methodNamed B.named
  have hlocks := B.notSynchronized
  have hl := lv_entry ([.ref (g 0)]) (n := 2) (Nat.le_of_ble_eq_true rfl)
  rw [lg_entry_eq]
  generalize (lg_sl ([.ref (g 0)]) ++ List.replicate (2 - (lg_sl ([.ref (g 0)])).length) Slot.unset).toArray = ls at hl ⊢
  have hl : lv_has ls 2 [(0, .ref (g 0))] := hl
  have hS : va_S (zIn 9 g) s.heap s.heap [] := va_S.rf
  refine lv_iconst (v := 0) hx hb dX8_remember_0 (by decide +kernel) ?_
  refine lv_istore_n (lv' := [(1, .int 0), (0, .ref (g 0))]) hx hb dX8_remember_1 rfl hl (by decide) rfl (fun ls hl => ?_)
  have L_2 : ∀ (n_ i : Nat) (f_ : Nat → Int32) (H : Heap) (locs : List Loc) (ls : Array Slot), i ≤ 258 → 258 + 1 ≤ i + n_ → (f_ = fun j => if j < i then w j else be j) → va_P V.1 vwCl (zmW V g w pa f_ av sl sv pd cd st le ap pl wy) H → va_S (zIn 9 g) s.heap H locs → lv_has ls 2 [(1, .int (nI i)), (0, .ref (g 0))] → W p l e (headSpec wsX8_remember (zR 0 0 0)).room s m (List.toArray [.ref (g 0)]) below meth c H locs 0 0 (MQ below (zQv (fun H => va_P V.1 vwCl (zmW V g w pa w av sl sv pd cd st le ap pl wy) H) (zIn 9 g)) (List.toArray [.ref (g 0)]) s 0 0 (zIn 9 g)) (F0 m 2 ls []) := by
    intro n_
    induction n_ with
    | zero => intro i f_ H locs ls hi_ hn_; exact absurd hn_ (by omega)
    | succ n_ ih =>
      intro i f_ H locs ls hi_ hn_ ef_ hP hS hl
      refine lv_iload_n hx hb dX8_remember_2 rfl (lv_at hl 0 rfl) ?_
      refine lv_sipush (v := 258) hx hb dX8_remember_3 (by decide +kernel) ?_
      refine zb_ge (x := i) (y := 258) (tgt := 27) hx hb dX8_remember_6 (by decide) (by omega) (by omega) (fun c_6 => ?_) (fun c_6 => ?_)
      · exact zr_v hx hb hr hlocks hS (zm_x3 (V := V) w (fun j hj => by rw [ef_]; exact if_pos (by omega)) hP) dX8_remember_27
      · refine lv_aload_n hx hb dX8_remember_9 rfl (lv_at hl 1 rfl) ?_
        refine zm_get 2 (.ref (g 3)) hx hb hts (fun x h => List.mem_cons_of_mem _ (hU_X8 x h)) hown hE hP (by decide) rfl (hts _ (List.mem_cons_of_mem _ uM_7)) (fun _ h9 => h9) dX8_remember_10 ?_
        refine lv_iload_n hx hb dX8_remember_13 rfl (lv_at hl 0 rfl) ?_
        refine lv_aload_n hx hb dX8_remember_14 rfl (lv_at hl 1 rfl) ?_
        refine zm_get 0 (.ref (g 1)) hx hb hts (fun x h => List.mem_cons_of_mem _ (hU_X8 x h)) hown hE hP (by decide) rfl (hts _ (List.mem_cons_of_mem _ uM_5)) (fun _ h9 => h9) dX8_remember_15 ?_
        refine lv_iload_n hx hb dX8_remember_18 rfl (lv_at hl 0 rfl) ?_
        refine z_iald (k := i) hx hb hE hP 1 (zm_c1 V g w pa f_ av sl sv pd cd st le ap pl wy) (by omega) (by decide) dX8_remember_19 ?_
        refine zm_a3 i (w i) hx hb hE hP hJ hS (by omega) dX8_remember_20 (fun H locs hP hS => ?_)
        obtain ⟨be_1, ebe_1⟩ : ∃ z, z = upd f_ i (w i) := ⟨_, rfl⟩
        rw [← ebe_1] at hP
        refine lv_iinc (v := nI (i + 1)) (lv' := [(1, .int (nI (i + 1))), (0, .ref (g 0))]) hx hb dX8_remember_21 hl (k := 0) rfl (z_inc1 i) (by decide) rfl (fun ls hl => ?_)
        refine lv_goto (tgt := 2) hx hb dX8_remember_24 (by decide) ?_
        have e_ : be_1 = fun j => if j < i + 1 then w j else be j := by
          rw [ebe_1, ef_]; funext j; simp only [upd]; split
          · rename_i hj_; subst hj_; rw [if_pos (by omega)]
          · split <;> (first | rw [if_pos (by omega)] | rw [if_neg (by omega)])
        exact ih (i + 1) be_1 H locs ls (by omega) (by omega) e_ hP hS (lv_sub hl [0, 1] rfl)
  exact L_2 (258 + 1) 0 be s.heap [] ls (by omega) (by omega) (by funext j; rw [if_neg (by omega)]) hP hS (lv_sub hl [0, 1] rfl)
set_option maxHeartbeats 4000000 in
set_option maxRecDepth 100000 in
theorem c_X8_layAside (l : Launch) (V : zV) (g : Nat → Nat) (w pa be av sl sv pd cd : Nat → Int32) (st le ap pl wy : Int32)  (hJ : zInj 9 g) : Met l yX8_layAside wsX8_layAside (zR 0 0 0) (zPc V [.ref (g 0)] (fun H => va_P V.1 vwCl (zmW V g w pa be av sl sv pd cd st le ap pl wy) H)) (zQv (fun H => va_P V.1 vwCl (zmW V g w pa be w sl sv pd cd st le ap pl wy) H) (zIn 9 g)) 0 0 (zIn 9 g) := by
  refine Met.ofW (cc := cX8_layAside) (maxL := 2) (ret := none) (by decide) rfl ?_
  intro p e s m args below meth c s₁ B hml hv
  obtain ⟨rfl, hP, hE⟩ := hv
  have hx := B.exec
  have hb := B.bytes
  have hr := B.returns
  have hts := atoms_spec (ws := wsX8_layAside) B.pre
  have hown : s.vm.findClass RX8 = some m.cls := findClass_of_methodNamed B.named
  have hlocks := B.notSynchronized
  have hl := lv_entry ([.ref (g 0)]) (n := 2) (Nat.le_of_ble_eq_true rfl)
  rw [lg_entry_eq]
  generalize (lg_sl ([.ref (g 0)]) ++ List.replicate (2 - (lg_sl ([.ref (g 0)])).length) Slot.unset).toArray = ls at hl ⊢
  have hl : lv_has ls 2 [(0, .ref (g 0))] := hl
  have hS : va_S (zIn 9 g) s.heap s.heap [] := va_S.rf
  refine lv_iconst (v := 0) hx hb dX8_layAside_0 (by decide +kernel) ?_
  refine lv_istore_n (lv' := [(1, .int 0), (0, .ref (g 0))]) hx hb dX8_layAside_1 rfl hl (by decide) rfl (fun ls hl => ?_)
  have L_2 : ∀ (n_ i : Nat) (f_ : Nat → Int32) (H : Heap) (locs : List Loc) (ls : Array Slot), i ≤ 258 → 258 + 1 ≤ i + n_ → (f_ = fun j => if j < i then w j else av j) → va_P V.1 vwCl (zmW V g w pa be f_ sl sv pd cd st le ap pl wy) H → va_S (zIn 9 g) s.heap H locs → lv_has ls 2 [(1, .int (nI i)), (0, .ref (g 0))] → W p l e (headSpec wsX8_layAside (zR 0 0 0)).room s m (List.toArray [.ref (g 0)]) below meth c H locs 0 0 (MQ below (zQv (fun H => va_P V.1 vwCl (zmW V g w pa be w sl sv pd cd st le ap pl wy) H) (zIn 9 g)) (List.toArray [.ref (g 0)]) s 0 0 (zIn 9 g)) (F0 m 2 ls []) := by
    intro n_
    induction n_ with
    | zero => intro i f_ H locs ls hi_ hn_; exact absurd hn_ (by omega)
    | succ n_ ih =>
      intro i f_ H locs ls hi_ hn_ ef_ hP hS hl
      refine lv_iload_n hx hb dX8_layAside_2 rfl (lv_at hl 0 rfl) ?_
      refine lv_sipush (v := 258) hx hb dX8_layAside_3 (by decide +kernel) ?_
      refine zb_ge (x := i) (y := 258) (tgt := 27) hx hb dX8_layAside_6 (by decide) (by omega) (by omega) (fun c_6 => ?_) (fun c_6 => ?_)
      · exact zr_v hx hb hr hlocks hS (zm_x4 (V := V) w (fun j hj => by rw [ef_]; exact if_pos (by omega)) hP) dX8_layAside_27
      · refine lv_aload_n hx hb dX8_layAside_9 rfl (lv_at hl 1 rfl) ?_
        refine zm_get 3 (.ref (g 4)) hx hb hts (fun x h => List.mem_cons_of_mem _ (hU_X8 x h)) hown hE hP (by decide) rfl (hts _ (List.mem_cons_of_mem _ uM_8)) (fun _ h9 => h9) dX8_layAside_10 ?_
        refine lv_iload_n hx hb dX8_layAside_13 rfl (lv_at hl 0 rfl) ?_
        refine lv_aload_n hx hb dX8_layAside_14 rfl (lv_at hl 1 rfl) ?_
        refine zm_get 0 (.ref (g 1)) hx hb hts (fun x h => List.mem_cons_of_mem _ (hU_X8 x h)) hown hE hP (by decide) rfl (hts _ (List.mem_cons_of_mem _ uM_5)) (fun _ h9 => h9) dX8_layAside_15 ?_
        refine lv_iload_n hx hb dX8_layAside_18 rfl (lv_at hl 0 rfl) ?_
        refine z_iald (k := i) hx hb hE hP 1 (zm_c1 V g w pa be f_ sl sv pd cd st le ap pl wy) (by omega) (by decide) dX8_layAside_19 ?_
        refine zm_a4 i (w i) hx hb hE hP hJ hS (by omega) dX8_layAside_20 (fun H locs hP hS => ?_)
        obtain ⟨av_1, eav_1⟩ : ∃ z, z = upd f_ i (w i) := ⟨_, rfl⟩
        rw [← eav_1] at hP
        refine lv_iinc (v := nI (i + 1)) (lv' := [(1, .int (nI (i + 1))), (0, .ref (g 0))]) hx hb dX8_layAside_21 hl (k := 0) rfl (z_inc1 i) (by decide) rfl (fun ls hl => ?_)
        refine lv_goto (tgt := 2) hx hb dX8_layAside_24 (by decide) ?_
        have e_ : av_1 = fun j => if j < i + 1 then w j else av j := by
          rw [eav_1, ef_]; funext j; simp only [upd]; split
          · rename_i hj_; subst hj_; rw [if_pos (by omega)]
          · split <;> (first | rw [if_pos (by omega)] | rw [if_neg (by omega)])
        exact ih (i + 1) av_1 H locs ls (by omega) (by omega) e_ hP hS (lv_sub hl [0, 1] rfl)
  exact L_2 (258 + 1) 0 av s.heap [] ls (by omega) (by omega) (by funext j; rw [if_neg (by omega)]) hP hS (lv_sub hl [0, 1] rfl)
set_option maxHeartbeats 4000000 in
set_option maxRecDepth 100000 in
theorem c_X8_putBack (l : Launch) (V : zV) (g : Nat → Nat) (w pa be av sl sv pd cd : Nat → Int32) (st le ap pl wy : Int32)  (hJ : zInj 9 g) : Met l yX8_putBack wsX8_putBack (zR 0 0 0) (zPc V [.ref (g 0)] (fun H => va_P V.1 vwCl (zmW V g w pa be av sl sv pd cd st le ap pl wy) H)) (zQv (fun H => va_P V.1 vwCl (zmW V g av pa be av sl sv pd cd st le ap pl wy) H) (zIn 9 g)) 0 0 (zIn 9 g) := by
  refine Met.ofW (cc := cX8_putBack) (maxL := 2) (ret := none) (by decide) rfl ?_
  intro p e s m args below meth c s₁ B hml hv
  obtain ⟨rfl, hP, hE⟩ := hv
  have hx := B.exec
  have hb := B.bytes
  have hr := B.returns
  have hts := atoms_spec (ws := wsX8_putBack) B.pre
  have hown : s.vm.findClass RX8 = some m.cls := findClass_of_methodNamed B.named
  have hlocks := B.notSynchronized
  have hl := lv_entry ([.ref (g 0)]) (n := 2) (Nat.le_of_ble_eq_true rfl)
  rw [lg_entry_eq]
  generalize (lg_sl ([.ref (g 0)]) ++ List.replicate (2 - (lg_sl ([.ref (g 0)])).length) Slot.unset).toArray = ls at hl ⊢
  have hl : lv_has ls 2 [(0, .ref (g 0))] := hl
  have hS : va_S (zIn 9 g) s.heap s.heap [] := va_S.rf
  refine lv_iconst (v := 0) hx hb dX8_putBack_0 (by decide +kernel) ?_
  refine lv_istore_n (lv' := [(1, .int 0), (0, .ref (g 0))]) hx hb dX8_putBack_1 rfl hl (by decide) rfl (fun ls hl => ?_)
  have L_2 : ∀ (n_ i : Nat) (f_ : Nat → Int32) (H : Heap) (locs : List Loc) (ls : Array Slot), i ≤ 258 → 258 + 1 ≤ i + n_ → (f_ = fun j => if j < i then av j else w j) → va_P V.1 vwCl (zmW V g f_ pa be av sl sv pd cd st le ap pl wy) H → va_S (zIn 9 g) s.heap H locs → lv_has ls 2 [(1, .int (nI i)), (0, .ref (g 0))] → W p l e (headSpec wsX8_putBack (zR 0 0 0)).room s m (List.toArray [.ref (g 0)]) below meth c H locs 0 0 (MQ below (zQv (fun H => va_P V.1 vwCl (zmW V g av pa be av sl sv pd cd st le ap pl wy) H) (zIn 9 g)) (List.toArray [.ref (g 0)]) s 0 0 (zIn 9 g)) (F0 m 2 ls []) := by
    intro n_
    induction n_ with
    | zero => intro i f_ H locs ls hi_ hn_; exact absurd hn_ (by omega)
    | succ n_ ih =>
      intro i f_ H locs ls hi_ hn_ ef_ hP hS hl
      refine lv_iload_n hx hb dX8_putBack_2 rfl (lv_at hl 0 rfl) ?_
      refine lv_sipush (v := 258) hx hb dX8_putBack_3 (by decide +kernel) ?_
      refine zb_ge (x := i) (y := 258) (tgt := 27) hx hb dX8_putBack_6 (by decide) (by omega) (by omega) (fun c_6 => ?_) (fun c_6 => ?_)
      · exact zr_v hx hb hr hlocks hS (zm_x1 (V := V) av (fun j hj => by rw [ef_]; exact if_pos (by omega)) hP) dX8_putBack_27
      · refine lv_aload_n hx hb dX8_putBack_9 rfl (lv_at hl 1 rfl) ?_
        refine zm_get 0 (.ref (g 1)) hx hb hts (fun x h => List.mem_cons_of_mem _ (hU_X8 x h)) hown hE hP (by decide) rfl (hts _ (List.mem_cons_of_mem _ uM_5)) (fun _ h9 => h9) dX8_putBack_10 ?_
        refine lv_iload_n hx hb dX8_putBack_13 rfl (lv_at hl 0 rfl) ?_
        refine lv_aload_n hx hb dX8_putBack_14 rfl (lv_at hl 1 rfl) ?_
        refine zm_get 3 (.ref (g 4)) hx hb hts (fun x h => List.mem_cons_of_mem _ (hU_X8 x h)) hown hE hP (by decide) rfl (hts _ (List.mem_cons_of_mem _ uM_8)) (fun _ h9 => h9) dX8_putBack_15 ?_
        refine lv_iload_n hx hb dX8_putBack_18 rfl (lv_at hl 0 rfl) ?_
        refine z_iald (k := i) hx hb hE hP 4 (zm_c4 V g f_ pa be av sl sv pd cd st le ap pl wy) (by omega) (by decide) dX8_putBack_19 ?_
        refine zm_a1 i (av i) hx hb hE hP hJ hS (by omega) dX8_putBack_20 (fun H locs hP hS => ?_)
        obtain ⟨w_1, ew_1⟩ : ∃ z, z = upd f_ i (av i) := ⟨_, rfl⟩
        rw [← ew_1] at hP
        refine lv_iinc (v := nI (i + 1)) (lv' := [(1, .int (nI (i + 1))), (0, .ref (g 0))]) hx hb dX8_putBack_21 hl (k := 0) rfl (z_inc1 i) (by decide) rfl (fun ls hl => ?_)
        refine lv_goto (tgt := 2) hx hb dX8_putBack_24 (by decide) ?_
        have e_ : w_1 = fun j => if j < i + 1 then av j else w j := by
          rw [ew_1, ef_]; funext j; simp only [upd]; split
          · rename_i hj_; subst hj_; rw [if_pos (by omega)]
          · split <;> (first | rw [if_pos (by omega)] | rw [if_neg (by omega)])
        exact ih (i + 1) w_1 H locs ls (by omega) (by omega) e_ hP hS (lv_sub hl [0, 1] rfl)
  exact L_2 (258 + 1) 0 w s.heap [] ls (by omega) (by omega) (by funext j; rw [if_neg (by omega)]) hP hS (lv_sub hl [0, 1] rfl)
theorem z_dec1 {a b : Nat} (h : a = b + 1) : nI a + Int32.ofInt (-1) = nI b := by rw [h]; exact pk_m1 b
def mRK (k : Nat) (t : Int32) : Nat := if t < 0 then k else if k = 6 then 6 else k + 1
def mRP (pa be : Nat → Int32) (k : Nat) (t : Int32) : Nat → Int32 := if t < 0 then pa else fun j => if 258 * (if k = 6 then 5 else k) ≤ j ∧ j < 258 * (if k = 6 then 5 else k) + 258 then be (j - 258 * (if k = 6 then 5 else k)) else if k = 6 ∧ j < 1290 then pa (258 + j) else pa j
def mSI (x : Int32) : Prop := 0 ≤ x ∧ x ≤ 1
def mSaveSl (w sl : Nat → Int32) (x : Int32) : Nat → Int32 := if 0 ≤ x ∧ x ≤ 1 then fun j => if 258 * x.toNatClampNeg ≤ j ∧ j < 258 * x.toNatClampNeg + 258 then w (j - 258 * x.toNatClampNeg) else sl j else sl
def mSaveSv (sv : Nat → Int32) (x : Int32) : Nat → Int32 := if 0 ≤ x ∧ x ≤ 1 then upd sv x.toNatClampNeg 1 else sv
def mDrop (w : Nat → Int32) (n k : Nat) : Nat → Int32 := fun j => if 78 + 6 * (n - 1) ≤ j ∧ j < 78 + 6 * (n - 1) + 6 then 0 else if 78 + 6 * k ≤ j ∧ j < 78 + 6 * (n - 1) then w (j + 6) else if j = 7 then nI (n - 1) else w j
def mShift (w : Nat → Int32) : Nat → Int32 := fun j => if 20 < j ∧ j ≤ 77 then w (j - 3) else w j
def mNote (w : Nat → Int32) (a b c : Int32) : Nat → Int32 := upd (upd (upd (upd (mShift w) 18 a) 19 b) 20 c) 17 (upd (upd (upd (mShift w) 18 a) 19 b) 20 c 17 + (if upd (upd (upd (mShift w) 18 a) 19 b) 20 c 17 < 20 then 1 else 0))
set_option maxHeartbeats 4000000 in
set_option maxRecDepth 100000 in
theorem c_X8_record (l : Launch) (V : zV) (g : Nat → Nat) (w pa be av sl sv pd cd : Nat → Int32) (st le ap pl wy : Int32) (k : Nat) (t : Int32) (hJ : zInj 9 g) (hst : st = nI k) (hk6 : k ≤ 6) : Met l yX8_record wsX8_record (zR 0 0 0) (zPc V [.ref (g 0), .int t] (fun H => va_P V.1 vwCl (zmW V g w pa be av sl sv pd cd st le ap pl wy) H)) (zQi (fun r H => r = (t) ∧ va_P V.1 vwCl (zmW V g w (mRP pa be k t) be av sl sv pd cd (nI (mRK k t)) le ap pl wy) H) (zIn 9 g)) 0 0 (zIn 9 g) := by
  refine Met.ofW (cc := cX8_record) (maxL := 3) (ret := (some .int)) (by decide) rfl ?_
  intro p e s m args below meth c s₁ B hml hv
  obtain ⟨rfl, hP, hE⟩ := hv
  have hx := B.exec
  have hb := B.bytes
  have hr := B.returns
  have hts := atoms_spec (ws := wsX8_record) B.pre
  have hown : s.vm.findClass RX8 = some m.cls := findClass_of_methodNamed B.named
  have hlocks := B.notSynchronized
  have hl := lv_entry ([.ref (g 0), .int t]) (n := 3) (Nat.le_of_ble_eq_true rfl)
  rw [lg_entry_eq]
  generalize (lg_sl ([.ref (g 0), .int t]) ++ List.replicate (3 - (lg_sl ([.ref (g 0), .int t])).length) Slot.unset).toArray = ls at hl ⊢
  have hl : lv_has ls 3 [(0, .ref (g 0)), (1, .int t)] := hl
  have hS : va_S (zIn 9 g) s.heap s.heap [] := va_S.rf
  subst hst
  refine lv_iload_n hx hb dX8_record_0 rfl (lv_at hl 1 rfl) ?_
  refine lv_if_ge (tgt := 6) hx hb dX8_record_1 (by decide) (fun c_1 => ?_) (fun c_1 => ?_)
  · have J_56 : ∀ (q : Nat) (f_ : Nat → Int32) (H : Heap) (locs : List Loc) (ls : Array Slot), True → (q = if k = 6 then 5 else k) → (q ≤ 5) → (f_ = fun j => if k = 6 ∧ j < 1290 then pa (258 + j) else pa j) → va_P V.1 vwCl (zmW V g w f_ be av sl sv pd cd (nI q) le ap pl wy) H → va_S (zIn 9 g) s.heap H locs → lv_has ls 3 [(0, .ref (g 0)), (1, .int t)] → W p l e (headSpec wsX8_record (zR 0 0 0)).room s m (List.toArray [.ref (g 0), .int t]) below meth c H locs 0 0 (MQ below (zQi (fun r H => r = (t) ∧ va_P V.1 vwCl (zmW V g w (mRP pa be k t) be av sl sv pd cd (nI (mRK k t)) le ap pl wy) H) (zIn 9 g)) (List.toArray [.ref (g 0), .int t]) s 0 0 (zIn 9 g)) (F0 m 56 ls []) := by
      intro q f_ H locs ls _ hq hq5 ef_ hP hS hl
      refine lv_iconst (v := 0) hx hb dX8_record_56 (by decide +kernel) ?_
      refine lv_istore_n (lv' := [(2, .int 0), (0, .ref (g 0)), (1, .int t)]) hx hb dX8_record_57 rfl hl (by decide) rfl (fun ls hl => ?_)
      have L_58 : ∀ (n_ i : Nat) (f2_ : Nat → Int32) (H : Heap) (locs : List Loc) (ls : Array Slot), i ≤ 258 → 258 + 1 ≤ i + n_ → (f2_ = fun j => if 258 * q ≤ j ∧ j < 258 * q + i then be (j - 258 * q) else f_ j) → va_P V.1 vwCl (zmW V g w f2_ be av sl sv pd cd (nI q) le ap pl wy) H → va_S (zIn 9 g) s.heap H locs → lv_has ls 3 [(2, .int (nI i)), (0, .ref (g 0)), (1, .int t)] → W p l e (headSpec wsX8_record (zR 0 0 0)).room s m (List.toArray [.ref (g 0), .int t]) below meth c H locs 0 0 (MQ below (zQi (fun r H => r = (t) ∧ va_P V.1 vwCl (zmW V g w (mRP pa be k t) be av sl sv pd cd (nI (mRK k t)) le ap pl wy) H) (zIn 9 g)) (List.toArray [.ref (g 0), .int t]) s 0 0 (zIn 9 g)) (F0 m 58 ls []) := by
        intro n_
        induction n_ with
        | zero => intro i f2_ H locs ls hi_ hn_; exact absurd hn_ (by omega)
        | succ n_ ih =>
          intro i f2_ H locs ls hi_ hn_ ef2_ hP hS hl
          refine lv_iload_n hx hb dX8_record_58 rfl (lv_at hl 0 rfl) ?_
          refine lv_sipush (v := 258) hx hb dX8_record_59 (by decide +kernel) ?_
          refine zb_ge (x := i) (y := 258) (tgt := 92) hx hb dX8_record_62 (by decide) (by omega) (by omega) (fun c_62 => ?_) (fun c_62 => ?_)
          · refine lv_aload_n hx hb dX8_record_92 rfl (lv_at hl 1 rfl) ?_
            refine lv_dup hx hb dX8_record_93 rfl ?_
            refine zm_get 6 (.int (nI q)) hx hb hts (fun x h => List.mem_cons_of_mem _ (hU_X8 x h)) hown hE hP (by decide) rfl (hts _ (List.mem_cons_of_mem _ uM_26)) (fun _ h9 => h9) dX8_record_94 ?_
            refine lv_iconst (v := 1) hx hb dX8_record_97 (by decide +kernel) ?_
            refine lv_iadd hx hb dX8_record_98 ?_
            refine zt_i (z_add (a := q) (b := 1) (by first | rfl | omega)) ?_
            refine zm_put (st' := nI (q + 1)) (le' := le) (ap' := ap) (pl' := pl) (wy' := wy) 6 (nI (q + 1)) hx hb hts (fun x h => List.mem_cons_of_mem _ (hU_X8 x h)) hown hE hP hJ hS (by decide) rfl rfl (by decide +kernel) (hts _ (List.mem_cons_of_mem _ uM_26)) (fun _ h9 => h9) dX8_record_99 (fun H locs hP hS => ?_)
            refine lv_iload_n hx hb dX8_record_102 rfl (lv_at hl 2 rfl) ?_
            exact zr_i hx hb hr hlocks hS (⟨rfl, by rw [show mRP pa be k t = f2_ by rw [mRP, if_neg (z_le' c_1), ← hq, ef2_, ef_, show i = 258 by omega], show mRK k t = q + 1 by rw [mRK, if_neg (z_le' c_1), hq]; split <;> omega]; exact hP⟩) dX8_record_103
          · refine lv_aload_n hx hb dX8_record_65 rfl (lv_at hl 1 rfl) ?_
            refine zm_get 1 (.ref (g 2)) hx hb hts (fun x h => List.mem_cons_of_mem _ (hU_X8 x h)) hown hE hP (by decide) rfl (hts _ (List.mem_cons_of_mem _ uM_6)) (fun _ h9 => h9) dX8_record_66 ?_
            refine lv_sipush (v := 258) hx hb dX8_record_69 (by decide +kernel) ?_
            refine lv_aload_n hx hb dX8_record_72 rfl (lv_at hl 1 rfl) ?_
            refine zm_get 6 (.int (nI q)) hx hb hts (fun x h => List.mem_cons_of_mem _ (hU_X8 x h)) hown hE hP (by decide) rfl (hts _ (List.mem_cons_of_mem _ uM_26)) (fun _ h9 => h9) dX8_record_73 ?_
            refine lv_imul hx hb dX8_record_76 ?_
            refine zt_i (z_mul (a := 258) (b := q) (by first | rfl | omega)) ?_
            refine lv_iload_n hx hb dX8_record_77 rfl (lv_at hl 0 rfl) ?_
            refine lv_iadd hx hb dX8_record_78 ?_
            refine zt_i (z_add (a := 258 * q) (b := i) (by first | rfl | omega)) ?_
            refine lv_aload_n hx hb dX8_record_79 rfl (lv_at hl 1 rfl) ?_
            refine zm_get 2 (.ref (g 3)) hx hb hts (fun x h => List.mem_cons_of_mem _ (hU_X8 x h)) hown hE hP (by decide) rfl (hts _ (List.mem_cons_of_mem _ uM_7)) (fun _ h9 => h9) dX8_record_80 ?_
            refine lv_iload_n hx hb dX8_record_83 rfl (lv_at hl 0 rfl) ?_
            refine z_iald (k := i) hx hb hE hP 3 (zm_c3 V g w f2_ be av sl sv pd cd (nI q) le ap pl wy) (by omega) (by decide) dX8_record_84 ?_
            refine zm_a2 (258 * q + i) (be i) hx hb hE hP hJ hS (by omega) dX8_record_85 (fun H locs hP hS => ?_)
            obtain ⟨pa_1, epa_1⟩ : ∃ z, z = upd f2_ (258 * q + i) (be i) := ⟨_, rfl⟩
            rw [← epa_1] at hP
            refine lv_iinc (v := nI (i + 1)) (lv' := [(2, .int (nI (i + 1))), (0, .ref (g 0)), (1, .int t)]) hx hb dX8_record_86 hl (k := 0) rfl (z_inc1 i) (by decide) rfl (fun ls hl => ?_)
            refine lv_goto (tgt := 58) hx hb dX8_record_89 (by decide) ?_
            have e_ : pa_1 = fun j => if 258 * q ≤ j ∧ j < 258 * q + (i + 1) then be (j - 258 * q) else f_ j := by
              rw [epa_1, ef2_]; funext j; simp only [upd]; by_cases h1 : j = 258 * q + i
              · subst h1; rw [if_pos rfl, if_pos (by omega), show 258 * q + i - 258 * q = i by omega]
              · rw [if_neg h1]; by_cases h2 : 258 * q ≤ j ∧ j < 258 * q + i
                · rw [if_pos h2, if_pos (by omega)]
                · rw [if_neg h2, if_neg (by omega)]
            exact ih (i + 1) pa_1 H locs ls (by omega) (by omega) e_ hP hS (lv_sub hl [0, 1, 2] rfl)
      exact L_58 (258 + 1) 0 f_ H locs ls (by omega) (by omega) (by funext j; rw [if_neg (by omega)]) hP hS (lv_sub hl [0, 1, 2] rfl)
    refine lv_aload_n hx hb dX8_record_6 rfl (lv_at hl 0 rfl) ?_
    refine zm_get 6 (.int (nI k)) hx hb hts (fun x h => List.mem_cons_of_mem _ (hU_X8 x h)) hown hE hP (by decide) rfl (hts _ (List.mem_cons_of_mem _ uM_26)) (fun _ h9 => h9) dX8_record_7 ?_
    refine lv_bipush (v := 6) hx hb dX8_record_10 (by decide +kernel) ?_
    refine zb_ne (x := k) (y := 6) (tgt := 56) hx hb dX8_record_12 (by decide) (by omega) (by omega) (fun c_12 => ?_) (fun c_12 => ?_)
    · exact J_56 k pa s.heap [] ls trivial (by rw [if_neg c_12]) (by omega) (by funext j; rw [if_neg (fun h => c_12 h.1)]) hP hS (lv_sub hl [0, 1] rfl)
    · refine lv_iconst (v := 0) hx hb dX8_record_15 (by decide +kernel) ?_
      refine lv_istore_n (lv' := [(2, .int 0), (0, .ref (g 0)), (1, .int t)]) hx hb dX8_record_16 rfl hl (by decide) rfl (fun ls hl => ?_)
      have L_17 : ∀ (n_ i : Nat) (f_ : Nat → Int32) (H : Heap) (locs : List Loc) (ls : Array Slot), i ≤ 1290 → 1290 + 1 ≤ i + n_ → (f_ = fun j => if j < i then pa (258 + j) else pa j) → va_P V.1 vwCl (zmW V g w f_ be av sl sv pd cd (nI k) le ap pl wy) H → va_S (zIn 9 g) s.heap H locs → lv_has ls 3 [(2, .int (nI i)), (0, .ref (g 0)), (1, .int t)] → W p l e (headSpec wsX8_record (zR 0 0 0)).room s m (List.toArray [.ref (g 0), .int t]) below meth c H locs 0 0 (MQ below (zQi (fun r H => r = (t) ∧ va_P V.1 vwCl (zmW V g w (mRP pa be k t) be av sl sv pd cd (nI (mRK k t)) le ap pl wy) H) (zIn 9 g)) (List.toArray [.ref (g 0), .int t]) s 0 0 (zIn 9 g)) (F0 m 17 ls []) := by
        intro n_
        induction n_ with
        | zero => intro i f_ H locs ls hi_ hn_; exact absurd hn_ (by omega)
        | succ n_ ih =>
          intro i f_ H locs ls hi_ hn_ ef_ hP hS hl
          refine lv_iload_n hx hb dX8_record_17 rfl (lv_at hl 0 rfl) ?_
          refine lv_sipush (v := 1290) hx hb dX8_record_18 (by decide +kernel) ?_
          refine zb_ge (x := i) (y := 1290) (tgt := 46) hx hb dX8_record_21 (by decide) (by omega) (by omega) (fun c_21 => ?_) (fun c_21 => ?_)
          · refine lv_aload_n hx hb dX8_record_46 rfl (lv_at hl 1 rfl) ?_
            refine lv_dup hx hb dX8_record_47 rfl ?_
            refine zm_get 6 (.int (nI k)) hx hb hts (fun x h => List.mem_cons_of_mem _ (hU_X8 x h)) hown hE hP (by decide) rfl (hts _ (List.mem_cons_of_mem _ uM_26)) (fun _ h9 => h9) dX8_record_48 ?_
            refine lv_iconst (v := 1) hx hb dX8_record_51 (by decide +kernel) ?_
            refine lv_isub hx hb dX8_record_52 ?_
            refine zt_i (z_sub (a := k) (b := 1) (by omega) (by first | rfl | omega)) ?_
            refine zm_put (st' := nI (k - 1)) (le' := le) (ap' := ap) (pl' := pl) (wy' := wy) 6 (nI (k - 1)) hx hb hts (fun x h => List.mem_cons_of_mem _ (hU_X8 x h)) hown hE hP hJ hS (by decide) rfl rfl (by decide +kernel) (hts _ (List.mem_cons_of_mem _ uM_26)) (fun _ h9 => h9) dX8_record_53 (fun H locs hP hS => ?_)
            have e1_ : f_ = fun j => if k = 6 ∧ j < 1290 then pa (258 + j) else pa j := by
              rw [ef_]; funext j; by_cases h1 : j < i
              · rw [if_pos h1, if_pos ⟨c_12, by omega⟩]
              · rw [if_neg h1, if_neg (by omega)]
            exact J_56 (k - 1) f_ H locs ls trivial (by rw [if_pos c_12]; omega) (by omega) e1_ hP hS (lv_sub hl [1, 2] rfl)
          · refine lv_aload_n hx hb dX8_record_24 rfl (lv_at hl 1 rfl) ?_
            refine zm_get 1 (.ref (g 2)) hx hb hts (fun x h => List.mem_cons_of_mem _ (hU_X8 x h)) hown hE hP (by decide) rfl (hts _ (List.mem_cons_of_mem _ uM_6)) (fun _ h9 => h9) dX8_record_25 ?_
            refine lv_iload_n hx hb dX8_record_28 rfl (lv_at hl 0 rfl) ?_
            refine lv_aload_n hx hb dX8_record_29 rfl (lv_at hl 1 rfl) ?_
            refine zm_get 1 (.ref (g 2)) hx hb hts (fun x h => List.mem_cons_of_mem _ (hU_X8 x h)) hown hE hP (by decide) rfl (hts _ (List.mem_cons_of_mem _ uM_6)) (fun _ h9 => h9) dX8_record_30 ?_
            refine lv_sipush (v := 258) hx hb dX8_record_33 (by decide +kernel) ?_
            refine lv_iload_n hx hb dX8_record_36 rfl (lv_at hl 0 rfl) ?_
            refine lv_iadd hx hb dX8_record_37 ?_
            refine zt_i (z_add (a := 258) (b := i) (by first | rfl | omega)) ?_
            refine z_iald (k := 258 + i) hx hb hE hP 2 (zm_c2 V g w f_ be av sl sv pd cd (nI k) le ap pl wy) (by omega) (by decide) dX8_record_38 ?_
            refine zm_a2 i (f_ (258 + i)) hx hb hE hP hJ hS (by omega) dX8_record_39 (fun H locs hP hS => ?_)
            obtain ⟨pa_2, epa_2⟩ : ∃ z, z = upd f_ i (f_ (258 + i)) := ⟨_, rfl⟩
            rw [← epa_2] at hP
            refine lv_iinc (v := nI (i + 1)) (lv' := [(2, .int (nI (i + 1))), (0, .ref (g 0)), (1, .int t)]) hx hb dX8_record_40 hl (k := 0) rfl (z_inc1 i) (by decide) rfl (fun ls hl => ?_)
            refine lv_goto (tgt := 17) hx hb dX8_record_43 (by decide) ?_
            have e_ : pa_2 = fun j => if j < i + 1 then pa (258 + j) else pa j := by
              rw [epa_2, ef_]; funext j; simp only [upd]; by_cases h1 : j = i
              · subst h1; rw [if_pos rfl, if_neg (by omega), if_pos (by omega)]
              · rw [if_neg h1]; by_cases h2 : j < i
                · rw [if_pos h2, if_pos (by omega)]
                · rw [if_neg h2, if_neg (by omega)]
            exact ih (i + 1) pa_2 H locs ls (by omega) (by omega) e_ hP hS (lv_sub hl [0, 1, 2] rfl)
      exact L_17 (1290 + 1) 0 pa s.heap [] ls (by omega) (by omega) (by funext j; rw [if_neg (by omega)]) hP hS (lv_sub hl [0, 1, 2] rfl)
  · refine lv_iload_n hx hb dX8_record_4 rfl (lv_at hl 1 rfl) ?_
    exact zr_i hx hb hr hlocks hS (⟨rfl, by rw [mRP, if_pos (z_nle c_1), mRK, if_pos (z_nle c_1)]; exact hP⟩) dX8_record_5
set_option maxHeartbeats 4000000 in
set_option maxRecDepth 100000 in
theorem c_X8_undo (l : Launch) (V : zV) (g : Nat → Nat) (w pa be av sl sv pd cd : Nat → Int32) (st le ap pl wy : Int32) (k : Nat) (hJ : zInj 9 g) (hst : st = nI k) (hk6 : k ≤ 6) : Met l yX8_undo wsX8_undo (zR 0 0 0) (zPc V [.ref (g 0)] (fun H => va_P V.1 vwCl (zmW V g w pa be av sl sv pd cd st le ap pl wy) H)) (zQi (fun r H => r = (if k = 0 then -5 else nI (k - 1)) ∧ va_P V.1 vwCl (zmW V g (if k = 0 then w else fun j => pa (258 * (k - 1) + j)) pa be av sl sv pd cd (nI (k - 1)) le ap pl wy) H) (zIn 9 g)) 0 0 (zIn 9 g) := by
  refine Met.ofW (cc := cX8_undo) (maxL := 2) (ret := (some .int)) (by decide) rfl ?_
  intro p e s m args below meth c s₁ B hml hv
  obtain ⟨rfl, hP, hE⟩ := hv
  have hx := B.exec
  have hb := B.bytes
  have hr := B.returns
  have hts := atoms_spec (ws := wsX8_undo) B.pre
  have hown : s.vm.findClass RX8 = some m.cls := findClass_of_methodNamed B.named
  have hlocks := B.notSynchronized
  have hl := lv_entry ([.ref (g 0)]) (n := 2) (Nat.le_of_ble_eq_true rfl)
  rw [lg_entry_eq]
  generalize (lg_sl ([.ref (g 0)]) ++ List.replicate (2 - (lg_sl ([.ref (g 0)])).length) Slot.unset).toArray = ls at hl ⊢
  have hl : lv_has ls 2 [(0, .ref (g 0))] := hl
  have hS : va_S (zIn 9 g) s.heap s.heap [] := va_S.rf
  subst hst
  refine lv_aload_n hx hb dX8_undo_0 rfl (lv_at hl 0 rfl) ?_
  refine zm_get 6 (.int (nI k)) hx hb hts (fun x h => List.mem_cons_of_mem _ (hU_X8 x h)) hown hE hP (by decide) rfl (hts _ (List.mem_cons_of_mem _ uM_26)) (fun _ h9 => h9) dX8_undo_1 ?_
  refine zb0_ne (x := k) (tgt := 10) hx hb dX8_undo_4 (by decide) (by omega) (fun c_4 => ?_) (fun c_4 => ?_)
  · refine lv_aload_n hx hb dX8_undo_10 rfl (lv_at hl 0 rfl) ?_
    refine lv_dup hx hb dX8_undo_11 rfl ?_
    refine zm_get 6 (.int (nI k)) hx hb hts (fun x h => List.mem_cons_of_mem _ (hU_X8 x h)) hown hE hP (by decide) rfl (hts _ (List.mem_cons_of_mem _ uM_26)) (fun _ h9 => h9) dX8_undo_12 ?_
    refine lv_iconst (v := 1) hx hb dX8_undo_15 (by decide +kernel) ?_
    refine lv_isub hx hb dX8_undo_16 ?_
    refine zt_i (z_sub (a := k) (b := 1) (by omega) (by first | rfl | omega)) ?_
    refine zm_put (st' := nI (k - 1)) (le' := le) (ap' := ap) (pl' := pl) (wy' := wy) 6 (nI (k - 1)) hx hb hts (fun x h => List.mem_cons_of_mem _ (hU_X8 x h)) hown hE hP hJ hS (by decide) rfl rfl (by decide +kernel) (hts _ (List.mem_cons_of_mem _ uM_26)) (fun _ h9 => h9) dX8_undo_17 (fun H locs hP hS => ?_)
    refine lv_iconst (v := 0) hx hb dX8_undo_20 (by decide +kernel) ?_
    refine lv_istore_n (lv' := [(1, .int 0), (0, .ref (g 0))]) hx hb dX8_undo_21 rfl hl (by decide) rfl (fun ls hl => ?_)
    have L_22 : ∀ (n_ i : Nat) (f_ : Nat → Int32) (H : Heap) (locs : List Loc) (ls : Array Slot), i ≤ 258 → 258 + 1 ≤ i + n_ → (f_ = fun j => if j < i then pa (258 * (k - 1) + j) else w j) → va_P V.1 vwCl (zmW V g f_ pa be av sl sv pd cd (nI (k - 1)) le ap pl wy) H → va_S (zIn 9 g) s.heap H locs → lv_has ls 2 [(1, .int (nI i)), (0, .ref (g 0))] → W p l e (headSpec wsX8_undo (zR 0 0 0)).room s m (List.toArray [.ref (g 0)]) below meth c H locs 0 0 (MQ below (zQi (fun r H => r = (if k = 0 then -5 else nI (k - 1)) ∧ va_P V.1 vwCl (zmW V g (if k = 0 then w else fun j => pa (258 * (k - 1) + j)) pa be av sl sv pd cd (nI (k - 1)) le ap pl wy) H) (zIn 9 g)) (List.toArray [.ref (g 0)]) s 0 0 (zIn 9 g)) (F0 m 22 ls []) := by
      intro n_
      induction n_ with
      | zero => intro i f_ H locs ls hi_ hn_; exact absurd hn_ (by omega)
      | succ n_ ih =>
        intro i f_ H locs ls hi_ hn_ ef_ hP hS hl
        refine lv_iload_n hx hb dX8_undo_22 rfl (lv_at hl 0 rfl) ?_
        refine lv_sipush (v := 258) hx hb dX8_undo_23 (by decide +kernel) ?_
        refine zb_ge (x := i) (y := 258) (tgt := 56) hx hb dX8_undo_26 (by decide) (by omega) (by omega) (fun c_26 => ?_) (fun c_26 => ?_)
        · refine lv_aload_n hx hb dX8_undo_56 rfl (lv_at hl 1 rfl) ?_
          refine zm_get 6 (.int (nI (k - 1))) hx hb hts (fun x h => List.mem_cons_of_mem _ (hU_X8 x h)) hown hE hP (by decide) rfl (hts _ (List.mem_cons_of_mem _ uM_26)) (fun _ h9 => h9) dX8_undo_57 ?_
          exact zr_i hx hb hr hlocks hS (⟨(if_neg c_4).symm, by rw [if_neg c_4]; exact zm_x1 (V := V) (fun j => pa (258 * (k - 1) + j)) (fun j hj => by rw [ef_]; exact if_pos (by omega)) hP⟩) dX8_undo_60
        · refine lv_aload_n hx hb dX8_undo_29 rfl (lv_at hl 1 rfl) ?_
          refine zm_get 0 (.ref (g 1)) hx hb hts (fun x h => List.mem_cons_of_mem _ (hU_X8 x h)) hown hE hP (by decide) rfl (hts _ (List.mem_cons_of_mem _ uM_5)) (fun _ h9 => h9) dX8_undo_30 ?_
          refine lv_iload_n hx hb dX8_undo_33 rfl (lv_at hl 0 rfl) ?_
          refine lv_aload_n hx hb dX8_undo_34 rfl (lv_at hl 1 rfl) ?_
          refine zm_get 1 (.ref (g 2)) hx hb hts (fun x h => List.mem_cons_of_mem _ (hU_X8 x h)) hown hE hP (by decide) rfl (hts _ (List.mem_cons_of_mem _ uM_6)) (fun _ h9 => h9) dX8_undo_35 ?_
          refine lv_sipush (v := 258) hx hb dX8_undo_38 (by decide +kernel) ?_
          refine lv_aload_n hx hb dX8_undo_41 rfl (lv_at hl 1 rfl) ?_
          refine zm_get 6 (.int (nI (k - 1))) hx hb hts (fun x h => List.mem_cons_of_mem _ (hU_X8 x h)) hown hE hP (by decide) rfl (hts _ (List.mem_cons_of_mem _ uM_26)) (fun _ h9 => h9) dX8_undo_42 ?_
          refine lv_imul hx hb dX8_undo_45 ?_
          refine zt_i (z_mul (a := 258) (b := k - 1) (by first | rfl | omega)) ?_
          refine lv_iload_n hx hb dX8_undo_46 rfl (lv_at hl 0 rfl) ?_
          refine lv_iadd hx hb dX8_undo_47 ?_
          refine zt_i (z_add (a := 258 * (k - 1)) (b := i) (by first | rfl | omega)) ?_
          refine z_iald (k := (258 * (k - 1)) + i) hx hb hE hP 2 (zm_c2 V g f_ pa be av sl sv pd cd (nI (k - 1)) le ap pl wy) (by omega) (by decide) dX8_undo_48 ?_
          refine zm_a1 i (pa ((258 * (k - 1)) + i)) hx hb hE hP hJ hS (by omega) dX8_undo_49 (fun H locs hP hS => ?_)
          obtain ⟨w_1, ew_1⟩ : ∃ z, z = upd f_ i (pa ((258 * (k - 1)) + i)) := ⟨_, rfl⟩
          rw [← ew_1] at hP
          refine lv_iinc (v := nI (i + 1)) (lv' := [(1, .int (nI (i + 1))), (0, .ref (g 0))]) hx hb dX8_undo_50 hl (k := 0) rfl (z_inc1 i) (by decide) rfl (fun ls hl => ?_)
          refine lv_goto (tgt := 22) hx hb dX8_undo_53 (by decide) ?_
          have e_ : w_1 = fun j => if j < i + 1 then pa (258 * (k - 1) + j) else w j := by
            rw [ew_1, ef_]; funext j; simp only [upd]; by_cases h1 : j = i
            · subst h1; rw [if_pos rfl, if_pos (by omega)]
            · rw [if_neg h1]; by_cases h2 : j < i
              · rw [if_pos h2, if_pos (by omega)]
              · rw [if_neg h2, if_neg (by omega)]
          exact ih (i + 1) w_1 H locs ls (by omega) (by omega) e_ hP hS (lv_sub hl [0, 1] rfl)
    exact L_22 (258 + 1) 0 w H locs ls (by omega) (by omega) (by funext j; rw [if_neg (by omega)]) hP hS (lv_sub hl [0, 1] rfl)
  · refine lv_bipush (v := (-5)) hx hb dX8_undo_7 (by decide +kernel) ?_
    exact zr_i hx hb hr hlocks hS (⟨(if_pos c_4).symm, by rw [if_pos c_4, show k - 1 = k by omega]; exact hP⟩) dX8_undo_9
set_option maxHeartbeats 4000000 in
set_option maxRecDepth 100000 in
theorem c_X8_save (l : Launch) (V : zV) (g : Nat → Nat) (w pa be av sl sv pd cd : Nat → Int32) (st le ap pl wy : Int32) (x : Int32) (hJ : zInj 9 g) : Met l yX8_save wsX8_save (zR 1 0 0) (zPc V [.ref (g 0), .int x] (fun H => va_P V.1 vwCl (zmW V g w pa be av sl sv pd cd st le ap pl wy) H)) (zQi (fun r H => r = (if 0 ≤ x ∧ x ≤ 1 then w 7 else -2) ∧ va_P V.1 vwCl (zmW V g w pa be av (mSaveSl w sl x) (mSaveSv sv x) pd cd st le ap pl wy) H) (zIn 9 g)) 0 0 (zIn 9 g) := by
  refine Met.ofW (cc := cX8_save) (maxL := 3) (ret := (some .int)) (by decide) rfl ?_
  intro p e s m args below meth c s₁ B hml hv
  obtain ⟨rfl, hP, hE⟩ := hv
  have hx := B.exec
  have hb := B.bytes
  have hr := B.returns
  have hts := atoms_spec (ws := wsX8_save) B.pre
  have hown : s.vm.findClass RX8 = some m.cls := findClass_of_methodNamed B.named
  have hlocks := B.notSynchronized
  have hl := lv_entry ([.ref (g 0), .int x]) (n := 3) (Nat.le_of_ble_eq_true rfl)
  rw [lg_entry_eq]
  generalize (lg_sl ([.ref (g 0), .int x]) ++ List.replicate (3 - (lg_sl ([.ref (g 0), .int x])).length) Slot.unset).toArray = ls at hl ⊢
  have hl : lv_has ls 3 [(0, .ref (g 0)), (1, .int x)] := hl
  have hS : va_S (zIn 9 g) s.heap s.heap [] := va_S.rf
  refine lv_iload_n hx hb dX8_save_0 rfl (lv_at hl 1 rfl) ?_
  refine lv_i2l (v := x.toInt64) hx hb dX8_save_1 rfl ?_
  refine lv_iconst (v := 0) hx hb dX8_save_2 (by decide +kernel) ?_
  refine lv_iconst (v := 1) hx hb dX8_save_3 (by decide +kernel) ?_
  refine zc_se (va_runS (As := [.long x.toInt64, .int 0, .int 1]) (rest := []) ⟨hx, hb, hml, hown, hts⟩ (c_X8_in l V x 0 1) (va_cwS 3 hts (zgS_ wsM_all uM_14 uM_29 uM_30 uM_21) rfl rfl rfl (by decide +kernel) ⟨Nat.le_of_ble_eq_true rfl, Nat.le_of_ble_eq_true rfl⟩) (zPreS (B := fun _ => True) trivial hE) rfl rfl hl.1 rfl (lv_room (Nat.le_of_ble_eq_true rfl)) dX8_save_4 ⟨Nat.le_of_ble_eq_true rfl, Nat.le_of_ble_eq_true rfl⟩) ?_
  refine zbp_ne (P := 0 ≤ x ∧ x ≤ 1) (tgt := 13) hx hb dX8_save_7 (by decide) (fun c_7 => ?_) (fun c_7 => ?_)
  · obtain ⟨x_, rfl, -, hx1_⟩ := z_ix (na := 0) (nb := 1) rfl rfl (by decide) (by decide) c_7
    refine lv_iconst (v := 0) hx hb dX8_save_13 (by decide +kernel) ?_
    refine lv_istore_n (lv' := [(2, .int 0), (0, .ref (g 0)), (1, .int (nI x_))]) hx hb dX8_save_14 rfl hl (by decide) rfl (fun ls hl => ?_)
    have L_15 : ∀ (n_ i : Nat) (f_ : Nat → Int32) (H : Heap) (locs : List Loc) (ls : Array Slot), i ≤ 258 → 258 + 1 ≤ i + n_ → (f_ = fun j => if 258 * x_ ≤ j ∧ j < 258 * x_ + i then w (j - 258 * x_) else sl j) → va_P V.1 vwCl (zmW V g w pa be av f_ sv pd cd st le ap pl wy) H → va_S (zIn 9 g) s.heap H locs → lv_has ls 3 [(2, .int (nI i)), (0, .ref (g 0)), (1, .int (nI x_))] → W p l e (headSpec wsX8_save (zR 1 0 0)).room s m (List.toArray [.ref (g 0), .int (nI x_)]) below meth c H locs 0 0 (MQ below (zQi (fun r H => r = (if 0 ≤ (nI x_) ∧ (nI x_) ≤ 1 then w 7 else -2) ∧ va_P V.1 vwCl (zmW V g w pa be av (mSaveSl w sl (nI x_)) (mSaveSv sv (nI x_)) pd cd st le ap pl wy) H) (zIn 9 g)) (List.toArray [.ref (g 0), .int (nI x_)]) s 0 0 (zIn 9 g)) (F0 m 15 ls []) := by
      intro n_
      induction n_ with
      | zero => intro i f_ H locs ls hi_ hn_; exact absurd hn_ (by omega)
      | succ n_ ih =>
        intro i f_ H locs ls hi_ hn_ ef_ hP hS hl
        refine lv_iload_n hx hb dX8_save_15 rfl (lv_at hl 0 rfl) ?_
        refine lv_sipush (v := 258) hx hb dX8_save_16 (by decide +kernel) ?_
        refine zb_ge (x := i) (y := 258) (tgt := 46) hx hb dX8_save_19 (by decide) (by omega) (by omega) (fun c_19 => ?_) (fun c_19 => ?_)
        · refine lv_aload_n hx hb dX8_save_46 rfl (lv_at hl 1 rfl) ?_
          refine zm_get 5 (.ref (g 6)) hx hb hts (fun x h => List.mem_cons_of_mem _ (hU_X8 x h)) hown hE hP (by decide) rfl (hts _ (List.mem_cons_of_mem _ uM_11)) (fun _ h9 => h9) dX8_save_47 ?_
          refine lv_iload_n hx hb dX8_save_50 rfl (lv_at hl 2 rfl) ?_
          refine lv_iconst (v := 1) hx hb dX8_save_51 (by decide +kernel) ?_
          refine zm_a6 x_ 1 hx hb hE hP hJ hS rfl (by omega) dX8_save_52 (fun H locs hP hS => ?_)
          obtain ⟨sv_1, esv_1⟩ : ∃ z, z = upd sv x_ 1 := ⟨_, rfl⟩
          rw [← esv_1] at hP
          refine lv_aload_n hx hb dX8_save_53 rfl (lv_at hl 1 rfl) ?_
          refine zm_get 0 (.ref (g 1)) hx hb hts (fun x h => List.mem_cons_of_mem _ (hU_X8 x h)) hown hE hP (by decide) rfl (hts _ (List.mem_cons_of_mem _ uM_5)) (fun _ h9 => h9) dX8_save_54 ?_
          refine lv_bipush (v := 7) hx hb dX8_save_57 (by decide +kernel) ?_
          refine z_iald (k := 7) hx hb hE hP 1 (zm_c1 V g w pa be av f_ sv_1 pd cd st le ap pl wy) (by omega) (by decide) dX8_save_59 ?_
          exact zr_i hx hb hr hlocks hS (⟨(if_pos c_7).symm, by rw [mSaveSl, if_pos c_7, mSaveSv, if_pos c_7, nI_clamp (by omega), ← esv_1, show (fun j => if 258 * x_ ≤ j ∧ j < 258 * x_ + 258 then w (j - 258 * x_) else sl j) = f_ from (by rw [ef_, show i = 258 by omega])]; exact hP⟩) dX8_save_60
        · refine lv_aload_n hx hb dX8_save_22 rfl (lv_at hl 1 rfl) ?_
          refine zm_get 4 (.ref (g 5)) hx hb hts (fun x h => List.mem_cons_of_mem _ (hU_X8 x h)) hown hE hP (by decide) rfl (hts _ (List.mem_cons_of_mem _ uM_9)) (fun _ h9 => h9) dX8_save_23 ?_
          refine lv_sipush (v := 258) hx hb dX8_save_26 (by decide +kernel) ?_
          refine lv_iload_n hx hb dX8_save_29 rfl (lv_at hl 2 rfl) ?_
          refine lv_imul hx hb dX8_save_30 ?_
          refine zt_i (z_mul (a := 258) (b := x_) (by first | rfl | omega)) ?_
          refine lv_iload_n hx hb dX8_save_31 rfl (lv_at hl 0 rfl) ?_
          refine lv_iadd hx hb dX8_save_32 ?_
          refine zt_i (z_add (a := 258 * x_) (b := i) (by first | rfl | omega)) ?_
          refine lv_aload_n hx hb dX8_save_33 rfl (lv_at hl 1 rfl) ?_
          refine zm_get 0 (.ref (g 1)) hx hb hts (fun x h => List.mem_cons_of_mem _ (hU_X8 x h)) hown hE hP (by decide) rfl (hts _ (List.mem_cons_of_mem _ uM_5)) (fun _ h9 => h9) dX8_save_34 ?_
          refine lv_iload_n hx hb dX8_save_37 rfl (lv_at hl 0 rfl) ?_
          refine z_iald (k := i) hx hb hE hP 1 (zm_c1 V g w pa be av f_ sv pd cd st le ap pl wy) (by omega) (by decide) dX8_save_38 ?_
          refine zm_a5 (258 * x_ + i) (w i) hx hb hE hP hJ hS (by omega) dX8_save_39 (fun H locs hP hS => ?_)
          obtain ⟨sl_2, esl_2⟩ : ∃ z, z = upd f_ (258 * x_ + i) (w i) := ⟨_, rfl⟩
          rw [← esl_2] at hP
          refine lv_iinc (v := nI (i + 1)) (lv' := [(2, .int (nI (i + 1))), (0, .ref (g 0)), (1, .int (nI x_))]) hx hb dX8_save_40 hl (k := 0) rfl (z_inc1 i) (by decide) rfl (fun ls hl => ?_)
          refine lv_goto (tgt := 15) hx hb dX8_save_43 (by decide) ?_
          have e_ : sl_2 = fun j => if 258 * x_ ≤ j ∧ j < 258 * x_ + (i + 1) then w (j - 258 * x_) else sl j := by
            rw [esl_2, ef_]; funext j; simp only [upd]; by_cases h1 : j = 258 * x_ + i
            · subst h1; rw [if_pos rfl, if_pos (by omega), show 258 * x_ + i - 258 * x_ = i by omega]
            · rw [if_neg h1]; by_cases h2 : 258 * x_ ≤ j ∧ j < 258 * x_ + i
              · rw [if_pos h2, if_pos (by omega)]
              · rw [if_neg h2, if_neg (by omega)]
          exact ih (i + 1) sl_2 H locs ls (by omega) (by omega) e_ hP hS (lv_sub hl [0, 1, 2] rfl)
    exact L_15 (258 + 1) 0 sl s.heap [] ls (by omega) (by omega) (by funext j; rw [if_neg (by omega)]) hP hS (lv_sub hl [0, 1, 2] rfl)
  · refine lv_bipush (v := (-2)) hx hb dX8_save_10 (by decide +kernel) ?_
    exact zr_i hx hb hr hlocks hS (⟨(if_neg c_7).symm, by rw [mSaveSl, if_neg c_7, mSaveSv, if_neg c_7]; exact hP⟩) dX8_save_12
/-- what restore does: the answer, the row, the past, how many states -/
def mRst (w pa sl sv : Nat → Int32) (k : Nat) (x : Int32) : Int32 × (Nat → Int32) × (Nat → Int32) × Nat :=
  if 0 ≤ x ∧ x ≤ 1 then (if sv x.toNatClampNeg = 0 then (-5, w, pa, k) else (sl (258 * x.toNatClampNeg + 7), (fun j => sl (258 * x.toNatClampNeg + j)), mRP pa w k (sl (258 * x.toNatClampNeg + 7)), mRK k (sl (258 * x.toNatClampNeg + 7)))) else (-2, w, pa, k)
set_option maxHeartbeats 4000000 in
set_option maxRecDepth 100000 in
theorem c_X8_restore (l : Launch) (V : zV) (g : Nat → Nat) (w pa be av sl sv pd cd : Nat → Int32) (st le ap pl wy : Int32) (k : Nat) (x : Int32) (hJ : zInj 9 g) (hst : st = nI k) (hk6 : k ≤ 6) : Met l yX8_restore wsX8_restore (zR 1 0 0) (zPc V [.ref (g 0), .int x] (fun H => va_P V.1 vwCl (zmW V g w pa be av sl sv pd cd st le ap pl wy) H)) (zQi (fun r H => r = ((mRst w pa sl sv k x).1) ∧ (∃ be' : Nat → Int32, va_P V.1 vwCl (zmW V g ((mRst w pa sl sv k x).2.1) ((mRst w pa sl sv k x).2.2.1) be' av sl sv pd cd (nI (mRst w pa sl sv k x).2.2.2) le ap pl wy) H)) (zIn 9 g)) 0 0 (zIn 9 g) := by
  refine Met.ofW (cc := cX8_restore) (maxL := 3) (ret := (some .int)) (by decide) rfl ?_
  intro p e s m args below meth c s₁ B hml hv
  obtain ⟨rfl, hP, hE⟩ := hv
  have hx := B.exec
  have hb := B.bytes
  have hr := B.returns
  have hts := atoms_spec (ws := wsX8_restore) B.pre
  have hown : s.vm.findClass RX8 = some m.cls := findClass_of_methodNamed B.named
  have hlocks := B.notSynchronized
  have hl := lv_entry ([.ref (g 0), .int x]) (n := 3) (Nat.le_of_ble_eq_true rfl)
  rw [lg_entry_eq]
  generalize (lg_sl ([.ref (g 0), .int x]) ++ List.replicate (3 - (lg_sl ([.ref (g 0), .int x])).length) Slot.unset).toArray = ls at hl ⊢
  have hl : lv_has ls 3 [(0, .ref (g 0)), (1, .int x)] := hl
  have hS : va_S (zIn 9 g) s.heap s.heap [] := va_S.rf
  subst hst
  refine lv_iload_n hx hb dX8_restore_0 rfl (lv_at hl 1 rfl) ?_
  refine lv_i2l (v := x.toInt64) hx hb dX8_restore_1 rfl ?_
  refine lv_iconst (v := 0) hx hb dX8_restore_2 (by decide +kernel) ?_
  refine lv_iconst (v := 1) hx hb dX8_restore_3 (by decide +kernel) ?_
  refine zc_se (va_runS (As := [.long x.toInt64, .int 0, .int 1]) (rest := []) ⟨hx, hb, hml, hown, hts⟩ (c_X8_in l V x 0 1) (va_cwS 3 hts (zgS_ wsM_all uM_14 uM_29 uM_30 uM_21) rfl rfl rfl (by decide +kernel) ⟨Nat.le_of_ble_eq_true rfl, Nat.le_of_ble_eq_true rfl⟩) (zPreS (B := fun _ => True) trivial hE) rfl rfl hl.1 rfl (lv_room (Nat.le_of_ble_eq_true rfl)) dX8_restore_4 ⟨Nat.le_of_ble_eq_true rfl, Nat.le_of_ble_eq_true rfl⟩) ?_
  refine zbp_ne (P := 0 ≤ x ∧ x ≤ 1) (tgt := 13) hx hb dX8_restore_7 (by decide) (fun c_7 => ?_) (fun c_7 => ?_)
  · obtain ⟨x_, rfl, -, hx1_⟩ := z_ix (na := 0) (nb := 1) rfl rfl (by decide) (by decide) c_7
    refine lv_aload_n hx hb dX8_restore_13 rfl (lv_at hl 0 rfl) ?_
    refine zm_get 5 (.ref (g 6)) hx hb hts (fun x h => List.mem_cons_of_mem _ (hU_X8 x h)) hown hE hP (by decide) rfl (hts _ (List.mem_cons_of_mem _ uM_11)) (fun _ h9 => h9) dX8_restore_14 ?_
    refine lv_iload_n hx hb dX8_restore_17 rfl (lv_at hl 1 rfl) ?_
    refine z_zald (k := x_) hx hb hE hP 6 (zm_c6 V g w pa be av sl sv pd cd (nI k) le ap pl wy) (by omega) (by decide) dX8_restore_18 ?_
    refine lv_if_ne (tgt := 25) hx hb dX8_restore_19 (by decide) (fun c_19 => ?_) (fun c_19 => ?_)
    · refine lv_aload_n hx hb dX8_restore_25 rfl (lv_at hl 0 rfl) ?_
      refine zc_v (va_runV (As := []) (rest := []) ⟨hx, hb, hml, hown, hts⟩ (c_X8_remember l V g w pa be av sl sv pd cd (nI k) le ap pl wy  hJ) (cwV 0 hts (zgV_ wsM_all uM_24 uM_32 uM_33 uM_34 uM_21) rfl rfl rfl (by decide +kernel) ⟨Nat.le_of_ble_eq_true rfl, Nat.le_of_ble_eq_true rfl⟩) (zPreV (B := fun H => va_P V.1 vwCl (zmW V g w pa be av sl sv pd cd (nI k) le ap pl wy) H) hP hE (va_recv hE.1 hP (ci := 8) (q0 := 0) (q := (RX8, TX8, 13)) rfl (zm_c0 V g w pa be av sl sv pd cd (nI k) le ap pl wy))) rfl rfl hl.1 rfl (lv_room (Nat.le_of_ble_eq_true rfl)) dX8_restore_26 ⟨Nat.le_of_ble_eq_true rfl, Nat.le_of_ble_eq_true rfl⟩) hS (fun _ h => h) (fun _ h => h) (fun H locs hQ_ _ _ hS => ?_)
      have hP := hQ_
      refine lv_iconst (v := 0) hx hb dX8_restore_29 (by decide +kernel) ?_
      refine lv_istore_n (lv' := [(2, .int 0), (0, .ref (g 0)), (1, .int (nI x_))]) hx hb dX8_restore_30 rfl hl (by decide) rfl (fun ls hl => ?_)
      have L_31 : ∀ (n_ i : Nat) (f_ : Nat → Int32) (H : Heap) (locs : List Loc) (ls : Array Slot), i ≤ 258 → 258 + 1 ≤ i + n_ → (f_ = fun j => if j < i then sl (258 * x_ + j) else w j) → va_P V.1 vwCl (zmW V g f_ pa w av sl sv pd cd (nI k) le ap pl wy) H → va_S (zIn 9 g) s.heap H locs → lv_has ls 3 [(2, .int (nI i)), (0, .ref (g 0)), (1, .int (nI x_))] → W p l e (headSpec wsX8_restore (zR 1 0 0)).room s m (List.toArray [.ref (g 0), .int (nI x_)]) below meth c H locs 0 0 (MQ below (zQi (fun r H => r = ((mRst w pa sl sv k (nI x_)).1) ∧ (∃ be' : Nat → Int32, va_P V.1 vwCl (zmW V g ((mRst w pa sl sv k (nI x_)).2.1) ((mRst w pa sl sv k (nI x_)).2.2.1) be' av sl sv pd cd (nI (mRst w pa sl sv k (nI x_)).2.2.2) le ap pl wy) H)) (zIn 9 g)) (List.toArray [.ref (g 0), .int (nI x_)]) s 0 0 (zIn 9 g)) (F0 m 31 ls []) := by
        intro n_
        induction n_ with
        | zero => intro i f_ H locs ls hi_ hn_; exact absurd hn_ (by omega)
        | succ n_ ih =>
          intro i f_ H locs ls hi_ hn_ ef_ hP hS hl
          refine lv_iload_n hx hb dX8_restore_31 rfl (lv_at hl 0 rfl) ?_
          refine lv_sipush (v := 258) hx hb dX8_restore_32 (by decide +kernel) ?_
          refine zb_ge (x := i) (y := 258) (tgt := 62) hx hb dX8_restore_35 (by decide) (by omega) (by omega) (fun c_35 => ?_) (fun c_35 => ?_)
          · have hP := zm_x1 (V := V) (fun j => sl (258 * x_ + j)) (fun j hj => by rw [ef_]; exact if_pos (by omega)) hP
            refine lv_aload_n hx hb dX8_restore_62 rfl (lv_at hl 1 rfl) ?_
            refine lv_aload_n hx hb dX8_restore_63 rfl (lv_at hl 1 rfl) ?_
            refine zm_get 0 (.ref (g 1)) hx hb hts (fun x h => List.mem_cons_of_mem _ (hU_X8 x h)) hown hE hP (by decide) rfl (hts _ (List.mem_cons_of_mem _ uM_5)) (fun _ h9 => h9) dX8_restore_64 ?_
            refine lv_bipush (v := 7) hx hb dX8_restore_67 (by decide +kernel) ?_
            refine z_iald (k := 7) hx hb hE hP 1 (zm_c1 V g (fun j => sl (258 * x_ + j)) pa w av sl sv pd cd (nI k) le ap pl wy) (by omega) (by decide) dX8_restore_69 ?_
            refine zc_i (va_runV (As := [.int ((fun j => sl (258 * x_ + j)) 7)]) (rest := []) ⟨hx, hb, hml, hown, hts⟩ (c_X8_record l V g (fun j => sl (258 * x_ + j)) pa w av sl sv pd cd (nI k) le ap pl wy  k ((fun j => sl (258 * x_ + j)) 7) hJ rfl (by omega)) (cwV 1 hts (zgV_ wsM_all uM_25 uM_35 uM_36 uM_37 uM_21) rfl rfl rfl (by decide +kernel) ⟨Nat.le_of_ble_eq_true rfl, Nat.le_of_ble_eq_true rfl⟩) (zPreV (B := fun H => va_P V.1 vwCl (zmW V g (fun j => sl (258 * x_ + j)) pa w av sl sv pd cd (nI k) le ap pl wy) H) hP hE (va_recv hE.1 hP (ci := 8) (q0 := 0) (q := (RX8, TX8, 13)) rfl (zm_c0 V g (fun j => sl (258 * x_ + j)) pa w av sl sv pd cd (nI k) le ap pl wy))) rfl rfl hl.1 rfl (lv_room (Nat.le_of_ble_eq_true rfl)) dX8_restore_70 ⟨Nat.le_of_ble_eq_true rfl, Nat.le_of_ble_eq_true rfl⟩) hS (fun _ h => h) (fun _ h => h) (fun r_ H locs hQ_ _ _ hS => ?_)
            obtain ⟨hr_, hP⟩ := hQ_
            subst hr_
            exact zr_i hx hb hr hlocks hS (⟨by rw [mRst, if_pos c_7, nI_clamp (by omega), if_neg c_19], _, by rw [mRst, if_pos c_7, nI_clamp (by omega), if_neg c_19]; exact hP⟩) dX8_restore_73
          · refine lv_aload_n hx hb dX8_restore_38 rfl (lv_at hl 1 rfl) ?_
            refine zm_get 0 (.ref (g 1)) hx hb hts (fun x h => List.mem_cons_of_mem _ (hU_X8 x h)) hown hE hP (by decide) rfl (hts _ (List.mem_cons_of_mem _ uM_5)) (fun _ h9 => h9) dX8_restore_39 ?_
            refine lv_iload_n hx hb dX8_restore_42 rfl (lv_at hl 0 rfl) ?_
            refine lv_aload_n hx hb dX8_restore_43 rfl (lv_at hl 1 rfl) ?_
            refine zm_get 4 (.ref (g 5)) hx hb hts (fun x h => List.mem_cons_of_mem _ (hU_X8 x h)) hown hE hP (by decide) rfl (hts _ (List.mem_cons_of_mem _ uM_9)) (fun _ h9 => h9) dX8_restore_44 ?_
            refine lv_sipush (v := 258) hx hb dX8_restore_47 (by decide +kernel) ?_
            refine lv_iload_n hx hb dX8_restore_50 rfl (lv_at hl 2 rfl) ?_
            refine lv_imul hx hb dX8_restore_51 ?_
            refine zt_i (z_mul (a := 258) (b := x_) (by first | rfl | omega)) ?_
            refine lv_iload_n hx hb dX8_restore_52 rfl (lv_at hl 0 rfl) ?_
            refine lv_iadd hx hb dX8_restore_53 ?_
            refine zt_i (z_add (a := 258 * x_) (b := i) (by first | rfl | omega)) ?_
            refine z_iald (k := 258 * x_ + i) hx hb hE hP 5 (zm_c5 V g f_ pa w av sl sv pd cd (nI k) le ap pl wy) (by omega) (by decide) dX8_restore_54 ?_
            refine zm_a1 i (sl (258 * x_ + i)) hx hb hE hP hJ hS (by omega) dX8_restore_55 (fun H locs hP hS => ?_)
            obtain ⟨w_1, ew_1⟩ : ∃ z, z = upd f_ i (sl (258 * x_ + i)) := ⟨_, rfl⟩
            rw [← ew_1] at hP
            refine lv_iinc (v := nI (i + 1)) (lv' := [(2, .int (nI (i + 1))), (0, .ref (g 0)), (1, .int (nI x_))]) hx hb dX8_restore_56 hl (k := 0) rfl (z_inc1 i) (by decide) rfl (fun ls hl => ?_)
            refine lv_goto (tgt := 31) hx hb dX8_restore_59 (by decide) ?_
            have e_ : w_1 = fun j => if j < i + 1 then sl (258 * x_ + j) else w j := by
              rw [ew_1, ef_]; funext j; simp only [upd]; by_cases h1 : j = i
              · subst h1; rw [if_pos rfl, if_pos (by omega)]
              · rw [if_neg h1]; by_cases h2 : j < i
                · rw [if_pos h2, if_pos (by omega)]
                · rw [if_neg h2, if_neg (by omega)]
            exact ih (i + 1) w_1 H locs ls (by omega) (by omega) e_ hP hS (lv_sub hl [0, 1, 2] rfl)
      exact L_31 (258 + 1) 0 w H locs ls (by omega) (by omega) (by funext j; rw [if_neg (by omega)]) hP hS (lv_sub hl [0, 1, 2] rfl)
    · refine lv_bipush (v := (-5)) hx hb dX8_restore_22 (by decide +kernel) ?_
      exact zr_i hx hb hr hlocks hS (⟨by rw [mRst, if_pos c_7, nI_clamp (by omega), if_pos c_19], _, by rw [mRst, if_pos c_7, nI_clamp (by omega), if_pos c_19]; exact hP⟩) dX8_restore_24
  · refine lv_bipush (v := (-2)) hx hb dX8_restore_10 (by decide +kernel) ?_
    exact zr_i hx hb hr hlocks hS (⟨by rw [mRst, if_neg c_7], _, by rw [mRst, if_neg c_7]; exact hP⟩) dX8_restore_12
def mLook (w : Nat → Int32) (n : Nat) : Int32 × Option Nat :=
  match (if ¬ w 16 = 2 ∧ w 14 < w 2 then mLow w n (w 16) (w 9) else none) with
  | some k => (0, some k)
  | none => match mOld w n (mNext w n) with
    | none => (3, none)
    | some k => if w (zF w k 1).toNatClampNeg ≤ w 6 - zF w k 4 then (1, some k) else
      match mLow w n (mNext w n) (w 9) with
      | some j => (2, some j)
      | none => (3, mLow w n (mNext w n) 0)
def mOK (w : Nat → Int32) (n : Nat) : Prop := w 7 = nI n ∧ n ≤ 30 ∧ (∀ k, k < n → zF w k 1 = 0 ∨ zF w k 1 = 1) ∧ (∀ k, k < n → 0 ≤ zF w k 2)
theorem zCnt_pos {p : Nat → Bool} {n : Nat} (h : 0 < zCnt p n) : ∃ k, k < n ∧ p k = true := by
  induction n with
  | zero => simp [zCnt] at h
  | succ n ih =>
    cases hp : p n with
    | true => exact ⟨n, Nat.lt_succ_self _, hp⟩
    | false =>
      simp only [zCnt, hp] at h
      obtain ⟨k, h1, h2⟩ := ih (by simpa using h)
      exact ⟨k, Nat.lt_succ_of_lt h1, h2⟩
theorem zCnt_zero {p : Nat → Bool} {n : Nat} (h : zCnt p n = 0) : ∀ k, k < n → p k = false := by
  induction n with
  | zero => intro k hk; omega
  | succ n ih =>
    simp only [zCnt] at h
    intro k hk
    have h1 : zCnt p n = 0 := by omega
    rcases Nat.lt_or_ge k n with q | q
    · exact ih h1 k q
    · have : k = n := by omega
      subst this
      cases hp : p k with
      | true => simp [hp] at h
      | false => rfl
theorem zCnt_all {p : Nat → Bool} {n : Nat} (h : zCnt p n = n) : ∀ k, k < n → p k = true := by
  induction n with
  | zero => intro k hk; omega
  | succ n ih =>
    simp only [zCnt] at h
    have h0 := zCnt_le p n
    intro k hk
    cases hp : p n with
    | false => simp [hp] at h; omega
    | true =>
      have h1 : zCnt p n = n := by simp [hp] at h; omega
      rcases Nat.lt_or_ge k n with q | q
      · exact ih h1 k q
      · have : k = n := by omega
        rw [this]; exact hp
theorem zBest_some {can : Nat → Bool} {lt : Nat → Nat → Bool} {n j : Nat} (hj : j < n) (hc : can j = true) : ∃ k, k < n ∧ can k = true ∧ zBest can lt n = some k := by
  cases h : zBest can lt n with
  | none => exact absurd (zBest_none.mp h j hj) (by rw [hc]; decide)
  | some k => exact ⟨k, (zBest_lt h).1, (zBest_lt h).2, rfl⟩
theorem mOld_some {w : Nat → Int32} {n : Nat} (hpos : 0 < n) (hwr : ∀ k, k < n → zF w k 1 = 0 ∨ zF w k 1 = 1) : ∃ k, k < n ∧ zF w k 1 = mNext w n ∧ mOld w n (mNext w n) = some k := by
  have key : ∃ j, j < n ∧ zF w j 1 = mNext w n := by
    unfold mNext
    by_cases h1 : mMany w n 1 = n
    · rw [if_pos h1]
      exact ⟨0, hpos, of_decide_eq_true (zCnt_all h1 0 hpos)⟩
    · rw [if_neg h1]
      by_cases h2 : mMany w n 1 = 0
      · rw [if_pos h2]
        refine ⟨0, hpos, ?_⟩
        rcases hwr 0 hpos with h | h
        · exact h
        · exact absurd h (of_decide_eq_false (zCnt_zero h2 0 hpos))
      · rw [if_neg h2]
        split
        · obtain ⟨k, hk, hp⟩ := zCnt_pos (Nat.pos_of_ne_zero h2)
          exact ⟨k, hk, of_decide_eq_true hp⟩
        · apply Classical.byContradiction
          intro hno
          apply h1
          have hall : ∀ k, k < n → zF w k 1 = 1 := fun k hk => (hwr k hk).resolve_left (fun z => hno ⟨k, hk, z⟩)
          have gen : ∀ m, m ≤ n → zCnt (fun k => decide (zF w k 1 = 1)) m = m := by
            intro m
            induction m with
            | zero => intro _; rfl
            | succ m ih =>
              intro hm
              simp only [zCnt, hall m (by omega), ih (by omega)]
              simp
          exact gen n (Nat.le_refl n)
  obtain ⟨j, hj, he⟩ := key
  obtain ⟨k, h1, h2, h3⟩ := zBest_some (can := fun k => decide (zF w k 1 = mNext w n)) (lt := fun a b => decide (zF w a 4 < zF w b 4)) hj (decide_eq_true he)
  exact ⟨k, h1, of_decide_eq_true h2, h3⟩
theorem mLook_some {w : Nat → Int32} {n : Nat} (hpos : 0 < n) (hok : mOK w n) : ∃ k, k < n ∧ (mLook w n).2 = some k := by
  obtain ⟨-, -, hwr, hfd⟩ := hok
  unfold mLook
  cases h0 : (if ¬ w 16 = 2 ∧ w 14 < w 2 then mLow w n (w 16) (w 9) else none) with
  | some k =>
    refine ⟨k, ?_, rfl⟩
    split at h0
    · exact (zBest_lt h0).1
    · cases h0
  | none =>
    obtain ⟨k, h1, h1', h2⟩ := mOld_some hpos hwr
    simp only [h2]
    split
    · exact ⟨k, h1, rfl⟩
    · cases h3 : mLow w n (mNext w n) (w 9) with
      | some j => exact ⟨j, (zBest_lt h3).1, rfl⟩
      | none =>
        obtain ⟨j, h4, -, h5⟩ := zBest_some (can := fun k => decide (zF w k 1 = mNext w n ∧ 0 ≤ zF w k 2)) (lt := fun a b => decide (zF w a 2 < zF w b 2)) h1 (decide_eq_true ⟨h1', hfd k h1⟩)
        exact ⟨j, h4, h5⟩
set_option maxHeartbeats 4000000 in
set_option maxRecDepth 100000 in
theorem c_X8_drop (l : Launch) (V : zV) (g : Nat → Nat) (w pa be av sl sv pd cd : Nat → Int32) (st le ap pl wy : Int32) (n k : Nat) (hJ : zInj 9 g) (hn : w 7 = nI n) (h30 : n ≤ 30) (hkn : k < n) : Met l yX8_drop wsX8_drop (zR 0 0 0) (zPc V [.ref (g 0), .int (nI k)] (fun H => va_P V.1 vwCl (zmW V g w pa be av sl sv pd cd st le ap pl wy) H)) (zQv (fun H => va_P V.1 vwCl (zmW V g (mDrop w n k) pa be av sl sv pd cd st le ap pl wy) H) (zIn 9 g)) 0 0 (zIn 9 g) := by
  refine Met.ofW (cc := cX8_drop) (maxL := 3) (ret := none) (by decide) rfl ?_
  intro p e s m args below meth c s₁ B hml hv
  obtain ⟨rfl, hP, hE⟩ := hv
  have hx := B.exec
  have hb := B.bytes
  have hr := B.returns
  have hts := atoms_spec (ws := wsX8_drop) B.pre
  have hown : s.vm.findClass RX8 = some m.cls := findClass_of_methodNamed B.named
  have hlocks := B.notSynchronized
  have hl := lv_entry ([.ref (g 0), .int (nI k)]) (n := 3) (Nat.le_of_ble_eq_true rfl)
  rw [lg_entry_eq]
  generalize (lg_sl ([.ref (g 0), .int (nI k)]) ++ List.replicate (3 - (lg_sl ([.ref (g 0), .int (nI k)])).length) Slot.unset).toArray = ls at hl ⊢
  have hl : lv_has ls 3 [(0, .ref (g 0)), (1, .int (nI k))] := hl
  have hS : va_S (zIn 9 g) s.heap s.heap [] := va_S.rf
  refine lv_aload_n hx hb dX8_drop_0 rfl (lv_at hl 0 rfl) ?_
  refine zm_get 0 (.ref (g 1)) hx hb hts (fun x h => List.mem_cons_of_mem _ (hU_X8 x h)) hown hE hP (by decide) rfl (hts _ (List.mem_cons_of_mem _ uM_5)) (fun _ h9 => h9) dX8_drop_1 ?_
  refine lv_bipush (v := 7) hx hb dX8_drop_4 (by decide +kernel) ?_
  refine lv_dup2_11 hx hb dX8_drop_6 rfl rfl ?_
  refine z_iald (k := 7) hx hb hE hP 1 (zm_c1 V g w pa be av sl sv pd cd st le ap pl wy) (by omega) (by decide) dX8_drop_7 ?_
  refine zt_i hn ?_
  refine lv_iconst (v := 1) hx hb dX8_drop_8 (by decide +kernel) ?_
  refine lv_isub hx hb dX8_drop_9 ?_
  refine zt_i (z_sub (a := n) (b := 1) (by omega) (by first | rfl | omega)) ?_
  refine zm_a1 7 (nI (n - 1)) hx hb hE hP hJ hS (by omega) dX8_drop_10 (fun H locs hP hS => ?_)
  obtain ⟨w_1, ew_1⟩ : ∃ z, z = upd w 7 (nI (n - 1)) := ⟨_, rfl⟩
  rw [← ew_1] at hP
  have hk_2 : w_1 7 = nI (n - 1) := by rw [ew_1]; exact if_pos rfl
  refine lv_bipush (v := 78) hx hb dX8_drop_11 (by decide +kernel) ?_
  refine lv_bipush (v := 6) hx hb dX8_drop_13 (by decide +kernel) ?_
  refine lv_iload_n hx hb dX8_drop_15 rfl (lv_at hl 1 rfl) ?_
  refine lv_imul hx hb dX8_drop_16 ?_
  refine zt_i (z_mul (a := 6) (b := k) (by first | rfl | omega)) ?_
  refine lv_iadd hx hb dX8_drop_17 ?_
  refine zt_i (z_add (a := 78) (b := 6 * k) (by first | rfl | omega)) ?_
  refine lv_istore_n (lv' := [(2, .int (nI (78 + 6 * k))), (0, .ref (g 0)), (1, .int (nI k))]) hx hb dX8_drop_18 rfl hl (by decide) rfl (fun ls hl => ?_)
  have L_19 : ∀ (n_ i : Nat) (f_ : Nat → Int32) (H : Heap) (locs : List Loc) (ls : Array Slot), i ≤ (78 + 6 * (n - 1)) → (78 + 6 * (n - 1)) + 1 ≤ i + n_ → (78 + 6 * k ≤ i) → (f_ 7 = nI (n - 1)) → (f_ = fun j => if 78 + 6 * k ≤ j ∧ j < i then w (j + 6) else w_1 j) → va_P V.1 vwCl (zmW V g f_ pa be av sl sv pd cd st le ap pl wy) H → va_S (zIn 9 g) s.heap H locs → lv_has ls 3 [(2, .int (nI i)), (0, .ref (g 0)), (1, .int (nI k))] → W p l e (headSpec wsX8_drop (zR 0 0 0)).room s m (List.toArray [.ref (g 0), .int (nI k)]) below meth c H locs 0 0 (MQ below (zQv (fun H => va_P V.1 vwCl (zmW V g (mDrop w n k) pa be av sl sv pd cd st le ap pl wy) H) (zIn 9 g)) (List.toArray [.ref (g 0), .int (nI k)]) s 0 0 (zIn 9 g)) (F0 m 19 ls []) := by
    intro n_
    induction n_ with
    | zero => intro i f_ H locs ls hi_ hn_; exact absurd hn_ (by omega)
    | succ n_ ih =>
      intro i f_ H locs ls hi_ hn_ hik hf7 ef_ hP hS hl
      refine lv_iload_n hx hb dX8_drop_19 rfl (lv_at hl 0 rfl) ?_
      refine lv_bipush (v := 78) hx hb dX8_drop_20 (by decide +kernel) ?_
      refine lv_bipush (v := 6) hx hb dX8_drop_22 (by decide +kernel) ?_
      refine lv_aload_n hx hb dX8_drop_24 rfl (lv_at hl 1 rfl) ?_
      refine zm_get 0 (.ref (g 1)) hx hb hts (fun x h => List.mem_cons_of_mem _ (hU_X8 x h)) hown hE hP (by decide) rfl (hts _ (List.mem_cons_of_mem _ uM_5)) (fun _ h9 => h9) dX8_drop_25 ?_
      refine lv_bipush (v := 7) hx hb dX8_drop_28 (by decide +kernel) ?_
      refine z_iald (k := 7) hx hb hE hP 1 (zm_c1 V g f_ pa be av sl sv pd cd st le ap pl wy) (by omega) (by decide) dX8_drop_30 ?_
      refine zt_i hf7 ?_
      refine lv_imul hx hb dX8_drop_31 ?_
      refine zt_i (z_mul (a := 6) (b := n - 1) (by first | rfl | omega)) ?_
      refine lv_iadd hx hb dX8_drop_32 ?_
      refine zt_i (z_add (a := 78) (b := 6 * (n - 1)) (by first | rfl | omega)) ?_
      refine zb_ge (x := i) (y := 78 + (6 * (n - 1))) (tgt := 57) hx hb dX8_drop_33 (by decide) (by omega) (by omega) (fun c_33 => ?_) (fun c_33 => ?_)
      · obtain rfl : i = 78 + 6 * (n - 1) := by omega
        refine lv_iconst (v := 0) hx hb dX8_drop_57 (by decide +kernel) ?_
        refine lv_istore_n (lv' := [(2, .int 0), (0, .ref (g 0)), (1, .int (nI k))]) hx hb dX8_drop_58 rfl hl (by decide) rfl (fun ls hl => ?_)
        have L_59 : ∀ (n_ i : Nat) (g_ : Nat → Int32) (H : Heap) (locs : List Loc) (ls : Array Slot), i ≤ 6 → 6 + 1 ≤ i + n_ → (g_ 7 = nI (n - 1)) → (g_ = fun j => if 78 + 6 * (n - 1) ≤ j ∧ j < 78 + 6 * (n - 1) + i then 0 else f_ j) → va_P V.1 vwCl (zmW V g g_ pa be av sl sv pd cd st le ap pl wy) H → va_S (zIn 9 g) s.heap H locs → lv_has ls 3 [(2, .int (nI i)), (0, .ref (g 0)), (1, .int (nI k))] → W p l e (headSpec wsX8_drop (zR 0 0 0)).room s m (List.toArray [.ref (g 0), .int (nI k)]) below meth c H locs 0 0 (MQ below (zQv (fun H => va_P V.1 vwCl (zmW V g (mDrop w n k) pa be av sl sv pd cd st le ap pl wy) H) (zIn 9 g)) (List.toArray [.ref (g 0), .int (nI k)]) s 0 0 (zIn 9 g)) (F0 m 59 ls []) := by
          intro n_
          induction n_ with
          | zero => intro i g_ H locs ls hi_ hn_; exact absurd hn_ (by omega)
          | succ n_ ih =>
            intro i g_ H locs ls hi_ hn_ hg7 eg_ hP hS hl
            refine lv_iload_n hx hb dX8_drop_59 rfl (lv_at hl 0 rfl) ?_
            refine lv_bipush (v := 6) hx hb dX8_drop_60 (by decide +kernel) ?_
            refine zb_ge (x := i) (y := 6) (tgt := 92) hx hb dX8_drop_62 (by decide) (by omega) (by omega) (fun c_62 => ?_) (fun c_62 => ?_)
            · exact zr_v hx hb hr hlocks hS (by rw [show mDrop w n k = g_ from (by rw [eg_, ef_, ew_1, show i = 6 by omega]; rfl)]; exact hP) dX8_drop_92
            · refine lv_aload_n hx hb dX8_drop_65 rfl (lv_at hl 1 rfl) ?_
              refine zm_get 0 (.ref (g 1)) hx hb hts (fun x h => List.mem_cons_of_mem _ (hU_X8 x h)) hown hE hP (by decide) rfl (hts _ (List.mem_cons_of_mem _ uM_5)) (fun _ h9 => h9) dX8_drop_66 ?_
              refine lv_bipush (v := 78) hx hb dX8_drop_69 (by decide +kernel) ?_
              refine lv_bipush (v := 6) hx hb dX8_drop_71 (by decide +kernel) ?_
              refine lv_aload_n hx hb dX8_drop_73 rfl (lv_at hl 1 rfl) ?_
              refine zm_get 0 (.ref (g 1)) hx hb hts (fun x h => List.mem_cons_of_mem _ (hU_X8 x h)) hown hE hP (by decide) rfl (hts _ (List.mem_cons_of_mem _ uM_5)) (fun _ h9 => h9) dX8_drop_74 ?_
              refine lv_bipush (v := 7) hx hb dX8_drop_77 (by decide +kernel) ?_
              refine z_iald (k := 7) hx hb hE hP 1 (zm_c1 V g g_ pa be av sl sv pd cd st le ap pl wy) (by omega) (by decide) dX8_drop_79 ?_
              refine zt_i hg7 ?_
              refine lv_imul hx hb dX8_drop_80 ?_
              refine zt_i (z_mul (a := 6) (b := n - 1) (by first | rfl | omega)) ?_
              refine lv_iadd hx hb dX8_drop_81 ?_
              refine zt_i (z_add (a := 78) (b := 6 * (n - 1)) (by first | rfl | omega)) ?_
              refine lv_iload_n hx hb dX8_drop_82 rfl (lv_at hl 0 rfl) ?_
              refine lv_iadd hx hb dX8_drop_83 ?_
              refine zt_i (z_add (a := 78 + (6 * (n - 1))) (b := i) (by first | rfl | omega)) ?_
              refine lv_iconst (v := 0) hx hb dX8_drop_84 (by decide +kernel) ?_
              refine zm_a1 ((78 + (6 * (n - 1))) + i) 0 hx hb hE hP hJ hS (by omega) dX8_drop_85 (fun H locs hP hS => ?_)
              obtain ⟨w_3, ew_3⟩ : ∃ z, z = upd g_ ((78 + (6 * (n - 1))) + i) 0 := ⟨_, rfl⟩
              rw [← ew_3] at hP
              have hk_4 : w_3 7 = nI (n - 1) := by rw [ew_3]; exact (if_neg (by omega)).trans hg7
              refine lv_iinc (v := nI (i + 1)) (lv' := [(2, .int (nI (i + 1))), (0, .ref (g 0)), (1, .int (nI k))]) hx hb dX8_drop_86 hl (k := 0) rfl (z_inc1 i) (by decide) rfl (fun ls hl => ?_)
              refine lv_goto (tgt := 59) hx hb dX8_drop_89 (by decide) ?_
              have e_ : w_3 = fun j => if 78 + 6 * (n - 1) ≤ j ∧ j < 78 + 6 * (n - 1) + (i + 1) then 0 else f_ j := by
                rw [ew_3, eg_]; funext j; simp only [upd]; by_cases h1 : j = 78 + 6 * (n - 1) + i
                · subst h1; rw [if_pos rfl, if_pos (by omega)]
                · rw [if_neg h1]; by_cases h2 : 78 + 6 * (n - 1) ≤ j ∧ j < 78 + 6 * (n - 1) + i
                  · rw [if_pos h2, if_pos (by omega)]
                  · rw [if_neg h2, if_neg (by omega)]
              exact ih (i + 1) w_3 H locs ls (by omega) (by omega) hk_4 e_ hP hS (lv_sub hl [0, 1, 2] rfl)
        exact L_59 (6 + 1) 0 f_ H locs ls (by omega) (by omega) hf7 (by funext j; rw [if_neg (by omega)]) hP hS (lv_sub hl [0, 1, 2] rfl)
      · refine lv_aload_n hx hb dX8_drop_36 rfl (lv_at hl 1 rfl) ?_
        refine zm_get 0 (.ref (g 1)) hx hb hts (fun x h => List.mem_cons_of_mem _ (hU_X8 x h)) hown hE hP (by decide) rfl (hts _ (List.mem_cons_of_mem _ uM_5)) (fun _ h9 => h9) dX8_drop_37 ?_
        refine lv_iload_n hx hb dX8_drop_40 rfl (lv_at hl 0 rfl) ?_
        refine lv_aload_n hx hb dX8_drop_41 rfl (lv_at hl 1 rfl) ?_
        refine zm_get 0 (.ref (g 1)) hx hb hts (fun x h => List.mem_cons_of_mem _ (hU_X8 x h)) hown hE hP (by decide) rfl (hts _ (List.mem_cons_of_mem _ uM_5)) (fun _ h9 => h9) dX8_drop_42 ?_
        refine lv_iload_n hx hb dX8_drop_45 rfl (lv_at hl 0 rfl) ?_
        refine lv_bipush (v := 6) hx hb dX8_drop_46 (by decide +kernel) ?_
        refine lv_iadd hx hb dX8_drop_48 ?_
        refine zt_i (z_add (a := i) (b := 6) (by first | rfl | omega)) ?_
        refine z_iald (k := i + 6) hx hb hE hP 1 (zm_c1 V g f_ pa be av sl sv pd cd st le ap pl wy) (by omega) (by decide) dX8_drop_49 ?_
        refine zm_a1 i (f_ (i + 6)) hx hb hE hP hJ hS (by omega) dX8_drop_50 (fun H locs hP hS => ?_)
        obtain ⟨w_5, ew_5⟩ : ∃ z, z = upd f_ i (f_ (i + 6)) := ⟨_, rfl⟩
        rw [← ew_5] at hP
        have hk_6 : w_5 7 = nI (n - 1) := by rw [ew_5]; exact (if_neg (by omega)).trans hf7
        refine lv_iinc (v := nI (i + 1)) (lv' := [(2, .int (nI (i + 1))), (0, .ref (g 0)), (1, .int (nI k))]) hx hb dX8_drop_51 hl (k := 0) rfl (z_inc1 i) (by decide) rfl (fun ls hl => ?_)
        refine lv_goto (tgt := 19) hx hb dX8_drop_54 (by decide) ?_
        have e_ : w_5 = fun j => if 78 + 6 * k ≤ j ∧ j < i + 1 then w (j + 6) else w_1 j := by
          rw [ew_5, ef_]; funext j; simp only [upd]; by_cases h1 : j = i
          · subst h1; rw [if_pos rfl, if_neg (by omega), if_pos (by omega), ew_1]; exact if_neg (by omega)
          · rw [if_neg h1]; by_cases h2 : 78 + 6 * k ≤ j ∧ j < i
            · rw [if_pos h2, if_pos (by omega)]
            · rw [if_neg h2, if_neg (by omega)]
        exact ih (i + 1) w_5 H locs ls (by omega) (by omega) (by omega) hk_6 e_ hP hS (lv_sub hl [0, 1, 2] rfl)
  exact L_19 ((78 + 6 * (n - 1)) + 1) (78 + 6 * k) w_1 H locs ls (by omega) (by omega) (by omega) hk_2 (by funext j; rw [if_neg (by omega)]) hP hS (lv_sub hl [0, 1, 2] rfl)
set_option maxHeartbeats 4000000 in
set_option maxRecDepth 100000 in
theorem c_X8_note (l : Launch) (V : zV) (g : Nat → Nat) (w pa be av sl sv pd cd : Nat → Int32) (st le ap pl wy : Int32) (a b c_ : Int32) (hJ : zInj 9 g) : Met l yX8_note wsX8_note (zR 0 0 0) (zPc V [.ref (g 0), .int a, .int b, .int c_] (fun H => va_P V.1 vwCl (zmW V g w pa be av sl sv pd cd st le ap pl wy) H)) (zQv (fun H => va_P V.1 vwCl (zmW V g (mNote w a b c_) pa be av sl sv pd cd st le ap pl wy) H) (zIn 9 g)) 0 0 (zIn 9 g) := by
  refine Met.ofW (cc := cX8_note) (maxL := 5) (ret := none) (by decide) rfl ?_
  intro p e s m args below meth c s₁ B hml hv
  obtain ⟨rfl, hP, hE⟩ := hv
  have hx := B.exec
  have hb := B.bytes
  have hr := B.returns
  have hts := atoms_spec (ws := wsX8_note) B.pre
  have hown : s.vm.findClass RX8 = some m.cls := findClass_of_methodNamed B.named
  have hlocks := B.notSynchronized
  have hl := lv_entry ([.ref (g 0), .int a, .int b, .int c_]) (n := 5) (Nat.le_of_ble_eq_true rfl)
  rw [lg_entry_eq]
  generalize (lg_sl ([.ref (g 0), .int a, .int b, .int c_]) ++ List.replicate (5 - (lg_sl ([.ref (g 0), .int a, .int b, .int c_])).length) Slot.unset).toArray = ls at hl ⊢
  have hl : lv_has ls 5 [(0, .ref (g 0)), (1, .int a), (2, .int b), (3, .int c_)] := hl
  have hS : va_S (zIn 9 g) s.heap s.heap [] := va_S.rf
  refine lv_bipush (v := 77) hx hb dX8_note_0 (by decide +kernel) ?_
  refine lv_istore (lv' := [(4, .int 77), (0, .ref (g 0)), (1, .int a), (2, .int b), (3, .int c_)]) hx hb dX8_note_2 hl (by decide) rfl (fun ls hl => ?_)
  have L_4 : ∀ (n_ i : Nat) (f_ : Nat → Int32) (H : Heap) (locs : List Loc) (ls : Array Slot), i ≤ 57 → 57 + 1 ≤ i + n_ → (f_ = fun j => if 77 - i < j ∧ j ≤ 77 then w (j - 3) else w j) → va_P V.1 vwCl (zmW V g f_ pa be av sl sv pd cd st le ap pl wy) H → va_S (zIn 9 g) s.heap H locs → lv_has ls 5 [(4, .int (nI (77 - i))), (0, .ref (g 0)), (1, .int a), (2, .int b), (3, .int c_)] → W p l e (headSpec wsX8_note (zR 0 0 0)).room s m (List.toArray [.ref (g 0), .int a, .int b, .int c_]) below meth c H locs 0 0 (MQ below (zQv (fun H => va_P V.1 vwCl (zmW V g (mNote w a b c_) pa be av sl sv pd cd st le ap pl wy) H) (zIn 9 g)) (List.toArray [.ref (g 0), .int a, .int b, .int c_]) s 0 0 (zIn 9 g)) (F0 m 4 ls []) := by
    intro n_
    induction n_ with
    | zero => intro i f_ H locs ls hi_ hn_; exact absurd hn_ (by omega)
    | succ n_ ih =>
      intro i f_ H locs ls hi_ hn_ ef_ hP hS hl
      refine lv_iload hx hb dX8_note_4 (lv_at hl 0 rfl) ?_
      refine lv_bipush (v := 21) hx hb dX8_note_6 (by decide +kernel) ?_
      refine zb_lt (x := 77 - i) (y := 21) (tgt := 33) hx hb dX8_note_8 (by decide) (by omega) (by omega) (fun c_8 => ?_) (fun c_8 => ?_)
      · have hsh : f_ = mShift w := by rw [ef_, show i = 57 by omega]; rfl
        refine lv_aload_n hx hb dX8_note_33 rfl (lv_at hl 1 rfl) ?_
        refine zm_get 0 (.ref (g 1)) hx hb hts (fun x h => List.mem_cons_of_mem _ (hU_X8 x h)) hown hE hP (by decide) rfl (hts _ (List.mem_cons_of_mem _ uM_5)) (fun _ h9 => h9) dX8_note_34 ?_
        refine lv_bipush (v := 18) hx hb dX8_note_37 (by decide +kernel) ?_
        refine lv_iload_n hx hb dX8_note_39 rfl (lv_at hl 2 rfl) ?_
        refine zm_a1 18 a hx hb hE hP hJ hS (by omega) dX8_note_40 (fun H locs hP hS => ?_)
        obtain ⟨w_1, ew_1⟩ : ∃ z, z = upd f_ 18 a := ⟨_, rfl⟩
        rw [← ew_1] at hP
        refine lv_aload_n hx hb dX8_note_41 rfl (lv_at hl 1 rfl) ?_
        refine zm_get 0 (.ref (g 1)) hx hb hts (fun x h => List.mem_cons_of_mem _ (hU_X8 x h)) hown hE hP (by decide) rfl (hts _ (List.mem_cons_of_mem _ uM_5)) (fun _ h9 => h9) dX8_note_42 ?_
        refine lv_bipush (v := 19) hx hb dX8_note_45 (by decide +kernel) ?_
        refine lv_iload_n hx hb dX8_note_47 rfl (lv_at hl 3 rfl) ?_
        refine zm_a1 19 b hx hb hE hP hJ hS (by omega) dX8_note_48 (fun H locs hP hS => ?_)
        obtain ⟨w_2, ew_2⟩ : ∃ z, z = upd w_1 19 b := ⟨_, rfl⟩
        rw [← ew_2] at hP
        refine lv_aload_n hx hb dX8_note_49 rfl (lv_at hl 1 rfl) ?_
        refine zm_get 0 (.ref (g 1)) hx hb hts (fun x h => List.mem_cons_of_mem _ (hU_X8 x h)) hown hE hP (by decide) rfl (hts _ (List.mem_cons_of_mem _ uM_5)) (fun _ h9 => h9) dX8_note_50 ?_
        refine lv_bipush (v := 20) hx hb dX8_note_53 (by decide +kernel) ?_
        refine lv_iload_n hx hb dX8_note_55 rfl (lv_at hl 4 rfl) ?_
        refine zm_a1 20 c_ hx hb hE hP hJ hS (by omega) dX8_note_56 (fun H locs hP hS => ?_)
        obtain ⟨w_3, ew_3⟩ : ∃ z, z = upd w_2 20 c_ := ⟨_, rfl⟩
        rw [← ew_3] at hP
        refine lv_aload_n hx hb dX8_note_57 rfl (lv_at hl 1 rfl) ?_
        refine zm_get 0 (.ref (g 1)) hx hb hts (fun x h => List.mem_cons_of_mem _ (hU_X8 x h)) hown hE hP (by decide) rfl (hts _ (List.mem_cons_of_mem _ uM_5)) (fun _ h9 => h9) dX8_note_58 ?_
        refine lv_bipush (v := 17) hx hb dX8_note_61 (by decide +kernel) ?_
        refine lv_dup2_11 hx hb dX8_note_63 rfl rfl ?_
        refine z_iald (k := 17) hx hb hE hP 1 (zm_c1 V g w_3 pa be av sl sv pd cd st le ap pl wy) (by omega) (by decide) dX8_note_64 ?_
        refine lv_aload_n hx hb dX8_note_65 rfl (lv_at hl 1 rfl) ?_
        refine zm_get 0 (.ref (g 1)) hx hb hts (fun x h => List.mem_cons_of_mem _ (hU_X8 x h)) hown hE hP (by decide) rfl (hts _ (List.mem_cons_of_mem _ uM_5)) (fun _ h9 => h9) dX8_note_66 ?_
        refine lv_bipush (v := 17) hx hb dX8_note_69 (by decide +kernel) ?_
        refine z_iald (k := 17) hx hb hE hP 1 (zm_c1 V g w_3 pa be av sl sv pd cd st le ap pl wy) (by omega) (by decide) dX8_note_71 ?_
        refine lv_bipush (v := 20) hx hb dX8_note_72 (by decide +kernel) ?_
        refine lv_icmp_ge (tgt := 81) hx hb dX8_note_74 (by decide) (fun c_74 => ?_) (fun c_74 => ?_)
        · refine lv_iconst (v := 0) hx hb dX8_note_81 (by decide +kernel) ?_
          refine lv_iadd hx hb dX8_note_82 ?_
          refine zm_a1 17 ((w_3 17) + 0) hx hb hE hP hJ hS (by omega) dX8_note_83 (fun H locs hP hS => ?_)
          obtain ⟨w_4, ew_4⟩ : ∃ z, z = upd w_3 17 ((w_3 17) + 0) := ⟨_, rfl⟩
          rw [← ew_4] at hP
          exact zr_v hx hb hr hlocks hS (by rw [show mNote w a b c_ = upd w_3 17 (w_3 17 + (if w_3 17 < 20 then 1 else 0)) from (by rw [ew_3, ew_2, ew_1, hsh]; rfl)]; first | (rw [if_neg (z_le' c_74), ← ew_4]; exact hP) | (rw [if_pos (z_nle c_74), ← ew_4]; exact hP)) dX8_note_84
        · refine lv_iconst (v := 1) hx hb dX8_note_77 (by decide +kernel) ?_
          refine lv_goto (tgt := 82) hx hb dX8_note_78 (by decide) ?_
          refine lv_iadd hx hb dX8_note_82 ?_
          refine zm_a1 17 ((w_3 17) + 1) hx hb hE hP hJ hS (by omega) dX8_note_83 (fun H locs hP hS => ?_)
          obtain ⟨w_5, ew_5⟩ : ∃ z, z = upd w_3 17 ((w_3 17) + 1) := ⟨_, rfl⟩
          rw [← ew_5] at hP
          exact zr_v hx hb hr hlocks hS (by rw [show mNote w a b c_ = upd w_3 17 (w_3 17 + (if w_3 17 < 20 then 1 else 0)) from (by rw [ew_3, ew_2, ew_1, hsh]; rfl)]; first | (rw [if_neg (z_le' c_74), ← ew_5]; exact hP) | (rw [if_pos (z_nle c_74), ← ew_5]; exact hP)) dX8_note_84
      · refine lv_aload_n hx hb dX8_note_11 rfl (lv_at hl 1 rfl) ?_
        refine zm_get 0 (.ref (g 1)) hx hb hts (fun x h => List.mem_cons_of_mem _ (hU_X8 x h)) hown hE hP (by decide) rfl (hts _ (List.mem_cons_of_mem _ uM_5)) (fun _ h9 => h9) dX8_note_12 ?_
        refine lv_iload hx hb dX8_note_15 (lv_at hl 0 rfl) ?_
        refine lv_aload_n hx hb dX8_note_17 rfl (lv_at hl 1 rfl) ?_
        refine zm_get 0 (.ref (g 1)) hx hb hts (fun x h => List.mem_cons_of_mem _ (hU_X8 x h)) hown hE hP (by decide) rfl (hts _ (List.mem_cons_of_mem _ uM_5)) (fun _ h9 => h9) dX8_note_18 ?_
        refine lv_iload hx hb dX8_note_21 (lv_at hl 0 rfl) ?_
        refine lv_iconst (v := 3) hx hb dX8_note_23 (by decide +kernel) ?_
        refine lv_isub hx hb dX8_note_24 ?_
        refine zt_i (z_sub (a := 77 - i) (b := 3) (by omega) (by first | rfl | omega)) ?_
        refine z_iald (k := (77 - i) - 3) hx hb hE hP 1 (zm_c1 V g f_ pa be av sl sv pd cd st le ap pl wy) (by omega) (by decide) dX8_note_25 ?_
        refine zm_a1 (77 - i) (f_ ((77 - i) - 3)) hx hb hE hP hJ hS (by omega) dX8_note_26 (fun H locs hP hS => ?_)
        obtain ⟨w_6, ew_6⟩ : ∃ z, z = upd f_ (77 - i) (f_ ((77 - i) - 3)) := ⟨_, rfl⟩
        rw [← ew_6] at hP
        refine lv_iinc (v := nI ((77 - i) - 1)) (lv' := [(4, .int (nI ((77 - i) - 1))), (0, .ref (g 0)), (1, .int a), (2, .int b), (3, .int c_)]) hx hb dX8_note_27 hl (k := 0) rfl (z_dec1 (by omega)) (by decide) rfl (fun ls hl => ?_)
        refine lv_goto (tgt := 4) hx hb dX8_note_30 (by decide) ?_
        rw [show 77 - i - 1 = 77 - (i + 1) by omega] at hl
        have e_ : w_6 = fun j => if 77 - (i + 1) < j ∧ j ≤ 77 then w (j - 3) else w j := by
          rw [ew_6, ef_]; funext j; simp only [upd]; by_cases h1 : j = 77 - i
          · subst h1; rw [if_pos rfl, if_neg (by omega), if_pos (by omega)]
          · rw [if_neg h1]; by_cases h2 : 77 - i < j ∧ j ≤ 77
            · rw [if_pos h2, if_pos (by omega)]
            · rw [if_neg h2, if_neg (by omega)]
        exact ih (i + 1) w_6 H locs ls (by omega) (by omega) e_ hP hS (lv_sub hl [0, 1, 2, 3, 4] rfl)
  exact L_4 (57 + 1) 0 w s.heap [] ls (by omega) (by omega) (by funext j; rw [if_neg (by omega)]) hP hS (lv_sub hl [0, 1, 2, 3, 4] rfl)
set_option maxHeartbeats 4000000 in
set_option maxRecDepth 100000 in
theorem c_X8_look (l : Launch) (V : zV) (g : Nat → Nat) (w pa be av sl sv pd cd : Nat → Int32) (st le ap pl wy : Int32) (n : Nat) (hJ : zInj 9 g) (hok : mOK w n) (hpos : 0 < n) : Met l yX8_look wsX8_look (zR 3 0 0) (zPc V [.ref (g 0)] (fun H => va_P V.1 vwCl (zmW V g w pa be av sl sv pd cd st le ap pl wy) H)) (zQv (fun H => va_P V.1 vwCl (zmW V g w pa be av sl sv pd cd st le ap (zoI (mLook w n).2) ((mLook w n).1)) H) (zIn 9 g)) 0 0 (zIn 9 g) := by
  refine Met.ofW (cc := cX8_look) (maxL := 2) (ret := none) (by decide) rfl ?_
  intro p e s m args below meth c s₁ B hml hv
  obtain ⟨rfl, hP, hE⟩ := hv
  have hx := B.exec
  have hb := B.bytes
  have hr := B.returns
  have hts := atoms_spec (ws := wsX8_look) B.pre
  have hown : s.vm.findClass RX8 = some m.cls := findClass_of_methodNamed B.named
  have hlocks := B.notSynchronized
  have hl := lv_entry ([.ref (g 0)]) (n := 2) (Nat.le_of_ble_eq_true rfl)
  rw [lg_entry_eq]
  generalize (lg_sl ([.ref (g 0)]) ++ List.replicate (2 - (lg_sl ([.ref (g 0)])).length) Slot.unset).toArray = ls at hl ⊢
  have hl : lv_has ls 2 [(0, .ref (g 0))] := hl
  have hS : va_S (zIn 9 g) s.heap s.heap [] := va_S.rf
  have hok0 : mOK w n := hok
  obtain ⟨hn, h30, hwr, hfd⟩ := hok
  have J_51 : ∀ (q : Option Nat) (ls : Array Slot), True → (q = if ¬ w 16 = 2 ∧ w 14 < w 2 then mLow w n (w 16) (w 9) else none) → lv_has ls 2 [(0, .ref (g 0))] → W p l e (headSpec wsX8_look (zR 3 0 0)).room s m (List.toArray [.ref (g 0)]) below meth c s.heap [] 0 0 (MQ below (zQv (fun H => va_P V.1 vwCl (zmW V g w pa be av sl sv pd cd st le ap (zoI (mLook w n).2) ((mLook w n).1)) H) (zIn 9 g)) (List.toArray [.ref (g 0)]) s 0 0 (zIn 9 g)) (F0 m 51 ls [.int (zoI q), .ref (g 0)]) := by
    intro q  ls _ hq0  hl
    rcases hqq : q with _ | k
    · refine zt_i (y := (-6)) (by first | rfl | exact congrArg zoI hqq) ?_
      refine zm_put (st' := st) (le' := le) (ap' := ap) (pl' := (-6)) (wy' := wy) 11 (-6) hx hb hts (fun x h => List.mem_cons_of_mem _ (hU_X8 x h)) hown hE hP hJ hS (by decide) rfl rfl (by decide +kernel) (hts _ (List.mem_cons_of_mem _ uM_48)) (fun _ h9 => h9) dX8_look_51 (fun H locs hP hS => ?_)
      refine lv_aload_n hx hb dX8_look_54 rfl (lv_at hl 0 rfl) ?_
      refine lv_iconst (v := 0) hx hb dX8_look_55 (by decide +kernel) ?_
      refine zm_put (st' := st) (le' := le) (ap' := ap) (pl' := (-6)) (wy' := 0) 12 0 hx hb hts (fun x h => List.mem_cons_of_mem _ (hU_X8 x h)) hown hE hP hJ hS (by decide) rfl rfl (by decide +kernel) (hts _ (List.mem_cons_of_mem _ uM_49)) (fun _ h9 => h9) dX8_look_56 (fun H locs hP hS => ?_)
      refine lv_aload_n hx hb dX8_look_59 rfl (lv_at hl 0 rfl) ?_
      refine zm_get 11 (.int (-6)) hx hb hts (fun x h => List.mem_cons_of_mem _ (hU_X8 x h)) hown hE hP (by decide) rfl (hts _ (List.mem_cons_of_mem _ uM_48)) (fun _ h9 => h9) dX8_look_60 ?_
      refine lv_bipush (v := (-6)) hx hb dX8_look_63 (by decide +kernel) ?_
      refine lv_icmp_eq (tgt := 69) hx hb dX8_look_65 (by decide) (fun c_65 => ?_) (fun c_65 => ?_)
      · refine lv_aload_n hx hb dX8_look_69 rfl (lv_at hl 0 rfl) ?_
        refine zc_se (va_runV (As := []) (rest := []) ⟨hx, hb, hml, hown, hts⟩ (c_X8_nextSort l V g w pa be av sl sv pd cd st le ap (-6) 0 n hn h30) (cwV 0 hts (zgV_ wsM_all uM_43 uM_53 uM_54 uM_55 uM_21) rfl rfl rfl (by decide +kernel) ⟨Nat.le_of_ble_eq_true rfl, Nat.le_of_ble_eq_true rfl⟩) (zPreV (B := fun H => va_P V.1 vwCl (zmW V g w pa be av sl sv pd cd st le ap (-6) 0) H) hP hE (va_recv hE.1 hP (ci := 8) (q0 := 0) (q := (RX8, TX8, 13)) rfl (zm_c0 V g w pa be av sl sv pd cd st le ap (-6) 0))) rfl rfl hl.1 rfl (lv_room (Nat.le_of_ble_eq_true rfl)) dX8_look_70 ⟨Nat.le_of_ble_eq_true rfl, Nat.le_of_ble_eq_true rfl⟩) ?_
        refine lv_istore_n (lv' := [(1, .int (mNext w n)), (0, .ref (g 0))]) hx hb dX8_look_73 rfl hl (by decide) rfl (fun ls hl => ?_)
        refine lv_aload_n hx hb dX8_look_74 rfl (lv_at hl 1 rfl) ?_
        refine lv_aload_n hx hb dX8_look_75 rfl (lv_at hl 1 rfl) ?_
        refine lv_iload_n hx hb dX8_look_76 rfl (lv_at hl 0 rfl) ?_
        refine zc_se (va_runV (As := [.int (mNext w n)]) (rest := [.ref (g 0)]) ⟨hx, hb, hml, hown, hts⟩ (c_X8_oldest l V g w pa be av sl sv pd cd st le ap (-6) 0 n (mNext w n) hn h30) (cwV 1 hts (zgV_ wsM_all uM_41 uM_56 uM_57 uM_58 uM_21) rfl rfl rfl (by decide +kernel) ⟨Nat.le_of_ble_eq_true rfl, Nat.le_of_ble_eq_true rfl⟩) (zPreV (B := fun H => va_P V.1 vwCl (zmW V g w pa be av sl sv pd cd st le ap (-6) 0) H) hP hE (va_recv hE.1 hP (ci := 8) (q0 := 0) (q := (RX8, TX8, 13)) rfl (zm_c0 V g w pa be av sl sv pd cd st le ap (-6) 0))) rfl rfl hl.1 rfl (lv_room (Nat.le_of_ble_eq_true rfl)) dX8_look_77 ⟨Nat.le_of_ble_eq_true rfl, Nat.le_of_ble_eq_true rfl⟩) ?_
        obtain ⟨k, hkn, hk1, hko⟩ := mOld_some hpos hwr
        refine zt_i (y := nI k) (by first | rfl | exact congrArg zoI hko) ?_
        refine zm_put (st' := st) (le' := le) (ap' := ap) (pl' := nI k) (wy' := 0) 11 (nI k) hx hb hts (fun x h => List.mem_cons_of_mem _ (hU_X8 x h)) hown hE hP hJ hS (by decide) rfl rfl (by decide +kernel) (hts _ (List.mem_cons_of_mem _ uM_48)) (fun _ h9 => h9) dX8_look_80 (fun H locs hP hS => ?_)
        refine lv_aload_n hx hb dX8_look_83 rfl (lv_at hl 1 rfl) ?_
        refine lv_iconst (v := 1) hx hb dX8_look_84 (by decide +kernel) ?_
        refine zm_put (st' := st) (le' := le) (ap' := ap) (pl' := nI k) (wy' := 1) 12 1 hx hb hts (fun x h => List.mem_cons_of_mem _ (hU_X8 x h)) hown hE hP hJ hS (by decide) rfl rfl (by decide +kernel) (hts _ (List.mem_cons_of_mem _ uM_49)) (fun _ h9 => h9) dX8_look_85 (fun H locs hP hS => ?_)
        refine lv_aload_n hx hb dX8_look_88 rfl (lv_at hl 1 rfl) ?_
        refine lv_aload_n hx hb dX8_look_89 rfl (lv_at hl 1 rfl) ?_
        refine zm_get 11 (.int (nI k)) hx hb hts (fun x h => List.mem_cons_of_mem _ (hU_X8 x h)) hown hE hP (by decide) rfl (hts _ (List.mem_cons_of_mem _ uM_48)) (fun _ h9 => h9) dX8_look_90 ?_
        refine zc_se (va_runV (As := [.int (nI k)]) (rest := []) ⟨hx, hb, hml, hown, hts⟩ (c_X8_isOld l V g w pa be av sl sv pd cd st le ap (nI k) 1 k (by omega) (hwr k (by omega))) (cwV 1 hts (zgV_ wsM_all uM_42 uM_59 uM_60 uM_61 uM_21) rfl rfl rfl (by decide +kernel) ⟨Nat.le_of_ble_eq_true rfl, Nat.le_of_ble_eq_true rfl⟩) (zPreV (B := fun H => va_P V.1 vwCl (zmW V g w pa be av sl sv pd cd st le ap (nI k) 1) H) hP hE (va_recv hE.1 hP (ci := 8) (q0 := 0) (q := (RX8, TX8, 13)) rfl (zm_c0 V g w pa be av sl sv pd cd st le ap (nI k) 1))) rfl rfl hl.1 rfl (lv_room (Nat.le_of_ble_eq_true rfl)) dX8_look_93 ⟨Nat.le_of_ble_eq_true rfl, Nat.le_of_ble_eq_true rfl⟩) ?_
        refine zbp_ne (P := w (zF w k 1).toNatClampNeg ≤ w 6 - zF w k 4) (tgt := 120) hx hb dX8_look_96 (by decide) (fun c_96 => ?_) (fun c_96 => ?_)
        · refine lv_aload_n hx hb dX8_look_120 rfl (lv_at hl 1 rfl) ?_
          refine zm_get 11 (.int (nI k)) hx hb hts (fun x h => List.mem_cons_of_mem _ (hU_X8 x h)) hown hE hP (by decide) rfl (hts _ (List.mem_cons_of_mem _ uM_48)) (fun _ h9 => h9) dX8_look_121 ?_
          refine lv_bipush (v := (-6)) hx hb dX8_look_124 (by decide +kernel) ?_
          refine lv_icmp_ne (tgt := 144) hx hb dX8_look_126 (by decide) (fun c_126 => ?_) (fun c_126 => ?_)
          · exact zr_v hx hb hr hlocks hS (by have hlk : mLook w n = (1, some k) := (by unfold mLook; rw [← hq0, hqq]; simp only [hko]; rw [if_pos c_96]); rw [hlk]; exact hP) dX8_look_144
          · exact absurd c_126 (z_n6 (by omega))
        · refine lv_aload_n hx hb dX8_look_99 rfl (lv_at hl 1 rfl) ?_
          refine lv_aload_n hx hb dX8_look_100 rfl (lv_at hl 1 rfl) ?_
          refine lv_iload_n hx hb dX8_look_101 rfl (lv_at hl 0 rfl) ?_
          refine lv_aload_n hx hb dX8_look_102 rfl (lv_at hl 1 rfl) ?_
          refine zm_get 0 (.ref (g 1)) hx hb hts (fun x h => List.mem_cons_of_mem _ (hU_X8 x h)) hown hE hP (by decide) rfl (hts _ (List.mem_cons_of_mem _ uM_5)) (fun _ h9 => h9) dX8_look_103 ?_
          refine lv_bipush (v := 9) hx hb dX8_look_106 (by decide +kernel) ?_
          refine z_iald (k := 9) hx hb hE hP 1 (zm_c1 V g w pa be av sl sv pd cd st le ap (nI k) 1) (by omega) (by decide) dX8_look_108 ?_
          refine zc_se (va_runV (As := [.int (mNext w n), .int (w 9)]) (rest := [.ref (g 0)]) ⟨hx, hb, hml, hown, hts⟩ (c_X8_lowest l V g w pa be av sl sv pd cd st le ap (nI k) 1 n (mNext w n) (w 9) hn h30) (cwV 2 hts (zgV_ wsM_all uM_40 uM_50 uM_51 uM_52 uM_21) rfl rfl rfl (by decide +kernel) ⟨Nat.le_of_ble_eq_true rfl, Nat.le_of_ble_eq_true rfl⟩) (zPreV (B := fun H => va_P V.1 vwCl (zmW V g w pa be av sl sv pd cd st le ap (nI k) 1) H) hP hE (va_recv hE.1 hP (ci := 8) (q0 := 0) (q := (RX8, TX8, 13)) rfl (zm_c0 V g w pa be av sl sv pd cd st le ap (nI k) 1))) rfl rfl hl.1 rfl (lv_room (Nat.le_of_ble_eq_true rfl)) dX8_look_109 ⟨Nat.le_of_ble_eq_true rfl, Nat.le_of_ble_eq_true rfl⟩) ?_
          rcases hl2 : mLow w n (mNext w n) (w 9) with _ | j
          · refine zt_i (y := (-6)) (by first | rfl | exact congrArg zoI hl2) ?_
            refine zm_put (st' := st) (le' := le) (ap' := ap) (pl' := (-6)) (wy' := 1) 11 (-6) hx hb hts (fun x h => List.mem_cons_of_mem _ (hU_X8 x h)) hown hE hP hJ hS (by decide) rfl rfl (by decide +kernel) (hts _ (List.mem_cons_of_mem _ uM_48)) (fun _ h9 => h9) dX8_look_112 (fun H locs hP hS => ?_)
            refine lv_aload_n hx hb dX8_look_115 rfl (lv_at hl 1 rfl) ?_
            refine lv_iconst (v := 2) hx hb dX8_look_116 (by decide +kernel) ?_
            refine zm_put (st' := st) (le' := le) (ap' := ap) (pl' := (-6)) (wy' := 2) 12 2 hx hb hts (fun x h => List.mem_cons_of_mem _ (hU_X8 x h)) hown hE hP hJ hS (by decide) rfl rfl (by decide +kernel) (hts _ (List.mem_cons_of_mem _ uM_49)) (fun _ h9 => h9) dX8_look_117 (fun H locs hP hS => ?_)
            refine lv_aload_n hx hb dX8_look_120 rfl (lv_at hl 1 rfl) ?_
            refine zm_get 11 (.int (-6)) hx hb hts (fun x h => List.mem_cons_of_mem _ (hU_X8 x h)) hown hE hP (by decide) rfl (hts _ (List.mem_cons_of_mem _ uM_48)) (fun _ h9 => h9) dX8_look_121 ?_
            refine lv_bipush (v := (-6)) hx hb dX8_look_124 (by decide +kernel) ?_
            refine lv_icmp_ne (tgt := 144) hx hb dX8_look_126 (by decide) (fun c_126 => ?_) (fun c_126 => ?_)
            · exact absurd rfl c_126
            · refine lv_aload_n hx hb dX8_look_129 rfl (lv_at hl 1 rfl) ?_
              refine lv_aload_n hx hb dX8_look_130 rfl (lv_at hl 1 rfl) ?_
              refine lv_iload_n hx hb dX8_look_131 rfl (lv_at hl 0 rfl) ?_
              refine lv_iconst (v := 0) hx hb dX8_look_132 (by decide +kernel) ?_
              refine zc_se (va_runV (As := [.int (mNext w n), .int 0]) (rest := [.ref (g 0)]) ⟨hx, hb, hml, hown, hts⟩ (c_X8_lowest l V g w pa be av sl sv pd cd st le ap (-6) 2 n (mNext w n) 0 hn h30) (cwV 2 hts (zgV_ wsM_all uM_40 uM_50 uM_51 uM_52 uM_21) rfl rfl rfl (by decide +kernel) ⟨Nat.le_of_ble_eq_true rfl, Nat.le_of_ble_eq_true rfl⟩) (zPreV (B := fun H => va_P V.1 vwCl (zmW V g w pa be av sl sv pd cd st le ap (-6) 2) H) hP hE (va_recv hE.1 hP (ci := 8) (q0 := 0) (q := (RX8, TX8, 13)) rfl (zm_c0 V g w pa be av sl sv pd cd st le ap (-6) 2))) rfl rfl hl.1 rfl (lv_room (Nat.le_of_ble_eq_true rfl)) dX8_look_133 ⟨Nat.le_of_ble_eq_true rfl, Nat.le_of_ble_eq_true rfl⟩) ?_
              refine zm_put (st' := st) (le' := le) (ap' := ap) (pl' := zoI (mLow w n (mNext w n) 0)) (wy' := 2) 11 (zoI (mLow w n (mNext w n) 0)) hx hb hts (fun x h => List.mem_cons_of_mem _ (hU_X8 x h)) hown hE hP hJ hS (by decide) rfl rfl (by decide +kernel) (hts _ (List.mem_cons_of_mem _ uM_48)) (fun _ h9 => h9) dX8_look_136 (fun H locs hP hS => ?_)
              refine lv_aload_n hx hb dX8_look_139 rfl (lv_at hl 1 rfl) ?_
              refine lv_iconst (v := 3) hx hb dX8_look_140 (by decide +kernel) ?_
              refine zm_put (st' := st) (le' := le) (ap' := ap) (pl' := zoI (mLow w n (mNext w n) 0)) (wy' := 3) 12 3 hx hb hts (fun x h => List.mem_cons_of_mem _ (hU_X8 x h)) hown hE hP hJ hS (by decide) rfl rfl (by decide +kernel) (hts _ (List.mem_cons_of_mem _ uM_49)) (fun _ h9 => h9) dX8_look_141 (fun H locs hP hS => ?_)
              exact zr_v hx hb hr hlocks hS (by have hlk : mLook w n = (3, mLow w n (mNext w n) 0) := (by unfold mLook; rw [← hq0, hqq]; simp only [hko]; rw [if_neg c_96]; simp only [hl2]); rw [hlk]; exact hP) dX8_look_144
          · refine zt_i (y := nI j) (by first | rfl | exact congrArg zoI hl2) ?_
            have hjn : j < n := (zBest_lt hl2).1
            refine zm_put (st' := st) (le' := le) (ap' := ap) (pl' := nI j) (wy' := 1) 11 (nI j) hx hb hts (fun x h => List.mem_cons_of_mem _ (hU_X8 x h)) hown hE hP hJ hS (by decide) rfl rfl (by decide +kernel) (hts _ (List.mem_cons_of_mem _ uM_48)) (fun _ h9 => h9) dX8_look_112 (fun H locs hP hS => ?_)
            refine lv_aload_n hx hb dX8_look_115 rfl (lv_at hl 1 rfl) ?_
            refine lv_iconst (v := 2) hx hb dX8_look_116 (by decide +kernel) ?_
            refine zm_put (st' := st) (le' := le) (ap' := ap) (pl' := nI j) (wy' := 2) 12 2 hx hb hts (fun x h => List.mem_cons_of_mem _ (hU_X8 x h)) hown hE hP hJ hS (by decide) rfl rfl (by decide +kernel) (hts _ (List.mem_cons_of_mem _ uM_49)) (fun _ h9 => h9) dX8_look_117 (fun H locs hP hS => ?_)
            refine lv_aload_n hx hb dX8_look_120 rfl (lv_at hl 1 rfl) ?_
            refine zm_get 11 (.int (nI j)) hx hb hts (fun x h => List.mem_cons_of_mem _ (hU_X8 x h)) hown hE hP (by decide) rfl (hts _ (List.mem_cons_of_mem _ uM_48)) (fun _ h9 => h9) dX8_look_121 ?_
            refine lv_bipush (v := (-6)) hx hb dX8_look_124 (by decide +kernel) ?_
            refine lv_icmp_ne (tgt := 144) hx hb dX8_look_126 (by decide) (fun c_126 => ?_) (fun c_126 => ?_)
            · exact zr_v hx hb hr hlocks hS (by have hlk : mLook w n = (2, some j) := (by unfold mLook; rw [← hq0, hqq]; simp only [hko]; rw [if_neg c_96]; simp only [hl2]); rw [hlk]; exact hP) dX8_look_144
            · exact absurd c_126 (z_n6 (by omega))
      · exact absurd rfl c_65
    · refine zt_i (y := nI k) (by first | rfl | exact congrArg zoI hqq) ?_
      have hkn : k < n := by rw [hqq] at hq0; split at hq0 <;> first | exact (zBest_lt hq0.symm).1 | cases hq0
      refine zm_put (st' := st) (le' := le) (ap' := ap) (pl' := nI k) (wy' := wy) 11 (nI k) hx hb hts (fun x h => List.mem_cons_of_mem _ (hU_X8 x h)) hown hE hP hJ hS (by decide) rfl rfl (by decide +kernel) (hts _ (List.mem_cons_of_mem _ uM_48)) (fun _ h9 => h9) dX8_look_51 (fun H locs hP hS => ?_)
      refine lv_aload_n hx hb dX8_look_54 rfl (lv_at hl 0 rfl) ?_
      refine lv_iconst (v := 0) hx hb dX8_look_55 (by decide +kernel) ?_
      refine zm_put (st' := st) (le' := le) (ap' := ap) (pl' := nI k) (wy' := 0) 12 0 hx hb hts (fun x h => List.mem_cons_of_mem _ (hU_X8 x h)) hown hE hP hJ hS (by decide) rfl rfl (by decide +kernel) (hts _ (List.mem_cons_of_mem _ uM_49)) (fun _ h9 => h9) dX8_look_56 (fun H locs hP hS => ?_)
      refine lv_aload_n hx hb dX8_look_59 rfl (lv_at hl 0 rfl) ?_
      refine zm_get 11 (.int (nI k)) hx hb hts (fun x h => List.mem_cons_of_mem _ (hU_X8 x h)) hown hE hP (by decide) rfl (hts _ (List.mem_cons_of_mem _ uM_48)) (fun _ h9 => h9) dX8_look_60 ?_
      refine lv_bipush (v := (-6)) hx hb dX8_look_63 (by decide +kernel) ?_
      refine lv_icmp_eq (tgt := 69) hx hb dX8_look_65 (by decide) (fun c_65 => ?_) (fun c_65 => ?_)
      · exact absurd c_65 (z_n6 (by omega))
      · exact zr_v hx hb hr hlocks hS (by have hlk : mLook w n = (0, some k) := (by unfold mLook; rw [← hq0, hqq]; skip); rw [hlk]; exact hP) dX8_look_68
  refine lv_aload_n hx hb dX8_look_0 rfl (lv_at hl 0 rfl) ?_
  refine lv_aload_n hx hb dX8_look_1 rfl (lv_at hl 0 rfl) ?_
  refine zm_get 0 (.ref (g 1)) hx hb hts (fun x h => List.mem_cons_of_mem _ (hU_X8 x h)) hown hE hP (by decide) rfl (hts _ (List.mem_cons_of_mem _ uM_5)) (fun _ h9 => h9) dX8_look_2 ?_
  refine lv_bipush (v := 16) hx hb dX8_look_5 (by decide +kernel) ?_
  refine z_iald (k := 16) hx hb hE hP 1 (zm_c1 V g w pa be av sl sv pd cd st le ap pl wy) (by omega) (by decide) dX8_look_7 ?_
  refine lv_iconst (v := 2) hx hb dX8_look_8 (by decide +kernel) ?_
  refine lv_icmp_eq (tgt := 49) hx hb dX8_look_9 (by decide) (fun c_9 => ?_) (fun c_9 => ?_)
  · refine lv_bipush (v := (-6)) hx hb dX8_look_49 (by decide +kernel) ?_
    exact J_51 none ls trivial ((if_neg (fun h => h.1 c_9)).symm) (lv_sub hl [0] rfl)
  · refine lv_aload_n hx hb dX8_look_12 rfl (lv_at hl 0 rfl) ?_
    refine zm_get 0 (.ref (g 1)) hx hb hts (fun x h => List.mem_cons_of_mem _ (hU_X8 x h)) hown hE hP (by decide) rfl (hts _ (List.mem_cons_of_mem _ uM_5)) (fun _ h9 => h9) dX8_look_13 ?_
    refine lv_bipush (v := 14) hx hb dX8_look_16 (by decide +kernel) ?_
    refine z_iald (k := 14) hx hb hE hP 1 (zm_c1 V g w pa be av sl sv pd cd st le ap pl wy) (by omega) (by decide) dX8_look_18 ?_
    refine lv_aload_n hx hb dX8_look_19 rfl (lv_at hl 0 rfl) ?_
    refine zm_get 0 (.ref (g 1)) hx hb hts (fun x h => List.mem_cons_of_mem _ (hU_X8 x h)) hown hE hP (by decide) rfl (hts _ (List.mem_cons_of_mem _ uM_5)) (fun _ h9 => h9) dX8_look_20 ?_
    refine lv_iconst (v := 2) hx hb dX8_look_23 (by decide +kernel) ?_
    refine z_iald (k := 2) hx hb hE hP 1 (zm_c1 V g w pa be av sl sv pd cd st le ap pl wy) (by omega) (by decide) dX8_look_24 ?_
    refine lv_icmp_ge (tgt := 49) hx hb dX8_look_25 (by decide) (fun c_25 => ?_) (fun c_25 => ?_)
    · refine lv_bipush (v := (-6)) hx hb dX8_look_49 (by decide +kernel) ?_
      exact J_51 none ls trivial ((if_neg (fun h => z_le' c_25 h.2)).symm) (lv_sub hl [0] rfl)
    · refine lv_aload_n hx hb dX8_look_28 rfl (lv_at hl 0 rfl) ?_
      refine lv_aload_n hx hb dX8_look_29 rfl (lv_at hl 0 rfl) ?_
      refine zm_get 0 (.ref (g 1)) hx hb hts (fun x h => List.mem_cons_of_mem _ (hU_X8 x h)) hown hE hP (by decide) rfl (hts _ (List.mem_cons_of_mem _ uM_5)) (fun _ h9 => h9) dX8_look_30 ?_
      refine lv_bipush (v := 16) hx hb dX8_look_33 (by decide +kernel) ?_
      refine z_iald (k := 16) hx hb hE hP 1 (zm_c1 V g w pa be av sl sv pd cd st le ap pl wy) (by omega) (by decide) dX8_look_35 ?_
      refine lv_aload_n hx hb dX8_look_36 rfl (lv_at hl 0 rfl) ?_
      refine zm_get 0 (.ref (g 1)) hx hb hts (fun x h => List.mem_cons_of_mem _ (hU_X8 x h)) hown hE hP (by decide) rfl (hts _ (List.mem_cons_of_mem _ uM_5)) (fun _ h9 => h9) dX8_look_37 ?_
      refine lv_bipush (v := 9) hx hb dX8_look_40 (by decide +kernel) ?_
      refine z_iald (k := 9) hx hb hE hP 1 (zm_c1 V g w pa be av sl sv pd cd st le ap pl wy) (by omega) (by decide) dX8_look_42 ?_
      refine zc_se (va_runV (As := [.int (w 16), .int (w 9)]) (rest := [.ref (g 0)]) ⟨hx, hb, hml, hown, hts⟩ (c_X8_lowest l V g w pa be av sl sv pd cd st le ap pl wy n (w 16) (w 9) hn h30) (cwV 2 hts (zgV_ wsM_all uM_40 uM_50 uM_51 uM_52 uM_21) rfl rfl rfl (by decide +kernel) ⟨Nat.le_of_ble_eq_true rfl, Nat.le_of_ble_eq_true rfl⟩) (zPreV (B := fun H => va_P V.1 vwCl (zmW V g w pa be av sl sv pd cd st le ap pl wy) H) hP hE (va_recv hE.1 hP (ci := 8) (q0 := 0) (q := (RX8, TX8, 13)) rfl (zm_c0 V g w pa be av sl sv pd cd st le ap pl wy))) rfl rfl hl.1 rfl (lv_room (Nat.le_of_ble_eq_true rfl)) dX8_look_43 ⟨Nat.le_of_ble_eq_true rfl, Nat.le_of_ble_eq_true rfl⟩) ?_
      refine lv_goto (tgt := 51) hx hb dX8_look_46 (by decide) ?_
      exact J_51 _ ls trivial (by rw [if_pos ⟨c_9, z_nle c_25⟩]) (lv_sub hl [0] rfl)
def mBegin (w : Nat → Int32) (n : Nat) (why so : Int32) : Nat → Int32 := if why ≤ 0 then w else upd (upd (upd (upd w 15 (if so = 1 then 0 else w 15 + (if 0 < mMany w n 1 then 1 else 0))) 13 (upd w 15 (if so = 1 then 0 else w 15 + (if 0 < mMany w n 1 then 1 else 0)) 13 + 1)) 14 0) 16 so
def mMid (w : Nat → Int32) (k : Nat) : Nat → Int32 := upd w 14 (w 14 + 1)
def mEnd (w : Nat → Int32) (k : Nat) (so : Int32) : Nat → Int32 :=
  let w1 := upd w 14 (w 14 + 1)
  let w2 := upd w1 12 (w1 12 + mFar (zF w1 k 2) (w1 9))
  let w3 := upd w2 9 (if mLast w2 k < 99 then mLast w2 k + 1 else 99)
  let w4 := upd w3 6 (mMinute w1 k)
  let w5 := upd w4 10 (w4 10 + 1)
  let w6 := upd w5 11 (if w5 11 < mMinute w1 k - zF w1 k 4 then mMinute w1 k - zF w1 k 4 else w5 11)
  mNote w6 (zF w6 k 0) (mMinute w1 k - zF w1 k 4) so
def mServe (w : Nat → Int32) (n : Nat) : Nat → Int32 :=
  let k := ((mLook w n).2).getD 0
  mDrop (mEnd (mBegin w n (mLook w n).1 (zF w k 1)) k (zF w k 1)) n k
theorem mNote_lo (w : Nat → Int32) (a b c : Int32) {j : Nat} (h : j < 17) : mNote w a b c j = w j := by
  unfold mNote mShift
  simp only [upd]
  rw [if_neg (by omega), if_neg (by omega), if_neg (by omega), if_neg (by omega), if_neg (by omega)]
theorem mNote_hi (w : Nat → Int32) (a b c : Int32) {j : Nat} (h : 78 ≤ j) : mNote w a b c j = w j := by
  unfold mNote mShift
  simp only [upd]
  rw [if_neg (by omega), if_neg (by omega), if_neg (by omega), if_neg (by omega), if_neg (by omega)]
theorem mNote_7 (w : Nat → Int32) (a b c : Int32) : mNote w a b c 7 = w 7 := mNote_lo w a b c (by decide)
set_option maxHeartbeats 4000000 in
set_option maxRecDepth 100000 in
theorem c_X8_serveOne (l : Launch) (V : zV) (g : Nat → Nat) (w pa be av sl sv pd cd : Nat → Int32) (st le ap pl wy : Int32) (n : Nat) (hJ : zInj 9 g) (hok : mOK w n) (hpos : 0 < n) : Met l yX8_serveOne wsX8_serveOne (zR 4 0 0) (zPc V [.ref (g 0)] (fun H => va_P V.1 vwCl (zmW V g w pa be av sl sv pd cd st le ap pl wy) H)) (zQv (fun H => ∃ pl' : Int32, ∃ wy' : Int32, va_P V.1 vwCl (zmW V g (mServe w n) pa be av sl sv pd cd st le ap pl' wy') H) (zIn 9 g)) 0 0 (zIn 9 g) := by
  refine Met.ofW (cc := cX8_serveOne) (maxL := 4) (ret := none) (by decide) rfl ?_
  intro p e s m args below meth c s₁ B hml hv
  obtain ⟨rfl, hP, hE⟩ := hv
  have hx := B.exec
  have hb := B.bytes
  have hr := B.returns
  have hts := atoms_spec (ws := wsX8_serveOne) B.pre
  have hown : s.vm.findClass RX8 = some m.cls := findClass_of_methodNamed B.named
  have hlocks := B.notSynchronized
  have hl := lv_entry ([.ref (g 0)]) (n := 4) (Nat.le_of_ble_eq_true rfl)
  rw [lg_entry_eq]
  generalize (lg_sl ([.ref (g 0)]) ++ List.replicate (4 - (lg_sl ([.ref (g 0)])).length) Slot.unset).toArray = ls at hl ⊢
  have hl : lv_has ls 4 [(0, .ref (g 0))] := hl
  have hS : va_S (zIn 9 g) s.heap s.heap [] := va_S.rf
  obtain ⟨k, hkn, hlk⟩ := mLook_some hpos hok
  have hok0 : mOK w n := hok
  obtain ⟨hn, h30, hwr, hfd⟩ := hok
  have hmm_ : mMany w n 1 ≤ n := zCnt_le _ _
  refine lv_aload_n hx hb dX8_serveOne_0 rfl (lv_at hl 0 rfl) ?_
  refine zc_v (va_runV (As := []) (rest := []) ⟨hx, hb, hml, hown, hts⟩ (c_X8_look l V g w pa be av sl sv pd cd st le ap pl wy  n hJ hok0 hpos) (cwV 0 hts (zgV_ wsM_all uM_47 uM_68 uM_69 uM_70 uM_21) rfl rfl rfl (by decide +kernel) ⟨Nat.le_of_ble_eq_true rfl, Nat.le_of_ble_eq_true rfl⟩) (zPreV (B := fun H => va_P V.1 vwCl (zmW V g w pa be av sl sv pd cd st le ap pl wy) H) hP hE (va_recv hE.1 hP (ci := 8) (q0 := 0) (q := (RX8, TX8, 13)) rfl (zm_c0 V g w pa be av sl sv pd cd st le ap pl wy))) rfl rfl hl.1 rfl (lv_room (Nat.le_of_ble_eq_true rfl)) dX8_serveOne_1 ⟨Nat.le_of_ble_eq_true rfl, Nat.le_of_ble_eq_true rfl⟩) hS (fun _ h => h) (fun _ h => h) (fun H locs hQ_ _ _ hS => ?_)
  have hP := hQ_
  have hP : va_P V.1 vwCl (zmW V g w pa be av sl sv pd cd st le ap (nI k) ((mLook w n).1)) H := by rw [hlk] at hP; exact hP
  refine lv_aload_n hx hb dX8_serveOne_4 rfl (lv_at hl 0 rfl) ?_
  refine lv_aload_n hx hb dX8_serveOne_5 rfl (lv_at hl 0 rfl) ?_
  refine zm_get 11 (.int (nI k)) hx hb hts (fun x h => List.mem_cons_of_mem _ (hU_X8 x h)) hown hE hP (by decide) rfl (hts _ (List.mem_cons_of_mem _ uM_48)) (fun _ h9 => h9) dX8_serveOne_6 ?_
  refine lv_iconst (v := 1) hx hb dX8_serveOne_9 (by decide +kernel) ?_
  refine zc_se (va_runV (As := [.int (nI k), .int 1]) (rest := []) ⟨hx, hb, hml, hown, hts⟩ (c_X8_its l V g w pa be av sl sv pd cd st le ap (nI k) ((mLook w n).1) k 1 (by omega)) (cwV 2 hts (zgV_ wsM_all uM_16 uM_18 uM_19 uM_20 uM_21) rfl rfl rfl (by decide +kernel) ⟨Nat.le_of_ble_eq_true rfl, Nat.le_of_ble_eq_true rfl⟩) (zPreV (B := fun H => va_P V.1 vwCl (zmW V g w pa be av sl sv pd cd st le ap (nI k) ((mLook w n).1)) H) hP hE (va_recv hE.1 hP (ci := 8) (q0 := 0) (q := (RX8, TX8, 13)) rfl (zm_c0 V g w pa be av sl sv pd cd st le ap (nI k) ((mLook w n).1)))) rfl rfl hl.1 rfl (lv_room (Nat.le_of_ble_eq_true rfl)) dX8_serveOne_10 ⟨Nat.le_of_ble_eq_true rfl, Nat.le_of_ble_eq_true rfl⟩) ?_
  refine lv_istore_n (lv' := [(1, .int (zF w k 1)), (0, .ref (g 0))]) hx hb dX8_serveOne_13 rfl hl (by decide) rfl (fun ls hl => ?_)
  refine lv_aload_n hx hb dX8_serveOne_14 rfl (lv_at hl 1 rfl) ?_
  refine zm_get 12 (.int ((mLook w n).1)) hx hb hts (fun x h => List.mem_cons_of_mem _ (hU_X8 x h)) hown hE hP (by decide) rfl (hts _ (List.mem_cons_of_mem _ uM_49)) (fun _ h9 => h9) dX8_serveOne_15 ?_
  have J_85 : ∀ (f_ : Nat → Int32) (H : Heap) (locs : List Loc) (ls : Array Slot), True → (f_ 7 = nI n) → (f_ = mBegin w n (mLook w n).1 (zF w k 1)) → va_P V.1 vwCl (zmW V g f_ pa be av sl sv pd cd st le ap (nI k) ((mLook w n).1)) H → va_S (zIn 9 g) s.heap H locs → lv_has ls 4 [(0, .ref (g 0)), (1, .int (zF w k 1))] → W p l e (headSpec wsX8_serveOne (zR 4 0 0)).room s m (List.toArray [.ref (g 0)]) below meth c H locs 0 0 (MQ below (zQv (fun H => ∃ pl' : Int32, ∃ wy' : Int32, va_P V.1 vwCl (zmW V g (mServe w n) pa be av sl sv pd cd st le ap pl' wy') H) (zIn 9 g)) (List.toArray [.ref (g 0)]) s 0 0 (zIn 9 g)) (F0 m 85 ls []) := by
    intro f_ H locs ls _ hf7 ef_ hP hS hl
    refine lv_aload_n hx hb dX8_serveOne_85 rfl (lv_at hl 0 rfl) ?_
    refine zm_get 0 (.ref (g 1)) hx hb hts (fun x h => List.mem_cons_of_mem _ (hU_X8 x h)) hown hE hP (by decide) rfl (hts _ (List.mem_cons_of_mem _ uM_5)) (fun _ h9 => h9) dX8_serveOne_86 ?_
    refine lv_bipush (v := 14) hx hb dX8_serveOne_89 (by decide +kernel) ?_
    refine lv_dup2_11 hx hb dX8_serveOne_91 rfl rfl ?_
    refine z_iald (k := 14) hx hb hE hP 1 (zm_c1 V g f_ pa be av sl sv pd cd st le ap (nI k) ((mLook w n).1)) (by omega) (by decide) dX8_serveOne_92 ?_
    refine lv_iconst (v := 1) hx hb dX8_serveOne_93 (by decide +kernel) ?_
    refine lv_iadd hx hb dX8_serveOne_94 ?_
    refine zm_a1 14 ((f_ 14) + 1) hx hb hE hP hJ hS (by omega) dX8_serveOne_95 (fun H locs hP hS => ?_)
    obtain ⟨w_1, ew_1⟩ : ∃ z, z = upd f_ 14 ((f_ 14) + 1) := ⟨_, rfl⟩
    rw [← ew_1] at hP
    have hk_2 : w_1 7 = nI n := by rw [ew_1]; exact (if_neg (by omega)).trans hf7
    refine lv_aload_n hx hb dX8_serveOne_96 rfl (lv_at hl 0 rfl) ?_
    refine zc_se (va_runV (As := []) (rest := []) ⟨hx, hb, hml, hown, hts⟩ (c_X8_minute l V g w_1 pa be av sl sv pd cd st le ap (nI k) ((mLook w n).1) k (by omega) rfl) (cwV 0 hts (zgV_ wsM_all uM_62 uM_71 uM_72 uM_73 uM_21) rfl rfl rfl (by decide +kernel) ⟨Nat.le_of_ble_eq_true rfl, Nat.le_of_ble_eq_true rfl⟩) (zPreV (B := fun H => va_P V.1 vwCl (zmW V g w_1 pa be av sl sv pd cd st le ap (nI k) ((mLook w n).1)) H) hP hE (va_recv hE.1 hP (ci := 8) (q0 := 0) (q := (RX8, TX8, 13)) rfl (zm_c0 V g w_1 pa be av sl sv pd cd st le ap (nI k) ((mLook w n).1)))) rfl rfl hl.1 rfl (lv_room (Nat.le_of_ble_eq_true rfl)) dX8_serveOne_97 ⟨Nat.le_of_ble_eq_true rfl, Nat.le_of_ble_eq_true rfl⟩) ?_
    refine lv_istore_n (lv' := [(2, .int (mMinute w_1 k)), (0, .ref (g 0)), (1, .int (zF w k 1))]) hx hb dX8_serveOne_100 rfl hl (by decide) rfl (fun ls hl => ?_)
    refine lv_iload_n hx hb dX8_serveOne_101 rfl (lv_at hl 0 rfl) ?_
    refine lv_aload_n hx hb dX8_serveOne_102 rfl (lv_at hl 1 rfl) ?_
    refine lv_aload_n hx hb dX8_serveOne_103 rfl (lv_at hl 1 rfl) ?_
    refine zm_get 11 (.int (nI k)) hx hb hts (fun x h => List.mem_cons_of_mem _ (hU_X8 x h)) hown hE hP (by decide) rfl (hts _ (List.mem_cons_of_mem _ uM_48)) (fun _ h9 => h9) dX8_serveOne_104 ?_
    refine lv_iconst (v := 4) hx hb dX8_serveOne_107 (by decide +kernel) ?_
    refine zc_se (va_runV (As := [.int (nI k), .int 4]) (rest := [.int (mMinute w_1 k)]) ⟨hx, hb, hml, hown, hts⟩ (c_X8_its l V g w_1 pa be av sl sv pd cd st le ap (nI k) ((mLook w n).1) k 4 (by omega)) (cwV 2 hts (zgV_ wsM_all uM_16 uM_18 uM_19 uM_20 uM_21) rfl rfl rfl (by decide +kernel) ⟨Nat.le_of_ble_eq_true rfl, Nat.le_of_ble_eq_true rfl⟩) (zPreV (B := fun H => va_P V.1 vwCl (zmW V g w_1 pa be av sl sv pd cd st le ap (nI k) ((mLook w n).1)) H) hP hE (va_recv hE.1 hP (ci := 8) (q0 := 0) (q := (RX8, TX8, 13)) rfl (zm_c0 V g w_1 pa be av sl sv pd cd st le ap (nI k) ((mLook w n).1)))) rfl rfl hl.1 rfl (lv_room (Nat.le_of_ble_eq_true rfl)) dX8_serveOne_108 ⟨Nat.le_of_ble_eq_true rfl, Nat.le_of_ble_eq_true rfl⟩) ?_
    refine lv_isub hx hb dX8_serveOne_111 ?_
    refine lv_istore_n (lv' := [(3, .int ((mMinute w_1 k) - (zF w_1 k 4))), (2, .int (mMinute w_1 k)), (0, .ref (g 0)), (1, .int (zF w k 1))]) hx hb dX8_serveOne_112 rfl hl (by decide) rfl (fun ls hl => ?_)
    refine lv_aload_n hx hb dX8_serveOne_113 rfl (lv_at hl 2 rfl) ?_
    refine zm_get 0 (.ref (g 1)) hx hb hts (fun x h => List.mem_cons_of_mem _ (hU_X8 x h)) hown hE hP (by decide) rfl (hts _ (List.mem_cons_of_mem _ uM_5)) (fun _ h9 => h9) dX8_serveOne_114 ?_
    refine lv_bipush (v := 12) hx hb dX8_serveOne_117 (by decide +kernel) ?_
    refine lv_dup2_11 hx hb dX8_serveOne_119 rfl rfl ?_
    refine z_iald (k := 12) hx hb hE hP 1 (zm_c1 V g w_1 pa be av sl sv pd cd st le ap (nI k) ((mLook w n).1)) (by omega) (by decide) dX8_serveOne_120 ?_
    refine lv_aload_n hx hb dX8_serveOne_121 rfl (lv_at hl 2 rfl) ?_
    refine lv_aload_n hx hb dX8_serveOne_122 rfl (lv_at hl 2 rfl) ?_
    refine zm_get 11 (.int (nI k)) hx hb hts (fun x h => List.mem_cons_of_mem _ (hU_X8 x h)) hown hE hP (by decide) rfl (hts _ (List.mem_cons_of_mem _ uM_48)) (fun _ h9 => h9) dX8_serveOne_123 ?_
    refine lv_iconst (v := 2) hx hb dX8_serveOne_126 (by decide +kernel) ?_
    refine zc_se (va_runV (As := [.int (nI k), .int 2]) (rest := [.int (w_1 12), .int 12, .ref (g 1)]) ⟨hx, hb, hml, hown, hts⟩ (c_X8_its l V g w_1 pa be av sl sv pd cd st le ap (nI k) ((mLook w n).1) k 2 (by omega)) (cwV 2 hts (zgV_ wsM_all uM_16 uM_18 uM_19 uM_20 uM_21) rfl rfl rfl (by decide +kernel) ⟨Nat.le_of_ble_eq_true rfl, Nat.le_of_ble_eq_true rfl⟩) (zPreV (B := fun H => va_P V.1 vwCl (zmW V g w_1 pa be av sl sv pd cd st le ap (nI k) ((mLook w n).1)) H) hP hE (va_recv hE.1 hP (ci := 8) (q0 := 0) (q := (RX8, TX8, 13)) rfl (zm_c0 V g w_1 pa be av sl sv pd cd st le ap (nI k) ((mLook w n).1)))) rfl rfl hl.1 rfl (lv_room (Nat.le_of_ble_eq_true rfl)) dX8_serveOne_127 ⟨Nat.le_of_ble_eq_true rfl, Nat.le_of_ble_eq_true rfl⟩) ?_
    refine lv_aload_n hx hb dX8_serveOne_130 rfl (lv_at hl 2 rfl) ?_
    refine zm_get 0 (.ref (g 1)) hx hb hts (fun x h => List.mem_cons_of_mem _ (hU_X8 x h)) hown hE hP (by decide) rfl (hts _ (List.mem_cons_of_mem _ uM_5)) (fun _ h9 => h9) dX8_serveOne_131 ?_
    refine lv_bipush (v := 9) hx hb dX8_serveOne_134 (by decide +kernel) ?_
    refine z_iald (k := 9) hx hb hE hP 1 (zm_c1 V g w_1 pa be av sl sv pd cd st le ap (nI k) ((mLook w n).1)) (by omega) (by decide) dX8_serveOne_136 ?_
    refine zc_se (va_runS (As := [.int (zF w_1 k 2), .int (w_1 9)]) (rest := [.int (w_1 12), .int 12, .ref (g 1)]) ⟨hx, hb, hml, hown, hts⟩ (c_X8_far l V (zF w_1 k 2) (w_1 9)) (va_cwS 2 hts (zgS_ wsM_all uM_15 uM_63 uM_64 uM_21) rfl rfl rfl (by decide +kernel) ⟨Nat.le_of_ble_eq_true rfl, Nat.le_of_ble_eq_true rfl⟩) (zPreS (B := fun _ => True) trivial hE) rfl rfl hl.1 rfl (lv_room (Nat.le_of_ble_eq_true rfl)) dX8_serveOne_137 ⟨Nat.le_of_ble_eq_true rfl, Nat.le_of_ble_eq_true rfl⟩) ?_
    refine lv_iadd hx hb dX8_serveOne_140 ?_
    refine zm_a1 12 ((w_1 12) + (mFar (zF w_1 k 2) (w_1 9))) hx hb hE hP hJ hS (by omega) dX8_serveOne_141 (fun H locs hP hS => ?_)
    obtain ⟨w_3, ew_3⟩ : ∃ z, z = upd w_1 12 ((w_1 12) + (mFar (zF w_1 k 2) (w_1 9))) := ⟨_, rfl⟩
    rw [← ew_3] at hP
    have hk_4 : w_3 7 = nI n := by rw [ew_3]; exact (if_neg (by omega)).trans hk_2
    refine lv_aload_n hx hb dX8_serveOne_142 rfl (lv_at hl 2 rfl) ?_
    refine zm_get 0 (.ref (g 1)) hx hb hts (fun x h => List.mem_cons_of_mem _ (hU_X8 x h)) hown hE hP (by decide) rfl (hts _ (List.mem_cons_of_mem _ uM_5)) (fun _ h9 => h9) dX8_serveOne_143 ?_
    have J_176 : ∀ (v_ : Int32) (H : Heap) (locs : List Loc) (ls : Array Slot), True → (v_ = if mLast w_3 k < 99 then mLast w_3 k + 1 else 99) → va_P V.1 vwCl (zmW V g w_3 pa be av sl sv pd cd st le ap (nI k) ((mLook w n).1)) H → va_S (zIn 9 g) s.heap H locs → lv_has ls 4 [(3, .int ((mMinute w_1 k) - (zF w_1 k 4))), (2, .int (mMinute w_1 k)), (0, .ref (g 0)), (1, .int (zF w k 1))] → W p l e (headSpec wsX8_serveOne (zR 4 0 0)).room s m (List.toArray [.ref (g 0)]) below meth c H locs 0 0 (MQ below (zQv (fun H => ∃ pl' : Int32, ∃ wy' : Int32, va_P V.1 vwCl (zmW V g (mServe w n) pa be av sl sv pd cd st le ap pl' wy') H) (zIn 9 g)) (List.toArray [.ref (g 0)]) s 0 0 (zIn 9 g)) (F0 m 176 ls [.int v_, .int 9, .ref (g 1)]) := by
      intro v_ H locs ls _ hv_ hP hS hl
      refine zm_a1 9 v_ hx hb hE hP hJ hS (by omega) dX8_serveOne_176 (fun H locs hP hS => ?_)
      obtain ⟨w_5, ew_5⟩ : ∃ z, z = upd w_3 9 v_ := ⟨_, rfl⟩
      rw [← ew_5] at hP
      have hk_6 : w_5 7 = nI n := by rw [ew_5]; exact (if_neg (by omega)).trans hk_4
      refine lv_aload_n hx hb dX8_serveOne_177 rfl (lv_at hl 2 rfl) ?_
      refine zm_get 0 (.ref (g 1)) hx hb hts (fun x h => List.mem_cons_of_mem _ (hU_X8 x h)) hown hE hP (by decide) rfl (hts _ (List.mem_cons_of_mem _ uM_5)) (fun _ h9 => h9) dX8_serveOne_178 ?_
      refine lv_bipush (v := 6) hx hb dX8_serveOne_181 (by decide +kernel) ?_
      refine lv_iload_n hx hb dX8_serveOne_183 rfl (lv_at hl 1 rfl) ?_
      refine zm_a1 6 (mMinute w_1 k) hx hb hE hP hJ hS (by omega) dX8_serveOne_184 (fun H locs hP hS => ?_)
      obtain ⟨w_7, ew_7⟩ : ∃ z, z = upd w_5 6 (mMinute w_1 k) := ⟨_, rfl⟩
      rw [← ew_7] at hP
      have hk_8 : w_7 7 = nI n := by rw [ew_7]; exact (if_neg (by omega)).trans hk_6
      refine lv_aload_n hx hb dX8_serveOne_185 rfl (lv_at hl 2 rfl) ?_
      refine zm_get 0 (.ref (g 1)) hx hb hts (fun x h => List.mem_cons_of_mem _ (hU_X8 x h)) hown hE hP (by decide) rfl (hts _ (List.mem_cons_of_mem _ uM_5)) (fun _ h9 => h9) dX8_serveOne_186 ?_
      refine lv_bipush (v := 10) hx hb dX8_serveOne_189 (by decide +kernel) ?_
      refine lv_dup2_11 hx hb dX8_serveOne_191 rfl rfl ?_
      refine z_iald (k := 10) hx hb hE hP 1 (zm_c1 V g w_7 pa be av sl sv pd cd st le ap (nI k) ((mLook w n).1)) (by omega) (by decide) dX8_serveOne_192 ?_
      refine lv_iconst (v := 1) hx hb dX8_serveOne_193 (by decide +kernel) ?_
      refine lv_iadd hx hb dX8_serveOne_194 ?_
      refine zm_a1 10 ((w_7 10) + 1) hx hb hE hP hJ hS (by omega) dX8_serveOne_195 (fun H locs hP hS => ?_)
      obtain ⟨w_9, ew_9⟩ : ∃ z, z = upd w_7 10 ((w_7 10) + 1) := ⟨_, rfl⟩
      rw [← ew_9] at hP
      have hk_10 : w_9 7 = nI n := by rw [ew_9]; exact (if_neg (by omega)).trans hk_8
      refine lv_aload_n hx hb dX8_serveOne_196 rfl (lv_at hl 2 rfl) ?_
      refine zm_get 0 (.ref (g 1)) hx hb hts (fun x h => List.mem_cons_of_mem _ (hU_X8 x h)) hown hE hP (by decide) rfl (hts _ (List.mem_cons_of_mem _ uM_5)) (fun _ h9 => h9) dX8_serveOne_197 ?_
      refine lv_bipush (v := 11) hx hb dX8_serveOne_200 (by decide +kernel) ?_
      have J_224 : ∀ (u_ : Int32) (H : Heap) (locs : List Loc) (ls : Array Slot), True → (u_ = if w_9 11 < (mMinute w_1 k) - (zF w_1 k 4) then (mMinute w_1 k) - (zF w_1 k 4) else w_9 11) → va_P V.1 vwCl (zmW V g w_9 pa be av sl sv pd cd st le ap (nI k) ((mLook w n).1)) H → va_S (zIn 9 g) s.heap H locs → lv_has ls 4 [(3, .int ((mMinute w_1 k) - (zF w_1 k 4))), (2, .int (mMinute w_1 k)), (0, .ref (g 0)), (1, .int (zF w k 1))] → W p l e (headSpec wsX8_serveOne (zR 4 0 0)).room s m (List.toArray [.ref (g 0)]) below meth c H locs 0 0 (MQ below (zQv (fun H => ∃ pl' : Int32, ∃ wy' : Int32, va_P V.1 vwCl (zmW V g (mServe w n) pa be av sl sv pd cd st le ap pl' wy') H) (zIn 9 g)) (List.toArray [.ref (g 0)]) s 0 0 (zIn 9 g)) (F0 m 224 ls [.int u_, .int 11, .ref (g 1)]) := by
        intro u_ H locs ls _ hu_ hP hS hl
        refine zm_a1 11 u_ hx hb hE hP hJ hS (by omega) dX8_serveOne_224 (fun H locs hP hS => ?_)
        obtain ⟨w_11, ew_11⟩ : ∃ z, z = upd w_9 11 u_ := ⟨_, rfl⟩
        rw [← ew_11] at hP
        have hk_12 : w_11 7 = nI n := by rw [ew_11]; exact (if_neg (by omega)).trans hk_10
        refine lv_aload_n hx hb dX8_serveOne_225 rfl (lv_at hl 2 rfl) ?_
        refine lv_aload_n hx hb dX8_serveOne_226 rfl (lv_at hl 2 rfl) ?_
        refine lv_aload_n hx hb dX8_serveOne_227 rfl (lv_at hl 2 rfl) ?_
        refine zm_get 11 (.int (nI k)) hx hb hts (fun x h => List.mem_cons_of_mem _ (hU_X8 x h)) hown hE hP (by decide) rfl (hts _ (List.mem_cons_of_mem _ uM_48)) (fun _ h9 => h9) dX8_serveOne_228 ?_
        refine lv_iconst (v := 0) hx hb dX8_serveOne_231 (by decide +kernel) ?_
        refine zc_se (va_runV (As := [.int (nI k), .int 0]) (rest := [.ref (g 0)]) ⟨hx, hb, hml, hown, hts⟩ (c_X8_its l V g w_11 pa be av sl sv pd cd st le ap (nI k) ((mLook w n).1) k 0 (by omega)) (cwV 2 hts (zgV_ wsM_all uM_16 uM_18 uM_19 uM_20 uM_21) rfl rfl rfl (by decide +kernel) ⟨Nat.le_of_ble_eq_true rfl, Nat.le_of_ble_eq_true rfl⟩) (zPreV (B := fun H => va_P V.1 vwCl (zmW V g w_11 pa be av sl sv pd cd st le ap (nI k) ((mLook w n).1)) H) hP hE (va_recv hE.1 hP (ci := 8) (q0 := 0) (q := (RX8, TX8, 13)) rfl (zm_c0 V g w_11 pa be av sl sv pd cd st le ap (nI k) ((mLook w n).1)))) rfl rfl hl.1 rfl (lv_room (Nat.le_of_ble_eq_true rfl)) dX8_serveOne_232 ⟨Nat.le_of_ble_eq_true rfl, Nat.le_of_ble_eq_true rfl⟩) ?_
        refine lv_iload_n hx hb dX8_serveOne_235 rfl (lv_at hl 0 rfl) ?_
        refine lv_iload_n hx hb dX8_serveOne_236 rfl (lv_at hl 3 rfl) ?_
        refine zc_v (va_runV (As := [.int (zF w_11 k 0), .int ((mMinute w_1 k) - (zF w_1 k 4)), .int (zF w k 1)]) (rest := []) ⟨hx, hb, hml, hown, hts⟩ (c_X8_note l V g w_11 pa be av sl sv pd cd st le ap (nI k) ((mLook w n).1)  (zF w_11 k 0) ((mMinute w_1 k) - (zF w_1 k 4)) (zF w k 1) hJ) (cwV 3 hts (zgV_ wsM_all uM_66 uM_77 uM_78 uM_79 uM_21) rfl rfl rfl (by decide +kernel) ⟨Nat.le_of_ble_eq_true rfl, Nat.le_of_ble_eq_true rfl⟩) (zPreV (B := fun H => va_P V.1 vwCl (zmW V g w_11 pa be av sl sv pd cd st le ap (nI k) ((mLook w n).1)) H) hP hE (va_recv hE.1 hP (ci := 8) (q0 := 0) (q := (RX8, TX8, 13)) rfl (zm_c0 V g w_11 pa be av sl sv pd cd st le ap (nI k) ((mLook w n).1)))) rfl rfl hl.1 rfl (lv_room (Nat.le_of_ble_eq_true rfl)) dX8_serveOne_237 ⟨Nat.le_of_ble_eq_true rfl, Nat.le_of_ble_eq_true rfl⟩) hS (fun _ h => h) (fun _ h => h) (fun H locs hQ_ _ _ hS => ?_)
        have hP := hQ_
        obtain ⟨z_, ez_⟩ : ∃ z, z = mNote w_11 (zF w_11 k 0) ((mMinute w_1 k) - (zF w_1 k 4)) (zF w k 1) := ⟨_, rfl⟩
        rw [← ez_] at hP
        have hz7 : z_ 7 = nI n := by rw [ez_]; exact (mNote_7 _ _ _ _).trans hk_12
        refine lv_aload_n hx hb dX8_serveOne_240 rfl (lv_at hl 2 rfl) ?_
        refine lv_aload_n hx hb dX8_serveOne_241 rfl (lv_at hl 2 rfl) ?_
        refine zm_get 11 (.int (nI k)) hx hb hts (fun x h => List.mem_cons_of_mem _ (hU_X8 x h)) hown hE hP (by decide) rfl (hts _ (List.mem_cons_of_mem _ uM_48)) (fun _ h9 => h9) dX8_serveOne_242 ?_
        refine zc_v (va_runV (As := [.int (nI k)]) (rest := []) ⟨hx, hb, hml, hown, hts⟩ (c_X8_drop l V g z_ pa be av sl sv pd cd st le ap (nI k) ((mLook w n).1)  n k hJ hz7 h30 (by omega)) (cwV 1 hts (zgV_ wsM_all uM_65 uM_80 uM_81 uM_82 uM_21) rfl rfl rfl (by decide +kernel) ⟨Nat.le_of_ble_eq_true rfl, Nat.le_of_ble_eq_true rfl⟩) (zPreV (B := fun H => va_P V.1 vwCl (zmW V g z_ pa be av sl sv pd cd st le ap (nI k) ((mLook w n).1)) H) hP hE (va_recv hE.1 hP (ci := 8) (q0 := 0) (q := (RX8, TX8, 13)) rfl (zm_c0 V g z_ pa be av sl sv pd cd st le ap (nI k) ((mLook w n).1)))) rfl rfl hl.1 rfl (lv_room (Nat.le_of_ble_eq_true rfl)) dX8_serveOne_245 ⟨Nat.le_of_ble_eq_true rfl, Nat.le_of_ble_eq_true rfl⟩) hS (fun _ h => h) (fun _ h => h) (fun H locs hQ_ _ _ hS => ?_)
        have hP := hQ_
        exact zr_v hx hb hr hlocks hS (by rw [show mServe w n = mDrop z_ n k from (by unfold mServe mEnd; simp only [hlk, Option.getD_some]; rw [ez_, ew_11, hu_, ew_9, ew_7, ew_5, hv_, ew_3, ew_1, ef_])]; exact ⟨_, _, hP⟩) dX8_serveOne_248
      refine lv_iload_n hx hb dX8_serveOne_202 rfl (lv_at hl 0 rfl) ?_
      refine lv_aload_n hx hb dX8_serveOne_203 rfl (lv_at hl 2 rfl) ?_
      refine zm_get 0 (.ref (g 1)) hx hb hts (fun x h => List.mem_cons_of_mem _ (hU_X8 x h)) hown hE hP (by decide) rfl (hts _ (List.mem_cons_of_mem _ uM_5)) (fun _ h9 => h9) dX8_serveOne_204 ?_
      refine lv_bipush (v := 11) hx hb dX8_serveOne_207 (by decide +kernel) ?_
      refine z_iald (k := 11) hx hb hE hP 1 (zm_c1 V g w_9 pa be av sl sv pd cd st le ap (nI k) ((mLook w n).1)) (by omega) (by decide) dX8_serveOne_209 ?_
      refine lv_icmp_le (tgt := 217) hx hb dX8_serveOne_210 (by decide) (fun c_210 => ?_) (fun c_210 => ?_)
      · refine lv_aload_n hx hb dX8_serveOne_217 rfl (lv_at hl 2 rfl) ?_
        refine zm_get 0 (.ref (g 1)) hx hb hts (fun x h => List.mem_cons_of_mem _ (hU_X8 x h)) hown hE hP (by decide) rfl (hts _ (List.mem_cons_of_mem _ uM_5)) (fun _ h9 => h9) dX8_serveOne_218 ?_
        refine lv_bipush (v := 11) hx hb dX8_serveOne_221 (by decide +kernel) ?_
        refine z_iald (k := 11) hx hb hE hP 1 (zm_c1 V g w_9 pa be av sl sv pd cd st le ap (nI k) ((mLook w n).1)) (by omega) (by decide) dX8_serveOne_223 ?_
        exact J_224 _ H locs ls trivial (by first | rw [if_neg (z_le' c_210)] | rw [if_pos (z_nle c_210)]) hP hS (lv_sub hl [0, 1, 2, 3] rfl)
      · refine lv_iload_n hx hb dX8_serveOne_213 rfl (lv_at hl 0 rfl) ?_
        refine lv_goto (tgt := 224) hx hb dX8_serveOne_214 (by decide) ?_
        exact J_224 _ H locs ls trivial (by first | rw [if_neg (z_le' c_210)] | rw [if_pos (z_nle c_210)]) hP hS (lv_sub hl [0, 1, 2, 3] rfl)
    refine lv_bipush (v := 9) hx hb dX8_serveOne_146 (by decide +kernel) ?_
    refine lv_aload_n hx hb dX8_serveOne_148 rfl (lv_at hl 2 rfl) ?_
    refine lv_aload_n hx hb dX8_serveOne_149 rfl (lv_at hl 2 rfl) ?_
    refine zm_get 11 (.int (nI k)) hx hb hts (fun x h => List.mem_cons_of_mem _ (hU_X8 x h)) hown hE hP (by decide) rfl (hts _ (List.mem_cons_of_mem _ uM_48)) (fun _ h9 => h9) dX8_serveOne_150 ?_
    refine zc_se (va_runV (As := [.int (nI k)]) (rest := [.int 9, .ref (g 1)]) ⟨hx, hb, hml, hown, hts⟩ (c_X8_lastOf l V g w_3 pa be av sl sv pd cd st le ap (nI k) ((mLook w n).1) k (by omega)) (cwV 1 hts (zgV_ wsM_all uM_17 uM_74 uM_75 uM_76 uM_21) rfl rfl rfl (by decide +kernel) ⟨Nat.le_of_ble_eq_true rfl, Nat.le_of_ble_eq_true rfl⟩) (zPreV (B := fun H => va_P V.1 vwCl (zmW V g w_3 pa be av sl sv pd cd st le ap (nI k) ((mLook w n).1)) H) hP hE (va_recv hE.1 hP (ci := 8) (q0 := 0) (q := (RX8, TX8, 13)) rfl (zm_c0 V g w_3 pa be av sl sv pd cd st le ap (nI k) ((mLook w n).1)))) rfl rfl hl.1 rfl (lv_room (Nat.le_of_ble_eq_true rfl)) dX8_serveOne_153 ⟨Nat.le_of_ble_eq_true rfl, Nat.le_of_ble_eq_true rfl⟩) ?_
    refine lv_bipush (v := 99) hx hb dX8_serveOne_156 (by decide +kernel) ?_
    refine lv_icmp_ge (tgt := 174) hx hb dX8_serveOne_158 (by decide) (fun c_158 => ?_) (fun c_158 => ?_)
    · refine lv_bipush (v := 99) hx hb dX8_serveOne_174 (by decide +kernel) ?_
      exact J_176 _ H locs ls trivial (by first | rw [if_neg (z_le' c_158)] | rw [if_pos (z_nle c_158)]) hP hS (lv_sub hl [0, 1, 2, 3] rfl)
    · refine lv_aload_n hx hb dX8_serveOne_161 rfl (lv_at hl 2 rfl) ?_
      refine lv_aload_n hx hb dX8_serveOne_162 rfl (lv_at hl 2 rfl) ?_
      refine zm_get 11 (.int (nI k)) hx hb hts (fun x h => List.mem_cons_of_mem _ (hU_X8 x h)) hown hE hP (by decide) rfl (hts _ (List.mem_cons_of_mem _ uM_48)) (fun _ h9 => h9) dX8_serveOne_163 ?_
      refine zc_se (va_runV (As := [.int (nI k)]) (rest := [.int 9, .ref (g 1)]) ⟨hx, hb, hml, hown, hts⟩ (c_X8_lastOf l V g w_3 pa be av sl sv pd cd st le ap (nI k) ((mLook w n).1) k (by omega)) (cwV 1 hts (zgV_ wsM_all uM_17 uM_74 uM_75 uM_76 uM_21) rfl rfl rfl (by decide +kernel) ⟨Nat.le_of_ble_eq_true rfl, Nat.le_of_ble_eq_true rfl⟩) (zPreV (B := fun H => va_P V.1 vwCl (zmW V g w_3 pa be av sl sv pd cd st le ap (nI k) ((mLook w n).1)) H) hP hE (va_recv hE.1 hP (ci := 8) (q0 := 0) (q := (RX8, TX8, 13)) rfl (zm_c0 V g w_3 pa be av sl sv pd cd st le ap (nI k) ((mLook w n).1)))) rfl rfl hl.1 rfl (lv_room (Nat.le_of_ble_eq_true rfl)) dX8_serveOne_166 ⟨Nat.le_of_ble_eq_true rfl, Nat.le_of_ble_eq_true rfl⟩) ?_
      refine lv_iconst (v := 1) hx hb dX8_serveOne_169 (by decide +kernel) ?_
      refine lv_iadd hx hb dX8_serveOne_170 ?_
      refine lv_goto (tgt := 176) hx hb dX8_serveOne_171 (by decide) ?_
      exact J_176 _ H locs ls trivial (by first | rw [if_neg (z_le' c_158)] | rw [if_pos (z_nle c_158)]) hP hS (lv_sub hl [0, 1, 2, 3] rfl)
  refine lv_if_le (tgt := 85) hx hb dX8_serveOne_18 (by decide) (fun c_18 => ?_) (fun c_18 => ?_)
  · exact J_85 w H locs ls trivial hn (by rw [mBegin, if_pos c_18]) hP hS (lv_sub hl [1, 0] rfl)
  · refine lv_aload_n hx hb dX8_serveOne_21 rfl (lv_at hl 1 rfl) ?_
    refine zm_get 0 (.ref (g 1)) hx hb hts (fun x h => List.mem_cons_of_mem _ (hU_X8 x h)) hown hE hP (by decide) rfl (hts _ (List.mem_cons_of_mem _ uM_5)) (fun _ h9 => h9) dX8_serveOne_22 ?_
    refine lv_bipush (v := 15) hx hb dX8_serveOne_25 (by decide +kernel) ?_
    refine lv_iload_n hx hb dX8_serveOne_27 rfl (lv_at hl 0 rfl) ?_
    refine lv_iconst (v := 1) hx hb dX8_serveOne_28 (by decide +kernel) ?_
    refine lv_icmp_ne (tgt := 36) hx hb dX8_serveOne_29 (by decide) (fun c_29 => ?_) (fun c_29 => ?_)
    · refine lv_aload_n hx hb dX8_serveOne_36 rfl (lv_at hl 1 rfl) ?_
      refine zm_get 0 (.ref (g 1)) hx hb hts (fun x h => List.mem_cons_of_mem _ (hU_X8 x h)) hown hE hP (by decide) rfl (hts _ (List.mem_cons_of_mem _ uM_5)) (fun _ h9 => h9) dX8_serveOne_37 ?_
      refine lv_bipush (v := 15) hx hb dX8_serveOne_40 (by decide +kernel) ?_
      refine z_iald (k := 15) hx hb hE hP 1 (zm_c1 V g w pa be av sl sv pd cd st le ap (nI k) ((mLook w n).1)) (by omega) (by decide) dX8_serveOne_42 ?_
      refine lv_aload_n hx hb dX8_serveOne_43 rfl (lv_at hl 1 rfl) ?_
      refine lv_iconst (v := 1) hx hb dX8_serveOne_44 (by decide +kernel) ?_
      refine zc_se (va_runV (As := [.int 1]) (rest := [.int (w 15), .int 15, .ref (g 1)]) ⟨hx, hb, hml, hown, hts⟩ (c_X8_many l V g w pa be av sl sv pd cd st le ap (nI k) ((mLook w n).1) n 1 hn h30) (cwV 1 hts (zgV_ wsM_all uM_23 uM_44 uM_45 uM_46 uM_21) rfl rfl rfl (by decide +kernel) ⟨Nat.le_of_ble_eq_true rfl, Nat.le_of_ble_eq_true rfl⟩) (zPreV (B := fun H => va_P V.1 vwCl (zmW V g w pa be av sl sv pd cd st le ap (nI k) ((mLook w n).1)) H) hP hE (va_recv hE.1 hP (ci := 8) (q0 := 0) (q := (RX8, TX8, 13)) rfl (zm_c0 V g w pa be av sl sv pd cd st le ap (nI k) ((mLook w n).1)))) rfl rfl hl.1 rfl (lv_room (Nat.le_of_ble_eq_true rfl)) dX8_serveOne_45 ⟨Nat.le_of_ble_eq_true rfl, Nat.le_of_ble_eq_true rfl⟩) ?_
      refine zb0_le (x := mMany w n 1) (tgt := 55) hx hb dX8_serveOne_48 (by decide) (by omega) (fun c_48 => ?_) (fun c_48 => ?_)
      · refine lv_iconst (v := 0) hx hb dX8_serveOne_55 (by decide +kernel) ?_
        refine lv_iadd hx hb dX8_serveOne_56 ?_
        refine zm_a1 15 ((w 15) + 0) hx hb hE hP hJ hS (by omega) dX8_serveOne_57 (fun H locs hP hS => ?_)
        obtain ⟨w_13, ew_13⟩ : ∃ z, z = upd w 15 ((w 15) + 0) := ⟨_, rfl⟩
        rw [← ew_13] at hP
        have hk_14 : w_13 7 = nI n := by rw [ew_13]; exact (if_neg (by omega)).trans hn
        refine lv_aload_n hx hb dX8_serveOne_58 rfl (lv_at hl 1 rfl) ?_
        refine zm_get 0 (.ref (g 1)) hx hb hts (fun x h => List.mem_cons_of_mem _ (hU_X8 x h)) hown hE hP (by decide) rfl (hts _ (List.mem_cons_of_mem _ uM_5)) (fun _ h9 => h9) dX8_serveOne_59 ?_
        refine lv_bipush (v := 13) hx hb dX8_serveOne_62 (by decide +kernel) ?_
        refine lv_dup2_11 hx hb dX8_serveOne_64 rfl rfl ?_
        refine z_iald (k := 13) hx hb hE hP 1 (zm_c1 V g w_13 pa be av sl sv pd cd st le ap (nI k) ((mLook w n).1)) (by omega) (by decide) dX8_serveOne_65 ?_
        refine lv_iconst (v := 1) hx hb dX8_serveOne_66 (by decide +kernel) ?_
        refine lv_iadd hx hb dX8_serveOne_67 ?_
        refine zm_a1 13 ((w_13 13) + 1) hx hb hE hP hJ hS (by omega) dX8_serveOne_68 (fun H locs hP hS => ?_)
        obtain ⟨w_15, ew_15⟩ : ∃ z, z = upd w_13 13 ((w_13 13) + 1) := ⟨_, rfl⟩
        rw [← ew_15] at hP
        have hk_16 : w_15 7 = nI n := by rw [ew_15]; exact (if_neg (by omega)).trans hk_14
        refine lv_aload_n hx hb dX8_serveOne_69 rfl (lv_at hl 1 rfl) ?_
        refine zm_get 0 (.ref (g 1)) hx hb hts (fun x h => List.mem_cons_of_mem _ (hU_X8 x h)) hown hE hP (by decide) rfl (hts _ (List.mem_cons_of_mem _ uM_5)) (fun _ h9 => h9) dX8_serveOne_70 ?_
        refine lv_bipush (v := 14) hx hb dX8_serveOne_73 (by decide +kernel) ?_
        refine lv_iconst (v := 0) hx hb dX8_serveOne_75 (by decide +kernel) ?_
        refine zm_a1 14 0 hx hb hE hP hJ hS (by omega) dX8_serveOne_76 (fun H locs hP hS => ?_)
        obtain ⟨w_17, ew_17⟩ : ∃ z, z = upd w_15 14 0 := ⟨_, rfl⟩
        rw [← ew_17] at hP
        have hk_18 : w_17 7 = nI n := by rw [ew_17]; exact (if_neg (by omega)).trans hk_16
        refine lv_aload_n hx hb dX8_serveOne_77 rfl (lv_at hl 1 rfl) ?_
        refine zm_get 0 (.ref (g 1)) hx hb hts (fun x h => List.mem_cons_of_mem _ (hU_X8 x h)) hown hE hP (by decide) rfl (hts _ (List.mem_cons_of_mem _ uM_5)) (fun _ h9 => h9) dX8_serveOne_78 ?_
        refine lv_bipush (v := 16) hx hb dX8_serveOne_81 (by decide +kernel) ?_
        refine lv_iload_n hx hb dX8_serveOne_83 rfl (lv_at hl 0 rfl) ?_
        refine zm_a1 16 (zF w k 1) hx hb hE hP hJ hS (by omega) dX8_serveOne_84 (fun H locs hP hS => ?_)
        obtain ⟨w_19, ew_19⟩ : ∃ z, z = upd w_17 16 (zF w k 1) := ⟨_, rfl⟩
        rw [← ew_19] at hP
        have hk_20 : w_19 7 = nI n := by rw [ew_19]; exact (if_neg (by omega)).trans hk_18
        exact J_85 w_19 H locs ls trivial hk_20 (by rw [mBegin, if_neg c_18, ew_19, ew_17, ew_15, ew_13]; first | rw [if_pos c_29] | rw [if_neg c_29, if_pos c_48] | rw [if_neg c_29, if_neg (show ¬ 0 < mMany w n 1 by omega)]) hP hS (lv_sub hl [1, 0] rfl)
      · refine lv_iconst (v := 1) hx hb dX8_serveOne_51 (by decide +kernel) ?_
        refine lv_goto (tgt := 56) hx hb dX8_serveOne_52 (by decide) ?_
        refine lv_iadd hx hb dX8_serveOne_56 ?_
        refine zm_a1 15 ((w 15) + 1) hx hb hE hP hJ hS (by omega) dX8_serveOne_57 (fun H locs hP hS => ?_)
        obtain ⟨w_21, ew_21⟩ : ∃ z, z = upd w 15 ((w 15) + 1) := ⟨_, rfl⟩
        rw [← ew_21] at hP
        have hk_22 : w_21 7 = nI n := by rw [ew_21]; exact (if_neg (by omega)).trans hn
        refine lv_aload_n hx hb dX8_serveOne_58 rfl (lv_at hl 1 rfl) ?_
        refine zm_get 0 (.ref (g 1)) hx hb hts (fun x h => List.mem_cons_of_mem _ (hU_X8 x h)) hown hE hP (by decide) rfl (hts _ (List.mem_cons_of_mem _ uM_5)) (fun _ h9 => h9) dX8_serveOne_59 ?_
        refine lv_bipush (v := 13) hx hb dX8_serveOne_62 (by decide +kernel) ?_
        refine lv_dup2_11 hx hb dX8_serveOne_64 rfl rfl ?_
        refine z_iald (k := 13) hx hb hE hP 1 (zm_c1 V g w_21 pa be av sl sv pd cd st le ap (nI k) ((mLook w n).1)) (by omega) (by decide) dX8_serveOne_65 ?_
        refine lv_iconst (v := 1) hx hb dX8_serveOne_66 (by decide +kernel) ?_
        refine lv_iadd hx hb dX8_serveOne_67 ?_
        refine zm_a1 13 ((w_21 13) + 1) hx hb hE hP hJ hS (by omega) dX8_serveOne_68 (fun H locs hP hS => ?_)
        obtain ⟨w_23, ew_23⟩ : ∃ z, z = upd w_21 13 ((w_21 13) + 1) := ⟨_, rfl⟩
        rw [← ew_23] at hP
        have hk_24 : w_23 7 = nI n := by rw [ew_23]; exact (if_neg (by omega)).trans hk_22
        refine lv_aload_n hx hb dX8_serveOne_69 rfl (lv_at hl 1 rfl) ?_
        refine zm_get 0 (.ref (g 1)) hx hb hts (fun x h => List.mem_cons_of_mem _ (hU_X8 x h)) hown hE hP (by decide) rfl (hts _ (List.mem_cons_of_mem _ uM_5)) (fun _ h9 => h9) dX8_serveOne_70 ?_
        refine lv_bipush (v := 14) hx hb dX8_serveOne_73 (by decide +kernel) ?_
        refine lv_iconst (v := 0) hx hb dX8_serveOne_75 (by decide +kernel) ?_
        refine zm_a1 14 0 hx hb hE hP hJ hS (by omega) dX8_serveOne_76 (fun H locs hP hS => ?_)
        obtain ⟨w_25, ew_25⟩ : ∃ z, z = upd w_23 14 0 := ⟨_, rfl⟩
        rw [← ew_25] at hP
        have hk_26 : w_25 7 = nI n := by rw [ew_25]; exact (if_neg (by omega)).trans hk_24
        refine lv_aload_n hx hb dX8_serveOne_77 rfl (lv_at hl 1 rfl) ?_
        refine zm_get 0 (.ref (g 1)) hx hb hts (fun x h => List.mem_cons_of_mem _ (hU_X8 x h)) hown hE hP (by decide) rfl (hts _ (List.mem_cons_of_mem _ uM_5)) (fun _ h9 => h9) dX8_serveOne_78 ?_
        refine lv_bipush (v := 16) hx hb dX8_serveOne_81 (by decide +kernel) ?_
        refine lv_iload_n hx hb dX8_serveOne_83 rfl (lv_at hl 0 rfl) ?_
        refine zm_a1 16 (zF w k 1) hx hb hE hP hJ hS (by omega) dX8_serveOne_84 (fun H locs hP hS => ?_)
        obtain ⟨w_27, ew_27⟩ : ∃ z, z = upd w_25 16 (zF w k 1) := ⟨_, rfl⟩
        rw [← ew_27] at hP
        have hk_28 : w_27 7 = nI n := by rw [ew_27]; exact (if_neg (by omega)).trans hk_26
        exact J_85 w_27 H locs ls trivial hk_28 (by rw [mBegin, if_neg c_18, ew_27, ew_25, ew_23, ew_21]; first | rw [if_pos c_29] | rw [if_neg c_29, if_pos c_48] | rw [if_neg c_29, if_neg (show ¬ 0 < mMany w n 1 by omega)]) hP hS (lv_sub hl [1, 0] rfl)
    · refine lv_iconst (v := 0) hx hb dX8_serveOne_32 (by decide +kernel) ?_
      refine lv_goto (tgt := 57) hx hb dX8_serveOne_33 (by decide) ?_
      refine zm_a1 15 0 hx hb hE hP hJ hS (by omega) dX8_serveOne_57 (fun H locs hP hS => ?_)
      obtain ⟨w_29, ew_29⟩ : ∃ z, z = upd w 15 0 := ⟨_, rfl⟩
      rw [← ew_29] at hP
      have hk_30 : w_29 7 = nI n := by rw [ew_29]; exact (if_neg (by omega)).trans hn
      refine lv_aload_n hx hb dX8_serveOne_58 rfl (lv_at hl 1 rfl) ?_
      refine zm_get 0 (.ref (g 1)) hx hb hts (fun x h => List.mem_cons_of_mem _ (hU_X8 x h)) hown hE hP (by decide) rfl (hts _ (List.mem_cons_of_mem _ uM_5)) (fun _ h9 => h9) dX8_serveOne_59 ?_
      refine lv_bipush (v := 13) hx hb dX8_serveOne_62 (by decide +kernel) ?_
      refine lv_dup2_11 hx hb dX8_serveOne_64 rfl rfl ?_
      refine z_iald (k := 13) hx hb hE hP 1 (zm_c1 V g w_29 pa be av sl sv pd cd st le ap (nI k) ((mLook w n).1)) (by omega) (by decide) dX8_serveOne_65 ?_
      refine lv_iconst (v := 1) hx hb dX8_serveOne_66 (by decide +kernel) ?_
      refine lv_iadd hx hb dX8_serveOne_67 ?_
      refine zm_a1 13 ((w_29 13) + 1) hx hb hE hP hJ hS (by omega) dX8_serveOne_68 (fun H locs hP hS => ?_)
      obtain ⟨w_31, ew_31⟩ : ∃ z, z = upd w_29 13 ((w_29 13) + 1) := ⟨_, rfl⟩
      rw [← ew_31] at hP
      have hk_32 : w_31 7 = nI n := by rw [ew_31]; exact (if_neg (by omega)).trans hk_30
      refine lv_aload_n hx hb dX8_serveOne_69 rfl (lv_at hl 1 rfl) ?_
      refine zm_get 0 (.ref (g 1)) hx hb hts (fun x h => List.mem_cons_of_mem _ (hU_X8 x h)) hown hE hP (by decide) rfl (hts _ (List.mem_cons_of_mem _ uM_5)) (fun _ h9 => h9) dX8_serveOne_70 ?_
      refine lv_bipush (v := 14) hx hb dX8_serveOne_73 (by decide +kernel) ?_
      refine lv_iconst (v := 0) hx hb dX8_serveOne_75 (by decide +kernel) ?_
      refine zm_a1 14 0 hx hb hE hP hJ hS (by omega) dX8_serveOne_76 (fun H locs hP hS => ?_)
      obtain ⟨w_33, ew_33⟩ : ∃ z, z = upd w_31 14 0 := ⟨_, rfl⟩
      rw [← ew_33] at hP
      have hk_34 : w_33 7 = nI n := by rw [ew_33]; exact (if_neg (by omega)).trans hk_32
      refine lv_aload_n hx hb dX8_serveOne_77 rfl (lv_at hl 1 rfl) ?_
      refine zm_get 0 (.ref (g 1)) hx hb hts (fun x h => List.mem_cons_of_mem _ (hU_X8 x h)) hown hE hP (by decide) rfl (hts _ (List.mem_cons_of_mem _ uM_5)) (fun _ h9 => h9) dX8_serveOne_78 ?_
      refine lv_bipush (v := 16) hx hb dX8_serveOne_81 (by decide +kernel) ?_
      refine lv_iload_n hx hb dX8_serveOne_83 rfl (lv_at hl 0 rfl) ?_
      refine zm_a1 16 (zF w k 1) hx hb hE hP hJ hS (by omega) dX8_serveOne_84 (fun H locs hP hS => ?_)
      obtain ⟨w_35, ew_35⟩ : ∃ z, z = upd w_33 16 (zF w k 1) := ⟨_, rfl⟩
      rw [← ew_35] at hP
      have hk_36 : w_35 7 = nI n := by rw [ew_35]; exact (if_neg (by omega)).trans hk_34
      exact J_85 w_35 H locs ls trivial hk_36 (by rw [mBegin, if_neg c_18, ew_35, ew_33, ew_31, ew_29]; first | rw [if_pos c_29] | rw [if_neg c_29, if_pos c_48] | rw [if_neg c_29, if_neg (show ¬ 0 < mMany w n 1 by omega)]) hP hS (lv_sub hl [1, 0] rfl)
def mComes (w : Nat → Int32) (n : Nat) (wr d m : Int32) : Int32 × (Nat → Int32) :=
  if mSlip wr d m then (match mPart w n wr d m with
    | some k =>
      let w1 := upd w (78 + 6 * k + 3) (w (78 + 6 * k + 3) + m)
      let w2 := upd w1 (78 + 6 * k + 5) (w1 (78 + 6 * k + 5) + 1)
      (zF w2 k 0, w2)
    | none => if n = 30 then (-4, w) else
      let w1 := upd w (78 + 6 * n) (w 8)
      let w2 := upd w1 (78 + 6 * n + 1) wr
      let w3 := upd w2 (78 + 6 * n + 2) d
      let w4 := upd w3 (78 + 6 * n + 3) m
      let w5 := upd w4 (78 + 6 * n + 4) (w4 6)
      let w6 := upd w5 (78 + 6 * n + 5) 0
      let w7 := upd w6 7 (nI (n + 1))
      let w8 := upd w7 8 (w7 8 + 1)
      (w8 8 - 1, w8)) else (-2, w)
set_option maxHeartbeats 4000000 in
set_option maxRecDepth 100000 in
theorem c_X8_comes (l : Launch) (V : zV) (g : Nat → Nat) (w pa be av sl sv pd cd : Nat → Int32) (st le ap pl wy : Int32) (n : Nat) (wr d mm : Int32) (hJ : zInj 9 g) (hn : w 7 = nI n) (h30 : n ≤ 30) : Met l yX8_comes wsX8_comes (zR 3 0 0) (zPc V [.ref (g 0), .int wr, .int d, .int mm] (fun H => va_P V.1 vwCl (zmW V g w pa be av sl sv pd cd st le ap pl wy) H)) (zQi (fun r H => r = ((mComes w n wr d mm).1) ∧ va_P V.1 vwCl (zmW V g ((mComes w n wr d mm).2) pa be av sl sv pd cd st le ap pl wy) H) (zIn 9 g)) 0 0 (zIn 9 g) := by
  refine Met.ofW (cc := cX8_comes) (maxL := 6) (ret := (some .int)) (by decide) rfl ?_
  intro p e s m args below meth c s₁ B hml hv
  obtain ⟨rfl, hP, hE⟩ := hv
  have hx := B.exec
  have hb := B.bytes
  have hr := B.returns
  have hts := atoms_spec (ws := wsX8_comes) B.pre
  have hown : s.vm.findClass RX8 = some m.cls := findClass_of_methodNamed B.named
  have hlocks := B.notSynchronized
  have hl := lv_entry ([.ref (g 0), .int wr, .int d, .int mm]) (n := 6) (Nat.le_of_ble_eq_true rfl)
  rw [lg_entry_eq]
  generalize (lg_sl ([.ref (g 0), .int wr, .int d, .int mm]) ++ List.replicate (6 - (lg_sl ([.ref (g 0), .int wr, .int d, .int mm])).length) Slot.unset).toArray = ls at hl ⊢
  have hl : lv_has ls 6 [(0, .ref (g 0)), (1, .int wr), (2, .int d), (3, .int mm)] := hl
  have hS : va_S (zIn 9 g) s.heap s.heap [] := va_S.rf
  refine lv_iload_n hx hb dX8_comes_0 rfl (lv_at hl 1 rfl) ?_
  refine lv_iload_n hx hb dX8_comes_1 rfl (lv_at hl 2 rfl) ?_
  refine lv_iload_n hx hb dX8_comes_2 rfl (lv_at hl 3 rfl) ?_
  refine zc_se (va_runS (As := [.int wr, .int d, .int mm]) (rest := []) ⟨hx, hb, hml, hown, hts⟩ (c_X8_isSlip l V wr d mm) (va_cwS 3 hts (zgS_ wsM_all uM_83 uM_86 uM_87 uM_21) rfl rfl rfl (by decide +kernel) ⟨Nat.le_of_ble_eq_true rfl, Nat.le_of_ble_eq_true rfl⟩) (zPreS (B := fun _ => True) trivial hE) rfl rfl hl.1 rfl (lv_room (Nat.le_of_ble_eq_true rfl)) dX8_comes_3 ⟨Nat.le_of_ble_eq_true rfl, Nat.le_of_ble_eq_true rfl⟩) ?_
  refine zbp_ne (P := mSlip wr d mm) (tgt := 12) hx hb dX8_comes_6 (by decide) (fun c_6 => ?_) (fun c_6 => ?_)
  · refine lv_aload_n hx hb dX8_comes_12 rfl (lv_at hl 0 rfl) ?_
    refine lv_iload_n hx hb dX8_comes_13 rfl (lv_at hl 1 rfl) ?_
    refine lv_iload_n hx hb dX8_comes_14 rfl (lv_at hl 2 rfl) ?_
    refine lv_iload_n hx hb dX8_comes_15 rfl (lv_at hl 3 rfl) ?_
    refine zc_se (va_runV (As := [.int wr, .int d, .int mm]) (rest := []) ⟨hx, hb, hml, hown, hts⟩ (c_X8_partner l V g w pa be av sl sv pd cd st le ap pl wy n wr d mm hn h30) (cwV 3 hts (zgV_ wsM_all uM_84 uM_88 uM_89 uM_90 uM_21) rfl rfl rfl (by decide +kernel) ⟨Nat.le_of_ble_eq_true rfl, Nat.le_of_ble_eq_true rfl⟩) (zPreV (B := fun H => va_P V.1 vwCl (zmW V g w pa be av sl sv pd cd st le ap pl wy) H) hP hE (va_recv hE.1 hP (ci := 8) (q0 := 0) (q := (RX8, TX8, 13)) rfl (zm_c0 V g w pa be av sl sv pd cd st le ap pl wy))) rfl rfl hl.1 rfl (lv_room (Nat.le_of_ble_eq_true rfl)) dX8_comes_16 ⟨Nat.le_of_ble_eq_true rfl, Nat.le_of_ble_eq_true rfl⟩) ?_
    rcases hq : mPart w n wr d mm with _ | k
    · refine zt_i (y := (-6)) (by first | rfl | exact congrArg zoI hq) ?_
      refine lv_istore (lv' := [(4, .int (-6)), (0, .ref (g 0)), (1, .int wr), (2, .int d), (3, .int mm)]) hx hb dX8_comes_19 hl (by decide) rfl (fun ls hl => ?_)
      refine lv_iload hx hb dX8_comes_21 (lv_at hl 0 rfl) ?_
      refine lv_bipush (v := (-6)) hx hb dX8_comes_23 (by decide +kernel) ?_
      refine lv_icmp_eq (tgt := 74) hx hb dX8_comes_25 (by decide) (fun c_25 => ?_) (fun c_25 => ?_)
      · refine lv_aload_n hx hb dX8_comes_74 rfl (lv_at hl 1 rfl) ?_
        refine zm_get 0 (.ref (g 1)) hx hb hts (fun x h => List.mem_cons_of_mem _ (hU_X8 x h)) hown hE hP (by decide) rfl (hts _ (List.mem_cons_of_mem _ uM_5)) (fun _ h9 => h9) dX8_comes_75 ?_
        refine lv_bipush (v := 7) hx hb dX8_comes_78 (by decide +kernel) ?_
        refine z_iald (k := 7) hx hb hE hP 1 (zm_c1 V g w pa be av sl sv pd cd st le ap pl wy) (by omega) (by decide) dX8_comes_80 ?_
        refine zt_i hn ?_
        refine lv_bipush (v := 30) hx hb dX8_comes_81 (by decide +kernel) ?_
        refine zb_ne (x := n) (y := 30) (tgt := 89) hx hb dX8_comes_83 (by decide) (by omega) (by omega) (fun c_83 => ?_) (fun c_83 => ?_)
        · refine lv_bipush (v := 78) hx hb dX8_comes_89 (by decide +kernel) ?_
          refine lv_bipush (v := 6) hx hb dX8_comes_91 (by decide +kernel) ?_
          refine lv_aload_n hx hb dX8_comes_93 rfl (lv_at hl 1 rfl) ?_
          refine zm_get 0 (.ref (g 1)) hx hb hts (fun x h => List.mem_cons_of_mem _ (hU_X8 x h)) hown hE hP (by decide) rfl (hts _ (List.mem_cons_of_mem _ uM_5)) (fun _ h9 => h9) dX8_comes_94 ?_
          refine lv_bipush (v := 7) hx hb dX8_comes_97 (by decide +kernel) ?_
          refine z_iald (k := 7) hx hb hE hP 1 (zm_c1 V g w pa be av sl sv pd cd st le ap pl wy) (by omega) (by decide) dX8_comes_99 ?_
          refine zt_i hn ?_
          refine lv_imul hx hb dX8_comes_100 ?_
          refine zt_i (z_mul (a := 6) (b := n) (by first | rfl | omega)) ?_
          refine lv_iadd hx hb dX8_comes_101 ?_
          refine zt_i (z_add (a := 78) (b := 6 * n) (by first | rfl | omega)) ?_
          refine lv_istore (lv' := [(5, .int (nI (78 + 6 * n))), (4, .int (-6)), (0, .ref (g 0)), (1, .int wr), (2, .int d), (3, .int mm)]) hx hb dX8_comes_102 hl (by decide) rfl (fun ls hl => ?_)
          refine lv_aload_n hx hb dX8_comes_104 rfl (lv_at hl 2 rfl) ?_
          refine zm_get 0 (.ref (g 1)) hx hb hts (fun x h => List.mem_cons_of_mem _ (hU_X8 x h)) hown hE hP (by decide) rfl (hts _ (List.mem_cons_of_mem _ uM_5)) (fun _ h9 => h9) dX8_comes_105 ?_
          refine lv_iload hx hb dX8_comes_108 (lv_at hl 0 rfl) ?_
          refine lv_iconst (v := 0) hx hb dX8_comes_110 (by decide +kernel) ?_
          refine lv_iadd hx hb dX8_comes_111 ?_
          refine zt_i (z_add (a := 78 + 6 * n) (b := 0) (by first | rfl | omega)) ?_
          refine lv_aload_n hx hb dX8_comes_112 rfl (lv_at hl 2 rfl) ?_
          refine zm_get 0 (.ref (g 1)) hx hb hts (fun x h => List.mem_cons_of_mem _ (hU_X8 x h)) hown hE hP (by decide) rfl (hts _ (List.mem_cons_of_mem _ uM_5)) (fun _ h9 => h9) dX8_comes_113 ?_
          refine lv_bipush (v := 8) hx hb dX8_comes_116 (by decide +kernel) ?_
          refine z_iald (k := 8) hx hb hE hP 1 (zm_c1 V g w pa be av sl sv pd cd st le ap pl wy) (by omega) (by decide) dX8_comes_118 ?_
          refine zm_a1 (78 + 6 * n) (w 8) hx hb hE hP hJ hS (by omega) dX8_comes_119 (fun H locs hP hS => ?_)
          obtain ⟨w_1, ew_1⟩ : ∃ z, z = upd w (78 + 6 * n) (w 8) := ⟨_, rfl⟩
          rw [← ew_1] at hP
          have hk_2 : w_1 7 = nI n := by rw [ew_1]; exact (if_neg (by omega)).trans hn
          refine lv_aload_n hx hb dX8_comes_120 rfl (lv_at hl 2 rfl) ?_
          refine zm_get 0 (.ref (g 1)) hx hb hts (fun x h => List.mem_cons_of_mem _ (hU_X8 x h)) hown hE hP (by decide) rfl (hts _ (List.mem_cons_of_mem _ uM_5)) (fun _ h9 => h9) dX8_comes_121 ?_
          refine lv_iload hx hb dX8_comes_124 (lv_at hl 0 rfl) ?_
          refine lv_iconst (v := 1) hx hb dX8_comes_126 (by decide +kernel) ?_
          refine lv_iadd hx hb dX8_comes_127 ?_
          refine zt_i (z_add (a := 78 + 6 * n) (b := 1) (by first | rfl | omega)) ?_
          refine lv_iload_n hx hb dX8_comes_128 rfl (lv_at hl 3 rfl) ?_
          refine zm_a1 (78 + 6 * n + 1) wr hx hb hE hP hJ hS (by omega) dX8_comes_129 (fun H locs hP hS => ?_)
          obtain ⟨w_3, ew_3⟩ : ∃ z, z = upd w_1 (78 + 6 * n + 1) wr := ⟨_, rfl⟩
          rw [← ew_3] at hP
          have hk_4 : w_3 7 = nI n := by rw [ew_3]; exact (if_neg (by omega)).trans hk_2
          refine lv_aload_n hx hb dX8_comes_130 rfl (lv_at hl 2 rfl) ?_
          refine zm_get 0 (.ref (g 1)) hx hb hts (fun x h => List.mem_cons_of_mem _ (hU_X8 x h)) hown hE hP (by decide) rfl (hts _ (List.mem_cons_of_mem _ uM_5)) (fun _ h9 => h9) dX8_comes_131 ?_
          refine lv_iload hx hb dX8_comes_134 (lv_at hl 0 rfl) ?_
          refine lv_iconst (v := 2) hx hb dX8_comes_136 (by decide +kernel) ?_
          refine lv_iadd hx hb dX8_comes_137 ?_
          refine zt_i (z_add (a := 78 + 6 * n) (b := 2) (by first | rfl | omega)) ?_
          refine lv_iload_n hx hb dX8_comes_138 rfl (lv_at hl 4 rfl) ?_
          refine zm_a1 (78 + 6 * n + 2) d hx hb hE hP hJ hS (by omega) dX8_comes_139 (fun H locs hP hS => ?_)
          obtain ⟨w_5, ew_5⟩ : ∃ z, z = upd w_3 (78 + 6 * n + 2) d := ⟨_, rfl⟩
          rw [← ew_5] at hP
          have hk_6 : w_5 7 = nI n := by rw [ew_5]; exact (if_neg (by omega)).trans hk_4
          refine lv_aload_n hx hb dX8_comes_140 rfl (lv_at hl 2 rfl) ?_
          refine zm_get 0 (.ref (g 1)) hx hb hts (fun x h => List.mem_cons_of_mem _ (hU_X8 x h)) hown hE hP (by decide) rfl (hts _ (List.mem_cons_of_mem _ uM_5)) (fun _ h9 => h9) dX8_comes_141 ?_
          refine lv_iload hx hb dX8_comes_144 (lv_at hl 0 rfl) ?_
          refine lv_iconst (v := 3) hx hb dX8_comes_146 (by decide +kernel) ?_
          refine lv_iadd hx hb dX8_comes_147 ?_
          refine zt_i (z_add (a := 78 + 6 * n) (b := 3) (by first | rfl | omega)) ?_
          refine lv_iload_n hx hb dX8_comes_148 rfl (lv_at hl 5 rfl) ?_
          refine zm_a1 (78 + 6 * n + 3) mm hx hb hE hP hJ hS (by omega) dX8_comes_149 (fun H locs hP hS => ?_)
          obtain ⟨w_7, ew_7⟩ : ∃ z, z = upd w_5 (78 + 6 * n + 3) mm := ⟨_, rfl⟩
          rw [← ew_7] at hP
          have hk_8 : w_7 7 = nI n := by rw [ew_7]; exact (if_neg (by omega)).trans hk_6
          refine lv_aload_n hx hb dX8_comes_150 rfl (lv_at hl 2 rfl) ?_
          refine zm_get 0 (.ref (g 1)) hx hb hts (fun x h => List.mem_cons_of_mem _ (hU_X8 x h)) hown hE hP (by decide) rfl (hts _ (List.mem_cons_of_mem _ uM_5)) (fun _ h9 => h9) dX8_comes_151 ?_
          refine lv_iload hx hb dX8_comes_154 (lv_at hl 0 rfl) ?_
          refine lv_iconst (v := 4) hx hb dX8_comes_156 (by decide +kernel) ?_
          refine lv_iadd hx hb dX8_comes_157 ?_
          refine zt_i (z_add (a := 78 + 6 * n) (b := 4) (by first | rfl | omega)) ?_
          refine lv_aload_n hx hb dX8_comes_158 rfl (lv_at hl 2 rfl) ?_
          refine zm_get 0 (.ref (g 1)) hx hb hts (fun x h => List.mem_cons_of_mem _ (hU_X8 x h)) hown hE hP (by decide) rfl (hts _ (List.mem_cons_of_mem _ uM_5)) (fun _ h9 => h9) dX8_comes_159 ?_
          refine lv_bipush (v := 6) hx hb dX8_comes_162 (by decide +kernel) ?_
          refine z_iald (k := 6) hx hb hE hP 1 (zm_c1 V g w_7 pa be av sl sv pd cd st le ap pl wy) (by omega) (by decide) dX8_comes_164 ?_
          refine zm_a1 (78 + 6 * n + 4) (w_7 6) hx hb hE hP hJ hS (by omega) dX8_comes_165 (fun H locs hP hS => ?_)
          obtain ⟨w_9, ew_9⟩ : ∃ z, z = upd w_7 (78 + 6 * n + 4) (w_7 6) := ⟨_, rfl⟩
          rw [← ew_9] at hP
          have hk_10 : w_9 7 = nI n := by rw [ew_9]; exact (if_neg (by omega)).trans hk_8
          refine lv_aload_n hx hb dX8_comes_166 rfl (lv_at hl 2 rfl) ?_
          refine zm_get 0 (.ref (g 1)) hx hb hts (fun x h => List.mem_cons_of_mem _ (hU_X8 x h)) hown hE hP (by decide) rfl (hts _ (List.mem_cons_of_mem _ uM_5)) (fun _ h9 => h9) dX8_comes_167 ?_
          refine lv_iload hx hb dX8_comes_170 (lv_at hl 0 rfl) ?_
          refine lv_iconst (v := 5) hx hb dX8_comes_172 (by decide +kernel) ?_
          refine lv_iadd hx hb dX8_comes_173 ?_
          refine zt_i (z_add (a := 78 + 6 * n) (b := 5) (by first | rfl | omega)) ?_
          refine lv_iconst (v := 0) hx hb dX8_comes_174 (by decide +kernel) ?_
          refine zm_a1 (78 + 6 * n + 5) 0 hx hb hE hP hJ hS (by omega) dX8_comes_175 (fun H locs hP hS => ?_)
          obtain ⟨w_11, ew_11⟩ : ∃ z, z = upd w_9 (78 + 6 * n + 5) 0 := ⟨_, rfl⟩
          rw [← ew_11] at hP
          have hk_12 : w_11 7 = nI n := by rw [ew_11]; exact (if_neg (by omega)).trans hk_10
          refine lv_aload_n hx hb dX8_comes_176 rfl (lv_at hl 2 rfl) ?_
          refine zm_get 0 (.ref (g 1)) hx hb hts (fun x h => List.mem_cons_of_mem _ (hU_X8 x h)) hown hE hP (by decide) rfl (hts _ (List.mem_cons_of_mem _ uM_5)) (fun _ h9 => h9) dX8_comes_177 ?_
          refine lv_bipush (v := 7) hx hb dX8_comes_180 (by decide +kernel) ?_
          refine lv_dup2_11 hx hb dX8_comes_182 rfl rfl ?_
          refine z_iald (k := 7) hx hb hE hP 1 (zm_c1 V g w_11 pa be av sl sv pd cd st le ap pl wy) (by omega) (by decide) dX8_comes_183 ?_
          refine zt_i hk_12 ?_
          refine lv_iconst (v := 1) hx hb dX8_comes_184 (by decide +kernel) ?_
          refine lv_iadd hx hb dX8_comes_185 ?_
          refine zt_i (z_add (a := n) (b := 1) (by first | rfl | omega)) ?_
          refine zm_a1 7 (nI (n + 1)) hx hb hE hP hJ hS (by omega) dX8_comes_186 (fun H locs hP hS => ?_)
          obtain ⟨w_13, ew_13⟩ : ∃ z, z = upd w_11 7 (nI (n + 1)) := ⟨_, rfl⟩
          rw [← ew_13] at hP
          have hk_14 : w_13 7 = nI (n + 1) := by rw [ew_13]; exact if_pos rfl
          refine lv_aload_n hx hb dX8_comes_187 rfl (lv_at hl 2 rfl) ?_
          refine zm_get 0 (.ref (g 1)) hx hb hts (fun x h => List.mem_cons_of_mem _ (hU_X8 x h)) hown hE hP (by decide) rfl (hts _ (List.mem_cons_of_mem _ uM_5)) (fun _ h9 => h9) dX8_comes_188 ?_
          refine lv_bipush (v := 8) hx hb dX8_comes_191 (by decide +kernel) ?_
          refine lv_dup2_11 hx hb dX8_comes_193 rfl rfl ?_
          refine z_iald (k := 8) hx hb hE hP 1 (zm_c1 V g w_13 pa be av sl sv pd cd st le ap pl wy) (by omega) (by decide) dX8_comes_194 ?_
          refine lv_iconst (v := 1) hx hb dX8_comes_195 (by decide +kernel) ?_
          refine lv_iadd hx hb dX8_comes_196 ?_
          refine zm_a1 8 ((w_13 8) + 1) hx hb hE hP hJ hS (by omega) dX8_comes_197 (fun H locs hP hS => ?_)
          obtain ⟨w_15, ew_15⟩ : ∃ z, z = upd w_13 8 ((w_13 8) + 1) := ⟨_, rfl⟩
          rw [← ew_15] at hP
          have hk_16 : w_15 7 = nI (n + 1) := by rw [ew_15]; exact (if_neg (by omega)).trans hk_14
          refine lv_aload_n hx hb dX8_comes_198 rfl (lv_at hl 2 rfl) ?_
          refine zm_get 0 (.ref (g 1)) hx hb hts (fun x h => List.mem_cons_of_mem _ (hU_X8 x h)) hown hE hP (by decide) rfl (hts _ (List.mem_cons_of_mem _ uM_5)) (fun _ h9 => h9) dX8_comes_199 ?_
          refine lv_bipush (v := 8) hx hb dX8_comes_202 (by decide +kernel) ?_
          refine z_iald (k := 8) hx hb hE hP 1 (zm_c1 V g w_15 pa be av sl sv pd cd st le ap pl wy) (by omega) (by decide) dX8_comes_204 ?_
          refine lv_iconst (v := 1) hx hb dX8_comes_205 (by decide +kernel) ?_
          refine lv_isub hx hb dX8_comes_206 ?_
          exact zr_i hx hb hr hlocks hS (⟨by rw [mComes, if_pos c_6, hq, ew_15, ew_13, ew_11, ew_9, ew_7, ew_5, ew_3, ew_1]; show _ = (if n = 30 then ((-4 : Int32), w) else _).1; rw [if_neg c_83], by rw [show (mComes w n wr d mm).2 = w_15 from (by rw [mComes, if_pos c_6, hq, ew_15, ew_13, ew_11, ew_9, ew_7, ew_5, ew_3, ew_1]; show (if n = 30 then ((-4 : Int32), w) else _).2 = _; rw [if_neg c_83])]; exact hP⟩) dX8_comes_207
        · refine lv_bipush (v := (-4)) hx hb dX8_comes_86 (by decide +kernel) ?_
          exact zr_i hx hb hr hlocks hS (⟨by rw [mComes, if_pos c_6, hq]; show (-4 : Int32) = (if n = 30 then ((-4 : Int32), w) else _).1; rw [if_pos c_83], by rw [show (mComes w n wr d mm).2 = w from (by rw [mComes, if_pos c_6, hq]; show (if n = 30 then ((-4 : Int32), w) else _).2 = _; rw [if_pos c_83])]; exact hP⟩) dX8_comes_88
      · exact absurd rfl c_25
    · refine zt_i (y := nI k) (by first | rfl | exact congrArg zoI hq) ?_
      have hkn : k < n := (zFirst_lt hq).1
      refine lv_istore (lv' := [(4, .int (nI k)), (0, .ref (g 0)), (1, .int wr), (2, .int d), (3, .int mm)]) hx hb dX8_comes_19 hl (by decide) rfl (fun ls hl => ?_)
      refine lv_iload hx hb dX8_comes_21 (lv_at hl 0 rfl) ?_
      refine lv_bipush (v := (-6)) hx hb dX8_comes_23 (by decide +kernel) ?_
      refine lv_icmp_eq (tgt := 74) hx hb dX8_comes_25 (by decide) (fun c_25 => ?_) (fun c_25 => ?_)
      · exact absurd c_25 (z_n6 (by omega))
      · refine lv_aload_n hx hb dX8_comes_28 rfl (lv_at hl 1 rfl) ?_
        refine zm_get 0 (.ref (g 1)) hx hb hts (fun x h => List.mem_cons_of_mem _ (hU_X8 x h)) hown hE hP (by decide) rfl (hts _ (List.mem_cons_of_mem _ uM_5)) (fun _ h9 => h9) dX8_comes_29 ?_
        refine lv_bipush (v := 78) hx hb dX8_comes_32 (by decide +kernel) ?_
        refine lv_bipush (v := 6) hx hb dX8_comes_34 (by decide +kernel) ?_
        refine lv_iload hx hb dX8_comes_36 (lv_at hl 0 rfl) ?_
        refine lv_imul hx hb dX8_comes_38 ?_
        refine zt_i (z_mul (a := 6) (b := k) (by first | rfl | omega)) ?_
        refine lv_iadd hx hb dX8_comes_39 ?_
        refine zt_i (z_add (a := 78) (b := 6 * k) (by first | rfl | omega)) ?_
        refine lv_iconst (v := 3) hx hb dX8_comes_40 (by decide +kernel) ?_
        refine lv_iadd hx hb dX8_comes_41 ?_
        refine zt_i (z_add (a := 78 + 6 * k) (b := 3) (by first | rfl | omega)) ?_
        refine lv_dup2_11 hx hb dX8_comes_42 rfl rfl ?_
        refine z_iald (k := 78 + 6 * k + 3) hx hb hE hP 1 (zm_c1 V g w pa be av sl sv pd cd st le ap pl wy) (by omega) (by decide) dX8_comes_43 ?_
        refine lv_iload_n hx hb dX8_comes_44 rfl (lv_at hl 4 rfl) ?_
        refine lv_iadd hx hb dX8_comes_45 ?_
        refine zm_a1 (78 + 6 * k + 3) ((w (78 + 6 * k + 3)) + mm) hx hb hE hP hJ hS (by omega) dX8_comes_46 (fun H locs hP hS => ?_)
        obtain ⟨w_17, ew_17⟩ : ∃ z, z = upd w (78 + 6 * k + 3) ((w (78 + 6 * k + 3)) + mm) := ⟨_, rfl⟩
        rw [← ew_17] at hP
        have hk_18 : w_17 7 = nI n := by rw [ew_17]; exact (if_neg (by omega)).trans hn
        refine lv_aload_n hx hb dX8_comes_47 rfl (lv_at hl 1 rfl) ?_
        refine zm_get 0 (.ref (g 1)) hx hb hts (fun x h => List.mem_cons_of_mem _ (hU_X8 x h)) hown hE hP (by decide) rfl (hts _ (List.mem_cons_of_mem _ uM_5)) (fun _ h9 => h9) dX8_comes_48 ?_
        refine lv_bipush (v := 78) hx hb dX8_comes_51 (by decide +kernel) ?_
        refine lv_bipush (v := 6) hx hb dX8_comes_53 (by decide +kernel) ?_
        refine lv_iload hx hb dX8_comes_55 (lv_at hl 0 rfl) ?_
        refine lv_imul hx hb dX8_comes_57 ?_
        refine zt_i (z_mul (a := 6) (b := k) (by first | rfl | omega)) ?_
        refine lv_iadd hx hb dX8_comes_58 ?_
        refine zt_i (z_add (a := 78) (b := 6 * k) (by first | rfl | omega)) ?_
        refine lv_iconst (v := 5) hx hb dX8_comes_59 (by decide +kernel) ?_
        refine lv_iadd hx hb dX8_comes_60 ?_
        refine zt_i (z_add (a := 78 + 6 * k) (b := 5) (by first | rfl | omega)) ?_
        refine lv_dup2_11 hx hb dX8_comes_61 rfl rfl ?_
        refine z_iald (k := 78 + 6 * k + 5) hx hb hE hP 1 (zm_c1 V g w_17 pa be av sl sv pd cd st le ap pl wy) (by omega) (by decide) dX8_comes_62 ?_
        refine lv_iconst (v := 1) hx hb dX8_comes_63 (by decide +kernel) ?_
        refine lv_iadd hx hb dX8_comes_64 ?_
        refine zm_a1 (78 + 6 * k + 5) ((w_17 (78 + 6 * k + 5)) + 1) hx hb hE hP hJ hS (by omega) dX8_comes_65 (fun H locs hP hS => ?_)
        obtain ⟨w_19, ew_19⟩ : ∃ z, z = upd w_17 (78 + 6 * k + 5) ((w_17 (78 + 6 * k + 5)) + 1) := ⟨_, rfl⟩
        rw [← ew_19] at hP
        have hk_20 : w_19 7 = nI n := by rw [ew_19]; exact (if_neg (by omega)).trans hk_18
        refine lv_aload_n hx hb dX8_comes_66 rfl (lv_at hl 1 rfl) ?_
        refine lv_iload hx hb dX8_comes_67 (lv_at hl 0 rfl) ?_
        refine lv_iconst (v := 0) hx hb dX8_comes_69 (by decide +kernel) ?_
        refine zc_se (va_runV (As := [.int (nI k), .int 0]) (rest := []) ⟨hx, hb, hml, hown, hts⟩ (c_X8_its l V g w_19 pa be av sl sv pd cd st le ap pl wy k 0 (by omega)) (cwV 2 hts (zgV_ wsM_all uM_16 uM_18 uM_19 uM_20 uM_21) rfl rfl rfl (by decide +kernel) ⟨Nat.le_of_ble_eq_true rfl, Nat.le_of_ble_eq_true rfl⟩) (zPreV (B := fun H => va_P V.1 vwCl (zmW V g w_19 pa be av sl sv pd cd st le ap pl wy) H) hP hE (va_recv hE.1 hP (ci := 8) (q0 := 0) (q := (RX8, TX8, 13)) rfl (zm_c0 V g w_19 pa be av sl sv pd cd st le ap pl wy))) rfl rfl hl.1 rfl (lv_room (Nat.le_of_ble_eq_true rfl)) dX8_comes_70 ⟨Nat.le_of_ble_eq_true rfl, Nat.le_of_ble_eq_true rfl⟩) ?_
        exact zr_i hx hb hr hlocks hS (⟨by rw [mComes, if_pos c_6, hq, ew_19, ew_17], by rw [show (mComes w n wr d mm).2 = w_19 from (by rw [mComes, if_pos c_6, hq, ew_19, ew_17])]; exact hP⟩) dX8_comes_73
  · refine lv_bipush (v := (-2)) hx hb dX8_comes_9 (by decide +kernel) ?_
    exact zr_i hx hb hr hlocks hS (⟨by rw [mComes, if_neg c_6], by rw [mComes, if_neg c_6]; exact hP⟩) dX8_comes_11
theorem mBegin_hi (w : Nat → Int32) (n : Nat) (a b : Int32) {j : Nat} (h : 78 ≤ j) : mBegin w n a b j = w j := by
  unfold mBegin
  split
  · rfl
  · simp only [upd]
    rw [if_neg (by omega), if_neg (by omega), if_neg (by omega), if_neg (by omega)]
theorem mBegin_7 (w : Nat → Int32) (n : Nat) (a b : Int32) : mBegin w n a b 7 = w 7 := by
  unfold mBegin
  split <;> rfl
theorem mEnd_hi (w : Nat → Int32) (k : Nat) (so : Int32) {j : Nat} (h : 78 ≤ j) : mEnd w k so j = w j := by
  unfold mEnd
  try dsimp only
  rw [mNote_hi _ _ _ _ h]
  simp only [upd]
  rw [if_neg (by omega), if_neg (by omega), if_neg (by omega), if_neg (by omega), if_neg (by omega), if_neg (by omega)]
theorem mEnd_7 (w : Nat → Int32) (k : Nat) (so : Int32) : mEnd w k so 7 = w 7 := by
  unfold mEnd
  try dsimp only
  rw [mNote_7]
  rfl
theorem mDrop_F (w : Nat → Int32) {n k j f : Nat} (hk : k < n) (hj : j < n - 1) (hf : f < 6) : zF (mDrop w n k) j f = zF w (if j < k then j else j + 1) f := by
  unfold zF mDrop
  try dsimp only
  rw [if_neg (by omega)]
  by_cases h : j < k
  · rw [if_neg (by omega), if_neg (by omega), if_pos h]
  · rw [if_pos (by omega), if_neg h]
    congr 1
    omega
theorem mDrop_7 (w : Nat → Int32) (n k : Nat) : mDrop w n k 7 = nI (n - 1) := by
  unfold mDrop
  rw [if_neg (by omega), if_neg (by omega), if_pos rfl]
theorem mServe_F {w : Nat → Int32} {n k j f : Nat} (hlk : (mLook w n).2 = some k) (hk : k < n) (hj : j < n - 1) (hf : f < 6) : zF (mServe w n) j f = zF w (if j < k then j else j + 1) f := by
  unfold mServe
  simp only [hlk, Option.getD_some]
  rw [mDrop_F _ hk hj hf]
  unfold zF
  rw [mEnd_hi _ _ _ (by omega), mBegin_hi _ _ _ _ (by omega)]
theorem mServe_7 (w : Nat → Int32) (n : Nat) : mServe w n 7 = nI (n - 1) := mDrop_7 _ _ _
theorem mServe_ok {w : Nat → Int32} {n : Nat} (h : mOK w n) (hpos : 0 < n) : mOK (mServe w n) (n - 1) := by
  obtain ⟨k, hk, hlk⟩ := mLook_some hpos h
  obtain ⟨h1, h2, h3, h4⟩ := h
  refine ⟨mServe_7 w n, by omega, fun j hj => ?_, fun j hj => ?_⟩
  · rw [mServe_F hlk hk hj (by decide)]
    exact h3 _ (by split <;> omega)
  · rw [mServe_F hlk hk hj (by decide)]
    exact h4 _ (by split <;> omega)
def mRun (w : Nat → Int32) (n : Nat) : Nat → (Nat → Int32)
  | 0 => w
  | j + 1 => mServe (mRun w n j) (n - j)
theorem mRun_ok {w : Nat → Int32} {n : Nat} (h : mOK w n) : ∀ {j : Nat}, j ≤ n → mOK (mRun w n j) (n - j)
  | 0, _ => h
  | j + 1, hj => by
    have h1 := mServe_ok (mRun_ok h (j := j) (by omega)) (by omega)
    rw [show n - j - 1 = n - (j + 1) by omega] at h1
    exact h1
def mServes (w : Nat → Int32) (n : Nat) (many : Int32) : Int32 × (Nat → Int32) :=
  if 1 ≤ many ∧ many ≤ 30 then (if n = 0 then (-5, w) else if 99999 < mRun w n (min many.toNatClampNeg n) 6 then (-5, w) else (nI (min many.toNatClampNeg n), mRun w n (min many.toNatClampNeg n))) else (-2, w)
def mWaits (w : Nat → Int32) (mi : Int32) : Int32 × (Nat → Int32) :=
  if 1 ≤ mi ∧ mi ≤ 999 then (if 99999 < w 6 + mi then (-5, w) else (w 6 + mi, upd w 6 (w 6 + mi))) else (-2, w)
set_option maxHeartbeats 4000000 in
set_option maxRecDepth 100000 in
theorem c_X8_serves (l : Launch) (V : zV) (g : Nat → Nat) (w pa be av sl sv pd cd : Nat → Int32) (st le ap pl wy : Int32) (n : Nat) (many : Int32) (hJ : zInj 9 g) (hok : mOK w n) : Met l yX8_serves wsX8_serves (zR 5 0 0) (zPc V [.ref (g 0), .int many] (fun H => va_P V.1 vwCl (zmW V g w pa be av sl sv pd cd st le ap pl wy) H)) (zQi (fun r H => r = ((mServes w n many).1) ∧ (∃ av' : Nat → Int32, ∃ pl' : Int32, ∃ wy' : Int32, va_P V.1 vwCl (zmW V g ((mServes w n many).2) pa be av' sl sv pd cd st le ap pl' wy') H)) (zIn 9 g)) 0 0 (zIn 9 g) := by
  refine Met.ofW (cc := cX8_serves) (maxL := 3) (ret := (some .int)) (by decide) rfl ?_
  intro p e s m args below meth c s₁ B hml hv
  obtain ⟨rfl, hP, hE⟩ := hv
  have hx := B.exec
  have hb := B.bytes
  have hr := B.returns
  have hts := atoms_spec (ws := wsX8_serves) B.pre
  have hown : s.vm.findClass RX8 = some m.cls := findClass_of_methodNamed B.named
  have hlocks := B.notSynchronized
  have hl := lv_entry ([.ref (g 0), .int many]) (n := 3) (Nat.le_of_ble_eq_true rfl)
  rw [lg_entry_eq]
  generalize (lg_sl ([.ref (g 0), .int many]) ++ List.replicate (3 - (lg_sl ([.ref (g 0), .int many])).length) Slot.unset).toArray = ls at hl ⊢
  have hl : lv_has ls 3 [(0, .ref (g 0)), (1, .int many)] := hl
  have hS : va_S (zIn 9 g) s.heap s.heap [] := va_S.rf
  have hok0 : mOK w n := hok
  obtain ⟨hn, h30, hwr, hfd⟩ := hok
  refine lv_iload_n hx hb dX8_serves_0 rfl (lv_at hl 1 rfl) ?_
  refine lv_i2l (v := many.toInt64) hx hb dX8_serves_1 rfl ?_
  refine lv_iconst (v := 1) hx hb dX8_serves_2 (by decide +kernel) ?_
  refine lv_bipush (v := 30) hx hb dX8_serves_3 (by decide +kernel) ?_
  refine zc_se (va_runS (As := [.long many.toInt64, .int 1, .int 30]) (rest := []) ⟨hx, hb, hml, hown, hts⟩ (c_X8_in l V many 1 30) (va_cwS 3 hts (zgS_ wsM_all uM_14 uM_29 uM_30 uM_21) rfl rfl rfl (by decide +kernel) ⟨Nat.le_of_ble_eq_true rfl, Nat.le_of_ble_eq_true rfl⟩) (zPreS (B := fun _ => True) trivial hE) rfl rfl hl.1 rfl (lv_room (Nat.le_of_ble_eq_true rfl)) dX8_serves_5 ⟨Nat.le_of_ble_eq_true rfl, Nat.le_of_ble_eq_true rfl⟩) ?_
  refine zbp_ne (P := 1 ≤ many ∧ many ≤ 30) (tgt := 14) hx hb dX8_serves_8 (by decide) (fun c_8 => ?_) (fun c_8 => ?_)
  · refine lv_aload_n hx hb dX8_serves_14 rfl (lv_at hl 0 rfl) ?_
    refine zm_get 0 (.ref (g 1)) hx hb hts (fun x h => List.mem_cons_of_mem _ (hU_X8 x h)) hown hE hP (by decide) rfl (hts _ (List.mem_cons_of_mem _ uM_5)) (fun _ h9 => h9) dX8_serves_15 ?_
    refine lv_bipush (v := 7) hx hb dX8_serves_18 (by decide +kernel) ?_
    refine z_iald (k := 7) hx hb hE hP 1 (zm_c1 V g w pa be av sl sv pd cd st le ap pl wy) (by omega) (by decide) dX8_serves_20 ?_
    refine zt_i hn ?_
    refine zb0_ne (x := n) (tgt := 27) hx hb dX8_serves_21 (by decide) (by omega) (fun c_21 => ?_) (fun c_21 => ?_)
    · obtain ⟨q_, rfl, hq1_, hq30_⟩ := z_ix (na := 1) (nb := 30) rfl rfl (by decide) (by decide) c_8
      refine lv_aload_n hx hb dX8_serves_27 rfl (lv_at hl 0 rfl) ?_
      refine zc_v (va_runV (As := []) (rest := []) ⟨hx, hb, hml, hown, hts⟩ (c_X8_layAside l V g w pa be av sl sv pd cd st le ap pl wy  hJ) (cwV 0 hts (zgV_ wsM_all uM_38 uM_93 uM_94 uM_95 uM_21) rfl rfl rfl (by decide +kernel) ⟨Nat.le_of_ble_eq_true rfl, Nat.le_of_ble_eq_true rfl⟩) (zPreV (B := fun H => va_P V.1 vwCl (zmW V g w pa be av sl sv pd cd st le ap pl wy) H) hP hE (va_recv hE.1 hP (ci := 8) (q0 := 0) (q := (RX8, TX8, 13)) rfl (zm_c0 V g w pa be av sl sv pd cd st le ap pl wy))) rfl rfl hl.1 rfl (lv_room (Nat.le_of_ble_eq_true rfl)) dX8_serves_28 ⟨Nat.le_of_ble_eq_true rfl, Nat.le_of_ble_eq_true rfl⟩) hS (fun _ h => h) (fun _ h => h) (fun H locs hQ_ _ _ hS => ?_)
      have hP := hQ_
      refine lv_iconst (v := 0) hx hb dX8_serves_31 (by decide +kernel) ?_
      refine lv_istore_n (lv' := [(2, .int 0), (0, .ref (g 0)), (1, .int (nI q_))]) hx hb dX8_serves_32 rfl hl (by decide) rfl (fun ls hl => ?_)
      have L_33 : ∀ (n_ i : Nat) (pl_ : Int32) (wy_ : Int32) (H : Heap) (locs : List Loc) (ls : Array Slot), i ≤ (min q_ n) → (min q_ n) + 1 ≤ i + n_ → va_P V.1 vwCl (zmW V g (mRun w n i) pa be w sl sv pd cd st le ap pl_ wy_) H → va_S (zIn 9 g) s.heap H locs → lv_has ls 3 [(2, .int (nI i)), (0, .ref (g 0)), (1, .int (nI q_))] → W p l e (headSpec wsX8_serves (zR 5 0 0)).room s m (List.toArray [.ref (g 0), .int (nI q_)]) below meth c H locs 0 0 (MQ below (zQi (fun r H => r = ((mServes w n (nI q_)).1) ∧ (∃ av' : Nat → Int32, ∃ pl' : Int32, ∃ wy' : Int32, va_P V.1 vwCl (zmW V g ((mServes w n (nI q_)).2) pa be av' sl sv pd cd st le ap pl' wy') H)) (zIn 9 g)) (List.toArray [.ref (g 0), .int (nI q_)]) s 0 0 (zIn 9 g)) (F0 m 33 ls []) := by
        intro n_
        induction n_ with
        | zero => intro i pl_ wy_ H locs ls hi_ hn_; exact absurd hn_ (by omega)
        | succ n_ ih =>
          intro i pl_ wy_ H locs ls hi_ hn_  hP hS hl
          refine lv_iload_n hx hb dX8_serves_33 rfl (lv_at hl 0 rfl) ?_
          refine lv_iload_n hx hb dX8_serves_34 rfl (lv_at hl 2 rfl) ?_
          refine zb_ge (x := i) (y := q_) (tgt := 58) hx hb dX8_serves_35 (by decide) (by omega) (by omega) (fun c_35 => ?_) (fun c_35 => ?_)
          · refine lv_aload_n hx hb dX8_serves_58 rfl (lv_at hl 1 rfl) ?_
            refine zm_get 0 (.ref (g 1)) hx hb hts (fun x h => List.mem_cons_of_mem _ (hU_X8 x h)) hown hE hP (by decide) rfl (hts _ (List.mem_cons_of_mem _ uM_5)) (fun _ h9 => h9) dX8_serves_59 ?_
            refine lv_bipush (v := 6) hx hb dX8_serves_62 (by decide +kernel) ?_
            refine z_iald (k := 6) hx hb hE hP 1 (zm_c1 V g (mRun w n i) pa be w sl sv pd cd st le ap pl_ wy_) (by omega) (by decide) dX8_serves_64 ?_
            refine lv_ldc (v := (99999)) hx hb hown (hts _ (List.mem_cons_of_mem _ uM_92)) dX8_serves_65 ?_
            refine lv_icmp_le (tgt := 77) hx hb dX8_serves_67 (by decide) (fun c_67 => ?_) (fun c_67 => ?_)
            · refine lv_iload_n hx hb dX8_serves_77 rfl (lv_at hl 0 rfl) ?_
              exact zr_i hx hb hr hlocks hS (⟨by rw [mServes, if_pos c_8, if_neg c_21, nI_clamp (by omega), show min q_ n = i by omega, if_neg (z_le' c_67)], _, _, _, by rw [show (mServes w n (nI q_)).2 = mRun w n i by rw [mServes, if_pos c_8, if_neg c_21, nI_clamp (by omega), show min q_ n = i by omega, if_neg (z_le' c_67)]]; exact hP⟩) dX8_serves_78
            · refine lv_aload_n hx hb dX8_serves_70 rfl (lv_at hl 1 rfl) ?_
              refine zc_v (va_runV (As := []) (rest := []) ⟨hx, hb, hml, hown, hts⟩ (c_X8_putBack l V g (mRun w n i) pa be w sl sv pd cd st le ap pl_ wy_  hJ) (cwV 0 hts (zgV_ wsM_all uM_39 uM_99 uM_100 uM_101 uM_21) rfl rfl rfl (by decide +kernel) ⟨Nat.le_of_ble_eq_true rfl, Nat.le_of_ble_eq_true rfl⟩) (zPreV (B := fun H => va_P V.1 vwCl (zmW V g (mRun w n i) pa be w sl sv pd cd st le ap pl_ wy_) H) hP hE (va_recv hE.1 hP (ci := 8) (q0 := 0) (q := (RX8, TX8, 13)) rfl (zm_c0 V g (mRun w n i) pa be w sl sv pd cd st le ap pl_ wy_))) rfl rfl hl.1 rfl (lv_room (Nat.le_of_ble_eq_true rfl)) dX8_serves_71 ⟨Nat.le_of_ble_eq_true rfl, Nat.le_of_ble_eq_true rfl⟩) hS (fun _ h => h) (fun _ h => h) (fun H locs hQ_ _ _ hS => ?_)
              have hP := hQ_
              refine lv_bipush (v := (-5)) hx hb dX8_serves_74 (by decide +kernel) ?_
              exact zr_i hx hb hr hlocks hS (⟨by rw [mServes, if_pos c_8, if_neg c_21, nI_clamp (by omega), show min q_ n = i by omega, if_pos (z_nle c_67)], _, _, _, by rw [show (mServes w n (nI q_)).2 = w by rw [mServes, if_pos c_8, if_neg c_21, nI_clamp (by omega), show min q_ n = i by omega, if_pos (z_nle c_67)]]; exact hP⟩) dX8_serves_76
          · refine lv_aload_n hx hb dX8_serves_38 rfl (lv_at hl 1 rfl) ?_
            refine zm_get 0 (.ref (g 1)) hx hb hts (fun x h => List.mem_cons_of_mem _ (hU_X8 x h)) hown hE hP (by decide) rfl (hts _ (List.mem_cons_of_mem _ uM_5)) (fun _ h9 => h9) dX8_serves_39 ?_
            refine lv_bipush (v := 7) hx hb dX8_serves_42 (by decide +kernel) ?_
            refine z_iald (k := 7) hx hb hE hP 1 (zm_c1 V g (mRun w n i) pa be w sl sv pd cd st le ap pl_ wy_) (by omega) (by decide) dX8_serves_44 ?_
            refine zt_i (mRun_ok hok0 (show i ≤ n by omega)).1 ?_
            refine zb0_le (x := n - i) (tgt := 58) hx hb dX8_serves_45 (by decide) (by omega) (fun c_45 => ?_) (fun c_45 => ?_)
            · refine lv_aload_n hx hb dX8_serves_58 rfl (lv_at hl 1 rfl) ?_
              refine zm_get 0 (.ref (g 1)) hx hb hts (fun x h => List.mem_cons_of_mem _ (hU_X8 x h)) hown hE hP (by decide) rfl (hts _ (List.mem_cons_of_mem _ uM_5)) (fun _ h9 => h9) dX8_serves_59 ?_
              refine lv_bipush (v := 6) hx hb dX8_serves_62 (by decide +kernel) ?_
              refine z_iald (k := 6) hx hb hE hP 1 (zm_c1 V g (mRun w n i) pa be w sl sv pd cd st le ap pl_ wy_) (by omega) (by decide) dX8_serves_64 ?_
              refine lv_ldc (v := (99999)) hx hb hown (hts _ (List.mem_cons_of_mem _ uM_92)) dX8_serves_65 ?_
              refine lv_icmp_le (tgt := 77) hx hb dX8_serves_67 (by decide) (fun c_67 => ?_) (fun c_67 => ?_)
              · refine lv_iload_n hx hb dX8_serves_77 rfl (lv_at hl 0 rfl) ?_
                exact zr_i hx hb hr hlocks hS (⟨by rw [mServes, if_pos c_8, if_neg c_21, nI_clamp (by omega), show min q_ n = i by omega, if_neg (z_le' c_67)], _, _, _, by rw [show (mServes w n (nI q_)).2 = mRun w n i by rw [mServes, if_pos c_8, if_neg c_21, nI_clamp (by omega), show min q_ n = i by omega, if_neg (z_le' c_67)]]; exact hP⟩) dX8_serves_78
              · refine lv_aload_n hx hb dX8_serves_70 rfl (lv_at hl 1 rfl) ?_
                refine zc_v (va_runV (As := []) (rest := []) ⟨hx, hb, hml, hown, hts⟩ (c_X8_putBack l V g (mRun w n i) pa be w sl sv pd cd st le ap pl_ wy_  hJ) (cwV 0 hts (zgV_ wsM_all uM_39 uM_99 uM_100 uM_101 uM_21) rfl rfl rfl (by decide +kernel) ⟨Nat.le_of_ble_eq_true rfl, Nat.le_of_ble_eq_true rfl⟩) (zPreV (B := fun H => va_P V.1 vwCl (zmW V g (mRun w n i) pa be w sl sv pd cd st le ap pl_ wy_) H) hP hE (va_recv hE.1 hP (ci := 8) (q0 := 0) (q := (RX8, TX8, 13)) rfl (zm_c0 V g (mRun w n i) pa be w sl sv pd cd st le ap pl_ wy_))) rfl rfl hl.1 rfl (lv_room (Nat.le_of_ble_eq_true rfl)) dX8_serves_71 ⟨Nat.le_of_ble_eq_true rfl, Nat.le_of_ble_eq_true rfl⟩) hS (fun _ h => h) (fun _ h => h) (fun H locs hQ_ _ _ hS => ?_)
                have hP := hQ_
                refine lv_bipush (v := (-5)) hx hb dX8_serves_74 (by decide +kernel) ?_
                exact zr_i hx hb hr hlocks hS (⟨by rw [mServes, if_pos c_8, if_neg c_21, nI_clamp (by omega), show min q_ n = i by omega, if_pos (z_nle c_67)], _, _, _, by rw [show (mServes w n (nI q_)).2 = w by rw [mServes, if_pos c_8, if_neg c_21, nI_clamp (by omega), show min q_ n = i by omega, if_pos (z_nle c_67)]]; exact hP⟩) dX8_serves_76
            · refine lv_aload_n hx hb dX8_serves_48 rfl (lv_at hl 1 rfl) ?_
              refine zc_v (va_runV (As := []) (rest := []) ⟨hx, hb, hml, hown, hts⟩ (c_X8_serveOne l V g (mRun w n i) pa be w sl sv pd cd st le ap pl_ wy_  (n - i) hJ (mRun_ok hok0 (show i ≤ n by omega)) c_45) (cwV 0 hts (zgV_ wsM_all uM_67 uM_96 uM_97 uM_98 uM_21) rfl rfl rfl (by decide +kernel) ⟨Nat.le_of_ble_eq_true rfl, Nat.le_of_ble_eq_true rfl⟩) (zPreV (B := fun H => va_P V.1 vwCl (zmW V g (mRun w n i) pa be w sl sv pd cd st le ap pl_ wy_) H) hP hE (va_recv hE.1 hP (ci := 8) (q0 := 0) (q := (RX8, TX8, 13)) rfl (zm_c0 V g (mRun w n i) pa be w sl sv pd cd st le ap pl_ wy_))) rfl rfl hl.1 rfl (lv_room (Nat.le_of_ble_eq_true rfl)) dX8_serves_49 ⟨Nat.le_of_ble_eq_true rfl, Nat.le_of_ble_eq_true rfl⟩) hS (fun _ h => h) (fun _ h => h) (fun H locs hQ_ _ _ hS => ?_)
              obtain ⟨pl'_1, wy'_2, hP⟩ := hQ_
              refine lv_iinc (v := nI (i + 1)) (lv' := [(2, .int (nI (i + 1))), (0, .ref (g 0)), (1, .int (nI q_))]) hx hb dX8_serves_52 hl (k := 0) rfl (z_inc1 i) (by decide) rfl (fun ls hl => ?_)
              refine lv_goto (tgt := 33) hx hb dX8_serves_55 (by decide) ?_
              exact ih (i + 1) pl'_1 wy'_2 H locs ls (by omega) (by omega) hP hS (lv_sub hl [0, 1, 2] rfl)
      exact L_33 ((min q_ n) + 1) 0 pl wy H locs ls (by omega) (by omega) hP hS (lv_sub hl [0, 1, 2] rfl)
    · refine lv_bipush (v := (-5)) hx hb dX8_serves_24 (by decide +kernel) ?_
      exact zr_i hx hb hr hlocks hS (⟨by rw [mServes, if_pos c_8, if_pos c_21], _, _, _, by rw [show (mServes w n many).2 = w by rw [mServes, if_pos c_8, if_pos c_21]]; exact hP⟩) dX8_serves_26
  · refine lv_bipush (v := (-2)) hx hb dX8_serves_11 (by decide +kernel) ?_
    exact zr_i hx hb hr hlocks hS (⟨by rw [mServes, if_neg c_8], _, _, _, by rw [show (mServes w n many).2 = w by rw [mServes, if_neg c_8]]; exact hP⟩) dX8_serves_13
set_option maxHeartbeats 4000000 in
set_option maxRecDepth 100000 in
theorem c_X8_waits (l : Launch) (V : zV) (g : Nat → Nat) (w pa be av sl sv pd cd : Nat → Int32) (st le ap pl wy : Int32) (mi : Int32) (hJ : zInj 9 g) : Met l yX8_waits wsX8_waits (zR 1 0 0) (zPc V [.ref (g 0), .int mi] (fun H => va_P V.1 vwCl (zmW V g w pa be av sl sv pd cd st le ap pl wy) H)) (zQi (fun r H => r = ((mWaits w mi).1) ∧ va_P V.1 vwCl (zmW V g ((mWaits w mi).2) pa be av sl sv pd cd st le ap pl wy) H) (zIn 9 g)) 0 0 (zIn 9 g) := by
  refine Met.ofW (cc := cX8_waits) (maxL := 2) (ret := (some .int)) (by decide) rfl ?_
  intro p e s m args below meth c s₁ B hml hv
  obtain ⟨rfl, hP, hE⟩ := hv
  have hx := B.exec
  have hb := B.bytes
  have hr := B.returns
  have hts := atoms_spec (ws := wsX8_waits) B.pre
  have hown : s.vm.findClass RX8 = some m.cls := findClass_of_methodNamed B.named
  have hlocks := B.notSynchronized
  have hl := lv_entry ([.ref (g 0), .int mi]) (n := 2) (Nat.le_of_ble_eq_true rfl)
  rw [lg_entry_eq]
  generalize (lg_sl ([.ref (g 0), .int mi]) ++ List.replicate (2 - (lg_sl ([.ref (g 0), .int mi])).length) Slot.unset).toArray = ls at hl ⊢
  have hl : lv_has ls 2 [(0, .ref (g 0)), (1, .int mi)] := hl
  have hS : va_S (zIn 9 g) s.heap s.heap [] := va_S.rf
  refine lv_iload_n hx hb dX8_waits_0 rfl (lv_at hl 1 rfl) ?_
  refine lv_i2l (v := mi.toInt64) hx hb dX8_waits_1 rfl ?_
  refine lv_iconst (v := 1) hx hb dX8_waits_2 (by decide +kernel) ?_
  refine lv_sipush (v := 999) hx hb dX8_waits_3 (by decide +kernel) ?_
  refine zc_se (va_runS (As := [.long mi.toInt64, .int 1, .int 999]) (rest := []) ⟨hx, hb, hml, hown, hts⟩ (c_X8_in l V mi 1 999) (va_cwS 3 hts (zgS_ wsM_all uM_14 uM_29 uM_30 uM_21) rfl rfl rfl (by decide +kernel) ⟨Nat.le_of_ble_eq_true rfl, Nat.le_of_ble_eq_true rfl⟩) (zPreS (B := fun _ => True) trivial hE) rfl rfl hl.1 rfl (lv_room (Nat.le_of_ble_eq_true rfl)) dX8_waits_6 ⟨Nat.le_of_ble_eq_true rfl, Nat.le_of_ble_eq_true rfl⟩) ?_
  refine zbp_ne (P := 1 ≤ mi ∧ mi ≤ 999) (tgt := 15) hx hb dX8_waits_9 (by decide) (fun c_9 => ?_) (fun c_9 => ?_)
  · refine lv_aload_n hx hb dX8_waits_15 rfl (lv_at hl 0 rfl) ?_
    refine zm_get 0 (.ref (g 1)) hx hb hts (fun x h => List.mem_cons_of_mem _ (hU_X8 x h)) hown hE hP (by decide) rfl (hts _ (List.mem_cons_of_mem _ uM_5)) (fun _ h9 => h9) dX8_waits_16 ?_
    refine lv_bipush (v := 6) hx hb dX8_waits_19 (by decide +kernel) ?_
    refine z_iald (k := 6) hx hb hE hP 1 (zm_c1 V g w pa be av sl sv pd cd st le ap pl wy) (by omega) (by decide) dX8_waits_21 ?_
    refine lv_iload_n hx hb dX8_waits_22 rfl (lv_at hl 1 rfl) ?_
    refine lv_iadd hx hb dX8_waits_23 ?_
    refine lv_ldc (v := (99999)) hx hb hown (hts _ (List.mem_cons_of_mem _ uM_92)) dX8_waits_24 ?_
    refine lv_icmp_le (tgt := 32) hx hb dX8_waits_26 (by decide) (fun c_26 => ?_) (fun c_26 => ?_)
    · refine lv_aload_n hx hb dX8_waits_32 rfl (lv_at hl 0 rfl) ?_
      refine zm_get 0 (.ref (g 1)) hx hb hts (fun x h => List.mem_cons_of_mem _ (hU_X8 x h)) hown hE hP (by decide) rfl (hts _ (List.mem_cons_of_mem _ uM_5)) (fun _ h9 => h9) dX8_waits_33 ?_
      refine lv_bipush (v := 6) hx hb dX8_waits_36 (by decide +kernel) ?_
      refine lv_dup2_11 hx hb dX8_waits_38 rfl rfl ?_
      refine z_iald (k := 6) hx hb hE hP 1 (zm_c1 V g w pa be av sl sv pd cd st le ap pl wy) (by omega) (by decide) dX8_waits_39 ?_
      refine lv_iload_n hx hb dX8_waits_40 rfl (lv_at hl 1 rfl) ?_
      refine lv_iadd hx hb dX8_waits_41 ?_
      refine zm_a1 6 ((w 6) + mi) hx hb hE hP hJ hS (by omega) dX8_waits_42 (fun H locs hP hS => ?_)
      obtain ⟨w_1, ew_1⟩ : ∃ z, z = upd w 6 ((w 6) + mi) := ⟨_, rfl⟩
      rw [← ew_1] at hP
      refine lv_aload_n hx hb dX8_waits_43 rfl (lv_at hl 0 rfl) ?_
      refine zm_get 0 (.ref (g 1)) hx hb hts (fun x h => List.mem_cons_of_mem _ (hU_X8 x h)) hown hE hP (by decide) rfl (hts _ (List.mem_cons_of_mem _ uM_5)) (fun _ h9 => h9) dX8_waits_44 ?_
      refine lv_bipush (v := 6) hx hb dX8_waits_47 (by decide +kernel) ?_
      refine z_iald (k := 6) hx hb hE hP 1 (zm_c1 V g w_1 pa be av sl sv pd cd st le ap pl wy) (by omega) (by decide) dX8_waits_49 ?_
      exact zr_i hx hb hr hlocks hS (⟨by rw [mWaits, if_pos c_9, if_neg (z_le' c_26), ew_1]; rfl, by rw [show (mWaits w mi).2 = w_1 by rw [mWaits, if_pos c_9, if_neg (z_le' c_26), ew_1]]; exact hP⟩) dX8_waits_50
    · refine lv_bipush (v := (-5)) hx hb dX8_waits_29 (by decide +kernel) ?_
      exact zr_i hx hb hr hlocks hS (⟨by rw [mWaits, if_pos c_9, if_pos (z_nle c_26)], by rw [show (mWaits w mi).2 = w by rw [mWaits, if_pos c_9, if_pos (z_nle c_26)]]; exact hP⟩) dX8_waits_31
  · refine lv_bipush (v := (-2)) hx hb dX8_waits_12 (by decide +kernel) ?_
    exact zr_i hx hb hr hlocks hS (⟨by rw [mWaits, if_neg c_9], by rw [show (mWaits w mi).2 = w by rw [mWaits, if_neg c_9]]; exact hP⟩) dX8_waits_14
set_option maxHeartbeats 4000000 in
set_option maxRecDepth 100000 in
theorem c_X8_slip (l : Launch) (V : zV) (g : Nat → Nat) (w pa be av sl sv pd cd : Nat → Int32) (st le ap pl wy : Int32) (n k : Nat) (wr d mm : Int32) (hJ : zInj 9 g) (hok : mOK w n) (hst : st = nI k) (hk6 : k ≤ 6) : Met l yX8_slip wsX8_slip (zR 4 0 0) (zPc V [.ref (g 0), .int wr, .int d, .int mm] (fun H => va_P V.1 vwCl (zmW V g w pa be av sl sv pd cd st le ap pl wy) H)) (zQi (fun r H => r = ((mComes w n wr d mm).1) ∧ va_P V.1 vwCl (zmW V g ((mComes w n wr d mm).2) (mRP pa w k ((mComes w n wr d mm).1)) w av sl sv pd cd (nI (mRK k ((mComes w n wr d mm).1))) le ap pl wy) H) (zIn 9 g)) 0 0 (zIn 9 g) := by
  refine Met.ofW (cc := cX8_slip) (maxL := 4) (ret := (some .int)) (by decide) rfl ?_
  intro p e s m args below meth c s₁ B hml hv
  obtain ⟨rfl, hP, hE⟩ := hv
  have hx := B.exec
  have hb := B.bytes
  have hr := B.returns
  have hts := atoms_spec (ws := wsX8_slip) B.pre
  have hown : s.vm.findClass RX8 = some m.cls := findClass_of_methodNamed B.named
  have hlocks := B.notSynchronized
  have hl := lv_entry ([.ref (g 0), .int wr, .int d, .int mm]) (n := 4) (Nat.le_of_ble_eq_true rfl)
  rw [lg_entry_eq]
  generalize (lg_sl ([.ref (g 0), .int wr, .int d, .int mm]) ++ List.replicate (4 - (lg_sl ([.ref (g 0), .int wr, .int d, .int mm])).length) Slot.unset).toArray = ls at hl ⊢
  have hl : lv_has ls 4 [(0, .ref (g 0)), (1, .int wr), (2, .int d), (3, .int mm)] := hl
  have hS : va_S (zIn 9 g) s.heap s.heap [] := va_S.rf
  subst hst
  have hok0 : mOK w n := hok
  obtain ⟨hn, h30, hwr, hfd⟩ := hok
  refine lv_aload_n hx hb dX8_slip_0 rfl (lv_at hl 0 rfl) ?_
  refine zc_v (va_runV (As := []) (rest := []) ⟨hx, hb, hml, hown, hts⟩ (c_X8_remember l V g w pa be av sl sv pd cd (nI k) le ap pl wy  hJ) (cwV 0 hts (zgV_ wsM_all uM_24 uM_32 uM_33 uM_34 uM_21) rfl rfl rfl (by decide +kernel) ⟨Nat.le_of_ble_eq_true rfl, Nat.le_of_ble_eq_true rfl⟩) (zPreV (B := fun H => va_P V.1 vwCl (zmW V g w pa be av sl sv pd cd (nI k) le ap pl wy) H) hP hE (va_recv hE.1 hP (ci := 8) (q0 := 0) (q := (RX8, TX8, 13)) rfl (zm_c0 V g w pa be av sl sv pd cd (nI k) le ap pl wy))) rfl rfl hl.1 rfl (lv_room (Nat.le_of_ble_eq_true rfl)) dX8_slip_1 ⟨Nat.le_of_ble_eq_true rfl, Nat.le_of_ble_eq_true rfl⟩) hS (fun _ h => h) (fun _ h => h) (fun H locs hQ_ _ _ hS => ?_)
  have hP := hQ_
  refine lv_aload_n hx hb dX8_slip_4 rfl (lv_at hl 0 rfl) ?_
  refine lv_aload_n hx hb dX8_slip_5 rfl (lv_at hl 0 rfl) ?_
  refine lv_iload_n hx hb dX8_slip_6 rfl (lv_at hl 1 rfl) ?_
  refine lv_iload_n hx hb dX8_slip_7 rfl (lv_at hl 2 rfl) ?_
  refine lv_iload_n hx hb dX8_slip_8 rfl (lv_at hl 3 rfl) ?_
  refine zc_i (va_runV (As := [.int wr, .int d, .int mm]) (rest := [.ref (g 0)]) ⟨hx, hb, hml, hown, hts⟩ (c_X8_comes l V g w pa w av sl sv pd cd (nI k) le ap pl wy  n wr d mm hJ hn (by omega)) (cwV 3 hts (zgV_ wsM_all uM_85 uM_111 uM_112 uM_113 uM_21) rfl rfl rfl (by decide +kernel) ⟨Nat.le_of_ble_eq_true rfl, Nat.le_of_ble_eq_true rfl⟩) (zPreV (B := fun H => va_P V.1 vwCl (zmW V g w pa w av sl sv pd cd (nI k) le ap pl wy) H) hP hE (va_recv hE.1 hP (ci := 8) (q0 := 0) (q := (RX8, TX8, 13)) rfl (zm_c0 V g w pa w av sl sv pd cd (nI k) le ap pl wy))) rfl rfl hl.1 rfl (lv_room (Nat.le_of_ble_eq_true rfl)) dX8_slip_9 ⟨Nat.le_of_ble_eq_true rfl, Nat.le_of_ble_eq_true rfl⟩) hS (fun _ h => h) (fun _ h => h) (fun r_ H locs hQ_ _ _ hS => ?_)
  obtain ⟨hr_, hP⟩ := hQ_
  subst hr_
  refine zc_i (va_runV (As := [.int ((mComes w n wr d mm).1)]) (rest := []) ⟨hx, hb, hml, hown, hts⟩ (c_X8_record l V g ((mComes w n wr d mm).2) pa w av sl sv pd cd (nI k) le ap pl wy  k ((mComes w n wr d mm).1) hJ rfl (by omega)) (cwV 1 hts (zgV_ wsM_all uM_25 uM_35 uM_36 uM_37 uM_21) rfl rfl rfl (by decide +kernel) ⟨Nat.le_of_ble_eq_true rfl, Nat.le_of_ble_eq_true rfl⟩) (zPreV (B := fun H => va_P V.1 vwCl (zmW V g ((mComes w n wr d mm).2) pa w av sl sv pd cd (nI k) le ap pl wy) H) hP hE (va_recv hE.1 hP (ci := 8) (q0 := 0) (q := (RX8, TX8, 13)) rfl (zm_c0 V g ((mComes w n wr d mm).2) pa w av sl sv pd cd (nI k) le ap pl wy))) rfl rfl hl.1 rfl (lv_room (Nat.le_of_ble_eq_true rfl)) dX8_slip_12 ⟨Nat.le_of_ble_eq_true rfl, Nat.le_of_ble_eq_true rfl⟩) hS (fun _ h => h) (fun _ h => h) (fun r_ H locs hQ_ _ _ hS => ?_)
  obtain ⟨hr_, hP⟩ := hQ_
  subst hr_
  exact zr_i hx hb hr hlocks hS (⟨rfl, hP⟩) dX8_slip_15
set_option maxHeartbeats 4000000 in
set_option maxRecDepth 100000 in
theorem c_X8_serve (l : Launch) (V : zV) (g : Nat → Nat) (w pa be av sl sv pd cd : Nat → Int32) (st le ap pl wy : Int32) (n k : Nat) (many : Int32) (hJ : zInj 9 g) (hok : mOK w n) (hst : st = nI k) (hk6 : k ≤ 6) : Met l yX8_serve wsX8_serve (zR 6 0 0) (zPc V [.ref (g 0), .int many] (fun H => va_P V.1 vwCl (zmW V g w pa be av sl sv pd cd st le ap pl wy) H)) (zQi (fun r H => r = ((mServes w n many).1) ∧ (∃ av' : Nat → Int32, ∃ pl' : Int32, ∃ wy' : Int32, va_P V.1 vwCl (zmW V g ((mServes w n many).2) (mRP pa w k ((mServes w n many).1)) w av' sl sv pd cd (nI (mRK k ((mServes w n many).1))) le ap pl' wy') H)) (zIn 9 g)) 0 0 (zIn 9 g) := by
  refine Met.ofW (cc := cX8_serve) (maxL := 2) (ret := (some .int)) (by decide) rfl ?_
  intro p e s m args below meth c s₁ B hml hv
  obtain ⟨rfl, hP, hE⟩ := hv
  have hx := B.exec
  have hb := B.bytes
  have hr := B.returns
  have hts := atoms_spec (ws := wsX8_serve) B.pre
  have hown : s.vm.findClass RX8 = some m.cls := findClass_of_methodNamed B.named
  have hlocks := B.notSynchronized
  have hl := lv_entry ([.ref (g 0), .int many]) (n := 2) (Nat.le_of_ble_eq_true rfl)
  rw [lg_entry_eq]
  generalize (lg_sl ([.ref (g 0), .int many]) ++ List.replicate (2 - (lg_sl ([.ref (g 0), .int many])).length) Slot.unset).toArray = ls at hl ⊢
  have hl : lv_has ls 2 [(0, .ref (g 0)), (1, .int many)] := hl
  have hS : va_S (zIn 9 g) s.heap s.heap [] := va_S.rf
  subst hst
  have hok0 : mOK w n := hok
  obtain ⟨hn, h30, hwr, hfd⟩ := hok
  refine lv_aload_n hx hb dX8_serve_0 rfl (lv_at hl 0 rfl) ?_
  refine zc_v (va_runV (As := []) (rest := []) ⟨hx, hb, hml, hown, hts⟩ (c_X8_remember l V g w pa be av sl sv pd cd (nI k) le ap pl wy  hJ) (cwV 0 hts (zgV_ wsM_all uM_24 uM_32 uM_33 uM_34 uM_21) rfl rfl rfl (by decide +kernel) ⟨Nat.le_of_ble_eq_true rfl, Nat.le_of_ble_eq_true rfl⟩) (zPreV (B := fun H => va_P V.1 vwCl (zmW V g w pa be av sl sv pd cd (nI k) le ap pl wy) H) hP hE (va_recv hE.1 hP (ci := 8) (q0 := 0) (q := (RX8, TX8, 13)) rfl (zm_c0 V g w pa be av sl sv pd cd (nI k) le ap pl wy))) rfl rfl hl.1 rfl (lv_room (Nat.le_of_ble_eq_true rfl)) dX8_serve_1 ⟨Nat.le_of_ble_eq_true rfl, Nat.le_of_ble_eq_true rfl⟩) hS (fun _ h => h) (fun _ h => h) (fun H locs hQ_ _ _ hS => ?_)
  have hP := hQ_
  refine lv_aload_n hx hb dX8_serve_4 rfl (lv_at hl 0 rfl) ?_
  refine lv_aload_n hx hb dX8_serve_5 rfl (lv_at hl 0 rfl) ?_
  refine lv_iload_n hx hb dX8_serve_6 rfl (lv_at hl 1 rfl) ?_
  refine zc_i (va_runV (As := [.int many]) (rest := [.ref (g 0)]) ⟨hx, hb, hml, hown, hts⟩ (c_X8_serves l V g w pa w av sl sv pd cd (nI k) le ap pl wy  n many hJ hok0) (cwV 1 hts (zgV_ wsM_all uM_91 uM_119 uM_120 uM_121 uM_21) rfl rfl rfl (by decide +kernel) ⟨Nat.le_of_ble_eq_true rfl, Nat.le_of_ble_eq_true rfl⟩) (zPreV (B := fun H => va_P V.1 vwCl (zmW V g w pa w av sl sv pd cd (nI k) le ap pl wy) H) hP hE (va_recv hE.1 hP (ci := 8) (q0 := 0) (q := (RX8, TX8, 13)) rfl (zm_c0 V g w pa w av sl sv pd cd (nI k) le ap pl wy))) rfl rfl hl.1 rfl (lv_room (Nat.le_of_ble_eq_true rfl)) dX8_serve_7 ⟨Nat.le_of_ble_eq_true rfl, Nat.le_of_ble_eq_true rfl⟩) hS (fun _ h => h) (fun _ h => h) (fun r_ H locs hQ_ _ _ hS => ?_)
  obtain ⟨hr_, av'_1, pl'_2, wy'_3, hP⟩ := hQ_
  subst hr_
  refine zc_i (va_runV (As := [.int ((mServes w n many).1)]) (rest := []) ⟨hx, hb, hml, hown, hts⟩ (c_X8_record l V g ((mServes w n many).2) pa w av'_1 sl sv pd cd (nI k) le ap pl'_2 wy'_3  k ((mServes w n many).1) hJ rfl (by omega)) (cwV 1 hts (zgV_ wsM_all uM_25 uM_35 uM_36 uM_37 uM_21) rfl rfl rfl (by decide +kernel) ⟨Nat.le_of_ble_eq_true rfl, Nat.le_of_ble_eq_true rfl⟩) (zPreV (B := fun H => va_P V.1 vwCl (zmW V g ((mServes w n many).2) pa w av'_1 sl sv pd cd (nI k) le ap pl'_2 wy'_3) H) hP hE (va_recv hE.1 hP (ci := 8) (q0 := 0) (q := (RX8, TX8, 13)) rfl (zm_c0 V g ((mServes w n many).2) pa w av'_1 sl sv pd cd (nI k) le ap pl'_2 wy'_3))) rfl rfl hl.1 rfl (lv_room (Nat.le_of_ble_eq_true rfl)) dX8_serve_10 ⟨Nat.le_of_ble_eq_true rfl, Nat.le_of_ble_eq_true rfl⟩) hS (fun _ h => h) (fun _ h => h) (fun r_ H locs hQ_ _ _ hS => ?_)
  obtain ⟨hr_, hP⟩ := hQ_
  subst hr_
  exact zr_i hx hb hr hlocks hS (⟨rfl, _, _, _, hP⟩) dX8_serve_13
set_option maxHeartbeats 4000000 in
set_option maxRecDepth 100000 in
theorem c_X8_pass (l : Launch) (V : zV) (g : Nat → Nat) (w pa be av sl sv pd cd : Nat → Int32) (st le ap pl wy : Int32) (n k : Nat) (mi : Int32) (hJ : zInj 9 g) (hok : mOK w n) (hst : st = nI k) (hk6 : k ≤ 6) : Met l yX8_pass wsX8_pass (zR 2 0 0) (zPc V [.ref (g 0), .int mi] (fun H => va_P V.1 vwCl (zmW V g w pa be av sl sv pd cd st le ap pl wy) H)) (zQi (fun r H => r = ((mWaits w mi).1) ∧ va_P V.1 vwCl (zmW V g ((mWaits w mi).2) (mRP pa w k ((mWaits w mi).1)) w av sl sv pd cd (nI (mRK k ((mWaits w mi).1))) le ap pl wy) H) (zIn 9 g)) 0 0 (zIn 9 g) := by
  refine Met.ofW (cc := cX8_pass) (maxL := 2) (ret := (some .int)) (by decide) rfl ?_
  intro p e s m args below meth c s₁ B hml hv
  obtain ⟨rfl, hP, hE⟩ := hv
  have hx := B.exec
  have hb := B.bytes
  have hr := B.returns
  have hts := atoms_spec (ws := wsX8_pass) B.pre
  have hown : s.vm.findClass RX8 = some m.cls := findClass_of_methodNamed B.named
  have hlocks := B.notSynchronized
  have hl := lv_entry ([.ref (g 0), .int mi]) (n := 2) (Nat.le_of_ble_eq_true rfl)
  rw [lg_entry_eq]
  generalize (lg_sl ([.ref (g 0), .int mi]) ++ List.replicate (2 - (lg_sl ([.ref (g 0), .int mi])).length) Slot.unset).toArray = ls at hl ⊢
  have hl : lv_has ls 2 [(0, .ref (g 0)), (1, .int mi)] := hl
  have hS : va_S (zIn 9 g) s.heap s.heap [] := va_S.rf
  subst hst
  have hok0 : mOK w n := hok
  obtain ⟨hn, h30, hwr, hfd⟩ := hok
  refine lv_aload_n hx hb dX8_pass_0 rfl (lv_at hl 0 rfl) ?_
  refine zc_v (va_runV (As := []) (rest := []) ⟨hx, hb, hml, hown, hts⟩ (c_X8_remember l V g w pa be av sl sv pd cd (nI k) le ap pl wy  hJ) (cwV 0 hts (zgV_ wsM_all uM_24 uM_32 uM_33 uM_34 uM_21) rfl rfl rfl (by decide +kernel) ⟨Nat.le_of_ble_eq_true rfl, Nat.le_of_ble_eq_true rfl⟩) (zPreV (B := fun H => va_P V.1 vwCl (zmW V g w pa be av sl sv pd cd (nI k) le ap pl wy) H) hP hE (va_recv hE.1 hP (ci := 8) (q0 := 0) (q := (RX8, TX8, 13)) rfl (zm_c0 V g w pa be av sl sv pd cd (nI k) le ap pl wy))) rfl rfl hl.1 rfl (lv_room (Nat.le_of_ble_eq_true rfl)) dX8_pass_1 ⟨Nat.le_of_ble_eq_true rfl, Nat.le_of_ble_eq_true rfl⟩) hS (fun _ h => h) (fun _ h => h) (fun H locs hQ_ _ _ hS => ?_)
  have hP := hQ_
  refine lv_aload_n hx hb dX8_pass_4 rfl (lv_at hl 0 rfl) ?_
  refine lv_aload_n hx hb dX8_pass_5 rfl (lv_at hl 0 rfl) ?_
  refine lv_iload_n hx hb dX8_pass_6 rfl (lv_at hl 1 rfl) ?_
  refine zc_i (va_runV (As := [.int mi]) (rest := [.ref (g 0)]) ⟨hx, hb, hml, hown, hts⟩ (c_X8_waits l V g w pa w av sl sv pd cd (nI k) le ap pl wy  mi hJ) (cwV 1 hts (zgV_ wsM_all uM_102 uM_123 uM_124 uM_125 uM_21) rfl rfl rfl (by decide +kernel) ⟨Nat.le_of_ble_eq_true rfl, Nat.le_of_ble_eq_true rfl⟩) (zPreV (B := fun H => va_P V.1 vwCl (zmW V g w pa w av sl sv pd cd (nI k) le ap pl wy) H) hP hE (va_recv hE.1 hP (ci := 8) (q0 := 0) (q := (RX8, TX8, 13)) rfl (zm_c0 V g w pa w av sl sv pd cd (nI k) le ap pl wy))) rfl rfl hl.1 rfl (lv_room (Nat.le_of_ble_eq_true rfl)) dX8_pass_7 ⟨Nat.le_of_ble_eq_true rfl, Nat.le_of_ble_eq_true rfl⟩) hS (fun _ h => h) (fun _ h => h) (fun r_ H locs hQ_ _ _ hS => ?_)
  obtain ⟨hr_, hP⟩ := hQ_
  subst hr_
  refine zc_i (va_runV (As := [.int ((mWaits w mi).1)]) (rest := []) ⟨hx, hb, hml, hown, hts⟩ (c_X8_record l V g ((mWaits w mi).2) pa w av sl sv pd cd (nI k) le ap pl wy  k ((mWaits w mi).1) hJ rfl (by omega)) (cwV 1 hts (zgV_ wsM_all uM_25 uM_35 uM_36 uM_37 uM_21) rfl rfl rfl (by decide +kernel) ⟨Nat.le_of_ble_eq_true rfl, Nat.le_of_ble_eq_true rfl⟩) (zPreV (B := fun H => va_P V.1 vwCl (zmW V g ((mWaits w mi).2) pa w av sl sv pd cd (nI k) le ap pl wy) H) hP hE (va_recv hE.1 hP (ci := 8) (q0 := 0) (q := (RX8, TX8, 13)) rfl (zm_c0 V g ((mWaits w mi).2) pa w av sl sv pd cd (nI k) le ap pl wy))) rfl rfl hl.1 rfl (lv_room (Nat.le_of_ble_eq_true rfl)) dX8_pass_10 ⟨Nat.le_of_ble_eq_true rfl, Nat.le_of_ble_eq_true rfl⟩) hS (fun _ h => h) (fun _ h => h) (fun r_ H locs hQ_ _ _ hS => ?_)
  obtain ⟨hr_, hP⟩ := hQ_
  subst hr_
  exact zr_i hx hb hr hlocks hS (⟨rfl, hP⟩) dX8_pass_13
def mTear (w pa : Nat → Int32) (n k : Nat) (x : Int32) : Int32 × (Nat → Int32) × (Nat → Int32) × Nat := match mFind w n x with
  | none => (-1, w, pa, k)
  | some j => (w 6 - zF w j 4, mDrop w n j, mRP pa w k (w 6 - zF w j 4), mRK k (w 6 - zF w j 4))
def mSet (w pa : Nat → Int32) (k : Nat) (x v : Int32) : Int32 × (Nat → Int32) × (Nat → Int32) × Nat :=
  if (0 ≤ x ∧ x ≤ 5) ∧ (mLeast x ≤ v ∧ v ≤ mMost x) then (w x.toNatClampNeg, upd w x.toNatClampNeg v, mRP pa w k (w x.toNatClampNeg), mRK k (w x.toNatClampNeg)) else (-2, w, pa, k)
set_option maxHeartbeats 4000000 in
set_option maxRecDepth 100000 in
theorem c_X8_tear (l : Launch) (V : zV) (g : Nat → Nat) (w pa be av sl sv pd cd : Nat → Int32) (st le ap pl wy : Int32) (n k : Nat) (x : Int32) (hJ : zInj 9 g) (hok : mOK w n) (hst : st = nI k) (hk6 : k ≤ 6) : Met l yX8_tear wsX8_tear (zR 2 0 0) (zPc V [.ref (g 0), .int x] (fun H => va_P V.1 vwCl (zmW V g w pa be av sl sv pd cd st le ap pl wy) H)) (zQi (fun r H => r = ((mTear w pa n k x).1) ∧ (∃ be' : Nat → Int32, va_P V.1 vwCl (zmW V g ((mTear w pa n k x).2.1) ((mTear w pa n k x).2.2.1) be' av sl sv pd cd (nI (mTear w pa n k x).2.2.2) le ap pl wy) H)) (zIn 9 g)) 0 0 (zIn 9 g) := by
  refine Met.ofW (cc := cX8_tear) (maxL := 4) (ret := (some .int)) (by decide) rfl ?_
  intro p e s m args below meth c s₁ B hml hv
  obtain ⟨rfl, hP, hE⟩ := hv
  have hx := B.exec
  have hb := B.bytes
  have hr := B.returns
  have hts := atoms_spec (ws := wsX8_tear) B.pre
  have hown : s.vm.findClass RX8 = some m.cls := findClass_of_methodNamed B.named
  have hlocks := B.notSynchronized
  have hl := lv_entry ([.ref (g 0), .int x]) (n := 4) (Nat.le_of_ble_eq_true rfl)
  rw [lg_entry_eq]
  generalize (lg_sl ([.ref (g 0), .int x]) ++ List.replicate (4 - (lg_sl ([.ref (g 0), .int x])).length) Slot.unset).toArray = ls at hl ⊢
  have hl : lv_has ls 4 [(0, .ref (g 0)), (1, .int x)] := hl
  have hS : va_S (zIn 9 g) s.heap s.heap [] := va_S.rf
  subst hst
  have hok0 : mOK w n := hok
  obtain ⟨hn, h30, hwr, hfd⟩ := hok
  refine lv_aload_n hx hb dX8_tear_0 rfl (lv_at hl 0 rfl) ?_
  refine lv_iload_n hx hb dX8_tear_1 rfl (lv_at hl 1 rfl) ?_
  refine zc_se (va_runV (As := [.int x]) (rest := []) ⟨hx, hb, hml, hown, hts⟩ (c_X8_find l V g w pa be av sl sv pd cd (nI k) le ap pl wy n x hn h30) (cwV 1 hts (zgV_ wsM_all uM_22 uM_115 uM_116 uM_117 uM_21) rfl rfl rfl (by decide +kernel) ⟨Nat.le_of_ble_eq_true rfl, Nat.le_of_ble_eq_true rfl⟩) (zPreV (B := fun H => va_P V.1 vwCl (zmW V g w pa be av sl sv pd cd (nI k) le ap pl wy) H) hP hE (va_recv hE.1 hP (ci := 8) (q0 := 0) (q := (RX8, TX8, 13)) rfl (zm_c0 V g w pa be av sl sv pd cd (nI k) le ap pl wy))) rfl rfl hl.1 rfl (lv_room (Nat.le_of_ble_eq_true rfl)) dX8_tear_2 ⟨Nat.le_of_ble_eq_true rfl, Nat.le_of_ble_eq_true rfl⟩) ?_
  rcases hq : mFind w n x with _ | j
  · refine zt_i (y := (-6)) (by first | rfl | exact congrArg zoI hq) ?_
    refine lv_istore_n (lv' := [(2, .int (-6)), (0, .ref (g 0)), (1, .int x)]) hx hb dX8_tear_5 rfl hl (by decide) rfl (fun ls hl => ?_)
    refine lv_iload_n hx hb dX8_tear_6 rfl (lv_at hl 0 rfl) ?_
    refine lv_bipush (v := (-6)) hx hb dX8_tear_7 (by decide +kernel) ?_
    refine lv_icmp_ne (tgt := 14) hx hb dX8_tear_9 (by decide) (fun c_9 => ?_) (fun c_9 => ?_)
    · exact absurd rfl c_9
    · refine lv_iconst (v := (-1)) hx hb dX8_tear_12 (by decide +kernel) ?_
      exact zr_i hx hb hr hlocks hS (⟨by rw [mTear, hq], _, by rw [show mTear w pa n k x = (-1, w, pa, k) by rw [mTear, hq]]; exact hP⟩) dX8_tear_13
  · refine zt_i (y := nI j) (by first | rfl | exact congrArg zoI hq) ?_
    have hjn : j < n := (zFirst_lt hq).1
    refine lv_istore_n (lv' := [(2, .int (nI j)), (0, .ref (g 0)), (1, .int x)]) hx hb dX8_tear_5 rfl hl (by decide) rfl (fun ls hl => ?_)
    refine lv_iload_n hx hb dX8_tear_6 rfl (lv_at hl 0 rfl) ?_
    refine lv_bipush (v := (-6)) hx hb dX8_tear_7 (by decide +kernel) ?_
    refine lv_icmp_ne (tgt := 14) hx hb dX8_tear_9 (by decide) (fun c_9 => ?_) (fun c_9 => ?_)
    · refine lv_aload_n hx hb dX8_tear_14 rfl (lv_at hl 1 rfl) ?_
      refine zc_v (va_runV (As := []) (rest := []) ⟨hx, hb, hml, hown, hts⟩ (c_X8_remember l V g w pa be av sl sv pd cd (nI k) le ap pl wy  hJ) (cwV 0 hts (zgV_ wsM_all uM_24 uM_32 uM_33 uM_34 uM_21) rfl rfl rfl (by decide +kernel) ⟨Nat.le_of_ble_eq_true rfl, Nat.le_of_ble_eq_true rfl⟩) (zPreV (B := fun H => va_P V.1 vwCl (zmW V g w pa be av sl sv pd cd (nI k) le ap pl wy) H) hP hE (va_recv hE.1 hP (ci := 8) (q0 := 0) (q := (RX8, TX8, 13)) rfl (zm_c0 V g w pa be av sl sv pd cd (nI k) le ap pl wy))) rfl rfl hl.1 rfl (lv_room (Nat.le_of_ble_eq_true rfl)) dX8_tear_15 ⟨Nat.le_of_ble_eq_true rfl, Nat.le_of_ble_eq_true rfl⟩) hS (fun _ h => h) (fun _ h => h) (fun H locs hQ_ _ _ hS => ?_)
      have hP := hQ_
      refine lv_aload_n hx hb dX8_tear_18 rfl (lv_at hl 1 rfl) ?_
      refine zm_get 0 (.ref (g 1)) hx hb hts (fun x h => List.mem_cons_of_mem _ (hU_X8 x h)) hown hE hP (by decide) rfl (hts _ (List.mem_cons_of_mem _ uM_5)) (fun _ h9 => h9) dX8_tear_19 ?_
      refine lv_bipush (v := 6) hx hb dX8_tear_22 (by decide +kernel) ?_
      refine z_iald (k := 6) hx hb hE hP 1 (zm_c1 V g w pa w av sl sv pd cd (nI k) le ap pl wy) (by omega) (by decide) dX8_tear_24 ?_
      refine lv_aload_n hx hb dX8_tear_25 rfl (lv_at hl 1 rfl) ?_
      refine lv_iload_n hx hb dX8_tear_26 rfl (lv_at hl 0 rfl) ?_
      refine lv_iconst (v := 4) hx hb dX8_tear_27 (by decide +kernel) ?_
      refine zc_se (va_runV (As := [.int (nI j), .int 4]) (rest := [.int (w 6)]) ⟨hx, hb, hml, hown, hts⟩ (c_X8_its l V g w pa w av sl sv pd cd (nI k) le ap pl wy j 4 (by omega)) (cwV 2 hts (zgV_ wsM_all uM_16 uM_18 uM_19 uM_20 uM_21) rfl rfl rfl (by decide +kernel) ⟨Nat.le_of_ble_eq_true rfl, Nat.le_of_ble_eq_true rfl⟩) (zPreV (B := fun H => va_P V.1 vwCl (zmW V g w pa w av sl sv pd cd (nI k) le ap pl wy) H) hP hE (va_recv hE.1 hP (ci := 8) (q0 := 0) (q := (RX8, TX8, 13)) rfl (zm_c0 V g w pa w av sl sv pd cd (nI k) le ap pl wy))) rfl rfl hl.1 rfl (lv_room (Nat.le_of_ble_eq_true rfl)) dX8_tear_28 ⟨Nat.le_of_ble_eq_true rfl, Nat.le_of_ble_eq_true rfl⟩) ?_
      refine lv_isub hx hb dX8_tear_31 ?_
      refine lv_istore_n (lv' := [(3, .int ((w 6) - (zF w j 4))), (2, .int (nI j)), (0, .ref (g 0)), (1, .int x)]) hx hb dX8_tear_32 rfl hl (by decide) rfl (fun ls hl => ?_)
      refine lv_aload_n hx hb dX8_tear_33 rfl (lv_at hl 2 rfl) ?_
      refine lv_iload_n hx hb dX8_tear_34 rfl (lv_at hl 1 rfl) ?_
      refine zc_v (va_runV (As := [.int (nI j)]) (rest := []) ⟨hx, hb, hml, hown, hts⟩ (c_X8_drop l V g w pa w av sl sv pd cd (nI k) le ap pl wy  n j hJ hn h30 (by omega)) (cwV 1 hts (zgV_ wsM_all uM_65 uM_80 uM_81 uM_82 uM_21) rfl rfl rfl (by decide +kernel) ⟨Nat.le_of_ble_eq_true rfl, Nat.le_of_ble_eq_true rfl⟩) (zPreV (B := fun H => va_P V.1 vwCl (zmW V g w pa w av sl sv pd cd (nI k) le ap pl wy) H) hP hE (va_recv hE.1 hP (ci := 8) (q0 := 0) (q := (RX8, TX8, 13)) rfl (zm_c0 V g w pa w av sl sv pd cd (nI k) le ap pl wy))) rfl rfl hl.1 rfl (lv_room (Nat.le_of_ble_eq_true rfl)) dX8_tear_35 ⟨Nat.le_of_ble_eq_true rfl, Nat.le_of_ble_eq_true rfl⟩) hS (fun _ h => h) (fun _ h => h) (fun H locs hQ_ _ _ hS => ?_)
      have hP := hQ_
      refine lv_aload_n hx hb dX8_tear_38 rfl (lv_at hl 2 rfl) ?_
      refine lv_iload_n hx hb dX8_tear_39 rfl (lv_at hl 0 rfl) ?_
      refine zc_i (va_runV (As := [.int ((w 6) - (zF w j 4))]) (rest := []) ⟨hx, hb, hml, hown, hts⟩ (c_X8_record l V g (mDrop w n j) pa w av sl sv pd cd (nI k) le ap pl wy  k ((w 6) - (zF w j 4)) hJ rfl (by omega)) (cwV 1 hts (zgV_ wsM_all uM_25 uM_35 uM_36 uM_37 uM_21) rfl rfl rfl (by decide +kernel) ⟨Nat.le_of_ble_eq_true rfl, Nat.le_of_ble_eq_true rfl⟩) (zPreV (B := fun H => va_P V.1 vwCl (zmW V g (mDrop w n j) pa w av sl sv pd cd (nI k) le ap pl wy) H) hP hE (va_recv hE.1 hP (ci := 8) (q0 := 0) (q := (RX8, TX8, 13)) rfl (zm_c0 V g (mDrop w n j) pa w av sl sv pd cd (nI k) le ap pl wy))) rfl rfl hl.1 rfl (lv_room (Nat.le_of_ble_eq_true rfl)) dX8_tear_40 ⟨Nat.le_of_ble_eq_true rfl, Nat.le_of_ble_eq_true rfl⟩) hS (fun _ h => h) (fun _ h => h) (fun r_ H locs hQ_ _ _ hS => ?_)
      obtain ⟨hr_, hP⟩ := hQ_
      subst hr_
      exact zr_i hx hb hr hlocks hS (⟨by rw [mTear, hq], _, by rw [show mTear w pa n k x = (w 6 - zF w j 4, mDrop w n j, mRP pa w k (w 6 - zF w j 4), mRK k (w 6 - zF w j 4)) by rw [mTear, hq]]; exact hP⟩) dX8_tear_43
    · exact absurd c_9 (z_n6 (by omega))
set_option maxHeartbeats 4000000 in
set_option maxRecDepth 100000 in
theorem c_X8_set (l : Launch) (V : zV) (g : Nat → Nat) (w pa be av sl sv pd cd : Nat → Int32) (st le ap pl wy : Int32) (k : Nat) (x v_ : Int32) (hJ : zInj 9 g) (hst : st = nI k) (hk6 : k ≤ 6) : Met l yX8_set wsX8_set (zR 1 0 0) (zPc V [.ref (g 0), .int x, .int v_] (fun H => va_P V.1 vwCl (zmW V g w pa be av sl sv pd cd st le ap pl wy) H)) (zQi (fun r H => r = ((mSet w pa k x v_).1) ∧ (∃ be' : Nat → Int32, va_P V.1 vwCl (zmW V g ((mSet w pa k x v_).2.1) ((mSet w pa k x v_).2.2.1) be' av sl sv pd cd (nI (mSet w pa k x v_).2.2.2) le ap pl wy) H)) (zIn 9 g)) 0 0 (zIn 9 g) := by
  refine Met.ofW (cc := cX8_set) (maxL := 4) (ret := (some .int)) (by decide) rfl ?_
  intro p e s m args below meth c s₁ B hml hv
  obtain ⟨rfl, hP, hE⟩ := hv
  have hx := B.exec
  have hb := B.bytes
  have hr := B.returns
  have hts := atoms_spec (ws := wsX8_set) B.pre
  have hown : s.vm.findClass RX8 = some m.cls := findClass_of_methodNamed B.named
  have hlocks := B.notSynchronized
  have hl := lv_entry ([.ref (g 0), .int x, .int v_]) (n := 4) (Nat.le_of_ble_eq_true rfl)
  rw [lg_entry_eq]
  generalize (lg_sl ([.ref (g 0), .int x, .int v_]) ++ List.replicate (4 - (lg_sl ([.ref (g 0), .int x, .int v_])).length) Slot.unset).toArray = ls at hl ⊢
  have hl : lv_has ls 4 [(0, .ref (g 0)), (1, .int x), (2, .int v_)] := hl
  have hS : va_S (zIn 9 g) s.heap s.heap [] := va_S.rf
  subst hst
  refine lv_iload_n hx hb dX8_set_0 rfl (lv_at hl 1 rfl) ?_
  refine lv_i2l (v := x.toInt64) hx hb dX8_set_1 rfl ?_
  refine lv_iconst (v := 0) hx hb dX8_set_2 (by decide +kernel) ?_
  refine lv_iconst (v := 5) hx hb dX8_set_3 (by decide +kernel) ?_
  refine zc_se (va_runS (As := [.long x.toInt64, .int 0, .int 5]) (rest := []) ⟨hx, hb, hml, hown, hts⟩ (c_X8_in l V x 0 5) (va_cwS 3 hts (zgS_ wsM_all uM_14 uM_29 uM_30 uM_21) rfl rfl rfl (by decide +kernel) ⟨Nat.le_of_ble_eq_true rfl, Nat.le_of_ble_eq_true rfl⟩) (zPreS (B := fun _ => True) trivial hE) rfl rfl hl.1 rfl (lv_room (Nat.le_of_ble_eq_true rfl)) dX8_set_4 ⟨Nat.le_of_ble_eq_true rfl, Nat.le_of_ble_eq_true rfl⟩) ?_
  refine zbp_eq (P := 0 ≤ x ∧ x ≤ 5) (tgt := 26) hx hb dX8_set_7 (by decide) (fun c_7 => ?_) (fun c_7 => ?_)
  · refine lv_bipush (v := (-2)) hx hb dX8_set_26 (by decide +kernel) ?_
    exact zr_i hx hb hr hlocks hS (⟨by rw [mSet, if_neg (by first | exact fun h => c_7 h.1 | exact fun h => c_23 h.2)], _, by rw [show mSet w pa k x v_ = (-2, w, pa, k) by rw [mSet, if_neg (by first | exact fun h => c_7 h.1 | exact fun h => c_23 h.2)]]; exact hP⟩) dX8_set_28
  · refine lv_iload_n hx hb dX8_set_10 rfl (lv_at hl 2 rfl) ?_
    refine lv_i2l (v := v_.toInt64) hx hb dX8_set_11 rfl ?_
    refine lv_iload_n hx hb dX8_set_12 rfl (lv_at hl 1 rfl) ?_
    refine zc_se (va_runS (As := [.int x]) (rest := [.long v_.toInt64]) ⟨hx, hb, hml, hown, hts⟩ (c_X8_leastOf l V x) (va_cwS 1 hts (zgS_ wsM_all uM_103 uM_106 uM_107 uM_21) rfl rfl rfl (by decide +kernel) ⟨Nat.le_of_ble_eq_true rfl, Nat.le_of_ble_eq_true rfl⟩) (zPreS (B := fun _ => True) trivial hE) rfl rfl hl.1 rfl (lv_room (Nat.le_of_ble_eq_true rfl)) dX8_set_13 ⟨Nat.le_of_ble_eq_true rfl, Nat.le_of_ble_eq_true rfl⟩) ?_
    refine lv_iload_n hx hb dX8_set_16 rfl (lv_at hl 1 rfl) ?_
    refine zc_se (va_runS (As := [.int x]) (rest := [.int (mLeast x), .long v_.toInt64]) ⟨hx, hb, hml, hown, hts⟩ (c_X8_mostOf l V x) (va_cwS 1 hts (zgS_ wsM_all uM_104 uM_108 uM_109 uM_21) rfl rfl rfl (by decide +kernel) ⟨Nat.le_of_ble_eq_true rfl, Nat.le_of_ble_eq_true rfl⟩) (zPreS (B := fun _ => True) trivial hE) rfl rfl hl.1 rfl (lv_room (Nat.le_of_ble_eq_true rfl)) dX8_set_17 ⟨Nat.le_of_ble_eq_true rfl, Nat.le_of_ble_eq_true rfl⟩) ?_
    refine zc_se (va_runS (As := [.long v_.toInt64, .int (mLeast x), .int (mMost x)]) (rest := []) ⟨hx, hb, hml, hown, hts⟩ (c_X8_in l V v_ (mLeast x) (mMost x)) (va_cwS 3 hts (zgS_ wsM_all uM_14 uM_29 uM_30 uM_21) rfl rfl rfl (by decide +kernel) ⟨Nat.le_of_ble_eq_true rfl, Nat.le_of_ble_eq_true rfl⟩) (zPreS (B := fun _ => True) trivial hE) rfl rfl hl.1 rfl (lv_room (Nat.le_of_ble_eq_true rfl)) dX8_set_20 ⟨Nat.le_of_ble_eq_true rfl, Nat.le_of_ble_eq_true rfl⟩) ?_
    refine zbp_ne (P := mLeast x ≤ v_ ∧ v_ ≤ mMost x) (tgt := 29) hx hb dX8_set_23 (by decide) (fun c_23 => ?_) (fun c_23 => ?_)
    · obtain ⟨j, rfl, -, hj5⟩ := z_ix (na := 0) (nb := 5) rfl rfl (by decide) (by decide) c_7
      refine lv_aload_n hx hb dX8_set_29 rfl (lv_at hl 0 rfl) ?_
      refine zc_v (va_runV (As := []) (rest := []) ⟨hx, hb, hml, hown, hts⟩ (c_X8_remember l V g w pa be av sl sv pd cd (nI k) le ap pl wy  hJ) (cwV 0 hts (zgV_ wsM_all uM_24 uM_32 uM_33 uM_34 uM_21) rfl rfl rfl (by decide +kernel) ⟨Nat.le_of_ble_eq_true rfl, Nat.le_of_ble_eq_true rfl⟩) (zPreV (B := fun H => va_P V.1 vwCl (zmW V g w pa be av sl sv pd cd (nI k) le ap pl wy) H) hP hE (va_recv hE.1 hP (ci := 8) (q0 := 0) (q := (RX8, TX8, 13)) rfl (zm_c0 V g w pa be av sl sv pd cd (nI k) le ap pl wy))) rfl rfl hl.1 rfl (lv_room (Nat.le_of_ble_eq_true rfl)) dX8_set_30 ⟨Nat.le_of_ble_eq_true rfl, Nat.le_of_ble_eq_true rfl⟩) hS (fun _ h => h) (fun _ h => h) (fun H locs hQ_ _ _ hS => ?_)
      have hP := hQ_
      refine lv_aload_n hx hb dX8_set_33 rfl (lv_at hl 0 rfl) ?_
      refine zm_get 0 (.ref (g 1)) hx hb hts (fun x h => List.mem_cons_of_mem _ (hU_X8 x h)) hown hE hP (by decide) rfl (hts _ (List.mem_cons_of_mem _ uM_5)) (fun _ h9 => h9) dX8_set_34 ?_
      refine lv_iload_n hx hb dX8_set_37 rfl (lv_at hl 1 rfl) ?_
      refine z_iald (k := j) hx hb hE hP 1 (zm_c1 V g w pa w av sl sv pd cd (nI k) le ap pl wy) (by omega) (by decide) dX8_set_38 ?_
      refine lv_istore_n (lv' := [(3, .int (w j)), (0, .ref (g 0)), (1, .int (nI j)), (2, .int v_)]) hx hb dX8_set_39 rfl hl (by decide) rfl (fun ls hl => ?_)
      refine lv_aload_n hx hb dX8_set_40 rfl (lv_at hl 1 rfl) ?_
      refine zm_get 0 (.ref (g 1)) hx hb hts (fun x h => List.mem_cons_of_mem _ (hU_X8 x h)) hown hE hP (by decide) rfl (hts _ (List.mem_cons_of_mem _ uM_5)) (fun _ h9 => h9) dX8_set_41 ?_
      refine lv_iload_n hx hb dX8_set_44 rfl (lv_at hl 2 rfl) ?_
      refine lv_iload_n hx hb dX8_set_45 rfl (lv_at hl 3 rfl) ?_
      refine zm_a1 j v_ hx hb hE hP hJ hS (by omega) dX8_set_46 (fun H locs hP hS => ?_)
      obtain ⟨w_1, ew_1⟩ : ∃ z, z = upd w j v_ := ⟨_, rfl⟩
      rw [← ew_1] at hP
      refine lv_aload_n hx hb dX8_set_47 rfl (lv_at hl 1 rfl) ?_
      refine lv_iload_n hx hb dX8_set_48 rfl (lv_at hl 0 rfl) ?_
      refine zc_i (va_runV (As := [.int (w j)]) (rest := []) ⟨hx, hb, hml, hown, hts⟩ (c_X8_record l V g w_1 pa w av sl sv pd cd (nI k) le ap pl wy  k (w j) hJ rfl (by omega)) (cwV 1 hts (zgV_ wsM_all uM_25 uM_35 uM_36 uM_37 uM_21) rfl rfl rfl (by decide +kernel) ⟨Nat.le_of_ble_eq_true rfl, Nat.le_of_ble_eq_true rfl⟩) (zPreV (B := fun H => va_P V.1 vwCl (zmW V g w_1 pa w av sl sv pd cd (nI k) le ap pl wy) H) hP hE (va_recv hE.1 hP (ci := 8) (q0 := 0) (q := (RX8, TX8, 13)) rfl (zm_c0 V g w_1 pa w av sl sv pd cd (nI k) le ap pl wy))) rfl rfl hl.1 rfl (lv_room (Nat.le_of_ble_eq_true rfl)) dX8_set_49 ⟨Nat.le_of_ble_eq_true rfl, Nat.le_of_ble_eq_true rfl⟩) hS (fun _ h => h) (fun _ h => h) (fun r_ H locs hQ_ _ _ hS => ?_)
      obtain ⟨hr_, hP⟩ := hQ_
      subst hr_
      exact zr_i hx hb hr hlocks hS (⟨by rw [mSet, if_pos ⟨c_7, c_23⟩, nI_clamp (by omega)], _, by rw [show mSet w pa k (nI j) v_ = (w j, w_1, mRP pa w k (w j), mRK k (w j)) by rw [mSet, if_pos ⟨c_7, c_23⟩, nI_clamp (by omega), ew_1]]; exact hP⟩) dX8_set_52
    · refine lv_bipush (v := (-2)) hx hb dX8_set_26 (by decide +kernel) ?_
      exact zr_i hx hb hr hlocks hS (⟨by rw [mSet, if_neg (by first | exact fun h => c_7 h.1 | exact fun h => c_23 h.2)], _, by rw [show mSet w pa k x v_ = (-2, w, pa, k) by rw [mSet, if_neg (by first | exact fun h => c_7 h.1 | exact fun h => c_23 h.2)]]; exact hP⟩) dX8_set_28
