theorem zw_sz {p : Program} {l : Launch} {e : Env} {R : Room} {s : State} {m : MethodId} {args : Array Value} {below : List Frame} {meth : Method} {c : Code} {H : Heap} {locs : List Loc} {cells slots : Nat} {Q : State → Prop} {g : JFrame} (kk : H.size ≤ s.heap.size + cells → W p l e R s m args below meth c H locs cells slots Q g) : W p l e R s m args below meth c H locs cells slots Q g := fun T hT X => kk (by rw [← hT]; exact X.heapSize) T hT X
set_option maxHeartbeats 4000000 in
set_option maxRecDepth 100000 in
theorem c_X5_initN (l : Launch) (V : zV) (b : Nat) : Met l yX5_init wsX5_init (zR 1 0 0) (zPc V [.ref b, .null] (fun H => H.size = b + 1 ∧ va_at V.1 vwCl (b, .inr (5, [.null, .int 0, .int 0, .int 0, .int 0, .int 0, .int 0, .int 0])) H)) (zQv (fun H => H.size = b + 1 ∧ va_at V.1 vwCl (b, .inr (5, zsO none (fun _ => 0))) H) (fun q => b ≤ q)) 0 0 (fun q => b ≤ q) := by
  refine Met.ofW (cc := cX5_init) (maxL := 2) (ret := none) (by decide) rfl ?_
  intro p e s m args below meth c s₁ B hml hv
  obtain ⟨rfl, hP, hE⟩ := hv
  have hx := B.exec
  have hb := B.bytes
  have hr := B.returns
  have hts := atoms_spec (ws := wsX5_init) B.pre
  have hown : s.vm.findClass RX5 = some m.cls := findClass_of_methodNamed B.named
  have hlocks := B.notSynchronized
  have hl := lv_entry ([.ref b, .null]) (n := 2) (Nat.le_of_ble_eq_true rfl)
  rw [lg_entry_eq]
  generalize (lg_sl ([.ref b, .null]) ++ List.replicate (2 - (lg_sl ([.ref b, .null])).length) Slot.unset).toArray = ls at hl ⊢
  have hl : lv_has ls 2 [(0, .ref b), (1, .null)] := hl
  have hin : meth.name = "<init>" := (name_of_methodNamed B.named B.method).1
  obtain ⟨hz, hthis⟩ := hP
  have hS : va_S (fun q => b ≤ q) s.heap s.heap [] := va_S.rf
  refine lv_aload_n hx hb dX5_init_0 rfl (lv_at hl 0 rfl) ?_
  refine W.objInit hx hb hown (hts _ (List.mem_cons_of_mem _ uC_10)) (hts _ (List.mem_cons_of_mem _ uC_2)) (hts _ (List.mem_cons_of_mem _ uC_3)) rfl (by rw [hml]; exact hl.1) rfl dX5_init_1 (Nat.le_of_ble_eq_true rfl) (Nat.le_of_ble_eq_true rfl) ?_
  refine W.eq (g2 := F0 m 4 ls []) rfl ?_
  refine lv_aload_n hx hb dX5_init_4 rfl (lv_at hl 0 rfl) ?_
  refine lv_aload_nN hx hb dX5_init_5 rfl (lv_at hl 1 rfl) ?_
  refine zn_putF 0 .null (.object "DrawerSlips$Slip") hx hb hts (fun x h => List.mem_cons_of_mem _ (hU_X5 x h)) tyX5 tyX5_ok nmX5 hown hE hthis (show b ≤ b by omega) hS (show vwCl[5]? = some (RX5, TX5, 8) from rfl) (by decide) (Nat.le_of_ble_eq_true rfl) rfl hin rfl (by decide +kernel) rfl rfl (hts _ (List.mem_cons_of_mem _ uC_11)) (fun _ h9 => h9) dX5_init_6 (fun H_1 locs hthis z1_ o1_ hS => ?_)
  have kp_ : ∀ q, q < s.heap.size → q ≠ b → H_1[q]? = s.heap[q]? := fun q _ h => o1_ q h
  replace hz : H_1.size = b + 1 := z1_.trans hz
  clear kp_ z1_ o1_
  replace hthis : va_at V.1 vwCl (b, .inr (5, [.null, .int 0, .int 0, .int 0, .int 0, .int 0, .int 0, .int 0])) H_1 := hthis
  refine W.widen (k := 0) (n := 0) (by omega) (by omega) ?_
  exact zr_v hx hb hr hlocks hS (⟨hz, hthis⟩) dX5_init_9
set_option maxHeartbeats 4000000 in
set_option maxRecDepth 100000 in
theorem c_X5_init (l : Launch) (V : zV) (b : Nat) (r : Nat) : Met l yX5_init wsX5_init (zR 1 0 0) (zPc V [.ref b, .ref r] (fun H => H.size = b + 1 ∧ va_at V.1 vwCl (b, .inr (5, [.null, .int 0, .int 0, .int 0, .int 0, .int 0, .int 0, .int 0])) H)) (zQv (fun H => H.size = b + 1 ∧ va_at V.1 vwCl (b, .inr (5, zsO (some r) (fun _ => 0))) H) (fun q => b ≤ q)) 0 0 (fun q => b ≤ q) := by
  refine Met.ofW (cc := cX5_init) (maxL := 2) (ret := none) (by decide) rfl ?_
  intro p e s m args below meth c s₁ B hml hv
  obtain ⟨rfl, hP, hE⟩ := hv
  have hx := B.exec
  have hb := B.bytes
  have hr := B.returns
  have hts := atoms_spec (ws := wsX5_init) B.pre
  have hown : s.vm.findClass RX5 = some m.cls := findClass_of_methodNamed B.named
  have hlocks := B.notSynchronized
  have hl := lv_entry ([.ref b, .ref r]) (n := 2) (Nat.le_of_ble_eq_true rfl)
  rw [lg_entry_eq]
  generalize (lg_sl ([.ref b, .ref r]) ++ List.replicate (2 - (lg_sl ([.ref b, .ref r])).length) Slot.unset).toArray = ls at hl ⊢
  have hl : lv_has ls 2 [(0, .ref b), (1, .ref r)] := hl
  have hin : meth.name = "<init>" := (name_of_methodNamed B.named B.method).1
  obtain ⟨hz, hthis⟩ := hP
  have hS : va_S (fun q => b ≤ q) s.heap s.heap [] := va_S.rf
  refine lv_aload_n hx hb dX5_init_0 rfl (lv_at hl 0 rfl) ?_
  refine W.objInit hx hb hown (hts _ (List.mem_cons_of_mem _ uC_10)) (hts _ (List.mem_cons_of_mem _ uC_2)) (hts _ (List.mem_cons_of_mem _ uC_3)) rfl (by rw [hml]; exact hl.1) rfl dX5_init_1 (Nat.le_of_ble_eq_true rfl) (Nat.le_of_ble_eq_true rfl) ?_
  refine W.eq (g2 := F0 m 4 ls []) rfl ?_
  refine lv_aload_n hx hb dX5_init_4 rfl (lv_at hl 0 rfl) ?_
  refine lv_aload_n hx hb dX5_init_5 rfl (lv_at hl 1 rfl) ?_
  refine zn_putF 0 (.ref r) (.object "DrawerSlips$Slip") hx hb hts (fun x h => List.mem_cons_of_mem _ (hU_X5 x h)) tyX5 tyX5_ok nmX5 hown hE hthis (show b ≤ b by omega) hS (show vwCl[5]? = some (RX5, TX5, 8) from rfl) (by decide) (Nat.le_of_ble_eq_true rfl) rfl hin rfl (by decide +kernel) rfl rfl (hts _ (List.mem_cons_of_mem _ uC_11)) (fun _ h9 => h9) dX5_init_6 (fun H_1 locs hthis z1_ o1_ hS => ?_)
  have kp_ : ∀ q, q < s.heap.size → q ≠ b → H_1[q]? = s.heap[q]? := fun q _ h => o1_ q h
  replace hz : H_1.size = b + 1 := z1_.trans hz
  clear kp_ z1_ o1_
  replace hthis : va_at V.1 vwCl (b, .inr (5, [.ref r, .int 0, .int 0, .int 0, .int 0, .int 0, .int 0, .int 0])) H_1 := hthis
  refine W.widen (k := 0) (n := 0) (by omega) (by omega) ?_
  exact zr_v hx hb hr hlocks hS (⟨hz, hthis⟩) dX5_init_9
set_option maxHeartbeats 4000000 in
set_option maxRecDepth 100000 in
theorem c_X2_init (l : Launch) (V : zV) (b : Nat) : Met l yX2_init wsX2_init (zR 1 3 60) (zPc V [.ref b] (fun H => H.size = b + 1 ∧ va_at V.1 vwCl (b, .inr (2, [.null, .null, .null, .int 0])) H)) (zQv (fun H => H.size = b + 4 ∧ va_P V.1 vwCl (zlW V (fun p => b + p) 0 (fun _ => 0) (fun _ => 0) (fun _ => 0)) H) (fun q => b ≤ q)) 3 60 (fun q => b ≤ q) := by
  refine Met.ofW (cc := cX2_init) (maxL := 1) (ret := none) (by decide) rfl ?_
  intro p e s m args below meth c s₁ B hml hv
  obtain ⟨rfl, hP, hE⟩ := hv
  have hx := B.exec
  have hb := B.bytes
  have hr := B.returns
  have hts := atoms_spec (ws := wsX2_init) B.pre
  have hown : s.vm.findClass RX2 = some m.cls := findClass_of_methodNamed B.named
  have hlocks := B.notSynchronized
  have hl := lv_entry ([.ref b]) (n := 1) (Nat.le_of_ble_eq_true rfl)
  rw [lg_entry_eq]
  generalize (lg_sl ([.ref b]) ++ List.replicate (1 - (lg_sl ([.ref b])).length) Slot.unset).toArray = ls at hl ⊢
  have hl : lv_has ls 1 [(0, .ref b)] := hl
  have hin : meth.name = "<init>" := (name_of_methodNamed B.named B.method).1
  obtain ⟨hz, hthis⟩ := hP
  have hS : va_S (fun q => b ≤ q) s.heap s.heap [] := va_S.rf
  refine lv_aload_n hx hb dX2_init_0 rfl (lv_at hl 0 rfl) ?_
  refine W.objInit hx hb hown (hts _ (List.mem_cons_of_mem _ uC_1)) (hts _ (List.mem_cons_of_mem _ uC_2)) (hts _ (List.mem_cons_of_mem _ uC_3)) rfl (by rw [hml]; exact hl.1) rfl dX2_init_1 (Nat.le_of_ble_eq_true rfl) (Nat.le_of_ble_eq_true rfl) ?_
  refine W.eq (g2 := F0 m 4 ls []) rfl ?_
  refine lv_aload_n hx hb dX2_init_4 rfl (lv_at hl 0 rfl) ?_
  refine lv_bipush (v := 20) hx hb dX2_init_5 (by decide +kernel) ?_
  refine zn_arr (V := V) (atype := .int) (n := 20) (cA := V.2.1) (a0 := (20, .inl (fun _ => 0))) hx hb (hts _ (List.mem_cons_of_mem _ uC_4)) (hE.1.2 0 _ rfl).2 rfl hS (by decide) (by decide) (by show _ + 1 ≤ 3; omega) (by show _ + 20 ≤ 60; omega) dX2_init_7 (fun H_1 h_2 z1_ o1_ hS => ?_)
  rw [hz] at h_2 z1_ ⊢
  have kp_ : ∀ q, q < s.heap.size → q ≠ b + 1 → H_1[q]? = s.heap[q]? := fun q h _ => o1_ q h
  replace hthis := zn_A (b + 1) hthis kp_ (show b ≠ b + 1 by omega)
  replace hz : H_1.size = b + 2 := z1_
  clear kp_ z1_ o1_
  refine zn_putF 0 (.ref (b + 1)) (.array .int) hx hb hts (fun x h => List.mem_cons_of_mem _ (hU_X2 x h)) tyX2 tyX2_ok nmX2 hown hE hthis (show b ≤ b by omega) hS (show vwCl[2]? = some (RX2, TX2, 4) from rfl) (by decide) (Nat.le_of_ble_eq_true rfl) rfl hin rfl (by decide +kernel) rfl rfl (hts _ (List.mem_cons_of_mem _ uC_5)) (fun _ h9 => h9) dX2_init_9 (fun H_3 locs hthis z1_ o1_ hS => ?_)
  have kp_ : ∀ q, q < H_1.size → q ≠ b → H_3[q]? = H_1[q]? := fun q _ h => o1_ q h
  replace h_2 := zn_A (b) h_2 kp_ (show b + 1 ≠ b by omega)
  replace hz : H_3.size = b + 2 := z1_.trans hz
  clear kp_ z1_ o1_
  replace hthis : va_at V.1 vwCl (b, .inr (2, [.ref (b + 1), .null, .null, .int 0])) H_3 := hthis
  refine lv_aload_n hx hb dX2_init_12 rfl (lv_at hl 0 rfl) ?_
  refine lv_bipush (v := 20) hx hb dX2_init_13 (by decide +kernel) ?_
  refine zn_arr (V := V) (atype := .int) (n := 20) (cA := V.2.1) (a0 := (20, .inl (fun _ => 0))) hx hb (hts _ (List.mem_cons_of_mem _ uC_4)) (hE.1.2 0 _ rfl).2 rfl hS (by decide) (by decide) (by show _ + 1 ≤ 3; omega) (by show _ + 20 ≤ 60; omega) dX2_init_15 (fun H_4 h_5 z1_ o1_ hS => ?_)
  rw [hz] at h_5 z1_ ⊢
  have kp_ : ∀ q, q < H_3.size → q ≠ b + 2 → H_4[q]? = H_3[q]? := fun q h _ => o1_ q h
  replace hthis := zn_A (b + 2) hthis kp_ (show b ≠ b + 2 by omega)
  replace h_2 := zn_A (b + 2) h_2 kp_ (show b + 1 ≠ b + 2 by omega)
  replace hz : H_4.size = b + 3 := z1_
  clear kp_ z1_ o1_
  refine zn_putF 1 (.ref (b + 2)) (.array .int) hx hb hts (fun x h => List.mem_cons_of_mem _ (hU_X2 x h)) tyX2 tyX2_ok nmX2 hown hE hthis (show b ≤ b by omega) hS (show vwCl[2]? = some (RX2, TX2, 4) from rfl) (by decide) (Nat.le_of_ble_eq_true rfl) rfl hin rfl (by decide +kernel) rfl rfl (hts _ (List.mem_cons_of_mem _ uC_6)) (fun _ h9 => h9) dX2_init_17 (fun H_6 locs hthis z1_ o1_ hS => ?_)
  have kp_ : ∀ q, q < H_4.size → q ≠ b → H_6[q]? = H_4[q]? := fun q _ h => o1_ q h
  replace h_2 := zn_A (b) h_2 kp_ (show b + 1 ≠ b by omega)
  replace h_5 := zn_A (b) h_5 kp_ (show b + 2 ≠ b by omega)
  replace hz : H_6.size = b + 3 := z1_.trans hz
  clear kp_ z1_ o1_
  replace hthis : va_at V.1 vwCl (b, .inr (2, [.ref (b + 1), .ref (b + 2), .null, .int 0])) H_6 := hthis
  refine lv_aload_n hx hb dX2_init_20 rfl (lv_at hl 0 rfl) ?_
  refine lv_bipush (v := 20) hx hb dX2_init_21 (by decide +kernel) ?_
  refine zn_arr (V := V) (atype := .int) (n := 20) (cA := V.2.1) (a0 := (20, .inl (fun _ => 0))) hx hb (hts _ (List.mem_cons_of_mem _ uC_4)) (hE.1.2 0 _ rfl).2 rfl hS (by decide) (by decide) (by show _ + 1 ≤ 3; omega) (by show _ + 20 ≤ 60; omega) dX2_init_23 (fun H_7 h_8 z1_ o1_ hS => ?_)
  rw [hz] at h_8 z1_ ⊢
  have kp_ : ∀ q, q < H_6.size → q ≠ b + 3 → H_7[q]? = H_6[q]? := fun q h _ => o1_ q h
  replace hthis := zn_A (b + 3) hthis kp_ (show b ≠ b + 3 by omega)
  replace h_2 := zn_A (b + 3) h_2 kp_ (show b + 1 ≠ b + 3 by omega)
  replace h_5 := zn_A (b + 3) h_5 kp_ (show b + 2 ≠ b + 3 by omega)
  replace hz : H_7.size = b + 4 := z1_
  clear kp_ z1_ o1_
  refine zn_putF 2 (.ref (b + 3)) (.array .int) hx hb hts (fun x h => List.mem_cons_of_mem _ (hU_X2 x h)) tyX2 tyX2_ok nmX2 hown hE hthis (show b ≤ b by omega) hS (show vwCl[2]? = some (RX2, TX2, 4) from rfl) (by decide) (Nat.le_of_ble_eq_true rfl) rfl hin rfl (by decide +kernel) rfl rfl (hts _ (List.mem_cons_of_mem _ uC_7)) (fun _ h9 => h9) dX2_init_25 (fun H_9 locs hthis z1_ o1_ hS => ?_)
  have kp_ : ∀ q, q < H_7.size → q ≠ b → H_9[q]? = H_7[q]? := fun q _ h => o1_ q h
  replace h_2 := zn_A (b) h_2 kp_ (show b + 1 ≠ b by omega)
  replace h_5 := zn_A (b) h_5 kp_ (show b + 2 ≠ b by omega)
  replace h_8 := zn_A (b) h_8 kp_ (show b + 3 ≠ b by omega)
  replace hz : H_9.size = b + 4 := z1_.trans hz
  clear kp_ z1_ o1_
  replace hthis : va_at V.1 vwCl (b, .inr (2, [.ref (b + 1), .ref (b + 2), .ref (b + 3), .int 0])) H_9 := hthis
  have hfin_ : va_P V.1 vwCl (zlW V (fun p => b + p) 0 (fun _ => 0) (fun _ => 0) (fun _ => 0)) H_9 := zP_mk (fun q hq => by
    match q, hq with
    | 0, _ => exact hthis
    | 1, _ => exact h_2
    | 2, _ => exact h_5
    | 3, _ => exact h_8
    | q + 4, h => exact absurd h (by omega))
  refine W.widen (k := 3) (n := 60) (by omega) (by omega) ?_
  exact zr_v hx hb hr hlocks hS (⟨hz, hfin_⟩) dX2_init_28
set_option maxHeartbeats 4000000 in
set_option maxRecDepth 100000 in
theorem c_X3_init (l : Launch) (V : zV) (b : Nat) : Met l yX3_init wsX3_init (zR 1 1 80) (zPc V [.ref b] (fun H => H.size = b + 1 ∧ va_at V.1 vwCl (b, .inr (3, [.null, .int 0])) H)) (zQv (fun H => H.size = b + 2 ∧ va_at V.1 vwCl (b, .inr (3, [.ref (b + 1), .int 0])) H ∧ va_at V.1 vwCl (b + 1, .inl (V.2.1, 80, .inl (fun _ => 0))) H) (fun q => b ≤ q)) 1 80 (fun q => b ≤ q) := by
  refine Met.ofW (cc := cX3_init) (maxL := 1) (ret := none) (by decide) rfl ?_
  intro p e s m args below meth c s₁ B hml hv
  obtain ⟨rfl, hP, hE⟩ := hv
  have hx := B.exec
  have hb := B.bytes
  have hr := B.returns
  have hts := atoms_spec (ws := wsX3_init) B.pre
  have hown : s.vm.findClass RX3 = some m.cls := findClass_of_methodNamed B.named
  have hlocks := B.notSynchronized
  have hl := lv_entry ([.ref b]) (n := 1) (Nat.le_of_ble_eq_true rfl)
  rw [lg_entry_eq]
  generalize (lg_sl ([.ref b]) ++ List.replicate (1 - (lg_sl ([.ref b])).length) Slot.unset).toArray = ls at hl ⊢
  have hl : lv_has ls 1 [(0, .ref b)] := hl
  have hin : meth.name = "<init>" := (name_of_methodNamed B.named B.method).1
  obtain ⟨hz, hthis⟩ := hP
  have hS : va_S (fun q => b ≤ q) s.heap s.heap [] := va_S.rf
  refine lv_aload_n hx hb dX3_init_0 rfl (lv_at hl 0 rfl) ?_
  refine W.objInit hx hb hown (hts _ (List.mem_cons_of_mem _ uC_183)) (hts _ (List.mem_cons_of_mem _ uC_2)) (hts _ (List.mem_cons_of_mem _ uC_3)) rfl (by rw [hml]; exact hl.1) rfl dX3_init_1 (Nat.le_of_ble_eq_true rfl) (Nat.le_of_ble_eq_true rfl) ?_
  refine W.eq (g2 := F0 m 4 ls []) rfl ?_
  refine lv_aload_n hx hb dX3_init_4 rfl (lv_at hl 0 rfl) ?_
  refine lv_bipush (v := 80) hx hb dX3_init_5 (by decide +kernel) ?_
  refine zn_arr (V := V) (atype := .int) (n := 80) (cA := V.2.1) (a0 := (80, .inl (fun _ => 0))) hx hb (hts _ (List.mem_cons_of_mem _ uC_4)) (hE.1.2 0 _ rfl).2 rfl hS (by decide) (by decide) (by show _ + 1 ≤ 1; omega) (by show _ + 80 ≤ 80; omega) dX3_init_7 (fun H_1 h_2 z1_ o1_ hS => ?_)
  rw [hz] at h_2 z1_ ⊢
  have kp_ : ∀ q, q < s.heap.size → q ≠ b + 1 → H_1[q]? = s.heap[q]? := fun q h _ => o1_ q h
  replace hthis := zn_A (b + 1) hthis kp_ (show b ≠ b + 1 by omega)
  replace hz : H_1.size = b + 2 := z1_
  clear kp_ z1_ o1_
  refine zn_putF 0 (.ref (b + 1)) (.array .int) hx hb hts (fun x h => List.mem_cons_of_mem _ (hU_X3 x h)) tyX3 tyX3_ok nmX3 hown hE hthis (show b ≤ b by omega) hS (show vwCl[3]? = some (RX3, TX3, 2) from rfl) (by decide) (Nat.le_of_ble_eq_true rfl) rfl hin rfl (by decide +kernel) rfl rfl (hts _ (List.mem_cons_of_mem _ uC_184)) (fun _ h9 => h9) dX3_init_9 (fun H_3 locs hthis z1_ o1_ hS => ?_)
  have kp_ : ∀ q, q < H_1.size → q ≠ b → H_3[q]? = H_1[q]? := fun q _ h => o1_ q h
  replace h_2 := zn_A (b) h_2 kp_ (show b + 1 ≠ b by omega)
  replace hz : H_3.size = b + 2 := z1_.trans hz
  clear kp_ z1_ o1_
  replace hthis : va_at V.1 vwCl (b, .inr (3, [.ref (b + 1), .int 0])) H_3 := hthis
  refine W.widen (k := 1) (n := 80) (by omega) (by omega) ?_
  exact zr_v hx hb hr hlocks hS (⟨hz, hthis, h_2⟩) dX3_init_12
set_option maxHeartbeats 4000000 in
set_option maxRecDepth 100000 in
theorem c_X4_init (l : Launch) (V : zV) (b : Nat) (r : Nat) : Met l yX4_init wsX4_init (zR 1 0 0) (zPc V [.ref b, .ref r] (fun H => H.size = b + 1 ∧ va_at V.1 vwCl (b, .inr (4, [.null, .int 0, .int 0, .int 0, .int 0])) H)) (zQv (fun H => H.size = b + 1 ∧ va_at V.1 vwCl (b, .inr (4, [.ref r, .int 0, .int 0, .int 0, .int 0])) H) (fun q => b ≤ q)) 0 0 (fun q => b ≤ q) := by
  refine Met.ofW (cc := cX4_init) (maxL := 2) (ret := none) (by decide) rfl ?_
  intro p e s m args below meth c s₁ B hml hv
  obtain ⟨rfl, hP, hE⟩ := hv
  have hx := B.exec
  have hb := B.bytes
  have hr := B.returns
  have hts := atoms_spec (ws := wsX4_init) B.pre
  have hown : s.vm.findClass RX4 = some m.cls := findClass_of_methodNamed B.named
  have hlocks := B.notSynchronized
  have hl := lv_entry ([.ref b, .ref r]) (n := 2) (Nat.le_of_ble_eq_true rfl)
  rw [lg_entry_eq]
  generalize (lg_sl ([.ref b, .ref r]) ++ List.replicate (2 - (lg_sl ([.ref b, .ref r])).length) Slot.unset).toArray = ls at hl ⊢
  have hl : lv_has ls 2 [(0, .ref b), (1, .ref r)] := hl
  have hin : meth.name = "<init>" := (name_of_methodNamed B.named B.method).1
  obtain ⟨hz, hthis⟩ := hP
  have hS : va_S (fun q => b ≤ q) s.heap s.heap [] := va_S.rf
  refine lv_aload_n hx hb dX4_init_0 rfl (lv_at hl 0 rfl) ?_
  refine W.objInit hx hb hown (hts _ (List.mem_cons_of_mem _ uC_198)) (hts _ (List.mem_cons_of_mem _ uC_2)) (hts _ (List.mem_cons_of_mem _ uC_3)) rfl (by rw [hml]; exact hl.1) rfl dX4_init_1 (Nat.le_of_ble_eq_true rfl) (Nat.le_of_ble_eq_true rfl) ?_
  refine W.eq (g2 := F0 m 4 ls []) rfl ?_
  refine lv_aload_n hx hb dX4_init_4 rfl (lv_at hl 0 rfl) ?_
  refine lv_aload_n hx hb dX4_init_5 rfl (lv_at hl 1 rfl) ?_
  refine zn_putF 0 (.ref r) (.object "DrawerSlips$Pad") hx hb hts (fun x h => List.mem_cons_of_mem _ (hU_X4 x h)) tyX4 tyX4_ok nmX4 hown hE hthis (show b ≤ b by omega) hS (show vwCl[4]? = some (RX4, TX4, 5) from rfl) (by decide) (Nat.le_of_ble_eq_true rfl) rfl hin rfl (by decide +kernel) rfl rfl (hts _ (List.mem_cons_of_mem _ uC_199)) (fun _ h9 => h9) dX4_init_6 (fun H_1 locs hthis z1_ o1_ hS => ?_)
  have kp_ : ∀ q, q < s.heap.size → q ≠ b → H_1[q]? = s.heap[q]? := fun q _ h => o1_ q h
  replace hz : H_1.size = b + 1 := z1_.trans hz
  clear kp_ z1_ o1_
  replace hthis : va_at V.1 vwCl (b, .inr (4, [.ref r, .int 0, .int 0, .int 0, .int 0])) H_1 := hthis
  refine W.widen (k := 0) (n := 0) (by omega) (by omega) ?_
  exact zr_v hx hb hr hlocks hS (⟨hz, hthis⟩) dX4_init_9
