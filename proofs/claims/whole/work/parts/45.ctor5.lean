def mW0 : Nat → Int32 := upd (upd (upd (upd (upd (upd (upd (fun _ => 0) 0 50) 1 200) 2 4) 3 2) 4 1) 5 2) 16 2
theorem hJ8 (b : Nat) : zInj 9 (fun p => b + p) := fun i j hi hj e => by have e : b + i = b + j := e; omega
set_option maxHeartbeats 4000000 in
set_option maxRecDepth 100000 in
theorem c_X8_init (l : Launch) (V : zV) (b : Nat) : Met l yX8_init wsX8_init (zR 1 8 2928) (zPc V [.ref b] (fun H => H.size = b + 1 ∧ va_at V.1 vwCl (b, .inr (8, [.null, .null, .null, .null, .null, .null, .int 0, .null, .int 0, .int 0, .null, .int 0, .int 0])) H)) (zQv (fun H => va_P V.1 vwCl (zmW V (fun p => b + p) mW0 (fun _ => 0) (fun _ => 0) (fun _ => 0) (fun _ => 0) (fun _ => 0) (fun _ => 0) (fun _ => 0) 0 0 0 0 0) H) (zIn 9 (fun p => b + p))) 8 2928 (zIn 9 (fun p => b + p)) := by
  refine Met.ofW (cc := cX8_init) (maxL := 1) (ret := none) (by decide) rfl ?_
  intro p e s m args below meth c s₁ B hml hv
  obtain ⟨rfl, hP, hE⟩ := hv
  have hx := B.exec
  have hb := B.bytes
  have hr := B.returns
  have hts := atoms_spec (ws := wsX8_init) B.pre
  have hown : s.vm.findClass RX8 = some m.cls := findClass_of_methodNamed B.named
  have hlocks := B.notSynchronized
  have hl := lv_entry ([.ref b]) (n := 1) (Nat.le_of_ble_eq_true rfl)
  rw [lg_entry_eq]
  generalize (lg_sl ([.ref b]) ++ List.replicate (1 - (lg_sl ([.ref b])).length) Slot.unset).toArray = ls at hl ⊢
  have hl : lv_has ls 1 [(0, .ref b)] := hl
  have hin : meth.name = "<init>" := (name_of_methodNamed B.named B.method).1
  obtain ⟨hz, hthis⟩ := hP
  have hS : va_S (zIn 9 (fun p => b + p)) s.heap s.heap [] := va_S.rf
  refine lv_aload_n hx hb dX8_init_0 rfl (lv_at hl 0 rfl) ?_
  refine W.objInit hx hb hown (hts _ (List.mem_cons_of_mem _ uM_1)) (hts _ (List.mem_cons_of_mem _ uM_2)) (hts _ (List.mem_cons_of_mem _ uM_3)) rfl (by rw [hml]; exact hl.1) rfl dX8_init_1 (Nat.le_of_ble_eq_true rfl) (Nat.le_of_ble_eq_true rfl) ?_
  refine W.eq (g2 := F0 m 4 ls []) rfl ?_
  refine lv_aload_n hx hb dX8_init_4 rfl (lv_at hl 0 rfl) ?_
  refine lv_sipush (v := 258) hx hb dX8_init_5 (by decide +kernel) ?_
  refine zn_arr (V := V) (atype := .int) (n := 258) (cA := V.2.1) (a0 := (258, .inl (fun _ => 0))) hx hb (hts _ (List.mem_cons_of_mem _ uM_4)) (hE.1.2 0 _ rfl).2 rfl hS (by decide) (by decide) (by show _ + 1 ≤ 8; omega) (by show _ + 258 ≤ 2928; omega) dX8_init_8 (fun H_1 h_2 z1_ o1_ hS => ?_)
  rw [hz] at h_2 z1_ ⊢
  have kp_ : ∀ q, q < s.heap.size → q ≠ b + 1 → H_1[q]? = s.heap[q]? := fun q h _ => o1_ q h
  replace hthis := zn_A (b + 1) hthis kp_ (show b ≠ b + 1 by omega)
  replace hz : H_1.size = b + 2 := z1_
  clear kp_ z1_ o1_
  refine zn_putF 0 (.ref (b + 1)) (.array .int) hx hb hts (fun x h => List.mem_cons_of_mem _ (hU_X8 x h)) tyX8 tyX8_ok nmX8 hown hE hthis (⟨0, by decide, rfl⟩ : zIn 9 (fun p => b + p) b) hS (show vwCl[8]? = some (RX8, TX8, 13) from rfl) (by decide) (Nat.le_of_ble_eq_true rfl) rfl hin rfl (by decide +kernel) rfl rfl (hts _ (List.mem_cons_of_mem _ uM_5)) (fun _ h9 => h9) dX8_init_10 (fun H_3 locs hthis z1_ o1_ hS => ?_)
  have kp_ : ∀ q, q < H_1.size → q ≠ b → H_3[q]? = H_1[q]? := fun q _ h => o1_ q h
  replace h_2 := zn_A (b) h_2 kp_ (show b + 1 ≠ b by omega)
  replace hz : H_3.size = b + 2 := z1_.trans hz
  clear kp_ z1_ o1_
  replace hthis : va_at V.1 vwCl (b, .inr (8, [.ref (b + 1), .null, .null, .null, .null, .null, .int 0, .null, .int 0, .int 0, .null, .int 0, .int 0])) H_3 := hthis
  refine lv_aload_n hx hb dX8_init_13 rfl (lv_at hl 0 rfl) ?_
  refine lv_sipush (v := 1548) hx hb dX8_init_14 (by decide +kernel) ?_
  refine zn_arr (V := V) (atype := .int) (n := 1548) (cA := V.2.1) (a0 := (1548, .inl (fun _ => 0))) hx hb (hts _ (List.mem_cons_of_mem _ uM_4)) (hE.1.2 0 _ rfl).2 rfl hS (by decide) (by decide) (by show _ + 1 ≤ 8; omega) (by show _ + 1548 ≤ 2928; omega) dX8_init_17 (fun H_4 h_5 z1_ o1_ hS => ?_)
  rw [hz] at h_5 z1_ ⊢
  have kp_ : ∀ q, q < H_3.size → q ≠ b + 2 → H_4[q]? = H_3[q]? := fun q h _ => o1_ q h
  replace hthis := zn_A (b + 2) hthis kp_ (show b ≠ b + 2 by omega)
  replace h_2 := zn_A (b + 2) h_2 kp_ (show b + 1 ≠ b + 2 by omega)
  replace hz : H_4.size = b + 3 := z1_
  clear kp_ z1_ o1_
  refine zn_putF 1 (.ref (b + 2)) (.array .int) hx hb hts (fun x h => List.mem_cons_of_mem _ (hU_X8 x h)) tyX8 tyX8_ok nmX8 hown hE hthis (⟨0, by decide, rfl⟩ : zIn 9 (fun p => b + p) b) hS (show vwCl[8]? = some (RX8, TX8, 13) from rfl) (by decide) (Nat.le_of_ble_eq_true rfl) rfl hin rfl (by decide +kernel) rfl rfl (hts _ (List.mem_cons_of_mem _ uM_6)) (fun _ h9 => h9) dX8_init_19 (fun H_6 locs hthis z1_ o1_ hS => ?_)
  have kp_ : ∀ q, q < H_4.size → q ≠ b → H_6[q]? = H_4[q]? := fun q _ h => o1_ q h
  replace h_2 := zn_A (b) h_2 kp_ (show b + 1 ≠ b by omega)
  replace h_5 := zn_A (b) h_5 kp_ (show b + 2 ≠ b by omega)
  replace hz : H_6.size = b + 3 := z1_.trans hz
  clear kp_ z1_ o1_
  replace hthis : va_at V.1 vwCl (b, .inr (8, [.ref (b + 1), .ref (b + 2), .null, .null, .null, .null, .int 0, .null, .int 0, .int 0, .null, .int 0, .int 0])) H_6 := hthis
  refine lv_aload_n hx hb dX8_init_22 rfl (lv_at hl 0 rfl) ?_
  refine lv_sipush (v := 258) hx hb dX8_init_23 (by decide +kernel) ?_
  refine zn_arr (V := V) (atype := .int) (n := 258) (cA := V.2.1) (a0 := (258, .inl (fun _ => 0))) hx hb (hts _ (List.mem_cons_of_mem _ uM_4)) (hE.1.2 0 _ rfl).2 rfl hS (by decide) (by decide) (by show _ + 1 ≤ 8; omega) (by show _ + 258 ≤ 2928; omega) dX8_init_26 (fun H_7 h_8 z1_ o1_ hS => ?_)
  rw [hz] at h_8 z1_ ⊢
  have kp_ : ∀ q, q < H_6.size → q ≠ b + 3 → H_7[q]? = H_6[q]? := fun q h _ => o1_ q h
  replace hthis := zn_A (b + 3) hthis kp_ (show b ≠ b + 3 by omega)
  replace h_2 := zn_A (b + 3) h_2 kp_ (show b + 1 ≠ b + 3 by omega)
  replace h_5 := zn_A (b + 3) h_5 kp_ (show b + 2 ≠ b + 3 by omega)
  replace hz : H_7.size = b + 4 := z1_
  clear kp_ z1_ o1_
  refine zn_putF 2 (.ref (b + 3)) (.array .int) hx hb hts (fun x h => List.mem_cons_of_mem _ (hU_X8 x h)) tyX8 tyX8_ok nmX8 hown hE hthis (⟨0, by decide, rfl⟩ : zIn 9 (fun p => b + p) b) hS (show vwCl[8]? = some (RX8, TX8, 13) from rfl) (by decide) (Nat.le_of_ble_eq_true rfl) rfl hin rfl (by decide +kernel) rfl rfl (hts _ (List.mem_cons_of_mem _ uM_7)) (fun _ h9 => h9) dX8_init_28 (fun H_9 locs hthis z1_ o1_ hS => ?_)
  have kp_ : ∀ q, q < H_7.size → q ≠ b → H_9[q]? = H_7[q]? := fun q _ h => o1_ q h
  replace h_2 := zn_A (b) h_2 kp_ (show b + 1 ≠ b by omega)
  replace h_5 := zn_A (b) h_5 kp_ (show b + 2 ≠ b by omega)
  replace h_8 := zn_A (b) h_8 kp_ (show b + 3 ≠ b by omega)
  replace hz : H_9.size = b + 4 := z1_.trans hz
  clear kp_ z1_ o1_
  replace hthis : va_at V.1 vwCl (b, .inr (8, [.ref (b + 1), .ref (b + 2), .ref (b + 3), .null, .null, .null, .int 0, .null, .int 0, .int 0, .null, .int 0, .int 0])) H_9 := hthis
  refine lv_aload_n hx hb dX8_init_31 rfl (lv_at hl 0 rfl) ?_
  refine lv_sipush (v := 258) hx hb dX8_init_32 (by decide +kernel) ?_
  refine zn_arr (V := V) (atype := .int) (n := 258) (cA := V.2.1) (a0 := (258, .inl (fun _ => 0))) hx hb (hts _ (List.mem_cons_of_mem _ uM_4)) (hE.1.2 0 _ rfl).2 rfl hS (by decide) (by decide) (by show _ + 1 ≤ 8; omega) (by show _ + 258 ≤ 2928; omega) dX8_init_35 (fun H_10 h_11 z1_ o1_ hS => ?_)
  rw [hz] at h_11 z1_ ⊢
  have kp_ : ∀ q, q < H_9.size → q ≠ b + 4 → H_10[q]? = H_9[q]? := fun q h _ => o1_ q h
  replace hthis := zn_A (b + 4) hthis kp_ (show b ≠ b + 4 by omega)
  replace h_2 := zn_A (b + 4) h_2 kp_ (show b + 1 ≠ b + 4 by omega)
  replace h_5 := zn_A (b + 4) h_5 kp_ (show b + 2 ≠ b + 4 by omega)
  replace h_8 := zn_A (b + 4) h_8 kp_ (show b + 3 ≠ b + 4 by omega)
  replace hz : H_10.size = b + 5 := z1_
  clear kp_ z1_ o1_
  refine zn_putF 3 (.ref (b + 4)) (.array .int) hx hb hts (fun x h => List.mem_cons_of_mem _ (hU_X8 x h)) tyX8 tyX8_ok nmX8 hown hE hthis (⟨0, by decide, rfl⟩ : zIn 9 (fun p => b + p) b) hS (show vwCl[8]? = some (RX8, TX8, 13) from rfl) (by decide) (Nat.le_of_ble_eq_true rfl) rfl hin rfl (by decide +kernel) rfl rfl (hts _ (List.mem_cons_of_mem _ uM_8)) (fun _ h9 => h9) dX8_init_37 (fun H_12 locs hthis z1_ o1_ hS => ?_)
  have kp_ : ∀ q, q < H_10.size → q ≠ b → H_12[q]? = H_10[q]? := fun q _ h => o1_ q h
  replace h_2 := zn_A (b) h_2 kp_ (show b + 1 ≠ b by omega)
  replace h_5 := zn_A (b) h_5 kp_ (show b + 2 ≠ b by omega)
  replace h_8 := zn_A (b) h_8 kp_ (show b + 3 ≠ b by omega)
  replace h_11 := zn_A (b) h_11 kp_ (show b + 4 ≠ b by omega)
  replace hz : H_12.size = b + 5 := z1_.trans hz
  clear kp_ z1_ o1_
  replace hthis : va_at V.1 vwCl (b, .inr (8, [.ref (b + 1), .ref (b + 2), .ref (b + 3), .ref (b + 4), .null, .null, .int 0, .null, .int 0, .int 0, .null, .int 0, .int 0])) H_12 := hthis
  refine lv_aload_n hx hb dX8_init_40 rfl (lv_at hl 0 rfl) ?_
  refine lv_sipush (v := 516) hx hb dX8_init_41 (by decide +kernel) ?_
  refine zn_arr (V := V) (atype := .int) (n := 516) (cA := V.2.1) (a0 := (516, .inl (fun _ => 0))) hx hb (hts _ (List.mem_cons_of_mem _ uM_4)) (hE.1.2 0 _ rfl).2 rfl hS (by decide) (by decide) (by show _ + 1 ≤ 8; omega) (by show _ + 516 ≤ 2928; omega) dX8_init_44 (fun H_13 h_14 z1_ o1_ hS => ?_)
  rw [hz] at h_14 z1_ ⊢
  have kp_ : ∀ q, q < H_12.size → q ≠ b + 5 → H_13[q]? = H_12[q]? := fun q h _ => o1_ q h
  replace hthis := zn_A (b + 5) hthis kp_ (show b ≠ b + 5 by omega)
  replace h_2 := zn_A (b + 5) h_2 kp_ (show b + 1 ≠ b + 5 by omega)
  replace h_5 := zn_A (b + 5) h_5 kp_ (show b + 2 ≠ b + 5 by omega)
  replace h_8 := zn_A (b + 5) h_8 kp_ (show b + 3 ≠ b + 5 by omega)
  replace h_11 := zn_A (b + 5) h_11 kp_ (show b + 4 ≠ b + 5 by omega)
  replace hz : H_13.size = b + 6 := z1_
  clear kp_ z1_ o1_
  refine zn_putF 4 (.ref (b + 5)) (.array .int) hx hb hts (fun x h => List.mem_cons_of_mem _ (hU_X8 x h)) tyX8 tyX8_ok nmX8 hown hE hthis (⟨0, by decide, rfl⟩ : zIn 9 (fun p => b + p) b) hS (show vwCl[8]? = some (RX8, TX8, 13) from rfl) (by decide) (Nat.le_of_ble_eq_true rfl) rfl hin rfl (by decide +kernel) rfl rfl (hts _ (List.mem_cons_of_mem _ uM_9)) (fun _ h9 => h9) dX8_init_46 (fun H_15 locs hthis z1_ o1_ hS => ?_)
  have kp_ : ∀ q, q < H_13.size → q ≠ b → H_15[q]? = H_13[q]? := fun q _ h => o1_ q h
  replace h_2 := zn_A (b) h_2 kp_ (show b + 1 ≠ b by omega)
  replace h_5 := zn_A (b) h_5 kp_ (show b + 2 ≠ b by omega)
  replace h_8 := zn_A (b) h_8 kp_ (show b + 3 ≠ b by omega)
  replace h_11 := zn_A (b) h_11 kp_ (show b + 4 ≠ b by omega)
  replace h_14 := zn_A (b) h_14 kp_ (show b + 5 ≠ b by omega)
  replace hz : H_15.size = b + 6 := z1_.trans hz
  clear kp_ z1_ o1_
  replace hthis : va_at V.1 vwCl (b, .inr (8, [.ref (b + 1), .ref (b + 2), .ref (b + 3), .ref (b + 4), .ref (b + 5), .null, .int 0, .null, .int 0, .int 0, .null, .int 0, .int 0])) H_15 := hthis
  refine lv_aload_n hx hb dX8_init_49 rfl (lv_at hl 0 rfl) ?_
  refine lv_iconst (v := 2) hx hb dX8_init_50 (by decide +kernel) ?_
  refine zn_arr (V := V) (atype := .boolean) (n := 2) (cA := V.2.2.1) (a0 := (2, .inl (fun _ => 0))) hx hb (hts _ (List.mem_cons_of_mem _ uM_10)) (hE.1.2 1 _ rfl).2 rfl hS (by decide) (by decide) (by show _ + 1 ≤ 8; omega) (by show _ + 2 ≤ 2928; omega) dX8_init_51 (fun H_16 h_17 z1_ o1_ hS => ?_)
  rw [hz] at h_17 z1_ ⊢
  have kp_ : ∀ q, q < H_15.size → q ≠ b + 6 → H_16[q]? = H_15[q]? := fun q h _ => o1_ q h
  replace hthis := zn_A (b + 6) hthis kp_ (show b ≠ b + 6 by omega)
  replace h_2 := zn_A (b + 6) h_2 kp_ (show b + 1 ≠ b + 6 by omega)
  replace h_5 := zn_A (b + 6) h_5 kp_ (show b + 2 ≠ b + 6 by omega)
  replace h_8 := zn_A (b + 6) h_8 kp_ (show b + 3 ≠ b + 6 by omega)
  replace h_11 := zn_A (b + 6) h_11 kp_ (show b + 4 ≠ b + 6 by omega)
  replace h_14 := zn_A (b + 6) h_14 kp_ (show b + 5 ≠ b + 6 by omega)
  replace hz : H_16.size = b + 7 := z1_
  clear kp_ z1_ o1_
  refine zn_putF 5 (.ref (b + 6)) (.array .boolean) hx hb hts (fun x h => List.mem_cons_of_mem _ (hU_X8 x h)) tyX8 tyX8_ok nmX8 hown hE hthis (⟨0, by decide, rfl⟩ : zIn 9 (fun p => b + p) b) hS (show vwCl[8]? = some (RX8, TX8, 13) from rfl) (by decide) (Nat.le_of_ble_eq_true rfl) rfl hin rfl (by decide +kernel) rfl rfl (hts _ (List.mem_cons_of_mem _ uM_11)) (fun _ h9 => h9) dX8_init_53 (fun H_18 locs hthis z1_ o1_ hS => ?_)
  have kp_ : ∀ q, q < H_16.size → q ≠ b → H_18[q]? = H_16[q]? := fun q _ h => o1_ q h
  replace h_2 := zn_A (b) h_2 kp_ (show b + 1 ≠ b by omega)
  replace h_5 := zn_A (b) h_5 kp_ (show b + 2 ≠ b by omega)
  replace h_8 := zn_A (b) h_8 kp_ (show b + 3 ≠ b by omega)
  replace h_11 := zn_A (b) h_11 kp_ (show b + 4 ≠ b by omega)
  replace h_14 := zn_A (b) h_14 kp_ (show b + 5 ≠ b by omega)
  replace h_17 := zn_A (b) h_17 kp_ (show b + 6 ≠ b by omega)
  replace hz : H_18.size = b + 7 := z1_.trans hz
  clear kp_ z1_ o1_
  replace hthis : va_at V.1 vwCl (b, .inr (8, [.ref (b + 1), .ref (b + 2), .ref (b + 3), .ref (b + 4), .ref (b + 5), .ref (b + 6), .int 0, .null, .int 0, .int 0, .null, .int 0, .int 0])) H_18 := hthis
  refine lv_aload_n hx hb dX8_init_56 rfl (lv_at hl 0 rfl) ?_
  refine lv_bipush (v := 80) hx hb dX8_init_57 (by decide +kernel) ?_
  refine zn_arr (V := V) (atype := .int) (n := 80) (cA := V.2.1) (a0 := (80, .inl (fun _ => 0))) hx hb (hts _ (List.mem_cons_of_mem _ uM_4)) (hE.1.2 0 _ rfl).2 rfl hS (by decide) (by decide) (by show _ + 1 ≤ 8; omega) (by show _ + 80 ≤ 2928; omega) dX8_init_59 (fun H_19 h_20 z1_ o1_ hS => ?_)
  rw [hz] at h_20 z1_ ⊢
  have kp_ : ∀ q, q < H_18.size → q ≠ b + 7 → H_19[q]? = H_18[q]? := fun q h _ => o1_ q h
  replace hthis := zn_A (b + 7) hthis kp_ (show b ≠ b + 7 by omega)
  replace h_2 := zn_A (b + 7) h_2 kp_ (show b + 1 ≠ b + 7 by omega)
  replace h_5 := zn_A (b + 7) h_5 kp_ (show b + 2 ≠ b + 7 by omega)
  replace h_8 := zn_A (b + 7) h_8 kp_ (show b + 3 ≠ b + 7 by omega)
  replace h_11 := zn_A (b + 7) h_11 kp_ (show b + 4 ≠ b + 7 by omega)
  replace h_14 := zn_A (b + 7) h_14 kp_ (show b + 5 ≠ b + 7 by omega)
  replace h_17 := zn_A (b + 7) h_17 kp_ (show b + 6 ≠ b + 7 by omega)
  replace hz : H_19.size = b + 8 := z1_
  clear kp_ z1_ o1_
  refine zn_putF 7 (.ref (b + 7)) (.array .int) hx hb hts (fun x h => List.mem_cons_of_mem _ (hU_X8 x h)) tyX8 tyX8_ok nmX8 hown hE hthis (⟨0, by decide, rfl⟩ : zIn 9 (fun p => b + p) b) hS (show vwCl[8]? = some (RX8, TX8, 13) from rfl) (by decide) (Nat.le_of_ble_eq_true rfl) rfl hin rfl (by decide +kernel) rfl rfl (hts _ (List.mem_cons_of_mem _ uM_12)) (fun _ h9 => h9) dX8_init_61 (fun H_21 locs hthis z1_ o1_ hS => ?_)
  have kp_ : ∀ q, q < H_19.size → q ≠ b → H_21[q]? = H_19[q]? := fun q _ h => o1_ q h
  replace h_2 := zn_A (b) h_2 kp_ (show b + 1 ≠ b by omega)
  replace h_5 := zn_A (b) h_5 kp_ (show b + 2 ≠ b by omega)
  replace h_8 := zn_A (b) h_8 kp_ (show b + 3 ≠ b by omega)
  replace h_11 := zn_A (b) h_11 kp_ (show b + 4 ≠ b by omega)
  replace h_14 := zn_A (b) h_14 kp_ (show b + 5 ≠ b by omega)
  replace h_17 := zn_A (b) h_17 kp_ (show b + 6 ≠ b by omega)
  replace h_20 := zn_A (b) h_20 kp_ (show b + 7 ≠ b by omega)
  replace hz : H_21.size = b + 8 := z1_.trans hz
  clear kp_ z1_ o1_
  replace hthis : va_at V.1 vwCl (b, .inr (8, [.ref (b + 1), .ref (b + 2), .ref (b + 3), .ref (b + 4), .ref (b + 5), .ref (b + 6), .int 0, .ref (b + 7), .int 0, .int 0, .null, .int 0, .int 0])) H_21 := hthis
  refine lv_aload_n hx hb dX8_init_64 rfl (lv_at hl 0 rfl) ?_
  refine lv_bipush (v := 8) hx hb dX8_init_65 (by decide +kernel) ?_
  refine zn_arr (V := V) (atype := .int) (n := 8) (cA := V.2.1) (a0 := (8, .inl (fun _ => 0))) hx hb (hts _ (List.mem_cons_of_mem _ uM_4)) (hE.1.2 0 _ rfl).2 rfl hS (by decide) (by decide) (by show _ + 1 ≤ 8; omega) (by show _ + 8 ≤ 2928; omega) dX8_init_67 (fun H_22 h_23 z1_ o1_ hS => ?_)
  rw [hz] at h_23 z1_ ⊢
  have kp_ : ∀ q, q < H_21.size → q ≠ b + 8 → H_22[q]? = H_21[q]? := fun q h _ => o1_ q h
  replace hthis := zn_A (b + 8) hthis kp_ (show b ≠ b + 8 by omega)
  replace h_2 := zn_A (b + 8) h_2 kp_ (show b + 1 ≠ b + 8 by omega)
  replace h_5 := zn_A (b + 8) h_5 kp_ (show b + 2 ≠ b + 8 by omega)
  replace h_8 := zn_A (b + 8) h_8 kp_ (show b + 3 ≠ b + 8 by omega)
  replace h_11 := zn_A (b + 8) h_11 kp_ (show b + 4 ≠ b + 8 by omega)
  replace h_14 := zn_A (b + 8) h_14 kp_ (show b + 5 ≠ b + 8 by omega)
  replace h_17 := zn_A (b + 8) h_17 kp_ (show b + 6 ≠ b + 8 by omega)
  replace h_20 := zn_A (b + 8) h_20 kp_ (show b + 7 ≠ b + 8 by omega)
  replace hz : H_22.size = b + 9 := z1_
  clear kp_ z1_ o1_
  refine zn_putF 10 (.ref (b + 8)) (.array .int) hx hb hts (fun x h => List.mem_cons_of_mem _ (hU_X8 x h)) tyX8 tyX8_ok nmX8 hown hE hthis (⟨0, by decide, rfl⟩ : zIn 9 (fun p => b + p) b) hS (show vwCl[8]? = some (RX8, TX8, 13) from rfl) (by decide) (Nat.le_of_ble_eq_true rfl) rfl hin rfl (by decide +kernel) rfl rfl (hts _ (List.mem_cons_of_mem _ uM_13)) (fun _ h9 => h9) dX8_init_69 (fun H_24 locs hthis z1_ o1_ hS => ?_)
  have kp_ : ∀ q, q < H_22.size → q ≠ b → H_24[q]? = H_22[q]? := fun q _ h => o1_ q h
  replace h_2 := zn_A (b) h_2 kp_ (show b + 1 ≠ b by omega)
  replace h_5 := zn_A (b) h_5 kp_ (show b + 2 ≠ b by omega)
  replace h_8 := zn_A (b) h_8 kp_ (show b + 3 ≠ b by omega)
  replace h_11 := zn_A (b) h_11 kp_ (show b + 4 ≠ b by omega)
  replace h_14 := zn_A (b) h_14 kp_ (show b + 5 ≠ b by omega)
  replace h_17 := zn_A (b) h_17 kp_ (show b + 6 ≠ b by omega)
  replace h_20 := zn_A (b) h_20 kp_ (show b + 7 ≠ b by omega)
  replace h_23 := zn_A (b) h_23 kp_ (show b + 8 ≠ b by omega)
  replace hz : H_24.size = b + 9 := z1_.trans hz
  clear kp_ z1_ o1_
  replace hthis : va_at V.1 vwCl (b, .inr (8, [.ref (b + 1), .ref (b + 2), .ref (b + 3), .ref (b + 4), .ref (b + 5), .ref (b + 6), .int 0, .ref (b + 7), .int 0, .int 0, .ref (b + 8), .int 0, .int 0])) H_24 := hthis
  have hP : va_P V.1 vwCl (zmW V (fun p => b + p) (fun _ => 0) (fun _ => 0) (fun _ => 0) (fun _ => 0) (fun _ => 0) (fun _ => 0) (fun _ => 0) (fun _ => 0) 0 0 0 0 0) H_24 := zP_mk (fun q hq => by
    match q, hq with
    | 0, _ => exact hthis
    | 1, _ => exact h_2
    | 2, _ => exact h_5
    | 3, _ => exact h_8
    | 4, _ => exact h_11
    | 5, _ => exact h_14
    | 6, _ => exact h_17
    | 7, _ => exact h_20
    | 8, _ => exact h_23
    | q + 9, h => exact absurd h (by omega))
  have hJ := hJ8 b
  obtain ⟨g, eg⟩ : ∃ g, g = fun p => b + p := ⟨_, rfl⟩
  have e0_ : g 0 = b := by rw [eg]; rfl
  rw [← eg] at hP hJ hS ⊢
  rw [← e0_] at hl
  have hl : lv_has ls 1 [(0, .ref (g 0))] := hl
  refine lv_aload_n hx hb dX8_init_72 rfl (lv_at hl 0 rfl) ?_
  refine zm_get 0 (.ref (g 1)) hx hb hts (fun x h => List.mem_cons_of_mem _ (hU_X8 x h)) hown hE hP (by decide) rfl (hts _ (List.mem_cons_of_mem _ uM_5)) (fun _ h9 => h9) dX8_init_73 ?_
  refine lv_iconst (v := 0) hx hb dX8_init_76 (by decide +kernel) ?_
  refine lv_bipush (v := 50) hx hb dX8_init_77 (by decide +kernel) ?_
  refine zm_a1 0 50 hx hb hE hP hJ hS (by omega) dX8_init_79 (fun H locs hP hS => ?_)
  obtain ⟨w_25, ew_25⟩ : ∃ z, z = upd (fun _ => 0) 0 50 := ⟨_, rfl⟩
  rw [← ew_25] at hP
  refine lv_aload_n hx hb dX8_init_80 rfl (lv_at hl 0 rfl) ?_
  refine zm_get 0 (.ref (g 1)) hx hb hts (fun x h => List.mem_cons_of_mem _ (hU_X8 x h)) hown hE hP (by decide) rfl (hts _ (List.mem_cons_of_mem _ uM_5)) (fun _ h9 => h9) dX8_init_81 ?_
  refine lv_iconst (v := 1) hx hb dX8_init_84 (by decide +kernel) ?_
  refine lv_sipush (v := 200) hx hb dX8_init_85 (by decide +kernel) ?_
  refine zm_a1 1 200 hx hb hE hP hJ hS (by omega) dX8_init_88 (fun H locs hP hS => ?_)
  obtain ⟨w_26, ew_26⟩ : ∃ z, z = upd w_25 1 200 := ⟨_, rfl⟩
  rw [← ew_26] at hP
  refine lv_aload_n hx hb dX8_init_89 rfl (lv_at hl 0 rfl) ?_
  refine zm_get 0 (.ref (g 1)) hx hb hts (fun x h => List.mem_cons_of_mem _ (hU_X8 x h)) hown hE hP (by decide) rfl (hts _ (List.mem_cons_of_mem _ uM_5)) (fun _ h9 => h9) dX8_init_90 ?_
  refine lv_iconst (v := 2) hx hb dX8_init_93 (by decide +kernel) ?_
  refine lv_iconst (v := 4) hx hb dX8_init_94 (by decide +kernel) ?_
  refine zm_a1 2 4 hx hb hE hP hJ hS (by omega) dX8_init_95 (fun H locs hP hS => ?_)
  obtain ⟨w_27, ew_27⟩ : ∃ z, z = upd w_26 2 4 := ⟨_, rfl⟩
  rw [← ew_27] at hP
  refine lv_aload_n hx hb dX8_init_96 rfl (lv_at hl 0 rfl) ?_
  refine zm_get 0 (.ref (g 1)) hx hb hts (fun x h => List.mem_cons_of_mem _ (hU_X8 x h)) hown hE hP (by decide) rfl (hts _ (List.mem_cons_of_mem _ uM_5)) (fun _ h9 => h9) dX8_init_97 ?_
  refine lv_iconst (v := 3) hx hb dX8_init_100 (by decide +kernel) ?_
  refine lv_iconst (v := 2) hx hb dX8_init_101 (by decide +kernel) ?_
  refine zm_a1 3 2 hx hb hE hP hJ hS (by omega) dX8_init_102 (fun H locs hP hS => ?_)
  obtain ⟨w_28, ew_28⟩ : ∃ z, z = upd w_27 3 2 := ⟨_, rfl⟩
  rw [← ew_28] at hP
  refine lv_aload_n hx hb dX8_init_103 rfl (lv_at hl 0 rfl) ?_
  refine zm_get 0 (.ref (g 1)) hx hb hts (fun x h => List.mem_cons_of_mem _ (hU_X8 x h)) hown hE hP (by decide) rfl (hts _ (List.mem_cons_of_mem _ uM_5)) (fun _ h9 => h9) dX8_init_104 ?_
  refine lv_iconst (v := 4) hx hb dX8_init_107 (by decide +kernel) ?_
  refine lv_iconst (v := 1) hx hb dX8_init_108 (by decide +kernel) ?_
  refine zm_a1 4 1 hx hb hE hP hJ hS (by omega) dX8_init_109 (fun H locs hP hS => ?_)
  obtain ⟨w_29, ew_29⟩ : ∃ z, z = upd w_28 4 1 := ⟨_, rfl⟩
  rw [← ew_29] at hP
  refine lv_aload_n hx hb dX8_init_110 rfl (lv_at hl 0 rfl) ?_
  refine zm_get 0 (.ref (g 1)) hx hb hts (fun x h => List.mem_cons_of_mem _ (hU_X8 x h)) hown hE hP (by decide) rfl (hts _ (List.mem_cons_of_mem _ uM_5)) (fun _ h9 => h9) dX8_init_111 ?_
  refine lv_iconst (v := 5) hx hb dX8_init_114 (by decide +kernel) ?_
  refine lv_iconst (v := 2) hx hb dX8_init_115 (by decide +kernel) ?_
  refine zm_a1 5 2 hx hb hE hP hJ hS (by omega) dX8_init_116 (fun H locs hP hS => ?_)
  obtain ⟨w_30, ew_30⟩ : ∃ z, z = upd w_29 5 2 := ⟨_, rfl⟩
  rw [← ew_30] at hP
  refine lv_aload_n hx hb dX8_init_117 rfl (lv_at hl 0 rfl) ?_
  refine zm_get 0 (.ref (g 1)) hx hb hts (fun x h => List.mem_cons_of_mem _ (hU_X8 x h)) hown hE hP (by decide) rfl (hts _ (List.mem_cons_of_mem _ uM_5)) (fun _ h9 => h9) dX8_init_118 ?_
  refine lv_bipush (v := 16) hx hb dX8_init_121 (by decide +kernel) ?_
  refine lv_iconst (v := 2) hx hb dX8_init_123 (by decide +kernel) ?_
  refine zm_a1 16 2 hx hb hE hP hJ hS (by omega) dX8_init_124 (fun H locs hP hS => ?_)
  obtain ⟨w_31, ew_31⟩ : ∃ z, z = upd w_30 16 2 := ⟨_, rfl⟩
  rw [← ew_31] at hP
  have ew_ : w_31 = mW0 := by rw [ew_31, ew_30, ew_29, ew_28, ew_27, ew_26, ew_25]; rfl
  rw [ew_] at hP
  refine W.widen (k := 8) (n := 2928) (by omega) (by omega) ?_
  exact zr_v hx hb hr hlocks hS hP dX8_init_125
