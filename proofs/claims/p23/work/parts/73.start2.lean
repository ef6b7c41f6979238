theorem hG_lt {b q : Nat} (h : q < 404) : hG_ b q < b + 404 := by
  rcases Nat.lt_or_ge q 396 with h1 | h1
  · obtain ⟨j, i, hj, hi, ex, e1⟩ := hG_lo (b := b) h1
    have f1 := off_free (b := b) hj hi
    omega
  · rcases hG_hi (b := b) h1 h with g | g | g | g | g | g | g | g <;> omega
set_option maxHeartbeats 4000000 in
set_option maxRecDepth 100000 in
theorem law_set {p : Program} {e : Env} {s : State} {m : MethodId} {below : List Frame} {meth : Method} {c : Code} (l : Launch) {b L : Nat} {xs : Nat → Int32} (hL : L ≤ 260) (C0 : lw_At p s m meth c b L xs) (V : zV) (hE : zE V s) (hXs : zST (fun q => s.heap.size ≤ q) s s.heap) (G : Nat → Nat) (hJ : zInj 404 G) (hGA : ∀ q, zIn 404 G q → s.heap.size ≤ q) (f1 f2 : Int32) (np : Nat) (pd : Nat → Int32) (pa : Nat) (kd nu mo : Int32) (H : Heap) (locs : List Loc) (ls : Array Slot) (hT : zTP V G (fun _ => zA0) 0 0 f1 f2 np pd pa kd nu mo H) (hS : va_S (fun q => s.heap.size ≤ q) s.heap H locs) (hl : lv_has ls 9 [(1, .ref (gM G 0)), (0, .ref b)]) : W p l e room_1 s m #[Value.ref b] below meth c H locs 404 3700 (lw_Z below #[Value.ref b] s) (F0 m 8 ls []) := by
  obtain ⟨hx, hb, hr, hml, hown0, hts, hX, hbl, hlocks, hgv⟩ := id C0
  have hown : s.vm.findClass RL = some m.cls := hown0
  have hbA : ¬ (fun q : Nat => s.heap.size ≤ q) b := Nat.not_le.mpr hbl
  have h := lJ_0
  have hR := h.R
  have hk6 := h.2.1
  have hw0_ : mW0 16 = 2 := rfl
  refine lv_aload_n hx hb dL_law_8 rfl (lv_at hl 1 rfl) ?_
  refine lv_iconst (v := 0) hx hb dL_law_9 (by decide +kernel) ?_
  refine zc_si (va_runS (As := [.ref b, .int 0]) (rest := []) ⟨hx, hb, hml, hown, hts⟩ (c_L_cell l V b L (0) xs (by omega) (by omega)) (va_cwS 2 hts (zgLS_ wsG_all wsG_in uG_0 (tq_2 _ (List.mem_of_getElem? (i := 187) rfl)) (tq_2 _ (List.mem_of_getElem? (i := 188) rfl)) (tq_1 _ (List.mem_of_getElem? (i := 0) rfl))) rfl rfl rfl (by decide +kernel) ⟨Nat.le_of_ble_eq_true rfl, Nat.le_of_ble_eq_true rfl⟩) (zPsS (B := fun U => zRd U U.heap b L xs) (fun _ _ _ _ h => zRd_calling h) (fun U hU hvm => by rw [hU]; exact zRd.moved hvm (lX_rd hX hbl hbA hS)) hE) rfl rfl hl.1 rfl (lv_room (Nat.le_of_ble_eq_true rfl)) dL_law_10 ⟨Nat.le_of_ble_eq_true rfl, Nat.le_of_ble_eq_true rfl⟩) (fun v10_ _ => ?_)
  refine lv_istore_n (lv' := [(2, .int v10_), (1, .ref (gM G 0)), (0, .ref b)]) hx hb dL_law_13 rfl hl (by decide) rfl (fun ls hl => ?_)
  refine lv_aload_n hx hb dL_law_14 rfl (lv_at hl 1 rfl) ?_
  refine lv_iconst (v := 0) hx hb dL_law_15 (by decide +kernel) ?_
  refine lv_iconst (v := 1) hx hb dL_law_16 (by decide +kernel) ?_
  refine lv_iload_n hx hb dL_law_17 rfl (lv_at hl 0 rfl) ?_
  refine lv_bipush (v := 120) hx hb dL_law_18 (by decide +kernel) ?_
  refine zc_se (va_runS (As := [.int v10_, .int 120]) (rest := [.int 1, .int 0, .ref (gM G 0)]) ⟨hx, hb, hml, hown, hts⟩ (c_L_low l V v10_ (120) (by omega) (by omega)) (va_cwS 2 hts (zgLS_ wsG_all wsG_in uG_2 (tq_2 _ (List.mem_of_getElem? (i := 191) rfl)) (tq_2 _ (List.mem_of_getElem? (i := 192) rfl)) (tq_1 _ (List.mem_of_getElem? (i := 0) rfl))) rfl rfl rfl (by decide +kernel) ⟨Nat.le_of_ble_eq_true rfl, Nat.le_of_ble_eq_true rfl⟩) (zPreS (B := fun _ => True) trivial hE) rfl rfl hl.1 rfl (lv_room (Nat.le_of_ble_eq_true rfl)) dL_law_20 ⟨Nat.le_of_ble_eq_true rfl, Nat.le_of_ble_eq_true rfl⟩) ?_
  obtain ⟨j1_, hj1_, ej1_⟩ := lMod_lt v10_ (m := 120) (by omega) (by omega)
  refine zt_i (y := nI j1_) ej1_ ?_
  refine lv_iadd hx hb dL_law_23 ?_
  refine zt_i (z_add (a := 1) (b := j1_) (by first | rfl | omega)) ?_
  have hX1_ : zST (zIn 404 G) s H := (hXs.kept (fun a h1 h2 => hS.2.1 a h1 h2)).narrow hGA
  refine zc_i (va_runV (As := [.int 0, .int (nI (1 + j1_))]) (rest := []) ⟨hx, hb, hml, hown, hts⟩ (c_X7_set l V G (fun _ => zA0) 0 0 f1 f2 np pd pa kd nu mo 0 (nI (1 + j1_)) hJ h.1 h.2.1 h.2.2.1) (cwV 2 hts (zgLV_ wsC_all wsC_in uC_266 (tq_1 _ (List.mem_of_getElem? (i := 227) rfl)) (tq_1 _ (List.mem_of_getElem? (i := 228) rfl)) (tq_1 _ (List.mem_of_getElem? (i := 229) rfl)) (tq_1 _ (List.mem_of_getElem? (i := 1) rfl))) rfl rfl rfl (by decide +kernel) ⟨Nat.le_of_ble_eq_true rfl, Nat.le_of_ble_eq_true rfl⟩) (zPsV (B := fun U => zTP V G (fun _ => zA0) 0 0 f1 f2 np pd pa kd nu mo U.heap ∧ zST (zIn 404 G) U U.heap) (fun _ _ _ _ h => ⟨h.1, zST.calling h.2⟩) (fun U hU hvm => by rw [hU]; exact ⟨hT, hX1_.moved hvm⟩) hE (zT_rt hE hT)) rfl rfl hl.1 rfl (lv_room (Nat.le_of_ble_eq_true rfl)) dL_law_24 ⟨Nat.le_of_ble_eq_true rfl, Nat.le_of_ble_eq_true rfl⟩) hS hGA hGA (fun r_ H_1 locs hQ_ _ hkp_ hS => ?_)
  obtain ⟨hr_, hT⟩ := hQ_
  subst hr_
  obtain ⟨q1_, q2_⟩ := lSet hR h.X (j := 0) (v := 1 + j1_) (by decide) (by simp) (by simp; omega)
  have hw1_ : upd mW0 0 (nI (1 + j1_)) 16 = 2 := (pk_un (by decide)).trans hw0_
  generalize upd mW0 0 (nI (1 + j1_)) = w1 at q1_ q2_ hw1_
  have hj1_ : lJ (adY (fun _ => zA0) 0 0 (nI (1 + j1_))) (if 0 ≤ kAdjR (aT ((fun _ => zA0) 0)) 0 (nI (1 + j1_)) then (0 + 1) % 7 else 0) (if 0 ≤ kAdjR (aT ((fun _ => zA0) 0)) 0 (nI (1 + j1_)) then min (0 + 1) 6 else 0) w1 0 0 0 0 := lJ_up h q1_ q2_ (by decide) (by decide) (by decide) _
  generalize adY (fun _ => zA0) 0 0 (nI (1 + j1_)) = Y1 at hT hj1_
  generalize (if 0 ≤ kAdjR (aT ((fun _ => zA0) 0)) 0 (nI (1 + j1_)) then (0 + 1) % 7 else 0) = hp1 at hT hj1_
  generalize (if 0 ≤ kAdjR (aT ((fun _ => zA0) 0)) 0 (nI (1 + j1_)) then min (0 + 1) 6 else 0) = hk1 at hT hj1_
  have hR1 := hj1_.R
  have hk61 := hj1_.2.1
  have hXk1_ := hj1_.X
  refine lv_pop hx hb dL_law_27 rfl ?_
  refine lv_aload_n hx hb dL_law_28 rfl (lv_at hl 1 rfl) ?_
  refine lv_iconst (v := 1) hx hb dL_law_29 (by decide +kernel) ?_
  refine lv_iconst (v := 1) hx hb dL_law_30 (by decide +kernel) ?_
  refine lv_iload_n hx hb dL_law_31 rfl (lv_at hl 0 rfl) ?_
  refine lv_bipush (v := 7) hx hb dL_law_32 (by decide +kernel) ?_
  refine lv_ishr hx hb dL_law_34 ?_
  refine lv_sipush (v := 250) hx hb dL_law_35 (by decide +kernel) ?_
  refine zc_se (va_runS (As := [.int (v10_ >>> ((7 : Int32) &&& 31)), .int 250]) (rest := [.int 1, .int 1, .ref (gM G 0)]) ⟨hx, hb, hml, hown, hts⟩ (c_L_low l V (v10_ >>> ((7 : Int32) &&& 31)) (250) (by omega) (by omega)) (va_cwS 2 hts (zgLS_ wsG_all wsG_in uG_2 (tq_2 _ (List.mem_of_getElem? (i := 191) rfl)) (tq_2 _ (List.mem_of_getElem? (i := 192) rfl)) (tq_1 _ (List.mem_of_getElem? (i := 0) rfl))) rfl rfl rfl (by decide +kernel) ⟨Nat.le_of_ble_eq_true rfl, Nat.le_of_ble_eq_true rfl⟩) (zPreS (B := fun _ => True) trivial hE) rfl rfl hl.1 rfl (lv_room (Nat.le_of_ble_eq_true rfl)) dL_law_38 ⟨Nat.le_of_ble_eq_true rfl, Nat.le_of_ble_eq_true rfl⟩) ?_
  obtain ⟨j2_, hj2_, ej2_⟩ := lMod_lt (v10_ >>> ((7 : Int32) &&& 31)) (m := 250) (by omega) (by omega)
  refine zt_i (y := nI j2_) ej2_ ?_
  refine lv_iadd hx hb dL_law_41 ?_
  refine zt_i (z_add (a := 1) (b := j2_) (by first | rfl | omega)) ?_
  have hX1_ : zST (zIn 404 G) s H_1 := (hXs.kept (fun a h1 h2 => hS.2.1 a h1 h2)).narrow hGA
  refine zc_i (va_runV (As := [.int 1, .int (nI (1 + j2_))]) (rest := []) ⟨hx, hb, hml, hown, hts⟩ (c_X7_set l V G Y1 hp1 hk1 f1 f2 np pd pa kd nu mo 1 (nI (1 + j2_)) hJ hj1_.1 hj1_.2.1 hj1_.2.2.1) (cwV 2 hts (zgLV_ wsC_all wsC_in uC_266 (tq_1 _ (List.mem_of_getElem? (i := 227) rfl)) (tq_1 _ (List.mem_of_getElem? (i := 228) rfl)) (tq_1 _ (List.mem_of_getElem? (i := 229) rfl)) (tq_1 _ (List.mem_of_getElem? (i := 1) rfl))) rfl rfl rfl (by decide +kernel) ⟨Nat.le_of_ble_eq_true rfl, Nat.le_of_ble_eq_true rfl⟩) (zPsV (B := fun U => zTP V G Y1 hp1 hk1 f1 f2 np pd pa kd nu mo U.heap ∧ zST (zIn 404 G) U U.heap) (fun _ _ _ _ h => ⟨h.1, zST.calling h.2⟩) (fun U hU hvm => by rw [hU]; exact ⟨hT, hX1_.moved hvm⟩) hE (zT_rt hE hT)) rfl rfl hl.1 rfl (lv_room (Nat.le_of_ble_eq_true rfl)) dL_law_42 ⟨Nat.le_of_ble_eq_true rfl, Nat.le_of_ble_eq_true rfl⟩) hS hGA hGA (fun r_ H_2 locs hQ_ _ hkp_ hS => ?_)
  obtain ⟨hr_, hT⟩ := hQ_
  subst hr_
  obtain ⟨q1_, q2_⟩ := lSet hR1 hXk1_ (j := 1) (v := 1 + j2_) (by decide) (by simp) (by simp; omega)
  have hw2_ : upd w1 1 (nI (1 + j2_)) 16 = 2 := (pk_un (by decide)).trans hw1_
  generalize upd w1 1 (nI (1 + j2_)) = w2 at q1_ q2_ hw2_
  have hj2_ : lJ (adY Y1 hp1 1 (nI (1 + j2_))) (if 0 ≤ kAdjR (aT (Y1 0)) 1 (nI (1 + j2_)) then (hp1 + 1) % 7 else hp1) (if 0 ≤ kAdjR (aT (Y1 0)) 1 (nI (1 + j2_)) then min (hk1 + 1) 6 else hk1) w2 0 0 0 0 := lJ_up hj1_ q1_ q2_ (by decide) (by decide) (by decide) _
  generalize adY Y1 hp1 1 (nI (1 + j2_)) = Y2 at hT hj2_
  generalize (if 0 ≤ kAdjR (aT (Y1 0)) 1 (nI (1 + j2_)) then (hp1 + 1) % 7 else hp1) = hp2 at hT hj2_
  generalize (if 0 ≤ kAdjR (aT (Y1 0)) 1 (nI (1 + j2_)) then min (hk1 + 1) 6 else hk1) = hk2 at hT hj2_
  have hR2 := hj2_.R
  have hk62 := hj2_.2.1
  have hXk2_ := hj2_.X
  refine lv_pop hx hb dL_law_45 rfl ?_
  refine lv_aload_n hx hb dL_law_46 rfl (lv_at hl 1 rfl) ?_
  refine lv_iconst (v := 2) hx hb dL_law_47 (by decide +kernel) ?_
  refine lv_iconst (v := 1) hx hb dL_law_48 (by decide +kernel) ?_
  refine lv_iload_n hx hb dL_law_49 rfl (lv_at hl 0 rfl) ?_
  refine lv_iconst (v := 3) hx hb dL_law_50 (by decide +kernel) ?_
  refine lv_ishr hx hb dL_law_51 ?_
  refine lv_bipush (v := 6) hx hb dL_law_52 (by decide +kernel) ?_
  refine zc_se (va_runS (As := [.int (v10_ >>> ((3 : Int32) &&& 31)), .int 6]) (rest := [.int 1, .int 2, .ref (gM G 0)]) ⟨hx, hb, hml, hown, hts⟩ (c_L_low l V (v10_ >>> ((3 : Int32) &&& 31)) (6) (by omega) (by omega)) (va_cwS 2 hts (zgLS_ wsG_all wsG_in uG_2 (tq_2 _ (List.mem_of_getElem? (i := 191) rfl)) (tq_2 _ (List.mem_of_getElem? (i := 192) rfl)) (tq_1 _ (List.mem_of_getElem? (i := 0) rfl))) rfl rfl rfl (by decide +kernel) ⟨Nat.le_of_ble_eq_true rfl, Nat.le_of_ble_eq_true rfl⟩) (zPreS (B := fun _ => True) trivial hE) rfl rfl hl.1 rfl (lv_room (Nat.le_of_ble_eq_true rfl)) dL_law_54 ⟨Nat.le_of_ble_eq_true rfl, Nat.le_of_ble_eq_true rfl⟩) ?_
  obtain ⟨j3_, hj3_, ej3_⟩ := lMod_lt (v10_ >>> ((3 : Int32) &&& 31)) (m := 6) (by omega) (by omega)
  refine zt_i (y := nI j3_) ej3_ ?_
  refine lv_iadd hx hb dL_law_57 ?_
  refine zt_i (z_add (a := 1) (b := j3_) (by first | rfl | omega)) ?_
  have hX1_ : zST (zIn 404 G) s H_2 := (hXs.kept (fun a h1 h2 => hS.2.1 a h1 h2)).narrow hGA
  refine zc_i (va_runV (As := [.int 2, .int (nI (1 + j3_))]) (rest := []) ⟨hx, hb, hml, hown, hts⟩ (c_X7_set l V G Y2 hp2 hk2 f1 f2 np pd pa kd nu mo 2 (nI (1 + j3_)) hJ hj2_.1 hj2_.2.1 hj2_.2.2.1) (cwV 2 hts (zgLV_ wsC_all wsC_in uC_266 (tq_1 _ (List.mem_of_getElem? (i := 227) rfl)) (tq_1 _ (List.mem_of_getElem? (i := 228) rfl)) (tq_1 _ (List.mem_of_getElem? (i := 229) rfl)) (tq_1 _ (List.mem_of_getElem? (i := 1) rfl))) rfl rfl rfl (by decide +kernel) ⟨Nat.le_of_ble_eq_true rfl, Nat.le_of_ble_eq_true rfl⟩) (zPsV (B := fun U => zTP V G Y2 hp2 hk2 f1 f2 np pd pa kd nu mo U.heap ∧ zST (zIn 404 G) U U.heap) (fun _ _ _ _ h => ⟨h.1, zST.calling h.2⟩) (fun U hU hvm => by rw [hU]; exact ⟨hT, hX1_.moved hvm⟩) hE (zT_rt hE hT)) rfl rfl hl.1 rfl (lv_room (Nat.le_of_ble_eq_true rfl)) dL_law_58 ⟨Nat.le_of_ble_eq_true rfl, Nat.le_of_ble_eq_true rfl⟩) hS hGA hGA (fun r_ H_3 locs hQ_ _ hkp_ hS => ?_)
  obtain ⟨hr_, hT⟩ := hQ_
  subst hr_
  obtain ⟨q1_, q2_⟩ := lSet hR2 hXk2_ (j := 2) (v := 1 + j3_) (by decide) (by simp) (by simp; omega)
  have hw3_ : upd w2 2 (nI (1 + j3_)) 16 = 2 := (pk_un (by decide)).trans hw2_
  generalize upd w2 2 (nI (1 + j3_)) = w3 at q1_ q2_ hw3_
  have hj3_ : lJ (adY Y2 hp2 2 (nI (1 + j3_))) (if 0 ≤ kAdjR (aT (Y2 0)) 2 (nI (1 + j3_)) then (hp2 + 1) % 7 else hp2) (if 0 ≤ kAdjR (aT (Y2 0)) 2 (nI (1 + j3_)) then min (hk2 + 1) 6 else hk2) w3 0 0 0 0 := lJ_up hj2_ q1_ q2_ (by decide) (by decide) (by decide) _
  generalize adY Y2 hp2 2 (nI (1 + j3_)) = Y3 at hT hj3_
  generalize (if 0 ≤ kAdjR (aT (Y2 0)) 2 (nI (1 + j3_)) then (hp2 + 1) % 7 else hp2) = hp3 at hT hj3_
  generalize (if 0 ≤ kAdjR (aT (Y2 0)) 2 (nI (1 + j3_)) then min (hk2 + 1) 6 else hk2) = hk3 at hT hj3_
  have hR3 := hj3_.R
  have hk63 := hj3_.2.1
  have hXk3_ := hj3_.X
  refine lv_pop hx hb dL_law_61 rfl ?_
  refine lv_aload_n hx hb dL_law_62 rfl (lv_at hl 1 rfl) ?_
  refine lv_iconst (v := 3) hx hb dL_law_63 (by decide +kernel) ?_
  refine lv_iconst (v := 1) hx hb dL_law_64 (by decide +kernel) ?_
  refine lv_iload_n hx hb dL_law_65 rfl (lv_at hl 0 rfl) ?_
  refine lv_bipush (v := 9) hx hb dL_law_66 (by decide +kernel) ?_
  refine lv_ishr hx hb dL_law_68 ?_
  refine lv_iconst (v := 4) hx hb dL_law_69 (by decide +kernel) ?_
  refine zc_se (va_runS (As := [.int (v10_ >>> ((9 : Int32) &&& 31)), .int 4]) (rest := [.int 1, .int 3, .ref (gM G 0)]) ⟨hx, hb, hml, hown, hts⟩ (c_L_low l V (v10_ >>> ((9 : Int32) &&& 31)) (4) (by omega) (by omega)) (va_cwS 2 hts (zgLS_ wsG_all wsG_in uG_2 (tq_2 _ (List.mem_of_getElem? (i := 191) rfl)) (tq_2 _ (List.mem_of_getElem? (i := 192) rfl)) (tq_1 _ (List.mem_of_getElem? (i := 0) rfl))) rfl rfl rfl (by decide +kernel) ⟨Nat.le_of_ble_eq_true rfl, Nat.le_of_ble_eq_true rfl⟩) (zPreS (B := fun _ => True) trivial hE) rfl rfl hl.1 rfl (lv_room (Nat.le_of_ble_eq_true rfl)) dL_law_70 ⟨Nat.le_of_ble_eq_true rfl, Nat.le_of_ble_eq_true rfl⟩) ?_
  obtain ⟨j4_, hj4_, ej4_⟩ := lMod_lt (v10_ >>> ((9 : Int32) &&& 31)) (m := 4) (by omega) (by omega)
  refine zt_i (y := nI j4_) ej4_ ?_
  refine lv_iadd hx hb dL_law_73 ?_
  refine zt_i (z_add (a := 1) (b := j4_) (by first | rfl | omega)) ?_
  have hX1_ : zST (zIn 404 G) s H_3 := (hXs.kept (fun a h1 h2 => hS.2.1 a h1 h2)).narrow hGA
  refine zc_i (va_runV (As := [.int 3, .int (nI (1 + j4_))]) (rest := []) ⟨hx, hb, hml, hown, hts⟩ (c_X7_set l V G Y3 hp3 hk3 f1 f2 np pd pa kd nu mo 3 (nI (1 + j4_)) hJ hj3_.1 hj3_.2.1 hj3_.2.2.1) (cwV 2 hts (zgLV_ wsC_all wsC_in uC_266 (tq_1 _ (List.mem_of_getElem? (i := 227) rfl)) (tq_1 _ (List.mem_of_getElem? (i := 228) rfl)) (tq_1 _ (List.mem_of_getElem? (i := 229) rfl)) (tq_1 _ (List.mem_of_getElem? (i := 1) rfl))) rfl rfl rfl (by decide +kernel) ⟨Nat.le_of_ble_eq_true rfl, Nat.le_of_ble_eq_true rfl⟩) (zPsV (B := fun U => zTP V G Y3 hp3 hk3 f1 f2 np pd pa kd nu mo U.heap ∧ zST (zIn 404 G) U U.heap) (fun _ _ _ _ h => ⟨h.1, zST.calling h.2⟩) (fun U hU hvm => by rw [hU]; exact ⟨hT, hX1_.moved hvm⟩) hE (zT_rt hE hT)) rfl rfl hl.1 rfl (lv_room (Nat.le_of_ble_eq_true rfl)) dL_law_74 ⟨Nat.le_of_ble_eq_true rfl, Nat.le_of_ble_eq_true rfl⟩) hS hGA hGA (fun r_ H_4 locs hQ_ _ hkp_ hS => ?_)
  obtain ⟨hr_, hT⟩ := hQ_
  subst hr_
  obtain ⟨q1_, q2_⟩ := lSet hR3 hXk3_ (j := 3) (v := 1 + j4_) (by decide) (by simp) (by simp; omega)
  have hw4_ : upd w3 3 (nI (1 + j4_)) 16 = 2 := (pk_un (by decide)).trans hw3_
  generalize upd w3 3 (nI (1 + j4_)) = w4 at q1_ q2_ hw4_
  have hj4_ : lJ (adY Y3 hp3 3 (nI (1 + j4_))) (if 0 ≤ kAdjR (aT (Y3 0)) 3 (nI (1 + j4_)) then (hp3 + 1) % 7 else hp3) (if 0 ≤ kAdjR (aT (Y3 0)) 3 (nI (1 + j4_)) then min (hk3 + 1) 6 else hk3) w4 0 0 0 0 := lJ_up hj3_ q1_ q2_ (by decide) (by decide) (by decide) _
  generalize adY Y3 hp3 3 (nI (1 + j4_)) = Y4 at hT hj4_
  generalize (if 0 ≤ kAdjR (aT (Y3 0)) 3 (nI (1 + j4_)) then (hp3 + 1) % 7 else hp3) = hp4 at hT hj4_
  generalize (if 0 ≤ kAdjR (aT (Y3 0)) 3 (nI (1 + j4_)) then min (hk3 + 1) 6 else hk3) = hk4 at hT hj4_
  have hR4 := hj4_.R
  have hk64 := hj4_.2.1
  have hXk4_ := hj4_.X
  refine lv_pop hx hb dL_law_77 rfl ?_
  refine lv_aload_n hx hb dL_law_78 rfl (lv_at hl 1 rfl) ?_
  refine lv_iconst (v := 4) hx hb dL_law_79 (by decide +kernel) ?_
  refine lv_iload_n hx hb dL_law_80 rfl (lv_at hl 0 rfl) ?_
  refine lv_bipush (v := 13) hx hb dL_law_81 (by decide +kernel) ?_
  refine lv_ishr hx hb dL_law_83 ?_
  refine lv_iconst (v := 4) hx hb dL_law_84 (by decide +kernel) ?_
  refine zc_se (va_runS (As := [.int (v10_ >>> ((13 : Int32) &&& 31)), .int 4]) (rest := [.int 4, .ref (gM G 0)]) ⟨hx, hb, hml, hown, hts⟩ (c_L_low l V (v10_ >>> ((13 : Int32) &&& 31)) (4) (by omega) (by omega)) (va_cwS 2 hts (zgLS_ wsG_all wsG_in uG_2 (tq_2 _ (List.mem_of_getElem? (i := 191) rfl)) (tq_2 _ (List.mem_of_getElem? (i := 192) rfl)) (tq_1 _ (List.mem_of_getElem? (i := 0) rfl))) rfl rfl rfl (by decide +kernel) ⟨Nat.le_of_ble_eq_true rfl, Nat.le_of_ble_eq_true rfl⟩) (zPreS (B := fun _ => True) trivial hE) rfl rfl hl.1 rfl (lv_room (Nat.le_of_ble_eq_true rfl)) dL_law_85 ⟨Nat.le_of_ble_eq_true rfl, Nat.le_of_ble_eq_true rfl⟩) ?_
  obtain ⟨j5_, hj5_, ej5_⟩ := lMod_lt (v10_ >>> ((13 : Int32) &&& 31)) (m := 4) (by omega) (by omega)
  refine zt_i (y := nI j5_) ej5_ ?_
  have hX1_ : zST (zIn 404 G) s H_4 := (hXs.kept (fun a h1 h2 => hS.2.1 a h1 h2)).narrow hGA
  refine zc_i (va_runV (As := [.int 4, .int (nI j5_)]) (rest := []) ⟨hx, hb, hml, hown, hts⟩ (c_X7_set l V G Y4 hp4 hk4 f1 f2 np pd pa kd nu mo 4 (nI j5_) hJ hj4_.1 hj4_.2.1 hj4_.2.2.1) (cwV 2 hts (zgLV_ wsC_all wsC_in uC_266 (tq_1 _ (List.mem_of_getElem? (i := 227) rfl)) (tq_1 _ (List.mem_of_getElem? (i := 228) rfl)) (tq_1 _ (List.mem_of_getElem? (i := 229) rfl)) (tq_1 _ (List.mem_of_getElem? (i := 1) rfl))) rfl rfl rfl (by decide +kernel) ⟨Nat.le_of_ble_eq_true rfl, Nat.le_of_ble_eq_true rfl⟩) (zPsV (B := fun U => zTP V G Y4 hp4 hk4 f1 f2 np pd pa kd nu mo U.heap ∧ zST (zIn 404 G) U U.heap) (fun _ _ _ _ h => ⟨h.1, zST.calling h.2⟩) (fun U hU hvm => by rw [hU]; exact ⟨hT, hX1_.moved hvm⟩) hE (zT_rt hE hT)) rfl rfl hl.1 rfl (lv_room (Nat.le_of_ble_eq_true rfl)) dL_law_88 ⟨Nat.le_of_ble_eq_true rfl, Nat.le_of_ble_eq_true rfl⟩) hS hGA hGA (fun r_ H_5 locs hQ_ _ hkp_ hS => ?_)
  obtain ⟨hr_, hT⟩ := hQ_
  subst hr_
  obtain ⟨q1_, q2_⟩ := lSet hR4 hXk4_ (j := 4) (v := j5_) (by decide) (by simp) (by simp; omega)
  have hw5_ : upd w4 4 (nI (j5_)) 16 = 2 := (pk_un (by decide)).trans hw4_
  generalize upd w4 4 (nI (j5_)) = w5 at q1_ q2_ hw5_
  have hj5_ : lJ (adY Y4 hp4 4 (nI j5_)) (if 0 ≤ kAdjR (aT (Y4 0)) 4 (nI j5_) then (hp4 + 1) % 7 else hp4) (if 0 ≤ kAdjR (aT (Y4 0)) 4 (nI j5_) then min (hk4 + 1) 6 else hk4) w5 0 0 0 0 := lJ_up hj4_ q1_ q2_ (by decide) (by decide) (by decide) _
  generalize adY Y4 hp4 4 (nI j5_) = Y5 at hT hj5_
  generalize (if 0 ≤ kAdjR (aT (Y4 0)) 4 (nI j5_) then (hp4 + 1) % 7 else hp4) = hp5 at hT hj5_
  generalize (if 0 ≤ kAdjR (aT (Y4 0)) 4 (nI j5_) then min (hk4 + 1) 6 else hk4) = hk5 at hT hj5_
  have hR5 := hj5_.R
  have hk65 := hj5_.2.1
  have hXk5_ := hj5_.X
  refine lv_pop hx hb dL_law_91 rfl ?_
  refine lv_aload_n hx hb dL_law_92 rfl (lv_at hl 1 rfl) ?_
  refine lv_iconst (v := 5) hx hb dL_law_93 (by decide +kernel) ?_
  refine lv_iconst (v := 1) hx hb dL_law_94 (by decide +kernel) ?_
  refine lv_iload_n hx hb dL_law_95 rfl (lv_at hl 0 rfl) ?_
  refine lv_bipush (v := 16) hx hb dL_law_96 (by decide +kernel) ?_
  refine lv_ishr hx hb dL_law_98 ?_
  refine lv_iconst (v := 4) hx hb dL_law_99 (by decide +kernel) ?_
  refine zc_se (va_runS (As := [.int (v10_ >>> ((16 : Int32) &&& 31)), .int 4]) (rest := [.int 1, .int 5, .ref (gM G 0)]) ⟨hx, hb, hml, hown, hts⟩ (c_L_low l V (v10_ >>> ((16 : Int32) &&& 31)) (4) (by omega) (by omega)) (va_cwS 2 hts (zgLS_ wsG_all wsG_in uG_2 (tq_2 _ (List.mem_of_getElem? (i := 191) rfl)) (tq_2 _ (List.mem_of_getElem? (i := 192) rfl)) (tq_1 _ (List.mem_of_getElem? (i := 0) rfl))) rfl rfl rfl (by decide +kernel) ⟨Nat.le_of_ble_eq_true rfl, Nat.le_of_ble_eq_true rfl⟩) (zPreS (B := fun _ => True) trivial hE) rfl rfl hl.1 rfl (lv_room (Nat.le_of_ble_eq_true rfl)) dL_law_100 ⟨Nat.le_of_ble_eq_true rfl, Nat.le_of_ble_eq_true rfl⟩) ?_
  obtain ⟨j6_, hj6_, ej6_⟩ := lMod_lt (v10_ >>> ((16 : Int32) &&& 31)) (m := 4) (by omega) (by omega)
  refine zt_i (y := nI j6_) ej6_ ?_
  refine lv_iadd hx hb dL_law_103 ?_
  refine zt_i (z_add (a := 1) (b := j6_) (by first | rfl | omega)) ?_
  have hX1_ : zST (zIn 404 G) s H_5 := (hXs.kept (fun a h1 h2 => hS.2.1 a h1 h2)).narrow hGA
  refine zc_i (va_runV (As := [.int 5, .int (nI (1 + j6_))]) (rest := []) ⟨hx, hb, hml, hown, hts⟩ (c_X7_set l V G Y5 hp5 hk5 f1 f2 np pd pa kd nu mo 5 (nI (1 + j6_)) hJ hj5_.1 hj5_.2.1 hj5_.2.2.1) (cwV 2 hts (zgLV_ wsC_all wsC_in uC_266 (tq_1 _ (List.mem_of_getElem? (i := 227) rfl)) (tq_1 _ (List.mem_of_getElem? (i := 228) rfl)) (tq_1 _ (List.mem_of_getElem? (i := 229) rfl)) (tq_1 _ (List.mem_of_getElem? (i := 1) rfl))) rfl rfl rfl (by decide +kernel) ⟨Nat.le_of_ble_eq_true rfl, Nat.le_of_ble_eq_true rfl⟩) (zPsV (B := fun U => zTP V G Y5 hp5 hk5 f1 f2 np pd pa kd nu mo U.heap ∧ zST (zIn 404 G) U U.heap) (fun _ _ _ _ h => ⟨h.1, zST.calling h.2⟩) (fun U hU hvm => by rw [hU]; exact ⟨hT, hX1_.moved hvm⟩) hE (zT_rt hE hT)) rfl rfl hl.1 rfl (lv_room (Nat.le_of_ble_eq_true rfl)) dL_law_104 ⟨Nat.le_of_ble_eq_true rfl, Nat.le_of_ble_eq_true rfl⟩) hS hGA hGA (fun r_ H_6 locs hQ_ _ hkp_ hS => ?_)
  obtain ⟨hr_, hT⟩ := hQ_
  subst hr_
  obtain ⟨q1_, q2_⟩ := lSet hR5 hXk5_ (j := 5) (v := 1 + j6_) (by decide) (by simp) (by simp; omega)
  have hw6_ : upd w5 5 (nI (1 + j6_)) 16 = 2 := (pk_un (by decide)).trans hw5_
  generalize upd w5 5 (nI (1 + j6_)) = w6 at q1_ q2_ hw6_
  have hj6_ : lJ (adY Y5 hp5 5 (nI (1 + j6_))) (if 0 ≤ kAdjR (aT (Y5 0)) 5 (nI (1 + j6_)) then (hp5 + 1) % 7 else hp5) (if 0 ≤ kAdjR (aT (Y5 0)) 5 (nI (1 + j6_)) then min (hk5 + 1) 6 else hk5) w6 0 0 0 0 := lJ_up hj5_ q1_ q2_ (by decide) (by decide) (by decide) _
  generalize adY Y5 hp5 5 (nI (1 + j6_)) = Y6 at hT hj6_
  generalize (if 0 ≤ kAdjR (aT (Y5 0)) 5 (nI (1 + j6_)) then (hp5 + 1) % 7 else hp5) = hp6 at hT hj6_
  generalize (if 0 ≤ kAdjR (aT (Y5 0)) 5 (nI (1 + j6_)) then min (hk5 + 1) 6 else hk5) = hk6 at hT hj6_
  have hR6 := hj6_.R
  have hk66 := hj6_.2.1
  have hXk6_ := hj6_.X
  refine lv_pop hx hb dL_law_107 rfl ?_
  have hs0_ : aS (Y6 0) = 0 := by
    have q_ := lRep_c hR6
    omega
  refine lv_iconst (v := 2) hx hb dL_law_108 (by decide +kernel) ?_
  refine lv_istore_n (lv' := [(3, .int 2), (2, .int v10_), (1, .ref (gM G 0)), (0, .ref b)]) hx hb dL_law_109 rfl hl (by decide) rfl (fun ls hl => ?_)
  refine lv_iconst (v := 0) hx hb dL_law_110 (by decide +kernel) ?_
  refine lv_istore (lv' := [(4, .int 0), (3, .int 2), (2, .int v10_), (1, .ref (gM G 0)), (0, .ref b)]) hx hb dL_law_111 hl (by decide) rfl (fun ls hl => ?_)
  refine lv_iconst (v := 0) hx hb dL_law_113 (by decide +kernel) ?_
  refine lv_istore (lv' := [(5, .int 0), (4, .int 0), (3, .int 2), (2, .int v10_), (1, .ref (gM G 0)), (0, .ref b)]) hx hb dL_law_114 hl (by decide) rfl (fun ls hl => ?_)
  refine law_loop l hL C0 V hE hXs G hJ hGA f1 f2 np pd pa kd nu mo 45 0 Y6 hp6 hk6 w6 0 0 0 H_6 locs ls (by decide) (by decide) hj6_ hT hS ?_
  have hl : lv_has ls 9 [(5, .int 0), (3, .int 2), (4, .int 0), (0, .ref b), (1, .ref (gM G 0))] := lv_sub hl [0, 2, 1, 5, 4] rfl
  rw [hw6_, hs0_]
  exact hl
set_option maxHeartbeats 4000000 in
set_option maxRecDepth 100000 in
theorem whole_start {p : Program} {e : Env} {s : State} {m : MethodId} {below : List Frame} {meth : Method} {c : Code} (l : Launch) (hflags : l.flags = flags0) {b L : Nat} {xs : Nat → Int32} (hL : L ≤ 260) (C0 : lw_At p s m meth c b L xs) : W p l e room_1 s m #[Value.ref b] below meth c s.heap [] 0 0 (lw_Z below #[Value.ref b] s) (entryFrame m ([Value.ref b] : List Value).toArray 9) := by
  have C1 := C0
  obtain ⟨hx, hb, hr, hml, hown0, hts, hX, hbl, hlocks, hgv⟩ := C0
  have hown : s.vm.findClass RL = some m.cls := hown0
  obtain ⟨V, hE⟩ := zE_start hts
  have hXs := zST_start hts hgv
  have hao : va_AO RX0 s := va_AO.of (hts (.arrayOver (.object RX0)) (tq_1 _ (List.mem_of_getElem? (i := 147) rfl)))
  have hl := lv_entry ([.ref b]) (n := 9) (Nat.le_of_ble_eq_true rfl)
  rw [lg_entry_eq]
  generalize (lg_sl ([.ref b]) ++ List.replicate (9 - (lg_sl ([.ref b])).length) Slot.unset).toArray = ls at hl ⊢
  have hl : lv_has ls 9 [(0, .ref b)] := hl
  have hS : va_S (fun q => s.heap.size ≤ q) s.heap s.heap [] := va_S.rf
  refine zn_new (V := V) (ci := 7) (fs := [.null, .null, .null, .null, .null, .null, .null]) (C := RX7) (T := TX7) (N := 7) hx hb hts wsX70_in tyX7 tyX7_ok hown (hts _ (tq_1 _ (List.mem_of_getElem? (i := 10) rfl))) (hts _ (tq_1 _ (List.mem_of_getElem? (i := 11) rfl))) (hts _ (tq_1 _ (List.mem_of_getElem? (i := 1) rfl))) hE hS (show vwCl[7]? = some (RX7, TX7, 7) from rfl) (fun j hj => by rcases (show j = 0 ∨ j = 1 ∨ j = 2 ∨ j = 3 ∨ j = 4 ∨ j = 5 ∨ j = 6 by omega) with rfl | rfl | rfl | rfl | rfl | rfl | rfl <;> rfl) (Nat.le_of_ble_eq_true rfl) (Nat.le_of_ble_eq_true rfl) dL_law_0 (fun H_1 h_1 z1_ o1_ hS => ?_)
  refine lv_dup hx hb dL_law_3 rfl ?_
  have hX1 := hXs.kept (fun a h1 h2 => hS.2.1 a h1 h2)
  refine zc_v (va_runI (As := []) (rest := [.ref s.heap.size]) ⟨hx, hb, hml, hown, hts⟩ (c_X7_init l V s.heap.size) (cwI 0 hts (zgLB_ wsC_all wsC_in uC_240) rfl rfl rfl (hts _ (tq_1 _ (List.mem_of_getElem? (i := 1) rfl))) (hts _ (tq_1 _ (List.mem_of_getElem? (i := 12) rfl))) (hts _ (tq_1 _ (List.mem_of_getElem? (i := 13) rfl))) rfl (by decide +kernel) ⟨Nat.le_of_ble_eq_true rfl, Nat.le_of_ble_eq_true rfl⟩) (zPsS (B := fun U => (U.heap.size = s.heap.size + 1 ∧ va_at V.1 vwCl (s.heap.size, .inr (7, [.null, .null, .null, .null, .null, .null, .null])) U.heap) ∧ (zST (fun q => s.heap.size ≤ q) U U.heap ∧ va_AO RX0 U)) (fun _ _ _ _ h => ⟨h.1, zST.calling h.2.1, h.2.2⟩) (fun U hU hvm => by rw [hU]; exact ⟨⟨z1_, h_1⟩, hX1.moved hvm, hao.moved hvm⟩) hE) rfl rfl hl.1 rfl (lv_room (Nat.le_of_ble_eq_true rfl)) dL_law_4 ⟨Nat.le_of_ble_eq_true rfl, Nat.le_of_ble_eq_true rfl⟩) hS (fun q h => h) (fun q h => h) (fun H_2 locs hQ_ hge_ hk_ hS => ?_)
  clear h_1 z1_ o1_ hge_ hk_
  obtain ⟨hz, hT⟩ := hQ_
  refine lv_astore_n (lv' := [(1, .ref s.heap.size), (0, .ref b)]) hx hb dL_law_7 rfl hl (by decide) rfl (fun ls hl => ?_)
  refine W.widen (k := 404) (n := 3700) (Nat.le_of_ble_eq_true rfl) (Nat.le_of_ble_eq_true rfl) ?_
  refine law_set l hL C1 V hE hXs (hG_ s.heap.size) (hG_inj _) ?_ 0 0 0 (fun _ => 0) 0 0 0 0 H_2 locs ls hT hS ?_
  · intro q h_
    obtain ⟨x, hx1, rfl⟩ := h_
    exact hG_ge hx1
  · rw [(hG_m s.heap.size).2.2.2.1]
    exact lv_sub hl [0, 1] rfl
