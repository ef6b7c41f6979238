theorem zgLS_ {U : List Cond} (hU : U.all goodWord = true) (hin : ∀ w ∈ U, w ∈ lw_tbl) {c2 : Cond} {own : String} {idx : Nat} {y : MethodName} (h : c2 ∈ U) (h1 : Cond.methodLink own idx y ∈ lw_tbl) (h2 : Cond.static y ∈ lw_tbl) (h4 : Cond.initialized y.cls ∈ lw_tbl) : GoodIn lw_tbl (va_wsS own idx y (c2 :: U)) := fun w hw => by
  rcases List.mem_append.mp hw with hw | hw
  · simp only [List.mem_cons, List.not_mem_nil, or_false] at hw
    rcases hw with rfl | rfl | rfl
    · exact ⟨h1, good_of_word rfl⟩
    · exact ⟨h2, good_of_word rfl⟩
    · exact ⟨h4, good_of_word rfl⟩
  · exact zgLB_ hU hin h w hw
theorem lJ_0 : lJ (fun _ => zA0) 0 0 mW0 0 0 0 0 := ⟨by decide, by decide, fun j _ => rWf rRep0, rRep0, ⟨fun k hk => absurd hk (Nat.not_lt_zero _), ⟨1, by decide, rfl⟩, ⟨2, by decide, rfl⟩⟩, by decide, by decide, by decide⟩
set_option maxHeartbeats 4000000 in
set_option maxRecDepth 100000 in
theorem law_tail {p : Program} {e : Env} {s : State} {m : MethodId} {below : List Frame} {meth : Method} {c : Code} (l : Launch) {b L : Nat} {xs : Nat → Int32} (hL : L ≤ 260) (C0 : lw_At p s m meth c b L xs) (V : zV) (hE : zE V s) (hXs : zST (fun q => s.heap.size ≤ q) s s.heap) (G : Nat → Nat) (hJ : zInj 404 G) (hGA : ∀ q, zIn 404 G q → s.heap.size ≤ q) (f1 f2 : Int32) (np : Nat) (pd : Nat → Int32) (pa : Nat) (kd nu mo : Int32) (Y : Nat → zA) (hp hk : Nat) (w : Nat → Int32) (n N t a : Nat) (H : Heap) (locs : List Loc) (ls : Array Slot) (h : lJ Y hp hk w n N t a) (hT : zTP V G Y hp hk f1 f2 np pd pa kd nu mo H) (hS : va_S (fun q => s.heap.size ≤ q) s.heap H locs) (hl : lv_has ls 9 [(1, .ref (gM G 0))]) : W p l e room_1 s m #[Value.ref b] below meth c H locs 404 3700 (lw_Z below #[Value.ref b] s) (F0 m 393 ls []) := by
  obtain ⟨hx, hb, hr, hml, hown0, hts, hX, hbl, hlocks, hgv⟩ := id C0
  have hown : s.vm.findClass RL = some m.cls := hown0
  have hbA : ¬ (fun q : Nat => s.heap.size ≤ q) b := Nat.not_le.mpr hbl
  have hR := h.R
  have hk6 := h.2.1
  have hc := lRep_c hR
  have h44 := h.2.2.2.2.2.2.2
  have hta := h.2.2.2.2.2.1
  have hNa := h.2.2.2.2.2.2.1
  refine lv_aload_n hx hb dL_law_393 rfl (lv_at hl 0 rfl) ?_
  refine lv_iconst (v := 2) hx hb dL_law_394 (by decide +kernel) ?_
  refine lv_iconst (v := 0) hx hb dL_law_395 (by decide +kernel) ?_
  refine lv_iconst (v := 1) hx hb dL_law_396 (by decide +kernel) ?_
  refine zc_i (va_runV (As := [.int 2, .int 0, .int 1]) (rest := []) ⟨hx, hb, hml, hown, hts⟩ (c_X7_slip l V G Y hp hk f1 f2 np pd pa kd nu mo 2 0 1 hJ h.1 h.2.1 h.2.2.1) (cwV 3 hts (zgLV_ wsC_all wsC_in uC_274 (tq_2 _ (List.mem_of_getElem? (i := 37) rfl)) (tq_2 _ (List.mem_of_getElem? (i := 38) rfl)) (tq_2 _ (List.mem_of_getElem? (i := 39) rfl)) (tq_1 _ (List.mem_of_getElem? (i := 1) rfl))) rfl rfl rfl (by decide +kernel) ⟨Nat.le_of_ble_eq_true rfl, Nat.le_of_ble_eq_true rfl⟩) (zPreV (B := fun H => zTP V G Y hp hk f1 f2 np pd pa kd nu mo H) hT hE (zT_rt hE hT)) rfl rfl hl.1 rfl (lv_room (Nat.le_of_ble_eq_true rfl)) dL_law_397 ⟨Nat.le_of_ble_eq_true rfl, Nat.le_of_ble_eq_true rfl⟩) hS hGA hGA (fun r_ H_1 locs hQ_ _ hkp_ hS => ?_)
  obtain ⟨hr_, hT⟩ := hQ_
  subst hr_
  obtain ⟨e1_, q1_⟩ := lC_no (wr := 2) (d := 0) (m := 1) hR (by omega) (by omega) (lC_bad (by decide))
  have hj1_ : lJ (va_up (va_up Y (hp + 2) (Y 0)) 0 (kAcc (Y 0) 2 0 1)) (if 0 ≤ kAccR (aF (Y 0)) (aP (Y 0)) 2 0 1 then (hp + 1) % 7 else hp) (if 0 ≤ kAccR (aF (Y 0)) (aP (Y 0)) 2 0 1 then min (hk + 1) 6 else hk) w n N t a := lJ_up h q1_ h.X (by omega) (by omega) (by omega) _
  generalize va_up (va_up Y (hp + 2) (Y 0)) 0 (kAcc (Y 0) 2 0 1) = Y1 at hT hj1_
  generalize (if 0 ≤ kAccR (aF (Y 0)) (aP (Y 0)) 2 0 1 then (hp + 1) % 7 else hp) = hp1 at hT hj1_
  generalize (if 0 ≤ kAccR (aF (Y 0)) (aP (Y 0)) 2 0 1 then min (hk + 1) 6 else hk) = hk1 at hT hj1_
  have hR1 := hj1_.R
  have hk61 := hj1_.2.1
  refine zt_i (y := (-2)) e1_ ?_
  refine lv_bipush (v := (-2)) hx hb dL_law_400 (by decide +kernel) ?_
  refine lv_icmp_ne (tgt := 474) hx hb dL_law_402 (by decide) (fun c_402 => ?_) (fun c_402 => ?_)
  · exact absurd rfl c_402
  · refine lv_aload_n hx hb dL_law_405 rfl (lv_at hl 0 rfl) ?_
    refine lv_iconst (v := 0) hx hb dL_law_406 (by decide +kernel) ?_
    refine lv_bipush (v := 100) hx hb dL_law_407 (by decide +kernel) ?_
    refine lv_iconst (v := 1) hx hb dL_law_409 (by decide +kernel) ?_
    refine zc_i (va_runV (As := [.int 0, .int 100, .int 1]) (rest := []) ⟨hx, hb, hml, hown, hts⟩ (c_X7_slip l V G Y1 hp1 hk1 f1 f2 np pd pa kd nu mo 0 100 1 hJ hj1_.1 hj1_.2.1 hj1_.2.2.1) (cwV 3 hts (zgLV_ wsC_all wsC_in uC_274 (tq_2 _ (List.mem_of_getElem? (i := 37) rfl)) (tq_2 _ (List.mem_of_getElem? (i := 38) rfl)) (tq_2 _ (List.mem_of_getElem? (i := 39) rfl)) (tq_1 _ (List.mem_of_getElem? (i := 1) rfl))) rfl rfl rfl (by decide +kernel) ⟨Nat.le_of_ble_eq_true rfl, Nat.le_of_ble_eq_true rfl⟩) (zPreV (B := fun H => zTP V G Y1 hp1 hk1 f1 f2 np pd pa kd nu mo H) hT hE (zT_rt hE hT)) rfl rfl hl.1 rfl (lv_room (Nat.le_of_ble_eq_true rfl)) dL_law_410 ⟨Nat.le_of_ble_eq_true rfl, Nat.le_of_ble_eq_true rfl⟩) hS hGA hGA (fun r_ H_2 locs hQ_ _ hkp_ hS => ?_)
    obtain ⟨hr_, hT⟩ := hQ_
    subst hr_
    obtain ⟨e1_, q1_⟩ := lC_no (wr := 0) (d := 100) (m := 1) hR1 (by omega) (by omega) (lC_bad (by decide))
    have hj2_ : lJ (va_up (va_up Y1 (hp1 + 2) (Y1 0)) 0 (kAcc (Y1 0) 0 100 1)) (if 0 ≤ kAccR (aF (Y1 0)) (aP (Y1 0)) 0 100 1 then (hp1 + 1) % 7 else hp1) (if 0 ≤ kAccR (aF (Y1 0)) (aP (Y1 0)) 0 100 1 then min (hk1 + 1) 6 else hk1) w n N t a := lJ_up hj1_ q1_ h.X (by omega) (by omega) (by omega) _
    generalize va_up (va_up Y1 (hp1 + 2) (Y1 0)) 0 (kAcc (Y1 0) 0 100 1) = Y2 at hT hj2_
    generalize (if 0 ≤ kAccR (aF (Y1 0)) (aP (Y1 0)) 0 100 1 then (hp1 + 1) % 7 else hp1) = hp2 at hT hj2_
    generalize (if 0 ≤ kAccR (aF (Y1 0)) (aP (Y1 0)) 0 100 1 then min (hk1 + 1) 6 else hk1) = hk2 at hT hj2_
    have hR2 := hj2_.R
    have hk62 := hj2_.2.1
    refine zt_i (y := (-2)) e1_ ?_
    refine lv_bipush (v := (-2)) hx hb dL_law_413 (by decide +kernel) ?_
    refine lv_icmp_ne (tgt := 474) hx hb dL_law_415 (by decide) (fun c_415 => ?_) (fun c_415 => ?_)
    · exact absurd rfl c_415
    · refine lv_aload_n hx hb dL_law_418 rfl (lv_at hl 0 rfl) ?_
      refine lv_iconst (v := 0) hx hb dL_law_419 (by decide +kernel) ?_
      refine zc_i (va_runV (As := [.int 0]) (rest := []) ⟨hx, hb, hml, hown, hts⟩ (c_X7_serve l V G Y2 hp2 hk2 f1 f2 np pd pa kd nu mo 0 hJ hj2_.1 hj2_.2.1 hj2_.2.2.1 (rGood hR2)) (cwV 1 hts (zgLV_ wsC_all wsC_in uC_287 (tq_2 _ (List.mem_of_getElem? (i := 88) rfl)) (tq_2 _ (List.mem_of_getElem? (i := 89) rfl)) (tq_2 _ (List.mem_of_getElem? (i := 90) rfl)) (tq_1 _ (List.mem_of_getElem? (i := 1) rfl))) rfl rfl rfl (by decide +kernel) ⟨Nat.le_of_ble_eq_true rfl, Nat.le_of_ble_eq_true rfl⟩) (zPreV (B := fun H => zTP V G Y2 hp2 hk2 f1 f2 np pd pa kd nu mo H) hT hE (zT_rt hE hT)) rfl rfl hl.1 rfl (lv_room (Nat.le_of_ble_eq_true rfl)) dL_law_420 ⟨Nat.le_of_ble_eq_true rfl, Nat.le_of_ble_eq_true rfl⟩) hS hGA hGA (fun r_ H_3 locs hQ_ _ hkp_ hS => ?_)
      obtain ⟨hr_, hT⟩ := hQ_
      subst hr_
      obtain ⟨e1_, e2_⟩ := lServe_bad (A := Y2 0) (x := 0) (by decide)
      have hj3_ : lJ (va_up (va_up (va_up Y2 (hp2 + 2) (Y2 0)) 1 (kSrvT (Y2 0) (Y2 1) 0)) 0 (kSrvA (Y2 0) 0)) (if 0 ≤ kSrvR (Y2 0) 0 then (hp2 + 1) % 7 else hp2) (if 0 ≤ kSrvR (Y2 0) 0 then min (hk2 + 1) 6 else hk2) w n N t a := lJ_up3 hj2_ (kSrvT_wf (hj2_.wf 0 (by decide)) (hj2_.wf 1 (by decide))) (show Rep (kSrvA (Y2 0) 0) w n N t by rw [e2_]; exact hR2) h.X (by omega) (by omega) (by omega) _
      generalize va_up (va_up (va_up Y2 (hp2 + 2) (Y2 0)) 1 (kSrvT (Y2 0) (Y2 1) 0)) 0 (kSrvA (Y2 0) 0) = Y3 at hT hj3_
      generalize (if 0 ≤ kSrvR (Y2 0) 0 then (hp2 + 1) % 7 else hp2) = hp3 at hT hj3_
      generalize (if 0 ≤ kSrvR (Y2 0) 0 then min (hk2 + 1) 6 else hk2) = hk3 at hT hj3_
      have hR3 := hj3_.R
      have hk63 := hj3_.2.1
      refine zt_i (y := (-2)) e1_ ?_
      refine lv_bipush (v := (-2)) hx hb dL_law_423 (by decide +kernel) ?_
      refine lv_icmp_ne (tgt := 474) hx hb dL_law_425 (by decide) (fun c_425 => ?_) (fun c_425 => ?_)
      · exact absurd rfl c_425
      · refine lv_aload_n hx hb dL_law_428 rfl (lv_at hl 0 rfl) ?_
        refine lv_bipush (v := 31) hx hb dL_law_429 (by decide +kernel) ?_
        refine zc_i (va_runV (As := [.int 31]) (rest := []) ⟨hx, hb, hml, hown, hts⟩ (c_X7_serve l V G Y3 hp3 hk3 f1 f2 np pd pa kd nu mo 31 hJ hj3_.1 hj3_.2.1 hj3_.2.2.1 (rGood hR3)) (cwV 1 hts (zgLV_ wsC_all wsC_in uC_287 (tq_2 _ (List.mem_of_getElem? (i := 88) rfl)) (tq_2 _ (List.mem_of_getElem? (i := 89) rfl)) (tq_2 _ (List.mem_of_getElem? (i := 90) rfl)) (tq_1 _ (List.mem_of_getElem? (i := 1) rfl))) rfl rfl rfl (by decide +kernel) ⟨Nat.le_of_ble_eq_true rfl, Nat.le_of_ble_eq_true rfl⟩) (zPreV (B := fun H => zTP V G Y3 hp3 hk3 f1 f2 np pd pa kd nu mo H) hT hE (zT_rt hE hT)) rfl rfl hl.1 rfl (lv_room (Nat.le_of_ble_eq_true rfl)) dL_law_431 ⟨Nat.le_of_ble_eq_true rfl, Nat.le_of_ble_eq_true rfl⟩) hS hGA hGA (fun r_ H_4 locs hQ_ _ hkp_ hS => ?_)
        obtain ⟨hr_, hT⟩ := hQ_
        subst hr_
        obtain ⟨e1_, e2_⟩ := lServe_bad (A := Y3 0) (x := 31) (by decide)
        have hj4_ : lJ (va_up (va_up (va_up Y3 (hp3 + 2) (Y3 0)) 1 (kSrvT (Y3 0) (Y3 1) 31)) 0 (kSrvA (Y3 0) 31)) (if 0 ≤ kSrvR (Y3 0) 31 then (hp3 + 1) % 7 else hp3) (if 0 ≤ kSrvR (Y3 0) 31 then min (hk3 + 1) 6 else hk3) w n N t a := lJ_up3 hj3_ (kSrvT_wf (hj3_.wf 0 (by decide)) (hj3_.wf 1 (by decide))) (show Rep (kSrvA (Y3 0) 31) w n N t by rw [e2_]; exact hR3) h.X (by omega) (by omega) (by omega) _
        generalize va_up (va_up (va_up Y3 (hp3 + 2) (Y3 0)) 1 (kSrvT (Y3 0) (Y3 1) 31)) 0 (kSrvA (Y3 0) 31) = Y4 at hT hj4_
        generalize (if 0 ≤ kSrvR (Y3 0) 31 then (hp3 + 1) % 7 else hp3) = hp4 at hT hj4_
        generalize (if 0 ≤ kSrvR (Y3 0) 31 then min (hk3 + 1) 6 else hk3) = hk4 at hT hj4_
        have hR4 := hj4_.R
        have hk64 := hj4_.2.1
        refine zt_i (y := (-2)) e1_ ?_
        refine lv_bipush (v := (-2)) hx hb dL_law_434 (by decide +kernel) ?_
        refine lv_icmp_ne (tgt := 474) hx hb dL_law_436 (by decide) (fun c_436 => ?_) (fun c_436 => ?_)
        · exact absurd rfl c_436
        · refine lv_aload_n hx hb dL_law_439 rfl (lv_at hl 0 rfl) ?_
          refine lv_sipush (v := 1000) hx hb dL_law_440 (by decide +kernel) ?_
          refine zc_i (va_runV (As := [.int 1000]) (rest := []) ⟨hx, hb, hml, hown, hts⟩ (c_X7_tear l V G Y4 hp4 hk4 f1 f2 np pd pa kd nu mo 1000 hJ hj4_.1 hj4_.2.1 hj4_.2.2.1) (cwV 1 hts (zgLV_ wsC_all wsC_in uC_277 (tq_2 _ (List.mem_of_getElem? (i := 68) rfl)) (tq_2 _ (List.mem_of_getElem? (i := 69) rfl)) (tq_2 _ (List.mem_of_getElem? (i := 70) rfl)) (tq_1 _ (List.mem_of_getElem? (i := 1) rfl))) rfl rfl rfl (by decide +kernel) ⟨Nat.le_of_ble_eq_true rfl, Nat.le_of_ble_eq_true rfl⟩) (zPreV (B := fun H => zTP V G Y4 hp4 hk4 f1 f2 np pd pa kd nu mo H) hT hE (zT_rt hE hT)) rfl rfl hl.1 rfl (lv_room (Nat.le_of_ble_eq_true rfl)) dL_law_443 ⟨Nat.le_of_ble_eq_true rfl, Nat.le_of_ble_eq_true rfl⟩) hS hGA hGA (fun r_ H_5 locs hQ_ _ hkp_ hS => ?_)
          obtain ⟨hr_, hT⟩ := hQ_
          subst hr_
          have q0_ := lTear_no hR4 (x := 1000) (by omega) (by decide)
          have e1_ : kTearR (aF (Y4 0)) (aP (Y4 0)) 1000 = -1 := q0_.1
          have e2_ : kTear (Y4 0) 1000 = Y4 0 := q0_.2
          have hj5_ : lJ (va_up (va_up Y4 (hp4 + 2) (Y4 0)) 0 (kTear (Y4 0) 1000)) (if 0 ≤ kTearR (aF (Y4 0)) (aP (Y4 0)) 1000 then (hp4 + 1) % 7 else hp4) (if 0 ≤ kTearR (aF (Y4 0)) (aP (Y4 0)) 1000 then min (hk4 + 1) 6 else hk4) w n N t a := lJ_up hj4_ (show Rep (kTear (Y4 0) 1000) w n N t by rw [e2_]; exact hR4) h.X (by omega) (by omega) (by omega) _
          generalize va_up (va_up Y4 (hp4 + 2) (Y4 0)) 0 (kTear (Y4 0) 1000) = Y5 at hT hj5_
          generalize (if 0 ≤ kTearR (aF (Y4 0)) (aP (Y4 0)) 1000 then (hp4 + 1) % 7 else hp4) = hp5 at hT hj5_
          generalize (if 0 ≤ kTearR (aF (Y4 0)) (aP (Y4 0)) 1000 then min (hk4 + 1) 6 else hk4) = hk5 at hT hj5_
          have hR5 := hj5_.R
          have hk65 := hj5_.2.1
          refine zt_i (y := (-1)) e1_ ?_
          refine lv_iconst (v := (-1)) hx hb dL_law_446 (by decide +kernel) ?_
          refine lv_icmp_ne (tgt := 474) hx hb dL_law_447 (by decide) (fun c_447 => ?_) (fun c_447 => ?_)
          · exact absurd rfl c_447
          · refine lv_aload_n hx hb dL_law_450 rfl (lv_at hl 0 rfl) ?_
            refine lv_iconst (v := 3) hx hb dL_law_451 (by decide +kernel) ?_
            refine zc_se (va_runV (As := [.int 3]) (rest := []) ⟨hx, hb, hml, hown, hts⟩ (c_X7_next l V G Y5 hp5 hk5 f1 f2 np pd pa kd nu mo 3 hJ) (cwV 1 hts (zgLV_ wsC_all wsC_in uC_310 (tq_2 _ (List.mem_of_getElem? (i := 176) rfl)) (tq_2 _ (List.mem_of_getElem? (i := 177) rfl)) (tq_2 _ (List.mem_of_getElem? (i := 178) rfl)) (tq_1 _ (List.mem_of_getElem? (i := 1) rfl))) rfl rfl rfl (by decide +kernel) ⟨Nat.le_of_ble_eq_true rfl, Nat.le_of_ble_eq_true rfl⟩) (zPreV (B := fun H => zTP V G Y5 hp5 hk5 f1 f2 np pd pa kd nu mo H) hT hE (zT_rt hE hT)) rfl rfl hl.1 rfl (lv_room (Nat.le_of_ble_eq_true rfl)) dL_law_452 ⟨Nat.le_of_ble_eq_true rfl, Nat.le_of_ble_eq_true rfl⟩) ?_
            refine zt_i (y := (-2)) (ln_3 hR5) ?_
            refine lv_bipush (v := (-2)) hx hb dL_law_455 (by decide +kernel) ?_
            refine lv_icmp_ne (tgt := 474) hx hb dL_law_457 (by decide) (fun c_457 => ?_) (fun c_457 => ?_)
            · exact absurd rfl c_457
            · refine lv_aload_n hx hb dL_law_460 rfl (lv_at hl 0 rfl) ?_
              refine lv_iconst (v := 3) hx hb dL_law_461 (by decide +kernel) ?_
              refine zc_i (va_runV (As := [.int 3]) (rest := []) ⟨hx, hb, hml, hown, hts⟩ (c_X7_all l V G Y5 hp5 hk5 f1 f2 np pd pa kd nu mo 3 hJ hj5_.2.2.1 (rGood hR5)) (cwV 1 hts (zgLV_ wsC_all wsC_in uC_312 (tq_2 _ (List.mem_of_getElem? (i := 183) rfl)) (tq_2 _ (List.mem_of_getElem? (i := 184) rfl)) (tq_2 _ (List.mem_of_getElem? (i := 185) rfl)) (tq_1 _ (List.mem_of_getElem? (i := 1) rfl))) rfl rfl rfl (by decide +kernel) ⟨Nat.le_of_ble_eq_true rfl, Nat.le_of_ble_eq_true rfl⟩) (zPreV (B := fun H => zTP V G Y5 hp5 hk5 f1 f2 np pd pa kd nu mo H) hT hE (zT_rt hE hT)) rfl rfl hl.1 rfl (lv_room (Nat.le_of_ble_eq_true rfl)) dL_law_462 ⟨Nat.le_of_ble_eq_true rfl, Nat.le_of_ble_eq_true rfl⟩) hS hGA hGA (fun r_ H_6 locs hQ_ _ hkp_ hS => ?_)
              obtain ⟨hr_, hT⟩ := hQ_
              subst hr_
              have e1_ : kAlR (Y5 0) 3 = -2 := if_neg (by decide)
              have hj6_ : lJ (va_up Y5 1 (kAlT (Y5 0) (Y5 1) 3)) hp5 hk5 w n N t a := lJ_trial hj5_ (kAlT_wf (hj5_.wf 0 (by decide)) (hj5_.wf 1 (by decide)))
              generalize va_up Y5 1 (kAlT (Y5 0) (Y5 1) 3) = Y6 at hT hj6_
              have hR6 := hj6_.R
              have hk66 := hj6_.2.1
              refine zt_i (y := (-2)) e1_ ?_
              refine lv_bipush (v := (-2)) hx hb dL_law_465 (by decide +kernel) ?_
              refine lv_icmp_ne (tgt := 474) hx hb dL_law_467 (by decide) (fun c_467 => ?_) (fun c_467 => ?_)
              · exact absurd rfl c_467
              · refine lv_iconst (v := 1) hx hb dL_law_470 (by decide +kernel) ?_
                refine lv_goto (tgt := 475) hx hb dL_law_471 (by decide) ?_
                refine va_forget hS.2.2 ?_
                refine W.widen (k := 600000) (n := 7302250) (Nat.le_of_ble_eq_true rfl) (Nat.le_of_ble_eq_true rfl) ?_
                exact lw_ret hx hb hr hlocks dL_law_475
set_option maxHeartbeats 4000000 in
set_option maxRecDepth 100000 in
theorem law_loop {p : Program} {e : Env} {s : State} {m : MethodId} {below : List Frame} {meth : Method} {c : Code} (l : Launch) {b L : Nat} {xs : Nat → Int32} (hL : L ≤ 260) (C0 : lw_At p s m meth c b L xs) (V : zV) (hE : zE V s) (hXs : zST (fun q => s.heap.size ≤ q) s s.heap) (G : Nat → Nat) (hJ : zInj 404 G) (hGA : ∀ q, zIn 404 G q → s.heap.size ≤ q) (f1 f2 : Int32) (np : Nat) (pd : Nat → Int32) (pa : Nat) (kd nu mo : Int32) : ∀ (m_ i : Nat) (Y : Nat → zA) (hp hk : Nat) (w : Nat → Int32) (n N t : Nat) (H : Heap) (locs : List Loc) (ls : Array Slot), i ≤ 44 → 45 ≤ i + m_ → lJ Y hp hk w n N t i → zTP V G Y hp hk f1 f2 np pd pa kd nu mo H → va_S (fun q => s.heap.size ≤ q) s.heap H locs → lv_has ls 9 [(5, .int (nI i)), (3, .int (w 16)), (4, .int (nI (aS (Y 0) + n))), (0, .ref b), (1, .ref (gM G 0))] → W p l e room_1 s m #[Value.ref b] below meth c H locs 404 3700 (lw_Z below #[Value.ref b] s) (F0 m 116 ls []) := by
  obtain ⟨hx, hb, hr, hml, hown0, hts, hX, hbl, hlocks, hgv⟩ := id C0
  have hown : s.vm.findClass RL = some m.cls := hown0
  have hbA : ¬ (fun q : Nat => s.heap.size ≤ q) b := Nat.not_le.mpr hbl
  intro m_
  induction m_ with
  | zero => intro i Y hp hk w n N t H locs ls hi_ hn_; exact absurd hn_ (by omega)
  | succ m_ ih =>
    intro i Y hp hk w n N t H locs ls hi_ hn_ h hT hS hl
    have hK : i < 44 → ∀ (Y : Nat → zA) (hp hk : Nat) (w : Nat → Int32) (n N t : Nat) (H : Heap) (locs : List Loc) (ls : Array Slot), lJ Y hp hk w n N t (i + 1) → zTP V G Y hp hk f1 f2 np pd pa kd nu mo H → va_S (fun q => s.heap.size ≤ q) s.heap H locs → lv_has ls 9 [(5, .int (nI i)), (3, .int (w 16)), (4, .int (nI (aS (Y 0) + n))), (0, .ref b), (1, .ref (gM G 0))] → W p l e room_1 s m #[Value.ref b] below meth c H locs 404 3700 (lw_Z below #[Value.ref b] s) (F0 m 347 ls []) := by
      intro hi44 Y hp hk w n N t H locs ls h hT hS hl
      have hR := h.R
      have hk6 := h.2.1
      have hc := lRep_c hR
      have hsum := rMany (lRep_I hR)
      refine lv_aload_n hx hb dL_law_347 rfl (lv_at hl 4 rfl) ?_
      refine lv_iconst (v := 0) hx hb dL_law_348 (by decide +kernel) ?_
      refine zc_se (va_runS (As := [.ref (gM G 0), .int 0]) (rest := []) ⟨hx, hb, hml, hown, hts⟩ (c_L_inOrder l V G Y hp hk f1 f2 np pd pa kd nu mo w n N t (i + 1) 0 hJ h (Or.inl rfl)) (va_cwS 2 hts (zgLS_ wsG_all wsG_in uG_16 (tq_2 _ (List.mem_of_getElem? (i := 195) rfl)) (tq_2 _ (List.mem_of_getElem? (i := 196) rfl)) (tq_1 _ (List.mem_of_getElem? (i := 0) rfl))) rfl rfl rfl (by decide +kernel) ⟨Nat.le_of_ble_eq_true rfl, Nat.le_of_ble_eq_true rfl⟩) (zPreS (B := fun H => zTP V G Y hp hk f1 f2 np pd pa kd nu mo H) hT hE) rfl rfl hl.1 rfl (lv_room (Nat.le_of_ble_eq_true rfl)) dL_law_349 ⟨Nat.le_of_ble_eq_true rfl, Nat.le_of_ble_eq_true rfl⟩) ?_
      refine lv_if_eq (tgt := 385) hx hb dL_law_352 (by decide) (fun c_352 => ?_) (fun c_352 => ?_)
      · exact absurd c_352 (by decide +kernel)
      refine lv_aload_n hx hb dL_law_355 rfl (lv_at hl 4 rfl) ?_
      refine lv_iconst (v := 1) hx hb dL_law_356 (by decide +kernel) ?_
      refine zc_se (va_runS (As := [.ref (gM G 0), .int 1]) (rest := []) ⟨hx, hb, hml, hown, hts⟩ (c_L_inOrder l V G Y hp hk f1 f2 np pd pa kd nu mo w n N t (i + 1) 1 hJ h (Or.inr rfl)) (va_cwS 2 hts (zgLS_ wsG_all wsG_in uG_16 (tq_2 _ (List.mem_of_getElem? (i := 195) rfl)) (tq_2 _ (List.mem_of_getElem? (i := 196) rfl)) (tq_1 _ (List.mem_of_getElem? (i := 0) rfl))) rfl rfl rfl (by decide +kernel) ⟨Nat.le_of_ble_eq_true rfl, Nat.le_of_ble_eq_true rfl⟩) (zPreS (B := fun H => zTP V G Y hp hk f1 f2 np pd pa kd nu mo H) hT hE) rfl rfl hl.1 rfl (lv_room (Nat.le_of_ble_eq_true rfl)) dL_law_357 ⟨Nat.le_of_ble_eq_true rfl, Nat.le_of_ble_eq_true rfl⟩) ?_
      refine lv_if_eq (tgt := 385) hx hb dL_law_360 (by decide) (fun c_360 => ?_) (fun c_360 => ?_)
      · exact absurd c_360 (by decide +kernel)
      refine lv_aload_n hx hb dL_law_363 rfl (lv_at hl 4 rfl) ?_
      refine lv_iconst (v := 4) hx hb dL_law_364 (by decide +kernel) ?_
      refine zc_se (va_runV (As := [.int 4]) (rest := []) ⟨hx, hb, hml, hown, hts⟩ (c_X7_count l V G Y hp hk f1 f2 np pd pa kd nu mo 4 hJ hk6) (cwV 1 hts (zgLV_ wsC_all wsC_in uC_307 (tq_2 _ (List.mem_of_getElem? (i := 168) rfl)) (tq_2 _ (List.mem_of_getElem? (i := 169) rfl)) (tq_2 _ (List.mem_of_getElem? (i := 170) rfl)) (tq_1 _ (List.mem_of_getElem? (i := 1) rfl))) rfl rfl rfl (by decide +kernel) ⟨Nat.le_of_ble_eq_true rfl, Nat.le_of_ble_eq_true rfl⟩) (zPreV (B := fun H => zTP V G Y hp hk f1 f2 np pd pa kd nu mo H) hT hE (zT_rt hE hT)) rfl rfl hl.1 rfl (lv_room (Nat.le_of_ble_eq_true rfl)) dL_law_365 ⟨Nat.le_of_ble_eq_true rfl, Nat.le_of_ble_eq_true rfl⟩) ?_
      refine zt_i (y := nI (aS (Y 0))) ((lc_4 hR np hk).trans hc.2.2.2.2.2.2.2.1) ?_
      refine lv_aload_n hx hb dL_law_368 rfl (lv_at hl 4 rfl) ?_
      refine lv_iconst (v := 1) hx hb dL_law_369 (by decide +kernel) ?_
      refine zc_se (va_runV (As := [.int 1]) (rest := [.int (nI (aS (Y 0)))]) ⟨hx, hb, hml, hown, hts⟩ (c_X7_count l V G Y hp hk f1 f2 np pd pa kd nu mo 1 hJ hk6) (cwV 1 hts (zgLV_ wsC_all wsC_in uC_307 (tq_2 _ (List.mem_of_getElem? (i := 168) rfl)) (tq_2 _ (List.mem_of_getElem? (i := 169) rfl)) (tq_2 _ (List.mem_of_getElem? (i := 170) rfl)) (tq_1 _ (List.mem_of_getElem? (i := 1) rfl))) rfl rfl rfl (by decide +kernel) ⟨Nat.le_of_ble_eq_true rfl, Nat.le_of_ble_eq_true rfl⟩) (zPreV (B := fun H => zTP V G Y hp hk f1 f2 np pd pa kd nu mo H) hT hE (zT_rt hE hT)) rfl rfl hl.1 rfl (lv_room (Nat.le_of_ble_eq_true rfl)) dL_law_370 ⟨Nat.le_of_ble_eq_true rfl, Nat.le_of_ble_eq_true rfl⟩) ?_
      refine zt_i (y := nI (mMany w n 0)) (lc_1 hR np hk) ?_
      refine lv_iadd hx hb dL_law_373 ?_
      refine zt_i (z_add (a := aS (Y 0)) (b := mMany w n 0) (by first | rfl | omega)) ?_
      refine lv_aload_n hx hb dL_law_374 rfl (lv_at hl 4 rfl) ?_
      refine lv_iconst (v := 2) hx hb dL_law_375 (by decide +kernel) ?_
      refine zc_se (va_runV (As := [.int 2]) (rest := [.int (nI ((aS (Y 0)) + (mMany w n 0)))]) ⟨hx, hb, hml, hown, hts⟩ (c_X7_count l V G Y hp hk f1 f2 np pd pa kd nu mo 2 hJ hk6) (cwV 1 hts (zgLV_ wsC_all wsC_in uC_307 (tq_2 _ (List.mem_of_getElem? (i := 168) rfl)) (tq_2 _ (List.mem_of_getElem? (i := 169) rfl)) (tq_2 _ (List.mem_of_getElem? (i := 170) rfl)) (tq_1 _ (List.mem_of_getElem? (i := 1) rfl))) rfl rfl rfl (by decide +kernel) ⟨Nat.le_of_ble_eq_true rfl, Nat.le_of_ble_eq_true rfl⟩) (zPreV (B := fun H => zTP V G Y hp hk f1 f2 np pd pa kd nu mo H) hT hE (zT_rt hE hT)) rfl rfl hl.1 rfl (lv_room (Nat.le_of_ble_eq_true rfl)) dL_law_376 ⟨Nat.le_of_ble_eq_true rfl, Nat.le_of_ble_eq_true rfl⟩) ?_
      refine zt_i (y := nI (mMany w n 1)) (lc_2 hR np hk) ?_
      refine lv_iadd hx hb dL_law_379 ?_
      refine zt_i (z_add (a := (aS (Y 0)) + (mMany w n 0)) (b := mMany w n 1) (by first | rfl | omega)) ?_
      refine lv_iload hx hb dL_law_380 (lv_at hl 2 rfl) ?_
      refine zb_eq (x := ((aS (Y 0)) + (mMany w n 0)) + (mMany w n 1)) (y := aS (Y 0) + n) (tgt := 387) hx hb dL_law_382 (by decide) (by omega) (by omega) (fun c_382 => ?_) (fun c_382 => ?_)
      · refine lv_iinc (v := nI (i + 1)) (lv' := [(5, .int (nI (i + 1))), (3, .int (w 16)), (4, .int (nI (aS (Y 0) + n))), (0, .ref b), (1, .ref (gM G 0))]) hx hb dL_law_387 hl (k := 0) rfl (z_inc1 i) (by decide) rfl (fun ls hl => ?_)
        refine lv_goto (tgt := 116) hx hb dL_law_390 (by decide) ?_
        exact ih (i + 1) Y hp hk w n N t H locs ls (by omega) (by omega) h hT hS (lv_sub hl [0, 1, 2, 3, 4] rfl)
      · exact absurd (by omega) c_382
    refine lv_iload hx hb dL_law_116 (lv_at hl 0 rfl) ?_
    refine lv_bipush (v := 44) hx hb dL_law_118 (by decide +kernel) ?_
    refine zb_ge (x := i) (y := 44) (tgt := 393) hx hb dL_law_120 (by decide) (by omega) (by omega) (fun c_120 => ?_) (fun c_120 => ?_)
    · exact law_tail l hL C0 V hE hXs G hJ hGA f1 f2 np pd pa kd nu mo Y hp hk w n N t i H locs ls h hT hS (lv_sub hl [4] rfl)
    · have K := hK c_120
      clear hK ih
      have hR := h.R
      have hk6 := h.2.1
      have hc := lRep_c hR
      have hsum := rMany (lRep_I hR)
      have hta := h.2.2.2.2.2.1
      refine lv_aload_n hx hb dL_law_123 rfl (lv_at hl 3 rfl) ?_
      refine lv_iconst (v := 1) hx hb dL_law_124 (by decide +kernel) ?_
      refine lv_iload hx hb dL_law_125 (lv_at hl 0 rfl) ?_
      refine lv_iadd hx hb dL_law_127 ?_
      refine zt_i (z_add (a := 1) (b := i) (by first | rfl | omega)) ?_
      refine zc_si (va_runS (As := [.ref b, .int (nI (1 + i))]) (rest := []) ⟨hx, hb, hml, hown, hts⟩ (c_L_cell l V b L (1 + i) xs (by omega) (by omega)) (va_cwS 2 hts (zgLS_ wsG_all wsG_in uG_0 (tq_2 _ (List.mem_of_getElem? (i := 187) rfl)) (tq_2 _ (List.mem_of_getElem? (i := 188) rfl)) (tq_1 _ (List.mem_of_getElem? (i := 0) rfl))) rfl rfl rfl (by decide +kernel) ⟨Nat.le_of_ble_eq_true rfl, Nat.le_of_ble_eq_true rfl⟩) (zPsS (B := fun U => zRd U U.heap b L xs) (fun _ _ _ _ h => zRd_calling h) (fun U hU hvm => by rw [hU]; exact zRd.moved hvm (lX_rd hX hbl hbA hS)) hE) rfl rfl hl.1 rfl (lv_room (Nat.le_of_ble_eq_true rfl)) dL_law_128 ⟨Nat.le_of_ble_eq_true rfl, Nat.le_of_ble_eq_true rfl⟩) (fun v128_ _ => ?_)
      refine lv_istore (lv' := [(6, .int v128_), (5, .int (nI i)), (3, .int (w 16)), (4, .int (nI (aS (Y 0) + n))), (0, .ref b), (1, .ref (gM G 0))]) hx hb dL_law_131 hl (by decide) rfl (fun ls hl => ?_)
      refine lv_iload hx hb dL_law_133 (lv_at hl 0 rfl) ?_
      refine lv_bipush (v := 7) hx hb dL_law_135 (by decide +kernel) ?_
      refine zc_se (va_runS (As := [.int v128_, .int 7]) (rest := []) ⟨hx, hb, hml, hown, hts⟩ (c_L_low l V v128_ (7) (by omega) (by omega)) (va_cwS 2 hts (zgLS_ wsG_all wsG_in uG_2 (tq_2 _ (List.mem_of_getElem? (i := 191) rfl)) (tq_2 _ (List.mem_of_getElem? (i := 192) rfl)) (tq_1 _ (List.mem_of_getElem? (i := 0) rfl))) rfl rfl rfl (by decide +kernel) ⟨Nat.le_of_ble_eq_true rfl, Nat.le_of_ble_eq_true rfl⟩) (zPreS (B := fun _ => True) trivial hE) rfl rfl hl.1 rfl (lv_room (Nat.le_of_ble_eq_true rfl)) dL_law_137 ⟨Nat.le_of_ble_eq_true rfl, Nat.le_of_ble_eq_true rfl⟩) ?_
      obtain ⟨q_, hq_, eq_⟩ := lMod_lt v128_ (m := 7) (by omega) (by omega)
      refine zt_i (y := nI q_) eq_ ?_
      refine lv_istore (lv' := [(7, .int (nI q_)), (6, .int v128_), (5, .int (nI i)), (3, .int (w 16)), (4, .int (nI (aS (Y 0) + n))), (0, .ref b), (1, .ref (gM G 0))]) hx hb dL_law_140 hl (by decide) rfl (fun ls hl => ?_)
      refine lv_iload hx hb dL_law_142 (lv_at hl 0 rfl) ?_
      refine lv_iconst (v := 4) hx hb dL_law_144 (by decide +kernel) ?_
      refine zb_ge (x := q_) (y := 4) (tgt := 265) hx hb dL_law_145 (by decide) (by omega) (by omega) (fun c_145 => ?_) (fun c_145 => ?_)
      · refine lv_iload hx hb dL_law_265 (lv_at hl 0 rfl) ?_
        refine lv_bipush (v := 6) hx hb dL_law_267 (by decide +kernel) ?_
        refine zb_ge (x := q_) (y := 6) (tgt := 284) hx hb dL_law_269 (by decide) (by omega) (by omega) (fun c_269 => ?_) (fun c_269 => ?_)
        · refine lv_aload_n hx hb dL_law_284 rfl (lv_at hl 6 rfl) ?_
          refine lv_iconst (v := 0) hx hb dL_law_285 (by decide +kernel) ?_
          refine zc_se (va_runV (As := [.int 0]) (rest := []) ⟨hx, hb, hml, hown, hts⟩ (c_X7_count l V G Y hp hk f1 f2 np pd pa kd nu mo 0 hJ hk6) (cwV 1 hts (zgLV_ wsC_all wsC_in uC_307 (tq_2 _ (List.mem_of_getElem? (i := 168) rfl)) (tq_2 _ (List.mem_of_getElem? (i := 169) rfl)) (tq_2 _ (List.mem_of_getElem? (i := 170) rfl)) (tq_1 _ (List.mem_of_getElem? (i := 1) rfl))) rfl rfl rfl (by decide +kernel) ⟨Nat.le_of_ble_eq_true rfl, Nat.le_of_ble_eq_true rfl⟩) (zPreV (B := fun H => zTP V G Y hp hk f1 f2 np pd pa kd nu mo H) hT hE (zT_rt hE hT)) rfl rfl hl.1 rfl (lv_room (Nat.le_of_ble_eq_true rfl)) dL_law_286 ⟨Nat.le_of_ble_eq_true rfl, Nat.le_of_ble_eq_true rfl⟩) ?_
          refine zt_i (y := nI t) ((lc_0 hR np hk).trans hc.2.2.2.2.2.1) ?_
          refine lv_istore (lv' := [(8, .int (nI t)), (7, .int (nI q_)), (6, .int v128_), (5, .int (nI i)), (3, .int (w 16)), (4, .int (nI (aS (Y 0) + n))), (0, .ref b), (1, .ref (gM G 0))]) hx hb dL_law_289 hl (by decide) rfl (fun ls hl => ?_)
          refine lv_aload_n hx hb dL_law_291 rfl (lv_at hl 7 rfl) ?_
          refine lv_iconst (v := 1) hx hb dL_law_292 (by decide +kernel) ?_
          refine lv_iload hx hb dL_law_293 (lv_at hl 2 rfl) ?_
          refine lv_iconst (v := 4) hx hb dL_law_295 (by decide +kernel) ?_
          refine lv_ishr hx hb dL_law_296 ?_
          refine lv_bipush (v := 60) hx hb dL_law_297 (by decide +kernel) ?_
          refine zc_se (va_runS (As := [.int (v128_ >>> ((4 : Int32) &&& 31)), .int 60]) (rest := [.int 1, .ref (gM G 0)]) ⟨hx, hb, hml, hown, hts⟩ (c_L_low l V (v128_ >>> ((4 : Int32) &&& 31)) (60) (by omega) (by omega)) (va_cwS 2 hts (zgLS_ wsG_all wsG_in uG_2 (tq_2 _ (List.mem_of_getElem? (i := 191) rfl)) (tq_2 _ (List.mem_of_getElem? (i := 192) rfl)) (tq_1 _ (List.mem_of_getElem? (i := 0) rfl))) rfl rfl rfl (by decide +kernel) ⟨Nat.le_of_ble_eq_true rfl, Nat.le_of_ble_eq_true rfl⟩) (zPreS (B := fun _ => True) trivial hE) rfl rfl hl.1 rfl (lv_room (Nat.le_of_ble_eq_true rfl)) dL_law_299 ⟨Nat.le_of_ble_eq_true rfl, Nat.le_of_ble_eq_true rfl⟩) ?_
          obtain ⟨j_, hj_, ej_⟩ := lMod_lt (v128_ >>> ((4 : Int32) &&& 31)) (m := 60) (by omega) (by omega)
          refine zt_i (y := nI j_) ej_ ?_
          refine lv_iadd hx hb dL_law_302 ?_
          refine zt_i (z_add (a := 1) (b := j_) (by first | rfl | omega)) ?_
          refine zc_i (va_runV (As := [.int (nI (1 + j_))]) (rest := []) ⟨hx, hb, hml, hown, hts⟩ (c_X7_pass l V G Y hp hk f1 f2 np pd pa kd nu mo (nI (1 + j_)) hJ h.1 h.2.1 h.2.2.1) (cwV 1 hts (zgLV_ wsC_all wsC_in uC_291 (tq_2 _ (List.mem_of_getElem? (i := 159) rfl)) (tq_2 _ (List.mem_of_getElem? (i := 160) rfl)) (tq_2 _ (List.mem_of_getElem? (i := 161) rfl)) (tq_1 _ (List.mem_of_getElem? (i := 1) rfl))) rfl rfl rfl (by decide +kernel) ⟨Nat.le_of_ble_eq_true rfl, Nat.le_of_ble_eq_true rfl⟩) (zPreV (B := fun H => zTP V G Y hp hk f1 f2 np pd pa kd nu mo H) hT hE (zT_rt hE hT)) rfl rfl hl.1 rfl (lv_room (Nat.le_of_ble_eq_true rfl)) dL_law_303 ⟨Nat.le_of_ble_eq_true rfl, Nat.le_of_ble_eq_true rfl⟩) hS hGA hGA (fun r_ H_1 locs hQ_ _ hkp_ hS => ?_)
          obtain ⟨hr_, hT⟩ := hQ_
          subst hr_
          obtain ⟨e1_, q1_, q2_⟩ := lPass hR h.X (by omega) (j := 1 + j_) (by omega) (by omega)
          have h16_ : upd w 6 (w 6 + nI (1 + j_)) 16 = w 16 := pk_un (by decide)
          generalize upd w 6 (w 6 + nI (1 + j_)) = w1 at q1_ q2_ h16_
          have hj1_ : lJ (va_up (va_up Y (hp + 2) (Y 0)) 0 (kStand (Y 0) (nI (1 + j_)))) (if 0 ≤ kStandR (aF (Y 0)) (nI (1 + j_)) then (hp + 1) % 7 else hp) (if 0 ≤ kStandR (aF (Y 0)) (nI (1 + j_)) then min (hk + 1) 6 else hk) w1 n N (t + (1 + j_)) (i + 1) := lJ_up h q1_ q2_ (by omega) (by have h_ := h.2.2.2.2.2.2.1; omega) (by omega) _
          have hsS_ : aS ((va_up (va_up Y (hp + 2) (Y 0)) 0 (kStand (Y 0) (nI (1 + j_)))) 0) = aS (Y 0) := rfl
          generalize va_up (va_up Y (hp + 2) (Y 0)) 0 (kStand (Y 0) (nI (1 + j_))) = Y1 at hT hj1_ hsS_
          generalize (if 0 ≤ kStandR (aF (Y 0)) (nI (1 + j_)) then (hp + 1) % 7 else hp) = hp1 at hT hj1_
          generalize (if 0 ≤ kStandR (aF (Y 0)) (nI (1 + j_)) then min (hk + 1) 6 else hk) = hk1 at hT hj1_
          have hR1 := hj1_.R
          have hk61 := hj1_.2.1
          rw [← h16_, ← hsS_] at hl
          have hc1 := lRep_c hR1
          refine zt_i (y := nI (t + (1 + j_))) (e1_.trans (by rw [hc.2.2.2.2.2.1, nI_add])) ?_
          refine lv_iload hx hb dL_law_306 (lv_at hl 0 rfl) ?_
          refine lv_iconst (v := 1) hx hb dL_law_308 (by decide +kernel) ?_
          refine lv_iadd hx hb dL_law_309 ?_
          refine zt_i (z_add (a := t) (b := 1) (by first | rfl | omega)) ?_
          refine lv_iload hx hb dL_law_310 (lv_at hl 2 rfl) ?_
          refine lv_iconst (v := 4) hx hb dL_law_312 (by decide +kernel) ?_
          refine lv_ishr hx hb dL_law_313 ?_
          refine lv_bipush (v := 60) hx hb dL_law_314 (by decide +kernel) ?_
          refine zc_se (va_runS (As := [.int (v128_ >>> ((4 : Int32) &&& 31)), .int 60]) (rest := [.int (nI (t + 1)), .int (nI (t + (1 + j_)))]) ⟨hx, hb, hml, hown, hts⟩ (c_L_low l V (v128_ >>> ((4 : Int32) &&& 31)) (60) (by omega) (by omega)) (va_cwS 2 hts (zgLS_ wsG_all wsG_in uG_2 (tq_2 _ (List.mem_of_getElem? (i := 191) rfl)) (tq_2 _ (List.mem_of_getElem? (i := 192) rfl)) (tq_1 _ (List.mem_of_getElem? (i := 0) rfl))) rfl rfl rfl (by decide +kernel) ⟨Nat.le_of_ble_eq_true rfl, Nat.le_of_ble_eq_true rfl⟩) (zPreS (B := fun _ => True) trivial hE) rfl rfl hl.1 rfl (lv_room (Nat.le_of_ble_eq_true rfl)) dL_law_316 ⟨Nat.le_of_ble_eq_true rfl, Nat.le_of_ble_eq_true rfl⟩) ?_
          refine zt_i (y := nI j_) ej_ ?_
          refine lv_iadd hx hb dL_law_319 ?_
          refine zt_i (z_add (a := t + 1) (b := j_) (by first | rfl | omega)) ?_
          refine zb_ne (x := t + (1 + j_)) (y := t + 1 + j_) (tgt := 345) hx hb dL_law_320 (by decide) (by omega) (by omega) (fun c_320 => ?_) (fun c_320 => ?_)
          · exact absurd (by omega) c_320
          · refine lv_aload_n hx hb dL_law_323 rfl (lv_at hl 7 rfl) ?_
            refine lv_iconst (v := 0) hx hb dL_law_324 (by decide +kernel) ?_
            refine zc_se (va_runV (As := [.int 0]) (rest := []) ⟨hx, hb, hml, hown, hts⟩ (c_X7_count l V G Y1 hp1 hk1 f1 f2 np pd pa kd nu mo 0 hJ hk61) (cwV 1 hts (zgLV_ wsC_all wsC_in uC_307 (tq_2 _ (List.mem_of_getElem? (i := 168) rfl)) (tq_2 _ (List.mem_of_getElem? (i := 169) rfl)) (tq_2 _ (List.mem_of_getElem? (i := 170) rfl)) (tq_1 _ (List.mem_of_getElem? (i := 1) rfl))) rfl rfl rfl (by decide +kernel) ⟨Nat.le_of_ble_eq_true rfl, Nat.le_of_ble_eq_true rfl⟩) (zPreV (B := fun H => zTP V G Y1 hp1 hk1 f1 f2 np pd pa kd nu mo H) hT hE (zT_rt hE hT)) rfl rfl hl.1 rfl (lv_room (Nat.le_of_ble_eq_true rfl)) dL_law_325 ⟨Nat.le_of_ble_eq_true rfl, Nat.le_of_ble_eq_true rfl⟩) ?_
            refine zt_i (y := nI (t + (1 + j_))) ((lc_0 hR1 np hk1).trans hc1.2.2.2.2.2.1) ?_
            refine lv_iload hx hb dL_law_328 (lv_at hl 0 rfl) ?_
            refine lv_iconst (v := 1) hx hb dL_law_330 (by decide +kernel) ?_
            refine lv_iadd hx hb dL_law_331 ?_
            refine zt_i (z_add (a := t) (b := 1) (by first | rfl | omega)) ?_
            refine lv_iload hx hb dL_law_332 (lv_at hl 2 rfl) ?_
            refine lv_iconst (v := 4) hx hb dL_law_334 (by decide +kernel) ?_
            refine lv_ishr hx hb dL_law_335 ?_
            refine lv_bipush (v := 60) hx hb dL_law_336 (by decide +kernel) ?_
            refine zc_se (va_runS (As := [.int (v128_ >>> ((4 : Int32) &&& 31)), .int 60]) (rest := [.int (nI (t + 1)), .int (nI (t + (1 + j_)))]) ⟨hx, hb, hml, hown, hts⟩ (c_L_low l V (v128_ >>> ((4 : Int32) &&& 31)) (60) (by omega) (by omega)) (va_cwS 2 hts (zgLS_ wsG_all wsG_in uG_2 (tq_2 _ (List.mem_of_getElem? (i := 191) rfl)) (tq_2 _ (List.mem_of_getElem? (i := 192) rfl)) (tq_1 _ (List.mem_of_getElem? (i := 0) rfl))) rfl rfl rfl (by decide +kernel) ⟨Nat.le_of_ble_eq_true rfl, Nat.le_of_ble_eq_true rfl⟩) (zPreS (B := fun _ => True) trivial hE) rfl rfl hl.1 rfl (lv_room (Nat.le_of_ble_eq_true rfl)) dL_law_338 ⟨Nat.le_of_ble_eq_true rfl, Nat.le_of_ble_eq_true rfl⟩) ?_
            refine zt_i (y := nI j_) ej_ ?_
            refine lv_iadd hx hb dL_law_341 ?_
            refine zt_i (z_add (a := t + 1) (b := j_) (by first | rfl | omega)) ?_
            refine zb_eq (x := t + (1 + j_)) (y := t + 1 + j_) (tgt := 347) hx hb dL_law_342 (by decide) (by omega) (by omega) (fun c_342 => ?_) (fun c_342 => ?_)
            · exact K Y1 hp1 hk1 w1 (n) N (t + (1 + j_)) H_1 locs ls hj1_ hT hS (lv_sub hl [3, 4, 5, 6, 7] rfl)
            · exact absurd (by omega) c_342
        · refine lv_aload_n hx hb dL_law_272 rfl (lv_at hl 6 rfl) ?_
          refine lv_iload_n hx hb dL_law_273 rfl (lv_at hl 3 rfl) ?_
          refine zc_i (va_runS (As := [.ref (gM G 0), .int (w 16)]) (rest := []) ⟨hx, hb, hml, hown, hts⟩ (c_L_served l V G Y hp hk f1 f2 np pd pa kd nu mo w n N t i hJ h c_120) (va_cwS 2 hts (zgLS_ wsG_all wsG_in uG_26 (tq_2 _ (List.mem_of_getElem? (i := 218) rfl)) (tq_2 _ (List.mem_of_getElem? (i := 219) rfl)) (tq_1 _ (List.mem_of_getElem? (i := 0) rfl))) rfl rfl rfl (by decide +kernel) ⟨Nat.le_of_ble_eq_true rfl, Nat.le_of_ble_eq_true rfl⟩) (zPreS (B := fun H => zTP V G Y hp hk f1 f2 np pd pa kd nu mo H) hT hE) rfl rfl hl.1 rfl (lv_room (Nat.le_of_ble_eq_true rfl)) dL_law_274 ⟨Nat.le_of_ble_eq_true rfl, Nat.le_of_ble_eq_true rfl⟩) hS hGA hGA (fun r_ H_1 locs hQ_ _ hkp_ hS => ?_)
          obtain ⟨Y1, hp1, hk1, w1, n1, N1, t1, hr_, hT, hj_, hsS_⟩ := hQ_
          subst hr_
          have hR1 := hj_.R
          rw [← hsS_] at hl
          refine lv_istore_n (lv' := [(3, .int (w1 16)), (7, .int (nI q_)), (6, .int v128_), (5, .int (nI i)), (4, .int (nI (aS (Y1 0) + n1))), (0, .ref b), (1, .ref (gM G 0))]) hx hb dL_law_277 rfl hl (by decide) rfl (fun ls hl => ?_)
          refine lv_iload_n hx hb dL_law_278 rfl (lv_at hl 0 rfl) ?_
          refine lv_if_ge (tgt := 347) hx hb dL_law_279 (by decide) (fun c_279 => ?_) (fun c_279 => ?_)
          · exact K Y1 hp1 hk1 w1 (n1) N1 t1 H_1 locs ls hj_ hT hS (lv_sub hl [3, 0, 4, 5, 6] rfl)
          · exact absurd (lSo0 hR1) c_279
      · refine lv_aload_n hx hb dL_law_148 rfl (lv_at hl 6 rfl) ?_
        refine lv_iconst (v := 1) hx hb dL_law_149 (by decide +kernel) ?_
        refine zc_se (va_runV (As := [.int 1]) (rest := []) ⟨hx, hb, hml, hown, hts⟩ (c_X7_count l V G Y hp hk f1 f2 np pd pa kd nu mo 1 hJ hk6) (cwV 1 hts (zgLV_ wsC_all wsC_in uC_307 (tq_2 _ (List.mem_of_getElem? (i := 168) rfl)) (tq_2 _ (List.mem_of_getElem? (i := 169) rfl)) (tq_2 _ (List.mem_of_getElem? (i := 170) rfl)) (tq_1 _ (List.mem_of_getElem? (i := 1) rfl))) rfl rfl rfl (by decide +kernel) ⟨Nat.le_of_ble_eq_true rfl, Nat.le_of_ble_eq_true rfl⟩) (zPreV (B := fun H => zTP V G Y hp hk f1 f2 np pd pa kd nu mo H) hT hE (zT_rt hE hT)) rfl rfl hl.1 rfl (lv_room (Nat.le_of_ble_eq_true rfl)) dL_law_150 ⟨Nat.le_of_ble_eq_true rfl, Nat.le_of_ble_eq_true rfl⟩) ?_
        refine zt_i (y := nI (mMany w n 0)) (lc_1 hR np hk) ?_
        refine lv_aload_n hx hb dL_law_153 rfl (lv_at hl 6 rfl) ?_
        refine lv_iconst (v := 2) hx hb dL_law_154 (by decide +kernel) ?_
        refine zc_se (va_runV (As := [.int 2]) (rest := [.int (nI (mMany w n 0))]) ⟨hx, hb, hml, hown, hts⟩ (c_X7_count l V G Y hp hk f1 f2 np pd pa kd nu mo 2 hJ hk6) (cwV 1 hts (zgLV_ wsC_all wsC_in uC_307 (tq_2 _ (List.mem_of_getElem? (i := 168) rfl)) (tq_2 _ (List.mem_of_getElem? (i := 169) rfl)) (tq_2 _ (List.mem_of_getElem? (i := 170) rfl)) (tq_1 _ (List.mem_of_getElem? (i := 1) rfl))) rfl rfl rfl (by decide +kernel) ⟨Nat.le_of_ble_eq_true rfl, Nat.le_of_ble_eq_true rfl⟩) (zPreV (B := fun H => zTP V G Y hp hk f1 f2 np pd pa kd nu mo H) hT hE (zT_rt hE hT)) rfl rfl hl.1 rfl (lv_room (Nat.le_of_ble_eq_true rfl)) dL_law_155 ⟨Nat.le_of_ble_eq_true rfl, Nat.le_of_ble_eq_true rfl⟩) ?_
        refine zt_i (y := nI (mMany w n 1)) (lc_2 hR np hk) ?_
        refine lv_iadd hx hb dL_law_158 ?_
        refine zt_i (z_add (a := mMany w n 0) (b := mMany w n 1) (by first | rfl | omega)) ?_
        refine zt_i (y := nI (n)) (by rw [hsum]) ?_
        refine lv_istore (lv' := [(8, .int (nI n)), (7, .int (nI q_)), (6, .int v128_), (5, .int (nI i)), (3, .int (w 16)), (4, .int (nI (aS (Y 0) + n))), (0, .ref b), (1, .ref (gM G 0))]) hx hb dL_law_159 hl (by decide) rfl (fun ls hl => ?_)
        refine lv_aload_n hx hb dL_law_161 rfl (lv_at hl 7 rfl) ?_
        refine lv_iload hx hb dL_law_162 (lv_at hl 2 rfl) ?_
        refine lv_iconst (v := 3) hx hb dL_law_164 (by decide +kernel) ?_
        refine lv_ishr hx hb dL_law_165 ?_
        refine lv_iconst (v := 5) hx hb dL_law_166 (by decide +kernel) ?_
        refine zc_se (va_runS (As := [.int (v128_ >>> ((3 : Int32) &&& 31)), .int 5]) (rest := [.ref (gM G 0)]) ⟨hx, hb, hml, hown, hts⟩ (c_L_low l V (v128_ >>> ((3 : Int32) &&& 31)) (5) (by omega) (by omega)) (va_cwS 2 hts (zgLS_ wsG_all wsG_in uG_2 (tq_2 _ (List.mem_of_getElem? (i := 191) rfl)) (tq_2 _ (List.mem_of_getElem? (i := 192) rfl)) (tq_1 _ (List.mem_of_getElem? (i := 0) rfl))) rfl rfl rfl (by decide +kernel) ⟨Nat.le_of_ble_eq_true rfl, Nat.le_of_ble_eq_true rfl⟩) (zPreS (B := fun _ => True) trivial hE) rfl rfl hl.1 rfl (lv_room (Nat.le_of_ble_eq_true rfl)) dL_law_167 ⟨Nat.le_of_ble_eq_true rfl, Nat.le_of_ble_eq_true rfl⟩) ?_
        obtain ⟨q2_, hq2_, eq2_⟩ := lMod_lt (v128_ >>> ((3 : Int32) &&& 31)) (m := 5) (by omega) (by omega)
        refine zt_i (y := nI q2_) eq2_ ?_
        have J_179 : ∀ (wr_ : Int32) (ls : Array Slot), True → (wr_ = 0 ∨ wr_ = 1) → lv_has ls 9 [(8, .int (nI n)), (7, .int (nI q_)), (6, .int v128_), (5, .int (nI i)), (3, .int (w 16)), (4, .int (nI (aS (Y 0) + n))), (0, .ref b), (1, .ref (gM G 0))] → W p l e room_1 s m #[Value.ref b] below meth c H locs 404 3700 (lw_Z below #[Value.ref b] s) (F0 m 179 ls [.int wr_, .ref (gM G 0)]) := by
          intro wr_  ls _ hwr_  hl
          refine lv_iload hx hb dL_law_179 (lv_at hl 2 rfl) ?_
          refine lv_bipush (v := 6) hx hb dL_law_181 (by decide +kernel) ?_
          refine lv_ishr hx hb dL_law_183 ?_
          have J_203 : ∀ (mq_ : Nat) (ls : Array Slot), True → (1 ≤ mq_ ∧ mq_ ≤ 100) → lv_has ls 9 [(8, .int (nI n)), (7, .int (nI q_)), (6, .int v128_), (5, .int (nI i)), (3, .int (w 16)), (4, .int (nI (aS (Y 0) + n))), (0, .ref b), (1, .ref (gM G 0))] → W p l e room_1 s m #[Value.ref b] below meth c H locs 404 3700 (lw_Z below #[Value.ref b] s) (F0 m 203 ls [.int (nI mq_), .int (v128_ >>> ((6 : Int32) &&& 31)), .int wr_, .ref (gM G 0)]) := by
            intro mq_  ls _ hmq_  hl
            refine zc_se (va_runS (As := [.int (v128_ >>> ((6 : Int32) &&& 31)), .int (nI mq_)]) (rest := [.int wr_, .ref (gM G 0)]) ⟨hx, hb, hml, hown, hts⟩ (c_L_low l V (v128_ >>> ((6 : Int32) &&& 31)) (mq_) (by omega) (by omega)) (va_cwS 2 hts (zgLS_ wsG_all wsG_in uG_2 (tq_2 _ (List.mem_of_getElem? (i := 191) rfl)) (tq_2 _ (List.mem_of_getElem? (i := 192) rfl)) (tq_1 _ (List.mem_of_getElem? (i := 0) rfl))) rfl rfl rfl (by decide +kernel) ⟨Nat.le_of_ble_eq_true rfl, Nat.le_of_ble_eq_true rfl⟩) (zPreS (B := fun _ => True) trivial hE) rfl rfl hl.1 rfl (lv_room (Nat.le_of_ble_eq_true rfl)) dL_law_203 ⟨Nat.le_of_ble_eq_true rfl, Nat.le_of_ble_eq_true rfl⟩) ?_
            obtain ⟨dd_, hdd_, edd_⟩ := lMod_lt (v128_ >>> ((6 : Int32) &&& 31)) (m := mq_) (by omega) (by omega)
            refine zt_i (y := nI dd_) edd_ ?_
            refine lv_iconst (v := 1) hx hb dL_law_206 (by decide +kernel) ?_
            refine lv_iload hx hb dL_law_207 (lv_at hl 2 rfl) ?_
            refine lv_bipush (v := 13) hx hb dL_law_209 (by decide +kernel) ?_
            refine lv_ishr hx hb dL_law_211 ?_
            have J_231 : ∀ (mr_ : Nat) (ls : Array Slot), True → (1 ≤ mr_ ∧ mr_ ≤ 9) → lv_has ls 9 [(8, .int (nI n)), (7, .int (nI q_)), (6, .int v128_), (5, .int (nI i)), (3, .int (w 16)), (4, .int (nI (aS (Y 0) + n))), (0, .ref b), (1, .ref (gM G 0))] → W p l e room_1 s m #[Value.ref b] below meth c H locs 404 3700 (lw_Z below #[Value.ref b] s) (F0 m 231 ls [.int (nI mr_), .int (v128_ >>> ((13 : Int32) &&& 31)), .int 1, .int (nI dd_), .int wr_, .ref (gM G 0)]) := by
              intro mr_  ls _ hmr_  hl
              refine zc_se (va_runS (As := [.int (v128_ >>> ((13 : Int32) &&& 31)), .int (nI mr_)]) (rest := [.int 1, .int (nI dd_), .int wr_, .ref (gM G 0)]) ⟨hx, hb, hml, hown, hts⟩ (c_L_low l V (v128_ >>> ((13 : Int32) &&& 31)) (mr_) (by omega) (by omega)) (va_cwS 2 hts (zgLS_ wsG_all wsG_in uG_2 (tq_2 _ (List.mem_of_getElem? (i := 191) rfl)) (tq_2 _ (List.mem_of_getElem? (i := 192) rfl)) (tq_1 _ (List.mem_of_getElem? (i := 0) rfl))) rfl rfl rfl (by decide +kernel) ⟨Nat.le_of_ble_eq_true rfl, Nat.le_of_ble_eq_true rfl⟩) (zPreS (B := fun _ => True) trivial hE) rfl rfl hl.1 rfl (lv_room (Nat.le_of_ble_eq_true rfl)) dL_law_231 ⟨Nat.le_of_ble_eq_true rfl, Nat.le_of_ble_eq_true rfl⟩) ?_
              obtain ⟨mm_, hmm_, emm_⟩ := lMod_lt (v128_ >>> ((13 : Int32) &&& 31)) (m := mr_) (by omega) (by omega)
              refine zt_i (y := nI mm_) emm_ ?_
              refine lv_iadd hx hb dL_law_234 ?_
              refine zt_i (z_add (a := 1) (b := mm_) (by first | rfl | omega)) ?_
              have hdd_ : dd_ ≤ 99 := by omega
              have hmm_ : mm_ < 9 := by omega
              refine zc_i (va_runS (As := [.ref (gM G 0), .int wr_, .int (nI dd_), .int (nI (1 + mm_))]) (rest := []) ⟨hx, hb, hml, hown, hts⟩ (c_L_comes l V G Y hp hk f1 f2 np pd pa kd nu mo w n N t i wr_ dd_ (1 + mm_) hJ h hwr_ hdd_ (by omega) (by omega) c_120) (va_cwS 4 hts (zgLS_ wsG_all wsG_in uG_40 (tq_3 _ (List.mem_of_getElem? (i := 22) rfl)) (tq_3 _ (List.mem_of_getElem? (i := 23) rfl)) (tq_1 _ (List.mem_of_getElem? (i := 0) rfl))) rfl rfl rfl (by decide +kernel) ⟨Nat.le_of_ble_eq_true rfl, Nat.le_of_ble_eq_true rfl⟩) (zPreS (B := fun H => zTP V G Y hp hk f1 f2 np pd pa kd nu mo H) hT hE) rfl rfl hl.1 rfl (lv_room (Nat.le_of_ble_eq_true rfl)) dL_law_235 ⟨Nat.le_of_ble_eq_true rfl, Nat.le_of_ble_eq_true rfl⟩) hS hGA hGA (fun r_ H_1 locs hQ_ _ hkp_ hS => ?_)
              obtain ⟨hr_, Y1, hp1, hk1, w1, n1, N1, hT, hj_, hsS_, h16_⟩ := hQ_
              subst hr_
              have hR1 := hj_.R
              have hk61 := hj_.2.1
              have hsum1 := rMany (lRep_I hR1)
              rw [← h16_] at hl
              refine lv_if_ne (tgt := 243) hx hb dL_law_238 (by decide) (fun c_238 => ?_) (fun c_238 => ?_)
              rotate_left
              · exact absurd c_238 (by decide +kernel)
              refine lv_iload hx hb dL_law_243 (lv_at hl 5 rfl) ?_
              refine lv_aload_n hx hb dL_law_245 rfl (lv_at hl 7 rfl) ?_
              refine lv_iconst (v := 1) hx hb dL_law_246 (by decide +kernel) ?_
              refine zc_se (va_runV (As := [.int 1]) (rest := [.int (nI (aS (Y 0) + n))]) ⟨hx, hb, hml, hown, hts⟩ (c_X7_count l V G Y1 hp1 hk1 f1 f2 np pd pa kd nu mo 1 hJ hk61) (cwV 1 hts (zgLV_ wsC_all wsC_in uC_307 (tq_2 _ (List.mem_of_getElem? (i := 168) rfl)) (tq_2 _ (List.mem_of_getElem? (i := 169) rfl)) (tq_2 _ (List.mem_of_getElem? (i := 170) rfl)) (tq_1 _ (List.mem_of_getElem? (i := 1) rfl))) rfl rfl rfl (by decide +kernel) ⟨Nat.le_of_ble_eq_true rfl, Nat.le_of_ble_eq_true rfl⟩) (zPreV (B := fun H => zTP V G Y1 hp1 hk1 f1 f2 np pd pa kd nu mo H) hT hE (zT_rt hE hT)) rfl rfl hl.1 rfl (lv_room (Nat.le_of_ble_eq_true rfl)) dL_law_247 ⟨Nat.le_of_ble_eq_true rfl, Nat.le_of_ble_eq_true rfl⟩) ?_
              refine zt_i (y := nI (mMany w1 n1 0)) (lc_1 hR1 np hk1) ?_
              refine lv_aload_n hx hb dL_law_250 rfl (lv_at hl 7 rfl) ?_
              refine lv_iconst (v := 2) hx hb dL_law_251 (by decide +kernel) ?_
              refine zc_se (va_runV (As := [.int 2]) (rest := [.int (nI (mMany w1 n1 0)), .int (nI (aS (Y 0) + n))]) ⟨hx, hb, hml, hown, hts⟩ (c_X7_count l V G Y1 hp1 hk1 f1 f2 np pd pa kd nu mo 2 hJ hk61) (cwV 1 hts (zgLV_ wsC_all wsC_in uC_307 (tq_2 _ (List.mem_of_getElem? (i := 168) rfl)) (tq_2 _ (List.mem_of_getElem? (i := 169) rfl)) (tq_2 _ (List.mem_of_getElem? (i := 170) rfl)) (tq_1 _ (List.mem_of_getElem? (i := 1) rfl))) rfl rfl rfl (by decide +kernel) ⟨Nat.le_of_ble_eq_true rfl, Nat.le_of_ble_eq_true rfl⟩) (zPreV (B := fun H => zTP V G Y1 hp1 hk1 f1 f2 np pd pa kd nu mo H) hT hE (zT_rt hE hT)) rfl rfl hl.1 rfl (lv_room (Nat.le_of_ble_eq_true rfl)) dL_law_252 ⟨Nat.le_of_ble_eq_true rfl, Nat.le_of_ble_eq_true rfl⟩) ?_
              refine zt_i (y := nI (mMany w1 n1 1)) (lc_2 hR1 np hk1) ?_
              refine lv_iadd hx hb dL_law_255 ?_
              refine zt_i (z_add (a := mMany w1 n1 0) (b := mMany w1 n1 1) (by first | rfl | omega)) ?_
              refine zt_i (y := nI n1) (by rw [hsum1]) ?_
              refine lv_iload hx hb dL_law_256 (lv_at hl 0 rfl) ?_
              refine lv_isub hx hb dL_law_258 ?_
              refine lv_iadd hx hb dL_law_259 ?_
              refine zt_i (y := nI (aS (Y1 0) + n1)) (by rw [hsS_]; exact lEver _ _ _) ?_
              refine lv_istore (lv' := [(4, .int (nI (aS (Y1 0) + n1))), (8, .int (nI n)), (7, .int (nI q_)), (6, .int v128_), (5, .int (nI i)), (3, .int (w1 16)), (0, .ref b), (1, .ref (gM G 0))]) hx hb dL_law_260 hl (by decide) rfl (fun ls hl => ?_)
              refine lv_goto (tgt := 347) hx hb dL_law_262 (by decide) ?_
              exact K Y1 hp1 hk1 w1 (n1) N1 t H_1 locs ls hj_ hT hS (lv_sub hl [4, 5, 0, 6, 7] rfl)
            refine lv_iload hx hb dL_law_212 (lv_at hl 2 rfl) ?_
            refine lv_bipush (v := 17) hx hb dL_law_214 (by decide +kernel) ?_
            refine lv_ishr hx hb dL_law_216 ?_
            refine lv_bipush (v := 6) hx hb dL_law_217 (by decide +kernel) ?_
            refine zc_se (va_runS (As := [.int (v128_ >>> ((17 : Int32) &&& 31)), .int 6]) (rest := [.int (v128_ >>> ((13 : Int32) &&& 31)), .int 1, .int (nI dd_), .int wr_, .ref (gM G 0)]) ⟨hx, hb, hml, hown, hts⟩ (c_L_low l V (v128_ >>> ((17 : Int32) &&& 31)) (6) (by omega) (by omega)) (va_cwS 2 hts (zgLS_ wsG_all wsG_in uG_2 (tq_2 _ (List.mem_of_getElem? (i := 191) rfl)) (tq_2 _ (List.mem_of_getElem? (i := 192) rfl)) (tq_1 _ (List.mem_of_getElem? (i := 0) rfl))) rfl rfl rfl (by decide +kernel) ⟨Nat.le_of_ble_eq_true rfl, Nat.le_of_ble_eq_true rfl⟩) (zPreS (B := fun _ => True) trivial hE) rfl rfl hl.1 rfl (lv_room (Nat.le_of_ble_eq_true rfl)) dL_law_219 ⟨Nat.le_of_ble_eq_true rfl, Nat.le_of_ble_eq_true rfl⟩) ?_
            obtain ⟨q4_, hq4_, eq4_⟩ := lMod_lt (v128_ >>> ((17 : Int32) &&& 31)) (m := 6) (by omega) (by omega)
            refine zt_i (y := nI q4_) eq4_ ?_
            refine zb0_ne (x := q4_) (tgt := 230) hx hb dL_law_222 (by decide) (by omega) (fun c_222 => ?_) (fun c_222 => ?_)
            · refine lv_iconst (v := 3) hx hb dL_law_230 (by decide +kernel) ?_
              refine zt_i (y := nI 3) rfl ?_
              exact J_231 3 ls trivial (⟨by decide, by decide⟩) (lv_sub hl [0, 1, 2, 3, 4, 5, 6, 7] rfl)
            · refine lv_bipush (v := 9) hx hb dL_law_225 (by decide +kernel) ?_
              refine lv_goto (tgt := 231) hx hb dL_law_227 (by decide) ?_
              refine zt_i (y := nI 9) rfl ?_
              exact J_231 9 ls trivial (⟨by decide, by decide⟩) (lv_sub hl [0, 1, 2, 3, 4, 5, 6, 7] rfl)
          refine lv_iload hx hb dL_law_184 (lv_at hl 2 rfl) ?_
          refine lv_bipush (v := 20) hx hb dL_law_186 (by decide +kernel) ?_
          refine lv_ishr hx hb dL_law_188 ?_
          refine lv_iconst (v := 3) hx hb dL_law_189 (by decide +kernel) ?_
          refine zc_se (va_runS (As := [.int (v128_ >>> ((20 : Int32) &&& 31)), .int 3]) (rest := [.int (v128_ >>> ((6 : Int32) &&& 31)), .int wr_, .ref (gM G 0)]) ⟨hx, hb, hml, hown, hts⟩ (c_L_low l V (v128_ >>> ((20 : Int32) &&& 31)) (3) (by omega) (by omega)) (va_cwS 2 hts (zgLS_ wsG_all wsG_in uG_2 (tq_2 _ (List.mem_of_getElem? (i := 191) rfl)) (tq_2 _ (List.mem_of_getElem? (i := 192) rfl)) (tq_1 _ (List.mem_of_getElem? (i := 0) rfl))) rfl rfl rfl (by decide +kernel) ⟨Nat.le_of_ble_eq_true rfl, Nat.le_of_ble_eq_true rfl⟩) (zPreS (B := fun _ => True) trivial hE) rfl rfl hl.1 rfl (lv_room (Nat.le_of_ble_eq_true rfl)) dL_law_190 ⟨Nat.le_of_ble_eq_true rfl, Nat.le_of_ble_eq_true rfl⟩) ?_
          obtain ⟨q3_, hq3_, eq3_⟩ := lMod_lt (v128_ >>> ((20 : Int32) &&& 31)) (m := 3) (by omega) (by omega)
          refine zt_i (y := nI q3_) eq3_ ?_
          refine zb0_ne (x := q3_) (tgt := 201) hx hb dL_law_193 (by decide) (by omega) (fun c_193 => ?_) (fun c_193 => ?_)
          · refine lv_bipush (v := 24) hx hb dL_law_201 (by decide +kernel) ?_
            refine zt_i (y := nI 24) rfl ?_
            exact J_203 24 ls trivial (⟨by decide, by decide⟩) (lv_sub hl [0, 1, 2, 3, 4, 5, 6, 7] rfl)
          · refine lv_bipush (v := 100) hx hb dL_law_196 (by decide +kernel) ?_
            refine lv_goto (tgt := 203) hx hb dL_law_198 (by decide) ?_
            refine zt_i (y := nI 100) rfl ?_
            exact J_203 100 ls trivial (⟨by decide, by decide⟩) (lv_sub hl [0, 1, 2, 3, 4, 5, 6, 7] rfl)
        refine lv_iconst (v := 3) hx hb dL_law_170 (by decide +kernel) ?_
        refine zb_ge (x := q2_) (y := 3) (tgt := 178) hx hb dL_law_171 (by decide) (by omega) (by omega) (fun c_171 => ?_) (fun c_171 => ?_)
        · refine lv_iconst (v := 1) hx hb dL_law_178 (by decide +kernel) ?_
          exact J_179 1 ls trivial (Or.inr rfl) (lv_sub hl [0, 1, 2, 3, 4, 5, 6, 7] rfl)
        · refine lv_iconst (v := 0) hx hb dL_law_174 (by decide +kernel) ?_
          refine lv_goto (tgt := 179) hx hb dL_law_175 (by decide) ?_
          exact J_179 0 ls trivial (Or.inl rfl) (lv_sub hl [0, 1, 2, 3, 4, 5, 6, 7] rfl)
