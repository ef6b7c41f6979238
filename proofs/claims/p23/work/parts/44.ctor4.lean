set_option maxHeartbeats 4000000 in
set_option maxRecDepth 100000 in
theorem c_X7_init (l : Launch) (V : zV) (b : Nat) : Met l yX7_init wsX7_init (zR 4 403 3665) (zPs V [.ref b] (fun U => (U.heap.size = b + 1 ∧ va_at V.1 vwCl (b, .inr (7, [.null, .null, .null, .null, .null, .null, .null])) U.heap) ∧ (zST (fun q => b ≤ q) U U.heap ∧ va_AO RX0 U))) (zQv (fun H => H.size = b + 404 ∧ zTP V (hG_ b) (fun _ => zA0) 0 0 0 0 0 (fun _ => 0) 0 0 0 0 H) (fun q => b ≤ q)) 403 3665 (fun q => b ≤ q) := by
  refine Met.ofW (cc := cX7_init) (maxL := 1) (ret := none) (by decide) rfl ?_
  intro p e s m args below meth c s₁ B hml hv
  obtain ⟨rfl, hP, hE⟩ := hv
  have hx := B.exec
  have hb := B.bytes
  have hr := B.returns
  have hts := atoms_spec (ws := wsX7_init) B.pre
  have hown : s.vm.findClass RX7 = some m.cls := findClass_of_methodNamed B.named
  have hlocks := B.notSynchronized
  have hl := lv_entry ([.ref b]) (n := 1) (Nat.le_of_ble_eq_true rfl)
  rw [lg_entry_eq]
  generalize (lg_sl ([.ref b]) ++ List.replicate (1 - (lg_sl ([.ref b])).length) Slot.unset).toArray = ls at hl ⊢
  have hl : lv_has ls 1 [(0, .ref b)] := hl
  have hin : meth.name = "<init>" := (name_of_methodNamed B.named B.method).1
  obtain ⟨⟨hz, hthis⟩, hX⟩ := hP
  have hS : va_S (fun q => b ≤ q) s.heap s.heap [] := va_S.rf
  obtain ⟨hX0_, hao⟩ := hX
  refine lv_aload_n hx hb dX7_init_0 rfl (lv_at hl 0 rfl) ?_
  refine W.objInit hx hb hown (hts _ (List.mem_cons_of_mem _ uC_241)) (hts _ (List.mem_cons_of_mem _ uC_2)) (hts _ (List.mem_cons_of_mem _ uC_3)) rfl (by rw [hml]; exact hl.1) rfl dX7_init_1 (Nat.le_of_ble_eq_true rfl) (Nat.le_of_ble_eq_true rfl) ?_
  refine W.eq (g2 := F0 m 4 ls []) rfl ?_
  refine lv_aload_n hx hb dX7_init_4 rfl (lv_at hl 0 rfl) ?_
  refine zn_new (ci := 0) (fs := [.null, .null, .null, .int 0, .int 0, .int 0, .int 0, .int 0, .int 0, .int 0, .int 0, .int 0, .int 0, .int 0]) (C := RX0) (T := TX0) (N := 14) hx hb hts (fun x h => List.mem_cons_of_mem _ (hU_X0 x h)) tyX0 tyX0_ok hown (hts _ (List.mem_cons_of_mem _ uC_242)) (hts _ (List.mem_cons_of_mem _ uC_159)) (hts _ (List.mem_cons_of_mem _ uC_73)) hE hS (show vwCl[0]? = some (RX0, TX0, 14) from rfl) (fun j hj => by rcases (show j = 0 ∨ j = 1 ∨ j = 2 ∨ j = 3 ∨ j = 4 ∨ j = 5 ∨ j = 6 ∨ j = 7 ∨ j = 8 ∨ j = 9 ∨ j = 10 ∨ j = 11 ∨ j = 12 ∨ j = 13 by omega) with rfl | rfl | rfl | rfl | rfl | rfl | rfl | rfl | rfl | rfl | rfl | rfl | rfl | rfl <;> rfl) (by show _ + 1 ≤ 403; omega) (by show _ + 14 ≤ 3665; omega) dX7_init_5 (fun H_1 h_2 z1_ o1_ hS => ?_)
  rw [hz] at h_2 z1_ ⊢
  have kp_ : ∀ q, q < s.heap.size → q ≠ b + 1 → H_1[q]? = s.heap[q]? := fun q h _ => o1_ q h
  replace hthis := zn_A (b + 1) hthis kp_ (show b ≠ b + 1 by omega)
  replace hz : H_1.size = b + 2 := z1_
  clear kp_ z1_ o1_
  refine lv_dup hx hb dX7_init_8 rfl ?_
  have hXc : zST (fun q => b + 1 ≤ q) s H_1 := (hX0_.kept (fun a h1 h2 => hS.2.1 a h1 h2)).narrow (fun q h => Nat.le_trans (show b ≤ b + 1 by omega) h)
  refine zc_v (va_runIN (As := []) (rest := [.ref (b + 1), .ref b]) ⟨hx, hb, hml, hown, hts⟩ (c_X0_init l V (b + 1)) ⟨va_cnB 0 hts (zgB_ wsC_all uC_12) rfl rfl rfl (hE.2 (.methodLinkNest RX7 9 yX0_init "DrawerSlips") (List.mem_of_getElem? (i := 28) rfl)) (hts _ (List.mem_cons_of_mem _ uC_73)) (by decide +kernel) ⟨Nat.le_of_ble_eq_true rfl, Nat.le_of_ble_eq_true rfl⟩, rfl, (hts _ (List.mem_cons_of_mem _ uC_160))⟩ (zPsS (B := fun U => (U.heap.size = b + 1 + 1 ∧ va_at V.1 vwCl (b + 1, .inr (0, [.null, .null, .null, .int 0, .int 0, .int 0, .int 0, .int 0, .int 0, .int 0, .int 0, .int 0, .int 0, .int 0])) U.heap) ∧ zST (fun q => b + 1 ≤ q) U U.heap) (fun _ _ _ _ h => ⟨h.1, zST.calling h.2⟩) (fun U hU hvm => by rw [hU]; exact ⟨⟨hz, h_2⟩, hXc.moved hvm⟩) hE) rfl rfl hl.1 rfl (lv_room (Nat.le_of_ble_eq_true rfl)) dX7_init_9 ⟨(by show _ + 35 ≤ 403; omega), (by show _ + 310 ≤ 3665; omega)⟩) hS (fun q h => Nat.le_trans (show b ≤ b + 1 by omega) h) (fun q h => Nat.le_trans (show b ≤ b + 1 by omega) h) (fun H_4 locs hQ_ hge_ hk_ hS => ?_)
  have kp_ : ∀ q, q < H_1.size → q ≠ b + 1 → H_4[q]? = H_1[q]? := fun q h h2 => hk_ q h (fun h3 => by have h3 : b + 1 ≤ q := h3; omega)
  replace hthis := zn_A (b + 1) hthis kp_ (show b ≠ b + 1 by omega)
  clear h_2 hz kp_ hge_ hk_
  obtain ⟨hz, harch_3⟩ := hQ_
  replace hz : H_4.size = b + 37 := hz
  refine zn_putF 0 (.ref (b + 1)) (.object "DrawerSlips$Archive") hx hb hts (fun x h => List.mem_cons_of_mem _ (hU_X7 x h)) tyX7 tyX7_ok nmX7 hown hE hthis (show b ≤ b by omega) hS (show vwCl[7]? = some (RX7, TX7, 7) from rfl) (by decide) (Nat.le_of_ble_eq_true rfl) rfl hin rfl (by decide +kernel) rfl rfl (hts _ (List.mem_cons_of_mem _ uC_243)) (fun _ h9 => h9) dX7_init_12 (fun H_5 locs hthis z1_ o1_ hS => ?_)
  have kp_ : ∀ q, q < H_4.size → q ≠ b → H_5[q]? = H_4[q]? := fun q _ h => o1_ q h
  replace harch_3 := zn_P (b) harch_3 kp_ (fun p hp => by have h_ := hA_rng (q := b + 1) hp; show hA_ (b + 1) p ≠ b; omega)
  replace hz : H_5.size = b + 37 := z1_.trans hz
  clear kp_ z1_ o1_
  replace hthis : va_at V.1 vwCl (b, .inr (7, [.ref (b + 1), .null, .null, .null, .null, .null, .null])) H_5 := hthis
  refine lv_aload_n hx hb dX7_init_15 rfl (lv_at hl 0 rfl) ?_
  refine zn_new (ci := 0) (fs := [.null, .null, .null, .int 0, .int 0, .int 0, .int 0, .int 0, .int 0, .int 0, .int 0, .int 0, .int 0, .int 0]) (C := RX0) (T := TX0) (N := 14) hx hb hts (fun x h => List.mem_cons_of_mem _ (hU_X0 x h)) tyX0 tyX0_ok hown (hts _ (List.mem_cons_of_mem _ uC_242)) (hts _ (List.mem_cons_of_mem _ uC_159)) (hts _ (List.mem_cons_of_mem _ uC_73)) hE hS (show vwCl[0]? = some (RX0, TX0, 14) from rfl) (fun j hj => by rcases (show j = 0 ∨ j = 1 ∨ j = 2 ∨ j = 3 ∨ j = 4 ∨ j = 5 ∨ j = 6 ∨ j = 7 ∨ j = 8 ∨ j = 9 ∨ j = 10 ∨ j = 11 ∨ j = 12 ∨ j = 13 by omega) with rfl | rfl | rfl | rfl | rfl | rfl | rfl | rfl | rfl | rfl | rfl | rfl | rfl | rfl <;> rfl) (by show _ + 1 ≤ 403; omega) (by show _ + 14 ≤ 3665; omega) dX7_init_16 (fun H_6 h_7 z1_ o1_ hS => ?_)
  rw [hz] at h_7 z1_ ⊢
  have kp_ : ∀ q, q < H_5.size → q ≠ b + 37 → H_6[q]? = H_5[q]? := fun q h _ => o1_ q h
  replace hthis := zn_A (b + 37) hthis kp_ (show b ≠ b + 37 by omega)
  replace harch_3 := zn_P (b + 37) harch_3 kp_ (fun p hp => by have h_ := hA_rng (q := b + 1) hp; show hA_ (b + 1) p ≠ b + 37; omega)
  replace hz : H_6.size = b + 38 := z1_
  clear kp_ z1_ o1_
  refine lv_dup hx hb dX7_init_19 rfl ?_
  have hXc : zST (fun q => b + 37 ≤ q) s H_6 := (hX0_.kept (fun a h1 h2 => hS.2.1 a h1 h2)).narrow (fun q h => Nat.le_trans (show b ≤ b + 37 by omega) h)
  refine zc_v (va_runIN (As := []) (rest := [.ref (b + 37), .ref b]) ⟨hx, hb, hml, hown, hts⟩ (c_X0_init l V (b + 37)) ⟨va_cnB 0 hts (zgB_ wsC_all uC_12) rfl rfl rfl (hE.2 (.methodLinkNest RX7 9 yX0_init "DrawerSlips") (List.mem_of_getElem? (i := 28) rfl)) (hts _ (List.mem_cons_of_mem _ uC_73)) (by decide +kernel) ⟨Nat.le_of_ble_eq_true rfl, Nat.le_of_ble_eq_true rfl⟩, rfl, (hts _ (List.mem_cons_of_mem _ uC_160))⟩ (zPsS (B := fun U => (U.heap.size = b + 37 + 1 ∧ va_at V.1 vwCl (b + 37, .inr (0, [.null, .null, .null, .int 0, .int 0, .int 0, .int 0, .int 0, .int 0, .int 0, .int 0, .int 0, .int 0, .int 0])) U.heap) ∧ zST (fun q => b + 37 ≤ q) U U.heap) (fun _ _ _ _ h => ⟨h.1, zST.calling h.2⟩) (fun U hU hvm => by rw [hU]; exact ⟨⟨hz, h_7⟩, hXc.moved hvm⟩) hE) rfl rfl hl.1 rfl (lv_room (Nat.le_of_ble_eq_true rfl)) dX7_init_20 ⟨(by show _ + 35 ≤ 403; omega), (by show _ + 310 ≤ 3665; omega)⟩) hS (fun q h => Nat.le_trans (show b ≤ b + 37 by omega) h) (fun q h => Nat.le_trans (show b ≤ b + 37 by omega) h) (fun H_9 locs hQ_ hge_ hk_ hS => ?_)
  have kp_ : ∀ q, q < H_6.size → q ≠ b + 37 → H_9[q]? = H_6[q]? := fun q h h2 => hk_ q h (fun h3 => by have h3 : b + 37 ≤ q := h3; omega)
  replace hthis := zn_A (b + 37) hthis kp_ (show b ≠ b + 37 by omega)
  replace harch_3 := zn_P (b + 37) harch_3 kp_ (fun p hp => by have h_ := hA_rng (q := b + 1) hp; show hA_ (b + 1) p ≠ b + 37; omega)
  clear h_7 hz kp_ hge_ hk_
  obtain ⟨hz, harch_8⟩ := hQ_
  replace hz : H_9.size = b + 73 := hz
  refine zn_putF 1 (.ref (b + 37)) (.object "DrawerSlips$Archive") hx hb hts (fun x h => List.mem_cons_of_mem _ (hU_X7 x h)) tyX7 tyX7_ok nmX7 hown hE hthis (show b ≤ b by omega) hS (show vwCl[7]? = some (RX7, TX7, 7) from rfl) (by decide) (Nat.le_of_ble_eq_true rfl) rfl hin rfl (by decide +kernel) rfl rfl (hts _ (List.mem_cons_of_mem _ uC_244)) (fun _ h9 => h9) dX7_init_23 (fun H_10 locs hthis z1_ o1_ hS => ?_)
  have kp_ : ∀ q, q < H_9.size → q ≠ b → H_10[q]? = H_9[q]? := fun q _ h => o1_ q h
  replace harch_3 := zn_P (b) harch_3 kp_ (fun p hp => by have h_ := hA_rng (q := b + 1) hp; show hA_ (b + 1) p ≠ b; omega)
  replace harch_8 := zn_P (b) harch_8 kp_ (fun p hp => by have h_ := hA_rng (q := b + 37) hp; show hA_ (b + 37) p ≠ b; omega)
  replace hz : H_10.size = b + 73 := z1_.trans hz
  clear kp_ z1_ o1_
  replace hthis : va_at V.1 vwCl (b, .inr (7, [.ref (b + 1), .ref (b + 37), .null, .null, .null, .null, .null])) H_10 := hthis
  refine lv_aload_n hx hb dX7_init_26 rfl (lv_at hl 0 rfl) ?_
  refine zn_new (ci := 1) (fs := [.null, .int 0, .int 0]) (C := RX1) (T := TX1) (N := 3) hx hb hts (fun x h => List.mem_cons_of_mem _ (hU_X1 x h)) tyX1 tyX1_ok hown (hts _ (List.mem_cons_of_mem _ uC_245)) (hts _ (List.mem_cons_of_mem _ uC_246)) (hts _ (List.mem_cons_of_mem _ uC_167)) hE hS (show vwCl[1]? = some (RX1, TX1, 3) from rfl) (fun j hj => by rcases (show j = 0 ∨ j = 1 ∨ j = 2 by omega) with rfl | rfl | rfl <;> rfl) (by show _ + 1 ≤ 403; omega) (by show _ + 3 ≤ 3665; omega) dX7_init_27 (fun H_11 h_12 z1_ o1_ hS => ?_)
  rw [hz] at h_12 z1_ ⊢
  have kp_ : ∀ q, q < H_10.size → q ≠ b + 73 → H_11[q]? = H_10[q]? := fun q h _ => o1_ q h
  replace hthis := zn_A (b + 73) hthis kp_ (show b ≠ b + 73 by omega)
  replace harch_3 := zn_P (b + 73) harch_3 kp_ (fun p hp => by have h_ := hA_rng (q := b + 1) hp; show hA_ (b + 1) p ≠ b + 73; omega)
  replace harch_8 := zn_P (b + 73) harch_8 kp_ (fun p hp => by have h_ := hA_rng (q := b + 37) hp; show hA_ (b + 37) p ≠ b + 73; omega)
  replace hz : H_11.size = b + 74 := z1_
  clear kp_ z1_ o1_
  refine lv_dup hx hb dX7_init_30 rfl ?_
  have hXc : zST (fun q => b + 73 ≤ q) s H_11 := (hX0_.kept (fun a h1 h2 => hS.2.1 a h1 h2)).narrow (fun q h => Nat.le_trans (show b ≤ b + 73 by omega) h)
  refine zc_v (va_runIN (As := []) (rest := [.ref (b + 73), .ref b]) ⟨hx, hb, hml, hown, hts⟩ (c_X1_init l V (b + 73)) ⟨va_cnB 0 hts (zgB_ wsC_all uC_155) rfl rfl rfl (hE.2 (.methodLinkNest RX7 21 yX1_init "DrawerSlips") (List.mem_of_getElem? (i := 32) rfl)) (hts _ (List.mem_cons_of_mem _ uC_167)) (by decide +kernel) ⟨Nat.le_of_ble_eq_true rfl, Nat.le_of_ble_eq_true rfl⟩, rfl, (hts _ (List.mem_cons_of_mem _ uC_259))⟩ (zPsS (B := fun U => (U.heap.size = b + 73 + 1 ∧ va_at V.1 vwCl (b + 73, .inr (1, [.null, .int 0, .int 0])) U.heap) ∧ (zST (fun q => b + 73 ≤ q) U U.heap ∧ va_AO RX0 U)) (fun _ _ _ _ h => ⟨h.1, zST.calling h.2.1, h.2.2⟩) (fun U hU hvm => by rw [hU]; exact ⟨⟨hz, h_12⟩, hXc.moved hvm, hao.moved hvm⟩) hE) rfl rfl hl.1 rfl (lv_room (Nat.le_of_ble_eq_true rfl)) dX7_init_31 ⟨(by show _ + 253 ≤ 403; omega), (by show _ + 2275 ≤ 3665; omega)⟩) hS (fun q h => Nat.le_trans (show b ≤ b + 73 by omega) h) (fun q h => Nat.le_trans (show b ≤ b + 73 by omega) h) (fun H_13 locs hQ_ hge_ hk_ hS => ?_)
  have kp_ : ∀ q, q < H_11.size → q ≠ b + 73 → H_13[q]? = H_11[q]? := fun q h h2 => hk_ q h (fun h3 => by have h3 : b + 73 ≤ q := h3; omega)
  replace hthis := zn_A (b + 73) hthis kp_ (show b ≠ b + 73 by omega)
  replace harch_3 := zn_P (b + 73) harch_3 kp_ (fun p hp => by have h_ := hA_rng (q := b + 1) hp; show hA_ (b + 1) p ≠ b + 73; omega)
  replace harch_8 := zn_P (b + 73) harch_8 kp_ (fun p hp => by have h_ := hA_rng (q := b + 37) hp; show hA_ (b + 37) p ≠ b + 73; omega)
  clear h_12 hz kp_ hge_ hk_
  obtain ⟨hz, hh1_, hh2_, hh3_⟩ := hQ_
  replace hz : H_13.size = b + 327 := hz
  refine zn_putF 2 (.ref (b + 73)) (.object "DrawerSlips$History") hx hb hts (fun x h => List.mem_cons_of_mem _ (hU_X7 x h)) tyX7 tyX7_ok nmX7 hown hE hthis (show b ≤ b by omega) hS (show vwCl[7]? = some (RX7, TX7, 7) from rfl) (by decide) (Nat.le_of_ble_eq_true rfl) rfl hin rfl (by decide +kernel) rfl rfl (hts _ (List.mem_cons_of_mem _ uC_247)) (fun _ h9 => h9) dX7_init_34 (fun H_14 locs hthis z1_ o1_ hS => ?_)
  have kp_ : ∀ q, q < H_13.size → q ≠ b → H_14[q]? = H_13[q]? := fun q _ h => o1_ q h
  replace harch_3 := zn_P (b) harch_3 kp_ (fun p hp => by have h_ := hA_rng (q := b + 1) hp; show hA_ (b + 1) p ≠ b; omega)
  replace harch_8 := zn_P (b) harch_8 kp_ (fun p hp => by have h_ := hA_rng (q := b + 37) hp; show hA_ (b + 37) p ≠ b; omega)
  replace hh1_ := zn_A (b) hh1_ kp_ (show b + 73 ≠ b by omega)
  replace hh2_ := zn_A (b) hh2_ kp_ (show b + 74 ≠ b by omega)
  replace hh3_ := (fun j hj => zn_P (b) (hh3_ j hj) kp_ (fun p hp => by have h_ := hA_rng (q := b + 75 + 36 * j) hp; show hA_ (b + 75 + 36 * j) p ≠ b; omega))
  replace hz : H_14.size = b + 327 := z1_.trans hz
  clear kp_ z1_ o1_
  replace hthis : va_at V.1 vwCl (b, .inr (7, [.ref (b + 1), .ref (b + 37), .ref (b + 73), .null, .null, .null, .null])) H_14 := hthis
  refine lv_aload_n hx hb dX7_init_37 rfl (lv_at hl 0 rfl) ?_
  refine zn_new (ci := 6) (fs := [.null, .int 0]) (C := RX6) (T := TX6) (N := 2) hx hb hts (fun x h => List.mem_cons_of_mem _ (hU_X6 x h)) tyX6 tyX6_ok hown (hts _ (List.mem_cons_of_mem _ uC_248)) (hts _ (List.mem_cons_of_mem _ uC_249)) (hts _ (List.mem_cons_of_mem _ uC_250)) hE hS (show vwCl[6]? = some (RX6, TX6, 2) from rfl) (fun j hj => by rcases (show j = 0 ∨ j = 1 by omega) with rfl | rfl <;> rfl) (by show _ + 1 ≤ 403; omega) (by show _ + 2 ≤ 3665; omega) dX7_init_38 (fun H_15 h_16 z1_ o1_ hS => ?_)
  rw [hz] at h_16 z1_ ⊢
  have kp_ : ∀ q, q < H_14.size → q ≠ b + 327 → H_15[q]? = H_14[q]? := fun q h _ => o1_ q h
  replace hthis := zn_A (b + 327) hthis kp_ (show b ≠ b + 327 by omega)
  replace harch_3 := zn_P (b + 327) harch_3 kp_ (fun p hp => by have h_ := hA_rng (q := b + 1) hp; show hA_ (b + 1) p ≠ b + 327; omega)
  replace harch_8 := zn_P (b + 327) harch_8 kp_ (fun p hp => by have h_ := hA_rng (q := b + 37) hp; show hA_ (b + 37) p ≠ b + 327; omega)
  replace hh1_ := zn_A (b + 327) hh1_ kp_ (show b + 73 ≠ b + 327 by omega)
  replace hh2_ := zn_A (b + 327) hh2_ kp_ (show b + 74 ≠ b + 327 by omega)
  replace hh3_ := (fun j hj => zn_P (b + 327) (hh3_ j hj) kp_ (fun p hp => by have h_ := hA_rng (q := b + 75 + 36 * j) hp; show hA_ (b + 75 + 36 * j) p ≠ b + 327; omega))
  replace hz : H_15.size = b + 328 := z1_
  clear kp_ z1_ o1_
  refine lv_dup hx hb dX7_init_41 rfl ?_
  have hXc : zST (fun q => b + 327 ≤ q) s H_15 := (hX0_.kept (fun a h1 h2 => hS.2.1 a h1 h2)).narrow (fun q h => Nat.le_trans (show b ≤ b + 327 by omega) h)
  refine zc_v (va_runIN (As := []) (rest := [.ref (b + 327), .ref b]) ⟨hx, hb, hml, hown, hts⟩ (c_X6_init l V (b + 327)) ⟨va_cnB 0 hts (zgB_ wsC_all uC_236) rfl rfl rfl (hE.2 (.methodLinkNest RX7 28 yX6_init "DrawerSlips") (List.mem_of_getElem? (i := 34) rfl)) (hts _ (List.mem_cons_of_mem _ uC_250)) (by decide +kernel) ⟨Nat.le_of_ble_eq_true rfl, Nat.le_of_ble_eq_true rfl⟩, rfl, (hts _ (List.mem_cons_of_mem _ uC_260))⟩ (zPsS (B := fun U => (U.heap.size = b + 327 + 1 ∧ va_at V.1 vwCl (b + 327, .inr (6, [.null, .int 0])) U.heap) ∧ zST (fun q => b + 327 ≤ q) U U.heap) (fun _ _ _ _ h => ⟨h.1, zST.calling h.2⟩) (fun U hU hvm => by rw [hU]; exact ⟨⟨hz, h_16⟩, hXc.moved hvm⟩) hE) rfl rfl hl.1 rfl (lv_room (Nat.le_of_ble_eq_true rfl)) dX7_init_42 ⟨(by show _ + 36 ≤ 403; omega), (by show _ + 324 ≤ 3665; omega)⟩) hS (fun q h => Nat.le_trans (show b ≤ b + 327 by omega) h) (fun q h => Nat.le_trans (show b ≤ b + 327 by omega) h) (fun H_19 locs hQ_ hge_ hk_ hS => ?_)
  have kp_ : ∀ q, q < H_15.size → q ≠ b + 327 → H_19[q]? = H_15[q]? := fun q h h2 => hk_ q h (fun h3 => by have h3 : b + 327 ≤ q := h3; omega)
  replace hthis := zn_A (b + 327) hthis kp_ (show b ≠ b + 327 by omega)
  replace harch_3 := zn_P (b + 327) harch_3 kp_ (fun p hp => by have h_ := hA_rng (q := b + 1) hp; show hA_ (b + 1) p ≠ b + 327; omega)
  replace harch_8 := zn_P (b + 327) harch_8 kp_ (fun p hp => by have h_ := hA_rng (q := b + 37) hp; show hA_ (b + 37) p ≠ b + 327; omega)
  replace hh1_ := zn_A (b + 327) hh1_ kp_ (show b + 73 ≠ b + 327 by omega)
  replace hh2_ := zn_A (b + 327) hh2_ kp_ (show b + 74 ≠ b + 327 by omega)
  replace hh3_ := (fun j hj => zn_P (b + 327) (hh3_ j hj) kp_ (fun p hp => by have h_ := hA_rng (q := b + 75 + 36 * j) hp; show hA_ (b + 75 + 36 * j) p ≠ b + 327; omega))
  clear h_16 hz kp_ hge_ hk_
  obtain ⟨hz, hs_17, hs_18⟩ := hQ_
  replace hz : H_19.size = b + 364 := hz
  refine zn_putF 3 (.ref (b + 327)) (.object "DrawerSlips$Slot") hx hb hts (fun x h => List.mem_cons_of_mem _ (hU_X7 x h)) tyX7 tyX7_ok nmX7 hown hE hthis (show b ≤ b by omega) hS (show vwCl[7]? = some (RX7, TX7, 7) from rfl) (by decide) (Nat.le_of_ble_eq_true rfl) rfl hin rfl (by decide +kernel) rfl rfl (hts _ (List.mem_cons_of_mem _ uC_251)) (fun _ h9 => h9) dX7_init_45 (fun H_20 locs hthis z1_ o1_ hS => ?_)
  have kp_ : ∀ q, q < H_19.size → q ≠ b → H_20[q]? = H_19[q]? := fun q _ h => o1_ q h
  replace harch_3 := zn_P (b) harch_3 kp_ (fun p hp => by have h_ := hA_rng (q := b + 1) hp; show hA_ (b + 1) p ≠ b; omega)
  replace harch_8 := zn_P (b) harch_8 kp_ (fun p hp => by have h_ := hA_rng (q := b + 37) hp; show hA_ (b + 37) p ≠ b; omega)
  replace hh1_ := zn_A (b) hh1_ kp_ (show b + 73 ≠ b by omega)
  replace hh2_ := zn_A (b) hh2_ kp_ (show b + 74 ≠ b by omega)
  replace hh3_ := (fun j hj => zn_P (b) (hh3_ j hj) kp_ (fun p hp => by have h_ := hA_rng (q := b + 75 + 36 * j) hp; show hA_ (b + 75 + 36 * j) p ≠ b; omega))
  replace hs_17 := zn_A (b) hs_17 kp_ (show b + 327 ≠ b by omega)
  replace hs_18 := zn_P (b) hs_18 kp_ (fun p hp => by have h_ := hA_rng (q := b + 328) hp; show hA_ (b + 328) p ≠ b; omega)
  replace hz : H_20.size = b + 364 := z1_.trans hz
  clear kp_ z1_ o1_
  replace hthis : va_at V.1 vwCl (b, .inr (7, [.ref (b + 1), .ref (b + 37), .ref (b + 73), .ref (b + 327), .null, .null, .null])) H_20 := hthis
  refine lv_aload_n hx hb dX7_init_48 rfl (lv_at hl 0 rfl) ?_
  refine zn_new (ci := 6) (fs := [.null, .int 0]) (C := RX6) (T := TX6) (N := 2) hx hb hts (fun x h => List.mem_cons_of_mem _ (hU_X6 x h)) tyX6 tyX6_ok hown (hts _ (List.mem_cons_of_mem _ uC_248)) (hts _ (List.mem_cons_of_mem _ uC_249)) (hts _ (List.mem_cons_of_mem _ uC_250)) hE hS (show vwCl[6]? = some (RX6, TX6, 2) from rfl) (fun j hj => by rcases (show j = 0 ∨ j = 1 by omega) with rfl | rfl <;> rfl) (by show _ + 1 ≤ 403; omega) (by show _ + 2 ≤ 3665; omega) dX7_init_49 (fun H_21 h_22 z1_ o1_ hS => ?_)
  rw [hz] at h_22 z1_ ⊢
  have kp_ : ∀ q, q < H_20.size → q ≠ b + 364 → H_21[q]? = H_20[q]? := fun q h _ => o1_ q h
  replace hthis := zn_A (b + 364) hthis kp_ (show b ≠ b + 364 by omega)
  replace harch_3 := zn_P (b + 364) harch_3 kp_ (fun p hp => by have h_ := hA_rng (q := b + 1) hp; show hA_ (b + 1) p ≠ b + 364; omega)
  replace harch_8 := zn_P (b + 364) harch_8 kp_ (fun p hp => by have h_ := hA_rng (q := b + 37) hp; show hA_ (b + 37) p ≠ b + 364; omega)
  replace hh1_ := zn_A (b + 364) hh1_ kp_ (show b + 73 ≠ b + 364 by omega)
  replace hh2_ := zn_A (b + 364) hh2_ kp_ (show b + 74 ≠ b + 364 by omega)
  replace hh3_ := (fun j hj => zn_P (b + 364) (hh3_ j hj) kp_ (fun p hp => by have h_ := hA_rng (q := b + 75 + 36 * j) hp; show hA_ (b + 75 + 36 * j) p ≠ b + 364; omega))
  replace hs_17 := zn_A (b + 364) hs_17 kp_ (show b + 327 ≠ b + 364 by omega)
  replace hs_18 := zn_P (b + 364) hs_18 kp_ (fun p hp => by have h_ := hA_rng (q := b + 328) hp; show hA_ (b + 328) p ≠ b + 364; omega)
  replace hz : H_21.size = b + 365 := z1_
  clear kp_ z1_ o1_
  refine lv_dup hx hb dX7_init_52 rfl ?_
  have hXc : zST (fun q => b + 364 ≤ q) s H_21 := (hX0_.kept (fun a h1 h2 => hS.2.1 a h1 h2)).narrow (fun q h => Nat.le_trans (show b ≤ b + 364 by omega) h)
  refine zc_v (va_runIN (As := []) (rest := [.ref (b + 364), .ref b]) ⟨hx, hb, hml, hown, hts⟩ (c_X6_init l V (b + 364)) ⟨va_cnB 0 hts (zgB_ wsC_all uC_236) rfl rfl rfl (hE.2 (.methodLinkNest RX7 28 yX6_init "DrawerSlips") (List.mem_of_getElem? (i := 34) rfl)) (hts _ (List.mem_cons_of_mem _ uC_250)) (by decide +kernel) ⟨Nat.le_of_ble_eq_true rfl, Nat.le_of_ble_eq_true rfl⟩, rfl, (hts _ (List.mem_cons_of_mem _ uC_260))⟩ (zPsS (B := fun U => (U.heap.size = b + 364 + 1 ∧ va_at V.1 vwCl (b + 364, .inr (6, [.null, .int 0])) U.heap) ∧ zST (fun q => b + 364 ≤ q) U U.heap) (fun _ _ _ _ h => ⟨h.1, zST.calling h.2⟩) (fun U hU hvm => by rw [hU]; exact ⟨⟨hz, h_22⟩, hXc.moved hvm⟩) hE) rfl rfl hl.1 rfl (lv_room (Nat.le_of_ble_eq_true rfl)) dX7_init_53 ⟨(by show _ + 36 ≤ 403; omega), (by show _ + 324 ≤ 3665; omega)⟩) hS (fun q h => Nat.le_trans (show b ≤ b + 364 by omega) h) (fun q h => Nat.le_trans (show b ≤ b + 364 by omega) h) (fun H_25 locs hQ_ hge_ hk_ hS => ?_)
  have kp_ : ∀ q, q < H_21.size → q ≠ b + 364 → H_25[q]? = H_21[q]? := fun q h h2 => hk_ q h (fun h3 => by have h3 : b + 364 ≤ q := h3; omega)
  replace hthis := zn_A (b + 364) hthis kp_ (show b ≠ b + 364 by omega)
  replace harch_3 := zn_P (b + 364) harch_3 kp_ (fun p hp => by have h_ := hA_rng (q := b + 1) hp; show hA_ (b + 1) p ≠ b + 364; omega)
  replace harch_8 := zn_P (b + 364) harch_8 kp_ (fun p hp => by have h_ := hA_rng (q := b + 37) hp; show hA_ (b + 37) p ≠ b + 364; omega)
  replace hh1_ := zn_A (b + 364) hh1_ kp_ (show b + 73 ≠ b + 364 by omega)
  replace hh2_ := zn_A (b + 364) hh2_ kp_ (show b + 74 ≠ b + 364 by omega)
  replace hh3_ := (fun j hj => zn_P (b + 364) (hh3_ j hj) kp_ (fun p hp => by have h_ := hA_rng (q := b + 75 + 36 * j) hp; show hA_ (b + 75 + 36 * j) p ≠ b + 364; omega))
  replace hs_17 := zn_A (b + 364) hs_17 kp_ (show b + 327 ≠ b + 364 by omega)
  replace hs_18 := zn_P (b + 364) hs_18 kp_ (fun p hp => by have h_ := hA_rng (q := b + 328) hp; show hA_ (b + 328) p ≠ b + 364; omega)
  clear h_22 hz kp_ hge_ hk_
  obtain ⟨hz, hs_23, hs_24⟩ := hQ_
  replace hz : H_25.size = b + 401 := hz
  refine zn_putF 4 (.ref (b + 364)) (.object "DrawerSlips$Slot") hx hb hts (fun x h => List.mem_cons_of_mem _ (hU_X7 x h)) tyX7 tyX7_ok nmX7 hown hE hthis (show b ≤ b by omega) hS (show vwCl[7]? = some (RX7, TX7, 7) from rfl) (by decide) (Nat.le_of_ble_eq_true rfl) rfl hin rfl (by decide +kernel) rfl rfl (hts _ (List.mem_cons_of_mem _ uC_252)) (fun _ h9 => h9) dX7_init_56 (fun H_26 locs hthis z1_ o1_ hS => ?_)
  have kp_ : ∀ q, q < H_25.size → q ≠ b → H_26[q]? = H_25[q]? := fun q _ h => o1_ q h
  replace harch_3 := zn_P (b) harch_3 kp_ (fun p hp => by have h_ := hA_rng (q := b + 1) hp; show hA_ (b + 1) p ≠ b; omega)
  replace harch_8 := zn_P (b) harch_8 kp_ (fun p hp => by have h_ := hA_rng (q := b + 37) hp; show hA_ (b + 37) p ≠ b; omega)
  replace hh1_ := zn_A (b) hh1_ kp_ (show b + 73 ≠ b by omega)
  replace hh2_ := zn_A (b) hh2_ kp_ (show b + 74 ≠ b by omega)
  replace hh3_ := (fun j hj => zn_P (b) (hh3_ j hj) kp_ (fun p hp => by have h_ := hA_rng (q := b + 75 + 36 * j) hp; show hA_ (b + 75 + 36 * j) p ≠ b; omega))
  replace hs_17 := zn_A (b) hs_17 kp_ (show b + 327 ≠ b by omega)
  replace hs_18 := zn_P (b) hs_18 kp_ (fun p hp => by have h_ := hA_rng (q := b + 328) hp; show hA_ (b + 328) p ≠ b; omega)
  replace hs_23 := zn_A (b) hs_23 kp_ (show b + 364 ≠ b by omega)
  replace hs_24 := zn_P (b) hs_24 kp_ (fun p hp => by have h_ := hA_rng (q := b + 365) hp; show hA_ (b + 365) p ≠ b; omega)
  replace hz : H_26.size = b + 401 := z1_.trans hz
  clear kp_ z1_ o1_
  replace hthis : va_at V.1 vwCl (b, .inr (7, [.ref (b + 1), .ref (b + 37), .ref (b + 73), .ref (b + 327), .ref (b + 364), .null, .null])) H_26 := hthis
  refine lv_aload_n hx hb dX7_init_59 rfl (lv_at hl 0 rfl) ?_
  refine zn_new (ci := 3) (fs := [.null, .int 0]) (C := RX3) (T := TX3) (N := 2) hx hb hts (fun x h => List.mem_cons_of_mem _ (hU_X3 x h)) tyX3 tyX3_ok hown (hts _ (List.mem_cons_of_mem _ uC_253)) (hts _ (List.mem_cons_of_mem _ uC_254)) (hts _ (List.mem_cons_of_mem _ uC_192)) hE hS (show vwCl[3]? = some (RX3, TX3, 2) from rfl) (fun j hj => by rcases (show j = 0 ∨ j = 1 by omega) with rfl | rfl <;> rfl) (by show _ + 1 ≤ 403; omega) (by show _ + 2 ≤ 3665; omega) dX7_init_60 (fun H_27 h_28 z1_ o1_ hS => ?_)
  rw [hz] at h_28 z1_ ⊢
  have kp_ : ∀ q, q < H_26.size → q ≠ b + 401 → H_27[q]? = H_26[q]? := fun q h _ => o1_ q h
  replace hthis := zn_A (b + 401) hthis kp_ (show b ≠ b + 401 by omega)
  replace harch_3 := zn_P (b + 401) harch_3 kp_ (fun p hp => by have h_ := hA_rng (q := b + 1) hp; show hA_ (b + 1) p ≠ b + 401; omega)
  replace harch_8 := zn_P (b + 401) harch_8 kp_ (fun p hp => by have h_ := hA_rng (q := b + 37) hp; show hA_ (b + 37) p ≠ b + 401; omega)
  replace hh1_ := zn_A (b + 401) hh1_ kp_ (show b + 73 ≠ b + 401 by omega)
  replace hh2_ := zn_A (b + 401) hh2_ kp_ (show b + 74 ≠ b + 401 by omega)
  replace hh3_ := (fun j hj => zn_P (b + 401) (hh3_ j hj) kp_ (fun p hp => by have h_ := hA_rng (q := b + 75 + 36 * j) hp; show hA_ (b + 75 + 36 * j) p ≠ b + 401; omega))
  replace hs_17 := zn_A (b + 401) hs_17 kp_ (show b + 327 ≠ b + 401 by omega)
  replace hs_18 := zn_P (b + 401) hs_18 kp_ (fun p hp => by have h_ := hA_rng (q := b + 328) hp; show hA_ (b + 328) p ≠ b + 401; omega)
  replace hs_23 := zn_A (b + 401) hs_23 kp_ (show b + 364 ≠ b + 401 by omega)
  replace hs_24 := zn_P (b + 401) hs_24 kp_ (fun p hp => by have h_ := hA_rng (q := b + 365) hp; show hA_ (b + 365) p ≠ b + 401; omega)
  replace hz : H_27.size = b + 402 := z1_
  clear kp_ z1_ o1_
  refine lv_dup hx hb dX7_init_63 rfl ?_
  refine zc_v (va_runIN (As := []) (rest := [.ref (b + 401), .ref b]) ⟨hx, hb, hml, hown, hts⟩ (c_X3_init l V (b + 401)) ⟨va_cnB 0 hts (zgB_ wsC_all uC_182) rfl rfl rfl (hE.2 (.methodLinkNest RX7 38 yX3_init "DrawerSlips") (List.mem_of_getElem? (i := 36) rfl)) (hts _ (List.mem_cons_of_mem _ uC_192)) (by decide +kernel) ⟨Nat.le_of_ble_eq_true rfl, Nat.le_of_ble_eq_true rfl⟩, rfl, (hts _ (List.mem_cons_of_mem _ uC_261))⟩ (zPreS (B := fun H => H.size = b + 401 + 1 ∧ va_at V.1 vwCl (b + 401, .inr (3, [.null, .int 0])) H) ⟨hz, h_28⟩ hE) rfl rfl hl.1 rfl (lv_room (Nat.le_of_ble_eq_true rfl)) dX7_init_64 ⟨(by show _ + 1 ≤ 403; omega), (by show _ + 80 ≤ 3665; omega)⟩) hS (fun q h => Nat.le_trans (show b ≤ b + 401 by omega) h) (fun q h => Nat.le_trans (show b ≤ b + 401 by omega) h) (fun H_29 locs hQ_ hge_ hk_ hS => ?_)
  have kp_ : ∀ q, q < H_27.size → q ≠ b + 401 → H_29[q]? = H_27[q]? := fun q h h2 => hk_ q h (fun h3 => by have h3 : b + 401 ≤ q := h3; omega)
  replace hthis := zn_A (b + 401) hthis kp_ (show b ≠ b + 401 by omega)
  replace harch_3 := zn_P (b + 401) harch_3 kp_ (fun p hp => by have h_ := hA_rng (q := b + 1) hp; show hA_ (b + 1) p ≠ b + 401; omega)
  replace harch_8 := zn_P (b + 401) harch_8 kp_ (fun p hp => by have h_ := hA_rng (q := b + 37) hp; show hA_ (b + 37) p ≠ b + 401; omega)
  replace hh1_ := zn_A (b + 401) hh1_ kp_ (show b + 73 ≠ b + 401 by omega)
  replace hh2_ := zn_A (b + 401) hh2_ kp_ (show b + 74 ≠ b + 401 by omega)
  replace hh3_ := (fun j hj => zn_P (b + 401) (hh3_ j hj) kp_ (fun p hp => by have h_ := hA_rng (q := b + 75 + 36 * j) hp; show hA_ (b + 75 + 36 * j) p ≠ b + 401; omega))
  replace hs_17 := zn_A (b + 401) hs_17 kp_ (show b + 327 ≠ b + 401 by omega)
  replace hs_18 := zn_P (b + 401) hs_18 kp_ (fun p hp => by have h_ := hA_rng (q := b + 328) hp; show hA_ (b + 328) p ≠ b + 401; omega)
  replace hs_23 := zn_A (b + 401) hs_23 kp_ (show b + 364 ≠ b + 401 by omega)
  replace hs_24 := zn_P (b + 401) hs_24 kp_ (fun p hp => by have h_ := hA_rng (q := b + 365) hp; show hA_ (b + 365) p ≠ b + 401; omega)
  clear h_28 hz kp_ hge_ hk_
  obtain ⟨hz, hp1_, hp2_⟩ := hQ_
  replace hz : H_29.size = b + 403 := hz
  refine zn_putF 5 (.ref (b + 401)) (.object "DrawerSlips$Pad") hx hb hts (fun x h => List.mem_cons_of_mem _ (hU_X7 x h)) tyX7 tyX7_ok nmX7 hown hE hthis (show b ≤ b by omega) hS (show vwCl[7]? = some (RX7, TX7, 7) from rfl) (by decide) (Nat.le_of_ble_eq_true rfl) rfl hin rfl (by decide +kernel) rfl rfl (hts _ (List.mem_cons_of_mem _ uC_255)) (fun _ h9 => h9) dX7_init_67 (fun H_30 locs hthis z1_ o1_ hS => ?_)
  have kp_ : ∀ q, q < H_29.size → q ≠ b → H_30[q]? = H_29[q]? := fun q _ h => o1_ q h
  replace harch_3 := zn_P (b) harch_3 kp_ (fun p hp => by have h_ := hA_rng (q := b + 1) hp; show hA_ (b + 1) p ≠ b; omega)
  replace harch_8 := zn_P (b) harch_8 kp_ (fun p hp => by have h_ := hA_rng (q := b + 37) hp; show hA_ (b + 37) p ≠ b; omega)
  replace hh1_ := zn_A (b) hh1_ kp_ (show b + 73 ≠ b by omega)
  replace hh2_ := zn_A (b) hh2_ kp_ (show b + 74 ≠ b by omega)
  replace hh3_ := (fun j hj => zn_P (b) (hh3_ j hj) kp_ (fun p hp => by have h_ := hA_rng (q := b + 75 + 36 * j) hp; show hA_ (b + 75 + 36 * j) p ≠ b; omega))
  replace hs_17 := zn_A (b) hs_17 kp_ (show b + 327 ≠ b by omega)
  replace hs_18 := zn_P (b) hs_18 kp_ (fun p hp => by have h_ := hA_rng (q := b + 328) hp; show hA_ (b + 328) p ≠ b; omega)
  replace hs_23 := zn_A (b) hs_23 kp_ (show b + 364 ≠ b by omega)
  replace hs_24 := zn_P (b) hs_24 kp_ (fun p hp => by have h_ := hA_rng (q := b + 365) hp; show hA_ (b + 365) p ≠ b; omega)
  replace hp1_ := zn_A (b) hp1_ kp_ (show b + 401 ≠ b by omega)
  replace hp2_ := zn_A (b) hp2_ kp_ (show b + 402 ≠ b by omega)
  replace hz : H_30.size = b + 403 := z1_.trans hz
  clear kp_ z1_ o1_
  replace hthis : va_at V.1 vwCl (b, .inr (7, [.ref (b + 1), .ref (b + 37), .ref (b + 73), .ref (b + 327), .ref (b + 364), .ref (b + 401), .null])) H_30 := hthis
  refine lv_aload_n hx hb dX7_init_70 rfl (lv_at hl 0 rfl) ?_
  refine zn_new (ci := 4) (fs := [.null, .int 0, .int 0, .int 0, .int 0]) (C := RX4) (T := TX4) (N := 5) hx hb hts (fun x h => List.mem_cons_of_mem _ (hU_X4 x h)) tyX4 tyX4_ok hown (hts _ (List.mem_cons_of_mem _ uC_256)) (hts _ (List.mem_cons_of_mem _ uC_257)) (hts _ (List.mem_cons_of_mem _ uC_211)) hE hS (show vwCl[4]? = some (RX4, TX4, 5) from rfl) (fun j hj => by rcases (show j = 0 ∨ j = 1 ∨ j = 2 ∨ j = 3 ∨ j = 4 by omega) with rfl | rfl | rfl | rfl | rfl <;> rfl) (by show _ + 1 ≤ 403; omega) (by show _ + 5 ≤ 3665; omega) dX7_init_71 (fun H_31 h_32 z1_ o1_ hS => ?_)
  rw [hz] at h_32 z1_ ⊢
  have kp_ : ∀ q, q < H_30.size → q ≠ b + 403 → H_31[q]? = H_30[q]? := fun q h _ => o1_ q h
  replace hthis := zn_A (b + 403) hthis kp_ (show b ≠ b + 403 by omega)
  replace harch_3 := zn_P (b + 403) harch_3 kp_ (fun p hp => by have h_ := hA_rng (q := b + 1) hp; show hA_ (b + 1) p ≠ b + 403; omega)
  replace harch_8 := zn_P (b + 403) harch_8 kp_ (fun p hp => by have h_ := hA_rng (q := b + 37) hp; show hA_ (b + 37) p ≠ b + 403; omega)
  replace hh1_ := zn_A (b + 403) hh1_ kp_ (show b + 73 ≠ b + 403 by omega)
  replace hh2_ := zn_A (b + 403) hh2_ kp_ (show b + 74 ≠ b + 403 by omega)
  replace hh3_ := (fun j hj => zn_P (b + 403) (hh3_ j hj) kp_ (fun p hp => by have h_ := hA_rng (q := b + 75 + 36 * j) hp; show hA_ (b + 75 + 36 * j) p ≠ b + 403; omega))
  replace hs_17 := zn_A (b + 403) hs_17 kp_ (show b + 327 ≠ b + 403 by omega)
  replace hs_18 := zn_P (b + 403) hs_18 kp_ (fun p hp => by have h_ := hA_rng (q := b + 328) hp; show hA_ (b + 328) p ≠ b + 403; omega)
  replace hs_23 := zn_A (b + 403) hs_23 kp_ (show b + 364 ≠ b + 403 by omega)
  replace hs_24 := zn_P (b + 403) hs_24 kp_ (fun p hp => by have h_ := hA_rng (q := b + 365) hp; show hA_ (b + 365) p ≠ b + 403; omega)
  replace hp1_ := zn_A (b + 403) hp1_ kp_ (show b + 401 ≠ b + 403 by omega)
  replace hp2_ := zn_A (b + 403) hp2_ kp_ (show b + 402 ≠ b + 403 by omega)
  replace hz : H_31.size = b + 404 := z1_
  clear kp_ z1_ o1_
  refine lv_dup hx hb dX7_init_74 rfl ?_
  refine lv_aload_n hx hb dX7_init_75 rfl (lv_at hl 0 rfl) ?_
  refine zo_get 5 (.ref (b + 401)) hx hb hts (fun x h => List.mem_cons_of_mem _ (hU_X7 x h)) hown hE hthis (show vwCl[7]? = some (RX7, TX7, 7) from rfl) (by decide) rfl (hts _ (List.mem_cons_of_mem _ uC_255)) (fun _ h9 => h9) dX7_init_76 ?_
  refine zc_v (va_runIN (As := [.ref (b + 401)]) (rest := [.ref (b + 403), .ref b]) ⟨hx, hb, hml, hown, hts⟩ (c_X4_init l V (b + 403) (b + 401)) ⟨va_cnB 1 hts (zgB_ wsC_all uC_197) rfl rfl rfl (hE.2 (.methodLinkNest RX7 45 yX4_init "DrawerSlips") (List.mem_of_getElem? (i := 37) rfl)) (hts _ (List.mem_cons_of_mem _ uC_211)) (by decide +kernel) ⟨Nat.le_of_ble_eq_true rfl, Nat.le_of_ble_eq_true rfl⟩, rfl, (hts _ (List.mem_cons_of_mem _ uC_262))⟩ (zPreS (B := fun H => H.size = b + 403 + 1 ∧ va_at V.1 vwCl (b + 403, .inr (4, [.null, .int 0, .int 0, .int 0, .int 0])) H) ⟨hz, h_32⟩ hE) rfl rfl hl.1 rfl (lv_room (Nat.le_of_ble_eq_true rfl)) dX7_init_79 ⟨(by show _ + 0 ≤ 403; omega), (by show _ + 0 ≤ 3665; omega)⟩) hS (fun q h => Nat.le_trans (show b ≤ b + 403 by omega) h) (fun q h => Nat.le_trans (show b ≤ b + 403 by omega) h) (fun H_33 locs hQ_ hge_ hk_ hS => ?_)
  have kp_ : ∀ q, q < H_31.size → q ≠ b + 403 → H_33[q]? = H_31[q]? := fun q h h2 => hk_ q h (fun h3 => by have h3 : b + 403 ≤ q := h3; omega)
  replace hthis := zn_A (b + 403) hthis kp_ (show b ≠ b + 403 by omega)
  replace harch_3 := zn_P (b + 403) harch_3 kp_ (fun p hp => by have h_ := hA_rng (q := b + 1) hp; show hA_ (b + 1) p ≠ b + 403; omega)
  replace harch_8 := zn_P (b + 403) harch_8 kp_ (fun p hp => by have h_ := hA_rng (q := b + 37) hp; show hA_ (b + 37) p ≠ b + 403; omega)
  replace hh1_ := zn_A (b + 403) hh1_ kp_ (show b + 73 ≠ b + 403 by omega)
  replace hh2_ := zn_A (b + 403) hh2_ kp_ (show b + 74 ≠ b + 403 by omega)
  replace hh3_ := (fun j hj => zn_P (b + 403) (hh3_ j hj) kp_ (fun p hp => by have h_ := hA_rng (q := b + 75 + 36 * j) hp; show hA_ (b + 75 + 36 * j) p ≠ b + 403; omega))
  replace hs_17 := zn_A (b + 403) hs_17 kp_ (show b + 327 ≠ b + 403 by omega)
  replace hs_18 := zn_P (b + 403) hs_18 kp_ (fun p hp => by have h_ := hA_rng (q := b + 328) hp; show hA_ (b + 328) p ≠ b + 403; omega)
  replace hs_23 := zn_A (b + 403) hs_23 kp_ (show b + 364 ≠ b + 403 by omega)
  replace hs_24 := zn_P (b + 403) hs_24 kp_ (fun p hp => by have h_ := hA_rng (q := b + 365) hp; show hA_ (b + 365) p ≠ b + 403; omega)
  replace hp1_ := zn_A (b + 403) hp1_ kp_ (show b + 401 ≠ b + 403 by omega)
  replace hp2_ := zn_A (b + 403) hp2_ kp_ (show b + 402 ≠ b + 403 by omega)
  clear h_32 hz kp_ hge_ hk_
  obtain ⟨hz, hr1_⟩ := hQ_
  replace hz : H_33.size = b + 404 := hz
  refine zn_putF 6 (.ref (b + 403)) (.object "DrawerSlips$Reader") hx hb hts (fun x h => List.mem_cons_of_mem _ (hU_X7 x h)) tyX7 tyX7_ok nmX7 hown hE hthis (show b ≤ b by omega) hS (show vwCl[7]? = some (RX7, TX7, 7) from rfl) (by decide) (Nat.le_of_ble_eq_true rfl) rfl hin rfl (by decide +kernel) rfl rfl (hts _ (List.mem_cons_of_mem _ uC_258)) (fun _ h9 => h9) dX7_init_82 (fun H_34 locs hthis z1_ o1_ hS => ?_)
  have kp_ : ∀ q, q < H_33.size → q ≠ b → H_34[q]? = H_33[q]? := fun q _ h => o1_ q h
  replace harch_3 := zn_P (b) harch_3 kp_ (fun p hp => by have h_ := hA_rng (q := b + 1) hp; show hA_ (b + 1) p ≠ b; omega)
  replace harch_8 := zn_P (b) harch_8 kp_ (fun p hp => by have h_ := hA_rng (q := b + 37) hp; show hA_ (b + 37) p ≠ b; omega)
  replace hh1_ := zn_A (b) hh1_ kp_ (show b + 73 ≠ b by omega)
  replace hh2_ := zn_A (b) hh2_ kp_ (show b + 74 ≠ b by omega)
  replace hh3_ := (fun j hj => zn_P (b) (hh3_ j hj) kp_ (fun p hp => by have h_ := hA_rng (q := b + 75 + 36 * j) hp; show hA_ (b + 75 + 36 * j) p ≠ b; omega))
  replace hs_17 := zn_A (b) hs_17 kp_ (show b + 327 ≠ b by omega)
  replace hs_18 := zn_P (b) hs_18 kp_ (fun p hp => by have h_ := hA_rng (q := b + 328) hp; show hA_ (b + 328) p ≠ b; omega)
  replace hs_23 := zn_A (b) hs_23 kp_ (show b + 364 ≠ b by omega)
  replace hs_24 := zn_P (b) hs_24 kp_ (fun p hp => by have h_ := hA_rng (q := b + 365) hp; show hA_ (b + 365) p ≠ b; omega)
  replace hp1_ := zn_A (b) hp1_ kp_ (show b + 401 ≠ b by omega)
  replace hp2_ := zn_A (b) hp2_ kp_ (show b + 402 ≠ b by omega)
  replace hr1_ := zn_A (b) hr1_ kp_ (show b + 403 ≠ b by omega)
  replace hz : H_34.size = b + 404 := z1_.trans hz
  clear kp_ z1_ o1_
  replace hthis : va_at V.1 vwCl (b, .inr (7, [.ref (b + 1), .ref (b + 37), .ref (b + 73), .ref (b + 327), .ref (b + 364), .ref (b + 401), .ref (b + 403)])) H_34 := hthis
  obtain ⟨e0_, e1_, e2_, e3_, e4_, e5_, e6_, e7_⟩ := hG_m b
  have hfin_ : zTP V (hG_ b) (fun _ => zA0) 0 0 0 0 0 (fun _ => 0) 0 0 0 0 H_34 := ⟨fun j hj => by
    refine zaX_h (h := hA_ (off_ b j)) (fun p hp => (hG_a hj hp).symm) ?_
    rcases (show j = 0 ∨ j = 1 ∨ (2 ≤ j ∧ j < 9) ∨ j = 9 ∨ j = 10 by omega) with rfl | rfl | ⟨h2_, h9_⟩ | rfl | rfl
    · exact harch_3
    · exact harch_8
    · rw [show off_ b j = b + 75 + 36 * (j - 2) by unfold off_; rw [if_neg (by omega), if_neg (by omega), if_pos h9_]]; exact hh3_ (j - 2) (by omega)
    · exact hs_18
    · exact hs_24, zP_mk (fun q hq => by
    rcases (show q = 0 ∨ q = 1 ∨ q = 2 by omega) with rfl | rfl | rfl
    · show va_at V.1 vwCl (gQ (hG_ b) 0, .inr (3, [.ref (gQ (hG_ b) 1), .int (nI 0)])) H_34
      rw [e0_, e1_]; exact hp1_
    · show va_at V.1 vwCl (gQ (hG_ b) 1, .inl (V.2.1, 80, .inl (fun _ => 0))) H_34
      rw [e1_]; exact hp2_
    · show va_at V.1 vwCl (gQ (hG_ b) 2, .inr (4, [.ref (gQ (hG_ b) 0), .int (nI 0), .int 0, .int 0, .int 0])) H_34
      rw [e2_, e0_]; exact hr1_), zP_mk (fun q hq => by
    have g0_ : ∀ j, j < 11 → gA (hG_ b) j 0 = off_ b j := fun j hj => (hG_a hj (by decide)).trans rfl
    rcases (show q = 0 ∨ q = 1 ∨ q = 2 ∨ q = 3 ∨ q = 4 by omega) with rfl | rfl | rfl | rfl | rfl
    · show va_at V.1 vwCl (gM (hG_ b) 0, .inr (7, [.ref (gA (hG_ b) 0 0), .ref (gA (hG_ b) 1 0), .ref (gM (hG_ b) 1), .ref (gM (hG_ b) 3), .ref (gM (hG_ b) 4), .ref (gQ (hG_ b) 0), .ref (gQ (hG_ b) 2)])) H_34
      rw [g0_ 0 (by decide), g0_ 1 (by decide), e3_, e4_, e6_, e7_, e0_, e2_]; exact hthis
    · show va_at V.1 vwCl (gM (hG_ b) 1, .inr (1, [.ref (gM (hG_ b) 2), .int (nI 0), .int (nI 0)])) H_34
      rw [e4_, e5_]; exact hh1_
    · show va_at V.1 vwCl (gM (hG_ b) 2, .inl (V.2.2.2, 7, .inr (.inr (.inr (.inr (fun j => some (gA (hG_ b) (j + 2) 0))))))) H_34
      rw [e5_]; exact z_atq hh2_ (fun j hj => by rw [g0_ (j + 2) (by omega)]; congr 1; unfold off_; rw [if_neg (by omega), if_neg (by omega), if_pos (by omega)]; omega)
    · show va_at V.1 vwCl (gM (hG_ b) 3, .inr (6, [.ref (gA (hG_ b) 9 0), .int 0])) H_34
      rw [e6_, g0_ 9 (by decide)]; exact hs_17
    · show va_at V.1 vwCl (gM (hG_ b) 4, .inr (6, [.ref (gA (hG_ b) 10 0), .int 0])) H_34
      rw [e7_, g0_ 10 (by decide)]; exact hs_23)⟩
  refine W.widen (k := 403) (n := 3665) (by omega) (by omega) ?_
  exact zr_v hx hb hr hlocks hS (⟨hz, hfin_⟩) dX7_init_85
