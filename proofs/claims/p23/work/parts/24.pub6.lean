def adY (Y : Nat → zA) (hp : Nat) (x v : Int32) : Nat → zA := va_up (va_up Y (hp + 2) (Y 0)) 0 (kAdj (Y 0) x v)
set_option maxHeartbeats 4000000 in
set_option maxRecDepth 100000 in
theorem c_X7_set (l : Launch) (V : zV) (G : Nat → Nat) (Y : Nat → zA) (hp hk : Nat) (f1 f2 : Int32) (n : Nat) (pd : Nat → Int32) (a : Nat) (kd nu mo : Int32) (x v_ : Int32) (hJ : zInj 404 G) (hp7 : hp < 7) (hk6 : hk ≤ 6) (hwf : ∀ j, j < 11 → zWfA (Y j)) : Met l yX7_set wsX7_set (zR 4 0 0) (zPs V [.ref (gM G 0), .int x, .int v_] (fun U => zTP V G Y hp hk f1 f2 n pd a kd nu mo U.heap ∧ zST (zIn 404 G) U U.heap)) (zQi (fun r H => r = (kAdjR (aT (Y 0)) x v_) ∧ (zTP V G (adY Y hp x v_) (if 0 ≤ kAdjR (aT (Y 0)) x v_ then (hp + 1) % 7 else hp) (if 0 ≤ kAdjR (aT (Y 0)) x v_ then min (hk + 1) 6 else hk) f1 f2 n pd a kd nu mo H)) (zIn 404 G)) 0 0 (zIn 404 G) := by
  refine Met.ofW (cc := cX7_set) (maxL := 3) (ret := (some .int)) (by decide) rfl ?_
  intro p e s m args below meth c s₁ B hml hv
  obtain ⟨rfl, hP, hE⟩ := hv
  have hx := B.exec
  have hb := B.bytes
  have hr := B.returns
  have hts := atoms_spec (ws := wsX7_set) B.pre
  have hown : s.vm.findClass RX7 = some m.cls := findClass_of_methodNamed B.named
  have hlocks := B.notSynchronized
  have hl := lv_entry ([.ref (gM G 0), .int x, .int v_]) (n := 3) (Nat.le_of_ble_eq_true rfl)
  rw [lg_entry_eq]
  generalize (lg_sl ([.ref (gM G 0), .int x, .int v_]) ++ List.replicate (3 - (lg_sl ([.ref (gM G 0), .int x, .int v_])).length) Slot.unset).toArray = ls at hl ⊢
  have hl : lv_has ls 3 [(0, .ref (gM G 0)), (1, .int x), (2, .int v_)] := hl
  obtain ⟨hT, hX0_⟩ := hP
  have hS : va_S (zIn 404 G) s.heap s.heap [] := va_S.rf
  refine lv_aload_n hx hb dX7_set_0 rfl (lv_at hl 0 rfl) ?_
  refine zo_get 2 (.ref (gM G 1)) hx hb hts (fun x h => List.mem_cons_of_mem _ (hU_X7 x h)) hown hE (zT_c hT (c := 0) (by decide)) (show vwCl[7]? = some (RX7, TX7, 7) from rfl) (by decide) rfl (hts _ (List.mem_cons_of_mem _ uC_247)) (fun _ h9 => h9) dX7_set_1 ?_
  refine lv_aload_n hx hb dX7_set_4 rfl (lv_at hl 0 rfl) ?_
  refine zo_get 0 (.ref (gA G 0 0)) hx hb hts (fun x h => List.mem_cons_of_mem _ (hU_X7 x h)) hown hE (zT_c hT (c := 0) (by decide)) (show vwCl[7]? = some (RX7, TX7, 7) from rfl) (by decide) rfl (hts _ (List.mem_cons_of_mem _ uC_243)) (fun _ h9 => h9) dX7_set_5 ?_
  refine zc_v (va_runVN (As := [.ref (gA G 0 0)]) (rest := []) ⟨hx, hb, hml, hown, hts⟩ (c_X1_prepare l V G Y hp hk f1 f2 n pd a kd nu mo hJ (by omega) hwf) ⟨va_cnB 1 hts (zgB_ wsC_all uC_162) rfl rfl rfl (hE.2 (.methodLinkNest RX7 52 yX1_prepare "DrawerSlips") (List.mem_of_getElem? (i := 38) rfl)) (hts _ (List.mem_cons_of_mem _ uC_167)) (by decide +kernel) ⟨Nat.le_of_ble_eq_true rfl, Nat.le_of_ble_eq_true rfl⟩, (hts _ (List.mem_cons_of_mem _ uC_267)), (hts _ (List.mem_cons_of_mem _ uC_268))⟩ (zPreV (B := fun H => zTP V G Y hp hk f1 f2 n pd a kd nu mo H) hT hE (zT_rh hE hT)) rfl rfl hl.1 rfl (lv_room (Nat.le_of_ble_eq_true rfl)) dX7_set_8 ⟨Nat.le_of_ble_eq_true rfl, Nat.le_of_ble_eq_true rfl⟩) hS (fun _ h => h) (fun _ h => h) (fun H locs hQ_ _ _ hS => ?_)
  have hT := hQ_
  have hwf := zWf_up (k := (hp + 2)) (A := (Y 0)) hwf (hwf 0 (by omega))
  have hX : zST (zIn 36 (gA G 0)) s H := (hX0_.kept (fun a h1 h2 => hS.2.1 a h1 h2)).narrow (fun q h => zT_iA (by omega) h)
  refine lv_aload_n hx hb dX7_set_11 rfl (lv_at hl 0 rfl) ?_
  refine lv_aload_n hx hb dX7_set_12 rfl (lv_at hl 0 rfl) ?_
  refine zo_get 0 (.ref (gA G 0 0)) hx hb hts (fun x h => List.mem_cons_of_mem _ (hU_X7 x h)) hown hE (zT_c hT (c := 0) (by decide)) (show vwCl[7]? = some (RX7, TX7, 7) from rfl) (by decide) rfl (hts _ (List.mem_cons_of_mem _ uC_243)) (fun _ h9 => h9) dX7_set_13 ?_
  refine lv_iload_n hx hb dX7_set_16 rfl (lv_at hl 1 rfl) ?_
  refine lv_iload_n hx hb dX7_set_17 rfl (lv_at hl 2 rfl) ?_
  refine zc_i (va_runVN (As := [.int x, .int v_]) (rest := [.ref (gM G 0)]) ⟨hx, hb, hml, hown, hts⟩ (c_X0_adjust l V (gA G 0) (aF (Y 0)) (aT (Y 0)) (nI (aS (Y 0))) (aU (Y 0)) (aV (Y 0)) (aX (Y 0)) (aP (Y 0)) x v_ (zT_JA hJ (by omega))) ⟨va_cnB 2 hts (zgB_ wsC_all uC_55) rfl rfl rfl (hE.2 (.methodLinkNest RX7 56 yX0_adjust "DrawerSlips") (List.mem_of_getElem? (i := 43) rfl)) (hts _ (List.mem_cons_of_mem _ uC_73)) (by decide +kernel) ⟨Nat.le_of_ble_eq_true rfl, Nat.le_of_ble_eq_true rfl⟩, (hts _ (List.mem_cons_of_mem _ uC_269)), (hts _ (List.mem_cons_of_mem _ uC_270))⟩ (zPsV (B := fun U => va_P V.1 vwCl (zaW V (gA G 0) (aF (Y 0)) (aT (Y 0)) (nI (aS (Y 0))) (aU (Y 0)) (aV (Y 0)) (aX (Y 0)) (aP (Y 0))) U.heap ∧ zST (zIn 36 (gA G 0)) U U.heap) (fun _ _ _ _ h => ⟨h.1, zST.calling h.2⟩) (fun U hU hvm => by rw [hU]; exact ⟨(hT.1 0 (by omega)), (hX.moved hvm)⟩) hE (zT_ra hE hT (by omega))) rfl rfl hl.1 rfl (lv_room (Nat.le_of_ble_eq_true rfl)) dX7_set_18 ⟨Nat.le_of_ble_eq_true rfl, Nat.le_of_ble_eq_true rfl⟩) hS (fun q h => zT_iA (by omega) h) (fun q h => zT_iA (by omega) h) (fun r_ H locs hQ_ _ hk_ hS => ?_)
  obtain ⟨hr_, hQ_⟩ := hQ_
  subst hr_
  have hT := zT_arch (j := 0) (A' := kAdj (Y 0) x v_) hT hJ (by omega) hk_ hQ_
  have hwf := zWf_up (k := 0) (A := kAdj (Y 0) x v_) hwf ((hwf 0 (by omega)))
  refine zc_i (va_runV (As := [.int (kAdjR (aT (Y 0)) x v_)]) (rest := []) ⟨hx, hb, hml, hown, hts⟩ (c_X7_settled l V G (va_up (va_up Y (hp + 2) (Y 0)) 0 (kAdj (Y 0) x v_)) hp hk f1 f2 n pd a kd nu mo (kAdjR (aT (Y 0)) x v_) hJ (by omega) (by omega)) (cwV 1 hts (zgV_ wsC_all uC_263 uC_271 uC_272 uC_273 uC_25) rfl rfl rfl (by decide +kernel) ⟨Nat.le_of_ble_eq_true rfl, Nat.le_of_ble_eq_true rfl⟩) (zPreV (B := fun H => zTP V G (va_up (va_up Y (hp + 2) (Y 0)) 0 (kAdj (Y 0) x v_)) hp hk f1 f2 n pd a kd nu mo H) hT hE (zT_rt hE hT)) rfl rfl hl.1 rfl (lv_room (Nat.le_of_ble_eq_true rfl)) dX7_set_21 ⟨Nat.le_of_ble_eq_true rfl, Nat.le_of_ble_eq_true rfl⟩) hS (fun _ h => h) (fun _ h => h) (fun r_ H locs hQ_ _ _ hS => ?_)
  obtain ⟨hr_, hT⟩ := hQ_
  subst hr_
  exact zr_i hx hb hr hlocks hS (⟨rfl, hT⟩) dX7_set_24
