theorem kAcc_wf {A : zA} {wr d mm : Int32} (h : ∀ i, i < 30 → aP A i 1 = 0 ∨ aP A i 1 = 1) : ∀ i, i < 30 → aP (kAcc A wr d mm) i 1 = 0 ∨ aP (kAcc A wr d mm) i 1 = 1 := fun i hi => by
  show kAccP (aF A) (aP A) wr d mm i 1 = 0 ∨ kAccP (aF A) (aP A) wr d mm i 1 = 1
  unfold kAccP
  by_cases hs : mSlip wr d mm
  · rw [if_pos hs]
    rcases hq : kHost (aP A) wr d mm 30 with _ | k
    · rw [kOn_n rfl]
      rcases hq2 : kFree (aP A) 30 with _ | k
      · rw [kOn_n rfl]; exact h i hi
      · rw [kOn_s rfl]
        by_cases e : i = k
        · subst e; rw [zUp_s]; exact Or.inr rfl
        · rw [zUp_n _ _ e]; exact h i hi
    · rw [kOn_s rfl]
      by_cases e : i = k
      · subst e; rw [zUp_s]; exact h i hi
      · rw [zUp_n _ _ e]; exact h i hi
  · rw [if_neg hs]; exact h i hi
theorem kTear_wf {A : zA} {x : Int32} (h : ∀ i, i < 30 → aP A i 1 = 0 ∨ aP A i 1 = 1) : ∀ i, i < 30 → aP (kTear A x) i 1 = 0 ∨ aP (kTear A x) i 1 = 1 := fun i hi => by
  show kTearP (aP A) x i 1 = 0 ∨ kTearP (aP A) x i 1 = 1
  unfold kTearP
  rcases hq : kFind (aP A) x 30 with _ | k
  · rw [kOn_n rfl]; exact h i hi
  · rw [kOn_s rfl]
    by_cases e : i = k
    · subst e; rw [zUp_s]; exact Or.inl rfl
    · rw [zUp_n _ _ e]; exact h i hi
theorem kNx_wf {A : zA} (h : ∀ i, i < 30 → aP A i 1 = 0 ∨ aP A i 1 = 1) : ∀ i, i < 30 → aP (kNx A) i 1 = 0 ∨ aP (kNx A) i 1 = 1 := fun i hi => by
  show kNxP (aF A) (aT A) (aP A) i 1 = 0 ∨ kNxP (aF A) (aT A) (aP A) i 1 = 1
  unfold kNxP
  rcases hq : kSelN (aF A) (aT A) (aP A) with _ | k
  · rw [kOn_n rfl]; exact h i hi
  · rw [kOn_s rfl]
    by_cases e : i = k
    · subst e; rw [zUp_s]; exact Or.inl rfl
    · rw [zUp_n _ _ e]; exact h i hi
set_option maxHeartbeats 4000000 in
set_option maxRecDepth 100000 in
theorem c_X7_settled (l : Launch) (V : zV) (G : Nat → Nat) (Y : Nat → zA) (hp hk : Nat) (f1 f2 : Int32) (n : Nat) (pd : Nat → Int32) (a : Nat) (kd nu mo : Int32) (x : Int32) (hJ : zInj 404 G) (hp7 : hp < 7) (hk6 : hk ≤ 6) : Met l yX7_settled wsX7_settled (zR 2 0 0) (zPc V [.ref (gM G 0), .int x] (fun H => zTP V G Y hp hk f1 f2 n pd a kd nu mo H)) (zQi (fun r H => r = (x) ∧ (zTP V G Y (if 0 ≤ x then (hp + 1) % 7 else hp) (if 0 ≤ x then min (hk + 1) 6 else hk) f1 f2 n pd a kd nu mo H)) (zIn 404 G)) 0 0 (zIn 404 G) := by
  refine Met.ofW (cc := cX7_settled) (maxL := 2) (ret := (some .int)) (by decide) rfl ?_
  intro p e s m args below meth c s₁ B hml hv
  obtain ⟨rfl, hP, hE⟩ := hv
  have hx := B.exec
  have hb := B.bytes
  have hr := B.returns
  have hts := atoms_spec (ws := wsX7_settled) B.pre
  have hown : s.vm.findClass RX7 = some m.cls := findClass_of_methodNamed B.named
  have hlocks := B.notSynchronized
  have hl := lv_entry ([.ref (gM G 0), .int x]) (n := 2) (Nat.le_of_ble_eq_true rfl)
  rw [lg_entry_eq]
  generalize (lg_sl ([.ref (gM G 0), .int x]) ++ List.replicate (2 - (lg_sl ([.ref (gM G 0), .int x])).length) Slot.unset).toArray = ls at hl ⊢
  have hl : lv_has ls 2 [(0, .ref (gM G 0)), (1, .int x)] := hl
  have hT := hP
  have hS : va_S (zIn 404 G) s.heap s.heap [] := va_S.rf
  refine lv_iload_n hx hb dX7_settled_0 rfl (lv_at hl 1 rfl) ?_
  refine lv_if_lt (tgt := 11) hx hb dX7_settled_1 (by decide) (fun c_1 => ?_) (fun c_1 => ?_)
  · refine lv_iload_n hx hb dX7_settled_11 rfl (lv_at hl 1 rfl) ?_
    exact zr_i hx hb hr hlocks hS (⟨rfl, by rw [if_neg (z_lt' c_1), if_neg (z_lt' c_1)]; exact hT⟩) dX7_settled_12
  · refine lv_aload_n hx hb dX7_settled_4 rfl (lv_at hl 0 rfl) ?_
    refine zo_get 2 (.ref (gM G 1)) hx hb hts (fun x h => List.mem_cons_of_mem _ (hU_X7 x h)) hown hE (zT_c hT (c := 0) (by decide)) (show vwCl[7]? = some (RX7, TX7, 7) from rfl) (by decide) rfl (hts _ (List.mem_cons_of_mem _ uC_247)) (fun _ h9 => h9) dX7_settled_5 ?_
    refine zc_v (va_runVN (As := []) (rest := []) ⟨hx, hb, hml, hown, hts⟩ (c_X1_keep l V G Y hp hk f1 f2 n pd a kd nu mo hJ (by omega) (by omega)) ⟨va_cnB 0 hts (zgB_ wsC_all uC_170) rfl rfl rfl (hE.2 (.methodLinkNest RX7 77 yX1_keep "DrawerSlips") (List.mem_of_getElem? (i := 46) rfl)) (hts _ (List.mem_cons_of_mem _ uC_167)) (by decide +kernel) ⟨Nat.le_of_ble_eq_true rfl, Nat.le_of_ble_eq_true rfl⟩, (hts _ (List.mem_cons_of_mem _ uC_264)), (hts _ (List.mem_cons_of_mem _ uC_265))⟩ (zPreV (B := fun H => zTP V G Y hp hk f1 f2 n pd a kd nu mo H) hT hE (zT_rh hE hT)) rfl rfl hl.1 rfl (lv_room (Nat.le_of_ble_eq_true rfl)) dX7_settled_8 ⟨Nat.le_of_ble_eq_true rfl, Nat.le_of_ble_eq_true rfl⟩) hS (fun _ h => h) (fun _ h => h) (fun H locs hQ_ _ _ hS => ?_)
    have hT := hQ_
    refine lv_iload_n hx hb dX7_settled_11 rfl (lv_at hl 1 rfl) ?_
    exact zr_i hx hb hr hlocks hS (⟨rfl, by rw [if_pos (z_nlt c_1), if_pos (z_nlt c_1)]; exact hT⟩) dX7_settled_12
set_option maxHeartbeats 4000000 in
set_option maxRecDepth 100000 in
theorem c_X7_slip (l : Launch) (V : zV) (G : Nat → Nat) (Y : Nat → zA) (hp hk : Nat) (f1 f2 : Int32) (n : Nat) (pd : Nat → Int32) (a : Nat) (kd nu mo : Int32) (wr d mm : Int32) (hJ : zInj 404 G) (hp7 : hp < 7) (hk6 : hk ≤ 6) (hwf : ∀ j, j < 11 → zWfA (Y j)) : Met l yX7_slip wsX7_slip (zR 4 0 0) (zPc V [.ref (gM G 0), .int wr, .int d, .int mm] (fun H => zTP V G Y hp hk f1 f2 n pd a kd nu mo H)) (zQi (fun r H => r = (kAccR (aF (Y 0)) (aP (Y 0)) wr d mm) ∧ (zTP V G (va_up (va_up Y (hp + 2) (Y 0)) 0 (kAcc (Y 0) wr d mm)) (if 0 ≤ kAccR (aF (Y 0)) (aP (Y 0)) wr d mm then (hp + 1) % 7 else hp) (if 0 ≤ kAccR (aF (Y 0)) (aP (Y 0)) wr d mm then min (hk + 1) 6 else hk) f1 f2 n pd a kd nu mo H)) (zIn 404 G)) 0 0 (zIn 404 G) := by
  refine Met.ofW (cc := cX7_slip) (maxL := 4) (ret := (some .int)) (by decide) rfl ?_
  intro p e s m args below meth c s₁ B hml hv
  obtain ⟨rfl, hP, hE⟩ := hv
  have hx := B.exec
  have hb := B.bytes
  have hr := B.returns
  have hts := atoms_spec (ws := wsX7_slip) B.pre
  have hown : s.vm.findClass RX7 = some m.cls := findClass_of_methodNamed B.named
  have hlocks := B.notSynchronized
  have hl := lv_entry ([.ref (gM G 0), .int wr, .int d, .int mm]) (n := 4) (Nat.le_of_ble_eq_true rfl)
  rw [lg_entry_eq]
  generalize (lg_sl ([.ref (gM G 0), .int wr, .int d, .int mm]) ++ List.replicate (4 - (lg_sl ([.ref (gM G 0), .int wr, .int d, .int mm])).length) Slot.unset).toArray = ls at hl ⊢
  have hl : lv_has ls 4 [(0, .ref (gM G 0)), (1, .int wr), (2, .int d), (3, .int mm)] := hl
  have hT := hP
  have hS : va_S (zIn 404 G) s.heap s.heap [] := va_S.rf
  refine lv_aload_n hx hb dX7_slip_0 rfl (lv_at hl 0 rfl) ?_
  refine zo_get 2 (.ref (gM G 1)) hx hb hts (fun x h => List.mem_cons_of_mem _ (hU_X7 x h)) hown hE (zT_c hT (c := 0) (by decide)) (show vwCl[7]? = some (RX7, TX7, 7) from rfl) (by decide) rfl (hts _ (List.mem_cons_of_mem _ uC_247)) (fun _ h9 => h9) dX7_slip_1 ?_
  refine lv_aload_n hx hb dX7_slip_4 rfl (lv_at hl 0 rfl) ?_
  refine zo_get 0 (.ref (gA G 0 0)) hx hb hts (fun x h => List.mem_cons_of_mem _ (hU_X7 x h)) hown hE (zT_c hT (c := 0) (by decide)) (show vwCl[7]? = some (RX7, TX7, 7) from rfl) (by decide) rfl (hts _ (List.mem_cons_of_mem _ uC_243)) (fun _ h9 => h9) dX7_slip_5 ?_
  refine zc_v (va_runVN (As := [.ref (gA G 0 0)]) (rest := []) ⟨hx, hb, hml, hown, hts⟩ (c_X1_prepare l V G Y hp hk f1 f2 n pd a kd nu mo hJ (by omega) hwf) ⟨va_cnB 1 hts (zgB_ wsC_all uC_162) rfl rfl rfl (hE.2 (.methodLinkNest RX7 52 yX1_prepare "DrawerSlips") (List.mem_of_getElem? (i := 38) rfl)) (hts _ (List.mem_cons_of_mem _ uC_167)) (by decide +kernel) ⟨Nat.le_of_ble_eq_true rfl, Nat.le_of_ble_eq_true rfl⟩, (hts _ (List.mem_cons_of_mem _ uC_267)), (hts _ (List.mem_cons_of_mem _ uC_268))⟩ (zPreV (B := fun H => zTP V G Y hp hk f1 f2 n pd a kd nu mo H) hT hE (zT_rh hE hT)) rfl rfl hl.1 rfl (lv_room (Nat.le_of_ble_eq_true rfl)) dX7_slip_8 ⟨Nat.le_of_ble_eq_true rfl, Nat.le_of_ble_eq_true rfl⟩) hS (fun _ h => h) (fun _ h => h) (fun H locs hQ_ _ _ hS => ?_)
  have hT := hQ_
  have hwf := zWf_up (k := (hp + 2)) (A := (Y 0)) hwf (hwf 0 (by omega))
  refine lv_aload_n hx hb dX7_slip_11 rfl (lv_at hl 0 rfl) ?_
  refine lv_aload_n hx hb dX7_slip_12 rfl (lv_at hl 0 rfl) ?_
  refine zo_get 0 (.ref (gA G 0 0)) hx hb hts (fun x h => List.mem_cons_of_mem _ (hU_X7 x h)) hown hE (zT_c hT (c := 0) (by decide)) (show vwCl[7]? = some (RX7, TX7, 7) from rfl) (by decide) rfl (hts _ (List.mem_cons_of_mem _ uC_243)) (fun _ h9 => h9) dX7_slip_13 ?_
  refine lv_iload_n hx hb dX7_slip_16 rfl (lv_at hl 1 rfl) ?_
  refine lv_iload_n hx hb dX7_slip_17 rfl (lv_at hl 2 rfl) ?_
  refine lv_iload_n hx hb dX7_slip_18 rfl (lv_at hl 3 rfl) ?_
  refine zc_i (va_runVN (As := [.int wr, .int d, .int mm]) (rest := [.ref (gM G 0)]) ⟨hx, hb, hml, hown, hts⟩ (c_X0_accept l V (gA G 0) (aF (Y 0)) (aT (Y 0)) (nI (aS (Y 0))) (aU (Y 0)) (aV (Y 0)) (aX (Y 0)) (aP (Y 0)) wr d mm (zT_JA hJ (by omega))) ⟨va_cnB 3 hts (zgB_ wsC_all uC_68) rfl rfl rfl (hE.2 (.methodLinkNest RX7 64 yX0_accept "DrawerSlips") (List.mem_of_getElem? (i := 47) rfl)) (hts _ (List.mem_cons_of_mem _ uC_73)) (by decide +kernel) ⟨Nat.le_of_ble_eq_true rfl, Nat.le_of_ble_eq_true rfl⟩, (hts _ (List.mem_cons_of_mem _ uC_275)), (hts _ (List.mem_cons_of_mem _ uC_276))⟩ (zPreV (B := fun H => va_P V.1 vwCl (zaW V (gA G 0) (aF (Y 0)) (aT (Y 0)) (nI (aS (Y 0))) (aU (Y 0)) (aV (Y 0)) (aX (Y 0)) (aP (Y 0))) H) (hT.1 0 (by omega)) hE (zT_ra hE hT (by omega))) rfl rfl hl.1 rfl (lv_room (Nat.le_of_ble_eq_true rfl)) dX7_slip_19 ⟨Nat.le_of_ble_eq_true rfl, Nat.le_of_ble_eq_true rfl⟩) hS (fun q h => zT_iA (by omega) h) (fun q h => zT_iA (by omega) h) (fun r_ H locs hQ_ _ hk_ hS => ?_)
  obtain ⟨hr_, hQ_⟩ := hQ_
  subst hr_
  have hT := zT_arch (j := 0) (A' := kAcc (Y 0) wr d mm) hT hJ (by omega) hk_ hQ_
  have hwf := zWf_up (k := 0) (A := kAcc (Y 0) wr d mm) hwf (kAcc_wf (hwf 0 (by omega)))
  refine zc_i (va_runV (As := [.int (kAccR (aF (Y 0)) (aP (Y 0)) wr d mm)]) (rest := []) ⟨hx, hb, hml, hown, hts⟩ (c_X7_settled l V G (va_up (va_up Y (hp + 2) (Y 0)) 0 (kAcc (Y 0) wr d mm)) hp hk f1 f2 n pd a kd nu mo (kAccR (aF (Y 0)) (aP (Y 0)) wr d mm) hJ (by omega) (by omega)) (cwV 1 hts (zgV_ wsC_all uC_263 uC_271 uC_272 uC_273 uC_25) rfl rfl rfl (by decide +kernel) ⟨Nat.le_of_ble_eq_true rfl, Nat.le_of_ble_eq_true rfl⟩) (zPreV (B := fun H => zTP V G (va_up (va_up Y (hp + 2) (Y 0)) 0 (kAcc (Y 0) wr d mm)) hp hk f1 f2 n pd a kd nu mo H) hT hE (zT_rt hE hT)) rfl rfl hl.1 rfl (lv_room (Nat.le_of_ble_eq_true rfl)) dX7_slip_22 ⟨Nat.le_of_ble_eq_true rfl, Nat.le_of_ble_eq_true rfl⟩) hS (fun _ h => h) (fun _ h => h) (fun r_ H locs hQ_ _ _ hS => ?_)
  obtain ⟨hr_, hT⟩ := hQ_
  subst hr_
  exact zr_i hx hb hr hlocks hS (⟨rfl, hT⟩) dX7_slip_25
set_option maxHeartbeats 4000000 in
set_option maxRecDepth 100000 in
theorem c_X7_tear (l : Launch) (V : zV) (G : Nat → Nat) (Y : Nat → zA) (hp hk : Nat) (f1 f2 : Int32) (n : Nat) (pd : Nat → Int32) (a : Nat) (kd nu mo : Int32) (x : Int32) (hJ : zInj 404 G) (hp7 : hp < 7) (hk6 : hk ≤ 6) (hwf : ∀ j, j < 11 → zWfA (Y j)) : Met l yX7_tear wsX7_tear (zR 4 0 0) (zPc V [.ref (gM G 0), .int x] (fun H => zTP V G Y hp hk f1 f2 n pd a kd nu mo H)) (zQi (fun r H => r = (kTearR (aF (Y 0)) (aP (Y 0)) x) ∧ (zTP V G (va_up (va_up Y (hp + 2) (Y 0)) 0 (kTear (Y 0) x)) (if 0 ≤ kTearR (aF (Y 0)) (aP (Y 0)) x then (hp + 1) % 7 else hp) (if 0 ≤ kTearR (aF (Y 0)) (aP (Y 0)) x then min (hk + 1) 6 else hk) f1 f2 n pd a kd nu mo H)) (zIn 404 G)) 0 0 (zIn 404 G) := by
  refine Met.ofW (cc := cX7_tear) (maxL := 2) (ret := (some .int)) (by decide) rfl ?_
  intro p e s m args below meth c s₁ B hml hv
  obtain ⟨rfl, hP, hE⟩ := hv
  have hx := B.exec
  have hb := B.bytes
  have hr := B.returns
  have hts := atoms_spec (ws := wsX7_tear) B.pre
  have hown : s.vm.findClass RX7 = some m.cls := findClass_of_methodNamed B.named
  have hlocks := B.notSynchronized
  have hl := lv_entry ([.ref (gM G 0), .int x]) (n := 2) (Nat.le_of_ble_eq_true rfl)
  rw [lg_entry_eq]
  generalize (lg_sl ([.ref (gM G 0), .int x]) ++ List.replicate (2 - (lg_sl ([.ref (gM G 0), .int x])).length) Slot.unset).toArray = ls at hl ⊢
  have hl : lv_has ls 2 [(0, .ref (gM G 0)), (1, .int x)] := hl
  have hT := hP
  have hS : va_S (zIn 404 G) s.heap s.heap [] := va_S.rf
  refine lv_aload_n hx hb dX7_tear_0 rfl (lv_at hl 0 rfl) ?_
  refine zo_get 2 (.ref (gM G 1)) hx hb hts (fun x h => List.mem_cons_of_mem _ (hU_X7 x h)) hown hE (zT_c hT (c := 0) (by decide)) (show vwCl[7]? = some (RX7, TX7, 7) from rfl) (by decide) rfl (hts _ (List.mem_cons_of_mem _ uC_247)) (fun _ h9 => h9) dX7_tear_1 ?_
  refine lv_aload_n hx hb dX7_tear_4 rfl (lv_at hl 0 rfl) ?_
  refine zo_get 0 (.ref (gA G 0 0)) hx hb hts (fun x h => List.mem_cons_of_mem _ (hU_X7 x h)) hown hE (zT_c hT (c := 0) (by decide)) (show vwCl[7]? = some (RX7, TX7, 7) from rfl) (by decide) rfl (hts _ (List.mem_cons_of_mem _ uC_243)) (fun _ h9 => h9) dX7_tear_5 ?_
  refine zc_v (va_runVN (As := [.ref (gA G 0 0)]) (rest := []) ⟨hx, hb, hml, hown, hts⟩ (c_X1_prepare l V G Y hp hk f1 f2 n pd a kd nu mo hJ (by omega) hwf) ⟨va_cnB 1 hts (zgB_ wsC_all uC_162) rfl rfl rfl (hE.2 (.methodLinkNest RX7 52 yX1_prepare "DrawerSlips") (List.mem_of_getElem? (i := 38) rfl)) (hts _ (List.mem_cons_of_mem _ uC_167)) (by decide +kernel) ⟨Nat.le_of_ble_eq_true rfl, Nat.le_of_ble_eq_true rfl⟩, (hts _ (List.mem_cons_of_mem _ uC_267)), (hts _ (List.mem_cons_of_mem _ uC_268))⟩ (zPreV (B := fun H => zTP V G Y hp hk f1 f2 n pd a kd nu mo H) hT hE (zT_rh hE hT)) rfl rfl hl.1 rfl (lv_room (Nat.le_of_ble_eq_true rfl)) dX7_tear_8 ⟨Nat.le_of_ble_eq_true rfl, Nat.le_of_ble_eq_true rfl⟩) hS (fun _ h => h) (fun _ h => h) (fun H locs hQ_ _ _ hS => ?_)
  have hT := hQ_
  have hwf := zWf_up (k := (hp + 2)) (A := (Y 0)) hwf (hwf 0 (by omega))
  refine lv_aload_n hx hb dX7_tear_11 rfl (lv_at hl 0 rfl) ?_
  refine lv_aload_n hx hb dX7_tear_12 rfl (lv_at hl 0 rfl) ?_
  refine zo_get 0 (.ref (gA G 0 0)) hx hb hts (fun x h => List.mem_cons_of_mem _ (hU_X7 x h)) hown hE (zT_c hT (c := 0) (by decide)) (show vwCl[7]? = some (RX7, TX7, 7) from rfl) (by decide) rfl (hts _ (List.mem_cons_of_mem _ uC_243)) (fun _ h9 => h9) dX7_tear_13 ?_
  refine lv_iload_n hx hb dX7_tear_16 rfl (lv_at hl 1 rfl) ?_
  refine zc_i (va_runVN (As := [.int x]) (rest := [.ref (gM G 0)]) ⟨hx, hb, hml, hown, hts⟩ (c_X0_tearUp l V (gA G 0) (aF (Y 0)) (aT (Y 0)) (nI (aS (Y 0))) (aU (Y 0)) (aV (Y 0)) (aX (Y 0)) (aP (Y 0)) x (zT_JA hJ (by omega))) ⟨va_cnB 1 hts (zgB_ wsC_all uC_83) rfl rfl rfl (hE.2 (.methodLinkNest RX7 68 yX0_tearUp "DrawerSlips") (List.mem_of_getElem? (i := 51) rfl)) (hts _ (List.mem_cons_of_mem _ uC_73)) (by decide +kernel) ⟨Nat.le_of_ble_eq_true rfl, Nat.le_of_ble_eq_true rfl⟩, (hts _ (List.mem_cons_of_mem _ uC_278)), (hts _ (List.mem_cons_of_mem _ uC_279))⟩ (zPreV (B := fun H => va_P V.1 vwCl (zaW V (gA G 0) (aF (Y 0)) (aT (Y 0)) (nI (aS (Y 0))) (aU (Y 0)) (aV (Y 0)) (aX (Y 0)) (aP (Y 0))) H) (hT.1 0 (by omega)) hE (zT_ra hE hT (by omega))) rfl rfl hl.1 rfl (lv_room (Nat.le_of_ble_eq_true rfl)) dX7_tear_17 ⟨Nat.le_of_ble_eq_true rfl, Nat.le_of_ble_eq_true rfl⟩) hS (fun q h => zT_iA (by omega) h) (fun q h => zT_iA (by omega) h) (fun r_ H locs hQ_ _ hk_ hS => ?_)
  obtain ⟨hr_, hQ_⟩ := hQ_
  subst hr_
  have hT := zT_arch (j := 0) (A' := kTear (Y 0) x) hT hJ (by omega) hk_ hQ_
  have hwf := zWf_up (k := 0) (A := kTear (Y 0) x) hwf (kTear_wf (hwf 0 (by omega)))
  refine zc_i (va_runV (As := [.int (kTearR (aF (Y 0)) (aP (Y 0)) x)]) (rest := []) ⟨hx, hb, hml, hown, hts⟩ (c_X7_settled l V G (va_up (va_up Y (hp + 2) (Y 0)) 0 (kTear (Y 0) x)) hp hk f1 f2 n pd a kd nu mo (kTearR (aF (Y 0)) (aP (Y 0)) x) hJ (by omega) (by omega)) (cwV 1 hts (zgV_ wsC_all uC_263 uC_271 uC_272 uC_273 uC_25) rfl rfl rfl (by decide +kernel) ⟨Nat.le_of_ble_eq_true rfl, Nat.le_of_ble_eq_true rfl⟩) (zPreV (B := fun H => zTP V G (va_up (va_up Y (hp + 2) (Y 0)) 0 (kTear (Y 0) x)) hp hk f1 f2 n pd a kd nu mo H) hT hE (zT_rt hE hT)) rfl rfl hl.1 rfl (lv_room (Nat.le_of_ble_eq_true rfl)) dX7_tear_20 ⟨Nat.le_of_ble_eq_true rfl, Nat.le_of_ble_eq_true rfl⟩) hS (fun _ h => h) (fun _ h => h) (fun r_ H locs hQ_ _ _ hS => ?_)
  obtain ⟨hr_, hT⟩ := hQ_
  subst hr_
  exact zr_i hx hb hr hlocks hS (⟨rfl, hT⟩) dX7_tear_23
set_option maxHeartbeats 4000000 in
set_option maxRecDepth 100000 in
theorem c_X7_pass (l : Launch) (V : zV) (G : Nat → Nat) (Y : Nat → zA) (hp hk : Nat) (f1 f2 : Int32) (n : Nat) (pd : Nat → Int32) (a : Nat) (kd nu mo : Int32) (mi : Int32) (hJ : zInj 404 G) (hp7 : hp < 7) (hk6 : hk ≤ 6) (hwf : ∀ j, j < 11 → zWfA (Y j)) : Met l yX7_pass wsX7_pass (zR 4 0 0) (zPc V [.ref (gM G 0), .int mi] (fun H => zTP V G Y hp hk f1 f2 n pd a kd nu mo H)) (zQi (fun r H => r = (kStandR (aF (Y 0)) mi) ∧ (zTP V G (va_up (va_up Y (hp + 2) (Y 0)) 0 (kStand (Y 0) mi)) (if 0 ≤ kStandR (aF (Y 0)) mi then (hp + 1) % 7 else hp) (if 0 ≤ kStandR (aF (Y 0)) mi then min (hk + 1) 6 else hk) f1 f2 n pd a kd nu mo H)) (zIn 404 G)) 0 0 (zIn 404 G) := by
  refine Met.ofW (cc := cX7_pass) (maxL := 2) (ret := (some .int)) (by decide) rfl ?_
  intro p e s m args below meth c s₁ B hml hv
  obtain ⟨rfl, hP, hE⟩ := hv
  have hx := B.exec
  have hb := B.bytes
  have hr := B.returns
  have hts := atoms_spec (ws := wsX7_pass) B.pre
  have hown : s.vm.findClass RX7 = some m.cls := findClass_of_methodNamed B.named
  have hlocks := B.notSynchronized
  have hl := lv_entry ([.ref (gM G 0), .int mi]) (n := 2) (Nat.le_of_ble_eq_true rfl)
  rw [lg_entry_eq]
  generalize (lg_sl ([.ref (gM G 0), .int mi]) ++ List.replicate (2 - (lg_sl ([.ref (gM G 0), .int mi])).length) Slot.unset).toArray = ls at hl ⊢
  have hl : lv_has ls 2 [(0, .ref (gM G 0)), (1, .int mi)] := hl
  have hT := hP
  have hS : va_S (zIn 404 G) s.heap s.heap [] := va_S.rf
  refine lv_aload_n hx hb dX7_pass_0 rfl (lv_at hl 0 rfl) ?_
  refine zo_get 2 (.ref (gM G 1)) hx hb hts (fun x h => List.mem_cons_of_mem _ (hU_X7 x h)) hown hE (zT_c hT (c := 0) (by decide)) (show vwCl[7]? = some (RX7, TX7, 7) from rfl) (by decide) rfl (hts _ (List.mem_cons_of_mem _ uC_247)) (fun _ h9 => h9) dX7_pass_1 ?_
  refine lv_aload_n hx hb dX7_pass_4 rfl (lv_at hl 0 rfl) ?_
  refine zo_get 0 (.ref (gA G 0 0)) hx hb hts (fun x h => List.mem_cons_of_mem _ (hU_X7 x h)) hown hE (zT_c hT (c := 0) (by decide)) (show vwCl[7]? = some (RX7, TX7, 7) from rfl) (by decide) rfl (hts _ (List.mem_cons_of_mem _ uC_243)) (fun _ h9 => h9) dX7_pass_5 ?_
  refine zc_v (va_runVN (As := [.ref (gA G 0 0)]) (rest := []) ⟨hx, hb, hml, hown, hts⟩ (c_X1_prepare l V G Y hp hk f1 f2 n pd a kd nu mo hJ (by omega) hwf) ⟨va_cnB 1 hts (zgB_ wsC_all uC_162) rfl rfl rfl (hE.2 (.methodLinkNest RX7 52 yX1_prepare "DrawerSlips") (List.mem_of_getElem? (i := 38) rfl)) (hts _ (List.mem_cons_of_mem _ uC_167)) (by decide +kernel) ⟨Nat.le_of_ble_eq_true rfl, Nat.le_of_ble_eq_true rfl⟩, (hts _ (List.mem_cons_of_mem _ uC_267)), (hts _ (List.mem_cons_of_mem _ uC_268))⟩ (zPreV (B := fun H => zTP V G Y hp hk f1 f2 n pd a kd nu mo H) hT hE (zT_rh hE hT)) rfl rfl hl.1 rfl (lv_room (Nat.le_of_ble_eq_true rfl)) dX7_pass_8 ⟨Nat.le_of_ble_eq_true rfl, Nat.le_of_ble_eq_true rfl⟩) hS (fun _ h => h) (fun _ h => h) (fun H locs hQ_ _ _ hS => ?_)
  have hT := hQ_
  have hwf := zWf_up (k := (hp + 2)) (A := (Y 0)) hwf (hwf 0 (by omega))
  refine lv_aload_n hx hb dX7_pass_11 rfl (lv_at hl 0 rfl) ?_
  refine lv_aload_n hx hb dX7_pass_12 rfl (lv_at hl 0 rfl) ?_
  refine zo_get 0 (.ref (gA G 0 0)) hx hb hts (fun x h => List.mem_cons_of_mem _ (hU_X7 x h)) hown hE (zT_c hT (c := 0) (by decide)) (show vwCl[7]? = some (RX7, TX7, 7) from rfl) (by decide) rfl (hts _ (List.mem_cons_of_mem _ uC_243)) (fun _ h9 => h9) dX7_pass_13 ?_
  refine lv_iload_n hx hb dX7_pass_16 rfl (lv_at hl 1 rfl) ?_
  refine zc_i (va_runVN (As := [.int mi]) (rest := [.ref (gM G 0)]) ⟨hx, hb, hml, hown, hts⟩ (c_X0_stand l V (gA G 0) (aF (Y 0)) (aT (Y 0)) (nI (aS (Y 0))) (aU (Y 0)) (aV (Y 0)) (aX (Y 0)) (aP (Y 0)) mi (zT_JA hJ (by omega))) ⟨va_cnB 1 hts (zgB_ wsC_all uC_93) rfl rfl rfl (hE.2 (.methodLinkNest RX7 74 yX0_stand "DrawerSlips") (List.mem_of_getElem? (i := 58) rfl)) (hts _ (List.mem_cons_of_mem _ uC_73)) (by decide +kernel) ⟨Nat.le_of_ble_eq_true rfl, Nat.le_of_ble_eq_true rfl⟩, (hts _ (List.mem_cons_of_mem _ uC_292)), (hts _ (List.mem_cons_of_mem _ uC_293))⟩ (zPreV (B := fun H => va_P V.1 vwCl (zaW V (gA G 0) (aF (Y 0)) (aT (Y 0)) (nI (aS (Y 0))) (aU (Y 0)) (aV (Y 0)) (aX (Y 0)) (aP (Y 0))) H) (hT.1 0 (by omega)) hE (zT_ra hE hT (by omega))) rfl rfl hl.1 rfl (lv_room (Nat.le_of_ble_eq_true rfl)) dX7_pass_17 ⟨Nat.le_of_ble_eq_true rfl, Nat.le_of_ble_eq_true rfl⟩) hS (fun q h => zT_iA (by omega) h) (fun q h => zT_iA (by omega) h) (fun r_ H locs hQ_ _ hk_ hS => ?_)
  obtain ⟨hr_, hQ_⟩ := hQ_
  subst hr_
  have hT := zT_arch (j := 0) (A' := kStand (Y 0) mi) hT hJ (by omega) hk_ hQ_
  have hwf := zWf_up (k := 0) (A := kStand (Y 0) mi) hwf ((hwf 0 (by omega)))
  refine zc_i (va_runV (As := [.int (kStandR (aF (Y 0)) mi)]) (rest := []) ⟨hx, hb, hml, hown, hts⟩ (c_X7_settled l V G (va_up (va_up Y (hp + 2) (Y 0)) 0 (kStand (Y 0) mi)) hp hk f1 f2 n pd a kd nu mo (kStandR (aF (Y 0)) mi) hJ (by omega) (by omega)) (cwV 1 hts (zgV_ wsC_all uC_263 uC_271 uC_272 uC_273 uC_25) rfl rfl rfl (by decide +kernel) ⟨Nat.le_of_ble_eq_true rfl, Nat.le_of_ble_eq_true rfl⟩) (zPreV (B := fun H => zTP V G (va_up (va_up Y (hp + 2) (Y 0)) 0 (kStand (Y 0) mi)) hp hk f1 f2 n pd a kd nu mo H) hT hE (zT_rt hE hT)) rfl rfl hl.1 rfl (lv_room (Nat.le_of_ble_eq_true rfl)) dX7_pass_20 ⟨Nat.le_of_ble_eq_true rfl, Nat.le_of_ble_eq_true rfl⟩) hS (fun _ h => h) (fun _ h => h) (fun r_ H locs hQ_ _ _ hS => ?_)
  obtain ⟨hr_, hT⟩ := hQ_
  subst hr_
  exact zr_i hx hb hr hlocks hS (⟨rfl, hT⟩) dX7_pass_23
