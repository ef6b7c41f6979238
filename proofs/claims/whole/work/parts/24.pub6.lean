def qSl (G : Nat → Nat) (sl : Int32) : Option Nat := if sl = 0 then some (gM G 3) else if sl = 1 then some (gM G 4) else none
def svR (A : zA) (sl : Int32) : Int32 := if sl = 0 then aF A 3 + aF A 4 else if sl = 1 then aF A 3 + aF A 4 else -2
def svY (Y : Nat → zA) (sl : Int32) : Nat → zA := if sl = 0 then va_up Y 9 (Y 0) else if sl = 1 then va_up Y 10 (Y 0) else Y
def svA (f : Int32) (sl : Int32) : Int32 := if sl = 0 then 1 else if sl = 1 then f else f
def svB (f : Int32) (sl : Int32) : Int32 := if sl = 0 then f else if sl = 1 then 1 else f
def rsQ (A : zA) (f : Int32) : Int32 := if f = 0 then -5 else aF A 3 + aF A 4
def rsR (Y : Nat → zA) (f1 f2 sl : Int32) : Int32 := if sl = 0 then rsQ (Y 9) f1 else if sl = 1 then rsQ (Y 10) f2 else -2
def rsP (Y : Nat → zA) (hp : Nat) (A : zA) (f : Int32) : Nat → zA := if f = 0 then Y else va_up (va_up Y (hp + 2) (Y 0)) 0 A
def rsY (Y : Nat → zA) (hp : Nat) (f1 f2 sl : Int32) : Nat → zA := if sl = 0 then rsP Y hp (Y 9) f1 else if sl = 1 then rsP Y hp (Y 10) f2 else Y
def adY (Y : Nat → zA) (hp : Nat) (x v : Int32) : Nat → zA := va_up (va_up Y (hp + 2) (Y 0)) 0 (kAdj (Y 0) x v)
set_option maxHeartbeats 4000000 in
set_option maxRecDepth 100000 in
theorem c_X7_slotAt (l : Launch) (V : zV) (G : Nat → Nat) (Y : Nat → zA) (hp hk : Nat) (f1 f2 : Int32) (n : Nat) (pd : Nat → Int32) (a : Nat) (kd nu mo : Int32) (sl : Int32) (hJ : zInj 404 G) : Met l yX7_slotAt wsX7_slotAt (zR 0 0 0) (zPc V [.ref (gM G 0), .int sl] (fun H => zTP V G Y hp hk f1 f2 n pd a kd nu mo H)) (va_Sq (fun r => r = qSl G sl)) 0 0 (fun _ => False) := by
  refine Met.ofW (cc := cX7_slotAt) (maxL := 2) (ret := (some (.object "DrawerSlips$Slot"))) (by decide) rfl ?_
  intro p e s m args below meth c s₁ B hml hv
  obtain ⟨rfl, hP, hE⟩ := hv
  have hx := B.exec
  have hb := B.bytes
  have hr := B.returns
  have hts := atoms_spec (ws := wsX7_slotAt) B.pre
  have hown : s.vm.findClass RX7 = some m.cls := findClass_of_methodNamed B.named
  have hlocks := B.notSynchronized
  have hl := lv_entry ([.ref (gM G 0), .int sl]) (n := 2) (Nat.le_of_ble_eq_true rfl)
  rw [lg_entry_eq]
  generalize (lg_sl ([.ref (gM G 0), .int sl]) ++ List.replicate (2 - (lg_sl ([.ref (gM G 0), .int sl])).length) Slot.unset).toArray = ls at hl ⊢
  have hl : lv_has ls 2 [(0, .ref (gM G 0)), (1, .int sl)] := hl
  have hT := hP
  refine lv_iload_n hx hb dX7_slotAt_0 rfl (lv_at hl 1 rfl) ?_
  by_cases hn0_ : sl = 0
  · have hc_ : sl = 0 := hn0_
    refine lv_lookup (off := 27) (tgt := 28) hx hb dX7_slotAt_1 (by decide) (by rw [hc_]; rfl) (by decide) ?_
    refine lv_aload_n hx hb dX7_slotAt_28 rfl (lv_at hl 0 rfl) ?_
    refine zo_get 3 (.ref (gM G 3)) hx hb hts (fun x h => List.mem_cons_of_mem _ (hU_X7 x h)) hown hE (zT_c hT (c := 0) (by decide)) (show vwCl[7]? = some (RX7, TX7, 7) from rfl) (by decide) rfl (hts _ (List.mem_cons_of_mem _ uC_251)) (fun _ h9 => h9) dX7_slotAt_29 ?_
    exact zr_sq (r := some (gM G 3)) hx hb hr hlocks ((show qSl G sl = some (gM G 3) from (if_pos hc_)).symm) dX7_slotAt_32
  · by_cases hn1_ : sl = 1
    · have hc_ : sl = 1 := hn1_
      refine lv_lookup (off := 32) (tgt := 33) hx hb dX7_slotAt_1 (by decide) (by rw [hc_]; rfl) (by decide) ?_
      refine lv_aload_n hx hb dX7_slotAt_33 rfl (lv_at hl 0 rfl) ?_
      refine zo_get 4 (.ref (gM G 4)) hx hb hts (fun x h => List.mem_cons_of_mem _ (hU_X7 x h)) hown hE (zT_c hT (c := 0) (by decide)) (show vwCl[7]? = some (RX7, TX7, 7) from rfl) (by decide) rfl (hts _ (List.mem_cons_of_mem _ uC_252)) (fun _ h9 => h9) dX7_slotAt_34 ?_
      exact zr_sq (r := some (gM G 4)) hx hb hr hlocks ((show qSl G sl = some (gM G 4) from ((if_neg hn0_).trans (if_pos hc_))).symm) dX7_slotAt_37
    · refine lv_lookup (off := 37) (tgt := 38) hx hb dX7_slotAt_1 (by decide) ((lv_osw hn0_ rfl).trans ((lv_osw hn1_ rfl).trans (rfl))) (by decide) ?_
      refine lv_null hx hb dX7_slotAt_38 ?_
      exact zr_sq (r := none) hx hb hr hlocks ((show qSl G sl = none from ((if_neg hn0_).trans (if_neg hn1_))).symm) dX7_slotAt_39
set_option maxHeartbeats 4000000 in
set_option maxRecDepth 100000 in
theorem c_X7_save (l : Launch) (V : zV) (G : Nat → Nat) (Y : Nat → zA) (hp hk : Nat) (f1 f2 : Int32) (n : Nat) (pd : Nat → Int32) (a : Nat) (kd nu mo : Int32) (sl : Int32) (hJ : zInj 404 G) (hwf : ∀ j, j < 11 → zWfA (Y j)) : Met l yX7_save wsX7_save (zR 3 0 0) (zPc V [.ref (gM G 0), .int sl] (fun H => zTP V G Y hp hk f1 f2 n pd a kd nu mo H)) (zQi (fun r H => r = (svR (Y 0) sl) ∧ (zTP V G (svY Y sl) hp hk (svA f1 sl) (svB f2 sl) n pd a kd nu mo H)) (zIn 404 G)) 0 0 (zIn 404 G) := by
  refine Met.ofW (cc := cX7_save) (maxL := 3) (ret := (some .int)) (by decide) rfl ?_
  intro p e s m args below meth c s₁ B hml hv
  obtain ⟨rfl, hP, hE⟩ := hv
  have hx := B.exec
  have hb := B.bytes
  have hr := B.returns
  have hts := atoms_spec (ws := wsX7_save) B.pre
  have hown : s.vm.findClass RX7 = some m.cls := findClass_of_methodNamed B.named
  have hlocks := B.notSynchronized
  have hl := lv_entry ([.ref (gM G 0), .int sl]) (n := 3) (Nat.le_of_ble_eq_true rfl)
  rw [lg_entry_eq]
  generalize (lg_sl ([.ref (gM G 0), .int sl]) ++ List.replicate (3 - (lg_sl ([.ref (gM G 0), .int sl])).length) Slot.unset).toArray = ls at hl ⊢
  have hl : lv_has ls 3 [(0, .ref (gM G 0)), (1, .int sl)] := hl
  have hT := hP
  have hS : va_S (zIn 404 G) s.heap s.heap [] := va_S.rf
  by_cases hs0_ : sl = 0
  · refine lv_aload_n hx hb dX7_save_0 rfl (lv_at hl 0 rfl) ?_
    refine lv_iload_n hx hb dX7_save_1 rfl (lv_at hl 1 rfl) ?_
    refine zc_sqe (va_runV (As := [.int sl]) (rest := []) ⟨hx, hb, hml, hown, hts⟩ (c_X7_slotAt l V G Y hp hk f1 f2 n pd a kd nu mo sl hJ) (cwV 1 hts (zgV_ wsC_all uC_332 uC_334 uC_335 uC_336 uC_25) rfl rfl rfl (by decide +kernel) ⟨Nat.le_of_ble_eq_true rfl, Nat.le_of_ble_eq_true rfl⟩) (zPreV (B := fun H => zTP V G Y hp hk f1 f2 n pd a kd nu mo H) hT hE (zT_rt hE hT)) rfl rfl hl.1 rfl (lv_room (Nat.le_of_ble_eq_true rfl)) dX7_save_2 ⟨Nat.le_of_ble_eq_true rfl, Nat.le_of_ble_eq_true rfl⟩) ?_
    refine zt_v (y := .ref (gM G 3)) (congrArg va_rf (show qSl G sl = some (gM G 3) from (if_pos hs0_))) ?_
    refine lv_astore_n (lv' := [(2, .ref (gM G 3)), (0, .ref (gM G 0)), (1, .int sl)]) hx hb dX7_save_5 rfl hl (by decide) rfl (fun ls hl => ?_)
    refine lv_aload_n hx hb dX7_save_6 rfl (lv_at hl 0 rfl) ?_
    refine lv_ifnonnull (tgt := 13) hx hb dX7_save_7 (by decide) ?_
    refine lv_aload_n hx hb dX7_save_13 rfl (lv_at hl 0 rfl) ?_
    refine zo_getN 0 (.ref (gA G 9 0)) hx hb hts (fun x h => List.mem_cons_of_mem _ (hU_X6 x h)) hown hE (zT_c hT (c := 3) (by decide)) (show vwCl[6]? = some (RX6, TX6, 2) from rfl) (by decide) rfl (List.mem_of_getElem? (i := 19) rfl) (fun _ h9 => h9) dX7_save_14 ?_
    refine lv_aload_n hx hb dX7_save_17 rfl (lv_at hl 1 rfl) ?_
    refine zo_get 0 (.ref (gA G 0 0)) hx hb hts (fun x h => List.mem_cons_of_mem _ (hU_X7 x h)) hown hE (zT_c hT (c := 0) (by decide)) (show vwCl[7]? = some (RX7, TX7, 7) from rfl) (by decide) rfl (hts _ (List.mem_cons_of_mem _ uC_243)) (fun _ h9 => h9) dX7_save_18 ?_
    refine zc_v (va_runVN (As := [.ref (gA G 0 0)]) (rest := []) ⟨hx, hb, hml, hown, hts⟩ (c_X0_copyFrom l V (gA G 9) (gA G 0) (aF (Y 9)) (aT (Y 9)) (nI (aS (Y 9))) (aU (Y 9)) (aV (Y 9)) (aX (Y 9)) (aP (Y 9)) (aF (Y 0)) (aT (Y 0)) (nI (aS (Y 0))) (aU (Y 0)) (aV (Y 0)) (aX (Y 0)) (aP (Y 0)) (zT_JA hJ (by omega)) (zT_dA hJ (by omega) (by omega) (by omega)) (hwf 0 (by omega))) ⟨va_cnB 1 hts (zgB_ wsC_all uC_37) rfl rfl rfl (hE.2 (.methodLinkNest RX7 89 yX0_copyFrom "DrawerSlips") (List.mem_of_getElem? (i := 53) rfl)) (hts _ (List.mem_cons_of_mem _ uC_73)) (by decide +kernel) ⟨Nat.le_of_ble_eq_true rfl, Nat.le_of_ble_eq_true rfl⟩, (hts _ (List.mem_cons_of_mem _ uC_168)), (hts _ (List.mem_cons_of_mem _ uC_169))⟩ (zPreV (B := fun H => va_P V.1 vwCl (zaW V (gA G 9) (aF (Y 9)) (aT (Y 9)) (nI (aS (Y 9))) (aU (Y 9)) (aV (Y 9)) (aX (Y 9)) (aP (Y 9))) H ∧ va_P V.1 vwCl (zaW V (gA G 0) (aF (Y 0)) (aT (Y 0)) (nI (aS (Y 0))) (aU (Y 0)) (aV (Y 0)) (aX (Y 0)) (aP (Y 0))) H) ⟨(hT.1 9 (by omega)), (hT.1 0 (by omega))⟩ hE (zT_ra hE hT (by omega))) rfl rfl hl.1 rfl (lv_room (Nat.le_of_ble_eq_true rfl)) dX7_save_21 ⟨Nat.le_of_ble_eq_true rfl, Nat.le_of_ble_eq_true rfl⟩) hS (fun q h => zT_iA (by omega) h) (fun q h => zT_iA (by omega) h) (fun H locs hQ_ _ hk_ hS => ?_)
    have hT := zT_arch (j := 9) (A' := (Y 0)) hT hJ (by omega) hk_ hQ_
    have hwf := zWf_up (k := 9) (A := (Y 0)) hwf (hwf 0 (by omega))
    refine lv_aload_n hx hb dX7_save_24 rfl (lv_at hl 0 rfl) ?_
    refine lv_iconst (v := 1) hx hb dX7_save_25 (by decide +kernel) ?_
    refine zo_putN (p0 := 399 + 3) 1 (.int 1) .boolean hx hb hts (fun x h => List.mem_cons_of_mem _ (hU_X6 x h)) tyX6 tyX6_ok nmX6 hown hE (zT_uni.mp hT) (zD hJ) hS (zU_c V G (va_up Y 9 (Y 0)) hp hk f1 f2 n pd a kd nu mo (c := 3) (by decide)) (show vwCl[6]? = some (RX6, TX6, 2) from rfl) (by decide) (Nat.le_of_ble_eq_true rfl) rfl (by decide +kernel) rfl rfl (List.mem_of_getElem? (i := 20) rfl) (fun _ h9 => h9) dX7_save_26 (fun H locs hT hS => ?_)
    have hT : zTP V G (va_up Y 9 (Y 0)) hp hk 1 f2 n pd a kd nu mo H := zT_of (c := 3) (hp' := hp) (hk' := hk) (f1' := 1) (f2' := f2) (by decide) rfl (fun q hq hne => by
      rcases (show q = 0 ∨ q = 1 ∨ q = 2 ∨ q = 3 ∨ q = 4 by omega) with rfl | rfl | rfl | rfl | rfl <;> first | rfl | exact absurd rfl hne) hT
    refine lv_aload_n hx hb dX7_save_29 rfl (lv_at hl 1 rfl) ?_
    refine zo_get 0 (.ref (gA G 0 0)) hx hb hts (fun x h => List.mem_cons_of_mem _ (hU_X7 x h)) hown hE (zT_c hT (c := 0) (by decide)) (show vwCl[7]? = some (RX7, TX7, 7) from rfl) (by decide) rfl (hts _ (List.mem_cons_of_mem _ uC_243)) (fun _ h9 => h9) dX7_save_30 ?_
    refine zc_se (va_runVN (As := []) (rest := []) ⟨hx, hb, hml, hown, hts⟩ (c_X0_slipsThatWait l V (gA G 0) (aF (Y 0)) (aT (Y 0)) (nI (aS (Y 0))) (aU (Y 0)) (aV (Y 0)) (aX (Y 0)) (aP (Y 0))) ⟨va_cnB 0 hts (zgB_ wsC_all uC_95) rfl rfl rfl (hE.2 (.methodLinkNest RX7 80 yX0_slipsThatWait "DrawerSlips") (List.mem_of_getElem? (i := 52) rfl)) (hts _ (List.mem_cons_of_mem _ uC_73)) (by decide +kernel) ⟨Nat.le_of_ble_eq_true rfl, Nat.le_of_ble_eq_true rfl⟩, (hts _ (List.mem_cons_of_mem _ uC_283)), (hts _ (List.mem_cons_of_mem _ uC_284))⟩ (zPreV (B := fun H => va_P V.1 vwCl (zaW V (gA G 0) (aF (Y 0)) (aT (Y 0)) (nI (aS (Y 0))) (aU (Y 0)) (aV (Y 0)) (aX (Y 0)) (aP (Y 0))) H) (hT.1 0 (by omega)) hE (za_ro hE (hT.1 0 (by omega)))) rfl rfl hl.1 rfl (lv_room (Nat.le_of_ble_eq_true rfl)) dX7_save_33 ⟨Nat.le_of_ble_eq_true rfl, Nat.le_of_ble_eq_true rfl⟩) ?_
    exact zr_i hx hb hr hlocks hS (⟨(show svR (Y 0) sl = (aF (Y 0)) 3 + (aF (Y 0)) 4 from (if_pos hs0_)).symm, by rw [show svY Y sl = va_up Y 9 (Y 0) from (if_pos hs0_), show svA f1 sl = 1 from (if_pos hs0_), show svB f2 sl = f2 from (if_pos hs0_)]; exact hT⟩) dX7_save_36
  · by_cases hs1_ : sl = 1
    · refine lv_aload_n hx hb dX7_save_0 rfl (lv_at hl 0 rfl) ?_
      refine lv_iload_n hx hb dX7_save_1 rfl (lv_at hl 1 rfl) ?_
      refine zc_sqe (va_runV (As := [.int sl]) (rest := []) ⟨hx, hb, hml, hown, hts⟩ (c_X7_slotAt l V G Y hp hk f1 f2 n pd a kd nu mo sl hJ) (cwV 1 hts (zgV_ wsC_all uC_332 uC_334 uC_335 uC_336 uC_25) rfl rfl rfl (by decide +kernel) ⟨Nat.le_of_ble_eq_true rfl, Nat.le_of_ble_eq_true rfl⟩) (zPreV (B := fun H => zTP V G Y hp hk f1 f2 n pd a kd nu mo H) hT hE (zT_rt hE hT)) rfl rfl hl.1 rfl (lv_room (Nat.le_of_ble_eq_true rfl)) dX7_save_2 ⟨Nat.le_of_ble_eq_true rfl, Nat.le_of_ble_eq_true rfl⟩) ?_
      refine zt_v (y := .ref (gM G 4)) (congrArg va_rf (show qSl G sl = some (gM G 4) from ((if_neg hs0_).trans (if_pos hs1_)))) ?_
      refine lv_astore_n (lv' := [(2, .ref (gM G 4)), (0, .ref (gM G 0)), (1, .int sl)]) hx hb dX7_save_5 rfl hl (by decide) rfl (fun ls hl => ?_)
      refine lv_aload_n hx hb dX7_save_6 rfl (lv_at hl 0 rfl) ?_
      refine lv_ifnonnull (tgt := 13) hx hb dX7_save_7 (by decide) ?_
      refine lv_aload_n hx hb dX7_save_13 rfl (lv_at hl 0 rfl) ?_
      refine zo_getN 0 (.ref (gA G 10 0)) hx hb hts (fun x h => List.mem_cons_of_mem _ (hU_X6 x h)) hown hE (zT_c hT (c := 4) (by decide)) (show vwCl[6]? = some (RX6, TX6, 2) from rfl) (by decide) rfl (List.mem_of_getElem? (i := 19) rfl) (fun _ h9 => h9) dX7_save_14 ?_
      refine lv_aload_n hx hb dX7_save_17 rfl (lv_at hl 1 rfl) ?_
      refine zo_get 0 (.ref (gA G 0 0)) hx hb hts (fun x h => List.mem_cons_of_mem _ (hU_X7 x h)) hown hE (zT_c hT (c := 0) (by decide)) (show vwCl[7]? = some (RX7, TX7, 7) from rfl) (by decide) rfl (hts _ (List.mem_cons_of_mem _ uC_243)) (fun _ h9 => h9) dX7_save_18 ?_
      refine zc_v (va_runVN (As := [.ref (gA G 0 0)]) (rest := []) ⟨hx, hb, hml, hown, hts⟩ (c_X0_copyFrom l V (gA G 10) (gA G 0) (aF (Y 10)) (aT (Y 10)) (nI (aS (Y 10))) (aU (Y 10)) (aV (Y 10)) (aX (Y 10)) (aP (Y 10)) (aF (Y 0)) (aT (Y 0)) (nI (aS (Y 0))) (aU (Y 0)) (aV (Y 0)) (aX (Y 0)) (aP (Y 0)) (zT_JA hJ (by omega)) (zT_dA hJ (by omega) (by omega) (by omega)) (hwf 0 (by omega))) ⟨va_cnB 1 hts (zgB_ wsC_all uC_37) rfl rfl rfl (hE.2 (.methodLinkNest RX7 89 yX0_copyFrom "DrawerSlips") (List.mem_of_getElem? (i := 53) rfl)) (hts _ (List.mem_cons_of_mem _ uC_73)) (by decide +kernel) ⟨Nat.le_of_ble_eq_true rfl, Nat.le_of_ble_eq_true rfl⟩, (hts _ (List.mem_cons_of_mem _ uC_168)), (hts _ (List.mem_cons_of_mem _ uC_169))⟩ (zPreV (B := fun H => va_P V.1 vwCl (zaW V (gA G 10) (aF (Y 10)) (aT (Y 10)) (nI (aS (Y 10))) (aU (Y 10)) (aV (Y 10)) (aX (Y 10)) (aP (Y 10))) H ∧ va_P V.1 vwCl (zaW V (gA G 0) (aF (Y 0)) (aT (Y 0)) (nI (aS (Y 0))) (aU (Y 0)) (aV (Y 0)) (aX (Y 0)) (aP (Y 0))) H) ⟨(hT.1 10 (by omega)), (hT.1 0 (by omega))⟩ hE (zT_ra hE hT (by omega))) rfl rfl hl.1 rfl (lv_room (Nat.le_of_ble_eq_true rfl)) dX7_save_21 ⟨Nat.le_of_ble_eq_true rfl, Nat.le_of_ble_eq_true rfl⟩) hS (fun q h => zT_iA (by omega) h) (fun q h => zT_iA (by omega) h) (fun H locs hQ_ _ hk_ hS => ?_)
      have hT := zT_arch (j := 10) (A' := (Y 0)) hT hJ (by omega) hk_ hQ_
      have hwf := zWf_up (k := 10) (A := (Y 0)) hwf (hwf 0 (by omega))
      refine lv_aload_n hx hb dX7_save_24 rfl (lv_at hl 0 rfl) ?_
      refine lv_iconst (v := 1) hx hb dX7_save_25 (by decide +kernel) ?_
      refine zo_putN (p0 := 399 + 4) 1 (.int 1) .boolean hx hb hts (fun x h => List.mem_cons_of_mem _ (hU_X6 x h)) tyX6 tyX6_ok nmX6 hown hE (zT_uni.mp hT) (zD hJ) hS (zU_c V G (va_up Y 10 (Y 0)) hp hk f1 f2 n pd a kd nu mo (c := 4) (by decide)) (show vwCl[6]? = some (RX6, TX6, 2) from rfl) (by decide) (Nat.le_of_ble_eq_true rfl) rfl (by decide +kernel) rfl rfl (List.mem_of_getElem? (i := 20) rfl) (fun _ h9 => h9) dX7_save_26 (fun H locs hT hS => ?_)
      have hT : zTP V G (va_up Y 10 (Y 0)) hp hk f1 1 n pd a kd nu mo H := zT_of (c := 4) (hp' := hp) (hk' := hk) (f1' := f1) (f2' := 1) (by decide) rfl (fun q hq hne => by
        rcases (show q = 0 ∨ q = 1 ∨ q = 2 ∨ q = 3 ∨ q = 4 by omega) with rfl | rfl | rfl | rfl | rfl <;> first | rfl | exact absurd rfl hne) hT
      refine lv_aload_n hx hb dX7_save_29 rfl (lv_at hl 1 rfl) ?_
      refine zo_get 0 (.ref (gA G 0 0)) hx hb hts (fun x h => List.mem_cons_of_mem _ (hU_X7 x h)) hown hE (zT_c hT (c := 0) (by decide)) (show vwCl[7]? = some (RX7, TX7, 7) from rfl) (by decide) rfl (hts _ (List.mem_cons_of_mem _ uC_243)) (fun _ h9 => h9) dX7_save_30 ?_
      refine zc_se (va_runVN (As := []) (rest := []) ⟨hx, hb, hml, hown, hts⟩ (c_X0_slipsThatWait l V (gA G 0) (aF (Y 0)) (aT (Y 0)) (nI (aS (Y 0))) (aU (Y 0)) (aV (Y 0)) (aX (Y 0)) (aP (Y 0))) ⟨va_cnB 0 hts (zgB_ wsC_all uC_95) rfl rfl rfl (hE.2 (.methodLinkNest RX7 80 yX0_slipsThatWait "DrawerSlips") (List.mem_of_getElem? (i := 52) rfl)) (hts _ (List.mem_cons_of_mem _ uC_73)) (by decide +kernel) ⟨Nat.le_of_ble_eq_true rfl, Nat.le_of_ble_eq_true rfl⟩, (hts _ (List.mem_cons_of_mem _ uC_283)), (hts _ (List.mem_cons_of_mem _ uC_284))⟩ (zPreV (B := fun H => va_P V.1 vwCl (zaW V (gA G 0) (aF (Y 0)) (aT (Y 0)) (nI (aS (Y 0))) (aU (Y 0)) (aV (Y 0)) (aX (Y 0)) (aP (Y 0))) H) (hT.1 0 (by omega)) hE (za_ro hE (hT.1 0 (by omega)))) rfl rfl hl.1 rfl (lv_room (Nat.le_of_ble_eq_true rfl)) dX7_save_33 ⟨Nat.le_of_ble_eq_true rfl, Nat.le_of_ble_eq_true rfl⟩) ?_
      exact zr_i hx hb hr hlocks hS (⟨(show svR (Y 0) sl = (aF (Y 0)) 3 + (aF (Y 0)) 4 from ((if_neg hs0_).trans (if_pos hs1_))).symm, by rw [show svY Y sl = va_up Y 10 (Y 0) from ((if_neg hs0_).trans (if_pos hs1_)), show svA f1 sl = f1 from ((if_neg hs0_).trans (if_pos hs1_)), show svB f2 sl = 1 from ((if_neg hs0_).trans (if_pos hs1_))]; exact hT⟩) dX7_save_36
    · refine lv_aload_n hx hb dX7_save_0 rfl (lv_at hl 0 rfl) ?_
      refine lv_iload_n hx hb dX7_save_1 rfl (lv_at hl 1 rfl) ?_
      refine zc_sqe (va_runV (As := [.int sl]) (rest := []) ⟨hx, hb, hml, hown, hts⟩ (c_X7_slotAt l V G Y hp hk f1 f2 n pd a kd nu mo sl hJ) (cwV 1 hts (zgV_ wsC_all uC_332 uC_334 uC_335 uC_336 uC_25) rfl rfl rfl (by decide +kernel) ⟨Nat.le_of_ble_eq_true rfl, Nat.le_of_ble_eq_true rfl⟩) (zPreV (B := fun H => zTP V G Y hp hk f1 f2 n pd a kd nu mo H) hT hE (zT_rt hE hT)) rfl rfl hl.1 rfl (lv_room (Nat.le_of_ble_eq_true rfl)) dX7_save_2 ⟨Nat.le_of_ble_eq_true rfl, Nat.le_of_ble_eq_true rfl⟩) ?_
      refine zt_v (y := .null) (congrArg va_rf (show qSl G sl = none from ((if_neg hs0_).trans (if_neg hs1_)))) ?_
      refine lv_astore_nN (lv' := [(2, .null), (0, .ref (gM G 0)), (1, .int sl)]) hx hb dX7_save_5 rfl hl (by decide) rfl (fun ls hl => ?_)
      refine lv_aload_nN hx hb dX7_save_6 rfl (lv_at hl 0 rfl) ?_
      refine lv_ifnonnullN hx hb dX7_save_7 ?_
      refine lv_bipush (v := (-2)) hx hb dX7_save_10 (by decide +kernel) ?_
      exact zr_i hx hb hr hlocks hS (⟨(show svR (Y 0) sl = (-2) from ((if_neg hs0_).trans (if_neg hs1_))).symm, by rw [show svY Y sl = Y from ((if_neg hs0_).trans (if_neg hs1_)), show svA f1 sl = f1 from ((if_neg hs0_).trans (if_neg hs1_)), show svB f2 sl = f2 from ((if_neg hs0_).trans (if_neg hs1_))]; exact hT⟩) dX7_save_12
set_option maxHeartbeats 4000000 in
set_option maxRecDepth 100000 in
theorem c_X7_restore (l : Launch) (V : zV) (G : Nat → Nat) (Y : Nat → zA) (hp hk : Nat) (f1 f2 : Int32) (n : Nat) (pd : Nat → Int32) (a : Nat) (kd nu mo : Int32) (sl : Int32) (hJ : zInj 404 G) (hp7 : hp < 7) (hk6 : hk ≤ 6) (hwf : ∀ j, j < 11 → zWfA (Y j)) : Met l yX7_restore wsX7_restore (zR 4 0 0) (zPc V [.ref (gM G 0), .int sl] (fun H => zTP V G Y hp hk f1 f2 n pd a kd nu mo H)) (zQi (fun r H => r = (rsR Y f1 f2 sl) ∧ (zTP V G (rsY Y hp f1 f2 sl) (if 0 ≤ rsR Y f1 f2 sl then (hp + 1) % 7 else hp) (if 0 ≤ rsR Y f1 f2 sl then min (hk + 1) 6 else hk) f1 f2 n pd a kd nu mo H)) (zIn 404 G)) 0 0 (zIn 404 G) := by
  refine Met.ofW (cc := cX7_restore) (maxL := 3) (ret := (some .int)) (by decide) rfl ?_
  intro p e s m args below meth c s₁ B hml hv
  obtain ⟨rfl, hP, hE⟩ := hv
  have hx := B.exec
  have hb := B.bytes
  have hr := B.returns
  have hts := atoms_spec (ws := wsX7_restore) B.pre
  have hown : s.vm.findClass RX7 = some m.cls := findClass_of_methodNamed B.named
  have hlocks := B.notSynchronized
  have hl := lv_entry ([.ref (gM G 0), .int sl]) (n := 3) (Nat.le_of_ble_eq_true rfl)
  rw [lg_entry_eq]
  generalize (lg_sl ([.ref (gM G 0), .int sl]) ++ List.replicate (3 - (lg_sl ([.ref (gM G 0), .int sl])).length) Slot.unset).toArray = ls at hl ⊢
  have hl : lv_has ls 3 [(0, .ref (gM G 0)), (1, .int sl)] := hl
  have hT := hP
  have hS : va_S (zIn 404 G) s.heap s.heap [] := va_S.rf
  by_cases hs0_ : sl = 0
  · refine lv_aload_n hx hb dX7_restore_0 rfl (lv_at hl 0 rfl) ?_
    refine lv_iload_n hx hb dX7_restore_1 rfl (lv_at hl 1 rfl) ?_
    refine zc_sqe (va_runV (As := [.int sl]) (rest := []) ⟨hx, hb, hml, hown, hts⟩ (c_X7_slotAt l V G Y hp hk f1 f2 n pd a kd nu mo sl hJ) (cwV 1 hts (zgV_ wsC_all uC_332 uC_334 uC_335 uC_336 uC_25) rfl rfl rfl (by decide +kernel) ⟨Nat.le_of_ble_eq_true rfl, Nat.le_of_ble_eq_true rfl⟩) (zPreV (B := fun H => zTP V G Y hp hk f1 f2 n pd a kd nu mo H) hT hE (zT_rt hE hT)) rfl rfl hl.1 rfl (lv_room (Nat.le_of_ble_eq_true rfl)) dX7_restore_2 ⟨Nat.le_of_ble_eq_true rfl, Nat.le_of_ble_eq_true rfl⟩) ?_
    refine zt_v (y := .ref (gM G 3)) (congrArg va_rf (show qSl G sl = some (gM G 3) from (if_pos hs0_))) ?_
    refine lv_astore_n (lv' := [(2, .ref (gM G 3)), (0, .ref (gM G 0)), (1, .int sl)]) hx hb dX7_restore_5 rfl hl (by decide) rfl (fun ls hl => ?_)
    refine lv_aload_n hx hb dX7_restore_6 rfl (lv_at hl 0 rfl) ?_
    refine lv_ifnonnull (tgt := 13) hx hb dX7_restore_7 (by decide) ?_
    refine lv_aload_n hx hb dX7_restore_13 rfl (lv_at hl 0 rfl) ?_
    refine zo_getN 1 (.int f1) hx hb hts (fun x h => List.mem_cons_of_mem _ (hU_X6 x h)) hown hE (zT_c hT (c := 3) (by decide)) (show vwCl[6]? = some (RX6, TX6, 2) from rfl) (by decide) rfl (List.mem_of_getElem? (i := 20) rfl) (fun _ h9 => h9) dX7_restore_14 ?_
    refine lv_if_ne (tgt := 23) hx hb dX7_restore_17 (by decide) (fun c_17 => ?_) (fun c_17 => ?_)
    · have z0_ : ¬ f1 = 0 := c_17
      refine lv_aload_n hx hb dX7_restore_23 rfl (lv_at hl 1 rfl) ?_
      refine zo_get 2 (.ref (gM G 1)) hx hb hts (fun x h => List.mem_cons_of_mem _ (hU_X7 x h)) hown hE (zT_c hT (c := 0) (by decide)) (show vwCl[7]? = some (RX7, TX7, 7) from rfl) (by decide) rfl (hts _ (List.mem_cons_of_mem _ uC_247)) (fun _ h9 => h9) dX7_restore_24 ?_
      refine lv_aload_n hx hb dX7_restore_27 rfl (lv_at hl 1 rfl) ?_
      refine zo_get 0 (.ref (gA G 0 0)) hx hb hts (fun x h => List.mem_cons_of_mem _ (hU_X7 x h)) hown hE (zT_c hT (c := 0) (by decide)) (show vwCl[7]? = some (RX7, TX7, 7) from rfl) (by decide) rfl (hts _ (List.mem_cons_of_mem _ uC_243)) (fun _ h9 => h9) dX7_restore_28 ?_
      refine zc_v (va_runVN (As := [.ref (gA G 0 0)]) (rest := []) ⟨hx, hb, hml, hown, hts⟩ (c_X1_prepare l V G Y hp hk f1 f2 n pd a kd nu mo hJ (by omega) hwf) ⟨va_cnB 1 hts (zgB_ wsC_all uC_162) rfl rfl rfl (hE.2 (.methodLinkNest RX7 52 yX1_prepare "DrawerSlips") (List.mem_of_getElem? (i := 38) rfl)) (hts _ (List.mem_cons_of_mem _ uC_167)) (by decide +kernel) ⟨Nat.le_of_ble_eq_true rfl, Nat.le_of_ble_eq_true rfl⟩, (hts _ (List.mem_cons_of_mem _ uC_267)), (hts _ (List.mem_cons_of_mem _ uC_268))⟩ (zPreV (B := fun H => zTP V G Y hp hk f1 f2 n pd a kd nu mo H) hT hE (zT_rh hE hT)) rfl rfl hl.1 rfl (lv_room (Nat.le_of_ble_eq_true rfl)) dX7_restore_31 ⟨Nat.le_of_ble_eq_true rfl, Nat.le_of_ble_eq_true rfl⟩) hS (fun _ h => h) (fun _ h => h) (fun H locs hQ_ _ _ hS => ?_)
      have hT := hQ_
      have hwf := zWf_up (k := (hp + 2)) (A := (Y 0)) hwf (hwf 0 (by omega))
      refine lv_aload_n hx hb dX7_restore_34 rfl (lv_at hl 1 rfl) ?_
      refine zo_get 0 (.ref (gA G 0 0)) hx hb hts (fun x h => List.mem_cons_of_mem _ (hU_X7 x h)) hown hE (zT_c hT (c := 0) (by decide)) (show vwCl[7]? = some (RX7, TX7, 7) from rfl) (by decide) rfl (hts _ (List.mem_cons_of_mem _ uC_243)) (fun _ h9 => h9) dX7_restore_35 ?_
      refine lv_aload_n hx hb dX7_restore_38 rfl (lv_at hl 0 rfl) ?_
      refine zo_getN 0 (.ref (gA G 9 0)) hx hb hts (fun x h => List.mem_cons_of_mem _ (hU_X6 x h)) hown hE (zT_c hT (c := 3) (by decide)) (show vwCl[6]? = some (RX6, TX6, 2) from rfl) (by decide) rfl (List.mem_of_getElem? (i := 19) rfl) (fun _ h9 => h9) dX7_restore_39 ?_
      refine zc_v (va_runVN (As := [.ref (gA G 9 0)]) (rest := []) ⟨hx, hb, hml, hown, hts⟩ (c_X0_copyFrom l V (gA G 0) (gA G 9) (aF (Y 0)) (aT (Y 0)) (nI (aS (Y 0))) (aU (Y 0)) (aV (Y 0)) (aX (Y 0)) (aP (Y 0)) (aF ((va_up Y (hp + 2) (Y 0)) 9)) (aT ((va_up Y (hp + 2) (Y 0)) 9)) (nI (aS ((va_up Y (hp + 2) (Y 0)) 9))) (aU ((va_up Y (hp + 2) (Y 0)) 9)) (aV ((va_up Y (hp + 2) (Y 0)) 9)) (aX ((va_up Y (hp + 2) (Y 0)) 9)) (aP ((va_up Y (hp + 2) (Y 0)) 9)) (zT_JA hJ (by omega)) (zT_dA hJ (by omega) (by omega) (by omega)) (hwf 9 (by omega))) ⟨va_cnB 1 hts (zgB_ wsC_all uC_37) rfl rfl rfl (hE.2 (.methodLinkNest RX7 89 yX0_copyFrom "DrawerSlips") (List.mem_of_getElem? (i := 53) rfl)) (hts _ (List.mem_cons_of_mem _ uC_73)) (by decide +kernel) ⟨Nat.le_of_ble_eq_true rfl, Nat.le_of_ble_eq_true rfl⟩, (hts _ (List.mem_cons_of_mem _ uC_168)), (hts _ (List.mem_cons_of_mem _ uC_169))⟩ (zPreV (B := fun H => va_P V.1 vwCl (zaW V (gA G 0) (aF (Y 0)) (aT (Y 0)) (nI (aS (Y 0))) (aU (Y 0)) (aV (Y 0)) (aX (Y 0)) (aP (Y 0))) H ∧ va_P V.1 vwCl (zaW V (gA G 9) (aF ((va_up Y (hp + 2) (Y 0)) 9)) (aT ((va_up Y (hp + 2) (Y 0)) 9)) (nI (aS ((va_up Y (hp + 2) (Y 0)) 9))) (aU ((va_up Y (hp + 2) (Y 0)) 9)) (aV ((va_up Y (hp + 2) (Y 0)) 9)) (aX ((va_up Y (hp + 2) (Y 0)) 9)) (aP ((va_up Y (hp + 2) (Y 0)) 9))) H) ⟨(hT.1 0 (by omega)), (hT.1 9 (by omega))⟩ hE (zT_ra hE hT (by omega))) rfl rfl hl.1 rfl (lv_room (Nat.le_of_ble_eq_true rfl)) dX7_restore_42 ⟨Nat.le_of_ble_eq_true rfl, Nat.le_of_ble_eq_true rfl⟩) hS (fun q h => zT_iA (by omega) h) (fun q h => zT_iA (by omega) h) (fun H locs hQ_ _ hk_ hS => ?_)
      have hT := zT_arch (j := 0) (A' := ((va_up Y (hp + 2) (Y 0)) 9)) hT hJ (by omega) hk_ hQ_
      have hwf := zWf_up (k := 0) (A := ((va_up Y (hp + 2) (Y 0)) 9)) hwf (hwf 9 (by omega))
      have e9_ : (va_up Y (hp + 2) (Y 0)) 9 = Y 9 := zUp_n _ _ (by omega)
      rw [e9_] at hT
      refine lv_aload_n hx hb dX7_restore_45 rfl (lv_at hl 1 rfl) ?_
      refine lv_aload_n hx hb dX7_restore_46 rfl (lv_at hl 1 rfl) ?_
      refine zo_get 0 (.ref (gA G 0 0)) hx hb hts (fun x h => List.mem_cons_of_mem _ (hU_X7 x h)) hown hE (zT_c hT (c := 0) (by decide)) (show vwCl[7]? = some (RX7, TX7, 7) from rfl) (by decide) rfl (hts _ (List.mem_cons_of_mem _ uC_243)) (fun _ h9 => h9) dX7_restore_47 ?_
      refine zc_se (va_runVN (As := []) (rest := [.ref (gM G 0)]) ⟨hx, hb, hml, hown, hts⟩ (c_X0_slipsThatWait l V (gA G 0) (aF (Y 9)) (aT (Y 9)) (nI (aS (Y 9))) (aU (Y 9)) (aV (Y 9)) (aX (Y 9)) (aP (Y 9))) ⟨va_cnB 0 hts (zgB_ wsC_all uC_95) rfl rfl rfl (hE.2 (.methodLinkNest RX7 80 yX0_slipsThatWait "DrawerSlips") (List.mem_of_getElem? (i := 52) rfl)) (hts _ (List.mem_cons_of_mem _ uC_73)) (by decide +kernel) ⟨Nat.le_of_ble_eq_true rfl, Nat.le_of_ble_eq_true rfl⟩, (hts _ (List.mem_cons_of_mem _ uC_283)), (hts _ (List.mem_cons_of_mem _ uC_284))⟩ (zPreV (B := fun H => va_P V.1 vwCl (zaW V (gA G 0) (aF (Y 9)) (aT (Y 9)) (nI (aS (Y 9))) (aU (Y 9)) (aV (Y 9)) (aX (Y 9)) (aP (Y 9))) H) (hT.1 0 (by omega)) hE (za_ro hE (hT.1 0 (by omega)))) rfl rfl hl.1 rfl (lv_room (Nat.le_of_ble_eq_true rfl)) dX7_restore_50 ⟨Nat.le_of_ble_eq_true rfl, Nat.le_of_ble_eq_true rfl⟩) ?_
      refine zc_i (va_runV (As := [.int ((aF (Y 9)) 3 + (aF (Y 9)) 4)]) (rest := []) ⟨hx, hb, hml, hown, hts⟩ (c_X7_settled l V G (va_up (va_up Y (hp + 2) (Y 0)) 0 (Y 9)) hp hk f1 f2 n pd a kd nu mo ((aF (Y 9)) 3 + (aF (Y 9)) 4) hJ (by omega) (by omega)) (cwV 1 hts (zgV_ wsC_all uC_263 uC_271 uC_272 uC_273 uC_25) rfl rfl rfl (by decide +kernel) ⟨Nat.le_of_ble_eq_true rfl, Nat.le_of_ble_eq_true rfl⟩) (zPreV (B := fun H => zTP V G (va_up (va_up Y (hp + 2) (Y 0)) 0 (Y 9)) hp hk f1 f2 n pd a kd nu mo H) hT hE (zT_rt hE hT)) rfl rfl hl.1 rfl (lv_room (Nat.le_of_ble_eq_true rfl)) dX7_restore_53 ⟨Nat.le_of_ble_eq_true rfl, Nat.le_of_ble_eq_true rfl⟩) hS (fun _ h => h) (fun _ h => h) (fun r_ H locs hQ_ _ _ hS => ?_)
      obtain ⟨hr_, hT⟩ := hQ_
      subst hr_
      have hr_ : rsR Y f1 f2 sl = aF (Y 9) 3 + aF (Y 9) 4 := (if_pos hs0_).trans (if_neg z0_)
      exact zr_i hx hb hr hlocks hS (⟨hr_.symm, by rw [hr_, show rsY Y hp f1 f2 sl = va_up (va_up Y (hp + 2) (Y 0)) 0 (Y 9) from (if_pos hs0_).trans (if_neg z0_)]; exact hT⟩) dX7_restore_56
    · have z0_ : f1 = 0 := by first | exact c_17 | exact Classical.not_not.mp c_17
      refine lv_bipush (v := (-5)) hx hb dX7_restore_20 (by decide +kernel) ?_
      have hr_ : rsR Y f1 f2 sl = -5 := (if_pos hs0_).trans (if_pos z0_)
      exact zr_i hx hb hr hlocks hS (⟨hr_.symm, by rw [hr_, if_neg (show ¬ (0 : Int32) ≤ -5 by decide), if_neg (show ¬ (0 : Int32) ≤ -5 by decide), show rsY Y hp f1 f2 sl = Y from (if_pos hs0_).trans (if_pos z0_)]; exact hT⟩) dX7_restore_22
  · by_cases hs1_ : sl = 1
    · refine lv_aload_n hx hb dX7_restore_0 rfl (lv_at hl 0 rfl) ?_
      refine lv_iload_n hx hb dX7_restore_1 rfl (lv_at hl 1 rfl) ?_
      refine zc_sqe (va_runV (As := [.int sl]) (rest := []) ⟨hx, hb, hml, hown, hts⟩ (c_X7_slotAt l V G Y hp hk f1 f2 n pd a kd nu mo sl hJ) (cwV 1 hts (zgV_ wsC_all uC_332 uC_334 uC_335 uC_336 uC_25) rfl rfl rfl (by decide +kernel) ⟨Nat.le_of_ble_eq_true rfl, Nat.le_of_ble_eq_true rfl⟩) (zPreV (B := fun H => zTP V G Y hp hk f1 f2 n pd a kd nu mo H) hT hE (zT_rt hE hT)) rfl rfl hl.1 rfl (lv_room (Nat.le_of_ble_eq_true rfl)) dX7_restore_2 ⟨Nat.le_of_ble_eq_true rfl, Nat.le_of_ble_eq_true rfl⟩) ?_
      refine zt_v (y := .ref (gM G 4)) (congrArg va_rf (show qSl G sl = some (gM G 4) from ((if_neg hs0_).trans (if_pos hs1_)))) ?_
      refine lv_astore_n (lv' := [(2, .ref (gM G 4)), (0, .ref (gM G 0)), (1, .int sl)]) hx hb dX7_restore_5 rfl hl (by decide) rfl (fun ls hl => ?_)
      refine lv_aload_n hx hb dX7_restore_6 rfl (lv_at hl 0 rfl) ?_
      refine lv_ifnonnull (tgt := 13) hx hb dX7_restore_7 (by decide) ?_
      refine lv_aload_n hx hb dX7_restore_13 rfl (lv_at hl 0 rfl) ?_
      refine zo_getN 1 (.int f2) hx hb hts (fun x h => List.mem_cons_of_mem _ (hU_X6 x h)) hown hE (zT_c hT (c := 4) (by decide)) (show vwCl[6]? = some (RX6, TX6, 2) from rfl) (by decide) rfl (List.mem_of_getElem? (i := 20) rfl) (fun _ h9 => h9) dX7_restore_14 ?_
      refine lv_if_ne (tgt := 23) hx hb dX7_restore_17 (by decide) (fun c_17 => ?_) (fun c_17 => ?_)
      · have z0_ : ¬ f2 = 0 := c_17
        refine lv_aload_n hx hb dX7_restore_23 rfl (lv_at hl 1 rfl) ?_
        refine zo_get 2 (.ref (gM G 1)) hx hb hts (fun x h => List.mem_cons_of_mem _ (hU_X7 x h)) hown hE (zT_c hT (c := 0) (by decide)) (show vwCl[7]? = some (RX7, TX7, 7) from rfl) (by decide) rfl (hts _ (List.mem_cons_of_mem _ uC_247)) (fun _ h9 => h9) dX7_restore_24 ?_
        refine lv_aload_n hx hb dX7_restore_27 rfl (lv_at hl 1 rfl) ?_
        refine zo_get 0 (.ref (gA G 0 0)) hx hb hts (fun x h => List.mem_cons_of_mem _ (hU_X7 x h)) hown hE (zT_c hT (c := 0) (by decide)) (show vwCl[7]? = some (RX7, TX7, 7) from rfl) (by decide) rfl (hts _ (List.mem_cons_of_mem _ uC_243)) (fun _ h9 => h9) dX7_restore_28 ?_
        refine zc_v (va_runVN (As := [.ref (gA G 0 0)]) (rest := []) ⟨hx, hb, hml, hown, hts⟩ (c_X1_prepare l V G Y hp hk f1 f2 n pd a kd nu mo hJ (by omega) hwf) ⟨va_cnB 1 hts (zgB_ wsC_all uC_162) rfl rfl rfl (hE.2 (.methodLinkNest RX7 52 yX1_prepare "DrawerSlips") (List.mem_of_getElem? (i := 38) rfl)) (hts _ (List.mem_cons_of_mem _ uC_167)) (by decide +kernel) ⟨Nat.le_of_ble_eq_true rfl, Nat.le_of_ble_eq_true rfl⟩, (hts _ (List.mem_cons_of_mem _ uC_267)), (hts _ (List.mem_cons_of_mem _ uC_268))⟩ (zPreV (B := fun H => zTP V G Y hp hk f1 f2 n pd a kd nu mo H) hT hE (zT_rh hE hT)) rfl rfl hl.1 rfl (lv_room (Nat.le_of_ble_eq_true rfl)) dX7_restore_31 ⟨Nat.le_of_ble_eq_true rfl, Nat.le_of_ble_eq_true rfl⟩) hS (fun _ h => h) (fun _ h => h) (fun H locs hQ_ _ _ hS => ?_)
        have hT := hQ_
        have hwf := zWf_up (k := (hp + 2)) (A := (Y 0)) hwf (hwf 0 (by omega))
        refine lv_aload_n hx hb dX7_restore_34 rfl (lv_at hl 1 rfl) ?_
        refine zo_get 0 (.ref (gA G 0 0)) hx hb hts (fun x h => List.mem_cons_of_mem _ (hU_X7 x h)) hown hE (zT_c hT (c := 0) (by decide)) (show vwCl[7]? = some (RX7, TX7, 7) from rfl) (by decide) rfl (hts _ (List.mem_cons_of_mem _ uC_243)) (fun _ h9 => h9) dX7_restore_35 ?_
        refine lv_aload_n hx hb dX7_restore_38 rfl (lv_at hl 0 rfl) ?_
        refine zo_getN 0 (.ref (gA G 10 0)) hx hb hts (fun x h => List.mem_cons_of_mem _ (hU_X6 x h)) hown hE (zT_c hT (c := 4) (by decide)) (show vwCl[6]? = some (RX6, TX6, 2) from rfl) (by decide) rfl (List.mem_of_getElem? (i := 19) rfl) (fun _ h9 => h9) dX7_restore_39 ?_
        refine zc_v (va_runVN (As := [.ref (gA G 10 0)]) (rest := []) ⟨hx, hb, hml, hown, hts⟩ (c_X0_copyFrom l V (gA G 0) (gA G 10) (aF (Y 0)) (aT (Y 0)) (nI (aS (Y 0))) (aU (Y 0)) (aV (Y 0)) (aX (Y 0)) (aP (Y 0)) (aF ((va_up Y (hp + 2) (Y 0)) 10)) (aT ((va_up Y (hp + 2) (Y 0)) 10)) (nI (aS ((va_up Y (hp + 2) (Y 0)) 10))) (aU ((va_up Y (hp + 2) (Y 0)) 10)) (aV ((va_up Y (hp + 2) (Y 0)) 10)) (aX ((va_up Y (hp + 2) (Y 0)) 10)) (aP ((va_up Y (hp + 2) (Y 0)) 10)) (zT_JA hJ (by omega)) (zT_dA hJ (by omega) (by omega) (by omega)) (hwf 10 (by omega))) ⟨va_cnB 1 hts (zgB_ wsC_all uC_37) rfl rfl rfl (hE.2 (.methodLinkNest RX7 89 yX0_copyFrom "DrawerSlips") (List.mem_of_getElem? (i := 53) rfl)) (hts _ (List.mem_cons_of_mem _ uC_73)) (by decide +kernel) ⟨Nat.le_of_ble_eq_true rfl, Nat.le_of_ble_eq_true rfl⟩, (hts _ (List.mem_cons_of_mem _ uC_168)), (hts _ (List.mem_cons_of_mem _ uC_169))⟩ (zPreV (B := fun H => va_P V.1 vwCl (zaW V (gA G 0) (aF (Y 0)) (aT (Y 0)) (nI (aS (Y 0))) (aU (Y 0)) (aV (Y 0)) (aX (Y 0)) (aP (Y 0))) H ∧ va_P V.1 vwCl (zaW V (gA G 10) (aF ((va_up Y (hp + 2) (Y 0)) 10)) (aT ((va_up Y (hp + 2) (Y 0)) 10)) (nI (aS ((va_up Y (hp + 2) (Y 0)) 10))) (aU ((va_up Y (hp + 2) (Y 0)) 10)) (aV ((va_up Y (hp + 2) (Y 0)) 10)) (aX ((va_up Y (hp + 2) (Y 0)) 10)) (aP ((va_up Y (hp + 2) (Y 0)) 10))) H) ⟨(hT.1 0 (by omega)), (hT.1 10 (by omega))⟩ hE (zT_ra hE hT (by omega))) rfl rfl hl.1 rfl (lv_room (Nat.le_of_ble_eq_true rfl)) dX7_restore_42 ⟨Nat.le_of_ble_eq_true rfl, Nat.le_of_ble_eq_true rfl⟩) hS (fun q h => zT_iA (by omega) h) (fun q h => zT_iA (by omega) h) (fun H locs hQ_ _ hk_ hS => ?_)
        have hT := zT_arch (j := 0) (A' := ((va_up Y (hp + 2) (Y 0)) 10)) hT hJ (by omega) hk_ hQ_
        have hwf := zWf_up (k := 0) (A := ((va_up Y (hp + 2) (Y 0)) 10)) hwf (hwf 10 (by omega))
        have e9_ : (va_up Y (hp + 2) (Y 0)) 10 = Y 10 := zUp_n _ _ (by omega)
        rw [e9_] at hT
        refine lv_aload_n hx hb dX7_restore_45 rfl (lv_at hl 1 rfl) ?_
        refine lv_aload_n hx hb dX7_restore_46 rfl (lv_at hl 1 rfl) ?_
        refine zo_get 0 (.ref (gA G 0 0)) hx hb hts (fun x h => List.mem_cons_of_mem _ (hU_X7 x h)) hown hE (zT_c hT (c := 0) (by decide)) (show vwCl[7]? = some (RX7, TX7, 7) from rfl) (by decide) rfl (hts _ (List.mem_cons_of_mem _ uC_243)) (fun _ h9 => h9) dX7_restore_47 ?_
        refine zc_se (va_runVN (As := []) (rest := [.ref (gM G 0)]) ⟨hx, hb, hml, hown, hts⟩ (c_X0_slipsThatWait l V (gA G 0) (aF (Y 10)) (aT (Y 10)) (nI (aS (Y 10))) (aU (Y 10)) (aV (Y 10)) (aX (Y 10)) (aP (Y 10))) ⟨va_cnB 0 hts (zgB_ wsC_all uC_95) rfl rfl rfl (hE.2 (.methodLinkNest RX7 80 yX0_slipsThatWait "DrawerSlips") (List.mem_of_getElem? (i := 52) rfl)) (hts _ (List.mem_cons_of_mem _ uC_73)) (by decide +kernel) ⟨Nat.le_of_ble_eq_true rfl, Nat.le_of_ble_eq_true rfl⟩, (hts _ (List.mem_cons_of_mem _ uC_283)), (hts _ (List.mem_cons_of_mem _ uC_284))⟩ (zPreV (B := fun H => va_P V.1 vwCl (zaW V (gA G 0) (aF (Y 10)) (aT (Y 10)) (nI (aS (Y 10))) (aU (Y 10)) (aV (Y 10)) (aX (Y 10)) (aP (Y 10))) H) (hT.1 0 (by omega)) hE (za_ro hE (hT.1 0 (by omega)))) rfl rfl hl.1 rfl (lv_room (Nat.le_of_ble_eq_true rfl)) dX7_restore_50 ⟨Nat.le_of_ble_eq_true rfl, Nat.le_of_ble_eq_true rfl⟩) ?_
        refine zc_i (va_runV (As := [.int ((aF (Y 10)) 3 + (aF (Y 10)) 4)]) (rest := []) ⟨hx, hb, hml, hown, hts⟩ (c_X7_settled l V G (va_up (va_up Y (hp + 2) (Y 0)) 0 (Y 10)) hp hk f1 f2 n pd a kd nu mo ((aF (Y 10)) 3 + (aF (Y 10)) 4) hJ (by omega) (by omega)) (cwV 1 hts (zgV_ wsC_all uC_263 uC_271 uC_272 uC_273 uC_25) rfl rfl rfl (by decide +kernel) ⟨Nat.le_of_ble_eq_true rfl, Nat.le_of_ble_eq_true rfl⟩) (zPreV (B := fun H => zTP V G (va_up (va_up Y (hp + 2) (Y 0)) 0 (Y 10)) hp hk f1 f2 n pd a kd nu mo H) hT hE (zT_rt hE hT)) rfl rfl hl.1 rfl (lv_room (Nat.le_of_ble_eq_true rfl)) dX7_restore_53 ⟨Nat.le_of_ble_eq_true rfl, Nat.le_of_ble_eq_true rfl⟩) hS (fun _ h => h) (fun _ h => h) (fun r_ H locs hQ_ _ _ hS => ?_)
        obtain ⟨hr_, hT⟩ := hQ_
        subst hr_
        have hr_ : rsR Y f1 f2 sl = aF (Y 10) 3 + aF (Y 10) 4 := ((if_neg hs0_).trans (if_pos hs1_)).trans (if_neg z0_)
        exact zr_i hx hb hr hlocks hS (⟨hr_.symm, by rw [hr_, show rsY Y hp f1 f2 sl = va_up (va_up Y (hp + 2) (Y 0)) 0 (Y 10) from ((if_neg hs0_).trans (if_pos hs1_)).trans (if_neg z0_)]; exact hT⟩) dX7_restore_56
      · have z0_ : f2 = 0 := by first | exact c_17 | exact Classical.not_not.mp c_17
        refine lv_bipush (v := (-5)) hx hb dX7_restore_20 (by decide +kernel) ?_
        have hr_ : rsR Y f1 f2 sl = -5 := ((if_neg hs0_).trans (if_pos hs1_)).trans (if_pos z0_)
        exact zr_i hx hb hr hlocks hS (⟨hr_.symm, by rw [hr_, if_neg (show ¬ (0 : Int32) ≤ -5 by decide), if_neg (show ¬ (0 : Int32) ≤ -5 by decide), show rsY Y hp f1 f2 sl = Y from ((if_neg hs0_).trans (if_pos hs1_)).trans (if_pos z0_)]; exact hT⟩) dX7_restore_22
    · refine lv_aload_n hx hb dX7_restore_0 rfl (lv_at hl 0 rfl) ?_
      refine lv_iload_n hx hb dX7_restore_1 rfl (lv_at hl 1 rfl) ?_
      refine zc_sqe (va_runV (As := [.int sl]) (rest := []) ⟨hx, hb, hml, hown, hts⟩ (c_X7_slotAt l V G Y hp hk f1 f2 n pd a kd nu mo sl hJ) (cwV 1 hts (zgV_ wsC_all uC_332 uC_334 uC_335 uC_336 uC_25) rfl rfl rfl (by decide +kernel) ⟨Nat.le_of_ble_eq_true rfl, Nat.le_of_ble_eq_true rfl⟩) (zPreV (B := fun H => zTP V G Y hp hk f1 f2 n pd a kd nu mo H) hT hE (zT_rt hE hT)) rfl rfl hl.1 rfl (lv_room (Nat.le_of_ble_eq_true rfl)) dX7_restore_2 ⟨Nat.le_of_ble_eq_true rfl, Nat.le_of_ble_eq_true rfl⟩) ?_
      refine zt_v (y := .null) (congrArg va_rf (show qSl G sl = none from ((if_neg hs0_).trans (if_neg hs1_)))) ?_
      refine lv_astore_nN (lv' := [(2, .null), (0, .ref (gM G 0)), (1, .int sl)]) hx hb dX7_restore_5 rfl hl (by decide) rfl (fun ls hl => ?_)
      refine lv_aload_nN hx hb dX7_restore_6 rfl (lv_at hl 0 rfl) ?_
      refine lv_ifnonnullN hx hb dX7_restore_7 ?_
      refine lv_bipush (v := (-2)) hx hb dX7_restore_10 (by decide +kernel) ?_
      have hr_ : rsR Y f1 f2 sl = -2 := ((if_neg hs0_).trans (if_neg hs1_))
      exact zr_i hx hb hr hlocks hS (⟨hr_.symm, by rw [hr_, if_neg (show ¬ (0 : Int32) ≤ -2 by decide), if_neg (show ¬ (0 : Int32) ≤ -2 by decide), show rsY Y hp f1 f2 sl = Y from ((if_neg hs0_).trans (if_neg hs1_))]; exact hT⟩) dX7_restore_12
set_option maxHeartbeats 4000000 in
set_option maxRecDepth 100000 in
theorem c_X7_set (l : Launch) (V : zV) (G : Nat → Nat) (Y : Nat → zA) (hp hk : Nat) (f1 f2 : Int32) (n : Nat) (pd : Nat → Int32) (a : Nat) (kd nu mo : Int32) (x v_ : Int32) (hJ : zInj 404 G) (hp7 : hp < 7) (hk6 : hk ≤ 6) (hwf : ∀ j, j < 11 → zWfA (Y j)) : Met l yX7_set wsX7_set (zR 4 0 0) (zPs V [.ref (gM G 0), .int x, .int v_] (fun U => zTP V G Y hp hk f1 f2 n pd a kd nu mo U.heap ∧ zST (zIn 404 G) U U.heap)) (zQi (fun r H => r = (kAdjR (aT (Y 0)) x v_) ∧ (zTP V G (adY Y hp x v_) (if 0 ≤ kAdjR (aT (Y 0)) x v_ then (hp + 1) % 7 else hp) (if 0 ≤ kAdjR (aT (Y 0)) x v_ then min (hk + 1) 6 else hk) f1 f2 n pd a kd nu mo H)) (zIn 404 G)) 0 0 (zIn 404 G) := by
  refine Met.ofW (cc := cX7_set) (maxL := 3) (ret := (some .int)) (by decide) rfl ?_
  intro p e s m args below meth c s₁ B hml hv
  obtain ⟨rfl, hP, hE⟩ := hv
  have hx := B.exec
  have hb := B.bytes
  have hr := B.returns
  have hts := atoms_spec (ws := wsX7_set) B.pre
  have hown : s.vm.findClass RX7 = some m.cls := findClass_of_methodNamed B.named
  have hlocks := B.notSynchronized
  have hl := lv_entry ([.ref (gM G 0), .int x, .int v_]) (n := 3) (Nat.le_of_ble_eq_true rfl)
  rw [lg_entry_eq]
  generalize (lg_sl ([.ref (gM G 0), .int x, .int v_]) ++ List.replicate (3 - (lg_sl ([.ref (gM G 0), .int x, .int v_])).length) Slot.unset).toArray = ls at hl ⊢
  have hl : lv_has ls 3 [(0, .ref (gM G 0)), (1, .int x), (2, .int v_)] := hl
  obtain ⟨hT, hX0_⟩ := hP
  have hS : va_S (zIn 404 G) s.heap s.heap [] := va_S.rf
  refine lv_aload_n hx hb dX7_set_0 rfl (lv_at hl 0 rfl) ?_
  refine zo_get 2 (.ref (gM G 1)) hx hb hts (fun x h => List.mem_cons_of_mem _ (hU_X7 x h)) hown hE (zT_c hT (c := 0) (by decide)) (show vwCl[7]? = some (RX7, TX7, 7) from rfl) (by decide) rfl (hts _ (List.mem_cons_of_mem _ uC_247)) (fun _ h9 => h9) dX7_set_1 ?_
  refine lv_aload_n hx hb dX7_set_4 rfl (lv_at hl 0 rfl) ?_
  refine zo_get 0 (.ref (gA G 0 0)) hx hb hts (fun x h => List.mem_cons_of_mem _ (hU_X7 x h)) hown hE (zT_c hT (c := 0) (by decide)) (show vwCl[7]? = some (RX7, TX7, 7) from rfl) (by decide) rfl (hts _ (List.mem_cons_of_mem _ uC_243)) (fun _ h9 => h9) dX7_set_5 ?_
  refine zc_v (va_runVN (As := [.ref (gA G 0 0)]) (rest := []) ⟨hx, hb, hml, hown, hts⟩ (c_X1_prepare l V G Y hp hk f1 f2 n pd a kd nu mo hJ (by omega) hwf) ⟨va_cnB 1 hts (zgB_ wsC_all uC_162) rfl rfl rfl (hE.2 (.methodLinkNest RX7 52 yX1_prepare "DrawerSlips") (List.mem_of_getElem? (i := 38) rfl)) (hts _ (List.mem_cons_of_mem _ uC_167)) (by decide +kernel) ⟨Nat.le_of_ble_eq_true rfl, Nat.le_of_ble_eq_true rfl⟩, (hts _ (List.mem_cons_of_mem _ uC_267)), (hts _ (List.mem_cons_of_mem _ uC_268))⟩ (zPreV (B := fun H => zTP V G Y hp hk f1 f2 n pd a kd nu mo H) hT hE (zT_rh hE hT)) rfl rfl hl.1 rfl (lv_room (Nat.le_of_ble_eq_true rfl)) dX7_set_8 ⟨Nat.le_of_ble_eq_true rfl, Nat.le_of_ble_eq_true rfl⟩) hS (fun _ h => h) (fun _ h => h) (fun H locs hQ_ _ _ hS => ?_)
  have hT := hQ_
  have hwf := zWf_up (k := (hp + 2)) (A := (Y 0)) hwf (hwf 0 (by omega))
  have hX : zST (zIn 36 (gA G 0)) s H := (hX0_.kept (fun a h1 h2 => hS.2.1 a h1 h2)).narrow (fun q h => zT_iA (by omega) h)
  refine lv_aload_n hx hb dX7_set_11 rfl (lv_at hl 0 rfl) ?_
  refine lv_aload_n hx hb dX7_set_12 rfl (lv_at hl 0 rfl) ?_
  refine zo_get 0 (.ref (gA G 0 0)) hx hb hts (fun x h => List.mem_cons_of_mem _ (hU_X7 x h)) hown hE (zT_c hT (c := 0) (by decide)) (show vwCl[7]? = some (RX7, TX7, 7) from rfl) (by decide) rfl (hts _ (List.mem_cons_of_mem _ uC_243)) (fun _ h9 => h9) dX7_set_13 ?_
  refine lv_iload_n hx hb dX7_set_16 rfl (lv_at hl 1 rfl) ?_
  refine lv_iload_n hx hb dX7_set_17 rfl (lv_at hl 2 rfl) ?_
  refine zc_i (va_runVN (As := [.int x, .int v_]) (rest := [.ref (gM G 0)]) ⟨hx, hb, hml, hown, hts⟩ (c_X0_adjust l V (gA G 0) (aF (Y 0)) (aT (Y 0)) (nI (aS (Y 0))) (aU (Y 0)) (aV (Y 0)) (aX (Y 0)) (aP (Y 0)) x v_ (zT_JA hJ (by omega))) ⟨va_cnB 2 hts (zgB_ wsC_all uC_55) rfl rfl rfl (hE.2 (.methodLinkNest RX7 56 yX0_adjust "DrawerSlips") (List.mem_of_getElem? (i := 43) rfl)) (hts _ (List.mem_cons_of_mem _ uC_73)) (by decide +kernel) ⟨Nat.le_of_ble_eq_true rfl, Nat.le_of_ble_eq_true rfl⟩, (hts _ (List.mem_cons_of_mem _ uC_269)), (hts _ (List.mem_cons_of_mem _ uC_270))⟩ (zPsV (B := fun U => va_P V.1 vwCl (zaW V (gA G 0) (aF (Y 0)) (aT (Y 0)) (nI (aS (Y 0))) (aU (Y 0)) (aV (Y 0)) (aX (Y 0)) (aP (Y 0))) U.heap ∧ zST (zIn 36 (gA G 0)) U U.heap) (fun _ _ _ _ h => ⟨h.1, zST.calling h.2⟩) (fun U hU hvm => by rw [hU]; exact ⟨(hT.1 0 (by omega)), (hX.moved hvm)⟩) hE (zT_ra hE hT (by omega))) rfl rfl hl.1 rfl (lv_room (Nat.le_of_ble_eq_true rfl)) dX7_set_18 ⟨Nat.le_of_ble_eq_true rfl, Nat.le_of_ble_eq_true rfl⟩) hS (fun q h => zT_iA (by omega) h) (fun q h => zT_iA (by omega) h) (fun r_ H locs hQ_ _ hk_ hS => ?_)
  obtain ⟨hr_, hQ_⟩ := hQ_
  subst hr_
  have hT := zT_arch (j := 0) (A' := kAdj (Y 0) x v_) hT hJ (by omega) hk_ hQ_
  have hwf := zWf_up (k := 0) (A := kAdj (Y 0) x v_) hwf ((hwf 0 (by omega)))
  refine zc_i (va_runV (As := [.int (kAdjR (aT (Y 0)) x v_)]) (rest := []) ⟨hx, hb, hml, hown, hts⟩ (c_X7_settled l V G (va_up (va_up Y (hp + 2) (Y 0)) 0 (kAdj (Y 0) x v_)) hp hk f1 f2 n pd a kd nu mo (kAdjR (aT (Y 0)) x v_) hJ (by omega) (by omega)) (cwV 1 hts (zgV_ wsC_all uC_263 uC_271 uC_272 uC_273 uC_25) rfl rfl rfl (by decide +kernel) ⟨Nat.le_of_ble_eq_true rfl, Nat.le_of_ble_eq_true rfl⟩) (zPreV (B := fun H => zTP V G (va_up (va_up Y (hp + 2) (Y 0)) 0 (kAdj (Y 0) x v_)) hp hk f1 f2 n pd a kd nu mo H) hT hE (zT_rt hE hT)) rfl rfl hl.1 rfl (lv_room (Nat.le_of_ble_eq_true rfl)) dX7_set_21 ⟨Nat.le_of_ble_eq_true rfl, Nat.le_of_ble_eq_true rfl⟩) hS (fun _ h => h) (fun _ h => h) (fun r_ H locs hQ_ _ _ hS => ?_)
  obtain ⟨hr_, hT⟩ := hQ_
  subst hr_
  exact zr_i hx hb hr hlocks hS (⟨rfl, hT⟩) dX7_set_24
