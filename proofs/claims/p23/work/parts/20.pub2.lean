def uWait (A : zA) (wr rk : Int32) : Int32 := if wr = 0 ∨ wr = 1 then kOn (kRank (aP A) wr rk 30) (-1) (fun k => aP A k 2) else -2
def uOfK (A : zA) (wh : Int32) (k : Nat) : Int32 := if wh = 0 then aP A k 3 else if wh = 1 then aP A k 4 else if wh = 2 then aP A k 4 + aP A k 5 - 1 else if wh = 3 then aF A 6 - aP A k 6 else if wh = 4 then (if kOldP (aF A) (aT A) (aP A) k then 1 else 0) else if wh = 5 then aP A k 7 else -2
def uOf (A : zA) (x wh : Int32) : Int32 := kOn (kFind (aP A) x 30) (-1) (uOfK A wh)
def uCount (A : zA) (n hk : Nat) (x : Int32) : Int32 := if x = 16 then nI n else if x = 17 then nI hk else kAmount (aF A) (aT A) (nI (aS A)) x
def uNextK (A : zA) (x : Int32) (k : Nat) : Int32 := if x = 0 then aP A k 2 else if x = 1 then kWhy (aF A) (aT A) (aP A) else aF A 6 + kMin (aF A) (aT A) (aP A) k
def uNext (A : zA) (x : Int32) : Int32 := if 0 ≤ x ∧ x ≤ 2 then kOn (kSelN (aF A) (aT A) (aP A)) (-6) (uNextK A x) else -2
def uJoined (A : zA) (wr d mm : Int32) : Int32 := if mSlip wr d mm then kOn (kHost (aP A) wr d mm 30) (-6) (fun k => aP A k 2) else -2
def uLogJ (A : zA) (wh : Int32) (j : Nat) : Int32 := if wh = 0 then aU A ((aS A - 1 - j) % 20) else if wh = 1 then aV A ((aS A - 1 - j) % 20) else if wh = 2 then aX A ((aS A - 1 - j) % 20) else -2
def uLog (A : zA) (ago wh : Int32) : Int32 := if 0 ≤ ago ∧ ago < 20 ∧ ago < nI (aS A) then uLogJ A wh ago.toNatClampNeg else -1
set_option maxHeartbeats 4000000 in
set_option maxRecDepth 100000 in
theorem c_X7_waiting (l : Launch) (V : zV) (G : Nat → Nat) (Y : Nat → zA) (hp hk : Nat) (f1 f2 : Int32) (n : Nat) (pd : Nat → Int32) (a : Nat) (kd nu mo : Int32) (wr rk : Int32) (hJ : zInj 404 G) : Met l yX7_waiting wsX7_waiting (zR 3 0 0) (zPc V [.ref (gM G 0), .int wr, .int rk] (fun H => zTP V G Y hp hk f1 f2 n pd a kd nu mo H)) (vp_Si (fun r => r = (uWait (Y 0) wr rk))) 0 0 (fun _ => False) := by
  refine Met.ofW (cc := cX7_waiting) (maxL := 4) (ret := (some .int)) (by decide) rfl ?_
  intro p e s m args below meth c s₁ B hml hv
  obtain ⟨rfl, hP, hE⟩ := hv
  have hx := B.exec
  have hb := B.bytes
  have hr := B.returns
  have hts := atoms_spec (ws := wsX7_waiting) B.pre
  have hown : s.vm.findClass RX7 = some m.cls := findClass_of_methodNamed B.named
  have hlocks := B.notSynchronized
  have hl := lv_entry ([.ref (gM G 0), .int wr, .int rk]) (n := 4) (Nat.le_of_ble_eq_true rfl)
  rw [lg_entry_eq]
  generalize (lg_sl ([.ref (gM G 0), .int wr, .int rk]) ++ List.replicate (4 - (lg_sl ([.ref (gM G 0), .int wr, .int rk])).length) Slot.unset).toArray = ls at hl ⊢
  have hl : lv_has ls 4 [(0, .ref (gM G 0)), (1, .int wr), (2, .int rk)] := hl
  have hT := hP
  refine lv_iload_n hx hb dX7_waiting_0 rfl (lv_at hl 1 rfl) ?_
  refine lv_if_eq (tgt := 12) hx hb dX7_waiting_1 (by decide) (fun c_1 => ?_) (fun c_1 => ?_)
  · refine lv_aload_n hx hb dX7_waiting_12 rfl (lv_at hl 0 rfl) ?_
    refine zo_get 0 (.ref (gA G 0 0)) hx hb hts (fun x h => List.mem_cons_of_mem _ (hU_X7 x h)) hown hE (zT_c hT (c := 0) (by decide)) (show vwCl[7]? = some (RX7, TX7, 7) from rfl) (by decide) rfl (hts _ (List.mem_cons_of_mem _ uC_243)) (fun _ h9 => h9) dX7_waiting_13 ?_
    refine lv_iload_n hx hb dX7_waiting_16 rfl (lv_at hl 1 rfl) ?_
    refine lv_iload_n hx hb dX7_waiting_17 rfl (lv_at hl 2 rfl) ?_
    refine zc_sqe (va_runVN (As := [.int wr, .int rk]) (rest := []) ⟨hx, hb, hml, hown, hts⟩ (c_X0_ranked l V (gA G 0) (aF (Y 0)) (aT (Y 0)) (nI (aS (Y 0))) (aU (Y 0)) (aV (Y 0)) (aX (Y 0)) (aP (Y 0)) wr rk) ⟨va_cnB 2 hts (zgB_ wsC_all uC_100) rfl rfl rfl (hE.2 (.methodLinkNest RX7 126 yX0_ranked "DrawerSlips") (List.mem_of_getElem? (i := 63) rfl)) (hts _ (List.mem_cons_of_mem _ uC_73)) (by decide +kernel) ⟨Nat.le_of_ble_eq_true rfl, Nat.le_of_ble_eq_true rfl⟩, (hts _ (List.mem_cons_of_mem _ uC_296)), (hts _ (List.mem_cons_of_mem _ uC_297))⟩ (zPreV (B := fun H => va_P V.1 vwCl (zaW V (gA G 0) (aF (Y 0)) (aT (Y 0)) (nI (aS (Y 0))) (aU (Y 0)) (aV (Y 0)) (aX (Y 0)) (aP (Y 0))) H) (hT.1 0 (by omega)) hE (za_ro hE (hT.1 0 (by omega)))) rfl rfl hl.1 rfl (lv_room (Nat.le_of_ble_eq_true rfl)) dX7_waiting_18 ⟨Nat.le_of_ble_eq_true rfl, Nat.le_of_ble_eq_true rfl⟩) ?_
    refine zo_astore_n (r := zad (gA G 0) (kRank (aP (Y 0)) wr rk 30)) (lv' := [(3, va_rf (zad (gA G 0) (kRank (aP (Y 0)) wr rk 30))), (0, .ref (gM G 0)), (1, .int wr), (2, .int rk)]) hx hb dX7_waiting_21 rfl hl (by decide) rfl (fun ls hl => ?_)
    refine zo_aload_n (r := zad (gA G 0) (kRank (aP (Y 0)) wr rk 30)) hx hb dX7_waiting_22 rfl (lv_at hl 0 rfl) ?_
    rcases hq_23 : kRank (aP (Y 0)) wr rk 30 with _ | k_23
    · refine zt_v (y := .null) (by first | rfl | (rw [hq_23]; rfl)) ?_
      rw [hq_23] at hl
      have hl : lv_has ls 4 [(3, .null), (0, .ref (gM G 0)), (1, .int wr), (2, .int rk)] := hl
      refine lv_ifnonnullN hx hb dX7_waiting_23 ?_
      refine lv_iconst (v := (-1)) hx hb dX7_waiting_26 (by decide +kernel) ?_
      refine lv_goto (tgt := 34) hx hb dX7_waiting_27 (by decide) ?_
      exact zr_si hx hb hr hlocks ((show uWait (Y 0) wr rk = (-1) from (if_pos (show wr = 0 ∨ wr = 1 from Or.inl c_1)).trans (show kOn (kRank (aP (Y 0)) wr rk 30) (-1) (fun k => aP (Y 0) k 2) = (-1) from kOn_n hq_23)).symm) dX7_waiting_34
    · refine zt_v (y := .ref (gA G 0 (k_23 + 6))) (by first | rfl | (rw [hq_23]; rfl)) ?_
      rw [hq_23] at hl
      have hl : lv_has ls 4 [(3, .ref (gA G 0 (k_23 + 6))), (0, .ref (gM G 0)), (1, .int wr), (2, .int rk)] := hl
      have hb_23 : k_23 < 30 := by first | exact (zFirst_lt hq_23).1 | exact (zBest_lt hq_23).1 | exact kSel_lt hq_23 | (have h_ := (zBest_lt hq_23).1; omega)
      refine lv_ifnonnull (tgt := 30) hx hb dX7_waiting_23 (by decide) ?_
      refine lv_aload_n hx hb dX7_waiting_30 rfl (lv_at hl 0 rfl) ?_
      refine zo_getN 2 (.int (aP (Y 0) k_23 2)) hx hb hts (fun x h => List.mem_cons_of_mem _ (hU_X5 x h)) hown hE (za_slip (hT.1 0 (by omega)) (i := k_23) (by omega)) (show vwCl[5]? = some (RX5, TX5, 8) from rfl) (by decide) rfl (List.mem_of_getElem? (i := 5) rfl) (fun _ h9 => h9) dX7_waiting_31 ?_
      exact zr_si hx hb hr hlocks ((show uWait (Y 0) wr rk = aP (Y 0) k_23 2 from (if_pos (show wr = 0 ∨ wr = 1 from Or.inl c_1)).trans (show kOn (kRank (aP (Y 0)) wr rk 30) (-1) (fun k => aP (Y 0) k 2) = aP (Y 0) k_23 2 from kOn_s hq_23)).symm) dX7_waiting_34
  · refine lv_iload_n hx hb dX7_waiting_4 rfl (lv_at hl 1 rfl) ?_
    refine lv_iconst (v := 1) hx hb dX7_waiting_5 (by decide +kernel) ?_
    refine lv_icmp_eq (tgt := 12) hx hb dX7_waiting_6 (by decide) (fun c_6 => ?_) (fun c_6 => ?_)
    · refine lv_aload_n hx hb dX7_waiting_12 rfl (lv_at hl 0 rfl) ?_
      refine zo_get 0 (.ref (gA G 0 0)) hx hb hts (fun x h => List.mem_cons_of_mem _ (hU_X7 x h)) hown hE (zT_c hT (c := 0) (by decide)) (show vwCl[7]? = some (RX7, TX7, 7) from rfl) (by decide) rfl (hts _ (List.mem_cons_of_mem _ uC_243)) (fun _ h9 => h9) dX7_waiting_13 ?_
      refine lv_iload_n hx hb dX7_waiting_16 rfl (lv_at hl 1 rfl) ?_
      refine lv_iload_n hx hb dX7_waiting_17 rfl (lv_at hl 2 rfl) ?_
      refine zc_sqe (va_runVN (As := [.int wr, .int rk]) (rest := []) ⟨hx, hb, hml, hown, hts⟩ (c_X0_ranked l V (gA G 0) (aF (Y 0)) (aT (Y 0)) (nI (aS (Y 0))) (aU (Y 0)) (aV (Y 0)) (aX (Y 0)) (aP (Y 0)) wr rk) ⟨va_cnB 2 hts (zgB_ wsC_all uC_100) rfl rfl rfl (hE.2 (.methodLinkNest RX7 126 yX0_ranked "DrawerSlips") (List.mem_of_getElem? (i := 63) rfl)) (hts _ (List.mem_cons_of_mem _ uC_73)) (by decide +kernel) ⟨Nat.le_of_ble_eq_true rfl, Nat.le_of_ble_eq_true rfl⟩, (hts _ (List.mem_cons_of_mem _ uC_296)), (hts _ (List.mem_cons_of_mem _ uC_297))⟩ (zPreV (B := fun H => va_P V.1 vwCl (zaW V (gA G 0) (aF (Y 0)) (aT (Y 0)) (nI (aS (Y 0))) (aU (Y 0)) (aV (Y 0)) (aX (Y 0)) (aP (Y 0))) H) (hT.1 0 (by omega)) hE (za_ro hE (hT.1 0 (by omega)))) rfl rfl hl.1 rfl (lv_room (Nat.le_of_ble_eq_true rfl)) dX7_waiting_18 ⟨Nat.le_of_ble_eq_true rfl, Nat.le_of_ble_eq_true rfl⟩) ?_
      refine zo_astore_n (r := zad (gA G 0) (kRank (aP (Y 0)) wr rk 30)) (lv' := [(3, va_rf (zad (gA G 0) (kRank (aP (Y 0)) wr rk 30))), (0, .ref (gM G 0)), (1, .int wr), (2, .int rk)]) hx hb dX7_waiting_21 rfl hl (by decide) rfl (fun ls hl => ?_)
      refine zo_aload_n (r := zad (gA G 0) (kRank (aP (Y 0)) wr rk 30)) hx hb dX7_waiting_22 rfl (lv_at hl 0 rfl) ?_
      rcases hq_23 : kRank (aP (Y 0)) wr rk 30 with _ | k_23
      · refine zt_v (y := .null) (by first | rfl | (rw [hq_23]; rfl)) ?_
        rw [hq_23] at hl
        have hl : lv_has ls 4 [(3, .null), (0, .ref (gM G 0)), (1, .int wr), (2, .int rk)] := hl
        refine lv_ifnonnullN hx hb dX7_waiting_23 ?_
        refine lv_iconst (v := (-1)) hx hb dX7_waiting_26 (by decide +kernel) ?_
        refine lv_goto (tgt := 34) hx hb dX7_waiting_27 (by decide) ?_
        exact zr_si hx hb hr hlocks ((show uWait (Y 0) wr rk = (-1) from (if_pos (show wr = 0 ∨ wr = 1 from Or.inr c_6)).trans (show kOn (kRank (aP (Y 0)) wr rk 30) (-1) (fun k => aP (Y 0) k 2) = (-1) from kOn_n hq_23)).symm) dX7_waiting_34
      · refine zt_v (y := .ref (gA G 0 (k_23 + 6))) (by first | rfl | (rw [hq_23]; rfl)) ?_
        rw [hq_23] at hl
        have hl : lv_has ls 4 [(3, .ref (gA G 0 (k_23 + 6))), (0, .ref (gM G 0)), (1, .int wr), (2, .int rk)] := hl
        have hb_23 : k_23 < 30 := by first | exact (zFirst_lt hq_23).1 | exact (zBest_lt hq_23).1 | exact kSel_lt hq_23 | (have h_ := (zBest_lt hq_23).1; omega)
        refine lv_ifnonnull (tgt := 30) hx hb dX7_waiting_23 (by decide) ?_
        refine lv_aload_n hx hb dX7_waiting_30 rfl (lv_at hl 0 rfl) ?_
        refine zo_getN 2 (.int (aP (Y 0) k_23 2)) hx hb hts (fun x h => List.mem_cons_of_mem _ (hU_X5 x h)) hown hE (za_slip (hT.1 0 (by omega)) (i := k_23) (by omega)) (show vwCl[5]? = some (RX5, TX5, 8) from rfl) (by decide) rfl (List.mem_of_getElem? (i := 5) rfl) (fun _ h9 => h9) dX7_waiting_31 ?_
        exact zr_si hx hb hr hlocks ((show uWait (Y 0) wr rk = aP (Y 0) k_23 2 from (if_pos (show wr = 0 ∨ wr = 1 from Or.inr c_6)).trans (show kOn (kRank (aP (Y 0)) wr rk 30) (-1) (fun k => aP (Y 0) k 2) = aP (Y 0) k_23 2 from kOn_s hq_23)).symm) dX7_waiting_34
    · refine lv_bipush (v := (-2)) hx hb dX7_waiting_9 (by decide +kernel) ?_
      exact zr_si hx hb hr hlocks ((show uWait (Y 0) wr rk = -2 from if_neg (fun h => h.elim c_1 c_6)).symm) dX7_waiting_11
set_option maxHeartbeats 4000000 in
set_option maxRecDepth 100000 in
theorem c_X7_of (l : Launch) (V : zV) (G : Nat → Nat) (Y : Nat → zA) (hp hk : Nat) (f1 f2 : Int32) (n : Nat) (pd : Nat → Int32) (a : Nat) (kd nu mo : Int32) (x wh : Int32) (hJ : zInj 404 G) : Met l yX7_of wsX7_of (zR 2 0 0) (zPc V [.ref (gM G 0), .int x, .int wh] (fun H => zTP V G Y hp hk f1 f2 n pd a kd nu mo H)) (vp_Si (fun r => r = (uOf (Y 0) x wh))) 0 0 (fun _ => False) := by
  refine Met.ofW (cc := cX7_of) (maxL := 4) (ret := (some .int)) (by decide) rfl ?_
  intro p e s m args below meth c s₁ B hml hv
  obtain ⟨rfl, hP, hE⟩ := hv
  have hx := B.exec
  have hb := B.bytes
  have hr := B.returns
  have hts := atoms_spec (ws := wsX7_of) B.pre
  have hown : s.vm.findClass RX7 = some m.cls := findClass_of_methodNamed B.named
  have hlocks := B.notSynchronized
  have hl := lv_entry ([.ref (gM G 0), .int x, .int wh]) (n := 4) (Nat.le_of_ble_eq_true rfl)
  rw [lg_entry_eq]
  generalize (lg_sl ([.ref (gM G 0), .int x, .int wh]) ++ List.replicate (4 - (lg_sl ([.ref (gM G 0), .int x, .int wh])).length) Slot.unset).toArray = ls at hl ⊢
  have hl : lv_has ls 4 [(0, .ref (gM G 0)), (1, .int x), (2, .int wh)] := hl
  have hT := hP
  refine lv_aload_n hx hb dX7_of_0 rfl (lv_at hl 0 rfl) ?_
  refine zo_get 0 (.ref (gA G 0 0)) hx hb hts (fun x h => List.mem_cons_of_mem _ (hU_X7 x h)) hown hE (zT_c hT (c := 0) (by decide)) (show vwCl[7]? = some (RX7, TX7, 7) from rfl) (by decide) rfl (hts _ (List.mem_cons_of_mem _ uC_243)) (fun _ h9 => h9) dX7_of_1 ?_
  refine lv_iload_n hx hb dX7_of_4 rfl (lv_at hl 1 rfl) ?_
  refine zc_sqe (va_runVN (As := [.int x]) (rest := []) ⟨hx, hb, hml, hown, hts⟩ (c_X0_find l V (gA G 0) (aF (Y 0)) (aT (Y 0)) (nI (aS (Y 0))) (aU (Y 0)) (aV (Y 0)) (aX (Y 0)) (aP (Y 0)) x) ⟨va_cnB 1 hts (zgB_ wsC_all uC_80) rfl rfl rfl (hE.2 (.methodLinkNest RX7 100 yX0_find "DrawerSlips") (List.mem_of_getElem? (i := 59) rfl)) (hts _ (List.mem_cons_of_mem _ uC_73)) (by decide +kernel) ⟨Nat.le_of_ble_eq_true rfl, Nat.le_of_ble_eq_true rfl⟩, (hts _ (List.mem_cons_of_mem _ uC_85)), (hts _ (List.mem_cons_of_mem _ uC_86))⟩ (zPreV (B := fun H => va_P V.1 vwCl (zaW V (gA G 0) (aF (Y 0)) (aT (Y 0)) (nI (aS (Y 0))) (aU (Y 0)) (aV (Y 0)) (aX (Y 0)) (aP (Y 0))) H) (hT.1 0 (by omega)) hE (za_ro hE (hT.1 0 (by omega)))) rfl rfl hl.1 rfl (lv_room (Nat.le_of_ble_eq_true rfl)) dX7_of_5 ⟨Nat.le_of_ble_eq_true rfl, Nat.le_of_ble_eq_true rfl⟩) ?_
  refine zo_astore_n (r := zad (gA G 0) (kFind (aP (Y 0)) x 30)) (lv' := [(3, va_rf (zad (gA G 0) (kFind (aP (Y 0)) x 30))), (0, .ref (gM G 0)), (1, .int x), (2, .int wh)]) hx hb dX7_of_8 rfl hl (by decide) rfl (fun ls hl => ?_)
  refine zo_aload_n (r := zad (gA G 0) (kFind (aP (Y 0)) x 30)) hx hb dX7_of_9 rfl (lv_at hl 0 rfl) ?_
  rcases hq_10 : kFind (aP (Y 0)) x 30 with _ | k_10
  · refine zt_v (y := .null) (by first | rfl | (rw [hq_10]; rfl)) ?_
    rw [hq_10] at hl
    have hl : lv_has ls 4 [(3, .null), (0, .ref (gM G 0)), (1, .int x), (2, .int wh)] := hl
    refine lv_ifnonnullN hx hb dX7_of_10 ?_
    refine lv_iconst (v := (-1)) hx hb dX7_of_13 (by decide +kernel) ?_
    exact zr_si hx hb hr hlocks ((kOn_n hq_10).symm) dX7_of_14
  · refine zt_v (y := .ref (gA G 0 (k_10 + 6))) (by first | rfl | (rw [hq_10]; rfl)) ?_
    rw [hq_10] at hl
    have hl : lv_has ls 4 [(3, .ref (gA G 0 (k_10 + 6))), (0, .ref (gM G 0)), (1, .int x), (2, .int wh)] := hl
    have hb_10 : k_10 < 30 := by first | exact (zFirst_lt hq_10).1 | exact (zBest_lt hq_10).1 | exact kSel_lt hq_10 | (have h_ := (zBest_lt hq_10).1; omega)
    refine lv_ifnonnull (tgt := 15) hx hb dX7_of_10 (by decide) ?_
    refine lv_iload_n hx hb dX7_of_15 rfl (lv_at hl 3 rfl) ?_
    rcases z_rng wh 6 (by decide) with ⟨k_, hk_, hc_⟩ | hc_
    · rcases (show k_ = 0 ∨ k_ = 1 ∨ k_ = 2 ∨ k_ = 3 ∨ k_ = 4 ∨ k_ = 5 by omega) with rfl | rfl | rfl | rfl | rfl | rfl
      · have hc_ : wh = 0 := hc_
        refine lv_tableIn (off := 40) (tgt := 56) hx hb dX7_of_16 (by rw [hc_]; decide) (by rw [hc_]; decide) (by rw [hc_]; rfl) (by decide) ?_
        refine lv_aload_n hx hb dX7_of_56 rfl (lv_at hl 0 rfl) ?_
        refine zo_getN 3 (.int (aP (Y 0) k_10 3)) hx hb hts (fun x h => List.mem_cons_of_mem _ (hU_X5 x h)) hown hE (za_slip (hT.1 0 (by omega)) (i := k_10) (by omega)) (show vwCl[5]? = some (RX5, TX5, 8) from rfl) (by decide) rfl (List.mem_of_getElem? (i := 7) rfl) (fun _ h9 => h9) dX7_of_57 ?_
        exact zr_si hx hb hr hlocks (by rw [(show uOf (Y 0) x wh = uOfK (Y 0) wh k_10 from kOn_s hq_10), hc_]; rfl) dX7_of_60
      · have hc_ : wh = 1 := hc_
        refine lv_tableIn (off := 45) (tgt := 61) hx hb dX7_of_16 (by rw [hc_]; decide) (by rw [hc_]; decide) (by rw [hc_]; rfl) (by decide) ?_
        refine lv_aload_n hx hb dX7_of_61 rfl (lv_at hl 0 rfl) ?_
        refine zo_getN 4 (.int (aP (Y 0) k_10 4)) hx hb hts (fun x h => List.mem_cons_of_mem _ (hU_X5 x h)) hown hE (za_slip (hT.1 0 (by omega)) (i := k_10) (by omega)) (show vwCl[5]? = some (RX5, TX5, 8) from rfl) (by decide) rfl (List.mem_of_getElem? (i := 9) rfl) (fun _ h9 => h9) dX7_of_62 ?_
        exact zr_si hx hb hr hlocks (by rw [(show uOf (Y 0) x wh = uOfK (Y 0) wh k_10 from kOn_s hq_10), hc_]; rfl) dX7_of_65
      · have hc_ : wh = 2 := hc_
        refine lv_tableIn (off := 50) (tgt := 66) hx hb dX7_of_16 (by rw [hc_]; decide) (by rw [hc_]; decide) (by rw [hc_]; rfl) (by decide) ?_
        refine lv_aload_n hx hb dX7_of_66 rfl (lv_at hl 0 rfl) ?_
        refine zc_se (va_runVN (As := []) (rest := []) ⟨hx, hb, hml, hown, hts⟩ (c_X5_last l V (gA G 0 (k_10 + 6)) (zch (gA G 0) (k_10 + 1)) (aP (Y 0) k_10)) ⟨va_cnB 0 hts (zgB_ wsC_all uC_60) rfl rfl rfl (hE.2 (.methodLinkNest RX7 112 yX5_last "DrawerSlips") (List.mem_of_getElem? (i := 60) rfl)) (hts _ (List.mem_cons_of_mem _ uC_21)) (by decide +kernel) ⟨Nat.le_of_ble_eq_true rfl, Nat.le_of_ble_eq_true rfl⟩, (hts _ (List.mem_cons_of_mem _ uC_64)), (hts _ (List.mem_cons_of_mem _ uC_65))⟩ (zPreV (B := fun H => va_at V.1 vwCl (gA G 0 (k_10 + 6), .inr (5, zsO (zch (gA G 0) (k_10 + 1)) (aP (Y 0) k_10))) H) (za_slip (hT.1 0 (by omega)) (i := k_10) (by omega)) hE (za_rs hE (hT.1 0 (by omega)) (i := k_10) (by omega))) rfl rfl hl.1 rfl (lv_room (Nat.le_of_ble_eq_true rfl)) dX7_of_67 ⟨Nat.le_of_ble_eq_true rfl, Nat.le_of_ble_eq_true rfl⟩) ?_
        exact zr_si hx hb hr hlocks (by rw [(show uOf (Y 0) x wh = uOfK (Y 0) wh k_10 from kOn_s hq_10), hc_]; rfl) dX7_of_70
      · have hc_ : wh = 3 := hc_
        refine lv_tableIn (off := 55) (tgt := 71) hx hb dX7_of_16 (by rw [hc_]; decide) (by rw [hc_]; decide) (by rw [hc_]; rfl) (by decide) ?_
        refine lv_aload_n hx hb dX7_of_71 rfl (lv_at hl 1 rfl) ?_
        refine zo_get 0 (.ref (gA G 0 0)) hx hb hts (fun x h => List.mem_cons_of_mem _ (hU_X7 x h)) hown hE (zT_c hT (c := 0) (by decide)) (show vwCl[7]? = some (RX7, TX7, 7) from rfl) (by decide) rfl (hts _ (List.mem_cons_of_mem _ uC_243)) (fun _ h9 => h9) dX7_of_72 ?_
        refine lv_aload_n hx hb dX7_of_75 rfl (lv_at hl 0 rfl) ?_
        refine zc_se (va_runVN (As := [.ref (gA G 0 (k_10 + 6))]) (rest := []) ⟨hx, hb, hml, hown, hts⟩ (c_X0_age l V (gA G 0) (aF (Y 0)) (aT (Y 0)) (nI (aS (Y 0))) (aU (Y 0)) (aV (Y 0)) (aX (Y 0)) (aP (Y 0)) k_10 (by omega)) ⟨va_cnB 1 hts (zgB_ wsC_all uC_82) rfl rfl rfl (hE.2 (.methodLinkNest RX7 115 yX0_age "DrawerSlips") (List.mem_of_getElem? (i := 61) rfl)) (hts _ (List.mem_cons_of_mem _ uC_73)) (by decide +kernel) ⟨Nat.le_of_ble_eq_true rfl, Nat.le_of_ble_eq_true rfl⟩, (hts _ (List.mem_cons_of_mem _ uC_91)), (hts _ (List.mem_cons_of_mem _ uC_92))⟩ (zPreV (B := fun H => va_P V.1 vwCl (zaW V (gA G 0) (aF (Y 0)) (aT (Y 0)) (nI (aS (Y 0))) (aU (Y 0)) (aV (Y 0)) (aX (Y 0)) (aP (Y 0))) H) (hT.1 0 (by omega)) hE (za_ro hE (hT.1 0 (by omega)))) rfl rfl hl.1 rfl (lv_room (Nat.le_of_ble_eq_true rfl)) dX7_of_76 ⟨Nat.le_of_ble_eq_true rfl, Nat.le_of_ble_eq_true rfl⟩) ?_
        exact zr_si hx hb hr hlocks (by rw [(show uOf (Y 0) x wh = uOfK (Y 0) wh k_10 from kOn_s hq_10), hc_]; rfl) dX7_of_79
      · have hc_ : wh = 4 := hc_
        refine lv_tableIn (off := 64) (tgt := 80) hx hb dX7_of_16 (by rw [hc_]; decide) (by rw [hc_]; decide) (by rw [hc_]; rfl) (by decide) ?_
        refine lv_aload_n hx hb dX7_of_80 rfl (lv_at hl 1 rfl) ?_
        refine zo_get 0 (.ref (gA G 0 0)) hx hb hts (fun x h => List.mem_cons_of_mem _ (hU_X7 x h)) hown hE (zT_c hT (c := 0) (by decide)) (show vwCl[7]? = some (RX7, TX7, 7) from rfl) (by decide) rfl (hts _ (List.mem_cons_of_mem _ uC_243)) (fun _ h9 => h9) dX7_of_81 ?_
        refine lv_aload_n hx hb dX7_of_84 rfl (lv_at hl 0 rfl) ?_
        refine zc_se (va_runVN (As := [.ref (gA G 0 (k_10 + 6))]) (rest := []) ⟨hx, hb, hml, hown, hts⟩ (c_X0_isTooOld l V (gA G 0) (aF (Y 0)) (aT (Y 0)) (nI (aS (Y 0))) (aU (Y 0)) (aV (Y 0)) (aX (Y 0)) (aP (Y 0)) k_10 (by omega)) ⟨va_cnB 1 hts (zgB_ wsC_all uC_104) rfl rfl rfl (hE.2 (.methodLinkNest RX7 119 yX0_isTooOld "DrawerSlips") (List.mem_of_getElem? (i := 62) rfl)) (hts _ (List.mem_cons_of_mem _ uC_73)) (by decide +kernel) ⟨Nat.le_of_ble_eq_true rfl, Nat.le_of_ble_eq_true rfl⟩, (hts _ (List.mem_cons_of_mem _ uC_120)), (hts _ (List.mem_cons_of_mem _ uC_121))⟩ (zPreV (B := fun H => va_P V.1 vwCl (zaW V (gA G 0) (aF (Y 0)) (aT (Y 0)) (nI (aS (Y 0))) (aU (Y 0)) (aV (Y 0)) (aX (Y 0)) (aP (Y 0))) H) (hT.1 0 (by omega)) hE (za_ro hE (hT.1 0 (by omega)))) rfl rfl hl.1 rfl (lv_room (Nat.le_of_ble_eq_true rfl)) dX7_of_85 ⟨Nat.le_of_ble_eq_true rfl, Nat.le_of_ble_eq_true rfl⟩) ?_
        refine zbp_eq (P := kOldP (aF (Y 0)) (aT (Y 0)) (aP (Y 0)) k_10) (tgt := 95) hx hb dX7_of_88 (by decide) (fun c_88 => ?_) (fun c_88 => ?_)
        · refine lv_iconst (v := 0) hx hb dX7_of_95 (by decide +kernel) ?_
          exact zr_si hx hb hr hlocks (by rw [(show uOf (Y 0) x wh = uOfK (Y 0) wh k_10 from kOn_s hq_10), hc_]; exact (if_neg c_88).symm) dX7_of_96
        · refine lv_iconst (v := 1) hx hb dX7_of_91 (by decide +kernel) ?_
          refine lv_goto (tgt := 96) hx hb dX7_of_92 (by decide) ?_
          exact zr_si hx hb hr hlocks (by rw [(show uOf (Y 0) x wh = uOfK (Y 0) wh k_10 from kOn_s hq_10), hc_]; exact (if_pos c_88).symm) dX7_of_96
      · have hc_ : wh = 5 := hc_
        refine lv_tableIn (off := 81) (tgt := 97) hx hb dX7_of_16 (by rw [hc_]; decide) (by rw [hc_]; decide) (by rw [hc_]; rfl) (by decide) ?_
        refine lv_aload_n hx hb dX7_of_97 rfl (lv_at hl 0 rfl) ?_
        refine zo_getN 7 (.int (aP (Y 0) k_10 7)) hx hb hts (fun x h => List.mem_cons_of_mem _ (hU_X5 x h)) hown hE (za_slip (hT.1 0 (by omega)) (i := k_10) (by omega)) (show vwCl[5]? = some (RX5, TX5, 8) from rfl) (by decide) rfl (List.mem_of_getElem? (i := 13) rfl) (fun _ h9 => h9) dX7_of_98 ?_
        exact zr_si hx hb hr hlocks (by rw [(show uOf (Y 0) x wh = uOfK (Y 0) wh k_10 from kOn_s hq_10), hc_]; rfl) dX7_of_101
    · have hne_ : ¬ wh = 0 ∧ ¬ wh = 1 ∧ ¬ wh = 2 ∧ ¬ wh = 3 ∧ ¬ wh = 4 ∧ ¬ wh = 5 := by
        refine ⟨?_, ?_, ?_, ?_, ?_, ?_⟩ <;> (intro e_; rw [e_] at hc_; revert hc_; decide)
      refine lv_tableOut (tgt := 102) hx hb dX7_of_16 hc_ (by decide) ?_
      refine lv_bipush (v := (-2)) hx hb dX7_of_102 (by decide +kernel) ?_
      exact zr_si hx hb hr hlocks (by rw [(show uOf (Y 0) x wh = uOfK (Y 0) wh k_10 from kOn_s hq_10), uOfK, if_neg hne_.1, if_neg hne_.2.1, if_neg hne_.2.2.1, if_neg hne_.2.2.2.1, if_neg hne_.2.2.2.2.1, if_neg hne_.2.2.2.2.2]) dX7_of_104
set_option maxHeartbeats 4000000 in
set_option maxRecDepth 100000 in
theorem c_X7_count (l : Launch) (V : zV) (G : Nat → Nat) (Y : Nat → zA) (hp hk : Nat) (f1 f2 : Int32) (n : Nat) (pd : Nat → Int32) (a : Nat) (kd nu mo : Int32) (x : Int32) (hJ : zInj 404 G) (hk6 : hk ≤ 6) : Met l yX7_count wsX7_count (zR 2 0 0) (zPc V [.ref (gM G 0), .int x] (fun H => zTP V G Y hp hk f1 f2 n pd a kd nu mo H)) (vp_Si (fun r => r = (uCount (Y 0) n hk x))) 0 0 (fun _ => False) := by
  refine Met.ofW (cc := cX7_count) (maxL := 2) (ret := (some .int)) (by decide) rfl ?_
  intro p e s m args below meth c s₁ B hml hv
  obtain ⟨rfl, hP, hE⟩ := hv
  have hx := B.exec
  have hb := B.bytes
  have hr := B.returns
  have hts := atoms_spec (ws := wsX7_count) B.pre
  have hown : s.vm.findClass RX7 = some m.cls := findClass_of_methodNamed B.named
  have hlocks := B.notSynchronized
  have hl := lv_entry ([.ref (gM G 0), .int x]) (n := 2) (Nat.le_of_ble_eq_true rfl)
  rw [lg_entry_eq]
  generalize (lg_sl ([.ref (gM G 0), .int x]) ++ List.replicate (2 - (lg_sl ([.ref (gM G 0), .int x])).length) Slot.unset).toArray = ls at hl ⊢
  have hl : lv_has ls 2 [(0, .ref (gM G 0)), (1, .int x)] := hl
  have hT := hP
  refine lv_iload_n hx hb dX7_count_0 rfl (lv_at hl 1 rfl) ?_
  by_cases hn0_ : x = 16
  · have hc_ : x = 16 := hn0_
    refine lv_lookup (off := 27) (tgt := 28) hx hb dX7_count_1 (by decide) (by rw [hc_]; rfl) (by decide) ?_
    refine lv_aload_n hx hb dX7_count_28 rfl (lv_at hl 0 rfl) ?_
    refine zo_get 5 (.ref (gQ G 0)) hx hb hts (fun x h => List.mem_cons_of_mem _ (hU_X7 x h)) hown hE (zT_c hT (c := 0) (by decide)) (show vwCl[7]? = some (RX7, TX7, 7) from rfl) (by decide) rfl (hts _ (List.mem_cons_of_mem _ uC_255)) (fun _ h9 => h9) dX7_count_29 ?_
    refine zo_getN 1 (.int (nI n)) hx hb hts (fun x h => List.mem_cons_of_mem _ (hU_X3 x h)) hown hE (zq_p hT.2.1) (show vwCl[3]? = some (RX3, TX3, 2) from rfl) (by decide) rfl (List.mem_of_getElem? (i := 22) rfl) (fun _ h9 => h9) dX7_count_32 ?_
    exact zr_si hx hb hr hlocks ((show uCount (Y 0) n hk x = nI n from if_pos hc_).symm) dX7_count_35
  · by_cases hn1_ : x = 17
    · have hc_ : x = 17 := hn1_
      refine lv_lookup (off := 35) (tgt := 36) hx hb dX7_count_1 (by decide) (by rw [hc_]; rfl) (by decide) ?_
      refine lv_aload_n hx hb dX7_count_36 rfl (lv_at hl 0 rfl) ?_
      refine zo_get 2 (.ref (gM G 1)) hx hb hts (fun x h => List.mem_cons_of_mem _ (hU_X7 x h)) hown hE (zT_c hT (c := 0) (by decide)) (show vwCl[7]? = some (RX7, TX7, 7) from rfl) (by decide) rfl (hts _ (List.mem_cons_of_mem _ uC_247)) (fun _ h9 => h9) dX7_count_37 ?_
      refine zo_getN 2 (.int (nI hk)) hx hb hts (fun x h => List.mem_cons_of_mem _ (hU_X1 x h)) hown hE (zT_c hT (c := 1) (by decide)) (show vwCl[1]? = some (RX1, TX1, 3) from rfl) (by decide) rfl (List.mem_of_getElem? (i := 18) rfl) (fun _ h9 => h9) dX7_count_40 ?_
      exact zr_si hx hb hr hlocks ((show uCount (Y 0) n hk x = nI hk from (if_neg hn0_).trans (if_pos hc_)).symm) dX7_count_43
    · refine lv_lookup (off := 43) (tgt := 44) hx hb dX7_count_1 (by decide) ((lv_osw hn0_ rfl).trans ((lv_osw hn1_ rfl).trans (rfl))) (by decide) ?_
      refine lv_aload_n hx hb dX7_count_44 rfl (lv_at hl 0 rfl) ?_
      refine zo_get 0 (.ref (gA G 0 0)) hx hb hts (fun x h => List.mem_cons_of_mem _ (hU_X7 x h)) hown hE (zT_c hT (c := 0) (by decide)) (show vwCl[7]? = some (RX7, TX7, 7) from rfl) (by decide) rfl (hts _ (List.mem_cons_of_mem _ uC_243)) (fun _ h9 => h9) dX7_count_45 ?_
      refine lv_iload_n hx hb dX7_count_48 rfl (lv_at hl 1 rfl) ?_
      refine zc_se (va_runVN (As := [.int x]) (rest := []) ⟨hx, hb, hml, hown, hts⟩ (c_X0_amount l V (gA G 0) (aF (Y 0)) (aT (Y 0)) (nI (aS (Y 0))) (aU (Y 0)) (aV (Y 0)) (aX (Y 0)) (aP (Y 0)) x) ⟨va_cnB 1 hts (zgB_ wsC_all uC_105) rfl rfl rfl (hE.2 (.methodLinkNest RX7 158 yX0_amount "DrawerSlips") (List.mem_of_getElem? (i := 69) rfl)) (hts _ (List.mem_cons_of_mem _ uC_73)) (by decide +kernel) ⟨Nat.le_of_ble_eq_true rfl, Nat.le_of_ble_eq_true rfl⟩, (hts _ (List.mem_cons_of_mem _ uC_308)), (hts _ (List.mem_cons_of_mem _ uC_309))⟩ (zPreV (B := fun H => va_P V.1 vwCl (zaW V (gA G 0) (aF (Y 0)) (aT (Y 0)) (nI (aS (Y 0))) (aU (Y 0)) (aV (Y 0)) (aX (Y 0)) (aP (Y 0))) H) (hT.1 0 (by omega)) hE (za_ro hE (hT.1 0 (by omega)))) rfl rfl hl.1 rfl (lv_room (Nat.le_of_ble_eq_true rfl)) dX7_count_49 ⟨Nat.le_of_ble_eq_true rfl, Nat.le_of_ble_eq_true rfl⟩) ?_
      exact zr_si hx hb hr hlocks ((show uCount (Y 0) n hk x = kAmount (aF (Y 0)) (aT (Y 0)) (nI (aS (Y 0))) x from (if_neg hn0_).trans (if_neg hn1_)).symm) dX7_count_52
set_option maxHeartbeats 4000000 in
set_option maxRecDepth 100000 in
theorem c_X7_next (l : Launch) (V : zV) (G : Nat → Nat) (Y : Nat → zA) (hp hk : Nat) (f1 f2 : Int32) (n : Nat) (pd : Nat → Int32) (a : Nat) (kd nu mo : Int32) (x : Int32) (hJ : zInj 404 G) : Met l yX7_next wsX7_next (zR 3 0 0) (zPc V [.ref (gM G 0), .int x] (fun H => zTP V G Y hp hk f1 f2 n pd a kd nu mo H)) (vp_Si (fun r => r = (uNext (Y 0) x))) 0 0 (fun _ => False) := by
  refine Met.ofW (cc := cX7_next) (maxL := 4) (ret := (some .int)) (by decide) rfl ?_
  intro p e s m args below meth c s₁ B hml hv
  obtain ⟨rfl, hP, hE⟩ := hv
  have hx := B.exec
  have hb := B.bytes
  have hr := B.returns
  have hts := atoms_spec (ws := wsX7_next) B.pre
  have hown : s.vm.findClass RX7 = some m.cls := findClass_of_methodNamed B.named
  have hlocks := B.notSynchronized
  have hl := lv_entry ([.ref (gM G 0), .int x]) (n := 4) (Nat.le_of_ble_eq_true rfl)
  rw [lg_entry_eq]
  generalize (lg_sl ([.ref (gM G 0), .int x]) ++ List.replicate (4 - (lg_sl ([.ref (gM G 0), .int x])).length) Slot.unset).toArray = ls at hl ⊢
  have hl : lv_has ls 4 [(0, .ref (gM G 0)), (1, .int x)] := hl
  have hT := hP
  refine lv_iload_n hx hb dX7_next_0 rfl (lv_at hl 1 rfl) ?_
  refine lv_if_lt (tgt := 9) hx hb dX7_next_1 (by decide) (fun c_1 => ?_) (fun c_1 => ?_)
  · refine lv_bipush (v := (-2)) hx hb dX7_next_9 (by decide +kernel) ?_
    exact zr_si hx hb hr hlocks ((show uNext (Y 0) x = (-2) from if_neg (fun h => z_lt' c_1 h.1)).symm) dX7_next_11
  · refine lv_iload_n hx hb dX7_next_4 rfl (lv_at hl 1 rfl) ?_
    refine lv_iconst (v := 2) hx hb dX7_next_5 (by decide +kernel) ?_
    refine lv_icmp_le (tgt := 12) hx hb dX7_next_6 (by decide) (fun c_6 => ?_) (fun c_6 => ?_)
    · refine lv_aload_n hx hb dX7_next_12 rfl (lv_at hl 0 rfl) ?_
      refine zo_get 0 (.ref (gA G 0 0)) hx hb hts (fun x h => List.mem_cons_of_mem _ (hU_X7 x h)) hown hE (zT_c hT (c := 0) (by decide)) (show vwCl[7]? = some (RX7, TX7, 7) from rfl) (by decide) rfl (hts _ (List.mem_cons_of_mem _ uC_243)) (fun _ h9 => h9) dX7_next_13 ?_
      refine zc_se (va_runVN (As := []) (rest := []) ⟨hx, hb, hml, hown, hts⟩ (c_X0_reason l V (gA G 0) (aF (Y 0)) (aT (Y 0)) (nI (aS (Y 0))) (aU (Y 0)) (aV (Y 0)) (aX (Y 0)) (aP (Y 0))) ⟨va_cnB 0 hts (zgB_ wsC_all uC_109) rfl rfl rfl (hE.2 (.methodLinkNest RX7 161 yX0_reason "DrawerSlips") (List.mem_of_getElem? (i := 70) rfl)) (hts _ (List.mem_cons_of_mem _ uC_73)) (by decide +kernel) ⟨Nat.le_of_ble_eq_true rfl, Nat.le_of_ble_eq_true rfl⟩, (hts _ (List.mem_cons_of_mem _ uC_142)), (hts _ (List.mem_cons_of_mem _ uC_143))⟩ (zPreV (B := fun H => va_P V.1 vwCl (zaW V (gA G 0) (aF (Y 0)) (aT (Y 0)) (nI (aS (Y 0))) (aU (Y 0)) (aV (Y 0)) (aX (Y 0)) (aP (Y 0))) H) (hT.1 0 (by omega)) hE (za_ro hE (hT.1 0 (by omega)))) rfl rfl hl.1 rfl (lv_room (Nat.le_of_ble_eq_true rfl)) dX7_next_16 ⟨Nat.le_of_ble_eq_true rfl, Nat.le_of_ble_eq_true rfl⟩) ?_
      refine lv_istore_n (lv' := [(2, .int (kWhy (aF (Y 0)) (aT (Y 0)) (aP (Y 0)))), (0, .ref (gM G 0)), (1, .int x)]) hx hb dX7_next_19 rfl hl (by decide) rfl (fun ls hl => ?_)
      refine lv_aload_n hx hb dX7_next_20 rfl (lv_at hl 1 rfl) ?_
      refine zo_get 0 (.ref (gA G 0 0)) hx hb hts (fun x h => List.mem_cons_of_mem _ (hU_X7 x h)) hown hE (zT_c hT (c := 0) (by decide)) (show vwCl[7]? = some (RX7, TX7, 7) from rfl) (by decide) rfl (hts _ (List.mem_cons_of_mem _ uC_243)) (fun _ h9 => h9) dX7_next_21 ?_
      refine lv_iload_n hx hb dX7_next_24 rfl (lv_at hl 0 rfl) ?_
      refine zc_sqe (va_runVN (As := [.int (kWhy (aF (Y 0)) (aT (Y 0)) (aP (Y 0)))]) (rest := []) ⟨hx, hb, hml, hown, hts⟩ (c_X0_chosen l V (gA G 0) (aF (Y 0)) (aT (Y 0)) (nI (aS (Y 0))) (aU (Y 0)) (aV (Y 0)) (aX (Y 0)) (aP (Y 0)) (kWhy (aF (Y 0)) (aT (Y 0)) (aP (Y 0)))) ⟨va_cnB 1 hts (zgB_ wsC_all uC_122) rfl rfl rfl (hE.2 (.methodLinkNest RX7 164 yX0_chosen "DrawerSlips") (List.mem_of_getElem? (i := 71) rfl)) (hts _ (List.mem_cons_of_mem _ uC_73)) (by decide +kernel) ⟨Nat.le_of_ble_eq_true rfl, Nat.le_of_ble_eq_true rfl⟩, (hts _ (List.mem_cons_of_mem _ uC_145)), (hts _ (List.mem_cons_of_mem _ uC_146))⟩ (zPreV (B := fun H => va_P V.1 vwCl (zaW V (gA G 0) (aF (Y 0)) (aT (Y 0)) (nI (aS (Y 0))) (aU (Y 0)) (aV (Y 0)) (aX (Y 0)) (aP (Y 0))) H) (hT.1 0 (by omega)) hE (za_ro hE (hT.1 0 (by omega)))) rfl rfl hl.1 rfl (lv_room (Nat.le_of_ble_eq_true rfl)) dX7_next_25 ⟨Nat.le_of_ble_eq_true rfl, Nat.le_of_ble_eq_true rfl⟩) ?_
      refine zo_astore_n (r := zad (gA G 0) (kSel (aF (Y 0)) (aT (Y 0)) (aP (Y 0)) (kWhy (aF (Y 0)) (aT (Y 0)) (aP (Y 0))))) (lv' := [(3, va_rf (zad (gA G 0) (kSel (aF (Y 0)) (aT (Y 0)) (aP (Y 0)) (kWhy (aF (Y 0)) (aT (Y 0)) (aP (Y 0)))))), (2, .int (kWhy (aF (Y 0)) (aT (Y 0)) (aP (Y 0)))), (0, .ref (gM G 0)), (1, .int x)]) hx hb dX7_next_28 rfl hl (by decide) rfl (fun ls hl => ?_)
      refine zo_aload_n (r := zad (gA G 0) (kSel (aF (Y 0)) (aT (Y 0)) (aP (Y 0)) (kWhy (aF (Y 0)) (aT (Y 0)) (aP (Y 0))))) hx hb dX7_next_29 rfl (lv_at hl 0 rfl) ?_
      rcases hq_30 : kSel (aF (Y 0)) (aT (Y 0)) (aP (Y 0)) (kWhy (aF (Y 0)) (aT (Y 0)) (aP (Y 0))) with _ | k_30
      · refine zt_v (y := .null) (by first | rfl | (rw [hq_30]; rfl)) ?_
        rw [hq_30] at hl
        have hl : lv_has ls 4 [(3, .null), (2, .int (kWhy (aF (Y 0)) (aT (Y 0)) (aP (Y 0)))), (0, .ref (gM G 0)), (1, .int x)] := hl
        refine lv_ifnonnullN hx hb dX7_next_30 ?_
        refine lv_bipush (v := (-6)) hx hb dX7_next_33 (by decide +kernel) ?_
        exact zr_si hx hb hr hlocks ((show uNext (Y 0) x = (-6) from (if_pos (show 0 ≤ x ∧ x ≤ 2 from ⟨z_nlt c_1, c_6⟩)).trans (show kOn (kSelN (aF (Y 0)) (aT (Y 0)) (aP (Y 0))) (-6) (uNextK (Y 0) x) = -6 from kOn_n hq_30)).symm) dX7_next_35
      · refine zt_v (y := .ref (gA G 0 (k_30 + 6))) (by first | rfl | (rw [hq_30]; rfl)) ?_
        rw [hq_30] at hl
        have hl : lv_has ls 4 [(3, .ref (gA G 0 (k_30 + 6))), (2, .int (kWhy (aF (Y 0)) (aT (Y 0)) (aP (Y 0)))), (0, .ref (gM G 0)), (1, .int x)] := hl
        have hb_30 : k_30 < 30 := by first | exact (zFirst_lt hq_30).1 | exact (zBest_lt hq_30).1 | exact kSel_lt hq_30 | (have h_ := (zBest_lt hq_30).1; omega)
        refine lv_ifnonnull (tgt := 36) hx hb dX7_next_30 (by decide) ?_
        refine lv_iload_n hx hb dX7_next_36 rfl (lv_at hl 3 rfl) ?_
        by_cases hn0_ : x = 0
        · have hc_ : x = 0 := hn0_
          refine lv_lookup (off := 27) (tgt := 64) hx hb dX7_next_37 (by decide) (by rw [hc_]; rfl) (by decide) ?_
          refine lv_aload_n hx hb dX7_next_64 rfl (lv_at hl 0 rfl) ?_
          refine zo_getN 2 (.int (aP (Y 0) k_30 2)) hx hb hts (fun x h => List.mem_cons_of_mem _ (hU_X5 x h)) hown hE (za_slip (hT.1 0 (by omega)) (i := k_30) (by omega)) (show vwCl[5]? = some (RX5, TX5, 8) from rfl) (by decide) rfl (List.mem_of_getElem? (i := 5) rfl) (fun _ h9 => h9) dX7_next_65 ?_
          exact zr_si hx hb hr hlocks ((show uNext (Y 0) x = aP (Y 0) k_30 2 from (if_pos (show 0 ≤ x ∧ x ≤ 2 from ⟨z_nlt c_1, c_6⟩)).trans ((show kOn (kSelN (aF (Y 0)) (aT (Y 0)) (aP (Y 0))) (-6) (uNextK (Y 0) x) = uNextK (Y 0) x k_30 from kOn_s hq_30).trans (show uNextK (Y 0) x k_30 = aP (Y 0) k_30 2 from (if_pos hc_)))).symm) dX7_next_68
        · by_cases hn1_ : x = 1
          · have hc_ : x = 1 := hn1_
            refine lv_lookup (off := 32) (tgt := 69) hx hb dX7_next_37 (by decide) (by rw [hc_]; rfl) (by decide) ?_
            refine lv_iload_n hx hb dX7_next_69 rfl (lv_at hl 1 rfl) ?_
            exact zr_si hx hb hr hlocks ((show uNext (Y 0) x = kWhy (aF (Y 0)) (aT (Y 0)) (aP (Y 0)) from (if_pos (show 0 ≤ x ∧ x ≤ 2 from ⟨z_nlt c_1, c_6⟩)).trans ((show kOn (kSelN (aF (Y 0)) (aT (Y 0)) (aP (Y 0))) (-6) (uNextK (Y 0) x) = uNextK (Y 0) x k_30 from kOn_s hq_30).trans (show uNextK (Y 0) x k_30 = kWhy (aF (Y 0)) (aT (Y 0)) (aP (Y 0)) from ((if_neg hn0_).trans (if_pos hc_))))).symm) dX7_next_70
          · refine lv_lookup (off := 34) (tgt := 71) hx hb dX7_next_37 (by decide) ((lv_osw hn0_ rfl).trans ((lv_osw hn1_ rfl).trans (rfl))) (by decide) ?_
            refine lv_aload_n hx hb dX7_next_71 rfl (lv_at hl 2 rfl) ?_
            refine zo_get 0 (.ref (gA G 0 0)) hx hb hts (fun x h => List.mem_cons_of_mem _ (hU_X7 x h)) hown hE (zT_c hT (c := 0) (by decide)) (show vwCl[7]? = some (RX7, TX7, 7) from rfl) (by decide) rfl (hts _ (List.mem_cons_of_mem _ uC_243)) (fun _ h9 => h9) dX7_next_72 ?_
            refine zo_getN 6 (.int (aF (Y 0) 6)) hx hb hts (fun x h => List.mem_cons_of_mem _ (hU_X0 x h)) hown hE (za_o (hT.1 0 (by omega))) (show vwCl[0]? = some (RX0, TX0, 14) from rfl) (by decide) rfl (List.mem_of_getElem? (i := 15) rfl) (fun _ h9 => h9) dX7_next_75 ?_
            refine lv_aload_n hx hb dX7_next_78 rfl (lv_at hl 2 rfl) ?_
            refine zo_get 0 (.ref (gA G 0 0)) hx hb hts (fun x h => List.mem_cons_of_mem _ (hU_X7 x h)) hown hE (zT_c hT (c := 0) (by decide)) (show vwCl[7]? = some (RX7, TX7, 7) from rfl) (by decide) rfl (hts _ (List.mem_cons_of_mem _ uC_243)) (fun _ h9 => h9) dX7_next_79 ?_
            refine lv_aload_n hx hb dX7_next_82 rfl (lv_at hl 0 rfl) ?_
            refine zc_se (va_runVN (As := [.ref (gA G 0 (k_30 + 6))]) (rest := [.int (aF (Y 0) 6)]) ⟨hx, hb, hml, hown, hts⟩ (c_X0_minutesFor l V (gA G 0) (aF (Y 0)) (aT (Y 0)) (nI (aS (Y 0))) (aU (Y 0)) (aV (Y 0)) (aX (Y 0)) (aP (Y 0)) k_30 (by omega)) ⟨va_cnB 1 hts (zgB_ wsC_all uC_128) rfl rfl rfl (hE.2 (.methodLinkNest RX7 167 yX0_minutesFor "DrawerSlips") (List.mem_of_getElem? (i := 72) rfl)) (hts _ (List.mem_cons_of_mem _ uC_73)) (by decide +kernel) ⟨Nat.le_of_ble_eq_true rfl, Nat.le_of_ble_eq_true rfl⟩, (hts _ (List.mem_cons_of_mem _ uC_151)), (hts _ (List.mem_cons_of_mem _ uC_152))⟩ (zPreV (B := fun H => va_P V.1 vwCl (zaW V (gA G 0) (aF (Y 0)) (aT (Y 0)) (nI (aS (Y 0))) (aU (Y 0)) (aV (Y 0)) (aX (Y 0)) (aP (Y 0))) H) (hT.1 0 (by omega)) hE (za_ro hE (hT.1 0 (by omega)))) rfl rfl hl.1 rfl (lv_room (Nat.le_of_ble_eq_true rfl)) dX7_next_83 ⟨Nat.le_of_ble_eq_true rfl, Nat.le_of_ble_eq_true rfl⟩) ?_
            refine lv_iadd hx hb dX7_next_86 ?_
            exact zr_si hx hb hr hlocks ((show uNext (Y 0) x = (aF (Y 0) 6) + (kMin (aF (Y 0)) (aT (Y 0)) (aP (Y 0)) k_30) from (if_pos (show 0 ≤ x ∧ x ≤ 2 from ⟨z_nlt c_1, c_6⟩)).trans ((show kOn (kSelN (aF (Y 0)) (aT (Y 0)) (aP (Y 0))) (-6) (uNextK (Y 0) x) = uNextK (Y 0) x k_30 from kOn_s hq_30).trans (show uNextK (Y 0) x k_30 = (aF (Y 0) 6) + (kMin (aF (Y 0)) (aT (Y 0)) (aP (Y 0)) k_30) from ((if_neg hn0_).trans (if_neg hn1_))))).symm) dX7_next_87
    · refine lv_bipush (v := (-2)) hx hb dX7_next_9 (by decide +kernel) ?_
      exact zr_si hx hb hr hlocks ((show uNext (Y 0) x = (-2) from if_neg (fun h => c_6 h.2)).symm) dX7_next_11
set_option maxHeartbeats 4000000 in
set_option maxRecDepth 100000 in
theorem c_X7_joined (l : Launch) (V : zV) (G : Nat → Nat) (Y : Nat → zA) (hp hk : Nat) (f1 f2 : Int32) (n : Nat) (pd : Nat → Int32) (a : Nat) (kd nu mo : Int32) (wr d mm : Int32) (hJ : zInj 404 G) : Met l yX7_joined wsX7_joined (zR 2 0 0) (zPc V [.ref (gM G 0), .int wr, .int d, .int mm] (fun H => zTP V G Y hp hk f1 f2 n pd a kd nu mo H)) (vp_Si (fun r => r = (uJoined (Y 0) wr d mm))) 0 0 (fun _ => False) := by
  refine Met.ofW (cc := cX7_joined) (maxL := 5) (ret := (some .int)) (by decide) rfl ?_
  intro p e s m args below meth c s₁ B hml hv
  obtain ⟨rfl, hP, hE⟩ := hv
  have hx := B.exec
  have hb := B.bytes
  have hr := B.returns
  have hts := atoms_spec (ws := wsX7_joined) B.pre
  have hown : s.vm.findClass RX7 = some m.cls := findClass_of_methodNamed B.named
  have hlocks := B.notSynchronized
  have hl := lv_entry ([.ref (gM G 0), .int wr, .int d, .int mm]) (n := 5) (Nat.le_of_ble_eq_true rfl)
  rw [lg_entry_eq]
  generalize (lg_sl ([.ref (gM G 0), .int wr, .int d, .int mm]) ++ List.replicate (5 - (lg_sl ([.ref (gM G 0), .int wr, .int d, .int mm])).length) Slot.unset).toArray = ls at hl ⊢
  have hl : lv_has ls 5 [(0, .ref (gM G 0)), (1, .int wr), (2, .int d), (3, .int mm)] := hl
  have hT := hP
  refine lv_iload_n hx hb dX7_joined_0 rfl (lv_at hl 1 rfl) ?_
  refine lv_iload_n hx hb dX7_joined_1 rfl (lv_at hl 2 rfl) ?_
  refine lv_iload_n hx hb dX7_joined_2 rfl (lv_at hl 3 rfl) ?_
  refine zc_se (va_runS (As := [.int wr, .int d, .int mm]) (rest := []) ⟨hx, hb, hml, hown, hts⟩ (c_X7_isSlip l V wr d mm) (va_cwS 3 hts (zgS_ wsC_all uC_58 uC_314 uC_69 uC_25) rfl rfl rfl (by decide +kernel) ⟨Nat.le_of_ble_eq_true rfl, Nat.le_of_ble_eq_true rfl⟩) (zPreS (B := fun _ => True) trivial hE) rfl rfl hl.1 rfl (lv_room (Nat.le_of_ble_eq_true rfl)) dX7_joined_3 ⟨Nat.le_of_ble_eq_true rfl, Nat.le_of_ble_eq_true rfl⟩) ?_
  refine zbp_ne (P := mSlip wr d mm) (tgt := 12) hx hb dX7_joined_6 (by decide) (fun c_6 => ?_) (fun c_6 => ?_)
  · refine lv_aload_n hx hb dX7_joined_12 rfl (lv_at hl 0 rfl) ?_
    refine zo_get 0 (.ref (gA G 0 0)) hx hb hts (fun x h => List.mem_cons_of_mem _ (hU_X7 x h)) hown hE (zT_c hT (c := 0) (by decide)) (show vwCl[7]? = some (RX7, TX7, 7) from rfl) (by decide) rfl (hts _ (List.mem_cons_of_mem _ uC_243)) (fun _ h9 => h9) dX7_joined_13 ?_
    refine lv_iload_n hx hb dX7_joined_16 rfl (lv_at hl 1 rfl) ?_
    refine lv_iload_n hx hb dX7_joined_17 rfl (lv_at hl 2 rfl) ?_
    refine lv_iload_n hx hb dX7_joined_18 rfl (lv_at hl 3 rfl) ?_
    refine zc_sqe (va_runVN (As := [.int wr, .int d, .int mm]) (rest := []) ⟨hx, hb, hml, hown, hts⟩ (c_X0_hostFor l V (gA G 0) (aF (Y 0)) (aT (Y 0)) (nI (aS (Y 0))) (aU (Y 0)) (aV (Y 0)) (aX (Y 0)) (aP (Y 0)) wr d mm) ⟨va_cnB 3 hts (zgB_ wsC_all uC_61) rfl rfl rfl (hE.2 (.methodLinkNest RX7 180 yX0_hostFor "DrawerSlips") (List.mem_of_getElem? (i := 73) rfl)) (hts _ (List.mem_cons_of_mem _ uC_73)) (by decide +kernel) ⟨Nat.le_of_ble_eq_true rfl, Nat.le_of_ble_eq_true rfl⟩, (hts _ (List.mem_cons_of_mem _ uC_71)), (hts _ (List.mem_cons_of_mem _ uC_72))⟩ (zPreV (B := fun H => va_P V.1 vwCl (zaW V (gA G 0) (aF (Y 0)) (aT (Y 0)) (nI (aS (Y 0))) (aU (Y 0)) (aV (Y 0)) (aX (Y 0)) (aP (Y 0))) H) (hT.1 0 (by omega)) hE (za_ro hE (hT.1 0 (by omega)))) rfl rfl hl.1 rfl (lv_room (Nat.le_of_ble_eq_true rfl)) dX7_joined_19 ⟨Nat.le_of_ble_eq_true rfl, Nat.le_of_ble_eq_true rfl⟩) ?_
    refine zo_astore (r := zad (gA G 0) (kHost (aP (Y 0)) wr d mm 30)) (lv' := [(4, va_rf (zad (gA G 0) (kHost (aP (Y 0)) wr d mm 30))), (0, .ref (gM G 0)), (1, .int wr), (2, .int d), (3, .int mm)]) hx hb dX7_joined_22 hl (by decide) rfl (fun ls hl => ?_)
    refine zo_aload (r := zad (gA G 0) (kHost (aP (Y 0)) wr d mm 30)) hx hb dX7_joined_24 (lv_at hl 0 rfl) ?_
    rcases hq_26 : kHost (aP (Y 0)) wr d mm 30 with _ | k_26
    · refine zt_v (y := .null) (by first | rfl | (rw [hq_26]; rfl)) ?_
      rw [hq_26] at hl
      have hl : lv_has ls 5 [(4, .null), (0, .ref (gM G 0)), (1, .int wr), (2, .int d), (3, .int mm)] := hl
      refine lv_ifnonnullN hx hb dX7_joined_26 ?_
      refine lv_bipush (v := (-6)) hx hb dX7_joined_29 (by decide +kernel) ?_
      refine lv_goto (tgt := 39) hx hb dX7_joined_31 (by decide) ?_
      exact zr_si hx hb hr hlocks ((show uJoined (Y 0) wr d mm = (-6) from (if_pos c_6).trans (show kOn (kHost (aP (Y 0)) wr d mm 30) (-6) (fun k => aP (Y 0) k 2) = (-6) from kOn_n hq_26)).symm) dX7_joined_39
    · refine zt_v (y := .ref (gA G 0 (k_26 + 6))) (by first | rfl | (rw [hq_26]; rfl)) ?_
      rw [hq_26] at hl
      have hl : lv_has ls 5 [(4, .ref (gA G 0 (k_26 + 6))), (0, .ref (gM G 0)), (1, .int wr), (2, .int d), (3, .int mm)] := hl
      have hb_26 : k_26 < 30 := by first | exact (zFirst_lt hq_26).1 | exact (zBest_lt hq_26).1 | exact kSel_lt hq_26 | (have h_ := (zBest_lt hq_26).1; omega)
      refine lv_ifnonnull (tgt := 34) hx hb dX7_joined_26 (by decide) ?_
      refine lv_aload hx hb dX7_joined_34 (lv_at hl 0 rfl) ?_
      refine zo_getN 2 (.int (aP (Y 0) k_26 2)) hx hb hts (fun x h => List.mem_cons_of_mem _ (hU_X5 x h)) hown hE (za_slip (hT.1 0 (by omega)) (i := k_26) (by omega)) (show vwCl[5]? = some (RX5, TX5, 8) from rfl) (by decide) rfl (List.mem_of_getElem? (i := 5) rfl) (fun _ h9 => h9) dX7_joined_36 ?_
      exact zr_si hx hb hr hlocks ((show uJoined (Y 0) wr d mm = aP (Y 0) k_26 2 from (if_pos c_6).trans (show kOn (kHost (aP (Y 0)) wr d mm 30) (-6) (fun k => aP (Y 0) k 2) = aP (Y 0) k_26 2 from kOn_s hq_26)).symm) dX7_joined_39
  · refine lv_bipush (v := (-2)) hx hb dX7_joined_9 (by decide +kernel) ?_
    exact zr_si hx hb hr hlocks ((show uJoined (Y 0) wr d mm = (-2) from if_neg c_6).symm) dX7_joined_11
