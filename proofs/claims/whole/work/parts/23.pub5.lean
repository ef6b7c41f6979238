-- set
def zU404 (G : Nat → Nat) : Nat → Prop := zIn 404 G
-- an order that was read is carried out
def kObR (A : zA) (kd nu mo : Int32) : Int32 := if kd = 114 then kAccR (aF A) (aP A) 0 nu (1 + mo) else if kd = 115 then kSrvR A nu else if kd = 119 then kAccR (aF A) (aP A) 1 nu (1 + mo) else kStandR (aF A) nu
def kObA (A : zA) (kd nu mo : Int32) : zA := if kd = 114 then kAcc A 0 nu (1 + mo) else if kd = 115 then kSrvA A nu else if kd = 119 then kAcc A 1 nu (1 + mo) else kStand A nu
def kObT (A B : zA) (kd nu : Int32) : zA := if kd = 114 then B else if kd = 115 then kSrvT A B nu else if kd = 119 then B else B
def kCO (pd : Nat → Int32) (n : Nat) : Nat → zA → zA → Nat → zA × zA × Nat
  | 0, A, B, _ => (A, B, 0)
  | f + 1, A, B, a => if (mTok pd n a).1 = true then (if 0 ≤ kObR A (mTok pd n a).2.2.1 (mTok pd n a).2.2.2.1 (mTok pd n a).2.2.2.2 then
      ((kCO pd n f (kObA A (mTok pd n a).2.2.1 (mTok pd n a).2.2.2.1 (mTok pd n a).2.2.2.2) (kObT A B (mTok pd n a).2.2.1 (mTok pd n a).2.2.2.1) ((mTok pd n a).2.1 + 1)).1, (kCO pd n f (kObA A (mTok pd n a).2.2.1 (mTok pd n a).2.2.2.1 (mTok pd n a).2.2.2.2) (kObT A B (mTok pd n a).2.2.1 (mTok pd n a).2.2.2.1) ((mTok pd n a).2.1 + 1)).2.1, (kCO pd n f (kObA A (mTok pd n a).2.2.1 (mTok pd n a).2.2.2.1 (mTok pd n a).2.2.2.2) (kObT A B (mTok pd n a).2.2.1 (mTok pd n a).2.2.2.1) ((mTok pd n a).2.1 + 1)).2.2 + 1)
      else (kObA A (mTok pd n a).2.2.1 (mTok pd n a).2.2.2.1 (mTok pd n a).2.2.2.2, kObT A B (mTok pd n a).2.2.1 (mTok pd n a).2.2.2.1, 0)) else (A, B, 0)
def kCOk (pd : Nat → Int32) (n : Nat) : Nat → zA → Nat → Prop
  | 0, _, _ => True
  | f + 1, A, a => kGood A ∧ ((mTok pd n a).1 = true → 0 ≤ kObR A (mTok pd n a).2.2.1 (mTok pd n a).2.2.2.1 (mTok pd n a).2.2.2.2 → kCOk pd n f (kObA A (mTok pd n a).2.2.1 (mTok pd n a).2.2.2.1 (mTok pd n a).2.2.2.2) ((mTok pd n a).2.1 + 1))
def coR (pd : Nat → Int32) (n : Nat) (A B : zA) : Int32 := if (mWell pd n).1 = true then nI (kCO pd n 80 A B 0).2.2 else -3
def coY (pd : Nat → Int32) (n : Nat) (Y : Nat → zA) (hp : Nat) : Nat → zA := if (mWell pd n).1 = true then va_up (va_up (va_up Y (hp + 2) (Y 0)) 1 (kCO pd n 80 (Y 0) (Y 1) 0).2.1) 0 (kCO pd n 80 (Y 0) (Y 1) 0).1 else Y
def coN (pd : Nat → Int32) (n : Nat) : Nat := if (mWell pd n).1 = true then 0 else n
theorem kObA_wf {A : zA} {kd nu mo : Int32} (h : zWfA A) : zWfA (kObA A kd nu mo) := by
  unfold kObA
  split
  · exact kAcc_wf h
  · split
    · exact kSrvA_wf h
    · split
      · exact kAcc_wf h
      · exact h
theorem kObT_wf {A B : zA} {kd nu : Int32} (h : zWfA A) (h2 : zWfA B) : zWfA (kObT A B kd nu) := by
  unfold kObT
  split
  · exact h2
  · split
    · exact kSrvT_wf h h2
    · split <;> exact h2
theorem zUp_4 {α : Type} (Z : Nat → α) (a b a' b' : α) : va_up (va_up (va_up (va_up Z 1 b) 0 a) 1 b') 0 a' = va_up (va_up Z 1 b') 0 a' := by
  funext j
  by_cases h0 : j = 0
  · subst h0; rw [zUp_s, zUp_s]
  · rw [zUp_n _ _ h0, zUp_n _ _ h0]
    by_cases h1 : j = 1
    · subst h1; rw [zUp_s, zUp_s]
    · rw [zUp_n _ _ h1, zUp_n _ _ h0, zUp_n _ _ h1, zUp_n _ _ h1]
theorem mTok_t {pd : Nat → Int32} {n a : Nat} (h : (mTok pd n a).1 = true) : a < n := by
  rcases Nat.lt_or_ge a n with q | q
  · exact q
  · exfalso
    have e : mSg pd n a = 0 := if_neg (by omega)
    rw [mTok, if_neg (by rw [e]; decide)] at h
    cases h
theorem mWl_le (pd : Nat → Int32) (n : Nat) : ∀ f (s : Bool × Nat), s.2 ≤ n → (mWl pd n f s).2 ≤ n
  | 0, s, h => h
  | f + 1, s, h => by
    unfold mWl
    split
    · rename_i h1
      split
      · exact mWl_le pd n f _ (mTok_le pd (by omega)).2.1
      · exact h
    · exact h
theorem mWell_le (pd : Nat → Int32) (n : Nat) : (mWell pd n).2 ≤ n := mWl_le pd n _ _ (mTok_le pd (Nat.zero_le n)).2.1
set_option maxHeartbeats 4000000 in
set_option maxRecDepth 100000 in
theorem c_X7_obey (l : Launch) (V : zV) (G : Nat → Nat) (Y : Nat → zA) (hp hk : Nat) (f1 f2 : Int32) (n : Nat) (pd : Nat → Int32) (a : Nat) (kd nu mo : Int32) (hJ : zInj 404 G) (hwf : ∀ j, j < 11 → zWfA (Y j)) (hgood : kGood (Y 0)) : Met l yX7_obey wsX7_obey (zR 5 0 0) (zPc V [.ref (gM G 0)] (fun H => zTP V G Y hp hk f1 f2 n pd a kd nu mo H)) (zQi (fun r H => r = (kObR (Y 0) kd nu mo) ∧ (zTP V G (va_up (va_up Y 1 (kObT (Y 0) (Y 1) kd nu)) 0 (kObA (Y 0) kd nu mo)) hp hk f1 f2 n pd a kd nu mo H)) (zIn 404 G)) 0 0 (zIn 404 G) := by
  refine Met.ofW (cc := cX7_obey) (maxL := 1) (ret := (some .int)) (by decide) rfl ?_
  intro p e s m args below meth c s₁ B hml hv
  obtain ⟨rfl, hP, hE⟩ := hv
  have hx := B.exec
  have hb := B.bytes
  have hr := B.returns
  have hts := atoms_spec (ws := wsX7_obey) B.pre
  have hown : s.vm.findClass RX7 = some m.cls := findClass_of_methodNamed B.named
  have hlocks := B.notSynchronized
  have hl := lv_entry ([.ref (gM G 0)]) (n := 1) (Nat.le_of_ble_eq_true rfl)
  rw [lg_entry_eq]
  generalize (lg_sl ([.ref (gM G 0)]) ++ List.replicate (1 - (lg_sl ([.ref (gM G 0)])).length) Slot.unset).toArray = ls at hl ⊢
  have hl : lv_has ls 1 [(0, .ref (gM G 0))] := hl
  have hT := hP
  have hS : va_S (zIn 404 G) s.heap s.heap [] := va_S.rf
  refine lv_aload_n hx hb dX7_obey_0 rfl (lv_at hl 0 rfl) ?_
  refine zo_get 6 (.ref (gQ G 2)) hx hb hts (fun x h => List.mem_cons_of_mem _ (hU_X7 x h)) hown hE (zT_c hT (c := 0) (by decide)) (show vwCl[7]? = some (RX7, TX7, 7) from rfl) (by decide) rfl (hts _ (List.mem_cons_of_mem _ uC_258)) (fun _ h9 => h9) dX7_obey_1 ?_
  refine zo_getN 2 (.int kd) hx hb hts (fun x h => List.mem_cons_of_mem _ (hU_X4 x h)) hown hE (zq_r hT.2.1) (show vwCl[4]? = some (RX4, TX4, 5) from rfl) (by decide) rfl (List.mem_of_getElem? (i := 23) rfl) (fun _ h9 => h9) dX7_obey_4 ?_
  by_cases hn0_ : kd = 114
  · have hc_ : kd = 114 := hn0_
    refine lv_lookup (off := 33) (tgt := 40) hx hb dX7_obey_7 (by decide) (by rw [hc_]; rfl) (by decide) ?_
    refine lv_aload_n hx hb dX7_obey_40 rfl (lv_at hl 0 rfl) ?_
    refine zo_get 0 (.ref (gA G 0 0)) hx hb hts (fun x h => List.mem_cons_of_mem _ (hU_X7 x h)) hown hE (zT_c hT (c := 0) (by decide)) (show vwCl[7]? = some (RX7, TX7, 7) from rfl) (by decide) rfl (hts _ (List.mem_cons_of_mem _ uC_243)) (fun _ h9 => h9) dX7_obey_41 ?_
    refine lv_iconst (v := 0) hx hb dX7_obey_44 (by decide +kernel) ?_
    refine lv_aload_n hx hb dX7_obey_45 rfl (lv_at hl 0 rfl) ?_
    refine zo_get 6 (.ref (gQ G 2)) hx hb hts (fun x h => List.mem_cons_of_mem _ (hU_X7 x h)) hown hE (zT_c hT (c := 0) (by decide)) (show vwCl[7]? = some (RX7, TX7, 7) from rfl) (by decide) rfl (hts _ (List.mem_cons_of_mem _ uC_258)) (fun _ h9 => h9) dX7_obey_46 ?_
    refine zo_getN 3 (.int nu) hx hb hts (fun x h => List.mem_cons_of_mem _ (hU_X4 x h)) hown hE (zq_r hT.2.1) (show vwCl[4]? = some (RX4, TX4, 5) from rfl) (by decide) rfl (List.mem_of_getElem? (i := 24) rfl) (fun _ h9 => h9) dX7_obey_49 ?_
    refine lv_iconst (v := 1) hx hb dX7_obey_52 (by decide +kernel) ?_
    refine lv_aload_n hx hb dX7_obey_53 rfl (lv_at hl 0 rfl) ?_
    refine zo_get 6 (.ref (gQ G 2)) hx hb hts (fun x h => List.mem_cons_of_mem _ (hU_X7 x h)) hown hE (zT_c hT (c := 0) (by decide)) (show vwCl[7]? = some (RX7, TX7, 7) from rfl) (by decide) rfl (hts _ (List.mem_cons_of_mem _ uC_258)) (fun _ h9 => h9) dX7_obey_54 ?_
    refine zo_getN 4 (.int mo) hx hb hts (fun x h => List.mem_cons_of_mem _ (hU_X4 x h)) hown hE (zq_r hT.2.1) (show vwCl[4]? = some (RX4, TX4, 5) from rfl) (by decide) rfl (List.mem_of_getElem? (i := 25) rfl) (fun _ h9 => h9) dX7_obey_57 ?_
    refine lv_iadd hx hb dX7_obey_60 ?_
    refine zc_i (va_runVN (As := [.int 0, .int nu, .int (1 + mo)]) (rest := []) ⟨hx, hb, hml, hown, hts⟩ (c_X0_accept l V (gA G 0) (aF (Y 0)) (aT (Y 0)) (nI (aS (Y 0))) (aU (Y 0)) (aV (Y 0)) (aX (Y 0)) (aP (Y 0)) 0 nu (1 + mo) (zT_JA hJ (by omega))) ⟨va_cnB 3 hts (zgB_ wsC_all uC_68) rfl rfl rfl (hE.2 (.methodLinkNest RX7 64 yX0_accept "DrawerSlips") (List.mem_of_getElem? (i := 47) rfl)) (hts _ (List.mem_cons_of_mem _ uC_73)) (by decide +kernel) ⟨Nat.le_of_ble_eq_true rfl, Nat.le_of_ble_eq_true rfl⟩, (hts _ (List.mem_cons_of_mem _ uC_275)), (hts _ (List.mem_cons_of_mem _ uC_276))⟩ (zPreV (B := fun H => va_P V.1 vwCl (zaW V (gA G 0) (aF (Y 0)) (aT (Y 0)) (nI (aS (Y 0))) (aU (Y 0)) (aV (Y 0)) (aX (Y 0)) (aP (Y 0))) H) (hT.1 0 (by omega)) hE (zT_ra hE hT (by omega))) rfl rfl hl.1 rfl (lv_room (Nat.le_of_ble_eq_true rfl)) dX7_obey_61 ⟨Nat.le_of_ble_eq_true rfl, Nat.le_of_ble_eq_true rfl⟩) hS (fun q h => zT_iA (by omega) h) (fun q h => zT_iA (by omega) h) (fun r_ H locs hQ_ _ hk_ hS => ?_)
    obtain ⟨hr_, hQ_⟩ := hQ_
    subst hr_
    have hT := zT_arch (j := 0) (A' := kAcc (Y 0) 0 nu (1 + mo)) hT hJ (by omega) hk_ hQ_
    have hwf := zWf_up (k := 0) (A := kAcc (Y 0) 0 nu (1 + mo)) hwf (kAcc_wf (hwf 0 (by omega)))
    exact zr_i hx hb hr hlocks hS (⟨(show kObR (Y 0) kd nu mo = kAccR (aF (Y 0)) (aP (Y 0)) 0 nu (1 + mo) from (if_pos hc_)).symm, by rw [show kObT (Y 0) (Y 1) kd nu = Y 1 from (if_pos hc_), show kObA (Y 0) kd nu mo = kAcc (Y 0) 0 nu (1 + mo) from (if_pos hc_), zUp_id Y (k := 1) rfl]; exact hT⟩) dX7_obey_64
  · by_cases hn1_ : kd = 115
    · have hc_ : kd = 115 := hn1_
      refine lv_lookup (off := 83) (tgt := 90) hx hb dX7_obey_7 (by decide) (by rw [hc_]; rfl) (by decide) ?_
      refine lv_aload_n hx hb dX7_obey_90 rfl (lv_at hl 0 rfl) ?_
      refine lv_aload_n hx hb dX7_obey_91 rfl (lv_at hl 0 rfl) ?_
      refine zo_get 6 (.ref (gQ G 2)) hx hb hts (fun x h => List.mem_cons_of_mem _ (hU_X7 x h)) hown hE (zT_c hT (c := 0) (by decide)) (show vwCl[7]? = some (RX7, TX7, 7) from rfl) (by decide) rfl (hts _ (List.mem_cons_of_mem _ uC_258)) (fun _ h9 => h9) dX7_obey_92 ?_
      refine zo_getN 3 (.int nu) hx hb hts (fun x h => List.mem_cons_of_mem _ (hU_X4 x h)) hown hE (zq_r hT.2.1) (show vwCl[4]? = some (RX4, TX4, 5) from rfl) (by decide) rfl (List.mem_of_getElem? (i := 24) rfl) (fun _ h9 => h9) dX7_obey_95 ?_
      refine zc_i (va_runV (As := [.int nu]) (rest := []) ⟨hx, hb, hml, hown, hts⟩ (c_X7_serveSlips l V G Y hp hk f1 f2 n pd a kd nu mo nu hJ hwf (hgood)) (cwV 1 hts (zgV_ wsC_all uC_280 uC_288 uC_289 uC_290 uC_25) rfl rfl rfl (by decide +kernel) ⟨Nat.le_of_ble_eq_true rfl, Nat.le_of_ble_eq_true rfl⟩) (zPreV (B := fun H => zTP V G Y hp hk f1 f2 n pd a kd nu mo H) hT hE (zT_rt hE hT)) rfl rfl hl.1 rfl (lv_room (Nat.le_of_ble_eq_true rfl)) dX7_obey_98 ⟨Nat.le_of_ble_eq_true rfl, Nat.le_of_ble_eq_true rfl⟩) hS (fun _ h => h) (fun _ h => h) (fun r_ H locs hQ_ _ _ hS => ?_)
      obtain ⟨hr_, hT⟩ := hQ_
      subst hr_
      have hw0_ := hwf 0 (by omega)
      have hwf := zWf_up (k := 1) (A := kSrvT (Y 0) (Y 1) nu) hwf (kSrvT_wf hw0_ (hwf 1 (by omega)))
      have hwf := zWf_up (k := 0) (A := kSrvA (Y 0) nu) hwf (kSrvA_wf hw0_)
      exact zr_i hx hb hr hlocks hS (⟨(show kObR (Y 0) kd nu mo = kSrvR (Y 0) nu from ((if_neg hn0_).trans (if_pos hc_))).symm, by rw [show kObT (Y 0) (Y 1) kd nu = kSrvT (Y 0) (Y 1) nu from ((if_neg hn0_).trans (if_pos hc_)), show kObA (Y 0) kd nu mo = kSrvA (Y 0) nu from ((if_neg hn0_).trans (if_pos hc_))]; exact hT⟩) dX7_obey_101
    · by_cases hn2_ : kd = 119
      · have hc_ : kd = 119 := hn2_
        refine lv_lookup (off := 58) (tgt := 65) hx hb dX7_obey_7 (by decide) (by rw [hc_]; rfl) (by decide) ?_
        refine lv_aload_n hx hb dX7_obey_65 rfl (lv_at hl 0 rfl) ?_
        refine zo_get 0 (.ref (gA G 0 0)) hx hb hts (fun x h => List.mem_cons_of_mem _ (hU_X7 x h)) hown hE (zT_c hT (c := 0) (by decide)) (show vwCl[7]? = some (RX7, TX7, 7) from rfl) (by decide) rfl (hts _ (List.mem_cons_of_mem _ uC_243)) (fun _ h9 => h9) dX7_obey_66 ?_
        refine lv_iconst (v := 1) hx hb dX7_obey_69 (by decide +kernel) ?_
        refine lv_aload_n hx hb dX7_obey_70 rfl (lv_at hl 0 rfl) ?_
        refine zo_get 6 (.ref (gQ G 2)) hx hb hts (fun x h => List.mem_cons_of_mem _ (hU_X7 x h)) hown hE (zT_c hT (c := 0) (by decide)) (show vwCl[7]? = some (RX7, TX7, 7) from rfl) (by decide) rfl (hts _ (List.mem_cons_of_mem _ uC_258)) (fun _ h9 => h9) dX7_obey_71 ?_
        refine zo_getN 3 (.int nu) hx hb hts (fun x h => List.mem_cons_of_mem _ (hU_X4 x h)) hown hE (zq_r hT.2.1) (show vwCl[4]? = some (RX4, TX4, 5) from rfl) (by decide) rfl (List.mem_of_getElem? (i := 24) rfl) (fun _ h9 => h9) dX7_obey_74 ?_
        refine lv_iconst (v := 1) hx hb dX7_obey_77 (by decide +kernel) ?_
        refine lv_aload_n hx hb dX7_obey_78 rfl (lv_at hl 0 rfl) ?_
        refine zo_get 6 (.ref (gQ G 2)) hx hb hts (fun x h => List.mem_cons_of_mem _ (hU_X7 x h)) hown hE (zT_c hT (c := 0) (by decide)) (show vwCl[7]? = some (RX7, TX7, 7) from rfl) (by decide) rfl (hts _ (List.mem_cons_of_mem _ uC_258)) (fun _ h9 => h9) dX7_obey_79 ?_
        refine zo_getN 4 (.int mo) hx hb hts (fun x h => List.mem_cons_of_mem _ (hU_X4 x h)) hown hE (zq_r hT.2.1) (show vwCl[4]? = some (RX4, TX4, 5) from rfl) (by decide) rfl (List.mem_of_getElem? (i := 25) rfl) (fun _ h9 => h9) dX7_obey_82 ?_
        refine lv_iadd hx hb dX7_obey_85 ?_
        refine zc_i (va_runVN (As := [.int 1, .int nu, .int (1 + mo)]) (rest := []) ⟨hx, hb, hml, hown, hts⟩ (c_X0_accept l V (gA G 0) (aF (Y 0)) (aT (Y 0)) (nI (aS (Y 0))) (aU (Y 0)) (aV (Y 0)) (aX (Y 0)) (aP (Y 0)) 1 nu (1 + mo) (zT_JA hJ (by omega))) ⟨va_cnB 3 hts (zgB_ wsC_all uC_68) rfl rfl rfl (hE.2 (.methodLinkNest RX7 64 yX0_accept "DrawerSlips") (List.mem_of_getElem? (i := 47) rfl)) (hts _ (List.mem_cons_of_mem _ uC_73)) (by decide +kernel) ⟨Nat.le_of_ble_eq_true rfl, Nat.le_of_ble_eq_true rfl⟩, (hts _ (List.mem_cons_of_mem _ uC_275)), (hts _ (List.mem_cons_of_mem _ uC_276))⟩ (zPreV (B := fun H => va_P V.1 vwCl (zaW V (gA G 0) (aF (Y 0)) (aT (Y 0)) (nI (aS (Y 0))) (aU (Y 0)) (aV (Y 0)) (aX (Y 0)) (aP (Y 0))) H) (hT.1 0 (by omega)) hE (zT_ra hE hT (by omega))) rfl rfl hl.1 rfl (lv_room (Nat.le_of_ble_eq_true rfl)) dX7_obey_86 ⟨Nat.le_of_ble_eq_true rfl, Nat.le_of_ble_eq_true rfl⟩) hS (fun q h => zT_iA (by omega) h) (fun q h => zT_iA (by omega) h) (fun r_ H locs hQ_ _ hk_ hS => ?_)
        obtain ⟨hr_, hQ_⟩ := hQ_
        subst hr_
        have hT := zT_arch (j := 0) (A' := kAcc (Y 0) 1 nu (1 + mo)) hT hJ (by omega) hk_ hQ_
        have hwf := zWf_up (k := 0) (A := kAcc (Y 0) 1 nu (1 + mo)) hwf (kAcc_wf (hwf 0 (by omega)))
        exact zr_i hx hb hr hlocks hS (⟨(show kObR (Y 0) kd nu mo = kAccR (aF (Y 0)) (aP (Y 0)) 1 nu (1 + mo) from ((if_neg hn0_).trans ((if_neg hn1_).trans (if_pos hc_)))).symm, by rw [show kObT (Y 0) (Y 1) kd nu = Y 1 from ((if_neg hn0_).trans ((if_neg hn1_).trans (if_pos hc_))), show kObA (Y 0) kd nu mo = kAcc (Y 0) 1 nu (1 + mo) from ((if_neg hn0_).trans ((if_neg hn1_).trans (if_pos hc_))), zUp_id Y (k := 1) rfl]; exact hT⟩) dX7_obey_89
      · refine lv_lookup (off := 95) (tgt := 102) hx hb dX7_obey_7 (by decide) ((lv_osw hn0_ rfl).trans ((lv_osw hn1_ rfl).trans ((lv_osw hn2_ rfl).trans (rfl)))) (by decide) ?_
        refine lv_aload_n hx hb dX7_obey_102 rfl (lv_at hl 0 rfl) ?_
        refine zo_get 0 (.ref (gA G 0 0)) hx hb hts (fun x h => List.mem_cons_of_mem _ (hU_X7 x h)) hown hE (zT_c hT (c := 0) (by decide)) (show vwCl[7]? = some (RX7, TX7, 7) from rfl) (by decide) rfl (hts _ (List.mem_cons_of_mem _ uC_243)) (fun _ h9 => h9) dX7_obey_103 ?_
        refine lv_aload_n hx hb dX7_obey_106 rfl (lv_at hl 0 rfl) ?_
        refine zo_get 6 (.ref (gQ G 2)) hx hb hts (fun x h => List.mem_cons_of_mem _ (hU_X7 x h)) hown hE (zT_c hT (c := 0) (by decide)) (show vwCl[7]? = some (RX7, TX7, 7) from rfl) (by decide) rfl (hts _ (List.mem_cons_of_mem _ uC_258)) (fun _ h9 => h9) dX7_obey_107 ?_
        refine zo_getN 3 (.int nu) hx hb hts (fun x h => List.mem_cons_of_mem _ (hU_X4 x h)) hown hE (zq_r hT.2.1) (show vwCl[4]? = some (RX4, TX4, 5) from rfl) (by decide) rfl (List.mem_of_getElem? (i := 24) rfl) (fun _ h9 => h9) dX7_obey_110 ?_
        refine zc_i (va_runVN (As := [.int nu]) (rest := []) ⟨hx, hb, hml, hown, hts⟩ (c_X0_stand l V (gA G 0) (aF (Y 0)) (aT (Y 0)) (nI (aS (Y 0))) (aU (Y 0)) (aV (Y 0)) (aX (Y 0)) (aP (Y 0)) nu (zT_JA hJ (by omega))) ⟨va_cnB 1 hts (zgB_ wsC_all uC_93) rfl rfl rfl (hE.2 (.methodLinkNest RX7 74 yX0_stand "DrawerSlips") (List.mem_of_getElem? (i := 58) rfl)) (hts _ (List.mem_cons_of_mem _ uC_73)) (by decide +kernel) ⟨Nat.le_of_ble_eq_true rfl, Nat.le_of_ble_eq_true rfl⟩, (hts _ (List.mem_cons_of_mem _ uC_292)), (hts _ (List.mem_cons_of_mem _ uC_293))⟩ (zPreV (B := fun H => va_P V.1 vwCl (zaW V (gA G 0) (aF (Y 0)) (aT (Y 0)) (nI (aS (Y 0))) (aU (Y 0)) (aV (Y 0)) (aX (Y 0)) (aP (Y 0))) H) (hT.1 0 (by omega)) hE (zT_ra hE hT (by omega))) rfl rfl hl.1 rfl (lv_room (Nat.le_of_ble_eq_true rfl)) dX7_obey_113 ⟨Nat.le_of_ble_eq_true rfl, Nat.le_of_ble_eq_true rfl⟩) hS (fun q h => zT_iA (by omega) h) (fun q h => zT_iA (by omega) h) (fun r_ H locs hQ_ _ hk_ hS => ?_)
        obtain ⟨hr_, hQ_⟩ := hQ_
        subst hr_
        have hT := zT_arch (j := 0) (A' := kStand (Y 0) nu) hT hJ (by omega) hk_ hQ_
        have hwf := zWf_up (k := 0) (A := kStand (Y 0) nu) hwf ((hwf 0 (by omega)))
        exact zr_i hx hb hr hlocks hS (⟨(show kObR (Y 0) kd nu mo = kStandR (aF (Y 0)) nu from ((if_neg hn0_).trans ((if_neg hn1_).trans (if_neg hn2_)))).symm, by rw [show kObT (Y 0) (Y 1) kd nu = Y 1 from ((if_neg hn0_).trans ((if_neg hn1_).trans (if_neg hn2_))), show kObA (Y 0) kd nu mo = kStand (Y 0) nu from ((if_neg hn0_).trans ((if_neg hn1_).trans (if_neg hn2_))), zUp_id Y (k := 1) rfl]; exact hT⟩) dX7_obey_116
set_option maxHeartbeats 4000000 in
set_option maxRecDepth 100000 in
theorem c_X7_carryOut (l : Launch) (V : zV) (G : Nat → Nat) (Y : Nat → zA) (hp hk : Nat) (f1 f2 : Int32) (n : Nat) (pd : Nat → Int32) (a : Nat) (kd nu mo : Int32) (hJ : zInj 404 G) (hp7 : hp < 7) (hk6 : hk ≤ 6) (hwf : ∀ j, j < 11 → zWfA (Y j)) (h80 : n ≤ 80) (hok80 : (mWell pd n).1 = true → kCOk pd n 80 (Y 0) 0) : Met l yX7_carryOut wsX7_carryOut (zR 6 0 0) (zPc V [.ref (gM G 0)] (fun H => zTP V G Y hp hk f1 f2 n pd a kd nu mo H)) (zQi (fun r H => r = (coR pd n (Y 0) (Y 1)) ∧ (∃ a' : Nat, ∃ kd' : Int32, ∃ nu' : Int32, ∃ mo' : Int32, zTP V G (coY pd n Y hp) (if 0 ≤ coR pd n (Y 0) (Y 1) then (hp + 1) % 7 else hp) (if 0 ≤ coR pd n (Y 0) (Y 1) then min (hk + 1) 6 else hk) f1 f2 (coN pd n) pd a' kd' nu' mo' H)) (zIn 404 G)) 0 0 (zIn 404 G) := by
  refine Met.ofW (cc := cX7_carryOut) (maxL := 2) (ret := (some .int)) (by decide) rfl ?_
  intro p e s m args below meth c s₁ B hml hv
  obtain ⟨rfl, hP, hE⟩ := hv
  have hx := B.exec
  have hb := B.bytes
  have hr := B.returns
  have hts := atoms_spec (ws := wsX7_carryOut) B.pre
  have hown : s.vm.findClass RX7 = some m.cls := findClass_of_methodNamed B.named
  have hlocks := B.notSynchronized
  have hl := lv_entry ([.ref (gM G 0)]) (n := 2) (Nat.le_of_ble_eq_true rfl)
  rw [lg_entry_eq]
  generalize (lg_sl ([.ref (gM G 0)]) ++ List.replicate (2 - (lg_sl ([.ref (gM G 0)])).length) Slot.unset).toArray = ls at hl ⊢
  have hl : lv_has ls 2 [(0, .ref (gM G 0))] := hl
  have hT := hP
  have hS : va_S (zIn 404 G) s.heap s.heap [] := va_S.rf
  refine lv_aload_n hx hb dX7_carryOut_0 rfl (lv_at hl 0 rfl) ?_
  refine zo_get 6 (.ref (gQ G 2)) hx hb hts (fun x h => List.mem_cons_of_mem _ (hU_X7 x h)) hown hE (zT_c hT (c := 0) (by decide)) (show vwCl[7]? = some (RX7, TX7, 7) from rfl) (by decide) rfl (hts _ (List.mem_cons_of_mem _ uC_258)) (fun _ h9 => h9) dX7_carryOut_1 ?_
  refine zc_i (va_runVN (As := []) (rest := []) ⟨hx, hb, hml, hown, hts⟩ (c_X4_findFault l V (gQ G) n pd a kd nu mo (zT_JQ hJ) (by omega)) ⟨va_cnB 0 hts (zgB_ wsC_all uC_226) rfl rfl rfl (hE.2 (.methodLinkNest RX7 191 yX4_findFault "DrawerSlips") (List.mem_of_getElem? (i := 77) rfl)) (hts _ (List.mem_cons_of_mem _ uC_211)) (by decide +kernel) ⟨Nat.le_of_ble_eq_true rfl, Nat.le_of_ble_eq_true rfl⟩, (hts _ (List.mem_cons_of_mem _ uC_322)), (hts _ (List.mem_cons_of_mem _ uC_323))⟩ (zPreV (B := fun H => va_P V.1 vwCl (zqW V (gQ G) n pd a kd nu mo) H) hT.2.1 hE (zq_rr hE hT.2.1)) rfl rfl hl.1 rfl (lv_room (Nat.le_of_ble_eq_true rfl)) dX7_carryOut_4 ⟨Nat.le_of_ble_eq_true rfl, Nat.le_of_ble_eq_true rfl⟩) hS (fun q h => zT_iQ h) (fun q h => zT_iQ h) (fun r_ H locs hQ_ _ hk_ hS => ?_)
  obtain ⟨hr_, a'_1, kd'_2, nu'_3, mo'_4, hP⟩ := hQ_
  subst hr_
  have hT := zT_pad hT hJ hk_ hP
  by_cases hw_ : (mWell pd n).1 = true
  · refine zt_i (y := -6) (if_pos hw_) ?_
    refine lv_bipush (v := (-6)) hx hb dX7_carryOut_7 (by decide +kernel) ?_
    refine lv_icmp_eq (tgt := 15) hx hb dX7_carryOut_9 (by decide) (fun c_9 => ?_) (fun c_9 => ?_)
    · have hok80 := hok80 hw_
      refine lv_aload_n hx hb dX7_carryOut_15 rfl (lv_at hl 0 rfl) ?_
      refine zo_get 2 (.ref (gM G 1)) hx hb hts (fun x h => List.mem_cons_of_mem _ (hU_X7 x h)) hown hE (zT_c hT (c := 0) (by decide)) (show vwCl[7]? = some (RX7, TX7, 7) from rfl) (by decide) rfl (hts _ (List.mem_cons_of_mem _ uC_247)) (fun _ h9 => h9) dX7_carryOut_16 ?_
      refine lv_aload_n hx hb dX7_carryOut_19 rfl (lv_at hl 0 rfl) ?_
      refine zo_get 0 (.ref (gA G 0 0)) hx hb hts (fun x h => List.mem_cons_of_mem _ (hU_X7 x h)) hown hE (zT_c hT (c := 0) (by decide)) (show vwCl[7]? = some (RX7, TX7, 7) from rfl) (by decide) rfl (hts _ (List.mem_cons_of_mem _ uC_243)) (fun _ h9 => h9) dX7_carryOut_20 ?_
      refine zc_v (va_runVN (As := [.ref (gA G 0 0)]) (rest := []) ⟨hx, hb, hml, hown, hts⟩ (c_X1_prepare l V G Y hp hk f1 f2 n pd a'_1 kd'_2 nu'_3 mo'_4 hJ (by omega) hwf) ⟨va_cnB 1 hts (zgB_ wsC_all uC_162) rfl rfl rfl (hE.2 (.methodLinkNest RX7 52 yX1_prepare "DrawerSlips") (List.mem_of_getElem? (i := 38) rfl)) (hts _ (List.mem_cons_of_mem _ uC_167)) (by decide +kernel) ⟨Nat.le_of_ble_eq_true rfl, Nat.le_of_ble_eq_true rfl⟩, (hts _ (List.mem_cons_of_mem _ uC_267)), (hts _ (List.mem_cons_of_mem _ uC_268))⟩ (zPreV (B := fun H => zTP V G Y hp hk f1 f2 n pd a'_1 kd'_2 nu'_3 mo'_4 H) hT hE (zT_rh hE hT)) rfl rfl hl.1 rfl (lv_room (Nat.le_of_ble_eq_true rfl)) dX7_carryOut_23 ⟨Nat.le_of_ble_eq_true rfl, Nat.le_of_ble_eq_true rfl⟩) hS (fun _ h => h) (fun _ h => h) (fun H locs hQ_ _ _ hS => ?_)
      have hT := hQ_
      have hwf := zWf_up (k := (hp + 2)) (A := (Y 0)) hwf (hwf 0 (by omega))
      obtain ⟨Z, eZ⟩ : ∃ Z, Z = va_up Y (hp + 2) (Y 0) := ⟨_, rfl⟩
      rw [← eZ] at hT hwf
      have hZ0 : Z 0 = Y 0 := by rw [eZ]; exact zUp_n _ _ (by omega)
      have hZ1 : Z 1 = Y 1 := by rw [eZ]; exact zUp_n _ _ (by omega)
      have e2_ : va_up (va_up Z 1 (Y 1)) 0 (Y 0) = Z := by rw [zUp_id Z hZ1, zUp_id Z hZ0]
      obtain ⟨R_, eR⟩ : ∃ R, R = kCO pd n 80 (Y 0) (Y 1) 0 := ⟨_, rfl⟩
      refine lv_iconst (v := 0) hx hb dX7_carryOut_26 (by decide +kernel) ?_
      refine lv_istore_n (lv' := [(1, .int 0), (0, .ref (gM G 0))]) hx hb dX7_carryOut_27 rfl hl (by decide) rfl (fun ls hl => ?_)
      refine lv_aload_n hx hb dX7_carryOut_28 rfl (lv_at hl 1 rfl) ?_
      refine zo_get 6 (.ref (gQ G 2)) hx hb hts (fun x h => List.mem_cons_of_mem _ (hU_X7 x h)) hown hE (zT_c hT (c := 0) (by decide)) (show vwCl[7]? = some (RX7, TX7, 7) from rfl) (by decide) rfl (hts _ (List.mem_cons_of_mem _ uC_258)) (fun _ h9 => h9) dX7_carryOut_29 ?_
      refine zc_v (va_runVN (As := []) (rest := []) ⟨hx, hb, hml, hown, hts⟩ (c_X4_begin l V (gQ G) n pd a'_1 kd'_2 nu'_3 mo'_4 (zT_JQ hJ)) ⟨va_cnB 0 hts (zgB_ wsC_all uC_200) rfl rfl rfl (hE.2 (.methodLinkNest RX7 194 yX4_begin "DrawerSlips") (List.mem_of_getElem? (i := 80) rfl)) (hts _ (List.mem_cons_of_mem _ uC_211)) (by decide +kernel) ⟨Nat.le_of_ble_eq_true rfl, Nat.le_of_ble_eq_true rfl⟩, (hts _ (List.mem_cons_of_mem _ uC_228)), (hts _ (List.mem_cons_of_mem _ uC_229))⟩ (zPreV (B := fun H => va_P V.1 vwCl (zqW V (gQ G) n pd a'_1 kd'_2 nu'_3 mo'_4) H) hT.2.1 hE (zq_rr hE hT.2.1)) rfl rfl hl.1 rfl (lv_room (Nat.le_of_ble_eq_true rfl)) dX7_carryOut_32 ⟨Nat.le_of_ble_eq_true rfl, Nat.le_of_ble_eq_true rfl⟩) hS (fun q h => zT_iQ h) (fun q h => zT_iQ h) (fun H locs hQ_ _ hk_ hS => ?_)
      have hP := hQ_
      have hT := zT_pad hT hJ hk_ hP
      rw [← e2_] at hT hwf
      have L_35 : ∀ (n_ i : Nat) (q_A : zA) (q_B : zA) (a_ : Nat) (kd_ : Int32) (nu_ : Int32) (mo_ : Int32) (H : Heap) (locs : List Loc) (ls : Array Slot), i ≤ 80 → 80 + 1 ≤ i + n_ → ((kCO pd n (80 - i) q_A q_B a_).1 = R_.1 ∧ (kCO pd n (80 - i) q_A q_B a_).2.1 = R_.2.1 ∧ (kCO pd n (80 - i) q_A q_B a_).2.2 + i = R_.2.2) → (kCOk pd n (80 - i) q_A a_) → (∀ j, j < 11 → zWfA (va_up (va_up Z 1 q_B) 0 q_A j)) → (a_ ≤ n + 1) → zTP V G (va_up (va_up Z 1 q_B) 0 q_A) hp hk f1 f2 n pd a_ kd_ nu_ mo_ H → va_S (zIn 404 G) s.heap H locs → lv_has ls 2 [(1, .int (nI i)), (0, .ref (gM G 0))] → W p l e (headSpec wsX7_carryOut (zR 6 0 0)).room s m (List.toArray [.ref (gM G 0)]) below meth c H locs 0 0 (MQ below (zQi (fun r H => r = (coR pd n (Y 0) (Y 1)) ∧ (∃ a' : Nat, ∃ kd' : Int32, ∃ nu' : Int32, ∃ mo' : Int32, zTP V G (coY pd n Y hp) (if 0 ≤ coR pd n (Y 0) (Y 1) then (hp + 1) % 7 else hp) (if 0 ≤ coR pd n (Y 0) (Y 1) then min (hk + 1) 6 else hk) f1 f2 (coN pd n) pd a' kd' nu' mo' H)) (zIn 404 G)) (List.toArray [.ref (gM G 0)]) s 0 0 (zIn 404 G)) (F0 m 35 ls []) := by
        intro n_
        induction n_ with
        | zero => intro i q_A q_B a_ kd_ nu_ mo_ H locs ls hi_ hn_; exact absurd hn_ (by omega)
        | succ n_ ih =>
          intro i q_A q_B a_ kd_ nu_ mo_ H locs ls hi_ hn_ hco hok hwf han hT hS hl
          refine lv_iload_n hx hb dX7_carryOut_35 rfl (lv_at hl 0 rfl) ?_
          refine lv_bipush (v := 80) hx hb dX7_carryOut_36 (by decide +kernel) ?_
          refine zb_ge (x := i) (y := 80) (tgt := 71) hx hb dX7_carryOut_38 (by decide) (by omega) (by omega) (fun c_38 => ?_) (fun c_38 => ?_)
          · have hi80_ : i = 80 := by omega
            subst hi80_
            have hA_ : q_A = R_.1 := hco.1
            have hB_ : q_B = R_.2.1 := hco.2.1
            have hD_ : 80 = R_.2.2 := (Nat.zero_add 80).symm.trans hco.2.2
            rw [hA_, hB_] at hT
            have hl : lv_has ls 2 [(1, .int (nI R_.2.2)), (0, .ref (gM G 0))] := by rw [← hD_]; exact hl
            refine lv_aload_n hx hb dX7_carryOut_71 rfl (lv_at hl 1 rfl) ?_
            refine zo_get 5 (.ref (gQ G 0)) hx hb hts (fun x h => List.mem_cons_of_mem _ (hU_X7 x h)) hown hE (zT_c hT (c := 0) (by decide)) (show vwCl[7]? = some (RX7, TX7, 7) from rfl) (by decide) rfl (hts _ (List.mem_cons_of_mem _ uC_255)) (fun _ h9 => h9) dX7_carryOut_72 ?_
            refine zc_i (va_runVN (As := []) (rest := []) ⟨hx, hb, hml, hown, hts⟩ (c_X3_empty l V (gQ G) n pd a_ kd_ nu_ mo_ (zT_JQ hJ) (by omega)) ⟨va_cnB 0 hts (zgB_ wsC_all uC_196) rfl rfl rfl (hE.2 (.methodLinkNest RX7 188 yX3_empty "DrawerSlips") (List.mem_of_getElem? (i := 76) rfl)) (hts _ (List.mem_cons_of_mem _ uC_192)) (by decide +kernel) ⟨Nat.le_of_ble_eq_true rfl, Nat.le_of_ble_eq_true rfl⟩, (hts _ (List.mem_cons_of_mem _ uC_319)), (hts _ (List.mem_cons_of_mem _ uC_320))⟩ (zPreV (B := fun H => va_P V.1 vwCl (zqW V (gQ G) n pd a_ kd_ nu_ mo_) H) hT.2.1 hE (zq_rp hE hT.2.1)) rfl rfl hl.1 rfl (lv_room (Nat.le_of_ble_eq_true rfl)) dX7_carryOut_75 ⟨Nat.le_of_ble_eq_true rfl, Nat.le_of_ble_eq_true rfl⟩) hS (fun q h => zT_iQ h) (fun q h => zT_iQ h) (fun r_ H locs hQ_ _ hk_ hS => ?_)
            obtain ⟨hr_, hP⟩ := hQ_
            subst hr_
            have hT := zT_pad hT hJ hk_ hP
            refine lv_pop hx hb dX7_carryOut_78 rfl ?_
            refine lv_aload_n hx hb dX7_carryOut_79 rfl (lv_at hl 1 rfl) ?_
            refine lv_iload_n hx hb dX7_carryOut_80 rfl (lv_at hl 0 rfl) ?_
            refine zc_i (va_runV (As := [.int (nI R_.2.2)]) (rest := []) ⟨hx, hb, hml, hown, hts⟩ (c_X7_settled l V G (va_up (va_up Z 1 R_.2.1) 0 R_.1) hp hk f1 f2 0 pd a_ kd_ nu_ mo_ (nI R_.2.2) hJ (by omega) (by omega)) (cwV 1 hts (zgV_ wsC_all uC_263 uC_271 uC_272 uC_273 uC_25) rfl rfl rfl (by decide +kernel) ⟨Nat.le_of_ble_eq_true rfl, Nat.le_of_ble_eq_true rfl⟩) (zPreV (B := fun H => zTP V G (va_up (va_up Z 1 R_.2.1) 0 R_.1) hp hk f1 f2 0 pd a_ kd_ nu_ mo_ H) hT hE (zT_rt hE hT)) rfl rfl hl.1 rfl (lv_room (Nat.le_of_ble_eq_true rfl)) dX7_carryOut_81 ⟨Nat.le_of_ble_eq_true rfl, Nat.le_of_ble_eq_true rfl⟩) hS (fun _ h => h) (fun _ h => h) (fun r_ H locs hQ_ _ _ hS => ?_)
            obtain ⟨hr_, hT⟩ := hQ_
            subst hr_
            have hr_ : coR pd n (Y 0) (Y 1) = nI R_.2.2 := by rw [eR]; exact if_pos hw_
            exact zr_i hx hb hr hlocks hS (⟨hr_.symm, _, _, _, _, by rw [hr_, show coY pd n Y hp = va_up (va_up Z 1 R_.2.1) 0 R_.1 from by rw [eR, eZ]; exact if_pos hw_, show coN pd n = 0 from if_pos hw_]; exact hT⟩) dX7_carryOut_84
          · obtain ⟨f_, ef_⟩ : ∃ f, 80 - i = f + 1 := ⟨79 - i, by omega⟩
            rw [ef_] at hco hok
            obtain ⟨hgood, hok2_⟩ := hok
            obtain ⟨r1_, r2_, r0_, r34_⟩ := rTok_m pd n a_ nu_
            refine lv_aload_n hx hb dX7_carryOut_41 rfl (lv_at hl 1 rfl) ?_
            refine zo_get 6 (.ref (gQ G 2)) hx hb hts (fun x h => List.mem_cons_of_mem _ (hU_X7 x h)) hown hE (zT_c hT (c := 0) (by decide)) (show vwCl[7]? = some (RX7, TX7, 7) from rfl) (by decide) rfl (hts _ (List.mem_cons_of_mem _ uC_258)) (fun _ h9 => h9) dX7_carryOut_42 ?_
            refine zc_i (va_runVN (As := []) (rest := []) ⟨hx, hb, hml, hown, hts⟩ (c_X4_readOrder l V (gQ G) n pd a_ kd_ nu_ mo_ (zT_JQ hJ) (by omega) (by omega)) ⟨va_cnB 0 hts (zgB_ wsC_all uC_217) rfl rfl rfl (hE.2 (.methodLinkNest RX7 197 yX4_readOrder "DrawerSlips") (List.mem_of_getElem? (i := 81) rfl)) (hts _ (List.mem_cons_of_mem _ uC_211)) (by decide +kernel) ⟨Nat.le_of_ble_eq_true rfl, Nat.le_of_ble_eq_true rfl⟩, (hts _ (List.mem_cons_of_mem _ uC_231)), (hts _ (List.mem_cons_of_mem _ uC_232))⟩ (zPreV (B := fun H => va_P V.1 vwCl (zqW V (gQ G) n pd a_ kd_ nu_ mo_) H) hT.2.1 hE (zq_rr hE hT.2.1)) rfl rfl hl.1 rfl (lv_room (Nat.le_of_ble_eq_true rfl)) dX7_carryOut_45 ⟨Nat.le_of_ble_eq_true rfl, Nat.le_of_ble_eq_true rfl⟩) hS (fun q h => zT_iQ h) (fun q h => zT_iQ h) (fun r_ H locs hQ_ _ hk_ hS => ?_)
            obtain ⟨hr_, hP⟩ := hQ_
            subst hr_
            have hT := zT_pad hT hJ hk_ hP
            refine zbp_eq (P := (rTok pd n a_ nu_).1 = true) (tgt := 71) hx hb dX7_carryOut_48 (by decide) (fun c_48 => ?_) (fun c_48 => ?_)
            · have c_48 : ¬ (mTok pd n a_).1 = true := by rw [← r1_]; exact c_48
              rw [show kCO pd n (f_ + 1) q_A q_B a_ = (q_A, q_B, 0) from if_neg c_48] at hco
              have hA_ : q_A = R_.1 := hco.1
              have hB_ : q_B = R_.2.1 := hco.2.1
              have hD_ : i = R_.2.2 := (Nat.zero_add i).symm.trans hco.2.2
              rw [hA_, hB_] at hT
              have hl : lv_has ls 2 [(1, .int (nI R_.2.2)), (0, .ref (gM G 0))] := by rw [← hD_]; exact hl
              refine lv_aload_n hx hb dX7_carryOut_71 rfl (lv_at hl 1 rfl) ?_
              refine zo_get 5 (.ref (gQ G 0)) hx hb hts (fun x h => List.mem_cons_of_mem _ (hU_X7 x h)) hown hE (zT_c hT (c := 0) (by decide)) (show vwCl[7]? = some (RX7, TX7, 7) from rfl) (by decide) rfl (hts _ (List.mem_cons_of_mem _ uC_255)) (fun _ h9 => h9) dX7_carryOut_72 ?_
              refine zc_i (va_runVN (As := []) (rest := []) ⟨hx, hb, hml, hown, hts⟩ (c_X3_empty l V (gQ G) n pd ((rTok pd n a_ nu_).2.1) (mSg pd n a_) ((rTok pd n a_ nu_).2.2.1) ((rTok pd n a_ nu_).2.2.2) (zT_JQ hJ) (by omega)) ⟨va_cnB 0 hts (zgB_ wsC_all uC_196) rfl rfl rfl (hE.2 (.methodLinkNest RX7 188 yX3_empty "DrawerSlips") (List.mem_of_getElem? (i := 76) rfl)) (hts _ (List.mem_cons_of_mem _ uC_192)) (by decide +kernel) ⟨Nat.le_of_ble_eq_true rfl, Nat.le_of_ble_eq_true rfl⟩, (hts _ (List.mem_cons_of_mem _ uC_319)), (hts _ (List.mem_cons_of_mem _ uC_320))⟩ (zPreV (B := fun H => va_P V.1 vwCl (zqW V (gQ G) n pd ((rTok pd n a_ nu_).2.1) (mSg pd n a_) ((rTok pd n a_ nu_).2.2.1) ((rTok pd n a_ nu_).2.2.2)) H) hT.2.1 hE (zq_rp hE hT.2.1)) rfl rfl hl.1 rfl (lv_room (Nat.le_of_ble_eq_true rfl)) dX7_carryOut_75 ⟨Nat.le_of_ble_eq_true rfl, Nat.le_of_ble_eq_true rfl⟩) hS (fun q h => zT_iQ h) (fun q h => zT_iQ h) (fun r_ H locs hQ_ _ hk_ hS => ?_)
              obtain ⟨hr_, hP⟩ := hQ_
              subst hr_
              have hT := zT_pad hT hJ hk_ hP
              refine lv_pop hx hb dX7_carryOut_78 rfl ?_
              refine lv_aload_n hx hb dX7_carryOut_79 rfl (lv_at hl 1 rfl) ?_
              refine lv_iload_n hx hb dX7_carryOut_80 rfl (lv_at hl 0 rfl) ?_
              refine zc_i (va_runV (As := [.int (nI R_.2.2)]) (rest := []) ⟨hx, hb, hml, hown, hts⟩ (c_X7_settled l V G (va_up (va_up Z 1 R_.2.1) 0 R_.1) hp hk f1 f2 0 pd ((rTok pd n a_ nu_).2.1) (mSg pd n a_) ((rTok pd n a_ nu_).2.2.1) ((rTok pd n a_ nu_).2.2.2) (nI R_.2.2) hJ (by omega) (by omega)) (cwV 1 hts (zgV_ wsC_all uC_263 uC_271 uC_272 uC_273 uC_25) rfl rfl rfl (by decide +kernel) ⟨Nat.le_of_ble_eq_true rfl, Nat.le_of_ble_eq_true rfl⟩) (zPreV (B := fun H => zTP V G (va_up (va_up Z 1 R_.2.1) 0 R_.1) hp hk f1 f2 0 pd ((rTok pd n a_ nu_).2.1) (mSg pd n a_) ((rTok pd n a_ nu_).2.2.1) ((rTok pd n a_ nu_).2.2.2) H) hT hE (zT_rt hE hT)) rfl rfl hl.1 rfl (lv_room (Nat.le_of_ble_eq_true rfl)) dX7_carryOut_81 ⟨Nat.le_of_ble_eq_true rfl, Nat.le_of_ble_eq_true rfl⟩) hS (fun _ h => h) (fun _ h => h) (fun r_ H locs hQ_ _ _ hS => ?_)
              obtain ⟨hr_, hT⟩ := hQ_
              subst hr_
              have hr_ : coR pd n (Y 0) (Y 1) = nI R_.2.2 := by rw [eR]; exact if_pos hw_
              exact zr_i hx hb hr hlocks hS (⟨hr_.symm, _, _, _, _, by rw [hr_, show coY pd n Y hp = va_up (va_up Z 1 R_.2.1) 0 R_.1 from by rw [eR, eZ]; exact if_pos hw_, show coN pd n = 0 from if_pos hw_]; exact hT⟩) dX7_carryOut_84
            · rw [r1_] at c_48
              have r1_ := c_48
              obtain ⟨r3_, r4_⟩ := r34_ r1_
              rw [r2_, r3_, r4_, ← r0_] at hT
              refine lv_aload_n hx hb dX7_carryOut_51 rfl (lv_at hl 1 rfl) ?_
              refine zc_i (va_runV (As := []) (rest := []) ⟨hx, hb, hml, hown, hts⟩ (c_X7_obey l V G (va_up (va_up Z 1 q_B) 0 q_A) hp hk f1 f2 n pd ((mTok pd n a_).2.1) ((mTok pd n a_).2.2.1) ((mTok pd n a_).2.2.2.1) ((mTok pd n a_).2.2.2.2) hJ hwf hgood) (cwV 0 hts (zgV_ wsC_all uC_324 uC_326 uC_327 uC_328 uC_25) rfl rfl rfl (by decide +kernel) ⟨Nat.le_of_ble_eq_true rfl, Nat.le_of_ble_eq_true rfl⟩) (zPreV (B := fun H => zTP V G (va_up (va_up Z 1 q_B) 0 q_A) hp hk f1 f2 n pd ((mTok pd n a_).2.1) ((mTok pd n a_).2.2.1) ((mTok pd n a_).2.2.2.1) ((mTok pd n a_).2.2.2.2) H) hT hE (zT_rt hE hT)) rfl rfl hl.1 rfl (lv_room (Nat.le_of_ble_eq_true rfl)) dX7_carryOut_52 ⟨Nat.le_of_ble_eq_true rfl, Nat.le_of_ble_eq_true rfl⟩) hS (fun _ h => h) (fun _ h => h) (fun r_ H locs hQ_ _ _ hS => ?_)
              obtain ⟨hr_, hT⟩ := hQ_
              subst hr_
              have hw0_ := hwf 0 (by omega)
              have hwf := zWf_up (k := 1) (A := kObT q_A q_B ((mTok pd n a_).2.2.1) ((mTok pd n a_).2.2.2.1)) hwf (kObT_wf hw0_ (hwf 1 (by omega)))
              have hwf := zWf_up (k := 0) (A := kObA q_A ((mTok pd n a_).2.2.1) ((mTok pd n a_).2.2.2.1) ((mTok pd n a_).2.2.2.2)) hwf (kObA_wf hw0_)
              have hT : zTP V G (va_up (va_up (va_up (va_up Z 1 q_B) 0 q_A) 1 (kObT q_A q_B ((mTok pd n a_).2.2.1) ((mTok pd n a_).2.2.2.1))) 0 (kObA q_A ((mTok pd n a_).2.2.1) ((mTok pd n a_).2.2.2.1) ((mTok pd n a_).2.2.2.2))) hp hk f1 f2 n pd ((mTok pd n a_).2.1) ((mTok pd n a_).2.2.1) ((mTok pd n a_).2.2.2.1) ((mTok pd n a_).2.2.2.2) H := hT
              refine lv_if_lt (tgt := 71) hx hb dX7_carryOut_55 (by decide) (fun c_55 => ?_) (fun c_55 => ?_)
              · rw [zUp_4] at hT hwf
                rw [show kCO pd n (f_ + 1) q_A q_B a_ = (kObA q_A (mTok pd n a_).2.2.1 (mTok pd n a_).2.2.2.1 (mTok pd n a_).2.2.2.2, kObT q_A q_B (mTok pd n a_).2.2.1 (mTok pd n a_).2.2.2.1, 0) from (if_pos r1_).trans (if_neg (z_lt' c_55))] at hco
                have hA_ : kObA q_A (mTok pd n a_).2.2.1 (mTok pd n a_).2.2.2.1 (mTok pd n a_).2.2.2.2 = R_.1 := hco.1
                have hB_ : kObT q_A q_B (mTok pd n a_).2.2.1 (mTok pd n a_).2.2.2.1 = R_.2.1 := hco.2.1
                have hD_ : i = R_.2.2 := (Nat.zero_add i).symm.trans hco.2.2
                rw [hA_, hB_] at hT
                have hl : lv_has ls 2 [(1, .int (nI R_.2.2)), (0, .ref (gM G 0))] := by rw [← hD_]; exact hl
                refine lv_aload_n hx hb dX7_carryOut_71 rfl (lv_at hl 1 rfl) ?_
                refine zo_get 5 (.ref (gQ G 0)) hx hb hts (fun x h => List.mem_cons_of_mem _ (hU_X7 x h)) hown hE (zT_c hT (c := 0) (by decide)) (show vwCl[7]? = some (RX7, TX7, 7) from rfl) (by decide) rfl (hts _ (List.mem_cons_of_mem _ uC_255)) (fun _ h9 => h9) dX7_carryOut_72 ?_
                refine zc_i (va_runVN (As := []) (rest := []) ⟨hx, hb, hml, hown, hts⟩ (c_X3_empty l V (gQ G) n pd ((mTok pd n a_).2.1) ((mTok pd n a_).2.2.1) ((mTok pd n a_).2.2.2.1) ((mTok pd n a_).2.2.2.2) (zT_JQ hJ) (by omega)) ⟨va_cnB 0 hts (zgB_ wsC_all uC_196) rfl rfl rfl (hE.2 (.methodLinkNest RX7 188 yX3_empty "DrawerSlips") (List.mem_of_getElem? (i := 76) rfl)) (hts _ (List.mem_cons_of_mem _ uC_192)) (by decide +kernel) ⟨Nat.le_of_ble_eq_true rfl, Nat.le_of_ble_eq_true rfl⟩, (hts _ (List.mem_cons_of_mem _ uC_319)), (hts _ (List.mem_cons_of_mem _ uC_320))⟩ (zPreV (B := fun H => va_P V.1 vwCl (zqW V (gQ G) n pd ((mTok pd n a_).2.1) ((mTok pd n a_).2.2.1) ((mTok pd n a_).2.2.2.1) ((mTok pd n a_).2.2.2.2)) H) hT.2.1 hE (zq_rp hE hT.2.1)) rfl rfl hl.1 rfl (lv_room (Nat.le_of_ble_eq_true rfl)) dX7_carryOut_75 ⟨Nat.le_of_ble_eq_true rfl, Nat.le_of_ble_eq_true rfl⟩) hS (fun q h => zT_iQ h) (fun q h => zT_iQ h) (fun r_ H locs hQ_ _ hk_ hS => ?_)
                obtain ⟨hr_, hP⟩ := hQ_
                subst hr_
                have hT := zT_pad hT hJ hk_ hP
                refine lv_pop hx hb dX7_carryOut_78 rfl ?_
                refine lv_aload_n hx hb dX7_carryOut_79 rfl (lv_at hl 1 rfl) ?_
                refine lv_iload_n hx hb dX7_carryOut_80 rfl (lv_at hl 0 rfl) ?_
                refine zc_i (va_runV (As := [.int (nI R_.2.2)]) (rest := []) ⟨hx, hb, hml, hown, hts⟩ (c_X7_settled l V G (va_up (va_up Z 1 R_.2.1) 0 R_.1) hp hk f1 f2 0 pd ((mTok pd n a_).2.1) ((mTok pd n a_).2.2.1) ((mTok pd n a_).2.2.2.1) ((mTok pd n a_).2.2.2.2) (nI R_.2.2) hJ (by omega) (by omega)) (cwV 1 hts (zgV_ wsC_all uC_263 uC_271 uC_272 uC_273 uC_25) rfl rfl rfl (by decide +kernel) ⟨Nat.le_of_ble_eq_true rfl, Nat.le_of_ble_eq_true rfl⟩) (zPreV (B := fun H => zTP V G (va_up (va_up Z 1 R_.2.1) 0 R_.1) hp hk f1 f2 0 pd ((mTok pd n a_).2.1) ((mTok pd n a_).2.2.1) ((mTok pd n a_).2.2.2.1) ((mTok pd n a_).2.2.2.2) H) hT hE (zT_rt hE hT)) rfl rfl hl.1 rfl (lv_room (Nat.le_of_ble_eq_true rfl)) dX7_carryOut_81 ⟨Nat.le_of_ble_eq_true rfl, Nat.le_of_ble_eq_true rfl⟩) hS (fun _ h => h) (fun _ h => h) (fun r_ H locs hQ_ _ _ hS => ?_)
                obtain ⟨hr_, hT⟩ := hQ_
                subst hr_
                have hr_ : coR pd n (Y 0) (Y 1) = nI R_.2.2 := by rw [eR]; exact if_pos hw_
                exact zr_i hx hb hr hlocks hS (⟨hr_.symm, _, _, _, _, by rw [hr_, show coY pd n Y hp = va_up (va_up Z 1 R_.2.1) 0 R_.1 from by rw [eR, eZ]; exact if_pos hw_, show coN pd n = 0 from if_pos hw_]; exact hT⟩) dX7_carryOut_84
              · refine lv_iinc (v := nI (i + 1)) (lv' := [(1, .int (nI (i + 1))), (0, .ref (gM G 0))]) hx hb dX7_carryOut_58 hl (k := 0) rfl (z_inc1 i) (by decide) rfl (fun ls hl => ?_)
                refine lv_aload_n hx hb dX7_carryOut_61 rfl (lv_at hl 1 rfl) ?_
                refine zo_get 6 (.ref (gQ G 2)) hx hb hts (fun x h => List.mem_cons_of_mem _ (hU_X7 x h)) hown hE (zT_c hT (c := 0) (by decide)) (show vwCl[7]? = some (RX7, TX7, 7) from rfl) (by decide) rfl (hts _ (List.mem_cons_of_mem _ uC_258)) (fun _ h9 => h9) dX7_carryOut_62 ?_
                refine zc_v (va_runVN (As := []) (rest := []) ⟨hx, hb, hml, hown, hts⟩ (c_X4_skipSemicolon l V (gQ G) n pd ((mTok pd n a_).2.1) ((mTok pd n a_).2.2.1) ((mTok pd n a_).2.2.2.1) ((mTok pd n a_).2.2.2.2) (zT_JQ hJ)) ⟨va_cnB 0 hts (zgB_ wsC_all uC_225) rfl rfl rfl (hE.2 (.methodLinkNest RX7 204 yX4_skipSemicolon "DrawerSlips") (List.mem_of_getElem? (i := 82) rfl)) (hts _ (List.mem_cons_of_mem _ uC_211)) (by decide +kernel) ⟨Nat.le_of_ble_eq_true rfl, Nat.le_of_ble_eq_true rfl⟩, (hts _ (List.mem_cons_of_mem _ uC_234)), (hts _ (List.mem_cons_of_mem _ uC_235))⟩ (zPreV (B := fun H => va_P V.1 vwCl (zqW V (gQ G) n pd ((mTok pd n a_).2.1) ((mTok pd n a_).2.2.1) ((mTok pd n a_).2.2.2.1) ((mTok pd n a_).2.2.2.2)) H) hT.2.1 hE (zq_rr hE hT.2.1)) rfl rfl hl.1 rfl (lv_room (Nat.le_of_ble_eq_true rfl)) dX7_carryOut_65 ⟨Nat.le_of_ble_eq_true rfl, Nat.le_of_ble_eq_true rfl⟩) hS (fun q h => zT_iQ h) (fun q h => zT_iQ h) (fun H locs hQ_ _ hk_ hS => ?_)
                have hP := hQ_
                have hT := zT_pad hT hJ hk_ hP
                refine lv_goto (tgt := 35) hx hb dX7_carryOut_68 (by decide) ?_
                rw [zUp_4] at hT hwf
                have hle1_ := mTok_le pd (n := n) (a := a_) (Nat.le_of_lt (mTok_t r1_))
                rw [show f_ = 80 - (i + 1) by omega] at hco hok2_
                rw [show kCO pd n (80 - (i + 1) + 1) q_A q_B a_ = _ from (if_pos r1_).trans (if_pos (z_nlt c_55))] at hco
                exact ih (i + 1) (kObA q_A (mTok pd n a_).2.2.1 (mTok pd n a_).2.2.2.1 (mTok pd n a_).2.2.2.2) (kObT q_A q_B (mTok pd n a_).2.2.1 (mTok pd n a_).2.2.2.1) ((mTok pd n a_).2.1 + 1) ((mTok pd n a_).2.2.1) ((mTok pd n a_).2.2.2.1) ((mTok pd n a_).2.2.2.2) H locs ls (by omega) (by omega) (⟨hco.1, hco.2.1, by have h_ : (kCO pd n (80 - (i + 1)) (kObA q_A (mTok pd n a_).2.2.1 (mTok pd n a_).2.2.2.1 (mTok pd n a_).2.2.2.2) (kObT q_A q_B (mTok pd n a_).2.2.1 (mTok pd n a_).2.2.2.1) ((mTok pd n a_).2.1 + 1)).2.2 + 1 + i = R_.2.2 := hco.2.2; omega⟩) (hok2_ r1_ (z_nlt c_55)) hwf (by omega) hT hS (lv_sub hl [0, 1] rfl)
      exact L_35 (80 + 1) 0 (Y 0) (Y 1) 0 kd'_2 nu'_3 mo'_4 H locs ls (by omega) (by omega) (⟨congrArg (fun z => z.1) eR.symm, congrArg (fun z => z.2.1) eR.symm, congrArg (fun z => z.2.2) eR.symm⟩) hok80 hwf (Nat.zero_le _) hT hS (lv_sub hl [0, 1] rfl)
    · exact absurd rfl c_9
  · refine zt_i (y := nI (mWell pd n).2) (if_neg hw_) ?_
    have hwl_ := mWell_le pd n
    refine lv_bipush (v := (-6)) hx hb dX7_carryOut_7 (by decide +kernel) ?_
    refine lv_icmp_eq (tgt := 15) hx hb dX7_carryOut_9 (by decide) (fun c_9 => ?_) (fun c_9 => ?_)
    · exact absurd c_9 (z_n6 (by omega))
    · refine lv_bipush (v := (-3)) hx hb dX7_carryOut_12 (by decide +kernel) ?_
      exact zr_i hx hb hr hlocks hS (⟨(show coR pd n (Y 0) (Y 1) = -3 from if_neg hw_).symm, _, _, _, _, by rw [show coY pd n Y hp = Y from if_neg hw_, show coN pd n = n from if_neg hw_, show coR pd n (Y 0) (Y 1) = -3 from if_neg hw_, if_neg (show ¬ (0 : Int32) ≤ -3 by decide), if_neg (show ¬ (0 : Int32) ≤ -3 by decide)]; exact hT⟩) dX7_carryOut_14
