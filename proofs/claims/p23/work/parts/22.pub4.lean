def kGone (A : zA) (x : Int32) : Nat := (zFirst (fun j => decide (j = 30 ∨ kFind (aP (kRun A j)) x 30 = none)) 31).getD 0
def kSIR (A : zA) (x : Int32) : Int32 := kOn (kFind (aP A) x 30) (-1) (fun _ => aF (kRun A (kGone A x)) 6 - aF A 6)
def kSIT (A B : zA) (x : Int32) : zA := kOn (kFind (aP A) x 30) B (fun _ => kRun A (kGone A x))
def kLg0 (A : zA) : zA := (upd (aF A) 8 0, aT A, aS A, aU A, aV A, aX A, aP A)
def kAlR (A : zA) (wh : Int32) : Int32 := if 0 ≤ wh ∧ wh ≤ 2 then (if nwA A = 0 then -6 else if wh = 0 then aF (kRun (kLg0 A) (nwA A)) 6 - aF A 6 else if wh = 1 then aF (kRun (kLg0 A) (nwA A)) 9 - aF A 9 else aF (kRun (kLg0 A) (nwA A)) 8) else -2
def kAlT (A B : zA) (wh : Int32) : zA := if 0 ≤ wh ∧ wh ≤ 2 then (if nwA A = 0 then B else kRun (kLg0 A) (nwA A)) else B
theorem zU_sA {V : zV} {G : Nat → Nat} {Y : Nat → zA} {hp hk : Nat} {f1 f2 : Int32} {n : Nat} {pd : Nat → Int32} {a : Nat} {kd nu mo : Int32} {A' : zA} {x : va_E} (hx : zaXE V (gA G 1) A' 0 = x) (ho : ∀ q, q < 36 → q ≠ 0 → zaXE V (gA G 1) A' q = zaXE V (gA G 1) (Y 1) q) : (zWd 404 G (zUE V G Y hp hk f1 f2 n pd a kd nu mo)).set 36 (gA G 1 0, x) = zWd 404 G (zUE V G (va_up Y 1 A') hp hk f1 f2 n pd a kd nu mo) :=
  zWd_set (by omega) (by unfold zUE; rw [if_pos (by omega), show 36 / 36 = 1 from rfl, show 36 % 36 = 0 from rfl, zUp_s]; exact hx) (fun q hq hne => by
    unfold zUE
    by_cases h1 : q < 396
    · rw [if_pos h1, if_pos h1]
      by_cases h2 : q / 36 = 1
      · rw [h2, zUp_s]
        exact ho (q % 36) (by omega) (by omega)
      · rw [zUp_n _ _ h2]
    · rw [if_neg h1, if_neg h1])
theorem zT_ofA {V : zV} {G : Nat → Nat} {Y : Nat → zA} {hp hk : Nat} {f1 f2 : Int32} {n : Nat} {pd : Nat → Int32} {a : Nat} {kd nu mo : Int32} {H : Heap} {A' : zA} {x : va_E} (hx : zaXE V (gA G 1) A' 0 = x) (ho : ∀ q, q < 36 → q ≠ 0 → zaXE V (gA G 1) A' q = zaXE V (gA G 1) (Y 1) q) (h : va_P V.1 vwCl ((zWd 404 G (zUE V G Y hp hk f1 f2 n pd a kd nu mo)).set 36 (gA G 1 0, x)) H) : zTP V G (va_up Y 1 A') hp hk f1 f2 n pd a kd nu mo H := by
  rw [zU_sA hx ho] at h
  exact zT_uni.mpr h
theorem zU_cA (V : zV) (G : Nat → Nat) (Y : Nat → zA) (hp hk : Nat) (f1 f2 : Int32) (n : Nat) (pd : Nat → Int32) (a : Nat) (kd nu mo : Int32) : (zWd 404 G (zUE V G Y hp hk f1 f2 n pd a kd nu mo))[36]? = some (gA G 1 0, .inr (0, zaO (gA G 1) (aF (Y 1)))) := by
  rw [zWd_at (by omega)]
  unfold zUE
  rw [if_pos (by omega)]
  rfl
theorem kAlT_wf {A B : zA} {wh : Int32} (h : zWfA A) (h2 : zWfA B) : zWfA (kAlT A B wh) := by
  unfold kAlT
  split
  · split
    · exact h2
    · exact kRun_wf (A := kLg0 A) h _
  · exact h2
theorem kSIT_wf {A B : zA} {x : Int32} (h : zWfA A) (h2 : zWfA B) : zWfA (kSIT A B x) := by
  unfold kSIT
  rcases hq : kFind (aP A) x 30 with _ | k
  · rw [kOn_n rfl]; exact h2
  · rw [kOn_s rfl]; exact kRun_wf h _
set_option maxHeartbeats 4000000 in
set_option maxRecDepth 100000 in
theorem c_X7_servedIn (l : Launch) (V : zV) (G : Nat → Nat) (Y : Nat → zA) (hp hk : Nat) (f1 f2 : Int32) (n : Nat) (pd : Nat → Int32) (a : Nat) (kd nu mo : Int32) (x : Int32) (hJ : zInj 404 G) (hwf : ∀ j, j < 11 → zWfA (Y j)) (hgood : kGood (Y 0)) : Met l yX7_servedIn wsX7_servedIn (zR 4 0 0) (zPc V [.ref (gM G 0), .int x] (fun H => zTP V G Y hp hk f1 f2 n pd a kd nu mo H)) (zQi (fun r H => r = (kSIR (Y 0) x) ∧ (zTP V G (va_up Y 1 (kSIT (Y 0) (Y 1) x)) hp hk f1 f2 n pd a kd nu mo H)) (zIn 404 G)) 0 0 (zIn 404 G) := by
  refine Met.ofW (cc := cX7_servedIn) (maxL := 3) (ret := (some .int)) (by decide) rfl ?_
  intro p e s m args below meth c s₁ B hml hv
  obtain ⟨rfl, hP, hE⟩ := hv
  have hx := B.exec
  have hb := B.bytes
  have hr := B.returns
  have hts := atoms_spec (ws := wsX7_servedIn) B.pre
  have hown : s.vm.findClass RX7 = some m.cls := findClass_of_methodNamed B.named
  have hlocks := B.notSynchronized
  have hl := lv_entry ([.ref (gM G 0), .int x]) (n := 3) (Nat.le_of_ble_eq_true rfl)
  rw [lg_entry_eq]
  generalize (lg_sl ([.ref (gM G 0), .int x]) ++ List.replicate (3 - (lg_sl ([.ref (gM G 0), .int x])).length) Slot.unset).toArray = ls at hl ⊢
  have hl : lv_has ls 3 [(0, .ref (gM G 0)), (1, .int x)] := hl
  have hT := hP
  have hS : va_S (zIn 404 G) s.heap s.heap [] := va_S.rf
  have hg1_ := hgood.2.1
  have hg2_ := hgood.2.2
  refine lv_aload_n hx hb dX7_servedIn_0 rfl (lv_at hl 0 rfl) ?_
  refine zo_get 0 (.ref (gA G 0 0)) hx hb hts (fun x h => List.mem_cons_of_mem _ (hU_X7 x h)) hown hE (zT_c hT (c := 0) (by decide)) (show vwCl[7]? = some (RX7, TX7, 7) from rfl) (by decide) rfl (hts _ (List.mem_cons_of_mem _ uC_243)) (fun _ h9 => h9) dX7_servedIn_1 ?_
  refine lv_iload_n hx hb dX7_servedIn_4 rfl (lv_at hl 1 rfl) ?_
  refine zc_sqe (va_runVN (As := [.int x]) (rest := []) ⟨hx, hb, hml, hown, hts⟩ (c_X0_find l V (gA G 0) (aF (Y 0)) (aT (Y 0)) (nI (aS (Y 0))) (aU (Y 0)) (aV (Y 0)) (aX (Y 0)) (aP (Y 0)) x) ⟨va_cnB 1 hts (zgB_ wsC_all uC_80) rfl rfl rfl (hE.2 (.methodLinkNest RX7 100 yX0_find "DrawerSlips") (List.mem_of_getElem? (i := 59) rfl)) (hts _ (List.mem_cons_of_mem _ uC_73)) (by decide +kernel) ⟨Nat.le_of_ble_eq_true rfl, Nat.le_of_ble_eq_true rfl⟩, (hts _ (List.mem_cons_of_mem _ uC_85)), (hts _ (List.mem_cons_of_mem _ uC_86))⟩ (zPreV (B := fun H => va_P V.1 vwCl (zaW V (gA G 0) (aF (Y 0)) (aT (Y 0)) (nI (aS (Y 0))) (aU (Y 0)) (aV (Y 0)) (aX (Y 0)) (aP (Y 0))) H) (hT.1 0 (by omega)) hE (za_ro hE (hT.1 0 (by omega)))) rfl rfl hl.1 rfl (lv_room (Nat.le_of_ble_eq_true rfl)) dX7_servedIn_5 ⟨Nat.le_of_ble_eq_true rfl, Nat.le_of_ble_eq_true rfl⟩) ?_
  rcases hq_8 : kFind (aP (Y 0)) x 30 with _ | k_8
  · refine zt_v (y := .null) (by first | rfl | (rw [hq_8]; rfl)) ?_
    refine lv_ifnonnullN hx hb dX7_servedIn_8 ?_
    refine lv_iconst (v := (-1)) hx hb dX7_servedIn_11 (by decide +kernel) ?_
    exact zr_i hx hb hr hlocks hS (⟨(show kSIR (Y 0) x = -1 from kOn_n hq_8).symm, by rw [show kSIT (Y 0) (Y 1) x = Y 1 from kOn_n hq_8, zUp_id Y (k := 1) rfl]; exact hT⟩) dX7_servedIn_12
  · refine zt_v (y := .ref (gA G 0 (k_8 + 6))) (by first | rfl | (rw [hq_8]; rfl)) ?_
    have hb_8 : k_8 < 30 := by first | exact (zFirst_lt hq_8).1 | exact (zBest_lt hq_8).1 | exact kSel_lt hq_8 | (have h_ := (zBest_lt hq_8).1; omega)
    refine lv_ifnonnull (tgt := 13) hx hb dX7_servedIn_8 (by decide) ?_
    refine lv_aload_n hx hb dX7_servedIn_13 rfl (lv_at hl 0 rfl) ?_
    refine zo_get 1 (.ref (gA G 1 0)) hx hb hts (fun x h => List.mem_cons_of_mem _ (hU_X7 x h)) hown hE (zT_c hT (c := 0) (by decide)) (show vwCl[7]? = some (RX7, TX7, 7) from rfl) (by decide) rfl (hts _ (List.mem_cons_of_mem _ uC_244)) (fun _ h9 => h9) dX7_servedIn_14 ?_
    refine lv_aload_n hx hb dX7_servedIn_17 rfl (lv_at hl 0 rfl) ?_
    refine zo_get 0 (.ref (gA G 0 0)) hx hb hts (fun x h => List.mem_cons_of_mem _ (hU_X7 x h)) hown hE (zT_c hT (c := 0) (by decide)) (show vwCl[7]? = some (RX7, TX7, 7) from rfl) (by decide) rfl (hts _ (List.mem_cons_of_mem _ uC_243)) (fun _ h9 => h9) dX7_servedIn_18 ?_
    refine zc_v (va_runVN (As := [.ref (gA G 0 0)]) (rest := []) ⟨hx, hb, hml, hown, hts⟩ (c_X0_copyFrom l V (gA G 1) (gA G 0) (aF (Y 1)) (aT (Y 1)) (nI (aS (Y 1))) (aU (Y 1)) (aV (Y 1)) (aX (Y 1)) (aP (Y 1)) (aF (Y 0)) (aT (Y 0)) (nI (aS (Y 0))) (aU (Y 0)) (aV (Y 0)) (aX (Y 0)) (aP (Y 0)) (zT_JA hJ (by omega)) (zT_dA hJ (by omega) (by omega) (by omega)) (hwf 0 (by omega))) ⟨va_cnB 1 hts (zgB_ wsC_all uC_37) rfl rfl rfl (hE.2 (.methodLinkNest RX7 89 yX0_copyFrom "DrawerSlips") (List.mem_of_getElem? (i := 53) rfl)) (hts _ (List.mem_cons_of_mem _ uC_73)) (by decide +kernel) ⟨Nat.le_of_ble_eq_true rfl, Nat.le_of_ble_eq_true rfl⟩, (hts _ (List.mem_cons_of_mem _ uC_168)), (hts _ (List.mem_cons_of_mem _ uC_169))⟩ (zPreV (B := fun H => va_P V.1 vwCl (zaW V (gA G 1) (aF (Y 1)) (aT (Y 1)) (nI (aS (Y 1))) (aU (Y 1)) (aV (Y 1)) (aX (Y 1)) (aP (Y 1))) H ∧ va_P V.1 vwCl (zaW V (gA G 0) (aF (Y 0)) (aT (Y 0)) (nI (aS (Y 0))) (aU (Y 0)) (aV (Y 0)) (aX (Y 0)) (aP (Y 0))) H) ⟨(hT.1 1 (by omega)), (hT.1 0 (by omega))⟩ hE (zT_ra hE hT (by omega))) rfl rfl hl.1 rfl (lv_room (Nat.le_of_ble_eq_true rfl)) dX7_servedIn_21 ⟨Nat.le_of_ble_eq_true rfl, Nat.le_of_ble_eq_true rfl⟩) hS (fun q h => zT_iA (by omega) h) (fun q h => zT_iA (by omega) h) (fun H locs hQ_ _ hk_ hS => ?_)
    have hT := zT_arch (j := 1) (A' := (Y 0)) hT hJ (by omega) hk_ hQ_
    have hwf := zWf_up (k := 1) (A := (Y 0)) hwf (hwf 0 (by omega))
    refine lv_iconst (v := 0) hx hb dX7_servedIn_24 (by decide +kernel) ?_
    refine lv_istore_n (lv' := [(2, .int 0), (0, .ref (gM G 0)), (1, .int x)]) hx hb dX7_servedIn_25 rfl hl (by decide) rfl (fun ls hl => ?_)
    have L_26 : ∀ (n_ i : Nat) (q_ : zA) (H : Heap) (locs : List Loc) (ls : Array Slot), i ≤ 30 → 30 + 1 ≤ i + n_ → (q_ = kRun (Y 0) i) → (∀ j, j < 11 → zWfA (va_up Y 1 q_ j)) → (aS q_ ≤ aS (Y 0) + i) → (zFirst (fun j => decide (j = 30 ∨ kFind (aP (kRun (Y 0) j)) x 30 = none)) i = none) → zTP V G (va_up Y 1 q_) hp hk f1 f2 n pd a kd nu mo H → va_S (zIn 404 G) s.heap H locs → lv_has ls 3 [(2, .int (nI i)), (0, .ref (gM G 0)), (1, .int x)] → W p l e (headSpec wsX7_servedIn (zR 4 0 0)).room s m (List.toArray [.ref (gM G 0), .int x]) below meth c H locs 0 0 (MQ below (zQi (fun r H => r = (kSIR (Y 0) x) ∧ (zTP V G (va_up Y 1 (kSIT (Y 0) (Y 1) x)) hp hk f1 f2 n pd a kd nu mo H)) (zIn 404 G)) (List.toArray [.ref (gM G 0), .int x]) s 0 0 (zIn 404 G)) (F0 m 26 ls []) := by
      intro n_
      induction n_ with
      | zero => intro i q_ H locs ls hi_ hn_; exact absurd hn_ (by omega)
      | succ n_ ih =>
        intro i q_ H locs ls hi_ hn_ eq_ hwf hs_ hno hT hS hl
        refine lv_iload_n hx hb dX7_servedIn_26 rfl (lv_at hl 0 rfl) ?_
        refine lv_bipush (v := 30) hx hb dX7_servedIn_27 (by decide +kernel) ?_
        refine zb_ge (x := i) (y := 30) (tgt := 56) hx hb dX7_servedIn_29 (by decide) (by omega) (by omega) (fun c_29 => ?_) (fun c_29 => ?_)
        · refine lv_aload_n hx hb dX7_servedIn_56 rfl (lv_at hl 1 rfl) ?_
          refine zo_get 1 (.ref (gA G 1 0)) hx hb hts (fun x h => List.mem_cons_of_mem _ (hU_X7 x h)) hown hE (zT_c hT (c := 0) (by decide)) (show vwCl[7]? = some (RX7, TX7, 7) from rfl) (by decide) rfl (hts _ (List.mem_cons_of_mem _ uC_244)) (fun _ h9 => h9) dX7_servedIn_57 ?_
          refine zo_getN 6 (.int (aF q_ 6)) hx hb hts (fun x h => List.mem_cons_of_mem _ (hU_X0 x h)) hown hE (za_o (hT.1 1 (by omega))) (show vwCl[0]? = some (RX0, TX0, 14) from rfl) (by decide) rfl (List.mem_of_getElem? (i := 15) rfl) (fun _ h9 => h9) dX7_servedIn_60 ?_
          refine lv_aload_n hx hb dX7_servedIn_63 rfl (lv_at hl 1 rfl) ?_
          refine zo_get 0 (.ref (gA G 0 0)) hx hb hts (fun x h => List.mem_cons_of_mem _ (hU_X7 x h)) hown hE (zT_c hT (c := 0) (by decide)) (show vwCl[7]? = some (RX7, TX7, 7) from rfl) (by decide) rfl (hts _ (List.mem_cons_of_mem _ uC_243)) (fun _ h9 => h9) dX7_servedIn_64 ?_
          refine zo_getN 6 (.int (aF (Y 0) 6)) hx hb hts (fun x h => List.mem_cons_of_mem _ (hU_X0 x h)) hown hE (za_o (hT.1 0 (by omega))) (show vwCl[0]? = some (RX0, TX0, 14) from rfl) (by decide) rfl (List.mem_of_getElem? (i := 15) rfl) (fun _ h9 => h9) dX7_servedIn_67 ?_
          refine lv_isub hx hb dX7_servedIn_70 ?_
          have e_ : kGone (Y 0) x = i := by rw [kGone, zFirst_hit hno (decide_eq_true (Or.inl (by omega))) (by omega)]; rfl
          exact zr_i hx hb hr hlocks hS (⟨(show kSIR (Y 0) x = aF q_ 6 - aF (Y 0) 6 from (kOn_s hq_8).trans (by rw [e_, ← eq_])).symm, by rw [show kSIT (Y 0) (Y 1) x = q_ from (kOn_s hq_8).trans (by rw [e_, ← eq_])]; exact hT⟩) dX7_servedIn_71
        · refine lv_aload_n hx hb dX7_servedIn_32 rfl (lv_at hl 1 rfl) ?_
          refine zo_get 1 (.ref (gA G 1 0)) hx hb hts (fun x h => List.mem_cons_of_mem _ (hU_X7 x h)) hown hE (zT_c hT (c := 0) (by decide)) (show vwCl[7]? = some (RX7, TX7, 7) from rfl) (by decide) rfl (hts _ (List.mem_cons_of_mem _ uC_244)) (fun _ h9 => h9) dX7_servedIn_33 ?_
          refine lv_iload_n hx hb dX7_servedIn_36 rfl (lv_at hl 2 rfl) ?_
          refine zc_sqe (va_runVN (As := [.int x]) (rest := []) ⟨hx, hb, hml, hown, hts⟩ (c_X0_find l V (gA G 1) (aF q_) (aT q_) (nI (aS q_)) (aU q_) (aV q_) (aX q_) (aP q_) x) ⟨va_cnB 1 hts (zgB_ wsC_all uC_80) rfl rfl rfl (hE.2 (.methodLinkNest RX7 100 yX0_find "DrawerSlips") (List.mem_of_getElem? (i := 59) rfl)) (hts _ (List.mem_cons_of_mem _ uC_73)) (by decide +kernel) ⟨Nat.le_of_ble_eq_true rfl, Nat.le_of_ble_eq_true rfl⟩, (hts _ (List.mem_cons_of_mem _ uC_85)), (hts _ (List.mem_cons_of_mem _ uC_86))⟩ (zPreV (B := fun H => va_P V.1 vwCl (zaW V (gA G 1) (aF q_) (aT q_) (nI (aS q_)) (aU q_) (aV q_) (aX q_) (aP q_)) H) (hT.1 1 (by omega)) hE (za_ro hE (hT.1 1 (by omega)))) rfl rfl hl.1 rfl (lv_room (Nat.le_of_ble_eq_true rfl)) dX7_servedIn_37 ⟨Nat.le_of_ble_eq_true rfl, Nat.le_of_ble_eq_true rfl⟩) ?_
          rcases hq_40 : kFind (aP q_) x 30 with _ | k_40
          · refine zt_v (y := .null) (by first | rfl | (rw [hq_40]; rfl)) ?_
            refine lv_ifnullN (tgt := 56) hx hb dX7_servedIn_40 (by decide) ?_
            refine lv_aload_n hx hb dX7_servedIn_56 rfl (lv_at hl 1 rfl) ?_
            refine zo_get 1 (.ref (gA G 1 0)) hx hb hts (fun x h => List.mem_cons_of_mem _ (hU_X7 x h)) hown hE (zT_c hT (c := 0) (by decide)) (show vwCl[7]? = some (RX7, TX7, 7) from rfl) (by decide) rfl (hts _ (List.mem_cons_of_mem _ uC_244)) (fun _ h9 => h9) dX7_servedIn_57 ?_
            refine zo_getN 6 (.int (aF q_ 6)) hx hb hts (fun x h => List.mem_cons_of_mem _ (hU_X0 x h)) hown hE (za_o (hT.1 1 (by omega))) (show vwCl[0]? = some (RX0, TX0, 14) from rfl) (by decide) rfl (List.mem_of_getElem? (i := 15) rfl) (fun _ h9 => h9) dX7_servedIn_60 ?_
            refine lv_aload_n hx hb dX7_servedIn_63 rfl (lv_at hl 1 rfl) ?_
            refine zo_get 0 (.ref (gA G 0 0)) hx hb hts (fun x h => List.mem_cons_of_mem _ (hU_X7 x h)) hown hE (zT_c hT (c := 0) (by decide)) (show vwCl[7]? = some (RX7, TX7, 7) from rfl) (by decide) rfl (hts _ (List.mem_cons_of_mem _ uC_243)) (fun _ h9 => h9) dX7_servedIn_64 ?_
            refine zo_getN 6 (.int (aF (Y 0) 6)) hx hb hts (fun x h => List.mem_cons_of_mem _ (hU_X0 x h)) hown hE (za_o (hT.1 0 (by omega))) (show vwCl[0]? = some (RX0, TX0, 14) from rfl) (by decide) rfl (List.mem_of_getElem? (i := 15) rfl) (fun _ h9 => h9) dX7_servedIn_67 ?_
            refine lv_isub hx hb dX7_servedIn_70 ?_
            have e_ : kGone (Y 0) x = i := by rw [kGone, zFirst_hit hno (decide_eq_true (Or.inr (by rw [← eq_]; exact hq_40))) (by omega)]; rfl
            exact zr_i hx hb hr hlocks hS (⟨(show kSIR (Y 0) x = aF q_ 6 - aF (Y 0) 6 from (kOn_s hq_8).trans (by rw [e_, ← eq_])).symm, by rw [show kSIT (Y 0) (Y 1) x = q_ from (kOn_s hq_8).trans (by rw [e_, ← eq_])]; exact hT⟩) dX7_servedIn_71
          · refine zt_v (y := .ref (gA G 1 (k_40 + 6))) (by first | rfl | (rw [hq_40]; rfl)) ?_
            have hb_40 : k_40 < 30 := by first | exact (zFirst_lt hq_40).1 | exact (zBest_lt hq_40).1 | exact kSel_lt hq_40 | (have h_ := (zBest_lt hq_40).1; omega)
            refine lv_ifnull hx hb dX7_servedIn_40 ?_
            refine lv_aload_n hx hb dX7_servedIn_43 rfl (lv_at hl 1 rfl) ?_
            refine zo_get 1 (.ref (gA G 1 0)) hx hb hts (fun x h => List.mem_cons_of_mem _ (hU_X7 x h)) hown hE (zT_c hT (c := 0) (by decide)) (show vwCl[7]? = some (RX7, TX7, 7) from rfl) (by decide) rfl (hts _ (List.mem_cons_of_mem _ uC_244)) (fun _ h9 => h9) dX7_servedIn_44 ?_
            refine zc_v (va_runVN (As := []) (rest := []) ⟨hx, hb, hml, hown, hts⟩ (c_X0_serveNext l V (gA G 1) (aF q_) (aT q_) (nI (aS q_)) (aU q_) (aV q_) (aX q_) (aP q_) (aS q_) (zT_JA hJ (by omega)) rfl (by omega)) ⟨va_cnB 0 hts (zgB_ wsC_all uC_134) rfl rfl rfl (hE.2 (.methodLinkNest RX7 92 yX0_serveNext "DrawerSlips") (List.mem_of_getElem? (i := 54) rfl)) (hts _ (List.mem_cons_of_mem _ uC_73)) (by decide +kernel) ⟨Nat.le_of_ble_eq_true rfl, Nat.le_of_ble_eq_true rfl⟩, (hts _ (List.mem_cons_of_mem _ uC_285)), (hts _ (List.mem_cons_of_mem _ uC_286))⟩ (zPreV (B := fun H => va_P V.1 vwCl (zaW V (gA G 1) (aF q_) (aT q_) (nI (aS q_)) (aU q_) (aV q_) (aX q_) (aP q_)) H) (hT.1 1 (by omega)) hE (zT_ra hE hT (by omega))) rfl rfl hl.1 rfl (lv_room (Nat.le_of_ble_eq_true rfl)) dX7_servedIn_47 ⟨Nat.le_of_ble_eq_true rfl, Nat.le_of_ble_eq_true rfl⟩) hS (fun q h => zT_iA (by omega) h) (fun q h => zT_iA (by omega) h) (fun H locs hQ_ _ hk_ hS => ?_)
            have hT := zT_arch (j := 1) (A' := kNx q_) hT hJ (by omega) hk_ hQ_
            have hwf := zWf_up (k := 1) (A := kNx q_) hwf (kNx_wf (hwf 1 (by omega)))
            refine lv_iinc (v := nI (i + 1)) (lv' := [(2, .int (nI (i + 1))), (0, .ref (gM G 0)), (1, .int x)]) hx hb dX7_servedIn_50 hl (k := 0) rfl (z_inc1 i) (by decide) rfl (fun ls hl => ?_)
            refine lv_goto (tgt := 26) hx hb dX7_servedIn_53 (by decide) ?_
            rw [zUp_up] at hT hwf
            exact ih (i + 1) (kNx q_) H locs ls (by omega) (by omega) (by rw [eq_]; rfl) hwf (by have h_ := kNx_S q_; omega) (zFirst_no hno (decide_eq_false (fun h => h.elim (by omega) (fun h => by rw [← eq_, hq_40] at h; cases h)))) hT hS (lv_sub hl [0, 1, 2] rfl)
    exact L_26 (30 + 1) 0 (Y 0) H locs ls (by omega) (by omega) rfl hwf (Nat.le_refl _) rfl hT hS (lv_sub hl [0, 1, 2] rfl)
set_option maxHeartbeats 4000000 in
set_option maxRecDepth 100000 in
theorem c_X7_all (l : Launch) (V : zV) (G : Nat → Nat) (Y : Nat → zA) (hp hk : Nat) (f1 f2 : Int32) (n : Nat) (pd : Nat → Int32) (a : Nat) (kd nu mo : Int32) (wh : Int32) (hJ : zInj 404 G) (hwf : ∀ j, j < 11 → zWfA (Y j)) (hgood : kGood (Y 0)) : Met l yX7_all wsX7_all (zR 4 0 0) (zPc V [.ref (gM G 0), .int wh] (fun H => zTP V G Y hp hk f1 f2 n pd a kd nu mo H)) (zQi (fun r H => r = (kAlR (Y 0) wh) ∧ (zTP V G (va_up Y 1 (kAlT (Y 0) (Y 1) wh)) hp hk f1 f2 n pd a kd nu mo H)) (zIn 404 G)) 0 0 (zIn 404 G) := by
  refine Met.ofW (cc := cX7_all) (maxL := 4) (ret := (some .int)) (by decide) rfl ?_
  intro p e s m args below meth c s₁ B hml hv
  obtain ⟨rfl, hP, hE⟩ := hv
  have hx := B.exec
  have hb := B.bytes
  have hr := B.returns
  have hts := atoms_spec (ws := wsX7_all) B.pre
  have hown : s.vm.findClass RX7 = some m.cls := findClass_of_methodNamed B.named
  have hlocks := B.notSynchronized
  have hl := lv_entry ([.ref (gM G 0), .int wh]) (n := 4) (Nat.le_of_ble_eq_true rfl)
  rw [lg_entry_eq]
  generalize (lg_sl ([.ref (gM G 0), .int wh]) ++ List.replicate (4 - (lg_sl ([.ref (gM G 0), .int wh])).length) Slot.unset).toArray = ls at hl ⊢
  have hl : lv_has ls 4 [(0, .ref (gM G 0)), (1, .int wh)] := hl
  have hT := hP
  have hS : va_S (zIn 404 G) s.heap s.heap [] := va_S.rf
  have hg1_ := hgood.2.1
  have hg2_ := hgood.2.2
  refine lv_iload_n hx hb dX7_all_0 rfl (lv_at hl 1 rfl) ?_
  refine lv_if_lt (tgt := 9) hx hb dX7_all_1 (by decide) (fun c_1 => ?_) (fun c_1 => ?_)
  · refine lv_bipush (v := (-2)) hx hb dX7_all_9 (by decide +kernel) ?_
    exact zr_i hx hb hr hlocks hS (⟨(show kAlR (Y 0) wh = (-2) from if_neg (fun h => z_lt' c_1 h.1)).symm, by rw [show kAlT (Y 0) (Y 1) wh = Y 1 from if_neg (fun h => z_lt' c_1 h.1), zUp_id Y (k := 1) rfl]; exact hT⟩) dX7_all_11
  · refine lv_iload_n hx hb dX7_all_4 rfl (lv_at hl 1 rfl) ?_
    refine lv_iconst (v := 2) hx hb dX7_all_5 (by decide +kernel) ?_
    refine lv_icmp_le (tgt := 12) hx hb dX7_all_6 (by decide) (fun c_6 => ?_) (fun c_6 => ?_)
    · refine lv_aload_n hx hb dX7_all_12 rfl (lv_at hl 0 rfl) ?_
      refine zo_get 0 (.ref (gA G 0 0)) hx hb hts (fun x h => List.mem_cons_of_mem _ (hU_X7 x h)) hown hE (zT_c hT (c := 0) (by decide)) (show vwCl[7]? = some (RX7, TX7, 7) from rfl) (by decide) rfl (hts _ (List.mem_cons_of_mem _ uC_243)) (fun _ h9 => h9) dX7_all_13 ?_
      refine zc_se (va_runVN (As := []) (rest := []) ⟨hx, hb, hml, hown, hts⟩ (c_X0_slipsThatWait l V (gA G 0) (aF (Y 0)) (aT (Y 0)) (nI (aS (Y 0))) (aU (Y 0)) (aV (Y 0)) (aX (Y 0)) (aP (Y 0))) ⟨va_cnB 0 hts (zgB_ wsC_all uC_95) rfl rfl rfl (hE.2 (.methodLinkNest RX7 80 yX0_slipsThatWait "DrawerSlips") (List.mem_of_getElem? (i := 52) rfl)) (hts _ (List.mem_cons_of_mem _ uC_73)) (by decide +kernel) ⟨Nat.le_of_ble_eq_true rfl, Nat.le_of_ble_eq_true rfl⟩, (hts _ (List.mem_cons_of_mem _ uC_283)), (hts _ (List.mem_cons_of_mem _ uC_284))⟩ (zPreV (B := fun H => va_P V.1 vwCl (zaW V (gA G 0) (aF (Y 0)) (aT (Y 0)) (nI (aS (Y 0))) (aU (Y 0)) (aV (Y 0)) (aX (Y 0)) (aP (Y 0))) H) (hT.1 0 (by omega)) hE (za_ro hE (hT.1 0 (by omega)))) rfl rfl hl.1 rfl (lv_room (Nat.le_of_ble_eq_true rfl)) dX7_all_16 ⟨Nat.le_of_ble_eq_true rfl, Nat.le_of_ble_eq_true rfl⟩) ?_
      refine zt_i (y := nI (nwA (Y 0))) hgood.1 ?_
      refine lv_istore_n (lv' := [(2, .int (nI (nwA (Y 0)))), (0, .ref (gM G 0)), (1, .int wh)]) hx hb dX7_all_19 rfl hl (by decide) rfl (fun ls hl => ?_)
      refine lv_iload_n hx hb dX7_all_20 rfl (lv_at hl 0 rfl) ?_
      refine zb0_ne (x := nwA (Y 0)) (tgt := 27) hx hb dX7_all_21 (by decide) (by omega) (fun c_21 => ?_) (fun c_21 => ?_)
      · refine lv_aload_n hx hb dX7_all_27 rfl (lv_at hl 1 rfl) ?_
        refine zo_get 1 (.ref (gA G 1 0)) hx hb hts (fun x h => List.mem_cons_of_mem _ (hU_X7 x h)) hown hE (zT_c hT (c := 0) (by decide)) (show vwCl[7]? = some (RX7, TX7, 7) from rfl) (by decide) rfl (hts _ (List.mem_cons_of_mem _ uC_244)) (fun _ h9 => h9) dX7_all_28 ?_
        refine lv_aload_n hx hb dX7_all_31 rfl (lv_at hl 1 rfl) ?_
        refine zo_get 0 (.ref (gA G 0 0)) hx hb hts (fun x h => List.mem_cons_of_mem _ (hU_X7 x h)) hown hE (zT_c hT (c := 0) (by decide)) (show vwCl[7]? = some (RX7, TX7, 7) from rfl) (by decide) rfl (hts _ (List.mem_cons_of_mem _ uC_243)) (fun _ h9 => h9) dX7_all_32 ?_
        refine zc_v (va_runVN (As := [.ref (gA G 0 0)]) (rest := []) ⟨hx, hb, hml, hown, hts⟩ (c_X0_copyFrom l V (gA G 1) (gA G 0) (aF (Y 1)) (aT (Y 1)) (nI (aS (Y 1))) (aU (Y 1)) (aV (Y 1)) (aX (Y 1)) (aP (Y 1)) (aF (Y 0)) (aT (Y 0)) (nI (aS (Y 0))) (aU (Y 0)) (aV (Y 0)) (aX (Y 0)) (aP (Y 0)) (zT_JA hJ (by omega)) (zT_dA hJ (by omega) (by omega) (by omega)) (hwf 0 (by omega))) ⟨va_cnB 1 hts (zgB_ wsC_all uC_37) rfl rfl rfl (hE.2 (.methodLinkNest RX7 89 yX0_copyFrom "DrawerSlips") (List.mem_of_getElem? (i := 53) rfl)) (hts _ (List.mem_cons_of_mem _ uC_73)) (by decide +kernel) ⟨Nat.le_of_ble_eq_true rfl, Nat.le_of_ble_eq_true rfl⟩, (hts _ (List.mem_cons_of_mem _ uC_168)), (hts _ (List.mem_cons_of_mem _ uC_169))⟩ (zPreV (B := fun H => va_P V.1 vwCl (zaW V (gA G 1) (aF (Y 1)) (aT (Y 1)) (nI (aS (Y 1))) (aU (Y 1)) (aV (Y 1)) (aX (Y 1)) (aP (Y 1))) H ∧ va_P V.1 vwCl (zaW V (gA G 0) (aF (Y 0)) (aT (Y 0)) (nI (aS (Y 0))) (aU (Y 0)) (aV (Y 0)) (aX (Y 0)) (aP (Y 0))) H) ⟨(hT.1 1 (by omega)), (hT.1 0 (by omega))⟩ hE (zT_ra hE hT (by omega))) rfl rfl hl.1 rfl (lv_room (Nat.le_of_ble_eq_true rfl)) dX7_all_35 ⟨Nat.le_of_ble_eq_true rfl, Nat.le_of_ble_eq_true rfl⟩) hS (fun q h => zT_iA (by omega) h) (fun q h => zT_iA (by omega) h) (fun H locs hQ_ _ hk_ hS => ?_)
        have hT := zT_arch (j := 1) (A' := (Y 0)) hT hJ (by omega) hk_ hQ_
        have hwf := zWf_up (k := 1) (A := (Y 0)) hwf (hwf 0 (by omega))
        refine lv_aload_n hx hb dX7_all_38 rfl (lv_at hl 1 rfl) ?_
        refine zo_get 1 (.ref (gA G 1 0)) hx hb hts (fun x h => List.mem_cons_of_mem _ (hU_X7 x h)) hown hE (zT_c hT (c := 0) (by decide)) (show vwCl[7]? = some (RX7, TX7, 7) from rfl) (by decide) rfl (hts _ (List.mem_cons_of_mem _ uC_244)) (fun _ h9 => h9) dX7_all_39 ?_
        refine lv_iconst (v := 0) hx hb dX7_all_42 (by decide +kernel) ?_
        refine zo_putN (p0 := 36) 8 (.int 0) .int hx hb hts (fun x h => List.mem_cons_of_mem _ (hU_X0 x h)) tyX0 tyX0_ok nmX0 hown hE (zT_uni.mp hT) (zD hJ) hS (zU_cA V G (va_up Y 1 (Y 0)) hp hk f1 f2 n pd a kd nu mo) (show vwCl[0]? = some (RX0, TX0, 14) from rfl) (by decide) (Nat.le_of_ble_eq_true rfl) rfl (by decide +kernel) rfl rfl (List.mem_of_getElem? (i := 16) rfl) (fun _ h9 => h9) dX7_all_43 (fun H locs hT hS => ?_)
        have hwf := zWf_up (k := 1) (A := kLg0 (Y 0)) hwf ((hwf 1 (by omega)))
        have hT : zTP V G (va_up (va_up Y 1 (Y 0)) 1 (kLg0 (Y 0))) hp hk f1 f2 n pd a kd nu mo H := zT_ofA (A' := kLg0 (Y 0)) rfl (fun q hq hne => by
          match q, hne with
          | 0, h => exact absurd rfl h
          | 1, _ => rfl
          | 2, _ => rfl
          | 3, _ => rfl
          | 4, _ => rfl
          | 5, _ => rfl
          | q + 6, _ => rfl) hT
        refine lv_iconst (v := 0) hx hb dX7_all_46 (by decide +kernel) ?_
        refine lv_istore_n (lv' := [(3, .int 0), (2, .int (nI (nwA (Y 0)))), (0, .ref (gM G 0)), (1, .int wh)]) hx hb dX7_all_47 rfl hl (by decide) rfl (fun ls hl => ?_)
        rw [zUp_up] at hT hwf
        have L_48 : ∀ (n_ i : Nat) (q_ : zA) (H : Heap) (locs : List Loc) (ls : Array Slot), i ≤ (nwA (Y 0)) → (nwA (Y 0)) + 1 ≤ i + n_ → (q_ = kRun (kLg0 (Y 0)) i) → (∀ j, j < 11 → zWfA (va_up Y 1 q_ j)) → (aS q_ ≤ aS (Y 0) + i) → zTP V G (va_up Y 1 q_) hp hk f1 f2 n pd a kd nu mo H → va_S (zIn 404 G) s.heap H locs → lv_has ls 4 [(3, .int (nI i)), (2, .int (nI (nwA (Y 0)))), (0, .ref (gM G 0)), (1, .int wh)] → W p l e (headSpec wsX7_all (zR 4 0 0)).room s m (List.toArray [.ref (gM G 0), .int wh]) below meth c H locs 0 0 (MQ below (zQi (fun r H => r = (kAlR (Y 0) wh) ∧ (zTP V G (va_up Y 1 (kAlT (Y 0) (Y 1) wh)) hp hk f1 f2 n pd a kd nu mo H)) (zIn 404 G)) (List.toArray [.ref (gM G 0), .int wh]) s 0 0 (zIn 404 G)) (F0 m 48 ls []) := by
          intro n_
          induction n_ with
          | zero => intro i q_ H locs ls hi_ hn_; exact absurd hn_ (by omega)
          | succ n_ ih =>
            intro i q_ H locs ls hi_ hn_ eq_ hwf hs_ hT hS hl
            refine lv_iload_n hx hb dX7_all_48 rfl (lv_at hl 0 rfl) ?_
            refine lv_iload_n hx hb dX7_all_49 rfl (lv_at hl 1 rfl) ?_
            refine zb_ge (x := i) (y := nwA (Y 0)) (tgt := 66) hx hb dX7_all_50 (by decide) (by omega) (by omega) (fun c_50 => ?_) (fun c_50 => ?_)
            · refine lv_iload_n hx hb dX7_all_66 rfl (lv_at hl 3 rfl) ?_
              by_cases hn0_ : wh = 0
              · have hc_ : wh = 0 := hn0_
                refine lv_lookup (off := 25) (tgt := 92) hx hb dX7_all_67 (by decide) (by rw [hc_]; rfl) (by decide) ?_
                refine lv_aload_n hx hb dX7_all_92 rfl (lv_at hl 2 rfl) ?_
                refine zo_get 1 (.ref (gA G 1 0)) hx hb hts (fun x h => List.mem_cons_of_mem _ (hU_X7 x h)) hown hE (zT_c hT (c := 0) (by decide)) (show vwCl[7]? = some (RX7, TX7, 7) from rfl) (by decide) rfl (hts _ (List.mem_cons_of_mem _ uC_244)) (fun _ h9 => h9) dX7_all_93 ?_
                refine zo_getN 6 (.int (aF q_ 6)) hx hb hts (fun x h => List.mem_cons_of_mem _ (hU_X0 x h)) hown hE (za_o (hT.1 1 (by omega))) (show vwCl[0]? = some (RX0, TX0, 14) from rfl) (by decide) rfl (List.mem_of_getElem? (i := 15) rfl) (fun _ h9 => h9) dX7_all_96 ?_
                refine lv_aload_n hx hb dX7_all_99 rfl (lv_at hl 2 rfl) ?_
                refine zo_get 0 (.ref (gA G 0 0)) hx hb hts (fun x h => List.mem_cons_of_mem _ (hU_X7 x h)) hown hE (zT_c hT (c := 0) (by decide)) (show vwCl[7]? = some (RX7, TX7, 7) from rfl) (by decide) rfl (hts _ (List.mem_cons_of_mem _ uC_243)) (fun _ h9 => h9) dX7_all_100 ?_
                refine zo_getN 6 (.int (aF (Y 0) 6)) hx hb hts (fun x h => List.mem_cons_of_mem _ (hU_X0 x h)) hown hE (za_o (hT.1 0 (by omega))) (show vwCl[0]? = some (RX0, TX0, 14) from rfl) (by decide) rfl (List.mem_of_getElem? (i := 15) rfl) (fun _ h9 => h9) dX7_all_103 ?_
                refine lv_isub hx hb dX7_all_106 ?_
                have hq_ : kRun (kLg0 (Y 0)) (nwA (Y 0)) = q_ := by rw [eq_, show nwA (Y 0) = i by omega]
                exact zr_i hx hb hr hlocks hS (⟨(show kAlR (Y 0) wh = (aF q_ 6) - (aF (Y 0) 6) from (if_pos (show 0 ≤ wh ∧ wh ≤ 2 from ⟨z_nlt c_1, c_6⟩)).trans ((if_neg (show ¬ nwA (Y 0) = 0 by omega)).trans ((if_pos hc_).trans (by rw [hq_])))).symm, by rw [show kAlT (Y 0) (Y 1) wh = q_ from (if_pos (show 0 ≤ wh ∧ wh ≤ 2 from ⟨z_nlt c_1, c_6⟩)).trans ((if_neg (show ¬ nwA (Y 0) = 0 by omega)).trans hq_)]; exact hT⟩) dX7_all_107
              · by_cases hn1_ : wh = 1
                · have hc_ : wh = 1 := hn1_
                  refine lv_lookup (off := 41) (tgt := 108) hx hb dX7_all_67 (by decide) (by rw [hc_]; rfl) (by decide) ?_
                  refine lv_aload_n hx hb dX7_all_108 rfl (lv_at hl 2 rfl) ?_
                  refine zo_get 1 (.ref (gA G 1 0)) hx hb hts (fun x h => List.mem_cons_of_mem _ (hU_X7 x h)) hown hE (zT_c hT (c := 0) (by decide)) (show vwCl[7]? = some (RX7, TX7, 7) from rfl) (by decide) rfl (hts _ (List.mem_cons_of_mem _ uC_244)) (fun _ h9 => h9) dX7_all_109 ?_
                  refine zo_getN 9 (.int (aF q_ 9)) hx hb hts (fun x h => List.mem_cons_of_mem _ (hU_X0 x h)) hown hE (za_o (hT.1 1 (by omega))) (show vwCl[0]? = some (RX0, TX0, 14) from rfl) (by decide) rfl (List.mem_of_getElem? (i := 17) rfl) (fun _ h9 => h9) dX7_all_112 ?_
                  refine lv_aload_n hx hb dX7_all_115 rfl (lv_at hl 2 rfl) ?_
                  refine zo_get 0 (.ref (gA G 0 0)) hx hb hts (fun x h => List.mem_cons_of_mem _ (hU_X7 x h)) hown hE (zT_c hT (c := 0) (by decide)) (show vwCl[7]? = some (RX7, TX7, 7) from rfl) (by decide) rfl (hts _ (List.mem_cons_of_mem _ uC_243)) (fun _ h9 => h9) dX7_all_116 ?_
                  refine zo_getN 9 (.int (aF (Y 0) 9)) hx hb hts (fun x h => List.mem_cons_of_mem _ (hU_X0 x h)) hown hE (za_o (hT.1 0 (by omega))) (show vwCl[0]? = some (RX0, TX0, 14) from rfl) (by decide) rfl (List.mem_of_getElem? (i := 17) rfl) (fun _ h9 => h9) dX7_all_119 ?_
                  refine lv_isub hx hb dX7_all_122 ?_
                  have hq_ : kRun (kLg0 (Y 0)) (nwA (Y 0)) = q_ := by rw [eq_, show nwA (Y 0) = i by omega]
                  exact zr_i hx hb hr hlocks hS (⟨(show kAlR (Y 0) wh = (aF q_ 9) - (aF (Y 0) 9) from (if_pos (show 0 ≤ wh ∧ wh ≤ 2 from ⟨z_nlt c_1, c_6⟩)).trans ((if_neg (show ¬ nwA (Y 0) = 0 by omega)).trans (((if_neg hn0_).trans (if_pos hc_)).trans (by rw [hq_])))).symm, by rw [show kAlT (Y 0) (Y 1) wh = q_ from (if_pos (show 0 ≤ wh ∧ wh ≤ 2 from ⟨z_nlt c_1, c_6⟩)).trans ((if_neg (show ¬ nwA (Y 0) = 0 by omega)).trans hq_)]; exact hT⟩) dX7_all_123
                · refine lv_lookup (off := 57) (tgt := 124) hx hb dX7_all_67 (by decide) ((lv_osw hn0_ rfl).trans ((lv_osw hn1_ rfl).trans (rfl))) (by decide) ?_
                  refine lv_aload_n hx hb dX7_all_124 rfl (lv_at hl 2 rfl) ?_
                  refine zo_get 1 (.ref (gA G 1 0)) hx hb hts (fun x h => List.mem_cons_of_mem _ (hU_X7 x h)) hown hE (zT_c hT (c := 0) (by decide)) (show vwCl[7]? = some (RX7, TX7, 7) from rfl) (by decide) rfl (hts _ (List.mem_cons_of_mem _ uC_244)) (fun _ h9 => h9) dX7_all_125 ?_
                  refine zo_getN 8 (.int (aF q_ 8)) hx hb hts (fun x h => List.mem_cons_of_mem _ (hU_X0 x h)) hown hE (za_o (hT.1 1 (by omega))) (show vwCl[0]? = some (RX0, TX0, 14) from rfl) (by decide) rfl (List.mem_of_getElem? (i := 16) rfl) (fun _ h9 => h9) dX7_all_128 ?_
                  have hq_ : kRun (kLg0 (Y 0)) (nwA (Y 0)) = q_ := by rw [eq_, show nwA (Y 0) = i by omega]
                  exact zr_i hx hb hr hlocks hS (⟨(show kAlR (Y 0) wh = aF q_ 8 from (if_pos (show 0 ≤ wh ∧ wh ≤ 2 from ⟨z_nlt c_1, c_6⟩)).trans ((if_neg (show ¬ nwA (Y 0) = 0 by omega)).trans (((if_neg hn0_).trans (if_neg hn1_)).trans (by rw [hq_])))).symm, by rw [show kAlT (Y 0) (Y 1) wh = q_ from (if_pos (show 0 ≤ wh ∧ wh ≤ 2 from ⟨z_nlt c_1, c_6⟩)).trans ((if_neg (show ¬ nwA (Y 0) = 0 by omega)).trans hq_)]; exact hT⟩) dX7_all_131
            · refine lv_aload_n hx hb dX7_all_53 rfl (lv_at hl 2 rfl) ?_
              refine zo_get 1 (.ref (gA G 1 0)) hx hb hts (fun x h => List.mem_cons_of_mem _ (hU_X7 x h)) hown hE (zT_c hT (c := 0) (by decide)) (show vwCl[7]? = some (RX7, TX7, 7) from rfl) (by decide) rfl (hts _ (List.mem_cons_of_mem _ uC_244)) (fun _ h9 => h9) dX7_all_54 ?_
              refine zc_v (va_runVN (As := []) (rest := []) ⟨hx, hb, hml, hown, hts⟩ (c_X0_serveNext l V (gA G 1) (aF q_) (aT q_) (nI (aS q_)) (aU q_) (aV q_) (aX q_) (aP q_) (aS q_) (zT_JA hJ (by omega)) rfl (by omega)) ⟨va_cnB 0 hts (zgB_ wsC_all uC_134) rfl rfl rfl (hE.2 (.methodLinkNest RX7 92 yX0_serveNext "DrawerSlips") (List.mem_of_getElem? (i := 54) rfl)) (hts _ (List.mem_cons_of_mem _ uC_73)) (by decide +kernel) ⟨Nat.le_of_ble_eq_true rfl, Nat.le_of_ble_eq_true rfl⟩, (hts _ (List.mem_cons_of_mem _ uC_285)), (hts _ (List.mem_cons_of_mem _ uC_286))⟩ (zPreV (B := fun H => va_P V.1 vwCl (zaW V (gA G 1) (aF q_) (aT q_) (nI (aS q_)) (aU q_) (aV q_) (aX q_) (aP q_)) H) (hT.1 1 (by omega)) hE (zT_ra hE hT (by omega))) rfl rfl hl.1 rfl (lv_room (Nat.le_of_ble_eq_true rfl)) dX7_all_57 ⟨Nat.le_of_ble_eq_true rfl, Nat.le_of_ble_eq_true rfl⟩) hS (fun q h => zT_iA (by omega) h) (fun q h => zT_iA (by omega) h) (fun H locs hQ_ _ hk_ hS => ?_)
              have hT := zT_arch (j := 1) (A' := kNx q_) hT hJ (by omega) hk_ hQ_
              have hwf := zWf_up (k := 1) (A := kNx q_) hwf (kNx_wf (hwf 1 (by omega)))
              refine lv_iinc (v := nI (i + 1)) (lv' := [(3, .int (nI (i + 1))), (2, .int (nI (nwA (Y 0)))), (0, .ref (gM G 0)), (1, .int wh)]) hx hb dX7_all_60 hl (k := 0) rfl (z_inc1 i) (by decide) rfl (fun ls hl => ?_)
              refine lv_goto (tgt := 48) hx hb dX7_all_63 (by decide) ?_
              rw [zUp_up] at hT hwf
              exact ih (i + 1) (kNx q_) H locs ls (by omega) (by omega) (by rw [eq_]; rfl) hwf (by have h_ := kNx_S q_; omega) hT hS (lv_sub hl [0, 1, 2, 3] rfl)
        exact L_48 ((nwA (Y 0)) + 1) 0 (kLg0 (Y 0)) H locs ls (by omega) (by omega) rfl hwf (Nat.le_refl _) hT hS (lv_sub hl [0, 1, 2, 3] rfl)
      · refine lv_bipush (v := (-6)) hx hb dX7_all_24 (by decide +kernel) ?_
        exact zr_i hx hb hr hlocks hS (⟨(show kAlR (Y 0) wh = (-6) from (if_pos (show 0 ≤ wh ∧ wh ≤ 2 from ⟨z_nlt c_1, c_6⟩)).trans (if_pos (show nwA (Y 0) = 0 by omega))).symm, by rw [show kAlT (Y 0) (Y 1) wh = Y 1 from (if_pos (show 0 ≤ wh ∧ wh ≤ 2 from ⟨z_nlt c_1, c_6⟩)).trans (if_pos (show nwA (Y 0) = 0 by omega)), zUp_id Y (k := 1) rfl]; exact hT⟩) dX7_all_26
    · refine lv_bipush (v := (-2)) hx hb dX7_all_9 (by decide +kernel) ?_
      exact zr_i hx hb hr hlocks hS (⟨(show kAlR (Y 0) wh = (-2) from if_neg (fun h => c_6 h.2)).symm, by rw [show kAlT (Y 0) (Y 1) wh = Y 1 from if_neg (fun h => c_6 h.2), zUp_id Y (k := 1) rfl]; exact hT⟩) dX7_all_11
