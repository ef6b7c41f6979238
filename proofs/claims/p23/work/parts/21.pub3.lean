set_option maxHeartbeats 4000000 in
set_option maxRecDepth 100000 in
theorem c_X7_log (l : Launch) (V : zV) (G : Nat → Nat) (Y : Nat → zA) (hp hk : Nat) (f1 f2 : Int32) (n : Nat) (pd : Nat → Int32) (a : Nat) (kd nu mo : Int32) (ago wh : Int32) (hJ : zInj 404 G) (hs31 : aS (Y 0) < 2 ^ 31) : Met l yX7_log wsX7_log (zR 2 0 0) (zPc V [.ref (gM G 0), .int ago, .int wh] (fun H => zTP V G Y hp hk f1 f2 n pd a kd nu mo H)) (vp_Si (fun r => r = (uLog (Y 0) ago wh))) 0 0 (fun _ => False) := by
  refine Met.ofW (cc := cX7_log) (maxL := 3) (ret := (some .int)) (by decide) rfl ?_
  intro p e s m args below meth c s₁ B hml hv
  obtain ⟨rfl, hP, hE⟩ := hv
  have hx := B.exec
  have hb := B.bytes
  have hr := B.returns
  have hts := atoms_spec (ws := wsX7_log) B.pre
  have hown : s.vm.findClass RX7 = some m.cls := findClass_of_methodNamed B.named
  have hlocks := B.notSynchronized
  have hl := lv_entry ([.ref (gM G 0), .int ago, .int wh]) (n := 3) (Nat.le_of_ble_eq_true rfl)
  rw [lg_entry_eq]
  generalize (lg_sl ([.ref (gM G 0), .int ago, .int wh]) ++ List.replicate (3 - (lg_sl ([.ref (gM G 0), .int ago, .int wh])).length) Slot.unset).toArray = ls at hl ⊢
  have hl : lv_has ls 3 [(0, .ref (gM G 0)), (1, .int ago), (2, .int wh)] := hl
  have hT := hP
  refine lv_aload_n hx hb dX7_log_0 rfl (lv_at hl 0 rfl) ?_
  refine zo_get 0 (.ref (gA G 0 0)) hx hb hts (fun x h => List.mem_cons_of_mem _ (hU_X7 x h)) hown hE (zT_c hT (c := 0) (by decide)) (show vwCl[7]? = some (RX7, TX7, 7) from rfl) (by decide) rfl (hts _ (List.mem_cons_of_mem _ uC_243)) (fun _ h9 => h9) dX7_log_1 ?_
  refine zo_getN 2 (.ref (gA G 0 2)) hx hb hts (fun x h => List.mem_cons_of_mem _ (hU_X0 x h)) hown hE (za_o (hT.1 0 (by omega))) (show vwCl[0]? = some (RX0, TX0, 14) from rfl) (by decide) rfl (List.mem_of_getElem? (i := 14) rfl) (fun _ h9 => h9) dX7_log_4 ?_
  refine lv_iload_n hx hb dX7_log_7 rfl (lv_at hl 1 rfl) ?_
  refine zc_se (va_runVN (As := [.int ago]) (rest := []) ⟨hx, hb, hml, hown, hts⟩ (c_X2_has l V (fun p => gA G 0 (p + 2)) (nI (aS (Y 0))) (aU (Y 0)) (aV (Y 0)) (aX (Y 0)) ago) ⟨va_cnB 1 hts (zgB_ wsC_all uC_174) rfl rfl rfl (hE.2 (.methodLinkNest RX7 137 yX2_has "DrawerSlips") (List.mem_of_getElem? (i := 64) rfl)) (hts _ (List.mem_cons_of_mem _ uC_17)) (by decide +kernel) ⟨Nat.le_of_ble_eq_true rfl, Nat.le_of_ble_eq_true rfl⟩, (hts _ (List.mem_cons_of_mem _ uC_299)), (hts _ (List.mem_cons_of_mem _ uC_300))⟩ (zPreV (B := fun H => va_P V.1 vwCl (zlW V (fun p => gA G 0 (p + 2)) (nI (aS (Y 0))) (aU (Y 0)) (aV (Y 0)) (aX (Y 0))) H) (za_toL (hT.1 0 (by omega))) hE (zl_ro hE (za_toL (hT.1 0 (by omega))))) rfl rfl hl.1 rfl (lv_room (Nat.le_of_ble_eq_true rfl)) dX7_log_8 ⟨Nat.le_of_ble_eq_true rfl, Nat.le_of_ble_eq_true rfl⟩) ?_
  refine zbp_ne (P := 0 ≤ ago ∧ ago < 20 ∧ ago < nI (aS (Y 0))) (tgt := 16) hx hb dX7_log_11 (by decide) (fun c_11 => ?_) (fun c_11 => ?_)
  · obtain ⟨j, rfl, hj20⟩ := z_gap (n := 20) (by decide) (z_le' c_11.1) (z_lt' c_11.2.1)
    have hjs : j < aS (Y 0) := (nI_ltI (by omega) hs31).mp c_11.2.2
    obtain ⟨sv, esv⟩ : ∃ sv, sv = aS (Y 0) := ⟨_, rfl⟩
    have hsv : nI (aS (Y 0)) = nI sv := by rw [esv]
    refine lv_iload_n hx hb dX7_log_16 rfl (lv_at hl 2 rfl) ?_
    rcases z_rng wh 3 (by decide) with ⟨k_, hk_, hc_⟩ | hc_
    · rcases (show k_ = 0 ∨ k_ = 1 ∨ k_ = 2 by omega) with rfl | rfl | rfl
      · have hc_ : wh = 0 := hc_
        refine lv_tableIn (off := 27) (tgt := 44) hx hb dX7_log_17 (by rw [hc_]; decide) (by rw [hc_]; decide) (by rw [hc_]; rfl) (by decide) ?_
        refine lv_aload_n hx hb dX7_log_44 rfl (lv_at hl 0 rfl) ?_
        refine zo_get 0 (.ref (gA G 0 0)) hx hb hts (fun x h => List.mem_cons_of_mem _ (hU_X7 x h)) hown hE (zT_c hT (c := 0) (by decide)) (show vwCl[7]? = some (RX7, TX7, 7) from rfl) (by decide) rfl (hts _ (List.mem_cons_of_mem _ uC_243)) (fun _ h9 => h9) dX7_log_45 ?_
        refine zo_getN 2 (.ref (gA G 0 2)) hx hb hts (fun x h => List.mem_cons_of_mem _ (hU_X0 x h)) hown hE (za_o (hT.1 0 (by omega))) (show vwCl[0]? = some (RX0, TX0, 14) from rfl) (by decide) rfl (List.mem_of_getElem? (i := 14) rfl) (fun _ h9 => h9) dX7_log_48 ?_
        refine lv_iload_n hx hb dX7_log_51 rfl (lv_at hl 1 rfl) ?_
        refine zc_se (va_runVN (As := [.int (nI j)]) (rest := []) ⟨hx, hb, hml, hown, hts⟩ (c_X2_numberOf l V (fun p => gA G 0 (p + 2)) (nI (aS (Y 0))) (aU (Y 0)) (aV (Y 0)) (aX (Y 0)) sv j hsv (by omega) (by omega)) ⟨va_cnB 1 hts (zgB_ wsC_all uC_176) rfl rfl rfl (hE.2 (.methodLinkNest RX7 143 yX2_numberOf "DrawerSlips") (List.mem_of_getElem? (i := 65) rfl)) (hts _ (List.mem_cons_of_mem _ uC_17)) (by decide +kernel) ⟨Nat.le_of_ble_eq_true rfl, Nat.le_of_ble_eq_true rfl⟩, (hts _ (List.mem_cons_of_mem _ uC_301)), (hts _ (List.mem_cons_of_mem _ uC_302))⟩ (zPreV (B := fun H => va_P V.1 vwCl (zlW V (fun p => gA G 0 (p + 2)) (nI (aS (Y 0))) (aU (Y 0)) (aV (Y 0)) (aX (Y 0))) H) (za_toL (hT.1 0 (by omega))) hE (zl_ro hE (za_toL (hT.1 0 (by omega))))) rfl rfl hl.1 rfl (lv_room (Nat.le_of_ble_eq_true rfl)) dX7_log_52 ⟨Nat.le_of_ble_eq_true rfl, Nat.le_of_ble_eq_true rfl⟩) ?_
        exact zr_si hx hb hr hlocks (by rw [show uLog (Y 0) (nI j) wh = uLogJ (Y 0) wh j from (if_pos c_11).trans (by rw [nI_clamp (by omega)]), hc_, esv]; rfl) dX7_log_55
      · have hc_ : wh = 1 := hc_
        refine lv_tableIn (off := 39) (tgt := 56) hx hb dX7_log_17 (by rw [hc_]; decide) (by rw [hc_]; decide) (by rw [hc_]; rfl) (by decide) ?_
        refine lv_aload_n hx hb dX7_log_56 rfl (lv_at hl 0 rfl) ?_
        refine zo_get 0 (.ref (gA G 0 0)) hx hb hts (fun x h => List.mem_cons_of_mem _ (hU_X7 x h)) hown hE (zT_c hT (c := 0) (by decide)) (show vwCl[7]? = some (RX7, TX7, 7) from rfl) (by decide) rfl (hts _ (List.mem_cons_of_mem _ uC_243)) (fun _ h9 => h9) dX7_log_57 ?_
        refine zo_getN 2 (.ref (gA G 0 2)) hx hb hts (fun x h => List.mem_cons_of_mem _ (hU_X0 x h)) hown hE (za_o (hT.1 0 (by omega))) (show vwCl[0]? = some (RX0, TX0, 14) from rfl) (by decide) rfl (List.mem_of_getElem? (i := 14) rfl) (fun _ h9 => h9) dX7_log_60 ?_
        refine lv_iload_n hx hb dX7_log_63 rfl (lv_at hl 1 rfl) ?_
        refine zc_se (va_runVN (As := [.int (nI j)]) (rest := []) ⟨hx, hb, hml, hown, hts⟩ (c_X2_waitOf l V (fun p => gA G 0 (p + 2)) (nI (aS (Y 0))) (aU (Y 0)) (aV (Y 0)) (aX (Y 0)) sv j hsv (by omega) (by omega)) ⟨va_cnB 1 hts (zgB_ wsC_all uC_180) rfl rfl rfl (hE.2 (.methodLinkNest RX7 146 yX2_waitOf "DrawerSlips") (List.mem_of_getElem? (i := 67) rfl)) (hts _ (List.mem_cons_of_mem _ uC_17)) (by decide +kernel) ⟨Nat.le_of_ble_eq_true rfl, Nat.le_of_ble_eq_true rfl⟩, (hts _ (List.mem_cons_of_mem _ uC_303)), (hts _ (List.mem_cons_of_mem _ uC_304))⟩ (zPreV (B := fun H => va_P V.1 vwCl (zlW V (fun p => gA G 0 (p + 2)) (nI (aS (Y 0))) (aU (Y 0)) (aV (Y 0)) (aX (Y 0))) H) (za_toL (hT.1 0 (by omega))) hE (zl_ro hE (za_toL (hT.1 0 (by omega))))) rfl rfl hl.1 rfl (lv_room (Nat.le_of_ble_eq_true rfl)) dX7_log_64 ⟨Nat.le_of_ble_eq_true rfl, Nat.le_of_ble_eq_true rfl⟩) ?_
        exact zr_si hx hb hr hlocks (by rw [show uLog (Y 0) (nI j) wh = uLogJ (Y 0) wh j from (if_pos c_11).trans (by rw [nI_clamp (by omega)]), hc_, esv]; rfl) dX7_log_67
      · have hc_ : wh = 2 := hc_
        refine lv_tableIn (off := 51) (tgt := 68) hx hb dX7_log_17 (by rw [hc_]; decide) (by rw [hc_]; decide) (by rw [hc_]; rfl) (by decide) ?_
        refine lv_aload_n hx hb dX7_log_68 rfl (lv_at hl 0 rfl) ?_
        refine zo_get 0 (.ref (gA G 0 0)) hx hb hts (fun x h => List.mem_cons_of_mem _ (hU_X7 x h)) hown hE (zT_c hT (c := 0) (by decide)) (show vwCl[7]? = some (RX7, TX7, 7) from rfl) (by decide) rfl (hts _ (List.mem_cons_of_mem _ uC_243)) (fun _ h9 => h9) dX7_log_69 ?_
        refine zo_getN 2 (.ref (gA G 0 2)) hx hb hts (fun x h => List.mem_cons_of_mem _ (hU_X0 x h)) hown hE (za_o (hT.1 0 (by omega))) (show vwCl[0]? = some (RX0, TX0, 14) from rfl) (by decide) rfl (List.mem_of_getElem? (i := 14) rfl) (fun _ h9 => h9) dX7_log_72 ?_
        refine lv_iload_n hx hb dX7_log_75 rfl (lv_at hl 1 rfl) ?_
        refine zc_se (va_runVN (As := [.int (nI j)]) (rest := []) ⟨hx, hb, hml, hown, hts⟩ (c_X2_sortOf l V (fun p => gA G 0 (p + 2)) (nI (aS (Y 0))) (aU (Y 0)) (aV (Y 0)) (aX (Y 0)) sv j hsv (by omega) (by omega)) ⟨va_cnB 1 hts (zgB_ wsC_all uC_181) rfl rfl rfl (hE.2 (.methodLinkNest RX7 149 yX2_sortOf "DrawerSlips") (List.mem_of_getElem? (i := 68) rfl)) (hts _ (List.mem_cons_of_mem _ uC_17)) (by decide +kernel) ⟨Nat.le_of_ble_eq_true rfl, Nat.le_of_ble_eq_true rfl⟩, (hts _ (List.mem_cons_of_mem _ uC_305)), (hts _ (List.mem_cons_of_mem _ uC_306))⟩ (zPreV (B := fun H => va_P V.1 vwCl (zlW V (fun p => gA G 0 (p + 2)) (nI (aS (Y 0))) (aU (Y 0)) (aV (Y 0)) (aX (Y 0))) H) (za_toL (hT.1 0 (by omega))) hE (zl_ro hE (za_toL (hT.1 0 (by omega))))) rfl rfl hl.1 rfl (lv_room (Nat.le_of_ble_eq_true rfl)) dX7_log_76 ⟨Nat.le_of_ble_eq_true rfl, Nat.le_of_ble_eq_true rfl⟩) ?_
        exact zr_si hx hb hr hlocks (by rw [show uLog (Y 0) (nI j) wh = uLogJ (Y 0) wh j from (if_pos c_11).trans (by rw [nI_clamp (by omega)]), hc_, esv]; rfl) dX7_log_79
    · have hne_ : ¬ wh = 0 ∧ ¬ wh = 1 ∧ ¬ wh = 2 := by
        refine ⟨?_, ?_, ?_⟩ <;> (intro e_; rw [e_] at hc_; revert hc_; decide)
      refine lv_tableOut (tgt := 80) hx hb dX7_log_17 hc_ (by decide) ?_
      refine lv_bipush (v := (-2)) hx hb dX7_log_80 (by decide +kernel) ?_
      exact zr_si hx hb hr hlocks (by rw [show uLog (Y 0) (nI j) wh = uLogJ (Y 0) wh j from (if_pos c_11).trans (by rw [nI_clamp (by omega)]), uLogJ, if_neg hne_.1, if_neg hne_.2.1, if_neg hne_.2.2]) dX7_log_82
  · refine lv_iconst (v := (-1)) hx hb dX7_log_14 (by decide +kernel) ?_
    exact zr_si hx hb hr hlocks ((show uLog (Y 0) ago wh = -1 from if_neg c_11).symm) dX7_log_15
def kRun (A : zA) : Nat → zA
  | 0 => A
  | j + 1 => kNx (kRun A j)
def nwA (A : zA) : Nat := (aF A 3 + aF A 4).toNatClampNeg
def kGood (A : zA) : Prop := aF A 3 + aF A 4 = nI (nwA A) ∧ nwA A ≤ 30 ∧ aS A + 40 < 2 ^ 31
def kMn (A : zA) (mn : Int32) : Nat := min mn.toNatClampNeg (nwA A)
def kSrvR (A : zA) (mn : Int32) : Int32 := if 1 ≤ mn ∧ mn ≤ 30 then (if nwA A = 0 then -5 else if 99999 < aF (kRun A (kMn A mn)) 6 then -5 else nI (kMn A mn)) else -2
def kSrvA (A : zA) (mn : Int32) : zA := if 1 ≤ mn ∧ mn ≤ 30 then (if nwA A = 0 then A else if 99999 < aF (kRun A (kMn A mn)) 6 then A else kRun A (kMn A mn)) else A
def kSrvT (A B : zA) (mn : Int32) : zA := if 1 ≤ mn ∧ mn ≤ 30 then (if nwA A = 0 then B else kRun A (kMn A mn)) else B
theorem zUp_id {α : Type} (f : Nat → α) {k : Nat} {x : α} (h : f k = x) : va_up f k x = f := by
  funext j
  by_cases hj : j = k
  · subst hj; rw [zUp_s, h]
  · rw [zUp_n _ _ hj]
theorem kNx_S (A : zA) : aS (kNx A) ≤ aS A + 1 := by
  show kNxS (aF A) (aT A) (aP A) (aS A) ≤ aS A + 1
  unfold kNxS
  rcases hq : kSelN (aF A) (aT A) (aP A) with _ | k
  · rw [kOn_n rfl]; omega
  · rw [kOn_s rfl]; exact Nat.le_refl _
theorem kRun_wf {A : zA} (h : zWfA A) : ∀ j, zWfA (kRun A j)
  | 0 => h
  | j + 1 => kNx_wf (kRun_wf h j)
theorem kSrvA_wf {A : zA} {mn : Int32} (h : zWfA A) : zWfA (kSrvA A mn) := by
  unfold kSrvA
  split
  · split
    · exact h
    · split
      · exact h
      · exact kRun_wf h _
  · exact h
theorem kSrvT_wf {A B : zA} {mn : Int32} (h : zWfA A) (h2 : zWfA B) : zWfA (kSrvT A B mn) := by
  unfold kSrvT
  split
  · split
    · exact h2
    · exact kRun_wf h _
  · exact h2
theorem z_minn {a b : Nat} (ha : a < 2 ^ 31) (hb : b < 2 ^ 31) : (if nI b < nI a then nI b else nI a) = nI (min a b) := by
  by_cases h : b < a
  · rw [if_pos ((nI_ltI hb ha).mpr h), Nat.min_eq_right (Nat.le_of_lt h)]
  · rw [if_neg (fun q => h ((nI_ltI hb ha).mp q)), Nat.min_eq_left (by omega)]
set_option maxHeartbeats 4000000 in
set_option maxRecDepth 100000 in
theorem c_X7_serveSlips (l : Launch) (V : zV) (G : Nat → Nat) (Y : Nat → zA) (hp hk : Nat) (f1 f2 : Int32) (n : Nat) (pd : Nat → Int32) (a : Nat) (kd nu mo : Int32) (mn : Int32) (hJ : zInj 404 G) (hwf : ∀ j, j < 11 → zWfA (Y j)) (hgood : kGood (Y 0)) : Met l yX7_serveSlips wsX7_serveSlips (zR 4 0 0) (zPc V [.ref (gM G 0), .int mn] (fun H => zTP V G Y hp hk f1 f2 n pd a kd nu mo H)) (zQi (fun r H => r = (kSrvR (Y 0) mn) ∧ (zTP V G (va_up (va_up Y 1 (kSrvT (Y 0) (Y 1) mn)) 0 (kSrvA (Y 0) mn)) hp hk f1 f2 n pd a kd nu mo H)) (zIn 404 G)) 0 0 (zIn 404 G) := by
  refine Met.ofW (cc := cX7_serveSlips) (maxL := 4) (ret := (some .int)) (by decide) rfl ?_
  intro p e s m args below meth c s₁ B hml hv
  obtain ⟨rfl, hP, hE⟩ := hv
  have hx := B.exec
  have hb := B.bytes
  have hr := B.returns
  have hts := atoms_spec (ws := wsX7_serveSlips) B.pre
  have hown : s.vm.findClass RX7 = some m.cls := findClass_of_methodNamed B.named
  have hlocks := B.notSynchronized
  have hl := lv_entry ([.ref (gM G 0), .int mn]) (n := 4) (Nat.le_of_ble_eq_true rfl)
  rw [lg_entry_eq]
  generalize (lg_sl ([.ref (gM G 0), .int mn]) ++ List.replicate (4 - (lg_sl ([.ref (gM G 0), .int mn])).length) Slot.unset).toArray = ls at hl ⊢
  have hl : lv_has ls 4 [(0, .ref (gM G 0)), (1, .int mn)] := hl
  have hT := hP
  have hS : va_S (zIn 404 G) s.heap s.heap [] := va_S.rf
  have hg1_ := hgood.2.1
  have hg2_ := hgood.2.2
  refine lv_iload_n hx hb dX7_serveSlips_0 rfl (lv_at hl 1 rfl) ?_
  refine lv_iconst (v := 1) hx hb dX7_serveSlips_1 (by decide +kernel) ?_
  refine lv_icmp_lt (tgt := 11) hx hb dX7_serveSlips_2 (by decide) (fun c_2 => ?_) (fun c_2 => ?_)
  · refine lv_bipush (v := (-2)) hx hb dX7_serveSlips_11 (by decide +kernel) ?_
    exact zr_i hx hb hr hlocks hS (⟨(show kSrvR (Y 0) mn = -2 from (if_neg (fun h => z_lt' c_2 h.1))).symm, by rw [show kSrvT (Y 0) (Y 1) mn = Y 1 from (if_neg (fun h => z_lt' c_2 h.1)), show kSrvA (Y 0) mn = Y 0 from (if_neg (fun h => z_lt' c_2 h.1)), zUp_id Y (k := 1) rfl, zUp_id Y (k := 0) rfl]; exact hT⟩) dX7_serveSlips_13
  · refine lv_iload_n hx hb dX7_serveSlips_5 rfl (lv_at hl 1 rfl) ?_
    refine lv_bipush (v := 30) hx hb dX7_serveSlips_6 (by decide +kernel) ?_
    refine lv_icmp_le (tgt := 14) hx hb dX7_serveSlips_8 (by decide) (fun c_8 => ?_) (fun c_8 => ?_)
    · obtain ⟨j, rfl, hj1, hj30⟩ := z_ix (na := 1) (nb := 30) rfl rfl (by decide) (by decide) ⟨z_nlt c_2, c_8⟩
      have hmn_ : kMn (Y 0) (nI j) = min j (nwA (Y 0)) := by rw [kMn, nI_clamp (by omega)]
      refine lv_iload_n hx hb dX7_serveSlips_14 rfl (lv_at hl 1 rfl) ?_
      refine lv_aload_n hx hb dX7_serveSlips_15 rfl (lv_at hl 0 rfl) ?_
      refine zo_get 0 (.ref (gA G 0 0)) hx hb hts (fun x h => List.mem_cons_of_mem _ (hU_X7 x h)) hown hE (zT_c hT (c := 0) (by decide)) (show vwCl[7]? = some (RX7, TX7, 7) from rfl) (by decide) rfl (hts _ (List.mem_cons_of_mem _ uC_243)) (fun _ h9 => h9) dX7_serveSlips_16 ?_
      refine zc_se (va_runVN (As := []) (rest := [.int (nI j)]) ⟨hx, hb, hml, hown, hts⟩ (c_X0_slipsThatWait l V (gA G 0) (aF (Y 0)) (aT (Y 0)) (nI (aS (Y 0))) (aU (Y 0)) (aV (Y 0)) (aX (Y 0)) (aP (Y 0))) ⟨va_cnB 0 hts (zgB_ wsC_all uC_95) rfl rfl rfl (hE.2 (.methodLinkNest RX7 80 yX0_slipsThatWait "DrawerSlips") (List.mem_of_getElem? (i := 52) rfl)) (hts _ (List.mem_cons_of_mem _ uC_73)) (by decide +kernel) ⟨Nat.le_of_ble_eq_true rfl, Nat.le_of_ble_eq_true rfl⟩, (hts _ (List.mem_cons_of_mem _ uC_283)), (hts _ (List.mem_cons_of_mem _ uC_284))⟩ (zPreV (B := fun H => va_P V.1 vwCl (zaW V (gA G 0) (aF (Y 0)) (aT (Y 0)) (nI (aS (Y 0))) (aU (Y 0)) (aV (Y 0)) (aX (Y 0)) (aP (Y 0))) H) (hT.1 0 (by omega)) hE (za_ro hE (hT.1 0 (by omega)))) rfl rfl hl.1 rfl (lv_room (Nat.le_of_ble_eq_true rfl)) dX7_serveSlips_19 ⟨Nat.le_of_ble_eq_true rfl, Nat.le_of_ble_eq_true rfl⟩) ?_
      refine zt_i (y := nI (nwA (Y 0))) hgood.1 ?_
      refine va_mmin hx hb (hml.trans hl.1.symm) hown (hts _ (List.mem_cons_of_mem _ uC_281)) (hts _ (List.mem_cons_of_mem _ uC_136)) (hts _ (List.mem_cons_of_mem _ uC_126)) (hts _ (List.mem_cons_of_mem _ uC_137)) (Nat.le_of_ble_eq_true rfl) (Nat.le_of_ble_eq_true rfl) (Nat.le_of_ble_eq_true rfl) (Nat.le_of_ble_eq_true rfl) dX7_serveSlips_22 ?_
      obtain ⟨m_, em_⟩ : ∃ m, m = min j (nwA (Y 0)) := ⟨_, rfl⟩
      refine zt_i (y := nI m_) (by rw [em_]; exact z_minn (by omega) (by omega)) ?_
      refine lv_istore_n (lv' := [(2, .int (nI m_)), (0, .ref (gM G 0)), (1, .int (nI j))]) hx hb dX7_serveSlips_25 rfl hl (by decide) rfl (fun ls hl => ?_)
      refine lv_iload_n hx hb dX7_serveSlips_26 rfl (lv_at hl 0 rfl) ?_
      refine zb0_ne (x := m_) (tgt := 33) hx hb dX7_serveSlips_27 (by decide) (by omega) (fun c_27 => ?_) (fun c_27 => ?_)
      · refine lv_aload_n hx hb dX7_serveSlips_33 rfl (lv_at hl 1 rfl) ?_
        refine zo_get 1 (.ref (gA G 1 0)) hx hb hts (fun x h => List.mem_cons_of_mem _ (hU_X7 x h)) hown hE (zT_c hT (c := 0) (by decide)) (show vwCl[7]? = some (RX7, TX7, 7) from rfl) (by decide) rfl (hts _ (List.mem_cons_of_mem _ uC_244)) (fun _ h9 => h9) dX7_serveSlips_34 ?_
        refine lv_aload_n hx hb dX7_serveSlips_37 rfl (lv_at hl 1 rfl) ?_
        refine zo_get 0 (.ref (gA G 0 0)) hx hb hts (fun x h => List.mem_cons_of_mem _ (hU_X7 x h)) hown hE (zT_c hT (c := 0) (by decide)) (show vwCl[7]? = some (RX7, TX7, 7) from rfl) (by decide) rfl (hts _ (List.mem_cons_of_mem _ uC_243)) (fun _ h9 => h9) dX7_serveSlips_38 ?_
        refine zc_v (va_runVN (As := [.ref (gA G 0 0)]) (rest := []) ⟨hx, hb, hml, hown, hts⟩ (c_X0_copyFrom l V (gA G 1) (gA G 0) (aF (Y 1)) (aT (Y 1)) (nI (aS (Y 1))) (aU (Y 1)) (aV (Y 1)) (aX (Y 1)) (aP (Y 1)) (aF (Y 0)) (aT (Y 0)) (nI (aS (Y 0))) (aU (Y 0)) (aV (Y 0)) (aX (Y 0)) (aP (Y 0)) (zT_JA hJ (by omega)) (zT_dA hJ (by omega) (by omega) (by omega)) (hwf 0 (by omega))) ⟨va_cnB 1 hts (zgB_ wsC_all uC_37) rfl rfl rfl (hE.2 (.methodLinkNest RX7 89 yX0_copyFrom "DrawerSlips") (List.mem_of_getElem? (i := 53) rfl)) (hts _ (List.mem_cons_of_mem _ uC_73)) (by decide +kernel) ⟨Nat.le_of_ble_eq_true rfl, Nat.le_of_ble_eq_true rfl⟩, (hts _ (List.mem_cons_of_mem _ uC_168)), (hts _ (List.mem_cons_of_mem _ uC_169))⟩ (zPreV (B := fun H => va_P V.1 vwCl (zaW V (gA G 1) (aF (Y 1)) (aT (Y 1)) (nI (aS (Y 1))) (aU (Y 1)) (aV (Y 1)) (aX (Y 1)) (aP (Y 1))) H ∧ va_P V.1 vwCl (zaW V (gA G 0) (aF (Y 0)) (aT (Y 0)) (nI (aS (Y 0))) (aU (Y 0)) (aV (Y 0)) (aX (Y 0)) (aP (Y 0))) H) ⟨(hT.1 1 (by omega)), (hT.1 0 (by omega))⟩ hE (zT_ra hE hT (by omega))) rfl rfl hl.1 rfl (lv_room (Nat.le_of_ble_eq_true rfl)) dX7_serveSlips_41 ⟨Nat.le_of_ble_eq_true rfl, Nat.le_of_ble_eq_true rfl⟩) hS (fun q h => zT_iA (by omega) h) (fun q h => zT_iA (by omega) h) (fun H locs hQ_ _ hk_ hS => ?_)
        have hT := zT_arch (j := 1) (A' := (Y 0)) hT hJ (by omega) hk_ hQ_
        have hwf := zWf_up (k := 1) (A := (Y 0)) hwf (hwf 0 (by omega))
        refine lv_iconst (v := 0) hx hb dX7_serveSlips_44 (by decide +kernel) ?_
        refine lv_istore_n (lv' := [(3, .int 0), (2, .int (nI m_)), (0, .ref (gM G 0)), (1, .int (nI j))]) hx hb dX7_serveSlips_45 rfl hl (by decide) rfl (fun ls hl => ?_)
        have L_46 : ∀ (n_ i : Nat) (q_ : zA) (H : Heap) (locs : List Loc) (ls : Array Slot), i ≤ m_ → m_ + 1 ≤ i + n_ → (q_ = kRun (Y 0) i) → (∀ j, j < 11 → zWfA (va_up Y 1 q_ j)) → (aS q_ ≤ aS (Y 0) + i) → zTP V G (va_up Y 1 q_) hp hk f1 f2 n pd a kd nu mo H → va_S (zIn 404 G) s.heap H locs → lv_has ls 4 [(3, .int (nI i)), (2, .int (nI m_)), (0, .ref (gM G 0))] → W p l e (headSpec wsX7_serveSlips (zR 4 0 0)).room s m (List.toArray [.ref (gM G 0), .int (nI j)]) below meth c H locs 0 0 (MQ below (zQi (fun r H => r = (kSrvR (Y 0) (nI j)) ∧ (zTP V G (va_up (va_up Y 1 (kSrvT (Y 0) (Y 1) (nI j))) 0 (kSrvA (Y 0) (nI j))) hp hk f1 f2 n pd a kd nu mo H)) (zIn 404 G)) (List.toArray [.ref (gM G 0), .int (nI j)]) s 0 0 (zIn 404 G)) (F0 m 46 ls []) := by
          intro n_
          induction n_ with
          | zero => intro i q_ H locs ls hi_ hn_; exact absurd hn_ (by omega)
          | succ n_ ih =>
            intro i q_ H locs ls hi_ hn_ eq_ hwf hs_ hT hS hl
            refine lv_iload_n hx hb dX7_serveSlips_46 rfl (lv_at hl 0 rfl) ?_
            refine lv_iload_n hx hb dX7_serveSlips_47 rfl (lv_at hl 1 rfl) ?_
            refine zb_ge (x := i) (y := m_) (tgt := 64) hx hb dX7_serveSlips_48 (by decide) (by omega) (by omega) (fun c_48 => ?_) (fun c_48 => ?_)
            · refine lv_aload_n hx hb dX7_serveSlips_64 rfl (lv_at hl 2 rfl) ?_
              refine zo_get 1 (.ref (gA G 1 0)) hx hb hts (fun x h => List.mem_cons_of_mem _ (hU_X7 x h)) hown hE (zT_c hT (c := 0) (by decide)) (show vwCl[7]? = some (RX7, TX7, 7) from rfl) (by decide) rfl (hts _ (List.mem_cons_of_mem _ uC_244)) (fun _ h9 => h9) dX7_serveSlips_65 ?_
              refine zo_getN 6 (.int (aF q_ 6)) hx hb hts (fun x h => List.mem_cons_of_mem _ (hU_X0 x h)) hown hE (za_o (hT.1 1 (by omega))) (show vwCl[0]? = some (RX0, TX0, 14) from rfl) (by decide) rfl (List.mem_of_getElem? (i := 15) rfl) (fun _ h9 => h9) dX7_serveSlips_68 ?_
              refine lv_ldc (v := (99999)) hx hb hown (hts _ (List.mem_cons_of_mem _ uC_282)) dX7_serveSlips_71 ?_
              refine lv_icmp_le (tgt := 79) hx hb dX7_serveSlips_73 (by decide) (fun c_73 => ?_) (fun c_73 => ?_)
              · refine lv_aload_n hx hb dX7_serveSlips_79 rfl (lv_at hl 2 rfl) ?_
                refine zo_get 0 (.ref (gA G 0 0)) hx hb hts (fun x h => List.mem_cons_of_mem _ (hU_X7 x h)) hown hE (zT_c hT (c := 0) (by decide)) (show vwCl[7]? = some (RX7, TX7, 7) from rfl) (by decide) rfl (hts _ (List.mem_cons_of_mem _ uC_243)) (fun _ h9 => h9) dX7_serveSlips_80 ?_
                refine lv_aload_n hx hb dX7_serveSlips_83 rfl (lv_at hl 2 rfl) ?_
                refine zo_get 1 (.ref (gA G 1 0)) hx hb hts (fun x h => List.mem_cons_of_mem _ (hU_X7 x h)) hown hE (zT_c hT (c := 0) (by decide)) (show vwCl[7]? = some (RX7, TX7, 7) from rfl) (by decide) rfl (hts _ (List.mem_cons_of_mem _ uC_244)) (fun _ h9 => h9) dX7_serveSlips_84 ?_
                refine zc_v (va_runVN (As := [.ref (gA G 1 0)]) (rest := []) ⟨hx, hb, hml, hown, hts⟩ (c_X0_copyFrom l V (gA G 0) (gA G 1) (aF (Y 0)) (aT (Y 0)) (nI (aS (Y 0))) (aU (Y 0)) (aV (Y 0)) (aX (Y 0)) (aP (Y 0)) (aF q_) (aT q_) (nI (aS q_)) (aU q_) (aV q_) (aX q_) (aP q_) (zT_JA hJ (by omega)) (zT_dA hJ (by omega) (by omega) (by omega)) (hwf 1 (by omega))) ⟨va_cnB 1 hts (zgB_ wsC_all uC_37) rfl rfl rfl (hE.2 (.methodLinkNest RX7 89 yX0_copyFrom "DrawerSlips") (List.mem_of_getElem? (i := 53) rfl)) (hts _ (List.mem_cons_of_mem _ uC_73)) (by decide +kernel) ⟨Nat.le_of_ble_eq_true rfl, Nat.le_of_ble_eq_true rfl⟩, (hts _ (List.mem_cons_of_mem _ uC_168)), (hts _ (List.mem_cons_of_mem _ uC_169))⟩ (zPreV (B := fun H => va_P V.1 vwCl (zaW V (gA G 0) (aF (Y 0)) (aT (Y 0)) (nI (aS (Y 0))) (aU (Y 0)) (aV (Y 0)) (aX (Y 0)) (aP (Y 0))) H ∧ va_P V.1 vwCl (zaW V (gA G 1) (aF q_) (aT q_) (nI (aS q_)) (aU q_) (aV q_) (aX q_) (aP q_)) H) ⟨(hT.1 0 (by omega)), (hT.1 1 (by omega))⟩ hE (zT_ra hE hT (by omega))) rfl rfl hl.1 rfl (lv_room (Nat.le_of_ble_eq_true rfl)) dX7_serveSlips_87 ⟨Nat.le_of_ble_eq_true rfl, Nat.le_of_ble_eq_true rfl⟩) hS (fun q h => zT_iA (by omega) h) (fun q h => zT_iA (by omega) h) (fun H locs hQ_ _ hk_ hS => ?_)
                have hT := zT_arch (j := 0) (A' := q_) hT hJ (by omega) hk_ hQ_
                have hwf := zWf_up (k := 0) (A := q_) hwf (hwf 1 (by omega))
                refine lv_iload_n hx hb dX7_serveSlips_90 rfl (lv_at hl 1 rfl) ?_
                have hq_ : kRun (Y 0) (kMn (Y 0) (nI j)) = q_ := by rw [hmn_, ← em_, show m_ = i by omega, ← eq_]
                have hk_2 : kMn (Y 0) (nI j) = m_ := by rw [hmn_, ← em_]
                exact zr_i hx hb hr hlocks hS (⟨(show kSrvR (Y 0) (nI j) = nI m_ from ((if_pos (show 1 ≤ nI j ∧ nI j ≤ 30 from ⟨z_nlt c_2, c_8⟩)).trans ((if_neg (show ¬ nwA (Y 0) = 0 by omega)).trans ((if_neg (by rw [hq_]; exact z_le' c_73)).trans (congrArg nI hk_2))))).symm, by rw [show kSrvT (Y 0) (Y 1) (nI j) = q_ from (if_pos (show 1 ≤ nI j ∧ nI j ≤ 30 from ⟨z_nlt c_2, c_8⟩)).trans ((if_neg (show ¬ nwA (Y 0) = 0 by omega)).trans hq_), show kSrvA (Y 0) (nI j) = q_ from ((if_pos (show 1 ≤ nI j ∧ nI j ≤ 30 from ⟨z_nlt c_2, c_8⟩)).trans ((if_neg (show ¬ nwA (Y 0) = 0 by omega)).trans ((if_neg (by rw [hq_]; exact z_le' c_73)).trans hq_)))]; exact hT⟩) dX7_serveSlips_91
              · refine lv_bipush (v := (-5)) hx hb dX7_serveSlips_76 (by decide +kernel) ?_
                have hq_ : kRun (Y 0) (kMn (Y 0) (nI j)) = q_ := by rw [hmn_, ← em_, show m_ = i by omega, ← eq_]
                have hk_2 : kMn (Y 0) (nI j) = m_ := by rw [hmn_, ← em_]
                exact zr_i hx hb hr hlocks hS (⟨(show kSrvR (Y 0) (nI j) = -5 from ((if_pos (show 1 ≤ nI j ∧ nI j ≤ 30 from ⟨z_nlt c_2, c_8⟩)).trans ((if_neg (show ¬ nwA (Y 0) = 0 by omega)).trans (if_pos (by rw [hq_]; exact z_nle c_73))))).symm, by rw [show kSrvT (Y 0) (Y 1) (nI j) = q_ from (if_pos (show 1 ≤ nI j ∧ nI j ≤ 30 from ⟨z_nlt c_2, c_8⟩)).trans ((if_neg (show ¬ nwA (Y 0) = 0 by omega)).trans hq_), show kSrvA (Y 0) (nI j) = Y 0 from ((if_pos (show 1 ≤ nI j ∧ nI j ≤ 30 from ⟨z_nlt c_2, c_8⟩)).trans ((if_neg (show ¬ nwA (Y 0) = 0 by omega)).trans (if_pos (by rw [hq_]; exact z_nle c_73)))), zUp_id (va_up Y 1 q_) (k := 0) (x := Y 0) rfl]; exact hT⟩) dX7_serveSlips_78
            · refine lv_aload_n hx hb dX7_serveSlips_51 rfl (lv_at hl 2 rfl) ?_
              refine zo_get 1 (.ref (gA G 1 0)) hx hb hts (fun x h => List.mem_cons_of_mem _ (hU_X7 x h)) hown hE (zT_c hT (c := 0) (by decide)) (show vwCl[7]? = some (RX7, TX7, 7) from rfl) (by decide) rfl (hts _ (List.mem_cons_of_mem _ uC_244)) (fun _ h9 => h9) dX7_serveSlips_52 ?_
              refine zc_v (va_runVN (As := []) (rest := []) ⟨hx, hb, hml, hown, hts⟩ (c_X0_serveNext l V (gA G 1) (aF q_) (aT q_) (nI (aS q_)) (aU q_) (aV q_) (aX q_) (aP q_) (aS q_) (zT_JA hJ (by omega)) rfl (by omega)) ⟨va_cnB 0 hts (zgB_ wsC_all uC_134) rfl rfl rfl (hE.2 (.methodLinkNest RX7 92 yX0_serveNext "DrawerSlips") (List.mem_of_getElem? (i := 54) rfl)) (hts _ (List.mem_cons_of_mem _ uC_73)) (by decide +kernel) ⟨Nat.le_of_ble_eq_true rfl, Nat.le_of_ble_eq_true rfl⟩, (hts _ (List.mem_cons_of_mem _ uC_285)), (hts _ (List.mem_cons_of_mem _ uC_286))⟩ (zPreV (B := fun H => va_P V.1 vwCl (zaW V (gA G 1) (aF q_) (aT q_) (nI (aS q_)) (aU q_) (aV q_) (aX q_) (aP q_)) H) (hT.1 1 (by omega)) hE (zT_ra hE hT (by omega))) rfl rfl hl.1 rfl (lv_room (Nat.le_of_ble_eq_true rfl)) dX7_serveSlips_55 ⟨Nat.le_of_ble_eq_true rfl, Nat.le_of_ble_eq_true rfl⟩) hS (fun q h => zT_iA (by omega) h) (fun q h => zT_iA (by omega) h) (fun H locs hQ_ _ hk_ hS => ?_)
              have hT := zT_arch (j := 1) (A' := kNx q_) hT hJ (by omega) hk_ hQ_
              have hwf := zWf_up (k := 1) (A := kNx q_) hwf (kNx_wf (hwf 1 (by omega)))
              refine lv_iinc (v := nI (i + 1)) (lv' := [(3, .int (nI (i + 1))), (2, .int (nI m_)), (0, .ref (gM G 0))]) hx hb dX7_serveSlips_58 hl (k := 0) rfl (z_inc1 i) (by decide) rfl (fun ls hl => ?_)
              refine lv_goto (tgt := 46) hx hb dX7_serveSlips_61 (by decide) ?_
              rw [zUp_up] at hT hwf
              exact ih (i + 1) (kNx q_) H locs ls (by omega) (by omega) (by rw [eq_]; rfl) hwf (by have h_ := kNx_S q_; omega) hT hS (lv_sub hl [0, 1, 2] rfl)
        exact L_46 (m_ + 1) 0 (Y 0) H locs ls (by omega) (by omega) rfl hwf (Nat.le_refl _) hT hS (lv_sub hl [0, 1, 2] rfl)
      · refine lv_bipush (v := (-5)) hx hb dX7_serveSlips_30 (by decide +kernel) ?_
        exact zr_i hx hb hr hlocks hS (⟨(show kSrvR (Y 0) (nI j) = -5 from ((if_pos (show 1 ≤ nI j ∧ nI j ≤ 30 from ⟨z_nlt c_2, c_8⟩)).trans (if_pos (show nwA (Y 0) = 0 by omega)))).symm, by rw [show kSrvT (Y 0) (Y 1) (nI j) = Y 1 from ((if_pos (show 1 ≤ nI j ∧ nI j ≤ 30 from ⟨z_nlt c_2, c_8⟩)).trans (if_pos (show nwA (Y 0) = 0 by omega))), show kSrvA (Y 0) (nI j) = Y 0 from ((if_pos (show 1 ≤ nI j ∧ nI j ≤ 30 from ⟨z_nlt c_2, c_8⟩)).trans (if_pos (show nwA (Y 0) = 0 by omega))), zUp_id Y (k := 1) rfl, zUp_id Y (k := 0) rfl]; exact hT⟩) dX7_serveSlips_32
    · refine lv_bipush (v := (-2)) hx hb dX7_serveSlips_11 (by decide +kernel) ?_
      exact zr_i hx hb hr hlocks hS (⟨(show kSrvR (Y 0) mn = -2 from (if_neg (fun h => c_8 h.2))).symm, by rw [show kSrvT (Y 0) (Y 1) mn = Y 1 from (if_neg (fun h => c_8 h.2)), show kSrvA (Y 0) mn = Y 0 from (if_neg (fun h => c_8 h.2)), zUp_id Y (k := 1) rfl, zUp_id Y (k := 0) rfl]; exact hT⟩) dX7_serveSlips_13
set_option maxHeartbeats 4000000 in
set_option maxRecDepth 100000 in
theorem c_X7_serve (l : Launch) (V : zV) (G : Nat → Nat) (Y : Nat → zA) (hp hk : Nat) (f1 f2 : Int32) (n : Nat) (pd : Nat → Int32) (a : Nat) (kd nu mo : Int32) (mn : Int32) (hJ : zInj 404 G) (hp7 : hp < 7) (hk6 : hk ≤ 6) (hwf : ∀ j, j < 11 → zWfA (Y j)) (hgood : kGood (Y 0)) : Met l yX7_serve wsX7_serve (zR 5 0 0) (zPc V [.ref (gM G 0), .int mn] (fun H => zTP V G Y hp hk f1 f2 n pd a kd nu mo H)) (zQi (fun r H => r = (kSrvR (Y 0) mn) ∧ (zTP V G (va_up (va_up (va_up Y (hp + 2) (Y 0)) 1 (kSrvT (Y 0) (Y 1) mn)) 0 (kSrvA (Y 0) mn)) (if 0 ≤ kSrvR (Y 0) mn then (hp + 1) % 7 else hp) (if 0 ≤ kSrvR (Y 0) mn then min (hk + 1) 6 else hk) f1 f2 n pd a kd nu mo H)) (zIn 404 G)) 0 0 (zIn 404 G) := by
  refine Met.ofW (cc := cX7_serve) (maxL := 2) (ret := (some .int)) (by decide) rfl ?_
  intro p e s m args below meth c s₁ B hml hv
  obtain ⟨rfl, hP, hE⟩ := hv
  have hx := B.exec
  have hb := B.bytes
  have hr := B.returns
  have hts := atoms_spec (ws := wsX7_serve) B.pre
  have hown : s.vm.findClass RX7 = some m.cls := findClass_of_methodNamed B.named
  have hlocks := B.notSynchronized
  have hl := lv_entry ([.ref (gM G 0), .int mn]) (n := 2) (Nat.le_of_ble_eq_true rfl)
  rw [lg_entry_eq]
  generalize (lg_sl ([.ref (gM G 0), .int mn]) ++ List.replicate (2 - (lg_sl ([.ref (gM G 0), .int mn])).length) Slot.unset).toArray = ls at hl ⊢
  have hl : lv_has ls 2 [(0, .ref (gM G 0)), (1, .int mn)] := hl
  have hT := hP
  have hS : va_S (zIn 404 G) s.heap s.heap [] := va_S.rf
  refine lv_aload_n hx hb dX7_serve_0 rfl (lv_at hl 0 rfl) ?_
  refine zo_get 2 (.ref (gM G 1)) hx hb hts (fun x h => List.mem_cons_of_mem _ (hU_X7 x h)) hown hE (zT_c hT (c := 0) (by decide)) (show vwCl[7]? = some (RX7, TX7, 7) from rfl) (by decide) rfl (hts _ (List.mem_cons_of_mem _ uC_247)) (fun _ h9 => h9) dX7_serve_1 ?_
  refine lv_aload_n hx hb dX7_serve_4 rfl (lv_at hl 0 rfl) ?_
  refine zo_get 0 (.ref (gA G 0 0)) hx hb hts (fun x h => List.mem_cons_of_mem _ (hU_X7 x h)) hown hE (zT_c hT (c := 0) (by decide)) (show vwCl[7]? = some (RX7, TX7, 7) from rfl) (by decide) rfl (hts _ (List.mem_cons_of_mem _ uC_243)) (fun _ h9 => h9) dX7_serve_5 ?_
  refine zc_v (va_runVN (As := [.ref (gA G 0 0)]) (rest := []) ⟨hx, hb, hml, hown, hts⟩ (c_X1_prepare l V G Y hp hk f1 f2 n pd a kd nu mo hJ (by omega) hwf) ⟨va_cnB 1 hts (zgB_ wsC_all uC_162) rfl rfl rfl (hE.2 (.methodLinkNest RX7 52 yX1_prepare "DrawerSlips") (List.mem_of_getElem? (i := 38) rfl)) (hts _ (List.mem_cons_of_mem _ uC_167)) (by decide +kernel) ⟨Nat.le_of_ble_eq_true rfl, Nat.le_of_ble_eq_true rfl⟩, (hts _ (List.mem_cons_of_mem _ uC_267)), (hts _ (List.mem_cons_of_mem _ uC_268))⟩ (zPreV (B := fun H => zTP V G Y hp hk f1 f2 n pd a kd nu mo H) hT hE (zT_rh hE hT)) rfl rfl hl.1 rfl (lv_room (Nat.le_of_ble_eq_true rfl)) dX7_serve_8 ⟨Nat.le_of_ble_eq_true rfl, Nat.le_of_ble_eq_true rfl⟩) hS (fun _ h => h) (fun _ h => h) (fun H locs hQ_ _ _ hS => ?_)
  have hT := hQ_
  have hwf := zWf_up (k := (hp + 2)) (A := (Y 0)) hwf (hwf 0 (by omega))
  refine lv_aload_n hx hb dX7_serve_11 rfl (lv_at hl 0 rfl) ?_
  refine lv_aload_n hx hb dX7_serve_12 rfl (lv_at hl 0 rfl) ?_
  refine lv_iload_n hx hb dX7_serve_13 rfl (lv_at hl 1 rfl) ?_
  refine zc_i (va_runV (As := [.int mn]) (rest := [.ref (gM G 0)]) ⟨hx, hb, hml, hown, hts⟩ (c_X7_serveSlips l V G (va_up Y (hp + 2) (Y 0)) hp hk f1 f2 n pd a kd nu mo mn hJ hwf (hgood)) (cwV 1 hts (zgV_ wsC_all uC_280 uC_288 uC_289 uC_290 uC_25) rfl rfl rfl (by decide +kernel) ⟨Nat.le_of_ble_eq_true rfl, Nat.le_of_ble_eq_true rfl⟩) (zPreV (B := fun H => zTP V G (va_up Y (hp + 2) (Y 0)) hp hk f1 f2 n pd a kd nu mo H) hT hE (zT_rt hE hT)) rfl rfl hl.1 rfl (lv_room (Nat.le_of_ble_eq_true rfl)) dX7_serve_14 ⟨Nat.le_of_ble_eq_true rfl, Nat.le_of_ble_eq_true rfl⟩) hS (fun _ h => h) (fun _ h => h) (fun r_ H locs hQ_ _ _ hS => ?_)
  obtain ⟨hr_, hT⟩ := hQ_
  subst hr_
  have hw0_ := hwf 0 (by omega)
  have hwf := zWf_up (k := 1) (A := kSrvT (Y 0) (Y 1) mn) hwf (kSrvT_wf hw0_ (hwf 1 (by omega)))
  have hwf := zWf_up (k := 0) (A := kSrvA (Y 0) mn) hwf (kSrvA_wf hw0_)
  refine zc_i (va_runV (As := [.int (kSrvR (Y 0) mn)]) (rest := []) ⟨hx, hb, hml, hown, hts⟩ (c_X7_settled l V G (va_up (va_up (va_up Y (hp + 2) (Y 0)) 1 (kSrvT (Y 0) (Y 1) mn)) 0 (kSrvA (Y 0) mn)) hp hk f1 f2 n pd a kd nu mo (kSrvR (Y 0) mn) hJ (by omega) (by omega)) (cwV 1 hts (zgV_ wsC_all uC_263 uC_271 uC_272 uC_273 uC_25) rfl rfl rfl (by decide +kernel) ⟨Nat.le_of_ble_eq_true rfl, Nat.le_of_ble_eq_true rfl⟩) (zPreV (B := fun H => zTP V G (va_up (va_up (va_up Y (hp + 2) (Y 0)) 1 (kSrvT (Y 0) (Y 1) mn)) 0 (kSrvA (Y 0) mn)) hp hk f1 f2 n pd a kd nu mo H) hT hE (zT_rt hE hT)) rfl rfl hl.1 rfl (lv_room (Nat.le_of_ble_eq_true rfl)) dX7_serve_17 ⟨Nat.le_of_ble_eq_true rfl, Nat.le_of_ble_eq_true rfl⟩) hS (fun _ h => h) (fun _ h => h) (fun r_ H locs hQ_ _ _ hS => ?_)
  obtain ⟨hr_, hT⟩ := hQ_
  subst hr_
  exact zr_i hx hb hr hlocks hS (⟨rfl, hT⟩) dX7_serve_20
