set_option maxHeartbeats 4000000 in
set_option maxRecDepth 100000 in
theorem c_L_cell (l : Launch) (V : zV) (b L k : Nat) (xs : Nat → Int32)  (hL : L < 2 ^ 31) (hk : k < 2 ^ 31) : Met l yL_cell wsL_cell (zR 1 0 0) (zPs V [.ref b, .int (nI k)] (fun U => zRd U U.heap b L xs)) (vp_Si (fun r => True)) 0 0 (fun _ => False) := by
  refine Met.ofW (cc := cL_cell) (maxL := 2) (ret := (some .int)) (by decide) rfl ?_
  intro p e s m args below meth c s₁ B hml hv
  obtain ⟨rfl, hP, hE⟩ := hv
  have hx := B.exec
  have hb := B.bytes
  have hr := B.returns
  have hts := atoms_spec (ws := wsL_cell) B.pre
  have hown : s.vm.findClass RL = some m.cls := findClass_of_methodNamed B.named
  have hlocks := B.notSynchronized
  have hl := lv_entry ([.ref b, .int (nI k)]) (n := 2) (Nat.le_of_ble_eq_true rfl)
  rw [lg_entry_eq]
  generalize (lg_sl ([.ref b, .int (nI k)]) ++ List.replicate (2 - (lg_sl ([.ref b, .int (nI k)])).length) Slot.unset).toArray = ls at hl ⊢
  have hl : lv_has ls 2 [(0, .ref b), (1, .int (nI k))] := hl
  have hRd : zRd s s.heap b L xs := hP
  refine lv_iload_n hx hb dL_cell_0 rfl (lv_at hl 1 rfl) ?_
  refine lv_aload_n hx hb dL_cell_1 rfl (lv_at hl 0 rfl) ?_
  refine zo_len (n := L) hx hb hRd dL_cell_2 ?_
  refine zb_ge (x := k) (y := L) (tgt := 12) hx hb dL_cell_3 (by decide) (by omega) (by omega) (fun c_3 => ?_) (fun c_3 => ?_)
  · refine lv_ldc (v := 16810009) hx hb hown (hts _ (List.mem_cons_of_mem _ uG_1)) dL_cell_12 ?_
    refine lv_iload_n hx hb dL_cell_14 rfl (lv_at hl 1 rfl) ?_
    refine lv_imul hx hb dL_cell_15 ?_
    refine lv_sipush (v := 19013) hx hb dL_cell_16 (by decide +kernel) ?_
    refine lv_iadd hx hb dL_cell_19 ?_
    exact zr_si hx hb hr hlocks trivial dL_cell_20
  · refine lv_aload_n hx hb dL_cell_6 rfl (lv_at hl 0 rfl) ?_
    refine lv_iload_n hx hb dL_cell_7 rfl (lv_at hl 1 rfl) ?_
    refine zo_rald (k := k) hx hb hRd (by omega) (by omega) dL_cell_8 ?_
    refine lv_goto (tgt := 20) hx hb dL_cell_9 (by decide) ?_
    exact zr_si hx hb hr hlocks trivial dL_cell_20
set_option maxHeartbeats 4000000 in
set_option maxRecDepth 100000 in
theorem c_L_low (l : Launch) (V : zV) (v : Int32) (d : Nat)  (h0 : 0 < d) (hd : d < 2 ^ 31) : Met l yL_low wsL_low (zR 1 0 0) (zPc V [.int v, .int (nI d)] (fun _ => True)) (vp_Si (fun r => r = (lMod v d))) 0 0 (fun _ => False) := by
  refine Met.ofW (cc := cL_low) (maxL := 2) (ret := (some .int)) (by decide) rfl ?_
  intro p e s m args below meth c s₁ B hml hv
  obtain ⟨rfl, hP, hE⟩ := hv
  have hx := B.exec
  have hb := B.bytes
  have hr := B.returns
  have hts := atoms_spec (ws := wsL_low) B.pre
  have hown : s.vm.findClass RL = some m.cls := findClass_of_methodNamed B.named
  have hlocks := B.notSynchronized
  have hl := lv_entry ([.int v, .int (nI d)]) (n := 2) (Nat.le_of_ble_eq_true rfl)
  rw [lg_entry_eq]
  generalize (lg_sl ([.int v, .int (nI d)]) ++ List.replicate (2 - (lg_sl ([.int v, .int (nI d)])).length) Slot.unset).toArray = ls at hl ⊢
  have hl : lv_has ls 2 [(0, .int v), (1, .int (nI d))] := hl
  refine lv_iload_n hx hb dL_low_0 rfl (lv_at hl 0 rfl) ?_
  refine lv_ldc (v := 2147483647) hx hb hown (hts _ (List.mem_cons_of_mem _ uG_3)) dL_low_1 ?_
  refine lv_iand hx hb dL_low_3 ?_
  refine lv_iload_n hx hb dL_low_4 rfl (lv_at hl 1 rfl) ?_
  refine lv_irem hx hb dL_low_5 (nI_ne0 (by omega) (by omega)) ?_
  exact zr_si hx hb hr hlocks rfl dL_low_6
set_option maxHeartbeats 4000000 in
set_option maxRecDepth 100000 in
theorem c_L_far (l : Launch) (V : zV) (x y : Int32)  : Met l yL_far wsL_far (zR 1 0 0) (zPc V [.int x, .int y] (fun _ => True)) (vp_Si (fun r => r = (mFar x y))) 0 0 (fun _ => False) := by
  refine Met.ofW (cc := cL_far) (maxL := 2) (ret := (some .int)) (by decide) rfl ?_
  intro p e s m args below meth c s₁ B hml hv
  obtain ⟨rfl, hP, hE⟩ := hv
  have hx := B.exec
  have hb := B.bytes
  have hr := B.returns
  have hts := atoms_spec (ws := wsL_far) B.pre
  have hown : s.vm.findClass RL = some m.cls := findClass_of_methodNamed B.named
  have hlocks := B.notSynchronized
  have hl := lv_entry ([.int x, .int y]) (n := 2) (Nat.le_of_ble_eq_true rfl)
  rw [lg_entry_eq]
  generalize (lg_sl ([.int x, .int y]) ++ List.replicate (2 - (lg_sl ([.int x, .int y])).length) Slot.unset).toArray = ls at hl ⊢
  have hl : lv_has ls 2 [(0, .int x), (1, .int y)] := hl
  refine lv_iload_n hx hb dL_far_0 rfl (lv_at hl 0 rfl) ?_
  refine lv_iload_n hx hb dL_far_1 rfl (lv_at hl 1 rfl) ?_
  refine lv_icmp_ge (tgt := 11) hx hb dL_far_2 (by decide) (fun c_2 => ?_) (fun c_2 => ?_)
  · refine lv_iload_n hx hb dL_far_11 rfl (lv_at hl 0 rfl) ?_
    refine lv_iload_n hx hb dL_far_12 rfl (lv_at hl 1 rfl) ?_
    refine lv_isub hx hb dL_far_13 ?_
    exact zr_si hx hb hr hlocks (show x - y = mFar x y from (if_neg (z_le' c_2)).symm) dL_far_14
  · refine lv_iload_n hx hb dL_far_5 rfl (lv_at hl 1 rfl) ?_
    refine lv_iload_n hx hb dL_far_6 rfl (lv_at hl 0 rfl) ?_
    refine lv_isub hx hb dL_far_7 ?_
    refine lv_goto (tgt := 14) hx hb dL_far_8 (by decide) ?_
    exact zr_si hx hb hr hlocks (show y - x = mFar x y from (if_pos (z_nle c_2)).symm) dL_far_14
set_option maxHeartbeats 4000000 in
set_option maxRecDepth 100000 in
theorem c_L_lowest (l : Launch) (V : zV) (G : Nat → Nat) (Y : Nat → zA) (hp hk : Nat) (f1 f2 : Int32) (np : Nat) (pd : Nat → Int32) (pa : Nat) (kd nu mo : Int32) (w : Nat → Int32) (n N t ac : Nat) (wr fr : Int32) (hJ : zInj 404 G) (h : lJ Y hp hk w n N t ac) (hwr : wr = 0 ∨ wr = 1) : Met l yL_lowest wsL_lowest (zR 4 0 0) (zPc V [.ref (gM G 0), .int wr, .int fr] (fun H => zTP V G Y hp hk f1 f2 np pd pa kd nu mo H)) (vp_Si (fun r => r = (lNo w (mLow w n wr fr)))) 0 0 (fun _ => False) := by
  refine Met.ofW (cc := cL_lowest) (maxL := 5) (ret := (some .int)) (by decide) rfl ?_
  intro p e s m args below meth c s₁ B hml hv
  obtain ⟨rfl, hP, hE⟩ := hv
  have hx := B.exec
  have hb := B.bytes
  have hr := B.returns
  have hts := atoms_spec (ws := wsL_lowest) B.pre
  have hown : s.vm.findClass RL = some m.cls := findClass_of_methodNamed B.named
  have hlocks := B.notSynchronized
  have hl := lv_entry ([.ref (gM G 0), .int wr, .int fr]) (n := 5) (Nat.le_of_ble_eq_true rfl)
  rw [lg_entry_eq]
  generalize (lg_sl ([.ref (gM G 0), .int wr, .int fr]) ++ List.replicate (5 - (lg_sl ([.ref (gM G 0), .int wr, .int fr])).length) Slot.unset).toArray = ls at hl ⊢
  have hl : lv_has ls 5 [(0, .ref (gM G 0)), (1, .int wr), (2, .int fr)] := hl
  have hT := hP
  have hR := h.R
  have hk6 := h.2.1
  have h30 := (lRep_c hR).2.1
  have hm30 := lMany_le w n wr
  refine lv_iconst (v := 0) hx hb dL_lowest_0 (by decide +kernel) ?_
  refine lv_istore_n (lv' := [(3, .int 0), (0, .ref (gM G 0)), (1, .int wr), (2, .int fr)]) hx hb dL_lowest_1 rfl hl (by decide) rfl (fun ls hl => ?_)
  have L_2 : ∀ (n_ r_ : Nat) (ls : Array Slot), r_ ≤ mMany w n wr → mMany w n wr + 1 ≤ r_ + n_ → (∀ j, j < n → zF w j 1 = wr → mRank w n j < r_ → zF w j 2 < fr) → lv_has ls 5 [(3, .int (nI r_)), (0, .ref (gM G 0)), (1, .int wr), (2, .int fr)] → W p l e (headSpec wsL_lowest (zR 4 0 0)).room s m (List.toArray [.ref (gM G 0), .int wr, .int fr]) below meth c s.heap [] 0 0 (MQ below (vp_Si (fun r => r = (lNo w (mLow w n wr fr)))) (List.toArray [.ref (gM G 0), .int wr, .int fr]) s 0 0 (fun _ => False)) (F0 m 2 ls []) := by
    intro n_
    induction n_ with
    | zero => intro r_   ls hi_ hn_; exact absurd hn_ (by omega)
    | succ n_ ih =>
      intro r_   ls hi_ hn_ hi_1  hl
      refine lv_iload_n hx hb dL_lowest_2 rfl (lv_at hl 0 rfl) ?_
      refine lv_aload_n hx hb dL_lowest_3 rfl (lv_at hl 1 rfl) ?_
      refine lv_iconst (v := 1) hx hb dL_lowest_4 (by decide +kernel) ?_
      refine lv_iload_n hx hb dL_lowest_5 rfl (lv_at hl 2 rfl) ?_
      refine lv_iadd hx hb dL_lowest_6 ?_
      refine zc_se (va_runV (As := [.int (1 + wr)]) (rest := [.int (nI r_)]) ⟨hx, hb, hml, hown, hts⟩ (c_X7_count l V G Y hp hk f1 f2 np pd pa kd nu mo (1 + wr) hJ hk6) (cwV 1 hts (zgVG_ uC_307 uG_6 uG_7 uG_8 (wsCG _ uC_25)) rfl rfl rfl (by decide +kernel) ⟨Nat.le_of_ble_eq_true rfl, Nat.le_of_ble_eq_true rfl⟩) (zPreV (B := fun H => zTP V G Y hp hk f1 f2 np pd pa kd nu mo H) hT hE (zT_rt hE hT)) rfl rfl hl.1 rfl (lv_room (Nat.le_of_ble_eq_true rfl)) dL_lowest_7 ⟨Nat.le_of_ble_eq_true rfl, Nat.le_of_ble_eq_true rfl⟩) ?_
      refine zt_i (y := nI (mMany w n wr)) (lc_s hR np hk hwr) ?_
      refine zb_ge (x := r_) (y := mMany w n wr) (tgt := 41) hx hb dL_lowest_10 (by decide) (by omega) (by omega) (fun c_10 => ?_) (fun c_10 => ?_)
      · refine lv_bipush (v := (-6)) hx hb dL_lowest_41 (by decide +kernel) ?_
        exact zr_si hx hb hr hlocks (show (-6) = lNo w (mLow w n wr fr) from by rw [lLow_no (fun j hj hs => hi_1 j hj hs (Nat.lt_of_lt_of_le (lRank_lt hj hs) c_10))]; rfl) dL_lowest_43
      · obtain ⟨k_, hk_, hs_, hrk_⟩ := lAt c_10
        refine lv_aload_n hx hb dL_lowest_13 rfl (lv_at hl 1 rfl) ?_
        refine lv_iload_n hx hb dL_lowest_14 rfl (lv_at hl 2 rfl) ?_
        refine lv_iload_n hx hb dL_lowest_15 rfl (lv_at hl 0 rfl) ?_
        refine zc_se (va_runV (As := [.int wr, .int (nI r_)]) (rest := []) ⟨hx, hb, hml, hown, hts⟩ (c_X7_waiting l V G Y hp hk f1 f2 np pd pa kd nu mo wr (nI r_) hJ) (cwV 2 hts (zgVG_ uC_295 uG_9 uG_10 uG_11 (wsCG _ uC_25)) rfl rfl rfl (by decide +kernel) ⟨Nat.le_of_ble_eq_true rfl, Nat.le_of_ble_eq_true rfl⟩) (zPreV (B := fun H => zTP V G Y hp hk f1 f2 np pd pa kd nu mo H) hT hE (zT_rt hE hT)) rfl rfl hl.1 rfl (lv_room (Nat.le_of_ble_eq_true rfl)) dL_lowest_16 ⟨Nat.le_of_ble_eq_true rfl, Nat.le_of_ble_eq_true rfl⟩) ?_
        refine zt_i (y := zF w k_ 0) (by rw [← hrk_]; exact lw_ hR hwr hk_ hs_) ?_
        refine lv_istore (lv' := [(4, .int (zF w k_ 0)), (3, .int (nI r_)), (0, .ref (gM G 0)), (1, .int wr), (2, .int fr)]) hx hb dL_lowest_19 hl (by decide) rfl (fun ls hl => ?_)
        refine lv_aload_n hx hb dL_lowest_21 rfl (lv_at hl 2 rfl) ?_
        refine lv_iload hx hb dL_lowest_22 (lv_at hl 0 rfl) ?_
        refine lv_iconst (v := 1) hx hb dL_lowest_24 (by decide +kernel) ?_
        refine zc_se (va_runV (As := [.int (zF w k_ 0), .int 1]) (rest := []) ⟨hx, hb, hml, hown, hts⟩ (c_X7_of l V G Y hp hk f1 f2 np pd pa kd nu mo (zF w k_ 0) 1 hJ) (cwV 2 hts (zgVG_ uC_294 uG_12 uG_13 uG_14 (wsCG _ uC_25)) rfl rfl rfl (by decide +kernel) ⟨Nat.le_of_ble_eq_true rfl, Nat.le_of_ble_eq_true rfl⟩) (zPreV (B := fun H => zTP V G Y hp hk f1 f2 np pd pa kd nu mo H) hT hE (zT_rt hE hT)) rfl rfl hl.1 rfl (lv_room (Nat.le_of_ble_eq_true rfl)) dL_lowest_25 ⟨Nat.le_of_ble_eq_true rfl, Nat.le_of_ble_eq_true rfl⟩) ?_
        refine zt_i (y := zF w k_ 2) (lo_1 hR hk_) ?_
        refine lv_iload_n hx hb dL_lowest_28 rfl (lv_at hl 4 rfl) ?_
        refine lv_icmp_lt (tgt := 35) hx hb dL_lowest_29 (by decide) (fun c_29 => ?_) (fun c_29 => ?_)
        · refine lv_iinc (v := nI (r_ + 1)) (lv' := [(3, .int (nI (r_ + 1))), (4, .int (zF w k_ 0)), (0, .ref (gM G 0)), (1, .int wr), (2, .int fr)]) hx hb dL_lowest_35 hl (k := 1) rfl (z_inc1 r_) (by decide) rfl (fun ls hl => ?_)
          refine lv_goto (tgt := 2) hx hb dL_lowest_38 (by decide) ?_
          exact ih (r_ + 1) ls (by omega) (by omega) (fun j hj hs q_ => (Nat.lt_or_ge (mRank w n j) r_).elim (hi_1 j hj hs) (fun g_ => by rw [mRank_ne hj hk_ (hs.trans hs_.symm) (by omega)]; exact c_29)) (lv_sub hl [0, 2, 3, 4] rfl)
        · refine lv_iload hx hb dL_lowest_32 (lv_at hl 0 rfl) ?_
          exact zr_si hx hb hr hlocks (show zF w k_ 0 = lNo w (mLow w n wr fr) from by rw [lLow hk_ hs_ c_29 (fun j hj hs q_ => hi_1 j hj hs (by omega))]; rfl) dL_lowest_34
  exact L_2 (mMany w n wr + 1) 0 ls (by omega) (by omega) (fun j hj hs q_ => absurd q_ (Nat.not_lt_zero _)) (lv_sub hl [0, 1, 2, 3] rfl)
set_option maxHeartbeats 4000000 in
set_option maxRecDepth 100000 in
theorem c_L_oldest (l : Launch) (V : zV) (G : Nat → Nat) (Y : Nat → zA) (hp hk : Nat) (f1 f2 : Int32) (np : Nat) (pd : Nat → Int32) (pa : Nat) (kd nu mo : Int32) (w : Nat → Int32) (n N t ac : Nat) (wr : Int32) (hJ : zInj 404 G) (h : lJ Y hp hk w n N t ac) (hwr : wr = 0 ∨ wr = 1) : Met l yL_oldest wsL_oldest (zR 4 0 0) (zPc V [.ref (gM G 0), .int wr] (fun H => zTP V G Y hp hk f1 f2 np pd pa kd nu mo H)) (vp_Si (fun r => r = (lNo w (mOld w n wr)))) 0 0 (fun _ => False) := by
  refine Met.ofW (cc := cL_oldest) (maxL := 6) (ret := (some .int)) (by decide) rfl ?_
  intro p e s m args below meth c s₁ B hml hv
  obtain ⟨rfl, hP, hE⟩ := hv
  have hx := B.exec
  have hb := B.bytes
  have hr := B.returns
  have hts := atoms_spec (ws := wsL_oldest) B.pre
  have hown : s.vm.findClass RL = some m.cls := findClass_of_methodNamed B.named
  have hlocks := B.notSynchronized
  have hl := lv_entry ([.ref (gM G 0), .int wr]) (n := 6) (Nat.le_of_ble_eq_true rfl)
  rw [lg_entry_eq]
  generalize (lg_sl ([.ref (gM G 0), .int wr]) ++ List.replicate (6 - (lg_sl ([.ref (gM G 0), .int wr])).length) Slot.unset).toArray = ls at hl ⊢
  have hl : lv_has ls 6 [(0, .ref (gM G 0)), (1, .int wr)] := hl
  have hT := hP
  have hR := h.R
  have hk6 := h.2.1
  have hc := lRep_c hR
  have h30 := hc.2.1
  have hm30 := lMany_le w n wr
  have ht31 : t < 2 ^ 31 := by omega
  refine lv_bipush (v := (-6)) hx hb dL_oldest_0 (by decide +kernel) ?_
  refine lv_istore_n (lv' := [(2, .int (-6)), (0, .ref (gM G 0)), (1, .int wr)]) hx hb dL_oldest_2 rfl hl (by decide) rfl (fun ls hl => ?_)
  refine lv_iconst (v := 0) hx hb dL_oldest_3 (by decide +kernel) ?_
  refine lv_istore_n (lv' := [(3, .int 0), (2, .int (-6)), (0, .ref (gM G 0)), (1, .int wr)]) hx hb dL_oldest_4 rfl hl (by decide) rfl (fun ls hl => ?_)
  have L_5 : ∀ (n_ r_ : Nat) (x_ : Int32) (ls : Array Slot), r_ ≤ mMany w n wr → mMany w n wr + 1 ≤ r_ + n_ → (lOi w n wr r_ x_) → lv_has ls 6 [(3, .int (nI r_)), (2, .int x_), (0, .ref (gM G 0)), (1, .int wr)] → W p l e (headSpec wsL_oldest (zR 4 0 0)).room s m (List.toArray [.ref (gM G 0), .int wr]) below meth c s.heap [] 0 0 (MQ below (vp_Si (fun r => r = (lNo w (mOld w n wr)))) (List.toArray [.ref (gM G 0), .int wr]) s 0 0 (fun _ => False)) (F0 m 5 ls []) := by
    intro n_
    induction n_ with
    | zero => intro r_ x_  ls hi_ hn_; exact absurd hn_ (by omega)
    | succ n_ ih =>
      intro r_ x_  ls hi_ hn_ hi_1  hl
      refine lv_iload_n hx hb dL_oldest_5 rfl (lv_at hl 0 rfl) ?_
      refine lv_aload_n hx hb dL_oldest_6 rfl (lv_at hl 2 rfl) ?_
      refine lv_iconst (v := 1) hx hb dL_oldest_7 (by decide +kernel) ?_
      refine lv_iload_n hx hb dL_oldest_8 rfl (lv_at hl 3 rfl) ?_
      refine lv_iadd hx hb dL_oldest_9 ?_
      refine zc_se (va_runV (As := [.int (1 + wr)]) (rest := [.int (nI r_)]) ⟨hx, hb, hml, hown, hts⟩ (c_X7_count l V G Y hp hk f1 f2 np pd pa kd nu mo (1 + wr) hJ hk6) (cwV 1 hts (zgVG_ uC_307 uG_6 uG_7 uG_8 (wsCG _ uC_25)) rfl rfl rfl (by decide +kernel) ⟨Nat.le_of_ble_eq_true rfl, Nat.le_of_ble_eq_true rfl⟩) (zPreV (B := fun H => zTP V G Y hp hk f1 f2 np pd pa kd nu mo H) hT hE (zT_rt hE hT)) rfl rfl hl.1 rfl (lv_room (Nat.le_of_ble_eq_true rfl)) dL_oldest_10 ⟨Nat.le_of_ble_eq_true rfl, Nat.le_of_ble_eq_true rfl⟩) ?_
      refine zt_i (y := nI (mMany w n wr)) (lc_s hR np hk hwr) ?_
      refine zb_ge (x := r_) (y := mMany w n wr) (tgt := 91) hx hb dL_oldest_13 (by decide) (by omega) (by omega) (fun c_13 => ?_) (fun c_13 => ?_)
      · refine lv_iload_n hx hb dL_oldest_91 rfl (lv_at hl 1 rfl) ?_
        exact zr_si hx hb hr hlocks (show x_ = lNo w (mOld w n wr) from lOi_end (lRep_O hR) c_13 hi_1) dL_oldest_92
      · obtain ⟨k_, hk_, hs_, hrk_⟩ := lAt c_13
        refine lv_aload_n hx hb dL_oldest_16 rfl (lv_at hl 2 rfl) ?_
        refine lv_iload_n hx hb dL_oldest_17 rfl (lv_at hl 3 rfl) ?_
        refine lv_iload_n hx hb dL_oldest_18 rfl (lv_at hl 0 rfl) ?_
        refine zc_se (va_runV (As := [.int wr, .int (nI r_)]) (rest := []) ⟨hx, hb, hml, hown, hts⟩ (c_X7_waiting l V G Y hp hk f1 f2 np pd pa kd nu mo wr (nI r_) hJ) (cwV 2 hts (zgVG_ uC_295 uG_9 uG_10 uG_11 (wsCG _ uC_25)) rfl rfl rfl (by decide +kernel) ⟨Nat.le_of_ble_eq_true rfl, Nat.le_of_ble_eq_true rfl⟩) (zPreV (B := fun H => zTP V G Y hp hk f1 f2 np pd pa kd nu mo H) hT hE (zT_rt hE hT)) rfl rfl hl.1 rfl (lv_room (Nat.le_of_ble_eq_true rfl)) dL_oldest_19 ⟨Nat.le_of_ble_eq_true rfl, Nat.le_of_ble_eq_true rfl⟩) ?_
        refine zt_i (y := zF w k_ 0) (by rw [← hrk_]; exact lw_ hR hwr hk_ hs_) ?_
        refine lv_istore (lv' := [(4, .int (zF w k_ 0)), (3, .int (nI r_)), (2, .int x_), (0, .ref (gM G 0)), (1, .int wr)]) hx hb dL_oldest_22 hl (by decide) rfl (fun ls hl => ?_)
        rcases hi_1 with ⟨hx_, h0_⟩ | ⟨b_, hb_, hsb_, hx_, hrb_, hmb_⟩
        · subst hx_
          have hl : lv_has ls 6 [(4, .int (zF w k_ 0)), (3, .int (nI r_)), (2, .int (-6)), (0, .ref (gM G 0)), (1, .int wr)] := hl
          refine lv_iload_n hx hb dL_oldest_24 rfl (lv_at hl 2 rfl) ?_
          refine lv_if_lt (tgt := 66) hx hb dL_oldest_25 (by decide) (fun c_25 => ?_) (fun c_25 => ?_)
          · refine lv_iconst (v := 1) hx hb dL_oldest_66 (by decide +kernel) ?_
            refine lv_goto (tgt := 71) hx hb dL_oldest_67 (by decide) ?_
            refine lv_istore (lv' := [(5, .int 1), (4, .int (zF w k_ 0)), (3, .int (nI r_)), (2, .int (-6)), (0, .ref (gM G 0)), (1, .int wr)]) hx hb dL_oldest_71 hl (by decide) rfl (fun ls hl => ?_)
            refine lv_iload hx hb dL_oldest_73 (lv_at hl 0 rfl) ?_
            refine lv_if_eq (tgt := 83) hx hb dL_oldest_75 (by decide) (fun c_75 => ?_) (fun c_75 => ?_)
            · exact absurd c_75 (by decide +kernel)
            refine lv_iload hx hb dL_oldest_78 (lv_at hl 1 rfl) ?_
            refine lv_goto (tgt := 84) hx hb dL_oldest_80 (by decide) ?_
            refine lv_istore_n (lv' := [(2, .int (zF w k_ 0)), (5, .int 1), (4, .int (zF w k_ 0)), (3, .int (nI r_)), (0, .ref (gM G 0)), (1, .int wr)]) hx hb dL_oldest_84 rfl hl (by decide) rfl (fun ls hl => ?_)
            refine lv_iinc (v := nI (r_ + 1)) (lv' := [(3, .int (nI (r_ + 1))), (2, .int (zF w k_ 0)), (5, .int 1), (4, .int (zF w k_ 0)), (0, .ref (gM G 0)), (1, .int wr)]) hx hb dL_oldest_85 hl (k := 3) rfl (z_inc1 r_) (by decide) rfl (fun ls hl => ?_)
            refine lv_goto (tgt := 5) hx hb dL_oldest_88 (by decide) ?_
            exact ih (r_ + 1) (zF w k_ 0) ls (by omega) (by omega) (lOi_none hk_ hs_ hrk_ h0_) (lv_sub hl [0, 1, 4, 5] rfl)
          · exact absurd (by decide) c_25
        · subst hx_
          have hl : lv_has ls 6 [(4, .int (zF w k_ 0)), (3, .int (nI r_)), (2, .int (zF w b_ 0)), (0, .ref (gM G 0)), (1, .int wr)] := hl
          refine lv_iload_n hx hb dL_oldest_24 rfl (lv_at hl 2 rfl) ?_
          refine lv_if_lt (tgt := 66) hx hb dL_oldest_25 (by decide) (fun c_25 => ?_) (fun c_25 => ?_)
          · exact absurd (h.X.1 b_ hb_).1 (z_lt' c_25)
          · have hne_ : k_ ≠ b_ := fun e_ => by rw [e_] at hrk_; omega
            have ho_ := lOlder (lRep_I hR) (lRep_O hR) h.X hc.2.2.2.2.2.1 ht31 hk_ hb_ hne_
            by_cases hkb_ : k_ < b_
            · have ho_ := ho_.1 hkb_
              refine lv_aload_n hx hb dL_oldest_28 rfl (lv_at hl 3 rfl) ?_
              refine lv_iload hx hb dL_oldest_29 (lv_at hl 0 rfl) ?_
              refine lv_iconst (v := 3) hx hb dL_oldest_31 (by decide +kernel) ?_
              refine zc_se (va_runV (As := [.int (zF w k_ 0), .int 3]) (rest := []) ⟨hx, hb, hml, hown, hts⟩ (c_X7_of l V G Y hp hk f1 f2 np pd pa kd nu mo (zF w k_ 0) 3 hJ) (cwV 2 hts (zgVG_ uC_294 uG_12 uG_13 uG_14 (wsCG _ uC_25)) rfl rfl rfl (by decide +kernel) ⟨Nat.le_of_ble_eq_true rfl, Nat.le_of_ble_eq_true rfl⟩) (zPreV (B := fun H => zTP V G Y hp hk f1 f2 np pd pa kd nu mo H) hT hE (zT_rt hE hT)) rfl rfl hl.1 rfl (lv_room (Nat.le_of_ble_eq_true rfl)) dL_oldest_32 ⟨Nat.le_of_ble_eq_true rfl, Nat.le_of_ble_eq_true rfl⟩) ?_
              refine zt_i (y := w 6 - zF w k_ 4) (lo_3 hR hk_) ?_
              refine lv_aload_n hx hb dL_oldest_35 rfl (lv_at hl 3 rfl) ?_
              refine lv_iload_n hx hb dL_oldest_36 rfl (lv_at hl 2 rfl) ?_
              refine lv_iconst (v := 3) hx hb dL_oldest_37 (by decide +kernel) ?_
              refine zc_se (va_runV (As := [.int (zF w b_ 0), .int 3]) (rest := [.int (w 6 - zF w k_ 4)]) ⟨hx, hb, hml, hown, hts⟩ (c_X7_of l V G Y hp hk f1 f2 np pd pa kd nu mo (zF w b_ 0) 3 hJ) (cwV 2 hts (zgVG_ uC_294 uG_12 uG_13 uG_14 (wsCG _ uC_25)) rfl rfl rfl (by decide +kernel) ⟨Nat.le_of_ble_eq_true rfl, Nat.le_of_ble_eq_true rfl⟩) (zPreV (B := fun H => zTP V G Y hp hk f1 f2 np pd pa kd nu mo H) hT hE (zT_rt hE hT)) rfl rfl hl.1 rfl (lv_room (Nat.le_of_ble_eq_true rfl)) dL_oldest_38 ⟨Nat.le_of_ble_eq_true rfl, Nat.le_of_ble_eq_true rfl⟩) ?_
              refine zt_i (y := w 6 - zF w b_ 4) (lo_3 hR hb_) ?_
              refine lv_icmp_gt (tgt := 66) hx hb dL_oldest_41 (by decide) (fun c_41 => ?_) (fun c_41 => ?_)
              · refine lv_iconst (v := 1) hx hb dL_oldest_66 (by decide +kernel) ?_
                refine lv_goto (tgt := 71) hx hb dL_oldest_67 (by decide) ?_
                refine lv_istore (lv' := [(5, .int 1), (4, .int (zF w k_ 0)), (3, .int (nI r_)), (2, .int (zF w b_ 0)), (0, .ref (gM G 0)), (1, .int wr)]) hx hb dL_oldest_71 hl (by decide) rfl (fun ls hl => ?_)
                refine lv_iload hx hb dL_oldest_73 (lv_at hl 0 rfl) ?_
                refine lv_if_eq (tgt := 83) hx hb dL_oldest_75 (by decide) (fun c_75 => ?_) (fun c_75 => ?_)
                · exact absurd c_75 (by decide +kernel)
                refine lv_iload hx hb dL_oldest_78 (lv_at hl 1 rfl) ?_
                refine lv_goto (tgt := 84) hx hb dL_oldest_80 (by decide) ?_
                refine lv_istore_n (lv' := [(2, .int (zF w k_ 0)), (5, .int 1), (4, .int (zF w k_ 0)), (3, .int (nI r_)), (0, .ref (gM G 0)), (1, .int wr)]) hx hb dL_oldest_84 rfl hl (by decide) rfl (fun ls hl => ?_)
                refine lv_iinc (v := nI (r_ + 1)) (lv' := [(3, .int (nI (r_ + 1))), (2, .int (zF w k_ 0)), (5, .int 1), (4, .int (zF w k_ 0)), (0, .ref (gM G 0)), (1, .int wr)]) hx hb dL_oldest_85 hl (k := 3) rfl (z_inc1 r_) (by decide) rfl (fun ls hl => ?_)
                refine lv_goto (tgt := 5) hx hb dL_oldest_88 (by decide) ?_
                exact ih (r_ + 1) (zF w k_ 0) ls (by omega) (by omega) (lOi_new hk_ hs_ hrk_ hmb_ hkb_) (lv_sub hl [0, 1, 4, 5] rfl)
              · refine lv_aload_n hx hb dL_oldest_44 rfl (lv_at hl 3 rfl) ?_
                refine lv_iload hx hb dL_oldest_45 (lv_at hl 0 rfl) ?_
                refine lv_iconst (v := 3) hx hb dL_oldest_47 (by decide +kernel) ?_
                refine zc_se (va_runV (As := [.int (zF w k_ 0), .int 3]) (rest := []) ⟨hx, hb, hml, hown, hts⟩ (c_X7_of l V G Y hp hk f1 f2 np pd pa kd nu mo (zF w k_ 0) 3 hJ) (cwV 2 hts (zgVG_ uC_294 uG_12 uG_13 uG_14 (wsCG _ uC_25)) rfl rfl rfl (by decide +kernel) ⟨Nat.le_of_ble_eq_true rfl, Nat.le_of_ble_eq_true rfl⟩) (zPreV (B := fun H => zTP V G Y hp hk f1 f2 np pd pa kd nu mo H) hT hE (zT_rt hE hT)) rfl rfl hl.1 rfl (lv_room (Nat.le_of_ble_eq_true rfl)) dL_oldest_48 ⟨Nat.le_of_ble_eq_true rfl, Nat.le_of_ble_eq_true rfl⟩) ?_
                refine zt_i (y := w 6 - zF w k_ 4) (lo_3 hR hk_) ?_
                refine lv_aload_n hx hb dL_oldest_51 rfl (lv_at hl 3 rfl) ?_
                refine lv_iload_n hx hb dL_oldest_52 rfl (lv_at hl 2 rfl) ?_
                refine lv_iconst (v := 3) hx hb dL_oldest_53 (by decide +kernel) ?_
                refine zc_se (va_runV (As := [.int (zF w b_ 0), .int 3]) (rest := [.int (w 6 - zF w k_ 4)]) ⟨hx, hb, hml, hown, hts⟩ (c_X7_of l V G Y hp hk f1 f2 np pd pa kd nu mo (zF w b_ 0) 3 hJ) (cwV 2 hts (zgVG_ uC_294 uG_12 uG_13 uG_14 (wsCG _ uC_25)) rfl rfl rfl (by decide +kernel) ⟨Nat.le_of_ble_eq_true rfl, Nat.le_of_ble_eq_true rfl⟩) (zPreV (B := fun H => zTP V G Y hp hk f1 f2 np pd pa kd nu mo H) hT hE (zT_rt hE hT)) rfl rfl hl.1 rfl (lv_room (Nat.le_of_ble_eq_true rfl)) dL_oldest_54 ⟨Nat.le_of_ble_eq_true rfl, Nat.le_of_ble_eq_true rfl⟩) ?_
                refine zt_i (y := w 6 - zF w b_ 4) (lo_3 hR hb_) ?_
                refine lv_icmp_ne (tgt := 70) hx hb dL_oldest_57 (by decide) (fun c_57 => ?_) (fun c_57 => ?_)
                · exact ho_.elim (fun q => absurd q c_41) (fun q => absurd q.1 c_57)
                · refine lv_iload hx hb dL_oldest_60 (lv_at hl 0 rfl) ?_
                  refine lv_iload_n hx hb dL_oldest_62 rfl (lv_at hl 2 rfl) ?_
                  refine lv_icmp_ge (tgt := 70) hx hb dL_oldest_63 (by decide) (fun c_63 => ?_) (fun c_63 => ?_)
                  · exact ho_.elim (fun q => absurd q c_41) (fun q => absurd c_63 (z_lt' q.2))
                  · refine lv_iconst (v := 1) hx hb dL_oldest_66 (by decide +kernel) ?_
                    refine lv_goto (tgt := 71) hx hb dL_oldest_67 (by decide) ?_
                    refine lv_istore (lv' := [(5, .int 1), (4, .int (zF w k_ 0)), (3, .int (nI r_)), (2, .int (zF w b_ 0)), (0, .ref (gM G 0)), (1, .int wr)]) hx hb dL_oldest_71 hl (by decide) rfl (fun ls hl => ?_)
                    refine lv_iload hx hb dL_oldest_73 (lv_at hl 0 rfl) ?_
                    refine lv_if_eq (tgt := 83) hx hb dL_oldest_75 (by decide) (fun c_75 => ?_) (fun c_75 => ?_)
                    · exact absurd c_75 (by decide +kernel)
                    refine lv_iload hx hb dL_oldest_78 (lv_at hl 1 rfl) ?_
                    refine lv_goto (tgt := 84) hx hb dL_oldest_80 (by decide) ?_
                    refine lv_istore_n (lv' := [(2, .int (zF w k_ 0)), (5, .int 1), (4, .int (zF w k_ 0)), (3, .int (nI r_)), (0, .ref (gM G 0)), (1, .int wr)]) hx hb dL_oldest_84 rfl hl (by decide) rfl (fun ls hl => ?_)
                    refine lv_iinc (v := nI (r_ + 1)) (lv' := [(3, .int (nI (r_ + 1))), (2, .int (zF w k_ 0)), (5, .int 1), (4, .int (zF w k_ 0)), (0, .ref (gM G 0)), (1, .int wr)]) hx hb dL_oldest_85 hl (k := 3) rfl (z_inc1 r_) (by decide) rfl (fun ls hl => ?_)
                    refine lv_goto (tgt := 5) hx hb dL_oldest_88 (by decide) ?_
                    exact ih (r_ + 1) (zF w k_ 0) ls (by omega) (by omega) (lOi_new hk_ hs_ hrk_ hmb_ hkb_) (lv_sub hl [0, 1, 4, 5] rfl)
            · have ho_ := ho_.2 hkb_
              refine lv_aload_n hx hb dL_oldest_28 rfl (lv_at hl 3 rfl) ?_
              refine lv_iload hx hb dL_oldest_29 (lv_at hl 0 rfl) ?_
              refine lv_iconst (v := 3) hx hb dL_oldest_31 (by decide +kernel) ?_
              refine zc_se (va_runV (As := [.int (zF w k_ 0), .int 3]) (rest := []) ⟨hx, hb, hml, hown, hts⟩ (c_X7_of l V G Y hp hk f1 f2 np pd pa kd nu mo (zF w k_ 0) 3 hJ) (cwV 2 hts (zgVG_ uC_294 uG_12 uG_13 uG_14 (wsCG _ uC_25)) rfl rfl rfl (by decide +kernel) ⟨Nat.le_of_ble_eq_true rfl, Nat.le_of_ble_eq_true rfl⟩) (zPreV (B := fun H => zTP V G Y hp hk f1 f2 np pd pa kd nu mo H) hT hE (zT_rt hE hT)) rfl rfl hl.1 rfl (lv_room (Nat.le_of_ble_eq_true rfl)) dL_oldest_32 ⟨Nat.le_of_ble_eq_true rfl, Nat.le_of_ble_eq_true rfl⟩) ?_
              refine zt_i (y := w 6 - zF w k_ 4) (lo_3 hR hk_) ?_
              refine lv_aload_n hx hb dL_oldest_35 rfl (lv_at hl 3 rfl) ?_
              refine lv_iload_n hx hb dL_oldest_36 rfl (lv_at hl 2 rfl) ?_
              refine lv_iconst (v := 3) hx hb dL_oldest_37 (by decide +kernel) ?_
              refine zc_se (va_runV (As := [.int (zF w b_ 0), .int 3]) (rest := [.int (w 6 - zF w k_ 4)]) ⟨hx, hb, hml, hown, hts⟩ (c_X7_of l V G Y hp hk f1 f2 np pd pa kd nu mo (zF w b_ 0) 3 hJ) (cwV 2 hts (zgVG_ uC_294 uG_12 uG_13 uG_14 (wsCG _ uC_25)) rfl rfl rfl (by decide +kernel) ⟨Nat.le_of_ble_eq_true rfl, Nat.le_of_ble_eq_true rfl⟩) (zPreV (B := fun H => zTP V G Y hp hk f1 f2 np pd pa kd nu mo H) hT hE (zT_rt hE hT)) rfl rfl hl.1 rfl (lv_room (Nat.le_of_ble_eq_true rfl)) dL_oldest_38 ⟨Nat.le_of_ble_eq_true rfl, Nat.le_of_ble_eq_true rfl⟩) ?_
              refine zt_i (y := w 6 - zF w b_ 4) (lo_3 hR hb_) ?_
              refine lv_icmp_gt (tgt := 66) hx hb dL_oldest_41 (by decide) (fun c_41 => ?_) (fun c_41 => ?_)
              · exact absurd c_41 ho_.1
              · refine lv_aload_n hx hb dL_oldest_44 rfl (lv_at hl 3 rfl) ?_
                refine lv_iload hx hb dL_oldest_45 (lv_at hl 0 rfl) ?_
                refine lv_iconst (v := 3) hx hb dL_oldest_47 (by decide +kernel) ?_
                refine zc_se (va_runV (As := [.int (zF w k_ 0), .int 3]) (rest := []) ⟨hx, hb, hml, hown, hts⟩ (c_X7_of l V G Y hp hk f1 f2 np pd pa kd nu mo (zF w k_ 0) 3 hJ) (cwV 2 hts (zgVG_ uC_294 uG_12 uG_13 uG_14 (wsCG _ uC_25)) rfl rfl rfl (by decide +kernel) ⟨Nat.le_of_ble_eq_true rfl, Nat.le_of_ble_eq_true rfl⟩) (zPreV (B := fun H => zTP V G Y hp hk f1 f2 np pd pa kd nu mo H) hT hE (zT_rt hE hT)) rfl rfl hl.1 rfl (lv_room (Nat.le_of_ble_eq_true rfl)) dL_oldest_48 ⟨Nat.le_of_ble_eq_true rfl, Nat.le_of_ble_eq_true rfl⟩) ?_
                refine zt_i (y := w 6 - zF w k_ 4) (lo_3 hR hk_) ?_
                refine lv_aload_n hx hb dL_oldest_51 rfl (lv_at hl 3 rfl) ?_
                refine lv_iload_n hx hb dL_oldest_52 rfl (lv_at hl 2 rfl) ?_
                refine lv_iconst (v := 3) hx hb dL_oldest_53 (by decide +kernel) ?_
                refine zc_se (va_runV (As := [.int (zF w b_ 0), .int 3]) (rest := [.int (w 6 - zF w k_ 4)]) ⟨hx, hb, hml, hown, hts⟩ (c_X7_of l V G Y hp hk f1 f2 np pd pa kd nu mo (zF w b_ 0) 3 hJ) (cwV 2 hts (zgVG_ uC_294 uG_12 uG_13 uG_14 (wsCG _ uC_25)) rfl rfl rfl (by decide +kernel) ⟨Nat.le_of_ble_eq_true rfl, Nat.le_of_ble_eq_true rfl⟩) (zPreV (B := fun H => zTP V G Y hp hk f1 f2 np pd pa kd nu mo H) hT hE (zT_rt hE hT)) rfl rfl hl.1 rfl (lv_room (Nat.le_of_ble_eq_true rfl)) dL_oldest_54 ⟨Nat.le_of_ble_eq_true rfl, Nat.le_of_ble_eq_true rfl⟩) ?_
                refine zt_i (y := w 6 - zF w b_ 4) (lo_3 hR hb_) ?_
                refine lv_icmp_ne (tgt := 70) hx hb dL_oldest_57 (by decide) (fun c_57 => ?_) (fun c_57 => ?_)
                · refine lv_iconst (v := 0) hx hb dL_oldest_70 (by decide +kernel) ?_
                  refine lv_istore (lv' := [(5, .int 0), (4, .int (zF w k_ 0)), (3, .int (nI r_)), (2, .int (zF w b_ 0)), (0, .ref (gM G 0)), (1, .int wr)]) hx hb dL_oldest_71 hl (by decide) rfl (fun ls hl => ?_)
                  refine lv_iload hx hb dL_oldest_73 (lv_at hl 0 rfl) ?_
                  refine lv_if_eq (tgt := 83) hx hb dL_oldest_75 (by decide) (fun c_75 => ?_) (fun c_75 => ?_)
                  rotate_left
                  · exact absurd c_75 (by decide +kernel)
                  refine lv_iload_n hx hb dL_oldest_83 rfl (lv_at hl 3 rfl) ?_
                  refine lv_istore_n (lv' := [(2, .int (zF w b_ 0)), (5, .int 0), (4, .int (zF w k_ 0)), (3, .int (nI r_)), (0, .ref (gM G 0)), (1, .int wr)]) hx hb dL_oldest_84 rfl hl (by decide) rfl (fun ls hl => ?_)
                  refine lv_iinc (v := nI (r_ + 1)) (lv' := [(3, .int (nI (r_ + 1))), (2, .int (zF w b_ 0)), (5, .int 0), (4, .int (zF w k_ 0)), (0, .ref (gM G 0)), (1, .int wr)]) hx hb dL_oldest_85 hl (k := 3) rfl (z_inc1 r_) (by decide) rfl (fun ls hl => ?_)
                  refine lv_goto (tgt := 5) hx hb dL_oldest_88 (by decide) ?_
                  exact ih (r_ + 1) (zF w b_ 0) ls (by omega) (by omega) (lOi_keep hk_ hs_ hrk_ hb_ hsb_ hrb_ hmb_ hkb_) (lv_sub hl [0, 1, 4, 5] rfl)
                · refine lv_iload hx hb dL_oldest_60 (lv_at hl 0 rfl) ?_
                  refine lv_iload_n hx hb dL_oldest_62 rfl (lv_at hl 2 rfl) ?_
                  refine lv_icmp_ge (tgt := 70) hx hb dL_oldest_63 (by decide) (fun c_63 => ?_) (fun c_63 => ?_)
                  · refine lv_iconst (v := 0) hx hb dL_oldest_70 (by decide +kernel) ?_
                    refine lv_istore (lv' := [(5, .int 0), (4, .int (zF w k_ 0)), (3, .int (nI r_)), (2, .int (zF w b_ 0)), (0, .ref (gM G 0)), (1, .int wr)]) hx hb dL_oldest_71 hl (by decide) rfl (fun ls hl => ?_)
                    refine lv_iload hx hb dL_oldest_73 (lv_at hl 0 rfl) ?_
                    refine lv_if_eq (tgt := 83) hx hb dL_oldest_75 (by decide) (fun c_75 => ?_) (fun c_75 => ?_)
                    rotate_left
                    · exact absurd c_75 (by decide +kernel)
                    refine lv_iload_n hx hb dL_oldest_83 rfl (lv_at hl 3 rfl) ?_
                    refine lv_istore_n (lv' := [(2, .int (zF w b_ 0)), (5, .int 0), (4, .int (zF w k_ 0)), (3, .int (nI r_)), (0, .ref (gM G 0)), (1, .int wr)]) hx hb dL_oldest_84 rfl hl (by decide) rfl (fun ls hl => ?_)
                    refine lv_iinc (v := nI (r_ + 1)) (lv' := [(3, .int (nI (r_ + 1))), (2, .int (zF w b_ 0)), (5, .int 0), (4, .int (zF w k_ 0)), (0, .ref (gM G 0)), (1, .int wr)]) hx hb dL_oldest_85 hl (k := 3) rfl (z_inc1 r_) (by decide) rfl (fun ls hl => ?_)
                    refine lv_goto (tgt := 5) hx hb dL_oldest_88 (by decide) ?_
                    exact ih (r_ + 1) (zF w b_ 0) ls (by omega) (by omega) (lOi_keep hk_ hs_ hrk_ hb_ hsb_ hrb_ hmb_ hkb_) (lv_sub hl [0, 1, 4, 5] rfl)
                  · exact absurd (z_nle c_63) (ho_.2 c_57)
  exact L_5 (mMany w n wr + 1) 0 (-6) ls (by omega) (by omega) lOi_0 (lv_sub hl [0, 1, 2, 3] rfl)
