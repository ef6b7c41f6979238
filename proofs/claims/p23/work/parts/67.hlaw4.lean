/-- the minutes of the next one, as the law sums them -/
def lMt (w : Nat → Int32) (k : Nat) : Int32 := w 4 * mFar (zF w k 2) (w 9) + w 5 * zF w k 3
section LV
variable {A : zA} {w : Nat → Int32} {n N t k : Nat}
theorem lSpan (hR : Rep A w n N t) (hk : k < n) : mLast w k - zF w k 2 + 1 = zF w k 3 := by
  obtain ⟨d, m, h1, h2, h3, h4, h5, h6⟩ := lRep_dm hR hk
  rw [h6, h1, h2, pk_sub (by omega), nI_1]
  congr 1
  omega
theorem lMt_now (w : Nat → Int32) (k : Nat) : w 6 + lMt w k = mMinute w k := by
  unfold lMt mMinute
  rw [Int32.add_assoc]
theorem lMt_in (w : Nat → Int32) (k : Nat) : mMinute w k - w 6 = lMt w k := by
  rw [← lMt_now, Int32.add_comm]
  exact Int32.add_sub_cancel _ _
theorem lMt_age (w : Nat → Int32) (k : Nat) : w 6 - zF w k 4 + lMt w k = mMinute w k - zF w k 4 := by
  rw [← lMt_now, Int32.sub_eq_add_neg, Int32.sub_eq_add_neg, Int32.add_assoc, Int32.add_comm (-(zF w k 4)) (lMt w k), Int32.add_assoc]
theorem lB_no {a b : Int32} (h : ¬ 0 < a) : mBegin w n a b = w := if_pos (z_nlt h)
theorem lB_yes {a b : Int32} (h : 0 < a) : mBegin w n a b = upd (upd (upd (upd w 15 (if b = 1 then 0 else w 15 + (if 0 < mMany w n 1 then 1 else 0))) 13 (upd w 15 (if b = 1 then 0 else w 15 + (if 0 < mMany w n 1 then 1 else 0)) 13 + 1)) 14 0) 16 b := if_neg (z_lt' h)
theorem lB13 {a b : Int32} : w 13 + (if 0 < a then 1 else 0) = mBegin w n a b 13 := by
  by_cases h : 0 < a
  · rw [if_pos h, lB_yes h]; rfl
  · rw [if_neg h, lB_no h, Int32.add_zero]
theorem lB14_n {a b : Int32} (h : ¬ 0 < a) : w 14 + 1 = mBegin w n a b 14 + 1 := by rw [lB_no h]
theorem lB14_y {a b : Int32} (h : 0 < a) : (1 : Int32) = mBegin w n a b 14 + 1 := by rw [lB_yes h]; rfl
theorem lB15_n {a b : Int32} (h : ¬ 0 < a) : w 15 = mBegin w n a b 15 := by rw [lB_no h]
theorem lB15_w {a b : Int32} (h : 0 < a) (hb : b = 1) : (0 : Int32) = mBegin w n a b 15 := by
  rw [lB_yes h]
  show (0 : Int32) = (if b = 1 then 0 else _)
  rw [if_pos hb]
theorem lB15_y {a b : Int32} (h : 0 < a) (hb : ¬ b = 1) (hm : 0 < mMany w n 1) : w 15 + 1 = mBegin w n a b 15 := by
  rw [lB_yes h]
  show w 15 + 1 = (if b = 1 then 0 else w 15 + (if 0 < mMany w n 1 then 1 else 0))
  rw [if_neg hb, if_pos hm]
theorem lB15_o {a b : Int32} (h : 0 < a) (hb : ¬ b = 1) (hm : ¬ 0 < mMany w n 1) : w 15 = mBegin w n a b 15 := by
  rw [lB_yes h]
  show w 15 = (if b = 1 then 0 else w 15 + (if 0 < mMany w n 1 then 1 else 0))
  rw [if_neg hb, if_neg hm, Int32.add_zero]
/-- the sort of the batch behind a serving is that of the slip -/
theorem lB16 (hR : Rep A w n N t) (hlk : (mLook w n).2 = some k) (hk : k < n) : zF w k 1 = mBegin w n (mLook w n).1 (zF w k 1) 16 := by
  by_cases h : 0 < (mLook w n).1
  · rw [lB_yes h]; rfl
  · rw [lB_no h]
    rcases ho : lOn1 w n with _ | j
    · exfalso
      obtain ⟨k2, hk2, hs2, ho2⟩ := mOld_some (w := w) (n := n) (by omega) (fun k hk => lRep_wr hR hk)
      by_cases hp : w (zF w k2 1).toNatClampNeg ≤ w 6 - zF w k2 4
      · rw [lLook_old ho ho2 hp] at h; exact h (show (0 : Int32) < 1 by decide)
      · rcases hl : mLow w n (mNext w n) (w 9) with _ | j2
        · rw [lLook_3 ho ho2 hp hl] at h; exact h (show (0 : Int32) < 3 by decide)
        · rw [lLook_low ho ho2 hp hl] at h; exact h (show (0 : Int32) < 2 by decide)
    · rw [lLook_on ho] at hlk
      have e : j = k := Option.some.inj hlk
      subst e
      unfold lOn1 at ho
      split at ho
      · exact (of_decide_eq_true (zBest_lt ho).2).1
      · cases ho
end LV
set_option maxHeartbeats 4000000 in
set_option maxRecDepth 100000 in
theorem c_L_served (l : Launch) (V : zV) (G : Nat → Nat) (Y : Nat → zA) (hp hk : Nat) (f1 f2 : Int32) (np : Nat) (pd : Nat → Int32) (pa : Nat) (kd nu mo : Int32) (w : Nat → Int32) (n N t ac : Nat)  (hJ : zInj 404 G) (h : lJ Y hp hk w n N t ac) (hac : ac < 44) : Met l yL_served wsL_served (zR 6 0 0) (zPc V [.ref (gM G 0), .int (w 16)] (fun H => zTP V G Y hp hk f1 f2 np pd pa kd nu mo H)) (zQi (fun r H => ∃ (Y1 : Nat → zA) (hp1 hk1 : Nat) (w1 : Nat → Int32) (n1 N1 t1 : Nat), r = w1 16 ∧ zTP V G Y1 hp1 hk1 f1 f2 np pd pa kd nu mo H ∧ lJ Y1 hp1 hk1 w1 n1 N1 t1 (ac + 1) ∧ aS (Y1 0) + n1 = aS (Y 0) + n) (zIn 404 G)) 0 0 (zIn 404 G) := by
  refine Met.ofW (cc := cL_served) (maxL := 19) (ret := (some .int)) (by decide) rfl ?_
  intro p e s m args below meth c s₁ B hml hv
  obtain ⟨rfl, hP, hE⟩ := hv
  have hx := B.exec
  have hb := B.bytes
  have hr := B.returns
  have hts := atoms_spec (ws := wsL_served) B.pre
  have hown : s.vm.findClass RL = some m.cls := findClass_of_methodNamed B.named
  have hlocks := B.notSynchronized
  have hl := lv_entry ([.ref (gM G 0), .int (w 16)]) (n := 19) (Nat.le_of_ble_eq_true rfl)
  rw [lg_entry_eq]
  generalize (lg_sl ([.ref (gM G 0), .int (w 16)]) ++ List.replicate (19 - (lg_sl ([.ref (gM G 0), .int (w 16)])).length) Slot.unset).toArray = ls at hl ⊢
  have hl : lv_has ls 19 [(0, .ref (gM G 0)), (1, .int (w 16))] := hl
  have hT := hP
  have hR := h.R
  have hk6 := h.2.1
  have hc := lRep_c hR
  have h30 := hc.2.1
  have ht9 : t ≤ 90000 := by have h1_ := h.2.2.2.2.2.1; omega
  have hNa : N ≤ ac := h.2.2.2.2.2.2.1
  have htac := h.2.2.2.2.2.1
  have hm31 := lMany_le w n 1
  have hS : va_S (zIn 404 G) s.heap s.heap [] := va_S.rf
  refine lv_aload_n hx hb dL_served_0 rfl (lv_at hl 0 rfl) ?_
  refine lv_iload_n hx hb dL_served_1 rfl (lv_at hl 1 rfl) ?_
  refine zc_se (va_runS (As := [.ref (gM G 0), .int (w 16)]) (rest := []) ⟨hx, hb, hml, hown, hts⟩ (c_L_next l V G Y hp hk f1 f2 np pd pa kd nu mo w n N t ac hJ h) (va_cwS 2 hts (zgS_ wsG_all uG_17 uG_27 uG_28 uG_23) rfl rfl rfl (by decide +kernel) ⟨Nat.le_of_ble_eq_true rfl, Nat.le_of_ble_eq_true rfl⟩) (zPreS (B := fun H => zTP V G Y hp hk f1 f2 np pd pa kd nu mo H) hT hE) rfl rfl hl.1 rfl (lv_room (Nat.le_of_ble_eq_true rfl)) dL_served_2 ⟨Nat.le_of_ble_eq_true rfl, Nat.le_of_ble_eq_true rfl⟩) ?_
  refine lv_istore_n (lv' := [(2, .int (lNext w n)), (0, .ref (gM G 0)), (1, .int (w 16))]) hx hb dL_served_5 rfl hl (by decide) rfl (fun ls hl => ?_)
  by_cases hn0_ : n = 0
  · rw [show lNext w n = -6 from if_pos hn0_] at hl
    have hl : lv_has ls 19 [(2, .int (-6)), (0, .ref (gM G 0)), (1, .int (w 16))] := hl
    refine lv_iload_n hx hb dL_served_6 rfl (lv_at hl 0 rfl) ?_
    refine lv_if_ge (tgt := 33) hx hb dL_served_7 (by decide) (fun c_7 => ?_) (fun c_7 => ?_)
    · exact absurd c_7 (by decide)
    · refine lv_iload_n hx hb dL_served_10 rfl (lv_at hl 0 rfl) ?_
      refine lv_bipush (v := (-6)) hx hb dL_served_11 (by decide +kernel) ?_
      refine lv_icmp_ne (tgt := 30) hx hb dL_served_13 (by decide) (fun c_13 => ?_) (fun c_13 => ?_)
      · exact absurd rfl c_13
      · refine lv_aload_n hx hb dL_served_16 rfl (lv_at hl 1 rfl) ?_
        refine lv_iconst (v := 1) hx hb dL_served_17 (by decide +kernel) ?_
        refine zc_i (va_runV (As := [.int 1]) (rest := []) ⟨hx, hb, hml, hown, hts⟩ (c_X7_serve l V G Y hp hk f1 f2 np pd pa kd nu mo 1 hJ h.1 h.2.1 h.2.2.1 (rGood hR)) (cwV 1 hts (zgVG_ uC_287 uG_29 uG_30 uG_31 (wsCG _ uC_25)) rfl rfl rfl (by decide +kernel) ⟨Nat.le_of_ble_eq_true rfl, Nat.le_of_ble_eq_true rfl⟩) (zPreV (B := fun H => zTP V G Y hp hk f1 f2 np pd pa kd nu mo H) hT hE (zT_rt hE hT)) rfl rfl hl.1 rfl (lv_room (Nat.le_of_ble_eq_true rfl)) dL_served_18 ⟨Nat.le_of_ble_eq_true rfl, Nat.le_of_ble_eq_true rfl⟩) hS (fun _ q => q) (fun _ q => q) (fun r_ H_2 locs hQ_ _ hkp_ hS => ?_)
        obtain ⟨hr_, hT⟩ := hQ_
        subst hr_
        obtain ⟨e1_, e2_⟩ := lServe_no hR hn0_
        refine zt_i (y := (-5)) e1_ ?_
        have hj2_ : lJ (va_up (va_up (va_up Y (hp + 2) (Y 0)) 1 (kSrvT (Y 0) (Y 1) 1)) 0 (kSrvA (Y 0) 1)) (if 0 ≤ kSrvR (Y 0) 1 then (hp + 1) % 7 else hp) (if 0 ≤ kSrvR (Y 0) 1 then min (hk + 1) 6 else hk) w n N t (ac + 1) := lJ_up3 h (kSrvT_wf (h.wf 0 (by decide)) (h.wf 1 (by decide))) (show Rep (kSrvA (Y 0) 1) w n N t by rw [e2_]; exact hR) h.X (by omega) (by omega) (by omega) _
        have hsS2_ : aS ((va_up (va_up (va_up Y (hp + 2) (Y 0)) 1 (kSrvT (Y 0) (Y 1) 1)) 0 (kSrvA (Y 0) 1)) 0) + n = aS (Y 0) + n := by rw [zUp_s, e2_]
        generalize va_up (va_up (va_up Y (hp + 2) (Y 0)) 1 (kSrvT (Y 0) (Y 1) 1)) 0 (kSrvA (Y 0) 1) = Y2 at hT hj2_ hsS2_
        generalize (if 0 ≤ kSrvR (Y 0) 1 then (hp + 1) % 7 else hp) = hp2 at hT hj2_
        generalize (if 0 ≤ kSrvR (Y 0) 1 then min (hk + 1) 6 else hk) = hk2 at hT hj2_
        have hR2 := hj2_.R
        have hk62 := hj2_.2.1
        refine lv_bipush (v := (-5)) hx hb dL_served_21 (by decide +kernel) ?_
        refine lv_icmp_ne (tgt := 30) hx hb dL_served_23 (by decide) (fun c_23 => ?_) (fun c_23 => ?_)
        · exact absurd rfl c_23
        · refine lv_iload_n hx hb dL_served_26 rfl (lv_at hl 2 rfl) ?_
          refine lv_goto (tgt := 32) hx hb dL_served_27 (by decide) ?_
          exact zr_i hx hb hr hlocks hS (⟨Y2, hp2, hk2, w, n, N, t, rfl, hT, hj2_, hsS2_⟩) dL_served_32
  · have hn_ : 0 < n := by omega
    obtain ⟨hlk_, hk_⟩ := lk_some hR hn_
    have hke2_ := lDrop_none hR hn_
    obtain ⟨k_, hke_⟩ : ∃ z, lk w n = z := ⟨_, rfl⟩
    rw [hke_] at hlk_ hk_ hke2_
    rw [show lNext w n = zF w k_ 0 from (if_neg hn0_).trans (by rw [hke_])] at hl
    have hl : lv_has ls 19 [(2, .int (zF w k_ 0)), (0, .ref (gM G 0)), (1, .int (w 16))] := hl
    refine lv_iload_n hx hb dL_served_6 rfl (lv_at hl 0 rfl) ?_
    refine lv_if_ge (tgt := 33) hx hb dL_served_7 (by decide) (fun c_7 => ?_) (fun c_7 => ?_)
    · refine lv_aload_n hx hb dL_served_33 rfl (lv_at hl 1 rfl) ?_
      refine lv_iload_n hx hb dL_served_34 rfl (lv_at hl 0 rfl) ?_
      refine lv_iconst (v := 1) hx hb dL_served_35 (by decide +kernel) ?_
      refine zc_se (va_runV (As := [.int (zF w k_ 0), .int 1]) (rest := []) ⟨hx, hb, hml, hown, hts⟩ (c_X7_of l V G Y hp hk f1 f2 np pd pa kd nu mo (zF w k_ 0) 1 hJ) (cwV 2 hts (zgVG_ uC_294 uG_12 uG_13 uG_14 (wsCG _ uC_25)) rfl rfl rfl (by decide +kernel) ⟨Nat.le_of_ble_eq_true rfl, Nat.le_of_ble_eq_true rfl⟩) (zPreV (B := fun H => zTP V G Y hp hk f1 f2 np pd pa kd nu mo H) hT hE (zT_rt hE hT)) rfl rfl hl.1 rfl (lv_room (Nat.le_of_ble_eq_true rfl)) dL_served_36 ⟨Nat.le_of_ble_eq_true rfl, Nat.le_of_ble_eq_true rfl⟩) ?_
      refine zt_i (y := zF w k_ 2) (lo_1 hR hk_) ?_
      refine lv_istore_n (lv' := [(3, .int (zF w k_ 2)), (2, .int (zF w k_ 0)), (0, .ref (gM G 0)), (1, .int (w 16))]) hx hb dL_served_39 rfl hl (by decide) rfl (fun ls hl => ?_)
      refine lv_aload_n hx hb dL_served_40 rfl (lv_at hl 2 rfl) ?_
      refine lv_iload_n hx hb dL_served_41 rfl (lv_at hl 1 rfl) ?_
      refine lv_iconst (v := 2) hx hb dL_served_42 (by decide +kernel) ?_
      refine zc_se (va_runV (As := [.int (zF w k_ 0), .int 2]) (rest := []) ⟨hx, hb, hml, hown, hts⟩ (c_X7_of l V G Y hp hk f1 f2 np pd pa kd nu mo (zF w k_ 0) 2 hJ) (cwV 2 hts (zgVG_ uC_294 uG_12 uG_13 uG_14 (wsCG _ uC_25)) rfl rfl rfl (by decide +kernel) ⟨Nat.le_of_ble_eq_true rfl, Nat.le_of_ble_eq_true rfl⟩) (zPreV (B := fun H => zTP V G Y hp hk f1 f2 np pd pa kd nu mo H) hT hE (zT_rt hE hT)) rfl rfl hl.1 rfl (lv_room (Nat.le_of_ble_eq_true rfl)) dL_served_43 ⟨Nat.le_of_ble_eq_true rfl, Nat.le_of_ble_eq_true rfl⟩) ?_
      refine zt_i (y := mLast w k_) (lo_2 hR hk_) ?_
      refine lv_istore (lv' := [(4, .int (mLast w k_)), (3, .int (zF w k_ 2)), (2, .int (zF w k_ 0)), (0, .ref (gM G 0)), (1, .int (w 16))]) hx hb dL_served_46 hl (by decide) rfl (fun ls hl => ?_)
      refine lv_aload_n hx hb dL_served_48 rfl (lv_at hl 3 rfl) ?_
      refine lv_iload_n hx hb dL_served_49 rfl (lv_at hl 2 rfl) ?_
      refine lv_iconst (v := 3) hx hb dL_served_50 (by decide +kernel) ?_
      refine zc_se (va_runV (As := [.int (zF w k_ 0), .int 3]) (rest := []) ⟨hx, hb, hml, hown, hts⟩ (c_X7_of l V G Y hp hk f1 f2 np pd pa kd nu mo (zF w k_ 0) 3 hJ) (cwV 2 hts (zgVG_ uC_294 uG_12 uG_13 uG_14 (wsCG _ uC_25)) rfl rfl rfl (by decide +kernel) ⟨Nat.le_of_ble_eq_true rfl, Nat.le_of_ble_eq_true rfl⟩) (zPreV (B := fun H => zTP V G Y hp hk f1 f2 np pd pa kd nu mo H) hT hE (zT_rt hE hT)) rfl rfl hl.1 rfl (lv_room (Nat.le_of_ble_eq_true rfl)) dL_served_51 ⟨Nat.le_of_ble_eq_true rfl, Nat.le_of_ble_eq_true rfl⟩) ?_
      refine zt_i (y := w 6 - zF w k_ 4) (lo_3 hR hk_) ?_
      refine lv_istore (lv' := [(5, .int (w 6 - zF w k_ 4)), (4, .int (mLast w k_)), (3, .int (zF w k_ 2)), (2, .int (zF w k_ 0)), (0, .ref (gM G 0)), (1, .int (w 16))]) hx hb dL_served_54 hl (by decide) rfl (fun ls hl => ?_)
      refine lv_aload_n hx hb dL_served_56 rfl (lv_at hl 4 rfl) ?_
      refine lv_iload_n hx hb dL_served_57 rfl (lv_at hl 3 rfl) ?_
      refine lv_iconst (v := 0) hx hb dL_served_58 (by decide +kernel) ?_
      refine zc_se (va_runV (As := [.int (zF w k_ 0), .int 0]) (rest := []) ⟨hx, hb, hml, hown, hts⟩ (c_X7_of l V G Y hp hk f1 f2 np pd pa kd nu mo (zF w k_ 0) 0 hJ) (cwV 2 hts (zgVG_ uC_294 uG_12 uG_13 uG_14 (wsCG _ uC_25)) rfl rfl rfl (by decide +kernel) ⟨Nat.le_of_ble_eq_true rfl, Nat.le_of_ble_eq_true rfl⟩) (zPreV (B := fun H => zTP V G Y hp hk f1 f2 np pd pa kd nu mo H) hT hE (zT_rt hE hT)) rfl rfl hl.1 rfl (lv_room (Nat.le_of_ble_eq_true rfl)) dL_served_59 ⟨Nat.le_of_ble_eq_true rfl, Nat.le_of_ble_eq_true rfl⟩) ?_
      refine zt_i (y := zF w k_ 1) (lo_0 hR hk_) ?_
      refine lv_istore (lv' := [(6, .int (zF w k_ 1)), (5, .int (w 6 - zF w k_ 4)), (4, .int (mLast w k_)), (3, .int (zF w k_ 2)), (2, .int (zF w k_ 0)), (0, .ref (gM G 0)), (1, .int (w 16))]) hx hb dL_served_62 hl (by decide) rfl (fun ls hl => ?_)
      refine lv_iload_n hx hb dL_served_64 rfl (lv_at hl 3 rfl) ?_
      refine lv_aload_n hx hb dL_served_65 rfl (lv_at hl 5 rfl) ?_
      refine lv_iconst (v := 3) hx hb dL_served_66 (by decide +kernel) ?_
      refine zc_se (va_runV (As := [.int 3]) (rest := [.int (zF w k_ 2)]) ⟨hx, hb, hml, hown, hts⟩ (c_X7_count l V G Y hp hk f1 f2 np pd pa kd nu mo 3 hJ hk6) (cwV 1 hts (zgVG_ uC_307 uG_6 uG_7 uG_8 (wsCG _ uC_25)) rfl rfl rfl (by decide +kernel) ⟨Nat.le_of_ble_eq_true rfl, Nat.le_of_ble_eq_true rfl⟩) (zPreV (B := fun H => zTP V G Y hp hk f1 f2 np pd pa kd nu mo H) hT hE (zT_rt hE hT)) rfl rfl hl.1 rfl (lv_room (Nat.le_of_ble_eq_true rfl)) dL_served_67 ⟨Nat.le_of_ble_eq_true rfl, Nat.le_of_ble_eq_true rfl⟩) ?_
      refine zt_i (y := w 9) (lc_3 hR np hk) ?_
      refine zc_se (va_runS (As := [.int (zF w k_ 2), .int (w 9)]) (rest := []) ⟨hx, hb, hml, hown, hts⟩ (c_L_far l V (zF w k_ 2) (w 9)) (va_cwS 2 hts (zgS_ wsG_all uG_4 uG_32 uG_33 uG_23) rfl rfl rfl (by decide +kernel) ⟨Nat.le_of_ble_eq_true rfl, Nat.le_of_ble_eq_true rfl⟩) (zPreS (B := fun _ => True) trivial hE) rfl rfl hl.1 rfl (lv_room (Nat.le_of_ble_eq_true rfl)) dL_served_70 ⟨Nat.le_of_ble_eq_true rfl, Nat.le_of_ble_eq_true rfl⟩) ?_
      refine lv_istore (lv' := [(7, .int (mFar (zF w k_ 2) (w 9))), (6, .int (zF w k_ 1)), (5, .int (w 6 - zF w k_ 4)), (4, .int (mLast w k_)), (3, .int (zF w k_ 2)), (2, .int (zF w k_ 0)), (0, .ref (gM G 0)), (1, .int (w 16))]) hx hb dL_served_73 hl (by decide) rfl (fun ls hl => ?_)
      refine lv_aload_n hx hb dL_served_75 rfl (lv_at hl 6 rfl) ?_
      refine lv_bipush (v := 14) hx hb dL_served_76 (by decide +kernel) ?_
      refine zc_se (va_runV (As := [.int 14]) (rest := []) ⟨hx, hb, hml, hown, hts⟩ (c_X7_count l V G Y hp hk f1 f2 np pd pa kd nu mo 14 hJ hk6) (cwV 1 hts (zgVG_ uC_307 uG_6 uG_7 uG_8 (wsCG _ uC_25)) rfl rfl rfl (by decide +kernel) ⟨Nat.le_of_ble_eq_true rfl, Nat.le_of_ble_eq_true rfl⟩) (zPreV (B := fun H => zTP V G Y hp hk f1 f2 np pd pa kd nu mo H) hT hE (zT_rt hE hT)) rfl rfl hl.1 rfl (lv_room (Nat.le_of_ble_eq_true rfl)) dL_served_78 ⟨Nat.le_of_ble_eq_true rfl, Nat.le_of_ble_eq_true rfl⟩) ?_
      refine zt_i (y := w 4) (lc_14 hR np hk) ?_
      refine lv_iload hx hb dL_served_81 (lv_at hl 0 rfl) ?_
      refine lv_imul hx hb dL_served_83 ?_
      refine lv_aload_n hx hb dL_served_84 rfl (lv_at hl 6 rfl) ?_
      refine lv_bipush (v := 15) hx hb dL_served_85 (by decide +kernel) ?_
      refine zc_se (va_runV (As := [.int 15]) (rest := [.int ((w 4) * (mFar (zF w k_ 2) (w 9)))]) ⟨hx, hb, hml, hown, hts⟩ (c_X7_count l V G Y hp hk f1 f2 np pd pa kd nu mo 15 hJ hk6) (cwV 1 hts (zgVG_ uC_307 uG_6 uG_7 uG_8 (wsCG _ uC_25)) rfl rfl rfl (by decide +kernel) ⟨Nat.le_of_ble_eq_true rfl, Nat.le_of_ble_eq_true rfl⟩) (zPreV (B := fun H => zTP V G Y hp hk f1 f2 np pd pa kd nu mo H) hT hE (zT_rt hE hT)) rfl rfl hl.1 rfl (lv_room (Nat.le_of_ble_eq_true rfl)) dL_served_87 ⟨Nat.le_of_ble_eq_true rfl, Nat.le_of_ble_eq_true rfl⟩) ?_
      refine zt_i (y := w 5) (lc_15 hR np hk) ?_
      refine lv_iload hx hb dL_served_90 (lv_at hl 3 rfl) ?_
      refine lv_iload_n hx hb dL_served_92 rfl (lv_at hl 4 rfl) ?_
      refine lv_isub hx hb dL_served_93 ?_
      refine lv_iconst (v := 1) hx hb dL_served_94 (by decide +kernel) ?_
      refine lv_iadd hx hb dL_served_95 ?_
      refine zt_i (y := zF w k_ 3) (lSpan hR hk_) ?_
      refine lv_imul hx hb dL_served_96 ?_
      refine lv_iadd hx hb dL_served_97 ?_
      refine zt_i (y := lMt w k_) (rfl) ?_
      refine lv_istore (lv' := [(8, .int (lMt w k_)), (7, .int (mFar (zF w k_ 2) (w 9))), (6, .int (zF w k_ 1)), (5, .int (w 6 - zF w k_ 4)), (4, .int (mLast w k_)), (3, .int (zF w k_ 2)), (2, .int (zF w k_ 0)), (0, .ref (gM G 0)), (1, .int (w 16))]) hx hb dL_served_98 hl (by decide) rfl (fun ls hl => ?_)
      refine lv_aload_n hx hb dL_served_100 rfl (lv_at hl 7 rfl) ?_
      refine lv_iconst (v := 0) hx hb dL_served_101 (by decide +kernel) ?_
      refine zc_se (va_runV (As := [.int 0]) (rest := []) ⟨hx, hb, hml, hown, hts⟩ (c_X7_count l V G Y hp hk f1 f2 np pd pa kd nu mo 0 hJ hk6) (cwV 1 hts (zgVG_ uC_307 uG_6 uG_7 uG_8 (wsCG _ uC_25)) rfl rfl rfl (by decide +kernel) ⟨Nat.le_of_ble_eq_true rfl, Nat.le_of_ble_eq_true rfl⟩) (zPreV (B := fun H => zTP V G Y hp hk f1 f2 np pd pa kd nu mo H) hT hE (zT_rt hE hT)) rfl rfl hl.1 rfl (lv_room (Nat.le_of_ble_eq_true rfl)) dL_served_102 ⟨Nat.le_of_ble_eq_true rfl, Nat.le_of_ble_eq_true rfl⟩) ?_
      refine zt_i (y := w 6) (lc_0 hR np hk) ?_
      refine lv_istore (lv' := [(9, .int (w 6)), (8, .int (lMt w k_)), (7, .int (mFar (zF w k_ 2) (w 9))), (6, .int (zF w k_ 1)), (5, .int (w 6 - zF w k_ 4)), (4, .int (mLast w k_)), (3, .int (zF w k_ 2)), (2, .int (zF w k_ 0)), (0, .ref (gM G 0)), (1, .int (w 16))]) hx hb dL_served_105 hl (by decide) rfl (fun ls hl => ?_)
      refine lv_aload_n hx hb dL_served_107 rfl (lv_at hl 8 rfl) ?_
      refine lv_bipush (v := 6) hx hb dL_served_108 (by decide +kernel) ?_
      refine zc_se (va_runV (As := [.int 6]) (rest := []) ⟨hx, hb, hml, hown, hts⟩ (c_X7_count l V G Y hp hk f1 f2 np pd pa kd nu mo 6 hJ hk6) (cwV 1 hts (zgVG_ uC_307 uG_6 uG_7 uG_8 (wsCG _ uC_25)) rfl rfl rfl (by decide +kernel) ⟨Nat.le_of_ble_eq_true rfl, Nat.le_of_ble_eq_true rfl⟩) (zPreV (B := fun H => zTP V G Y hp hk f1 f2 np pd pa kd nu mo H) hT hE (zT_rt hE hT)) rfl rfl hl.1 rfl (lv_room (Nat.le_of_ble_eq_true rfl)) dL_served_110 ⟨Nat.le_of_ble_eq_true rfl, Nat.le_of_ble_eq_true rfl⟩) ?_
      refine zt_i (y := w 12) (lc_6 hR np hk) ?_
      refine lv_istore (lv' := [(10, .int (w 12)), (9, .int (w 6)), (8, .int (lMt w k_)), (7, .int (mFar (zF w k_ 2) (w 9))), (6, .int (zF w k_ 1)), (5, .int (w 6 - zF w k_ 4)), (4, .int (mLast w k_)), (3, .int (zF w k_ 2)), (2, .int (zF w k_ 0)), (0, .ref (gM G 0)), (1, .int (w 16))]) hx hb dL_served_113 hl (by decide) rfl (fun ls hl => ?_)
      refine lv_aload_n hx hb dL_served_115 rfl (lv_at hl 9 rfl) ?_
      refine lv_iconst (v := 4) hx hb dL_served_116 (by decide +kernel) ?_
      refine zc_se (va_runV (As := [.int 4]) (rest := []) ⟨hx, hb, hml, hown, hts⟩ (c_X7_count l V G Y hp hk f1 f2 np pd pa kd nu mo 4 hJ hk6) (cwV 1 hts (zgVG_ uC_307 uG_6 uG_7 uG_8 (wsCG _ uC_25)) rfl rfl rfl (by decide +kernel) ⟨Nat.le_of_ble_eq_true rfl, Nat.le_of_ble_eq_true rfl⟩) (zPreV (B := fun H => zTP V G Y hp hk f1 f2 np pd pa kd nu mo H) hT hE (zT_rt hE hT)) rfl rfl hl.1 rfl (lv_room (Nat.le_of_ble_eq_true rfl)) dL_served_117 ⟨Nat.le_of_ble_eq_true rfl, Nat.le_of_ble_eq_true rfl⟩) ?_
      refine zt_i (y := w 10) (lc_4 hR np hk) ?_
      refine lv_istore (lv' := [(11, .int (w 10)), (10, .int (w 12)), (9, .int (w 6)), (8, .int (lMt w k_)), (7, .int (mFar (zF w k_ 2) (w 9))), (6, .int (zF w k_ 1)), (5, .int (w 6 - zF w k_ 4)), (4, .int (mLast w k_)), (3, .int (zF w k_ 2)), (2, .int (zF w k_ 0)), (0, .ref (gM G 0)), (1, .int (w 16))]) hx hb dL_served_120 hl (by decide) rfl (fun ls hl => ?_)
      refine lv_aload_n hx hb dL_served_122 rfl (lv_at hl 10 rfl) ?_
      refine lv_iconst (v := 5) hx hb dL_served_123 (by decide +kernel) ?_
      refine zc_se (va_runV (As := [.int 5]) (rest := []) ⟨hx, hb, hml, hown, hts⟩ (c_X7_count l V G Y hp hk f1 f2 np pd pa kd nu mo 5 hJ hk6) (cwV 1 hts (zgVG_ uC_307 uG_6 uG_7 uG_8 (wsCG _ uC_25)) rfl rfl rfl (by decide +kernel) ⟨Nat.le_of_ble_eq_true rfl, Nat.le_of_ble_eq_true rfl⟩) (zPreV (B := fun H => zTP V G Y hp hk f1 f2 np pd pa kd nu mo H) hT hE (zT_rt hE hT)) rfl rfl hl.1 rfl (lv_room (Nat.le_of_ble_eq_true rfl)) dL_served_124 ⟨Nat.le_of_ble_eq_true rfl, Nat.le_of_ble_eq_true rfl⟩) ?_
      refine zt_i (y := w 11) (lc_5 hR np hk) ?_
      refine lv_istore (lv' := [(12, .int (w 11)), (11, .int (w 10)), (10, .int (w 12)), (9, .int (w 6)), (8, .int (lMt w k_)), (7, .int (mFar (zF w k_ 2) (w 9))), (6, .int (zF w k_ 1)), (5, .int (w 6 - zF w k_ 4)), (4, .int (mLast w k_)), (3, .int (zF w k_ 2)), (2, .int (zF w k_ 0)), (0, .ref (gM G 0)), (1, .int (w 16))]) hx hb dL_served_127 hl (by decide) rfl (fun ls hl => ?_)
      refine lv_aload_n hx hb dL_served_129 rfl (lv_at hl 11 rfl) ?_
      refine lv_bipush (v := 7) hx hb dL_served_130 (by decide +kernel) ?_
      refine zc_se (va_runV (As := [.int 7]) (rest := []) ⟨hx, hb, hml, hown, hts⟩ (c_X7_count l V G Y hp hk f1 f2 np pd pa kd nu mo 7 hJ hk6) (cwV 1 hts (zgVG_ uC_307 uG_6 uG_7 uG_8 (wsCG _ uC_25)) rfl rfl rfl (by decide +kernel) ⟨Nat.le_of_ble_eq_true rfl, Nat.le_of_ble_eq_true rfl⟩) (zPreV (B := fun H => zTP V G Y hp hk f1 f2 np pd pa kd nu mo H) hT hE (zT_rt hE hT)) rfl rfl hl.1 rfl (lv_room (Nat.le_of_ble_eq_true rfl)) dL_served_132 ⟨Nat.le_of_ble_eq_true rfl, Nat.le_of_ble_eq_true rfl⟩) ?_
      refine zt_i (y := w 13) (lc_7 hR np hk) ?_
      refine lv_istore (lv' := [(13, .int (w 13)), (12, .int (w 11)), (11, .int (w 10)), (10, .int (w 12)), (9, .int (w 6)), (8, .int (lMt w k_)), (7, .int (mFar (zF w k_ 2) (w 9))), (6, .int (zF w k_ 1)), (5, .int (w 6 - zF w k_ 4)), (4, .int (mLast w k_)), (3, .int (zF w k_ 2)), (2, .int (zF w k_ 0)), (0, .ref (gM G 0)), (1, .int (w 16))]) hx hb dL_served_135 hl (by decide) rfl (fun ls hl => ?_)
      refine lv_aload_n hx hb dL_served_137 rfl (lv_at hl 12 rfl) ?_
      refine lv_bipush (v := 8) hx hb dL_served_138 (by decide +kernel) ?_
      refine zc_se (va_runV (As := [.int 8]) (rest := []) ⟨hx, hb, hml, hown, hts⟩ (c_X7_count l V G Y hp hk f1 f2 np pd pa kd nu mo 8 hJ hk6) (cwV 1 hts (zgVG_ uC_307 uG_6 uG_7 uG_8 (wsCG _ uC_25)) rfl rfl rfl (by decide +kernel) ⟨Nat.le_of_ble_eq_true rfl, Nat.le_of_ble_eq_true rfl⟩) (zPreV (B := fun H => zTP V G Y hp hk f1 f2 np pd pa kd nu mo H) hT hE (zT_rt hE hT)) rfl rfl hl.1 rfl (lv_room (Nat.le_of_ble_eq_true rfl)) dL_served_140 ⟨Nat.le_of_ble_eq_true rfl, Nat.le_of_ble_eq_true rfl⟩) ?_
      refine zt_i (y := w 14) (lc_8 hR np hk) ?_
      refine lv_istore (lv' := [(14, .int (w 14)), (13, .int (w 13)), (12, .int (w 11)), (11, .int (w 10)), (10, .int (w 12)), (9, .int (w 6)), (8, .int (lMt w k_)), (7, .int (mFar (zF w k_ 2) (w 9))), (6, .int (zF w k_ 1)), (5, .int (w 6 - zF w k_ 4)), (4, .int (mLast w k_)), (3, .int (zF w k_ 2)), (2, .int (zF w k_ 0)), (0, .ref (gM G 0)), (1, .int (w 16))]) hx hb dL_served_143 hl (by decide) rfl (fun ls hl => ?_)
      refine lv_aload_n hx hb dL_served_145 rfl (lv_at hl 13 rfl) ?_
      refine lv_bipush (v := 9) hx hb dL_served_146 (by decide +kernel) ?_
      refine zc_se (va_runV (As := [.int 9]) (rest := []) ⟨hx, hb, hml, hown, hts⟩ (c_X7_count l V G Y hp hk f1 f2 np pd pa kd nu mo 9 hJ hk6) (cwV 1 hts (zgVG_ uC_307 uG_6 uG_7 uG_8 (wsCG _ uC_25)) rfl rfl rfl (by decide +kernel) ⟨Nat.le_of_ble_eq_true rfl, Nat.le_of_ble_eq_true rfl⟩) (zPreV (B := fun H => zTP V G Y hp hk f1 f2 np pd pa kd nu mo H) hT hE (zT_rt hE hT)) rfl rfl hl.1 rfl (lv_room (Nat.le_of_ble_eq_true rfl)) dL_served_148 ⟨Nat.le_of_ble_eq_true rfl, Nat.le_of_ble_eq_true rfl⟩) ?_
      refine zt_i (y := w 15) (lc_9 hR np hk) ?_
      refine lv_istore (lv' := [(15, .int (w 15)), (14, .int (w 14)), (13, .int (w 13)), (12, .int (w 11)), (11, .int (w 10)), (10, .int (w 12)), (9, .int (w 6)), (8, .int (lMt w k_)), (7, .int (mFar (zF w k_ 2) (w 9))), (6, .int (zF w k_ 1)), (5, .int (w 6 - zF w k_ 4)), (4, .int (mLast w k_)), (3, .int (zF w k_ 2)), (2, .int (zF w k_ 0)), (0, .ref (gM G 0)), (1, .int (w 16))]) hx hb dL_served_151 hl (by decide) rfl (fun ls hl => ?_)
      have J_166 : ∀ (ls : Array Slot), True → lv_has ls 19 [(15, .int (w 15)), (14, .int (w 14)), (13, .int (w 13)), (12, .int (w 11)), (11, .int (w 10)), (10, .int (w 12)), (9, .int (w 6)), (8, .int (lMt w k_)), (7, .int (mFar (zF w k_ 2) (w 9))), (6, .int (zF w k_ 1)), (5, .int (w 6 - zF w k_ 4)), (4, .int (mLast w k_)), (3, .int (zF w k_ 2)), (2, .int (zF w k_ 0)), (0, .ref (gM G 0)), (1, .int (w 16))] → W p l e (headSpec wsL_served (zR 6 0 0)).room s m (List.toArray [.ref (gM G 0), .int (w 16)]) below meth c s.heap [] 0 0 (MQ below (zQi (fun r H => ∃ (Y1 : Nat → zA) (hp1 hk1 : Nat) (w1 : Nat → Int32) (n1 N1 t1 : Nat), r = w1 16 ∧ zTP V G Y1 hp1 hk1 f1 f2 np pd pa kd nu mo H ∧ lJ Y1 hp1 hk1 w1 n1 N1 t1 (ac + 1) ∧ aS (Y1 0) + n1 = aS (Y 0) + n) (zIn 404 G)) (List.toArray [.ref (gM G 0), .int (w 16)]) s 0 0 (zIn 404 G)) (F0 m 166 ls [.int (if 0 < (mLook w n).1 then 1 else 0)]) := by
        intro   ls _   hl
        refine lv_istore (lv' := [(16, .int (if 0 < (mLook w n).1 then 1 else 0)), (15, .int (w 15)), (14, .int (w 14)), (13, .int (w 13)), (12, .int (w 11)), (11, .int (w 10)), (10, .int (w 12)), (9, .int (w 6)), (8, .int (lMt w k_)), (7, .int (mFar (zF w k_ 2) (w 9))), (6, .int (zF w k_ 1)), (5, .int (w 6 - zF w k_ 4)), (4, .int (mLast w k_)), (3, .int (zF w k_ 2)), (2, .int (zF w k_ 0)), (0, .ref (gM G 0)), (1, .int (w 16))]) hx hb dL_served_166 hl (by decide) rfl (fun ls hl => ?_)
        have J_181 : ∀ (ls : Array Slot), True → lv_has ls 19 [(16, .int (if 0 < (mLook w n).1 then 1 else 0)), (15, .int (w 15)), (14, .int (w 14)), (13, .int (w 13)), (12, .int (w 11)), (11, .int (w 10)), (10, .int (w 12)), (9, .int (w 6)), (8, .int (lMt w k_)), (7, .int (mFar (zF w k_ 2) (w 9))), (6, .int (zF w k_ 1)), (5, .int (w 6 - zF w k_ 4)), (4, .int (mLast w k_)), (3, .int (zF w k_ 2)), (2, .int (zF w k_ 0)), (0, .ref (gM G 0)), (1, .int (w 16))] → W p l e (headSpec wsL_served (zR 6 0 0)).room s m (List.toArray [.ref (gM G 0), .int (w 16)]) below meth c s.heap [] 0 0 (MQ below (zQi (fun r H => ∃ (Y1 : Nat → zA) (hp1 hk1 : Nat) (w1 : Nat → Int32) (n1 N1 t1 : Nat), r = w1 16 ∧ zTP V G Y1 hp1 hk1 f1 f2 np pd pa kd nu mo H ∧ lJ Y1 hp1 hk1 w1 n1 N1 t1 (ac + 1) ∧ aS (Y1 0) + n1 = aS (Y 0) + n) (zIn 404 G)) (List.toArray [.ref (gM G 0), .int (w 16)]) s 0 0 (zIn 404 G)) (F0 m 181 ls [.int (if 0 < mMany w n 1 then 1 else 0)]) := by
          intro   ls _   hl
          refine lv_istore (lv' := [(17, .int (if 0 < mMany w n 1 then 1 else 0)), (16, .int (if 0 < (mLook w n).1 then 1 else 0)), (15, .int (w 15)), (14, .int (w 14)), (13, .int (w 13)), (12, .int (w 11)), (11, .int (w 10)), (10, .int (w 12)), (9, .int (w 6)), (8, .int (lMt w k_)), (7, .int (mFar (zF w k_ 2) (w 9))), (6, .int (zF w k_ 1)), (5, .int (w 6 - zF w k_ 4)), (4, .int (mLast w k_)), (3, .int (zF w k_ 2)), (2, .int (zF w k_ 0)), (0, .ref (gM G 0)), (1, .int (w 16))]) hx hb dL_served_181 hl (by decide) rfl (fun ls hl => ?_)
          refine lv_aload_n hx hb dL_served_183 rfl (lv_at hl 16 rfl) ?_
          refine lv_iconst (v := 2) hx hb dL_served_184 (by decide +kernel) ?_
          refine zc_se (va_runV (As := [.int 2]) (rest := []) ⟨hx, hb, hml, hown, hts⟩ (c_X7_next l V G Y hp hk f1 f2 np pd pa kd nu mo 2 hJ) (cwV 1 hts (zgVG_ uC_310 uG_18 uG_19 uG_20 (wsCG _ uC_25)) rfl rfl rfl (by decide +kernel) ⟨Nat.le_of_ble_eq_true rfl, Nat.le_of_ble_eq_true rfl⟩) (zPreV (B := fun H => zTP V G Y hp hk f1 f2 np pd pa kd nu mo H) hT hE (zT_rt hE hT)) rfl rfl hl.1 rfl (lv_room (Nat.le_of_ble_eq_true rfl)) dL_served_185 ⟨Nat.le_of_ble_eq_true rfl, Nat.le_of_ble_eq_true rfl⟩) ?_
          refine zt_i (y := mMinute w k_) ((ln_2 hR hn_).trans (by rw [hke_])) ?_
          refine lv_iload hx hb dL_served_188 (lv_at hl 8 rfl) ?_
          refine lv_iload hx hb dL_served_190 (lv_at hl 9 rfl) ?_
          refine lv_iadd hx hb dL_served_192 ?_
          refine zt_i (y := mMinute w k_) (lMt_now _ _) ?_
          refine lv_icmp_ne (tgt := 225) hx hb dL_served_193 (by decide) (fun c_193 => ?_) (fun c_193 => ?_)
          · exact absurd rfl c_193
          · refine lv_aload_n hx hb dL_served_196 rfl (lv_at hl 16 rfl) ?_
            refine lv_iload_n hx hb dL_served_197 rfl (lv_at hl 15 rfl) ?_
            refine zc_i (va_runV (As := [.int (zF w k_ 0)]) (rest := []) ⟨hx, hb, hml, hown, hts⟩ (c_X7_servedIn l V G Y hp hk f1 f2 np pd pa kd nu mo (zF w k_ 0) hJ h.2.2.1 (rGood hR)) (cwV 1 hts (zgVG_ uC_311 uG_34 uG_35 uG_36 (wsCG _ uC_25)) rfl rfl rfl (by decide +kernel) ⟨Nat.le_of_ble_eq_true rfl, Nat.le_of_ble_eq_true rfl⟩) (zPreV (B := fun H => zTP V G Y hp hk f1 f2 np pd pa kd nu mo H) hT hE (zT_rt hE hT)) rfl rfl hl.1 rfl (lv_room (Nat.le_of_ble_eq_true rfl)) dL_served_198 ⟨Nat.le_of_ble_eq_true rfl, Nat.le_of_ble_eq_true rfl⟩) hS (fun _ q => q) (fun _ q => q) (fun r_ H_1 locs hQ_ _ hkp_ hS => ?_)
            obtain ⟨hr_, hT⟩ := hQ_
            subst hr_
            refine zt_i (y := lMt w k_) (by rw [← hke_, lsi hR hn_]; exact lMt_in _ _) ?_
            have hj_ : lJ (va_up Y 1 (kSIT (Y 0) (Y 1) (zF w k_ 0))) hp hk w n N t ac := lJ_trial h (kSIT_wf (h.wf 0 (by decide)) (h.wf 1 (by decide)))
            have hsS_ : aS ((va_up Y 1 (kSIT (Y 0) (Y 1) (zF w k_ 0))) 0) = aS (Y 0) := rfl
            generalize va_up Y 1 (kSIT (Y 0) (Y 1) (zF w k_ 0)) = Y1 at hT hj_ hsS_
            have hR1 := hj_.R
            refine lv_iload hx hb dL_served_201 (lv_at hl 9 rfl) ?_
            refine lv_icmp_ne (tgt := 225) hx hb dL_served_203 (by decide) (fun c_203 => ?_) (fun c_203 => ?_)
            · exact absurd rfl c_203
            · refine lv_aload_n hx hb dL_served_206 rfl (lv_at hl 16 rfl) ?_
              refine lv_iconst (v := 1) hx hb dL_served_207 (by decide +kernel) ?_
              refine zc_i (va_runV (As := [.int 1]) (rest := []) ⟨hx, hb, hml, hown, hts⟩ (c_X7_serve l V G Y1 hp hk f1 f2 np pd pa kd nu mo 1 hJ hj_.1 hj_.2.1 hj_.2.2.1 (rGood hR1)) (cwV 1 hts (zgVG_ uC_287 uG_29 uG_30 uG_31 (wsCG _ uC_25)) rfl rfl rfl (by decide +kernel) ⟨Nat.le_of_ble_eq_true rfl, Nat.le_of_ble_eq_true rfl⟩) (zPreV (B := fun H => zTP V G Y1 hp hk f1 f2 np pd pa kd nu mo H) hT hE (zT_rt hE hT)) rfl rfl hl.1 rfl (lv_room (Nat.le_of_ble_eq_true rfl)) dL_served_208 ⟨Nat.le_of_ble_eq_true rfl, Nat.le_of_ble_eq_true rfl⟩) hS (fun _ q => q) (fun _ q => q) (fun r_ H_2 locs hQ_ _ hkp_ hS => ?_)
              obtain ⟨hr_, hT⟩ := hQ_
              subst hr_
              obtain ⟨e1_, t1, hR2_, hX2_, ht1_, hS1_⟩ := lServe hR1 hj_.X hn_ ht9
              refine zt_i (y := 1) e1_ ?_
              have hc1_ := mServe_c hlk_
              have hg1_ := mServe_log hlk_ (j := 0) (by decide)
              generalize mServe w n = w1 at hR2_ hX2_ hc1_ hg1_ hke2_
              have hj2_ : lJ (va_up (va_up (va_up Y1 (hp + 2) (Y1 0)) 1 (kSrvT (Y1 0) (Y1 1) 1)) 0 (kSrvA (Y1 0) 1)) (if 0 ≤ kSrvR (Y1 0) 1 then (hp + 1) % 7 else hp) (if 0 ≤ kSrvR (Y1 0) 1 then min (hk + 1) 6 else hk) w1 (n - 1) N t1 (ac + 1) := lJ_up3 hj_ (kSrvT_wf (hj_.wf 0 (by decide)) (hj_.wf 1 (by decide))) hR2_ hX2_ (by omega) (by omega) (by omega) _
              have hsS2_ : aS ((va_up (va_up (va_up Y1 (hp + 2) (Y1 0)) 1 (kSrvT (Y1 0) (Y1 1) 1)) 0 (kSrvA (Y1 0) 1)) 0) + (n - 1) = aS (Y 0) + n := by rw [zUp_s, hS1_, hsS_]; omega
              have hsS3_ : 0 < aS ((va_up (va_up (va_up Y1 (hp + 2) (Y1 0)) 1 (kSrvT (Y1 0) (Y1 1) 1)) 0 (kSrvA (Y1 0) 1)) 0) := by rw [zUp_s, hS1_]; omega
              generalize va_up (va_up (va_up Y1 (hp + 2) (Y1 0)) 1 (kSrvT (Y1 0) (Y1 1) 1)) 0 (kSrvA (Y1 0) 1) = Y2 at hT hj2_ hsS2_ hsS3_
              generalize (if 0 ≤ kSrvR (Y1 0) 1 then (hp + 1) % 7 else hp) = hp2 at hT hj2_
              generalize (if 0 ≤ kSrvR (Y1 0) 1 then min (hk + 1) 6 else hk) = hk2 at hT hj2_
              have hR2 := hj2_.R
              have hk62 := hj2_.2.1
              obtain ⟨s05, s6, s8, s9, s10, s11, s12, s13, s14, s15, s16, s17⟩ := hc1_
              obtain ⟨g0_, g1_, g2_⟩ := hg1_
              refine lv_iconst (v := 1) hx hb dL_served_211 (by decide +kernel) ?_
              refine zb_ne (x := 1) (y := 1) (tgt := 225) hx hb dL_served_212 (by decide) (by omega) (by omega) (fun c_212 => ?_) (fun c_212 => ?_)
              · exact absurd rfl c_212
              · refine lv_aload_n hx hb dL_served_215 rfl (lv_at hl 16 rfl) ?_
                refine lv_iload_n hx hb dL_served_216 rfl (lv_at hl 15 rfl) ?_
                refine lv_iconst (v := 0) hx hb dL_served_217 (by decide +kernel) ?_
                refine zc_se (va_runV (As := [.int (zF w k_ 0), .int 0]) (rest := []) ⟨hx, hb, hml, hown, hts⟩ (c_X7_of l V G Y2 hp2 hk2 f1 f2 np pd pa kd nu mo (zF w k_ 0) 0 hJ) (cwV 2 hts (zgVG_ uC_294 uG_12 uG_13 uG_14 (wsCG _ uC_25)) rfl rfl rfl (by decide +kernel) ⟨Nat.le_of_ble_eq_true rfl, Nat.le_of_ble_eq_true rfl⟩) (zPreV (B := fun H => zTP V G Y2 hp2 hk2 f1 f2 np pd pa kd nu mo H) hT hE (zT_rt hE hT)) rfl rfl hl.1 rfl (lv_room (Nat.le_of_ble_eq_true rfl)) dL_served_218 ⟨Nat.le_of_ble_eq_true rfl, Nat.le_of_ble_eq_true rfl⟩) ?_
                refine zt_i (y := (-1)) (lOf_n hR2 hke2_ 0) ?_
                refine lv_iconst (v := (-1)) hx hb dL_served_221 (by decide +kernel) ?_
                refine lv_icmp_eq (tgt := 228) hx hb dL_served_222 (by decide) (fun c_222 => ?_) (fun c_222 => ?_)
                · refine lv_aload_n hx hb dL_served_228 rfl (lv_at hl 16 rfl) ?_
                  refine lv_iconst (v := 0) hx hb dL_served_229 (by decide +kernel) ?_
                  refine zc_se (va_runV (As := [.int 0]) (rest := []) ⟨hx, hb, hml, hown, hts⟩ (c_X7_count l V G Y2 hp2 hk2 f1 f2 np pd pa kd nu mo 0 hJ hk62) (cwV 1 hts (zgVG_ uC_307 uG_6 uG_7 uG_8 (wsCG _ uC_25)) rfl rfl rfl (by decide +kernel) ⟨Nat.le_of_ble_eq_true rfl, Nat.le_of_ble_eq_true rfl⟩) (zPreV (B := fun H => zTP V G Y2 hp2 hk2 f1 f2 np pd pa kd nu mo H) hT hE (zT_rt hE hT)) rfl rfl hl.1 rfl (lv_room (Nat.le_of_ble_eq_true rfl)) dL_served_230 ⟨Nat.le_of_ble_eq_true rfl, Nat.le_of_ble_eq_true rfl⟩) ?_
                  refine zt_i (y := mMinute w k_) ((lc_0 hR2 np hk2).trans s6) ?_
                  refine lv_iload hx hb dL_served_233 (lv_at hl 8 rfl) ?_
                  refine lv_iload hx hb dL_served_235 (lv_at hl 9 rfl) ?_
                  refine lv_iadd hx hb dL_served_237 ?_
                  refine zt_i (y := mMinute w k_) (lMt_now _ _) ?_
                  refine lv_icmp_ne (tgt := 295) hx hb dL_served_238 (by decide) (fun c_238 => ?_) (fun c_238 => ?_)
                  · exact absurd rfl c_238
                  · refine lv_aload_n hx hb dL_served_241 rfl (lv_at hl 16 rfl) ?_
                    refine lv_bipush (v := 6) hx hb dL_served_242 (by decide +kernel) ?_
                    refine zc_se (va_runV (As := [.int 6]) (rest := []) ⟨hx, hb, hml, hown, hts⟩ (c_X7_count l V G Y2 hp2 hk2 f1 f2 np pd pa kd nu mo 6 hJ hk62) (cwV 1 hts (zgVG_ uC_307 uG_6 uG_7 uG_8 (wsCG _ uC_25)) rfl rfl rfl (by decide +kernel) ⟨Nat.le_of_ble_eq_true rfl, Nat.le_of_ble_eq_true rfl⟩) (zPreV (B := fun H => zTP V G Y2 hp2 hk2 f1 f2 np pd pa kd nu mo H) hT hE (zT_rt hE hT)) rfl rfl hl.1 rfl (lv_room (Nat.le_of_ble_eq_true rfl)) dL_served_244 ⟨Nat.le_of_ble_eq_true rfl, Nat.le_of_ble_eq_true rfl⟩) ?_
                    refine zt_i (y := w 12 + mFar (zF w k_ 2) (w 9)) ((lc_6 hR2 np hk2).trans s12) ?_
                    refine lv_iload hx hb dL_served_247 (lv_at hl 7 rfl) ?_
                    refine lv_iload hx hb dL_served_249 (lv_at hl 10 rfl) ?_
                    refine lv_iadd hx hb dL_served_251 ?_
                    refine lv_icmp_ne (tgt := 295) hx hb dL_served_252 (by decide) (fun c_252 => ?_) (fun c_252 => ?_)
                    · exact absurd rfl c_252
                    · refine lv_aload_n hx hb dL_served_255 rfl (lv_at hl 16 rfl) ?_
                      refine lv_iconst (v := 4) hx hb dL_served_256 (by decide +kernel) ?_
                      refine zc_se (va_runV (As := [.int 4]) (rest := []) ⟨hx, hb, hml, hown, hts⟩ (c_X7_count l V G Y2 hp2 hk2 f1 f2 np pd pa kd nu mo 4 hJ hk62) (cwV 1 hts (zgVG_ uC_307 uG_6 uG_7 uG_8 (wsCG _ uC_25)) rfl rfl rfl (by decide +kernel) ⟨Nat.le_of_ble_eq_true rfl, Nat.le_of_ble_eq_true rfl⟩) (zPreV (B := fun H => zTP V G Y2 hp2 hk2 f1 f2 np pd pa kd nu mo H) hT hE (zT_rt hE hT)) rfl rfl hl.1 rfl (lv_room (Nat.le_of_ble_eq_true rfl)) dL_served_257 ⟨Nat.le_of_ble_eq_true rfl, Nat.le_of_ble_eq_true rfl⟩) ?_
                      refine zt_i (y := w 10 + 1) ((lc_4 hR2 np hk2).trans s10) ?_
                      refine lv_iload hx hb dL_served_260 (lv_at hl 6 rfl) ?_
                      refine lv_iconst (v := 1) hx hb dL_served_262 (by decide +kernel) ?_
                      refine lv_iadd hx hb dL_served_263 ?_
                      refine lv_icmp_ne (tgt := 295) hx hb dL_served_264 (by decide) (fun c_264 => ?_) (fun c_264 => ?_)
                      · exact absurd rfl c_264
                      · refine lv_aload_n hx hb dL_served_267 rfl (lv_at hl 16 rfl) ?_
                        refine lv_iconst (v := 3) hx hb dL_served_268 (by decide +kernel) ?_
                        refine zc_se (va_runV (As := [.int 3]) (rest := []) ⟨hx, hb, hml, hown, hts⟩ (c_X7_count l V G Y2 hp2 hk2 f1 f2 np pd pa kd nu mo 3 hJ hk62) (cwV 1 hts (zgVG_ uC_307 uG_6 uG_7 uG_8 (wsCG _ uC_25)) rfl rfl rfl (by decide +kernel) ⟨Nat.le_of_ble_eq_true rfl, Nat.le_of_ble_eq_true rfl⟩) (zPreV (B := fun H => zTP V G Y2 hp2 hk2 f1 f2 np pd pa kd nu mo H) hT hE (zT_rt hE hT)) rfl rfl hl.1 rfl (lv_room (Nat.le_of_ble_eq_true rfl)) dL_served_269 ⟨Nat.le_of_ble_eq_true rfl, Nat.le_of_ble_eq_true rfl⟩) ?_
                        refine zt_i (y := if mLast w k_ < 99 then mLast w k_ + 1 else 99) ((lc_3 hR2 np hk2).trans s9) ?_
                        have J_288 : ∀ (ls : Array Slot), True → lv_has ls 19 [(17, .int (if 0 < mMany w n 1 then 1 else 0)), (16, .int (if 0 < (mLook w n).1 then 1 else 0)), (15, .int (w 15)), (14, .int (w 14)), (13, .int (w 13)), (12, .int (w 11)), (11, .int (w 10)), (10, .int (w 12)), (9, .int (w 6)), (8, .int (lMt w k_)), (7, .int (mFar (zF w k_ 2) (w 9))), (6, .int (zF w k_ 1)), (5, .int (w 6 - zF w k_ 4)), (4, .int (mLast w k_)), (3, .int (zF w k_ 2)), (2, .int (zF w k_ 0)), (0, .ref (gM G 0)), (1, .int (w 16))] → W p l e (headSpec wsL_served (zR 6 0 0)).room s m (List.toArray [.ref (gM G 0), .int (w 16)]) below meth c H_2 locs (0 + 0 + 0) (0 + 0 + 0) (MQ below (zQi (fun r H => ∃ (Y1 : Nat → zA) (hp1 hk1 : Nat) (w1 : Nat → Int32) (n1 N1 t1 : Nat), r = w1 16 ∧ zTP V G Y1 hp1 hk1 f1 f2 np pd pa kd nu mo H ∧ lJ Y1 hp1 hk1 w1 n1 N1 t1 (ac + 1) ∧ aS (Y1 0) + n1 = aS (Y 0) + n) (zIn 404 G)) (List.toArray [.ref (gM G 0), .int (w 16)]) s 0 0 (zIn 404 G)) (F0 m 288 ls [.int (if mLast w k_ < 99 then mLast w k_ + 1 else 99), .int (if mLast w k_ < 99 then mLast w k_ + 1 else 99)]) := by
                          intro   ls _   hl
                          refine lv_icmp_ne (tgt := 295) hx hb dL_served_288 (by decide) (fun c_288 => ?_) (fun c_288 => ?_)
                          · exact absurd rfl c_288
                          · refine lv_iconst (v := 1) hx hb dL_served_291 (by decide +kernel) ?_
                            refine lv_goto (tgt := 296) hx hb dL_served_292 (by decide) ?_
                            refine lv_istore (lv' := [(18, .int 1), (17, .int (if 0 < mMany w n 1 then 1 else 0)), (16, .int (if 0 < (mLook w n).1 then 1 else 0)), (15, .int (w 15)), (14, .int (w 14)), (13, .int (w 13)), (12, .int (w 11)), (11, .int (w 10)), (10, .int (w 12)), (9, .int (w 6)), (8, .int (lMt w k_)), (7, .int (mFar (zF w k_ 2) (w 9))), (6, .int (zF w k_ 1)), (5, .int (w 6 - zF w k_ 4)), (4, .int (mLast w k_)), (3, .int (zF w k_ 2)), (2, .int (zF w k_ 0)), (0, .ref (gM G 0)), (1, .int (w 16))]) hx hb dL_served_296 hl (by decide) rfl (fun ls hl => ?_)
                            refine lv_iload hx hb dL_served_298 (lv_at hl 0 rfl) ?_
                            refine lv_if_eq (tgt := 370) hx hb dL_served_300 (by decide) (fun c_300 => ?_) (fun c_300 => ?_)
                            · exact absurd c_300 (by decide +kernel)
                            refine lv_aload_n hx hb dL_served_303 rfl (lv_at hl 17 rfl) ?_
                            refine lv_iconst (v := 0) hx hb dL_served_304 (by decide +kernel) ?_
                            refine lv_iconst (v := 0) hx hb dL_served_305 (by decide +kernel) ?_
                            refine zc_se (va_runV (As := [.int 0, .int 0]) (rest := []) ⟨hx, hb, hml, hown, hts⟩ (c_X7_log l V G Y2 hp2 hk2 f1 f2 np pd pa kd nu mo 0 0 hJ (by have h_ := lRep_c hR2; omega)) (cwV 2 hts (zgVG_ uC_298 uG_37 uG_38 uG_39 (wsCG _ uC_25)) rfl rfl rfl (by decide +kernel) ⟨Nat.le_of_ble_eq_true rfl, Nat.le_of_ble_eq_true rfl⟩) (zPreV (B := fun H => zTP V G Y2 hp2 hk2 f1 f2 np pd pa kd nu mo H) hT hE (zT_rt hE hT)) rfl rfl hl.1 rfl (lv_room (Nat.le_of_ble_eq_true rfl)) dL_served_306 ⟨Nat.le_of_ble_eq_true rfl, Nat.le_of_ble_eq_true rfl⟩) ?_
                            refine zt_i (y := zF w k_ 0) ((ll_0 hR2 hsS3_).trans (g0_.trans (if_pos rfl))) ?_
                            refine lv_iload_n hx hb dL_served_309 rfl (lv_at hl 16 rfl) ?_
                            refine lv_icmp_ne (tgt := 370) hx hb dL_served_310 (by decide) (fun c_310 => ?_) (fun c_310 => ?_)
                            · exact absurd rfl c_310
                            · refine lv_aload_n hx hb dL_served_313 rfl (lv_at hl 17 rfl) ?_
                              refine lv_iconst (v := 0) hx hb dL_served_314 (by decide +kernel) ?_
                              refine lv_iconst (v := 1) hx hb dL_served_315 (by decide +kernel) ?_
                              refine zc_se (va_runV (As := [.int 0, .int 1]) (rest := []) ⟨hx, hb, hml, hown, hts⟩ (c_X7_log l V G Y2 hp2 hk2 f1 f2 np pd pa kd nu mo 0 1 hJ (by have h_ := lRep_c hR2; omega)) (cwV 2 hts (zgVG_ uC_298 uG_37 uG_38 uG_39 (wsCG _ uC_25)) rfl rfl rfl (by decide +kernel) ⟨Nat.le_of_ble_eq_true rfl, Nat.le_of_ble_eq_true rfl⟩) (zPreV (B := fun H => zTP V G Y2 hp2 hk2 f1 f2 np pd pa kd nu mo H) hT hE (zT_rt hE hT)) rfl rfl hl.1 rfl (lv_room (Nat.le_of_ble_eq_true rfl)) dL_served_316 ⟨Nat.le_of_ble_eq_true rfl, Nat.le_of_ble_eq_true rfl⟩) ?_
                              refine zt_i (y := mMinute w k_ - zF w k_ 4) ((ll_1 hR2 hsS3_).trans (g1_.trans (if_pos rfl))) ?_
                              refine lv_iload hx hb dL_served_319 (lv_at hl 13 rfl) ?_
                              refine lv_iload hx hb dL_served_321 (lv_at hl 10 rfl) ?_
                              refine lv_iadd hx hb dL_served_323 ?_
                              refine zt_i (y := mMinute w k_ - zF w k_ 4) (lMt_age _ _) ?_
                              refine lv_icmp_ne (tgt := 370) hx hb dL_served_324 (by decide) (fun c_324 => ?_) (fun c_324 => ?_)
                              · exact absurd rfl c_324
                              · refine lv_aload_n hx hb dL_served_327 rfl (lv_at hl 17 rfl) ?_
                                refine lv_iconst (v := 0) hx hb dL_served_328 (by decide +kernel) ?_
                                refine lv_iconst (v := 2) hx hb dL_served_329 (by decide +kernel) ?_
                                refine zc_se (va_runV (As := [.int 0, .int 2]) (rest := []) ⟨hx, hb, hml, hown, hts⟩ (c_X7_log l V G Y2 hp2 hk2 f1 f2 np pd pa kd nu mo 0 2 hJ (by have h_ := lRep_c hR2; omega)) (cwV 2 hts (zgVG_ uC_298 uG_37 uG_38 uG_39 (wsCG _ uC_25)) rfl rfl rfl (by decide +kernel) ⟨Nat.le_of_ble_eq_true rfl, Nat.le_of_ble_eq_true rfl⟩) (zPreV (B := fun H => zTP V G Y2 hp2 hk2 f1 f2 np pd pa kd nu mo H) hT hE (zT_rt hE hT)) rfl rfl hl.1 rfl (lv_room (Nat.le_of_ble_eq_true rfl)) dL_served_330 ⟨Nat.le_of_ble_eq_true rfl, Nat.le_of_ble_eq_true rfl⟩) ?_
                                refine zt_i (y := zF w k_ 1) ((ll_2 hR2 hsS3_).trans (g2_.trans (if_pos rfl))) ?_
                                refine lv_iload hx hb dL_served_333 (lv_at hl 12 rfl) ?_
                                refine lv_icmp_ne (tgt := 370) hx hb dL_served_335 (by decide) (fun c_335 => ?_) (fun c_335 => ?_)
                                · exact absurd rfl c_335
                                · refine lv_aload_n hx hb dL_served_338 rfl (lv_at hl 17 rfl) ?_
                                  refine lv_iconst (v := 5) hx hb dL_served_339 (by decide +kernel) ?_
                                  refine zc_se (va_runV (As := [.int 5]) (rest := []) ⟨hx, hb, hml, hown, hts⟩ (c_X7_count l V G Y2 hp2 hk2 f1 f2 np pd pa kd nu mo 5 hJ hk62) (cwV 1 hts (zgVG_ uC_307 uG_6 uG_7 uG_8 (wsCG _ uC_25)) rfl rfl rfl (by decide +kernel) ⟨Nat.le_of_ble_eq_true rfl, Nat.le_of_ble_eq_true rfl⟩) (zPreV (B := fun H => zTP V G Y2 hp2 hk2 f1 f2 np pd pa kd nu mo H) hT hE (zT_rt hE hT)) rfl rfl hl.1 rfl (lv_room (Nat.le_of_ble_eq_true rfl)) dL_served_340 ⟨Nat.le_of_ble_eq_true rfl, Nat.le_of_ble_eq_true rfl⟩) ?_
                                  refine zt_i (y := if w 11 < mMinute w k_ - zF w k_ 4 then mMinute w k_ - zF w k_ 4 else w 11) ((lc_5 hR2 np hk2).trans s11) ?_
                                  have J_363 : ∀ (ls : Array Slot), True → lv_has ls 19 [(18, .int 1), (17, .int (if 0 < mMany w n 1 then 1 else 0)), (16, .int (if 0 < (mLook w n).1 then 1 else 0)), (15, .int (w 15)), (14, .int (w 14)), (13, .int (w 13)), (12, .int (w 11)), (11, .int (w 10)), (10, .int (w 12)), (9, .int (w 6)), (8, .int (lMt w k_)), (7, .int (mFar (zF w k_ 2) (w 9))), (6, .int (zF w k_ 1)), (5, .int (w 6 - zF w k_ 4)), (4, .int (mLast w k_)), (3, .int (zF w k_ 2)), (2, .int (zF w k_ 0)), (0, .ref (gM G 0)), (1, .int (w 16))] → W p l e (headSpec wsL_served (zR 6 0 0)).room s m (List.toArray [.ref (gM G 0), .int (w 16)]) below meth c H_2 locs (0 + 0 + 0) (0 + 0 + 0) (MQ below (zQi (fun r H => ∃ (Y1 : Nat → zA) (hp1 hk1 : Nat) (w1 : Nat → Int32) (n1 N1 t1 : Nat), r = w1 16 ∧ zTP V G Y1 hp1 hk1 f1 f2 np pd pa kd nu mo H ∧ lJ Y1 hp1 hk1 w1 n1 N1 t1 (ac + 1) ∧ aS (Y1 0) + n1 = aS (Y 0) + n) (zIn 404 G)) (List.toArray [.ref (gM G 0), .int (w 16)]) s 0 0 (zIn 404 G)) (F0 m 363 ls [.int (if w 11 < mMinute w k_ - zF w k_ 4 then mMinute w k_ - zF w k_ 4 else w 11), .int (if w 11 < mMinute w k_ - zF w k_ 4 then mMinute w k_ - zF w k_ 4 else w 11)]) := by
                                    intro   ls _   hl
                                    refine lv_icmp_ne (tgt := 370) hx hb dL_served_363 (by decide) (fun c_363 => ?_) (fun c_363 => ?_)
                                    · exact absurd rfl c_363
                                    · refine lv_iconst (v := 1) hx hb dL_served_366 (by decide +kernel) ?_
                                      refine lv_goto (tgt := 371) hx hb dL_served_367 (by decide) ?_
                                      refine lv_istore (lv' := [(18, .int 1), (17, .int (if 0 < mMany w n 1 then 1 else 0)), (16, .int (if 0 < (mLook w n).1 then 1 else 0)), (15, .int (w 15)), (14, .int (w 14)), (13, .int (w 13)), (12, .int (w 11)), (11, .int (w 10)), (10, .int (w 12)), (9, .int (w 6)), (8, .int (lMt w k_)), (7, .int (mFar (zF w k_ 2) (w 9))), (6, .int (zF w k_ 1)), (5, .int (w 6 - zF w k_ 4)), (4, .int (mLast w k_)), (3, .int (zF w k_ 2)), (2, .int (zF w k_ 0)), (0, .ref (gM G 0)), (1, .int (w 16))]) hx hb dL_served_371 hl (by decide) rfl (fun ls hl => ?_)
                                      refine lv_iload hx hb dL_served_373 (lv_at hl 0 rfl) ?_
                                      refine lv_if_eq (tgt := 426) hx hb dL_served_375 (by decide) (fun c_375 => ?_) (fun c_375 => ?_)
                                      · exact absurd c_375 (by decide +kernel)
                                      refine lv_aload_n hx hb dL_served_378 rfl (lv_at hl 17 rfl) ?_
                                      refine lv_bipush (v := 7) hx hb dL_served_379 (by decide +kernel) ?_
                                      refine zc_se (va_runV (As := [.int 7]) (rest := []) ⟨hx, hb, hml, hown, hts⟩ (c_X7_count l V G Y2 hp2 hk2 f1 f2 np pd pa kd nu mo 7 hJ hk62) (cwV 1 hts (zgVG_ uC_307 uG_6 uG_7 uG_8 (wsCG _ uC_25)) rfl rfl rfl (by decide +kernel) ⟨Nat.le_of_ble_eq_true rfl, Nat.le_of_ble_eq_true rfl⟩) (zPreV (B := fun H => zTP V G Y2 hp2 hk2 f1 f2 np pd pa kd nu mo H) hT hE (zT_rt hE hT)) rfl rfl hl.1 rfl (lv_room (Nat.le_of_ble_eq_true rfl)) dL_served_381 ⟨Nat.le_of_ble_eq_true rfl, Nat.le_of_ble_eq_true rfl⟩) ?_
                                      refine zt_i (y := mBegin w n (mLook w n).1 (zF w k_ 1) 13) ((lc_7 hR2 np hk2).trans s13) ?_
                                      refine lv_iload hx hb dL_served_384 (lv_at hl 5 rfl) ?_
                                      have J_396 : ∀ (ls : Array Slot), True → lv_has ls 19 [(18, .int 1), (17, .int (if 0 < mMany w n 1 then 1 else 0)), (16, .int (if 0 < (mLook w n).1 then 1 else 0)), (15, .int (w 15)), (14, .int (w 14)), (13, .int (w 13)), (12, .int (w 11)), (11, .int (w 10)), (10, .int (w 12)), (9, .int (w 6)), (8, .int (lMt w k_)), (7, .int (mFar (zF w k_ 2) (w 9))), (6, .int (zF w k_ 1)), (5, .int (w 6 - zF w k_ 4)), (4, .int (mLast w k_)), (3, .int (zF w k_ 2)), (2, .int (zF w k_ 0)), (0, .ref (gM G 0)), (1, .int (w 16))] → W p l e (headSpec wsL_served (zR 6 0 0)).room s m (List.toArray [.ref (gM G 0), .int (w 16)]) below meth c H_2 locs (0 + 0 + 0) (0 + 0 + 0) (MQ below (zQi (fun r H => ∃ (Y1 : Nat → zA) (hp1 hk1 : Nat) (w1 : Nat → Int32) (n1 N1 t1 : Nat), r = w1 16 ∧ zTP V G Y1 hp1 hk1 f1 f2 np pd pa kd nu mo H ∧ lJ Y1 hp1 hk1 w1 n1 N1 t1 (ac + 1) ∧ aS (Y1 0) + n1 = aS (Y 0) + n) (zIn 404 G)) (List.toArray [.ref (gM G 0), .int (w 16)]) s 0 0 (zIn 404 G)) (F0 m 396 ls [.int (if 0 < (mLook w n).1 then 1 else 0), .int (w 13), .int (mBegin w n (mLook w n).1 (zF w k_ 1) 13)]) := by
                                        intro   ls _   hl
                                        refine lv_iadd hx hb dL_served_396 ?_
                                        refine zt_i (y := mBegin w n (mLook w n).1 (zF w k_ 1) 13) (lB13) ?_
                                        refine lv_icmp_ne (tgt := 426) hx hb dL_served_397 (by decide) (fun c_397 => ?_) (fun c_397 => ?_)
                                        · exact absurd rfl c_397
                                        · refine lv_aload_n hx hb dL_served_400 rfl (lv_at hl 17 rfl) ?_
                                          refine lv_bipush (v := 8) hx hb dL_served_401 (by decide +kernel) ?_
                                          refine zc_se (va_runV (As := [.int 8]) (rest := []) ⟨hx, hb, hml, hown, hts⟩ (c_X7_count l V G Y2 hp2 hk2 f1 f2 np pd pa kd nu mo 8 hJ hk62) (cwV 1 hts (zgVG_ uC_307 uG_6 uG_7 uG_8 (wsCG _ uC_25)) rfl rfl rfl (by decide +kernel) ⟨Nat.le_of_ble_eq_true rfl, Nat.le_of_ble_eq_true rfl⟩) (zPreV (B := fun H => zTP V G Y2 hp2 hk2 f1 f2 np pd pa kd nu mo H) hT hE (zT_rt hE hT)) rfl rfl hl.1 rfl (lv_room (Nat.le_of_ble_eq_true rfl)) dL_served_403 ⟨Nat.le_of_ble_eq_true rfl, Nat.le_of_ble_eq_true rfl⟩) ?_
                                          refine zt_i (y := mBegin w n (mLook w n).1 (zF w k_ 1) 14 + 1) ((lc_8 hR2 np hk2).trans s14) ?_
                                          have J_419 : ∀ (ls : Array Slot), True → lv_has ls 19 [(18, .int 1), (17, .int (if 0 < mMany w n 1 then 1 else 0)), (16, .int (if 0 < (mLook w n).1 then 1 else 0)), (15, .int (w 15)), (14, .int (w 14)), (13, .int (w 13)), (12, .int (w 11)), (11, .int (w 10)), (10, .int (w 12)), (9, .int (w 6)), (8, .int (lMt w k_)), (7, .int (mFar (zF w k_ 2) (w 9))), (6, .int (zF w k_ 1)), (5, .int (w 6 - zF w k_ 4)), (4, .int (mLast w k_)), (3, .int (zF w k_ 2)), (2, .int (zF w k_ 0)), (0, .ref (gM G 0)), (1, .int (w 16))] → W p l e (headSpec wsL_served (zR 6 0 0)).room s m (List.toArray [.ref (gM G 0), .int (w 16)]) below meth c H_2 locs (0 + 0 + 0) (0 + 0 + 0) (MQ below (zQi (fun r H => ∃ (Y1 : Nat → zA) (hp1 hk1 : Nat) (w1 : Nat → Int32) (n1 N1 t1 : Nat), r = w1 16 ∧ zTP V G Y1 hp1 hk1 f1 f2 np pd pa kd nu mo H ∧ lJ Y1 hp1 hk1 w1 n1 N1 t1 (ac + 1) ∧ aS (Y1 0) + n1 = aS (Y 0) + n) (zIn 404 G)) (List.toArray [.ref (gM G 0), .int (w 16)]) s 0 0 (zIn 404 G)) (F0 m 419 ls [.int (mBegin w n (mLook w n).1 (zF w k_ 1) 14 + 1), .int (mBegin w n (mLook w n).1 (zF w k_ 1) 14 + 1)]) := by
                                            intro   ls _   hl
                                            refine lv_icmp_ne (tgt := 426) hx hb dL_served_419 (by decide) (fun c_419 => ?_) (fun c_419 => ?_)
                                            · exact absurd rfl c_419
                                            · refine lv_iconst (v := 1) hx hb dL_served_422 (by decide +kernel) ?_
                                              refine lv_goto (tgt := 427) hx hb dL_served_423 (by decide) ?_
                                              refine lv_istore (lv' := [(18, .int 1), (17, .int (if 0 < mMany w n 1 then 1 else 0)), (16, .int (if 0 < (mLook w n).1 then 1 else 0)), (15, .int (w 15)), (14, .int (w 14)), (13, .int (w 13)), (12, .int (w 11)), (11, .int (w 10)), (10, .int (w 12)), (9, .int (w 6)), (8, .int (lMt w k_)), (7, .int (mFar (zF w k_ 2) (w 9))), (6, .int (zF w k_ 1)), (5, .int (w 6 - zF w k_ 4)), (4, .int (mLast w k_)), (3, .int (zF w k_ 2)), (2, .int (zF w k_ 0)), (0, .ref (gM G 0)), (1, .int (w 16))]) hx hb dL_served_427 hl (by decide) rfl (fun ls hl => ?_)
                                              refine lv_iload hx hb dL_served_429 (lv_at hl 0 rfl) ?_
                                              refine lv_if_eq (tgt := 481) hx hb dL_served_431 (by decide) (fun c_431 => ?_) (fun c_431 => ?_)
                                              · exact absurd c_431 (by decide +kernel)
                                              refine lv_aload_n hx hb dL_served_434 rfl (lv_at hl 17 rfl) ?_
                                              refine lv_bipush (v := 9) hx hb dL_served_435 (by decide +kernel) ?_
                                              refine zc_se (va_runV (As := [.int 9]) (rest := []) ⟨hx, hb, hml, hown, hts⟩ (c_X7_count l V G Y2 hp2 hk2 f1 f2 np pd pa kd nu mo 9 hJ hk62) (cwV 1 hts (zgVG_ uC_307 uG_6 uG_7 uG_8 (wsCG _ uC_25)) rfl rfl rfl (by decide +kernel) ⟨Nat.le_of_ble_eq_true rfl, Nat.le_of_ble_eq_true rfl⟩) (zPreV (B := fun H => zTP V G Y2 hp2 hk2 f1 f2 np pd pa kd nu mo H) hT hE (zT_rt hE hT)) rfl rfl hl.1 rfl (lv_room (Nat.le_of_ble_eq_true rfl)) dL_served_437 ⟨Nat.le_of_ble_eq_true rfl, Nat.le_of_ble_eq_true rfl⟩) ?_
                                              refine zt_i (y := mBegin w n (mLook w n).1 (zF w k_ 1) 15) ((lc_9 hR2 np hk2).trans s15) ?_
                                              have J_474 : ∀ (ls : Array Slot), True → lv_has ls 19 [(18, .int 1), (17, .int (if 0 < mMany w n 1 then 1 else 0)), (16, .int (if 0 < (mLook w n).1 then 1 else 0)), (15, .int (w 15)), (14, .int (w 14)), (13, .int (w 13)), (12, .int (w 11)), (11, .int (w 10)), (10, .int (w 12)), (9, .int (w 6)), (8, .int (lMt w k_)), (7, .int (mFar (zF w k_ 2) (w 9))), (6, .int (zF w k_ 1)), (5, .int (w 6 - zF w k_ 4)), (4, .int (mLast w k_)), (3, .int (zF w k_ 2)), (2, .int (zF w k_ 0)), (0, .ref (gM G 0)), (1, .int (w 16))] → W p l e (headSpec wsL_served (zR 6 0 0)).room s m (List.toArray [.ref (gM G 0), .int (w 16)]) below meth c H_2 locs (0 + 0 + 0) (0 + 0 + 0) (MQ below (zQi (fun r H => ∃ (Y1 : Nat → zA) (hp1 hk1 : Nat) (w1 : Nat → Int32) (n1 N1 t1 : Nat), r = w1 16 ∧ zTP V G Y1 hp1 hk1 f1 f2 np pd pa kd nu mo H ∧ lJ Y1 hp1 hk1 w1 n1 N1 t1 (ac + 1) ∧ aS (Y1 0) + n1 = aS (Y 0) + n) (zIn 404 G)) (List.toArray [.ref (gM G 0), .int (w 16)]) s 0 0 (zIn 404 G)) (F0 m 474 ls [.int (mBegin w n (mLook w n).1 (zF w k_ 1) 15), .int (mBegin w n (mLook w n).1 (zF w k_ 1) 15)]) := by
                                                intro   ls _   hl
                                                refine lv_icmp_ne (tgt := 481) hx hb dL_served_474 (by decide) (fun c_474 => ?_) (fun c_474 => ?_)
                                                · exact absurd rfl c_474
                                                · refine lv_iconst (v := 1) hx hb dL_served_477 (by decide +kernel) ?_
                                                  refine lv_goto (tgt := 482) hx hb dL_served_478 (by decide) ?_
                                                  refine lv_istore (lv' := [(18, .int 1), (17, .int (if 0 < mMany w n 1 then 1 else 0)), (16, .int (if 0 < (mLook w n).1 then 1 else 0)), (15, .int (w 15)), (14, .int (w 14)), (13, .int (w 13)), (12, .int (w 11)), (11, .int (w 10)), (10, .int (w 12)), (9, .int (w 6)), (8, .int (lMt w k_)), (7, .int (mFar (zF w k_ 2) (w 9))), (6, .int (zF w k_ 1)), (5, .int (w 6 - zF w k_ 4)), (4, .int (mLast w k_)), (3, .int (zF w k_ 2)), (2, .int (zF w k_ 0)), (0, .ref (gM G 0)), (1, .int (w 16))]) hx hb dL_served_482 hl (by decide) rfl (fun ls hl => ?_)
                                                  refine lv_iload hx hb dL_served_484 (lv_at hl 0 rfl) ?_
                                                  refine lv_if_eq (tgt := 494) hx hb dL_served_486 (by decide) (fun c_486 => ?_) (fun c_486 => ?_)
                                                  · exact absurd c_486 (by decide +kernel)
                                                  refine lv_iload hx hb dL_served_489 (lv_at hl 12 rfl) ?_
                                                  refine lv_goto (tgt := 496) hx hb dL_served_491 (by decide) ?_
                                                  exact zr_i hx hb hr hlocks hS (⟨Y2, hp2, hk2, w1, n - 1, N, t1, (lB16 hR hlk_ hk_).trans s16.symm, hT, hj2_, hsS2_⟩) dL_served_496
                                              refine lv_iload hx hb dL_served_440 (lv_at hl 2 rfl) ?_
                                              refine zbp_ne (P := 0 < (mLook w n).1) (tgt := 450) hx hb dL_served_442 (by decide) (fun c_442 => ?_) (fun c_442 => ?_)
                                              · refine lv_iload hx hb dL_served_450 (lv_at hl 12 rfl) ?_
                                                refine lv_iconst (v := 1) hx hb dL_served_452 (by decide +kernel) ?_
                                                refine lv_icmp_ne (tgt := 460) hx hb dL_served_453 (by decide) (fun c_453 => ?_) (fun c_453 => ?_)
                                                · refine lv_iload hx hb dL_served_460 (lv_at hl 1 rfl) ?_
                                                  refine zbp_eq (P := 0 < mMany w n 1) (tgt := 472) hx hb dL_served_462 (by decide) (fun c_462 => ?_) (fun c_462 => ?_)
                                                  · refine lv_iload hx hb dL_served_472 (lv_at hl 3 rfl) ?_
                                                    refine zt_i (y := mBegin w n (mLook w n).1 (zF w k_ 1) 15) (lB15_o c_442 c_453 c_462) ?_
                                                    exact J_474 ls trivial (lv_sub hl [0, 1, 2, 3, 4, 5, 6, 7, 8, 9, 10, 11, 12, 13, 14, 15, 16, 17, 18] rfl)
                                                  · refine lv_iload hx hb dL_served_465 (lv_at hl 3 rfl) ?_
                                                    refine lv_iconst (v := 1) hx hb dL_served_467 (by decide +kernel) ?_
                                                    refine lv_iadd hx hb dL_served_468 ?_
                                                    refine lv_goto (tgt := 474) hx hb dL_served_469 (by decide) ?_
                                                    refine zt_i (y := mBegin w n (mLook w n).1 (zF w k_ 1) 15) (lB15_y c_442 c_453 c_462) ?_
                                                    exact J_474 ls trivial (lv_sub hl [0, 1, 2, 3, 4, 5, 6, 7, 8, 9, 10, 11, 12, 13, 14, 15, 16, 17, 18] rfl)
                                                · refine lv_iconst (v := 0) hx hb dL_served_456 (by decide +kernel) ?_
                                                  refine lv_goto (tgt := 474) hx hb dL_served_457 (by decide) ?_
                                                  refine zt_i (y := mBegin w n (mLook w n).1 (zF w k_ 1) 15) (lB15_w c_442 c_453) ?_
                                                  exact J_474 ls trivial (lv_sub hl [0, 1, 2, 3, 4, 5, 6, 7, 8, 9, 10, 11, 12, 13, 14, 15, 16, 17, 18] rfl)
                                              · refine lv_iload hx hb dL_served_445 (lv_at hl 3 rfl) ?_
                                                refine lv_goto (tgt := 474) hx hb dL_served_447 (by decide) ?_
                                                refine zt_i (y := mBegin w n (mLook w n).1 (zF w k_ 1) 15) (lB15_n c_442) ?_
                                                exact J_474 ls trivial (lv_sub hl [0, 1, 2, 3, 4, 5, 6, 7, 8, 9, 10, 11, 12, 13, 14, 15, 16, 17, 18] rfl)
                                          refine lv_iload hx hb dL_served_406 (lv_at hl 2 rfl) ?_
                                          refine zbp_eq (P := 0 < (mLook w n).1) (tgt := 415) hx hb dL_served_408 (by decide) (fun c_408 => ?_) (fun c_408 => ?_)
                                          · refine lv_iload hx hb dL_served_415 (lv_at hl 4 rfl) ?_
                                            refine lv_iconst (v := 1) hx hb dL_served_417 (by decide +kernel) ?_
                                            refine lv_iadd hx hb dL_served_418 ?_
                                            refine zt_i (y := mBegin w n (mLook w n).1 (zF w k_ 1) 14 + 1) (lB14_n c_408) ?_
                                            exact J_419 ls trivial (lv_sub hl [0, 1, 2, 3, 4, 5, 6, 7, 8, 9, 10, 11, 12, 13, 14, 15, 16, 17, 18] rfl)
                                          · refine lv_iconst (v := 1) hx hb dL_served_411 (by decide +kernel) ?_
                                            refine lv_goto (tgt := 419) hx hb dL_served_412 (by decide) ?_
                                            refine zt_i (y := mBegin w n (mLook w n).1 (zF w k_ 1) 14 + 1) (lB14_y c_408) ?_
                                            exact J_419 ls trivial (lv_sub hl [0, 1, 2, 3, 4, 5, 6, 7, 8, 9, 10, 11, 12, 13, 14, 15, 16, 17, 18] rfl)
                                      refine lv_iload hx hb dL_served_386 (lv_at hl 2 rfl) ?_
                                      refine zbp_eq (P := 0 < (mLook w n).1) (tgt := 395) hx hb dL_served_388 (by decide) (fun c_388 => ?_) (fun c_388 => ?_)
                                      · refine lv_iconst (v := 0) hx hb dL_served_395 (by decide +kernel) ?_
                                        refine zt_i (y := if 0 < (mLook w n).1 then 1 else 0) ((if_neg c_388).symm) ?_
                                        exact J_396 ls trivial (lv_sub hl [0, 1, 2, 3, 4, 5, 6, 7, 8, 9, 10, 11, 12, 13, 14, 15, 16, 17, 18] rfl)
                                      · refine lv_iconst (v := 1) hx hb dL_served_391 (by decide +kernel) ?_
                                        refine lv_goto (tgt := 396) hx hb dL_served_392 (by decide) ?_
                                        refine zt_i (y := if 0 < (mLook w n).1 then 1 else 0) ((if_pos c_388).symm) ?_
                                        exact J_396 ls trivial (lv_sub hl [0, 1, 2, 3, 4, 5, 6, 7, 8, 9, 10, 11, 12, 13, 14, 15, 16, 17, 18] rfl)
                                  refine lv_iload hx hb dL_served_343 (lv_at hl 13 rfl) ?_
                                  refine lv_iload hx hb dL_served_345 (lv_at hl 10 rfl) ?_
                                  refine lv_iadd hx hb dL_served_347 ?_
                                  refine zt_i (y := mMinute w k_ - zF w k_ 4) (lMt_age _ _) ?_
                                  refine lv_iload hx hb dL_served_348 (lv_at hl 6 rfl) ?_
                                  refine lv_icmp_le (tgt := 361) hx hb dL_served_350 (by decide) (fun c_350 => ?_) (fun c_350 => ?_)
                                  · refine lv_iload hx hb dL_served_361 (lv_at hl 6 rfl) ?_
                                    refine zt_i (y := if w 11 < mMinute w k_ - zF w k_ 4 then mMinute w k_ - zF w k_ 4 else w 11) ((if_neg (z_le' c_350)).symm) ?_
                                    exact J_363 ls trivial (lv_sub hl [0, 1, 2, 3, 4, 5, 6, 7, 8, 9, 10, 11, 12, 13, 14, 15, 16, 17, 18] rfl)
                                  · refine lv_iload hx hb dL_served_353 (lv_at hl 13 rfl) ?_
                                    refine lv_iload hx hb dL_served_355 (lv_at hl 10 rfl) ?_
                                    refine lv_iadd hx hb dL_served_357 ?_
                                    refine zt_i (y := mMinute w k_ - zF w k_ 4) (lMt_age _ _) ?_
                                    refine lv_goto (tgt := 363) hx hb dL_served_358 (by decide) ?_
                                    refine zt_i (y := if w 11 < mMinute w k_ - zF w k_ 4 then mMinute w k_ - zF w k_ 4 else w 11) ((if_pos (z_nle c_350)).symm) ?_
                                    exact J_363 ls trivial (lv_sub hl [0, 1, 2, 3, 4, 5, 6, 7, 8, 9, 10, 11, 12, 13, 14, 15, 16, 17, 18] rfl)
                        refine lv_iload hx hb dL_served_272 (lv_at hl 13 rfl) ?_
                        refine lv_bipush (v := 99) hx hb dL_served_274 (by decide +kernel) ?_
                        refine lv_icmp_ge (tgt := 286) hx hb dL_served_276 (by decide) (fun c_276 => ?_) (fun c_276 => ?_)
                        · refine lv_bipush (v := 99) hx hb dL_served_286 (by decide +kernel) ?_
                          refine zt_i (y := if mLast w k_ < 99 then mLast w k_ + 1 else 99) ((if_neg (z_le' c_276)).symm) ?_
                          exact J_288 ls trivial (lv_sub hl [0, 1, 2, 3, 4, 5, 6, 7, 8, 9, 10, 11, 12, 13, 14, 15, 16, 17] rfl)
                        · refine lv_iload hx hb dL_served_279 (lv_at hl 13 rfl) ?_
                          refine lv_iconst (v := 1) hx hb dL_served_281 (by decide +kernel) ?_
                          refine lv_iadd hx hb dL_served_282 ?_
                          refine lv_goto (tgt := 288) hx hb dL_served_283 (by decide) ?_
                          refine zt_i (y := if mLast w k_ < 99 then mLast w k_ + 1 else 99) ((if_pos (z_nle c_276)).symm) ?_
                          exact J_288 ls trivial (lv_sub hl [0, 1, 2, 3, 4, 5, 6, 7, 8, 9, 10, 11, 12, 13, 14, 15, 16, 17] rfl)
                · exact absurd rfl c_222
        refine lv_aload_n hx hb dL_served_168 rfl (lv_at hl 15 rfl) ?_
        refine lv_iconst (v := 2) hx hb dL_served_169 (by decide +kernel) ?_
        refine zc_se (va_runV (As := [.int 2]) (rest := []) ⟨hx, hb, hml, hown, hts⟩ (c_X7_count l V G Y hp hk f1 f2 np pd pa kd nu mo 2 hJ hk6) (cwV 1 hts (zgVG_ uC_307 uG_6 uG_7 uG_8 (wsCG _ uC_25)) rfl rfl rfl (by decide +kernel) ⟨Nat.le_of_ble_eq_true rfl, Nat.le_of_ble_eq_true rfl⟩) (zPreV (B := fun H => zTP V G Y hp hk f1 f2 np pd pa kd nu mo H) hT hE (zT_rt hE hT)) rfl rfl hl.1 rfl (lv_room (Nat.le_of_ble_eq_true rfl)) dL_served_170 ⟨Nat.le_of_ble_eq_true rfl, Nat.le_of_ble_eq_true rfl⟩) ?_
        refine zt_i (y := nI (mMany w n 1)) (lc_2 hR np hk) ?_
        refine zb0_le (x := mMany w n 1) (tgt := 180) hx hb dL_served_173 (by decide) (by omega) (fun c_173 => ?_) (fun c_173 => ?_)
        · refine lv_iconst (v := 0) hx hb dL_served_180 (by decide +kernel) ?_
          refine zt_i (y := if 0 < mMany w n 1 then 1 else 0) ((if_neg (by omega)).symm) ?_
          exact J_181 ls trivial (lv_sub hl [0, 1, 2, 3, 4, 5, 6, 7, 8, 9, 10, 11, 12, 13, 14, 15, 16] rfl)
        · refine lv_iconst (v := 1) hx hb dL_served_176 (by decide +kernel) ?_
          refine lv_goto (tgt := 181) hx hb dL_served_177 (by decide) ?_
          refine zt_i (y := if 0 < mMany w n 1 then 1 else 0) ((if_pos c_173).symm) ?_
          exact J_181 ls trivial (lv_sub hl [0, 1, 2, 3, 4, 5, 6, 7, 8, 9, 10, 11, 12, 13, 14, 15, 16] rfl)
      refine lv_aload_n hx hb dL_served_153 rfl (lv_at hl 14 rfl) ?_
      refine lv_iconst (v := 1) hx hb dL_served_154 (by decide +kernel) ?_
      refine zc_se (va_runV (As := [.int 1]) (rest := []) ⟨hx, hb, hml, hown, hts⟩ (c_X7_next l V G Y hp hk f1 f2 np pd pa kd nu mo 1 hJ) (cwV 1 hts (zgVG_ uC_310 uG_18 uG_19 uG_20 (wsCG _ uC_25)) rfl rfl rfl (by decide +kernel) ⟨Nat.le_of_ble_eq_true rfl, Nat.le_of_ble_eq_true rfl⟩) (zPreV (B := fun H => zTP V G Y hp hk f1 f2 np pd pa kd nu mo H) hT hE (zT_rt hE hT)) rfl rfl hl.1 rfl (lv_room (Nat.le_of_ble_eq_true rfl)) dL_served_155 ⟨Nat.le_of_ble_eq_true rfl, Nat.le_of_ble_eq_true rfl⟩) ?_
      refine zt_i (y := (mLook w n).1) (ln_1 hR hn_) ?_
      refine lv_if_le (tgt := 165) hx hb dL_served_158 (by decide) (fun c_158 => ?_) (fun c_158 => ?_)
      · refine lv_iconst (v := 0) hx hb dL_served_165 (by decide +kernel) ?_
        refine zt_i (y := if 0 < (mLook w n).1 then 1 else 0) ((if_neg (z_le' c_158)).symm) ?_
        exact J_166 ls trivial (lv_sub hl [0, 1, 2, 3, 4, 5, 6, 7, 8, 9, 10, 11, 12, 13, 14, 15] rfl)
      · refine lv_iconst (v := 1) hx hb dL_served_161 (by decide +kernel) ?_
        refine lv_goto (tgt := 166) hx hb dL_served_162 (by decide) ?_
        refine zt_i (y := if 0 < (mLook w n).1 then 1 else 0) ((if_pos (z_nle c_158)).symm) ?_
        exact J_166 ls trivial (lv_sub hl [0, 1, 2, 3, 4, 5, 6, 7, 8, 9, 10, 11, 12, 13, 14, 15] rfl)
    · exact absurd (h.X.1 k_ hk_).1 c_7
