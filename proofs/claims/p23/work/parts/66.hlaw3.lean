/-- the partner, if the slip fits -/
def lPt (w : Nat → Int32) (n : Nat) (wr : Int32) (dd mm : Nat) : Option Nat := if dd + mm ≤ 100 then mPart w n wr (nI dd) (nI mm) else none
section LQ
variable {A : zA} {w : Nat → Int32} {n N t k b r dd mm : Nat} {wr x d m : Int32}
theorem lPt_end (hr : mMany w n wr ≤ r) (h1 : lPi w n wr (nI dd) (nI mm) r x) (h2 : dd + mm ≤ 100 ∨ x = -6) : x = lNo w (lPt w n wr dd mm) := by
  unfold lPt
  by_cases h : dd + mm ≤ 100
  · rw [if_pos h]; exact lPi_end hr h1
  · rw [if_neg h]; exact h2.resolve_left h
theorem lPt_big (h : 100 < dd + mm) (h2 : dd + mm ≤ 100 ∨ x = -6) : x = lNo w (lPt w n wr dd mm) := by
  unfold lPt
  rw [if_neg (by omega)]
  exact h2.resolve_left (by omega)
theorem lNum_lt (hO : rO w n) (hk : k < n) (h : zF w k 0 < zF w b 0) : k < b := by
  rcases Nat.lt_trichotomy k b with g | g | g
  · exact g
  · rw [g, zi_lt] at h; omega
  · have := (hO b k g hk).1; rw [zi_lt] at h this; omega
theorem lFits (hwr : wr = 0 ∨ wr = 1) (hd : dd ≤ 99) (h1 : 1 ≤ mm) (h9 : mm ≤ 9) (h : dd + mm ≤ 100) : mSlip wr (nI dd) (nI mm) :=
  ⟨(z_wr wr).mp hwr, ⟨nI_pos' (by omega), nI_le (b := 99) hd (by decide)⟩, ⟨nI_le (a := 1) h1 (by omega), nI_le (b := 9) h9 (by decide)⟩, by rw [nI_add]; exact nI_le (b := 100) h (by decide)⟩
theorem lFits_no (hd : dd ≤ 99) (h9 : mm ≤ 9) (h : 100 < dd + mm) : ¬ mSlip wr (nI dd) (nI mm) := fun q => by
  have q4 := q.2.2.2
  rw [nI_add] at q4
  exact z_lt' (nI_lt (a := 100) h (by omega)) q4
theorem lJoin (hR : Rep A w n N t) (hs : mSlip wr d m) : uJoined A wr d m = lNo w (mPart w n wr d m) := by
  rw [qJoined hR]
  unfold mJoined
  rw [if_pos hs]
  cases mPart w n wr d m <;> rfl
theorem lJoin_no (hR : Rep A w n N t) (hs : ¬ mSlip wr d m) : uJoined A wr d m = -2 := by
  rw [qJoined hR]
  exact if_neg hs
end LQ
set_option maxHeartbeats 4000000 in
set_option maxRecDepth 100000 in
theorem c_L_comes (l : Launch) (V : zV) (G : Nat → Nat) (Y : Nat → zA) (hp hk : Nat) (f1 f2 : Int32) (np : Nat) (pd : Nat → Int32) (pa : Nat) (kd nu mo : Int32) (w : Nat → Int32) (n N t ac : Nat) (wr : Int32) (dd mm : Nat) (hJ : zInj 404 G) (h : lJ Y hp hk w n N t ac) (hwr : wr = 0 ∨ wr = 1) (hd : dd ≤ 99) (hm1 : 1 ≤ mm) (hm9 : mm ≤ 9) (hac : ac < 44) : Met l yL_comes wsL_comes (zR 5 0 0) (zPc V [.ref (gM G 0), .int wr, .int (nI dd), .int (nI mm)] (fun H => zTP V G Y hp hk f1 f2 np pd pa kd nu mo H)) (zQi (fun r H => r = 1 ∧ ∃ (Y1 : Nat → zA) (hp1 hk1 : Nat) (w1 : Nat → Int32) (n1 N1 : Nat), zTP V G Y1 hp1 hk1 f1 f2 np pd pa kd nu mo H ∧ lJ Y1 hp1 hk1 w1 n1 N1 t (ac + 1) ∧ aS (Y1 0) = aS (Y 0) ∧ w1 16 = w 16) (zIn 404 G)) 0 0 (zIn 404 G) := by
  refine Met.ofW (cc := cL_comes) (maxL := 9) (ret := (some .boolean)) (by decide) rfl ?_
  intro p e s m args below meth c s₁ B hml hv
  obtain ⟨rfl, hP, hE⟩ := hv
  have hx := B.exec
  have hb := B.bytes
  have hr := B.returns
  have hts := atoms_spec (ws := wsL_comes) B.pre
  have hown : s.vm.findClass RL = some m.cls := findClass_of_methodNamed B.named
  have hlocks := B.notSynchronized
  have hl := lv_entry ([.ref (gM G 0), .int wr, .int (nI dd), .int (nI mm)]) (n := 9) (Nat.le_of_ble_eq_true rfl)
  rw [lg_entry_eq]
  generalize (lg_sl ([.ref (gM G 0), .int wr, .int (nI dd), .int (nI mm)]) ++ List.replicate (9 - (lg_sl ([.ref (gM G 0), .int wr, .int (nI dd), .int (nI mm)])).length) Slot.unset).toArray = ls at hl ⊢
  have hl : lv_has ls 9 [(0, .ref (gM G 0)), (1, .int wr), (2, .int (nI dd)), (3, .int (nI mm))] := hl
  have hT := hP
  have hR := h.R
  have hk6 := h.2.1
  have hc := lRep_c hR
  have h30 := hc.2.1
  have hm30 := lMany_le w n wr
  have hsum := rMany (lRep_I hR)
  have ht9 : t ≤ 99999 := by have h1_ := h.2.2.2.2.2.1; omega
  have hNa : N ≤ ac := h.2.2.2.2.2.2.1
  have htac := h.2.2.2.2.2.1
  have hS : va_S (zIn 404 G) s.heap s.heap [] := va_S.rf
  refine lv_bipush (v := (-6)) hx hb dL_comes_0 (by decide +kernel) ?_
  refine lv_istore (lv' := [(4, .int (-6)), (0, .ref (gM G 0)), (1, .int wr), (2, .int (nI dd)), (3, .int (nI mm))]) hx hb dL_comes_2 hl (by decide) rfl (fun ls hl => ?_)
  refine lv_iconst (v := 0) hx hb dL_comes_4 (by decide +kernel) ?_
  refine lv_istore (lv' := [(5, .int 0), (4, .int (-6)), (0, .ref (gM G 0)), (1, .int wr), (2, .int (nI dd)), (3, .int (nI mm))]) hx hb dL_comes_5 hl (by decide) rfl (fun ls hl => ?_)
  have J_104 : ∀ (ls : Array Slot), True → lv_has ls 9 [(4, .int (lNo w (lPt w n wr dd mm))), (0, .ref (gM G 0)), (1, .int wr), (2, .int (nI dd)), (3, .int (nI mm))] → W p l e (headSpec wsL_comes (zR 5 0 0)).room s m (List.toArray [.ref (gM G 0), .int wr, .int (nI dd), .int (nI mm)]) below meth c s.heap [] 0 0 (MQ below (zQi (fun r H => r = 1 ∧ ∃ (Y1 : Nat → zA) (hp1 hk1 : Nat) (w1 : Nat → Int32) (n1 N1 : Nat), zTP V G Y1 hp1 hk1 f1 f2 np pd pa kd nu mo H ∧ lJ Y1 hp1 hk1 w1 n1 N1 t (ac + 1) ∧ aS (Y1 0) = aS (Y 0) ∧ w1 16 = w 16) (zIn 404 G)) (List.toArray [.ref (gM G 0), .int wr, .int (nI dd), .int (nI mm)]) s 0 0 (zIn 404 G)) (F0 m 104 ls []) := by
    intro   ls _   hl
    refine lv_aload_n hx hb dL_comes_104 rfl (lv_at hl 1 rfl) ?_
    refine lv_iconst (v := 1) hx hb dL_comes_105 (by decide +kernel) ?_
    refine zc_se (va_runV (As := [.int 1]) (rest := []) ⟨hx, hb, hml, hown, hts⟩ (c_X7_count l V G Y hp hk f1 f2 np pd pa kd nu mo 1 hJ hk6) (cwV 1 hts (zgVG_ uC_307 uG_6 uG_7 uG_8 (wsCG _ uC_25)) rfl rfl rfl (by decide +kernel) ⟨Nat.le_of_ble_eq_true rfl, Nat.le_of_ble_eq_true rfl⟩) (zPreV (B := fun H => zTP V G Y hp hk f1 f2 np pd pa kd nu mo H) hT hE (zT_rt hE hT)) rfl rfl hl.1 rfl (lv_room (Nat.le_of_ble_eq_true rfl)) dL_comes_106 ⟨Nat.le_of_ble_eq_true rfl, Nat.le_of_ble_eq_true rfl⟩) ?_
    refine zt_i (y := nI (mMany w n 0)) (lc_1 hR np hk) ?_
    refine lv_aload_n hx hb dL_comes_109 rfl (lv_at hl 1 rfl) ?_
    refine lv_iconst (v := 2) hx hb dL_comes_110 (by decide +kernel) ?_
    refine zc_se (va_runV (As := [.int 2]) (rest := [.int (nI (mMany w n 0))]) ⟨hx, hb, hml, hown, hts⟩ (c_X7_count l V G Y hp hk f1 f2 np pd pa kd nu mo 2 hJ hk6) (cwV 1 hts (zgVG_ uC_307 uG_6 uG_7 uG_8 (wsCG _ uC_25)) rfl rfl rfl (by decide +kernel) ⟨Nat.le_of_ble_eq_true rfl, Nat.le_of_ble_eq_true rfl⟩) (zPreV (B := fun H => zTP V G Y hp hk f1 f2 np pd pa kd nu mo H) hT hE (zT_rt hE hT)) rfl rfl hl.1 rfl (lv_room (Nat.le_of_ble_eq_true rfl)) dL_comes_111 ⟨Nat.le_of_ble_eq_true rfl, Nat.le_of_ble_eq_true rfl⟩) ?_
    refine zt_i (y := nI (mMany w n 1)) (lc_2 hR np hk) ?_
    refine lv_iadd hx hb dL_comes_114 ?_
    refine zt_i (z_add (a := mMany w n 0) (b := mMany w n 1) (by first | rfl | omega)) ?_
    refine zt_i (y := nI (n)) (by rw [hsum]) ?_
    refine lv_istore (lv' := [(5, .int (nI n)), (4, .int (lNo w (lPt w n wr dd mm))), (0, .ref (gM G 0)), (1, .int wr), (2, .int (nI dd)), (3, .int (nI mm))]) hx hb dL_comes_115 hl (by decide) rfl (fun ls hl => ?_)
    refine lv_iload_n hx hb dL_comes_117 rfl (lv_at hl 4 rfl) ?_
    refine lv_iload_n hx hb dL_comes_118 rfl (lv_at hl 5 rfl) ?_
    refine lv_iadd hx hb dL_comes_119 ?_
    refine zt_i (z_add (a := dd) (b := mm) (by first | rfl | omega)) ?_
    refine lv_bipush (v := 100) hx hb dL_comes_120 (by decide +kernel) ?_
    refine zb_gt (x := dd + mm) (y := 100) (tgt := 129) hx hb dL_comes_122 (by decide) (by omega) (by omega) (fun c_122 => ?_) (fun c_122 => ?_)
    · have hs0_ : ¬ mSlip wr (nI dd) (nI mm) := lFits_no hd hm9 c_122
      have hlp_ : lPt w n wr dd mm = none := if_neg (by omega)
      rw [hlp_] at hl
      have hl : lv_has ls 9 [(5, .int (nI n)), (4, .int (-6)), (0, .ref (gM G 0)), (1, .int wr), (2, .int (nI dd)), (3, .int (nI mm))] := hl
      refine lv_iconst (v := 0) hx hb dL_comes_129 (by decide +kernel) ?_
      refine lv_istore (lv' := [(6, .int 0), (5, .int (nI n)), (4, .int (-6)), (0, .ref (gM G 0)), (1, .int wr), (2, .int (nI dd)), (3, .int (nI mm))]) hx hb dL_comes_130 hl (by decide) rfl (fun ls hl => ?_)
      refine lv_aload_n hx hb dL_comes_132 rfl (lv_at hl 3 rfl) ?_
      refine lv_iload_n hx hb dL_comes_133 rfl (lv_at hl 4 rfl) ?_
      refine lv_iload_n hx hb dL_comes_134 rfl (lv_at hl 5 rfl) ?_
      refine lv_iload_n hx hb dL_comes_135 rfl (lv_at hl 6 rfl) ?_
      refine zc_se (va_runV (As := [.int wr, .int (nI dd), .int (nI mm)]) (rest := []) ⟨hx, hb, hml, hown, hts⟩ (c_X7_joined l V G Y hp hk f1 f2 np pd pa kd nu mo wr (nI dd) (nI mm) hJ) (cwV 3 hts (zgVG_ uC_313 uG_41 uG_42 uG_43 (wsCG _ uC_25)) rfl rfl rfl (by decide +kernel) ⟨Nat.le_of_ble_eq_true rfl, Nat.le_of_ble_eq_true rfl⟩) (zPreV (B := fun H => zTP V G Y hp hk f1 f2 np pd pa kd nu mo H) hT hE (zT_rt hE hT)) rfl rfl hl.1 rfl (lv_room (Nat.le_of_ble_eq_true rfl)) dL_comes_136 ⟨Nat.le_of_ble_eq_true rfl, Nat.le_of_ble_eq_true rfl⟩) ?_
      refine zt_i (y := (-2)) (lJoin_no hR hs0_) ?_
      refine lv_iload hx hb dL_comes_139 (lv_at hl 0 rfl) ?_
      refine lv_if_eq (tgt := 149) hx hb dL_comes_141 (by decide) (fun c_141 => ?_) (fun c_141 => ?_)
      rotate_left
      · exact absurd c_141 (by decide +kernel)
      refine lv_bipush (v := (-2)) hx hb dL_comes_149 (by decide +kernel) ?_
      refine lv_icmp_eq (tgt := 156) hx hb dL_comes_151 (by decide) (fun c_151 => ?_) (fun c_151 => ?_)
      · refine lv_iload hx hb dL_comes_156 (lv_at hl 2 rfl) ?_
        refine lv_if_ge (tgt := 165) hx hb dL_comes_158 (by decide) (fun c_158 => ?_) (fun c_158 => ?_)
        · exact absurd c_158 (by decide)
        · refine lv_iconst (v := 0) hx hb dL_comes_161 (by decide +kernel) ?_
          refine lv_goto (tgt := 172) hx hb dL_comes_162 (by decide) ?_
          refine lv_istore (lv' := [(7, .int 0), (6, .int 0), (5, .int (nI n)), (4, .int (-6)), (0, .ref (gM G 0)), (1, .int wr), (2, .int (nI dd)), (3, .int (nI mm))]) hx hb dL_comes_172 hl (by decide) rfl (fun ls hl => ?_)
          refine lv_aload_n hx hb dL_comes_174 rfl (lv_at hl 4 rfl) ?_
          refine lv_iload_n hx hb dL_comes_175 rfl (lv_at hl 5 rfl) ?_
          refine lv_iload_n hx hb dL_comes_176 rfl (lv_at hl 6 rfl) ?_
          refine lv_iload_n hx hb dL_comes_177 rfl (lv_at hl 7 rfl) ?_
          refine zc_i (va_runV (As := [.int wr, .int (nI dd), .int (nI mm)]) (rest := []) ⟨hx, hb, hml, hown, hts⟩ (c_X7_slip l V G Y hp hk f1 f2 np pd pa kd nu mo wr (nI dd) (nI mm) hJ h.1 h.2.1 h.2.2.1) (cwV 3 hts (zgVG_ uC_274 uG_44 uG_45 uG_46 (wsCG _ uC_25)) rfl rfl rfl (by decide +kernel) ⟨Nat.le_of_ble_eq_true rfl, Nat.le_of_ble_eq_true rfl⟩) (zPreV (B := fun H => zTP V G Y hp hk f1 f2 np pd pa kd nu mo H) hT hE (zT_rt hE hT)) rfl rfl hl.1 rfl (lv_room (Nat.le_of_ble_eq_true rfl)) dL_comes_178 ⟨Nat.le_of_ble_eq_true rfl, Nat.le_of_ble_eq_true rfl⟩) hS (fun _ q => q) (fun _ q => q) (fun r_ H_1 locs hQ_ _ hkp_ hS => ?_)
          obtain ⟨hr_, hT⟩ := hQ_
          subst hr_
          obtain ⟨e1_, hR1_⟩ := lC_no hR ht9 (by omega) (lC_bad hs0_)
          refine zt_i (y := (-2)) e1_ ?_
          have hj_ : lJ (va_up (va_up Y (hp + 2) (Y 0)) 0 (kAcc (Y 0) wr (nI dd) (nI mm))) (if 0 ≤ kAccR (aF (Y 0)) (aP (Y 0)) wr (nI dd) (nI mm) then (hp + 1) % 7 else hp) (if 0 ≤ kAccR (aF (Y 0)) (aP (Y 0)) wr (nI dd) (nI mm) then min (hk + 1) 6 else hk) w (n) (N) t (ac + 1) := lJ_up h hR1_ h.X (by omega) (by omega) (by omega) _
          have hsS_ : aS ((va_up (va_up Y (hp + 2) (Y 0)) 0 (kAcc (Y 0) wr (nI dd) (nI mm))) 0) = aS (Y 0) := rfl
          generalize va_up (va_up Y (hp + 2) (Y 0)) 0 (kAcc (Y 0) wr (nI dd) (nI mm)) = Y1 at hT hj_ hsS_
          generalize (if 0 ≤ kAccR (aF (Y 0)) (aP (Y 0)) wr (nI dd) (nI mm) then (hp + 1) % 7 else hp) = hp1 at hT hj_
          generalize (if 0 ≤ kAccR (aF (Y 0)) (aP (Y 0)) wr (nI dd) (nI mm) then min (hk + 1) 6 else hk) = hk1 at hT hj_
          have hR1 := hj_.R
          have hk61 := hj_.2.1
          have hsum1 := rMany (lRep_I hR1)
          refine lv_istore (lv' := [(8, .int (-2)), (7, .int 0), (6, .int 0), (5, .int (nI n)), (4, .int (-6)), (0, .ref (gM G 0)), (1, .int wr), (2, .int (nI dd)), (3, .int (nI mm))]) hx hb dL_comes_181 hl (by decide) rfl (fun ls hl => ?_)
          refine lv_iload hx hb dL_comes_183 (lv_at hl 2 rfl) ?_
          refine lv_if_eq (tgt := 200) hx hb dL_comes_185 (by decide) (fun c_185 => ?_) (fun c_185 => ?_)
          rotate_left
          · exact absurd c_185 (by decide +kernel)
          refine lv_iload hx hb dL_comes_200 (lv_at hl 0 rfl) ?_
          refine lv_iload hx hb dL_comes_202 (lv_at hl 2 rfl) ?_
          refine lv_if_eq (tgt := 212) hx hb dL_comes_204 (by decide) (fun c_204 => ?_) (fun c_204 => ?_)
          rotate_left
          · exact absurd c_204 (by decide +kernel)
          refine lv_bipush (v := (-2)) hx hb dL_comes_212 (by decide +kernel) ?_
          refine lv_icmp_ne (tgt := 237) hx hb dL_comes_214 (by decide) (fun c_214 => ?_) (fun c_214 => ?_)
          · exact absurd rfl c_214
          · refine lv_aload_n hx hb dL_comes_217 rfl (lv_at hl 5 rfl) ?_
            refine lv_iconst (v := 1) hx hb dL_comes_218 (by decide +kernel) ?_
            refine zc_se (va_runV (As := [.int 1]) (rest := []) ⟨hx, hb, hml, hown, hts⟩ (c_X7_count l V G Y1 hp1 hk1 f1 f2 np pd pa kd nu mo 1 hJ hk61) (cwV 1 hts (zgVG_ uC_307 uG_6 uG_7 uG_8 (wsCG _ uC_25)) rfl rfl rfl (by decide +kernel) ⟨Nat.le_of_ble_eq_true rfl, Nat.le_of_ble_eq_true rfl⟩) (zPreV (B := fun H => zTP V G Y1 hp1 hk1 f1 f2 np pd pa kd nu mo H) hT hE (zT_rt hE hT)) rfl rfl hl.1 rfl (lv_room (Nat.le_of_ble_eq_true rfl)) dL_comes_219 ⟨Nat.le_of_ble_eq_true rfl, Nat.le_of_ble_eq_true rfl⟩) ?_
            refine zt_i (y := nI (mMany w n 0)) (lc_1 hR1 np hk1) ?_
            refine lv_aload_n hx hb dL_comes_222 rfl (lv_at hl 5 rfl) ?_
            refine lv_iconst (v := 2) hx hb dL_comes_223 (by decide +kernel) ?_
            refine zc_se (va_runV (As := [.int 2]) (rest := [.int (nI (mMany w n 0))]) ⟨hx, hb, hml, hown, hts⟩ (c_X7_count l V G Y1 hp1 hk1 f1 f2 np pd pa kd nu mo 2 hJ hk61) (cwV 1 hts (zgVG_ uC_307 uG_6 uG_7 uG_8 (wsCG _ uC_25)) rfl rfl rfl (by decide +kernel) ⟨Nat.le_of_ble_eq_true rfl, Nat.le_of_ble_eq_true rfl⟩) (zPreV (B := fun H => zTP V G Y1 hp1 hk1 f1 f2 np pd pa kd nu mo H) hT hE (zT_rt hE hT)) rfl rfl hl.1 rfl (lv_room (Nat.le_of_ble_eq_true rfl)) dL_comes_224 ⟨Nat.le_of_ble_eq_true rfl, Nat.le_of_ble_eq_true rfl⟩) ?_
            refine zt_i (y := nI (mMany w n 1)) (lc_2 hR1 np hk1) ?_
            refine lv_iadd hx hb dL_comes_227 ?_
            refine zt_i (z_add (a := mMany w n 0) (b := mMany w n 1) (by first | rfl | omega)) ?_
            refine zt_i (y := nI (n)) (by rw [hsum]) ?_
            refine lv_iload hx hb dL_comes_228 (lv_at hl 3 rfl) ?_
            refine zb_ne (x := n) (y := n) (tgt := 237) hx hb dL_comes_230 (by decide) (by omega) (by omega) (fun c_230 => ?_) (fun c_230 => ?_)
            · exact absurd rfl c_230
            · refine lv_iconst (v := 1) hx hb dL_comes_233 (by decide +kernel) ?_
              refine lv_goto (tgt := 238) hx hb dL_comes_234 (by decide) ?_
              exact zr_z hx hb hr hlocks hS (by first | exact Or.inl rfl | exact Or.inr rfl | exact z_ite01 | assumption) (⟨rfl, Y1, hp1, hk1, w, n, N, hT, hj_, hsS_, rfl⟩) dL_comes_238
      · exact absurd rfl c_151
    · have hfit_ : dd + mm ≤ 100 := by omega
      have hs0_ := lFits hwr hd hm1 hm9 hfit_
      have hlp_ : lPt w n wr dd mm = mPart w n wr (nI dd) (nI mm) := if_pos hfit_
      rw [hlp_] at hl
      have hl : lv_has ls 9 [(5, .int (nI n)), (4, .int (lNo w (mPart w n wr (nI dd) (nI mm)))), (0, .ref (gM G 0)), (1, .int wr), (2, .int (nI dd)), (3, .int (nI mm))] := hl
      refine lv_iconst (v := 1) hx hb dL_comes_125 (by decide +kernel) ?_
      refine lv_goto (tgt := 130) hx hb dL_comes_126 (by decide) ?_
      refine lv_istore (lv' := [(6, .int 1), (5, .int (nI n)), (4, .int (lNo w (mPart w n wr (nI dd) (nI mm)))), (0, .ref (gM G 0)), (1, .int wr), (2, .int (nI dd)), (3, .int (nI mm))]) hx hb dL_comes_130 hl (by decide) rfl (fun ls hl => ?_)
      refine lv_aload_n hx hb dL_comes_132 rfl (lv_at hl 3 rfl) ?_
      refine lv_iload_n hx hb dL_comes_133 rfl (lv_at hl 4 rfl) ?_
      refine lv_iload_n hx hb dL_comes_134 rfl (lv_at hl 5 rfl) ?_
      refine lv_iload_n hx hb dL_comes_135 rfl (lv_at hl 6 rfl) ?_
      refine zc_se (va_runV (As := [.int wr, .int (nI dd), .int (nI mm)]) (rest := []) ⟨hx, hb, hml, hown, hts⟩ (c_X7_joined l V G Y hp hk f1 f2 np pd pa kd nu mo wr (nI dd) (nI mm) hJ) (cwV 3 hts (zgVG_ uC_313 uG_41 uG_42 uG_43 (wsCG _ uC_25)) rfl rfl rfl (by decide +kernel) ⟨Nat.le_of_ble_eq_true rfl, Nat.le_of_ble_eq_true rfl⟩) (zPreV (B := fun H => zTP V G Y hp hk f1 f2 np pd pa kd nu mo H) hT hE (zT_rt hE hT)) rfl rfl hl.1 rfl (lv_room (Nat.le_of_ble_eq_true rfl)) dL_comes_136 ⟨Nat.le_of_ble_eq_true rfl, Nat.le_of_ble_eq_true rfl⟩) ?_
      refine zt_i (y := lNo w (mPart w n wr (nI dd) (nI mm))) (lJoin hR hs0_) ?_
      refine lv_iload hx hb dL_comes_139 (lv_at hl 0 rfl) ?_
      refine lv_if_eq (tgt := 149) hx hb dL_comes_141 (by decide) (fun c_141 => ?_) (fun c_141 => ?_)
      · exact absurd c_141 (by decide +kernel)
      refine lv_iload hx hb dL_comes_144 (lv_at hl 2 rfl) ?_
      refine lv_goto (tgt := 151) hx hb dL_comes_146 (by decide) ?_
      refine lv_icmp_eq (tgt := 156) hx hb dL_comes_151 (by decide) (fun c_151 => ?_) (fun c_151 => ?_)
      · rcases hq_ : mPart w n wr (nI dd) (nI mm) with _ | k_
        · rw [hq_] at hl
          have hl : lv_has ls 9 [(6, .int 1), (5, .int (nI n)), (4, .int (-6)), (0, .ref (gM G 0)), (1, .int wr), (2, .int (nI dd)), (3, .int (nI mm))] := hl
          refine lv_iload hx hb dL_comes_156 (lv_at hl 2 rfl) ?_
          refine lv_if_ge (tgt := 165) hx hb dL_comes_158 (by decide) (fun c_158 => ?_) (fun c_158 => ?_)
          · exact absurd c_158 (by decide)
          · refine lv_iconst (v := 0) hx hb dL_comes_161 (by decide +kernel) ?_
            refine lv_goto (tgt := 172) hx hb dL_comes_162 (by decide) ?_
            refine lv_istore (lv' := [(7, .int 0), (6, .int 1), (5, .int (nI n)), (4, .int (-6)), (0, .ref (gM G 0)), (1, .int wr), (2, .int (nI dd)), (3, .int (nI mm))]) hx hb dL_comes_172 hl (by decide) rfl (fun ls hl => ?_)
            by_cases hn30_ : n = 30
            · refine lv_aload_n hx hb dL_comes_174 rfl (lv_at hl 4 rfl) ?_
              refine lv_iload_n hx hb dL_comes_175 rfl (lv_at hl 5 rfl) ?_
              refine lv_iload_n hx hb dL_comes_176 rfl (lv_at hl 6 rfl) ?_
              refine lv_iload_n hx hb dL_comes_177 rfl (lv_at hl 7 rfl) ?_
              refine zc_i (va_runV (As := [.int wr, .int (nI dd), .int (nI mm)]) (rest := []) ⟨hx, hb, hml, hown, hts⟩ (c_X7_slip l V G Y hp hk f1 f2 np pd pa kd nu mo wr (nI dd) (nI mm) hJ h.1 h.2.1 h.2.2.1) (cwV 3 hts (zgVG_ uC_274 uG_44 uG_45 uG_46 (wsCG _ uC_25)) rfl rfl rfl (by decide +kernel) ⟨Nat.le_of_ble_eq_true rfl, Nat.le_of_ble_eq_true rfl⟩) (zPreV (B := fun H => zTP V G Y hp hk f1 f2 np pd pa kd nu mo H) hT hE (zT_rt hE hT)) rfl rfl hl.1 rfl (lv_room (Nat.le_of_ble_eq_true rfl)) dL_comes_178 ⟨Nat.le_of_ble_eq_true rfl, Nat.le_of_ble_eq_true rfl⟩) hS (fun _ q => q) (fun _ q => q) (fun r_ H_1 locs hQ_ _ hkp_ hS => ?_)
              obtain ⟨hr_, hT⟩ := hQ_
              subst hr_
              obtain ⟨e1_, hR1_⟩ := lC_no hR ht9 (by omega) (lC_full hs0_ hq_ hn30_)
              refine zt_i (y := (-4)) e1_ ?_
              have hj_ : lJ (va_up (va_up Y (hp + 2) (Y 0)) 0 (kAcc (Y 0) wr (nI dd) (nI mm))) (if 0 ≤ kAccR (aF (Y 0)) (aP (Y 0)) wr (nI dd) (nI mm) then (hp + 1) % 7 else hp) (if 0 ≤ kAccR (aF (Y 0)) (aP (Y 0)) wr (nI dd) (nI mm) then min (hk + 1) 6 else hk) w (n) (N) t (ac + 1) := lJ_up h hR1_ h.X (by omega) (by omega) (by omega) _
              have hsS_ : aS ((va_up (va_up Y (hp + 2) (Y 0)) 0 (kAcc (Y 0) wr (nI dd) (nI mm))) 0) = aS (Y 0) := rfl
              generalize va_up (va_up Y (hp + 2) (Y 0)) 0 (kAcc (Y 0) wr (nI dd) (nI mm)) = Y1 at hT hj_ hsS_
              generalize (if 0 ≤ kAccR (aF (Y 0)) (aP (Y 0)) wr (nI dd) (nI mm) then (hp + 1) % 7 else hp) = hp1 at hT hj_
              generalize (if 0 ≤ kAccR (aF (Y 0)) (aP (Y 0)) wr (nI dd) (nI mm) then min (hk + 1) 6 else hk) = hk1 at hT hj_
              have hR1 := hj_.R
              have hk61 := hj_.2.1
              have hsum1 := rMany (lRep_I hR1)
              refine lv_istore (lv' := [(8, .int (-4)), (7, .int 0), (6, .int 1), (5, .int (nI n)), (4, .int (-6)), (0, .ref (gM G 0)), (1, .int wr), (2, .int (nI dd)), (3, .int (nI mm))]) hx hb dL_comes_181 hl (by decide) rfl (fun ls hl => ?_)
              refine lv_iload hx hb dL_comes_183 (lv_at hl 2 rfl) ?_
              refine lv_if_eq (tgt := 200) hx hb dL_comes_185 (by decide) (fun c_185 => ?_) (fun c_185 => ?_)
              · exact absurd c_185 (by decide +kernel)
              refine lv_iload hx hb dL_comes_188 (lv_at hl 4 rfl) ?_
              refine lv_if_ge (tgt := 239) hx hb dL_comes_190 (by decide) (fun c_190 => ?_) (fun c_190 => ?_)
              · exact absurd c_190 (by decide)
              · refine lv_iload hx hb dL_comes_193 (lv_at hl 3 rfl) ?_
                refine lv_bipush (v := 30) hx hb dL_comes_195 (by decide +kernel) ?_
                refine zb_ne (x := n) (y := 30) (tgt := 239) hx hb dL_comes_197 (by decide) (by omega) (by omega) (fun c_197 => ?_) (fun c_197 => ?_)
                · exact absurd hn30_ c_197
                · refine lv_iload hx hb dL_comes_200 (lv_at hl 0 rfl) ?_
                  refine lv_iload hx hb dL_comes_202 (lv_at hl 2 rfl) ?_
                  refine lv_if_eq (tgt := 212) hx hb dL_comes_204 (by decide) (fun c_204 => ?_) (fun c_204 => ?_)
                  · exact absurd c_204 (by decide +kernel)
                  refine lv_bipush (v := (-4)) hx hb dL_comes_207 (by decide +kernel) ?_
                  refine lv_goto (tgt := 214) hx hb dL_comes_209 (by decide) ?_
                  refine lv_icmp_ne (tgt := 237) hx hb dL_comes_214 (by decide) (fun c_214 => ?_) (fun c_214 => ?_)
                  · exact absurd rfl c_214
                  · refine lv_aload_n hx hb dL_comes_217 rfl (lv_at hl 5 rfl) ?_
                    refine lv_iconst (v := 1) hx hb dL_comes_218 (by decide +kernel) ?_
                    refine zc_se (va_runV (As := [.int 1]) (rest := []) ⟨hx, hb, hml, hown, hts⟩ (c_X7_count l V G Y1 hp1 hk1 f1 f2 np pd pa kd nu mo 1 hJ hk61) (cwV 1 hts (zgVG_ uC_307 uG_6 uG_7 uG_8 (wsCG _ uC_25)) rfl rfl rfl (by decide +kernel) ⟨Nat.le_of_ble_eq_true rfl, Nat.le_of_ble_eq_true rfl⟩) (zPreV (B := fun H => zTP V G Y1 hp1 hk1 f1 f2 np pd pa kd nu mo H) hT hE (zT_rt hE hT)) rfl rfl hl.1 rfl (lv_room (Nat.le_of_ble_eq_true rfl)) dL_comes_219 ⟨Nat.le_of_ble_eq_true rfl, Nat.le_of_ble_eq_true rfl⟩) ?_
                    refine zt_i (y := nI (mMany w n 0)) (lc_1 hR1 np hk1) ?_
                    refine lv_aload_n hx hb dL_comes_222 rfl (lv_at hl 5 rfl) ?_
                    refine lv_iconst (v := 2) hx hb dL_comes_223 (by decide +kernel) ?_
                    refine zc_se (va_runV (As := [.int 2]) (rest := [.int (nI (mMany w n 0))]) ⟨hx, hb, hml, hown, hts⟩ (c_X7_count l V G Y1 hp1 hk1 f1 f2 np pd pa kd nu mo 2 hJ hk61) (cwV 1 hts (zgVG_ uC_307 uG_6 uG_7 uG_8 (wsCG _ uC_25)) rfl rfl rfl (by decide +kernel) ⟨Nat.le_of_ble_eq_true rfl, Nat.le_of_ble_eq_true rfl⟩) (zPreV (B := fun H => zTP V G Y1 hp1 hk1 f1 f2 np pd pa kd nu mo H) hT hE (zT_rt hE hT)) rfl rfl hl.1 rfl (lv_room (Nat.le_of_ble_eq_true rfl)) dL_comes_224 ⟨Nat.le_of_ble_eq_true rfl, Nat.le_of_ble_eq_true rfl⟩) ?_
                    refine zt_i (y := nI (mMany w n 1)) (lc_2 hR1 np hk1) ?_
                    refine lv_iadd hx hb dL_comes_227 ?_
                    refine zt_i (z_add (a := mMany w n 0) (b := mMany w n 1) (by first | rfl | omega)) ?_
                    refine zt_i (y := nI (n)) (by rw [hsum]) ?_
                    refine lv_iload hx hb dL_comes_228 (lv_at hl 3 rfl) ?_
                    refine zb_ne (x := n) (y := n) (tgt := 237) hx hb dL_comes_230 (by decide) (by omega) (by omega) (fun c_230 => ?_) (fun c_230 => ?_)
                    · exact absurd rfl c_230
                    · refine lv_iconst (v := 1) hx hb dL_comes_233 (by decide +kernel) ?_
                      refine lv_goto (tgt := 238) hx hb dL_comes_234 (by decide) ?_
                      exact zr_z hx hb hr hlocks hS (by first | exact Or.inl rfl | exact Or.inr rfl | exact z_ite01 | assumption) (⟨rfl, Y1, hp1, hk1, w, n, N, hT, hj_, hsS_, rfl⟩) dL_comes_238
            · refine lv_aload_n hx hb dL_comes_174 rfl (lv_at hl 4 rfl) ?_
              refine lv_iload_n hx hb dL_comes_175 rfl (lv_at hl 5 rfl) ?_
              refine lv_iload_n hx hb dL_comes_176 rfl (lv_at hl 6 rfl) ?_
              refine lv_iload_n hx hb dL_comes_177 rfl (lv_at hl 7 rfl) ?_
              refine zc_i (va_runV (As := [.int wr, .int (nI dd), .int (nI mm)]) (rest := []) ⟨hx, hb, hml, hown, hts⟩ (c_X7_slip l V G Y hp hk f1 f2 np pd pa kd nu mo wr (nI dd) (nI mm) hJ h.1 h.2.1 h.2.2.1) (cwV 3 hts (zgVG_ uC_274 uG_44 uG_45 uG_46 (wsCG _ uC_25)) rfl rfl rfl (by decide +kernel) ⟨Nat.le_of_ble_eq_true rfl, Nat.le_of_ble_eq_true rfl⟩) (zPreV (B := fun H => zTP V G Y hp hk f1 f2 np pd pa kd nu mo H) hT hE (zT_rt hE hT)) rfl rfl hl.1 rfl (lv_room (Nat.le_of_ble_eq_true rfl)) dL_comes_178 ⟨Nat.le_of_ble_eq_true rfl, Nat.le_of_ble_eq_true rfl⟩) hS (fun _ q => q) (fun _ q => q) (fun r_ H_1 locs hQ_ _ hkp_ hS => ?_)
              obtain ⟨hr_, hT⟩ := hQ_
              subst hr_
              obtain ⟨e1_, w1, hR1_, hX1_, g0_, g1_, g2_, g3_, g4_, g5_, h16_⟩ := lC_new hR h.X ht9 (by omega) hs0_ hq_ hn30_
              refine zt_i (y := w 8) e1_ ?_
              have hj_ : lJ (va_up (va_up Y (hp + 2) (Y 0)) 0 (kAcc (Y 0) wr (nI dd) (nI mm))) (if 0 ≤ kAccR (aF (Y 0)) (aP (Y 0)) wr (nI dd) (nI mm) then (hp + 1) % 7 else hp) (if 0 ≤ kAccR (aF (Y 0)) (aP (Y 0)) wr (nI dd) (nI mm) then min (hk + 1) 6 else hk) w1 (n + 1) (N + 1) t (ac + 1) := lJ_up h hR1_ hX1_ (by omega) (by omega) (by omega) _
              have hsS_ : aS ((va_up (va_up Y (hp + 2) (Y 0)) 0 (kAcc (Y 0) wr (nI dd) (nI mm))) 0) = aS (Y 0) := rfl
              generalize va_up (va_up Y (hp + 2) (Y 0)) 0 (kAcc (Y 0) wr (nI dd) (nI mm)) = Y1 at hT hj_ hsS_
              generalize (if 0 ≤ kAccR (aF (Y 0)) (aP (Y 0)) wr (nI dd) (nI mm) then (hp + 1) % 7 else hp) = hp1 at hT hj_
              generalize (if 0 ≤ kAccR (aF (Y 0)) (aP (Y 0)) wr (nI dd) (nI mm) then min (hk + 1) 6 else hk) = hk1 at hT hj_
              have hR1 := hj_.R
              have hk61 := hj_.2.1
              have hsum1 := rMany (lRep_I hR1)
              have hkn_ : n < n + 1 := Nat.lt_succ_self n
              refine lv_istore (lv' := [(8, .int (w 8)), (7, .int 0), (6, .int 1), (5, .int (nI n)), (4, .int (-6)), (0, .ref (gM G 0)), (1, .int wr), (2, .int (nI dd)), (3, .int (nI mm))]) hx hb dL_comes_181 hl (by decide) rfl (fun ls hl => ?_)
              refine lv_iload hx hb dL_comes_183 (lv_at hl 2 rfl) ?_
              refine lv_if_eq (tgt := 200) hx hb dL_comes_185 (by decide) (fun c_185 => ?_) (fun c_185 => ?_)
              · exact absurd c_185 (by decide +kernel)
              refine lv_iload hx hb dL_comes_188 (lv_at hl 4 rfl) ?_
              refine lv_if_ge (tgt := 239) hx hb dL_comes_190 (by decide) (fun c_190 => ?_) (fun c_190 => ?_)
              · exact absurd c_190 (by decide)
              · refine lv_iload hx hb dL_comes_193 (lv_at hl 3 rfl) ?_
                refine lv_bipush (v := 30) hx hb dL_comes_195 (by decide +kernel) ?_
                refine zb_ne (x := n) (y := 30) (tgt := 239) hx hb dL_comes_197 (by decide) (by omega) (by omega) (fun c_197 => ?_) (fun c_197 => ?_)
                · refine lv_iload hx hb dL_comes_239 (lv_at hl 4 rfl) ?_
                  refine lv_if_lt (tgt := 302) hx hb dL_comes_241 (by decide) (fun c_241 => ?_) (fun c_241 => ?_)
                  · refine lv_aload_n hx hb dL_comes_302 rfl (lv_at hl 5 rfl) ?_
                    refine lv_iconst (v := 1) hx hb dL_comes_303 (by decide +kernel) ?_
                    refine zc_se (va_runV (As := [.int 1]) (rest := []) ⟨hx, hb, hml, hown, hts⟩ (c_X7_count l V G Y1 hp1 hk1 f1 f2 np pd pa kd nu mo 1 hJ hk61) (cwV 1 hts (zgVG_ uC_307 uG_6 uG_7 uG_8 (wsCG _ uC_25)) rfl rfl rfl (by decide +kernel) ⟨Nat.le_of_ble_eq_true rfl, Nat.le_of_ble_eq_true rfl⟩) (zPreV (B := fun H => zTP V G Y1 hp1 hk1 f1 f2 np pd pa kd nu mo H) hT hE (zT_rt hE hT)) rfl rfl hl.1 rfl (lv_room (Nat.le_of_ble_eq_true rfl)) dL_comes_304 ⟨Nat.le_of_ble_eq_true rfl, Nat.le_of_ble_eq_true rfl⟩) ?_
                    refine zt_i (y := nI (mMany w1 (n + 1) 0)) (lc_1 hR1 np hk1) ?_
                    refine lv_aload_n hx hb dL_comes_307 rfl (lv_at hl 5 rfl) ?_
                    refine lv_iconst (v := 2) hx hb dL_comes_308 (by decide +kernel) ?_
                    refine zc_se (va_runV (As := [.int 2]) (rest := [.int (nI (mMany w1 (n + 1) 0))]) ⟨hx, hb, hml, hown, hts⟩ (c_X7_count l V G Y1 hp1 hk1 f1 f2 np pd pa kd nu mo 2 hJ hk61) (cwV 1 hts (zgVG_ uC_307 uG_6 uG_7 uG_8 (wsCG _ uC_25)) rfl rfl rfl (by decide +kernel) ⟨Nat.le_of_ble_eq_true rfl, Nat.le_of_ble_eq_true rfl⟩) (zPreV (B := fun H => zTP V G Y1 hp1 hk1 f1 f2 np pd pa kd nu mo H) hT hE (zT_rt hE hT)) rfl rfl hl.1 rfl (lv_room (Nat.le_of_ble_eq_true rfl)) dL_comes_309 ⟨Nat.le_of_ble_eq_true rfl, Nat.le_of_ble_eq_true rfl⟩) ?_
                    refine zt_i (y := nI (mMany w1 (n + 1) 1)) (lc_2 hR1 np hk1) ?_
                    refine lv_iadd hx hb dL_comes_312 ?_
                    refine zt_i (z_add (a := mMany w1 (n + 1) 0) (b := mMany w1 (n + 1) 1) (by first | rfl | omega)) ?_
                    refine zt_i (y := nI (n + 1)) (by rw [hsum1]) ?_
                    refine lv_iload hx hb dL_comes_313 (lv_at hl 3 rfl) ?_
                    refine lv_iconst (v := 1) hx hb dL_comes_315 (by decide +kernel) ?_
                    refine lv_iadd hx hb dL_comes_316 ?_
                    refine zt_i (z_add (a := n) (b := 1) (by first | rfl | omega)) ?_
                    refine zb_ne (x := n + 1) (y := n + 1) (tgt := 381) hx hb dL_comes_317 (by decide) (by omega) (by omega) (fun c_317 => ?_) (fun c_317 => ?_)
                    · exact absurd rfl c_317
                    · refine lv_aload_n hx hb dL_comes_320 rfl (lv_at hl 5 rfl) ?_
                      refine lv_iload hx hb dL_comes_321 (lv_at hl 0 rfl) ?_
                      refine lv_iconst (v := 1) hx hb dL_comes_323 (by decide +kernel) ?_
                      refine zc_se (va_runV (As := [.int (w 8), .int 1]) (rest := []) ⟨hx, hb, hml, hown, hts⟩ (c_X7_of l V G Y1 hp1 hk1 f1 f2 np pd pa kd nu mo (w 8) 1 hJ) (cwV 2 hts (zgVG_ uC_294 uG_12 uG_13 uG_14 (wsCG _ uC_25)) rfl rfl rfl (by decide +kernel) ⟨Nat.le_of_ble_eq_true rfl, Nat.le_of_ble_eq_true rfl⟩) (zPreV (B := fun H => zTP V G Y1 hp1 hk1 f1 f2 np pd pa kd nu mo H) hT hE (zT_rt hE hT)) rfl rfl hl.1 rfl (lv_room (Nat.le_of_ble_eq_true rfl)) dL_comes_324 ⟨Nat.le_of_ble_eq_true rfl, Nat.le_of_ble_eq_true rfl⟩) ?_
                      refine zt_i (y := nI dd) (by rw [← g0_]; exact (lo_1 hR1 hkn_).trans g2_) ?_
                      refine lv_iload_n hx hb dL_comes_327 rfl (lv_at hl 7 rfl) ?_
                      refine zb_ne (x := dd) (y := dd) (tgt := 381) hx hb dL_comes_328 (by decide) (by omega) (by omega) (fun c_328 => ?_) (fun c_328 => ?_)
                      · exact absurd rfl c_328
                      · refine lv_aload_n hx hb dL_comes_331 rfl (lv_at hl 5 rfl) ?_
                        refine lv_iload hx hb dL_comes_332 (lv_at hl 0 rfl) ?_
                        refine lv_iconst (v := 2) hx hb dL_comes_334 (by decide +kernel) ?_
                        refine zc_se (va_runV (As := [.int (w 8), .int 2]) (rest := []) ⟨hx, hb, hml, hown, hts⟩ (c_X7_of l V G Y1 hp1 hk1 f1 f2 np pd pa kd nu mo (w 8) 2 hJ) (cwV 2 hts (zgVG_ uC_294 uG_12 uG_13 uG_14 (wsCG _ uC_25)) rfl rfl rfl (by decide +kernel) ⟨Nat.le_of_ble_eq_true rfl, Nat.le_of_ble_eq_true rfl⟩) (zPreV (B := fun H => zTP V G Y1 hp1 hk1 f1 f2 np pd pa kd nu mo H) hT hE (zT_rt hE hT)) rfl rfl hl.1 rfl (lv_room (Nat.le_of_ble_eq_true rfl)) dL_comes_335 ⟨Nat.le_of_ble_eq_true rfl, Nat.le_of_ble_eq_true rfl⟩) ?_
                        refine zt_i (y := nI (dd + mm - 1)) (by rw [← g0_]; exact (lo_2 hR1 hkn_).trans (g3_.trans (by rw [nI_add]; exact pk_sub (a := dd + mm) (b := 1) (by omega)))) ?_
                        refine lv_iload_n hx hb dL_comes_338 rfl (lv_at hl 7 rfl) ?_
                        refine lv_iload_n hx hb dL_comes_339 rfl (lv_at hl 8 rfl) ?_
                        refine lv_iadd hx hb dL_comes_340 ?_
                        refine zt_i (z_add (a := dd) (b := mm) (by first | rfl | omega)) ?_
                        refine lv_iconst (v := 1) hx hb dL_comes_341 (by decide +kernel) ?_
                        refine lv_isub hx hb dL_comes_342 ?_
                        refine zt_i (z_sub (a := dd + mm) (b := 1) (by omega) (by first | rfl | omega)) ?_
                        refine zb_ne (x := dd + mm - 1) (y := dd + mm - 1) (tgt := 381) hx hb dL_comes_343 (by decide) (by omega) (by omega) (fun c_343 => ?_) (fun c_343 => ?_)
                        · exact absurd rfl c_343
                        · refine lv_aload_n hx hb dL_comes_346 rfl (lv_at hl 5 rfl) ?_
                          refine lv_iload hx hb dL_comes_347 (lv_at hl 0 rfl) ?_
                          refine lv_iconst (v := 3) hx hb dL_comes_349 (by decide +kernel) ?_
                          refine zc_se (va_runV (As := [.int (w 8), .int 3]) (rest := []) ⟨hx, hb, hml, hown, hts⟩ (c_X7_of l V G Y1 hp1 hk1 f1 f2 np pd pa kd nu mo (w 8) 3 hJ) (cwV 2 hts (zgVG_ uC_294 uG_12 uG_13 uG_14 (wsCG _ uC_25)) rfl rfl rfl (by decide +kernel) ⟨Nat.le_of_ble_eq_true rfl, Nat.le_of_ble_eq_true rfl⟩) (zPreV (B := fun H => zTP V G Y1 hp1 hk1 f1 f2 np pd pa kd nu mo H) hT hE (zT_rt hE hT)) rfl rfl hl.1 rfl (lv_room (Nat.le_of_ble_eq_true rfl)) dL_comes_350 ⟨Nat.le_of_ble_eq_true rfl, Nat.le_of_ble_eq_true rfl⟩) ?_
                          refine zt_i (y := 0) (by rw [← g0_]; exact (lo_3 hR1 hkn_).trans g4_) ?_
                          refine lv_if_ne (tgt := 381) hx hb dL_comes_353 (by decide) (fun c_353 => ?_) (fun c_353 => ?_)
                          · exact absurd c_353 (by decide +kernel)
                          refine lv_aload_n hx hb dL_comes_356 rfl (lv_at hl 5 rfl) ?_
                          refine lv_iload hx hb dL_comes_357 (lv_at hl 0 rfl) ?_
                          refine lv_iconst (v := 5) hx hb dL_comes_359 (by decide +kernel) ?_
                          refine zc_se (va_runV (As := [.int (w 8), .int 5]) (rest := []) ⟨hx, hb, hml, hown, hts⟩ (c_X7_of l V G Y1 hp1 hk1 f1 f2 np pd pa kd nu mo (w 8) 5 hJ) (cwV 2 hts (zgVG_ uC_294 uG_12 uG_13 uG_14 (wsCG _ uC_25)) rfl rfl rfl (by decide +kernel) ⟨Nat.le_of_ble_eq_true rfl, Nat.le_of_ble_eq_true rfl⟩) (zPreV (B := fun H => zTP V G Y1 hp1 hk1 f1 f2 np pd pa kd nu mo H) hT hE (zT_rt hE hT)) rfl rfl hl.1 rfl (lv_room (Nat.le_of_ble_eq_true rfl)) dL_comes_360 ⟨Nat.le_of_ble_eq_true rfl, Nat.le_of_ble_eq_true rfl⟩) ?_
                          refine zt_i (y := 0) (by rw [← g0_]; exact (lo_5 hR1 hkn_).trans g5_) ?_
                          refine lv_if_ne (tgt := 381) hx hb dL_comes_363 (by decide) (fun c_363 => ?_) (fun c_363 => ?_)
                          · exact absurd c_363 (by decide +kernel)
                          refine lv_aload_n hx hb dL_comes_366 rfl (lv_at hl 5 rfl) ?_
                          refine lv_iload hx hb dL_comes_367 (lv_at hl 0 rfl) ?_
                          refine lv_iconst (v := 0) hx hb dL_comes_369 (by decide +kernel) ?_
                          refine zc_se (va_runV (As := [.int (w 8), .int 0]) (rest := []) ⟨hx, hb, hml, hown, hts⟩ (c_X7_of l V G Y1 hp1 hk1 f1 f2 np pd pa kd nu mo (w 8) 0 hJ) (cwV 2 hts (zgVG_ uC_294 uG_12 uG_13 uG_14 (wsCG _ uC_25)) rfl rfl rfl (by decide +kernel) ⟨Nat.le_of_ble_eq_true rfl, Nat.le_of_ble_eq_true rfl⟩) (zPreV (B := fun H => zTP V G Y1 hp1 hk1 f1 f2 np pd pa kd nu mo H) hT hE (zT_rt hE hT)) rfl rfl hl.1 rfl (lv_room (Nat.le_of_ble_eq_true rfl)) dL_comes_370 ⟨Nat.le_of_ble_eq_true rfl, Nat.le_of_ble_eq_true rfl⟩) ?_
                          refine zt_i (y := wr) (by rw [← g0_]; exact (lo_0 hR1 hkn_).trans g1_) ?_
                          refine lv_iload_n hx hb dL_comes_373 rfl (lv_at hl 6 rfl) ?_
                          refine lv_icmp_ne (tgt := 381) hx hb dL_comes_374 (by decide) (fun c_374 => ?_) (fun c_374 => ?_)
                          · exact absurd rfl c_374
                          · refine lv_iconst (v := 1) hx hb dL_comes_377 (by decide +kernel) ?_
                            refine lv_goto (tgt := 382) hx hb dL_comes_378 (by decide) ?_
                            exact zr_z hx hb hr hlocks hS (by first | exact Or.inl rfl | exact Or.inr rfl | exact z_ite01 | assumption) (⟨rfl, Y1, hp1, hk1, w1, (n + 1), (N + 1), hT, hj_, hsS_, h16_⟩) dL_comes_382
                  · exact absurd (by decide) c_241
                · exact absurd c_197 hn30_
        · rw [hq_] at hl
          have hl : lv_has ls 9 [(6, .int 1), (5, .int (nI n)), (4, .int (zF w k_ 0)), (0, .ref (gM G 0)), (1, .int wr), (2, .int (nI dd)), (3, .int (nI mm))] := hl
          have hk_ : k_ < n := (zFirst_lt hq_).1
          refine lv_iload hx hb dL_comes_156 (lv_at hl 2 rfl) ?_
          refine lv_if_ge (tgt := 165) hx hb dL_comes_158 (by decide) (fun c_158 => ?_) (fun c_158 => ?_)
          · refine lv_aload_n hx hb dL_comes_165 rfl (lv_at hl 3 rfl) ?_
            refine lv_iload hx hb dL_comes_166 (lv_at hl 2 rfl) ?_
            refine lv_iconst (v := 5) hx hb dL_comes_168 (by decide +kernel) ?_
            refine zc_se (va_runV (As := [.int (zF w k_ 0), .int 5]) (rest := []) ⟨hx, hb, hml, hown, hts⟩ (c_X7_of l V G Y hp hk f1 f2 np pd pa kd nu mo (zF w k_ 0) 5 hJ) (cwV 2 hts (zgVG_ uC_294 uG_12 uG_13 uG_14 (wsCG _ uC_25)) rfl rfl rfl (by decide +kernel) ⟨Nat.le_of_ble_eq_true rfl, Nat.le_of_ble_eq_true rfl⟩) (zPreV (B := fun H => zTP V G Y hp hk f1 f2 np pd pa kd nu mo H) hT hE (zT_rt hE hT)) rfl rfl hl.1 rfl (lv_room (Nat.le_of_ble_eq_true rfl)) dL_comes_169 ⟨Nat.le_of_ble_eq_true rfl, Nat.le_of_ble_eq_true rfl⟩) ?_
            refine zt_i (y := zF w k_ 5) (lo_5 hR hk_) ?_
            refine lv_istore (lv' := [(7, .int (zF w k_ 5)), (6, .int 1), (5, .int (nI n)), (4, .int (zF w k_ 0)), (0, .ref (gM G 0)), (1, .int wr), (2, .int (nI dd)), (3, .int (nI mm))]) hx hb dL_comes_172 hl (by decide) rfl (fun ls hl => ?_)
            refine lv_aload_n hx hb dL_comes_174 rfl (lv_at hl 4 rfl) ?_
            refine lv_iload_n hx hb dL_comes_175 rfl (lv_at hl 5 rfl) ?_
            refine lv_iload_n hx hb dL_comes_176 rfl (lv_at hl 6 rfl) ?_
            refine lv_iload_n hx hb dL_comes_177 rfl (lv_at hl 7 rfl) ?_
            refine zc_i (va_runV (As := [.int wr, .int (nI dd), .int (nI mm)]) (rest := []) ⟨hx, hb, hml, hown, hts⟩ (c_X7_slip l V G Y hp hk f1 f2 np pd pa kd nu mo wr (nI dd) (nI mm) hJ h.1 h.2.1 h.2.2.1) (cwV 3 hts (zgVG_ uC_274 uG_44 uG_45 uG_46 (wsCG _ uC_25)) rfl rfl rfl (by decide +kernel) ⟨Nat.le_of_ble_eq_true rfl, Nat.le_of_ble_eq_true rfl⟩) (zPreV (B := fun H => zTP V G Y hp hk f1 f2 np pd pa kd nu mo H) hT hE (zT_rt hE hT)) rfl rfl hl.1 rfl (lv_room (Nat.le_of_ble_eq_true rfl)) dL_comes_178 ⟨Nat.le_of_ble_eq_true rfl, Nat.le_of_ble_eq_true rfl⟩) hS (fun _ q => q) (fun _ q => q) (fun r_ H_1 locs hQ_ _ hkp_ hS => ?_)
            obtain ⟨hr_, hT⟩ := hQ_
            subst hr_
            obtain ⟨e1_, w1, hR1_, hX1_, -, f0_, f2_, f5_, h16_⟩ := lC_join hR h.X ht9 (by omega) hs0_ hq_
            refine zt_i (y := zF w k_ 0) e1_ ?_
            have hj_ : lJ (va_up (va_up Y (hp + 2) (Y 0)) 0 (kAcc (Y 0) wr (nI dd) (nI mm))) (if 0 ≤ kAccR (aF (Y 0)) (aP (Y 0)) wr (nI dd) (nI mm) then (hp + 1) % 7 else hp) (if 0 ≤ kAccR (aF (Y 0)) (aP (Y 0)) wr (nI dd) (nI mm) then min (hk + 1) 6 else hk) w1 (n) (N) t (ac + 1) := lJ_up h hR1_ hX1_ (by omega) (by omega) (by omega) _
            have hsS_ : aS ((va_up (va_up Y (hp + 2) (Y 0)) 0 (kAcc (Y 0) wr (nI dd) (nI mm))) 0) = aS (Y 0) := rfl
            generalize va_up (va_up Y (hp + 2) (Y 0)) 0 (kAcc (Y 0) wr (nI dd) (nI mm)) = Y1 at hT hj_ hsS_
            generalize (if 0 ≤ kAccR (aF (Y 0)) (aP (Y 0)) wr (nI dd) (nI mm) then (hp + 1) % 7 else hp) = hp1 at hT hj_
            generalize (if 0 ≤ kAccR (aF (Y 0)) (aP (Y 0)) wr (nI dd) (nI mm) then min (hk + 1) 6 else hk) = hk1 at hT hj_
            have hR1 := hj_.R
            have hk61 := hj_.2.1
            have hsum1 := rMany (lRep_I hR1)
            refine lv_istore (lv' := [(8, .int (zF w k_ 0)), (7, .int (zF w k_ 5)), (6, .int 1), (5, .int (nI n)), (4, .int (zF w k_ 0)), (0, .ref (gM G 0)), (1, .int wr), (2, .int (nI dd)), (3, .int (nI mm))]) hx hb dL_comes_181 hl (by decide) rfl (fun ls hl => ?_)
            refine lv_iload hx hb dL_comes_183 (lv_at hl 2 rfl) ?_
            refine lv_if_eq (tgt := 200) hx hb dL_comes_185 (by decide) (fun c_185 => ?_) (fun c_185 => ?_)
            · exact absurd c_185 (by decide +kernel)
            refine lv_iload hx hb dL_comes_188 (lv_at hl 4 rfl) ?_
            refine lv_if_ge (tgt := 239) hx hb dL_comes_190 (by decide) (fun c_190 => ?_) (fun c_190 => ?_)
            · refine lv_iload hx hb dL_comes_239 (lv_at hl 4 rfl) ?_
              refine lv_if_lt (tgt := 302) hx hb dL_comes_241 (by decide) (fun c_241 => ?_) (fun c_241 => ?_)
              · exact absurd (h.X.1 k_ hk_).1 (z_lt' c_241)
              · refine lv_iload hx hb dL_comes_244 (lv_at hl 0 rfl) ?_
                refine lv_iload hx hb dL_comes_246 (lv_at hl 4 rfl) ?_
                refine lv_icmp_ne (tgt := 300) hx hb dL_comes_248 (by decide) (fun c_248 => ?_) (fun c_248 => ?_)
                · exact absurd rfl c_248
                · refine lv_aload_n hx hb dL_comes_251 rfl (lv_at hl 5 rfl) ?_
                  refine lv_iload hx hb dL_comes_252 (lv_at hl 4 rfl) ?_
                  refine lv_iconst (v := 2) hx hb dL_comes_254 (by decide +kernel) ?_
                  refine zc_se (va_runV (As := [.int (zF w k_ 0), .int 2]) (rest := []) ⟨hx, hb, hml, hown, hts⟩ (c_X7_of l V G Y1 hp1 hk1 f1 f2 np pd pa kd nu mo (zF w k_ 0) 2 hJ) (cwV 2 hts (zgVG_ uC_294 uG_12 uG_13 uG_14 (wsCG _ uC_25)) rfl rfl rfl (by decide +kernel) ⟨Nat.le_of_ble_eq_true rfl, Nat.le_of_ble_eq_true rfl⟩) (zPreV (B := fun H => zTP V G Y1 hp1 hk1 f1 f2 np pd pa kd nu mo H) hT hE (zT_rt hE hT)) rfl rfl hl.1 rfl (lv_room (Nat.le_of_ble_eq_true rfl)) dL_comes_255 ⟨Nat.le_of_ble_eq_true rfl, Nat.le_of_ble_eq_true rfl⟩) ?_
                  refine zt_i (y := nI (dd + mm - 1)) (by rw [← f0_]; exact (lo_2 hR1 hk_).trans (f2_.trans (by rw [nI_add]; exact pk_sub (a := dd + mm) (b := 1) (by omega)))) ?_
                  refine lv_iload_n hx hb dL_comes_258 rfl (lv_at hl 7 rfl) ?_
                  refine lv_iload_n hx hb dL_comes_259 rfl (lv_at hl 8 rfl) ?_
                  refine lv_iadd hx hb dL_comes_260 ?_
                  refine zt_i (z_add (a := dd) (b := mm) (by first | rfl | omega)) ?_
                  refine lv_iconst (v := 1) hx hb dL_comes_261 (by decide +kernel) ?_
                  refine lv_isub hx hb dL_comes_262 ?_
                  refine zt_i (z_sub (a := dd + mm) (b := 1) (by omega) (by first | rfl | omega)) ?_
                  refine zb_ne (x := dd + mm - 1) (y := dd + mm - 1) (tgt := 300) hx hb dL_comes_263 (by decide) (by omega) (by omega) (fun c_263 => ?_) (fun c_263 => ?_)
                  · exact absurd rfl c_263
                  · refine lv_aload_n hx hb dL_comes_266 rfl (lv_at hl 5 rfl) ?_
                    refine lv_iload hx hb dL_comes_267 (lv_at hl 4 rfl) ?_
                    refine lv_iconst (v := 5) hx hb dL_comes_269 (by decide +kernel) ?_
                    refine zc_se (va_runV (As := [.int (zF w k_ 0), .int 5]) (rest := []) ⟨hx, hb, hml, hown, hts⟩ (c_X7_of l V G Y1 hp1 hk1 f1 f2 np pd pa kd nu mo (zF w k_ 0) 5 hJ) (cwV 2 hts (zgVG_ uC_294 uG_12 uG_13 uG_14 (wsCG _ uC_25)) rfl rfl rfl (by decide +kernel) ⟨Nat.le_of_ble_eq_true rfl, Nat.le_of_ble_eq_true rfl⟩) (zPreV (B := fun H => zTP V G Y1 hp1 hk1 f1 f2 np pd pa kd nu mo H) hT hE (zT_rt hE hT)) rfl rfl hl.1 rfl (lv_room (Nat.le_of_ble_eq_true rfl)) dL_comes_270 ⟨Nat.le_of_ble_eq_true rfl, Nat.le_of_ble_eq_true rfl⟩) ?_
                    refine zt_i (y := zF w k_ 5 + 1) (by rw [← f0_]; exact (lo_5 hR1 hk_).trans f5_) ?_
                    refine lv_iload hx hb dL_comes_273 (lv_at hl 1 rfl) ?_
                    refine lv_iconst (v := 1) hx hb dL_comes_275 (by decide +kernel) ?_
                    refine lv_iadd hx hb dL_comes_276 ?_
                    refine lv_icmp_ne (tgt := 300) hx hb dL_comes_277 (by decide) (fun c_277 => ?_) (fun c_277 => ?_)
                    · exact absurd rfl c_277
                    · refine lv_aload_n hx hb dL_comes_280 rfl (lv_at hl 5 rfl) ?_
                      refine lv_iconst (v := 1) hx hb dL_comes_281 (by decide +kernel) ?_
                      refine zc_se (va_runV (As := [.int 1]) (rest := []) ⟨hx, hb, hml, hown, hts⟩ (c_X7_count l V G Y1 hp1 hk1 f1 f2 np pd pa kd nu mo 1 hJ hk61) (cwV 1 hts (zgVG_ uC_307 uG_6 uG_7 uG_8 (wsCG _ uC_25)) rfl rfl rfl (by decide +kernel) ⟨Nat.le_of_ble_eq_true rfl, Nat.le_of_ble_eq_true rfl⟩) (zPreV (B := fun H => zTP V G Y1 hp1 hk1 f1 f2 np pd pa kd nu mo H) hT hE (zT_rt hE hT)) rfl rfl hl.1 rfl (lv_room (Nat.le_of_ble_eq_true rfl)) dL_comes_282 ⟨Nat.le_of_ble_eq_true rfl, Nat.le_of_ble_eq_true rfl⟩) ?_
                      refine zt_i (y := nI (mMany w1 n 0)) (lc_1 hR1 np hk1) ?_
                      refine lv_aload_n hx hb dL_comes_285 rfl (lv_at hl 5 rfl) ?_
                      refine lv_iconst (v := 2) hx hb dL_comes_286 (by decide +kernel) ?_
                      refine zc_se (va_runV (As := [.int 2]) (rest := [.int (nI (mMany w1 n 0))]) ⟨hx, hb, hml, hown, hts⟩ (c_X7_count l V G Y1 hp1 hk1 f1 f2 np pd pa kd nu mo 2 hJ hk61) (cwV 1 hts (zgVG_ uC_307 uG_6 uG_7 uG_8 (wsCG _ uC_25)) rfl rfl rfl (by decide +kernel) ⟨Nat.le_of_ble_eq_true rfl, Nat.le_of_ble_eq_true rfl⟩) (zPreV (B := fun H => zTP V G Y1 hp1 hk1 f1 f2 np pd pa kd nu mo H) hT hE (zT_rt hE hT)) rfl rfl hl.1 rfl (lv_room (Nat.le_of_ble_eq_true rfl)) dL_comes_287 ⟨Nat.le_of_ble_eq_true rfl, Nat.le_of_ble_eq_true rfl⟩) ?_
                      refine zt_i (y := nI (mMany w1 n 1)) (lc_2 hR1 np hk1) ?_
                      refine lv_iadd hx hb dL_comes_290 ?_
                      refine zt_i (z_add (a := mMany w1 n 0) (b := mMany w1 n 1) (by first | rfl | omega)) ?_
                      refine zt_i (y := nI (n)) (by rw [hsum1]) ?_
                      refine lv_iload hx hb dL_comes_291 (lv_at hl 3 rfl) ?_
                      refine zb_ne (x := n) (y := n) (tgt := 300) hx hb dL_comes_293 (by decide) (by omega) (by omega) (fun c_293 => ?_) (fun c_293 => ?_)
                      · exact absurd rfl c_293
                      · refine lv_iconst (v := 1) hx hb dL_comes_296 (by decide +kernel) ?_
                        refine lv_goto (tgt := 301) hx hb dL_comes_297 (by decide) ?_
                        exact zr_z hx hb hr hlocks hS (by first | exact Or.inl rfl | exact Or.inr rfl | exact z_ite01 | assumption) (⟨rfl, Y1, hp1, hk1, w1, n, N, hT, hj_, hsS_, h16_⟩) dL_comes_301
            · exact absurd (h.X.1 k_ hk_).1 c_190
          · exact absurd (h.X.1 k_ hk_).1 c_158
      · exact absurd rfl c_151
  have L_7 : ∀ (n_ r_ : Nat) (x_ : Int32) (ls : Array Slot), r_ ≤ mMany w n wr → mMany w n wr + 1 ≤ r_ + n_ → (lPi w n wr (nI dd) (nI mm) r_ x_) → (dd + mm ≤ 100 ∨ x_ = -6) → lv_has ls 9 [(5, .int (nI r_)), (4, .int x_), (0, .ref (gM G 0)), (1, .int wr), (2, .int (nI dd)), (3, .int (nI mm))] → W p l e (headSpec wsL_comes (zR 5 0 0)).room s m (List.toArray [.ref (gM G 0), .int wr, .int (nI dd), .int (nI mm)]) below meth c s.heap [] 0 0 (MQ below (zQi (fun r H => r = 1 ∧ ∃ (Y1 : Nat → zA) (hp1 hk1 : Nat) (w1 : Nat → Int32) (n1 N1 : Nat), zTP V G Y1 hp1 hk1 f1 f2 np pd pa kd nu mo H ∧ lJ Y1 hp1 hk1 w1 n1 N1 t (ac + 1) ∧ aS (Y1 0) = aS (Y 0) ∧ w1 16 = w 16) (zIn 404 G)) (List.toArray [.ref (gM G 0), .int wr, .int (nI dd), .int (nI mm)]) s 0 0 (zIn 404 G)) (F0 m 7 ls []) := by
    intro n_
    induction n_ with
    | zero => intro r_ x_  ls hi_ hn_; exact absurd hn_ (by omega)
    | succ n_ ih =>
      intro r_ x_  ls hi_ hn_ hi_1 hi_2  hl
      refine lv_iload hx hb dL_comes_7 (lv_at hl 0 rfl) ?_
      refine lv_aload_n hx hb dL_comes_9 rfl (lv_at hl 2 rfl) ?_
      refine lv_iconst (v := 1) hx hb dL_comes_10 (by decide +kernel) ?_
      refine lv_iload_n hx hb dL_comes_11 rfl (lv_at hl 3 rfl) ?_
      refine lv_iadd hx hb dL_comes_12 ?_
      refine zc_se (va_runV (As := [.int (1 + wr)]) (rest := [.int (nI r_)]) ⟨hx, hb, hml, hown, hts⟩ (c_X7_count l V G Y hp hk f1 f2 np pd pa kd nu mo (1 + wr) hJ hk6) (cwV 1 hts (zgVG_ uC_307 uG_6 uG_7 uG_8 (wsCG _ uC_25)) rfl rfl rfl (by decide +kernel) ⟨Nat.le_of_ble_eq_true rfl, Nat.le_of_ble_eq_true rfl⟩) (zPreV (B := fun H => zTP V G Y hp hk f1 f2 np pd pa kd nu mo H) hT hE (zT_rt hE hT)) rfl rfl hl.1 rfl (lv_room (Nat.le_of_ble_eq_true rfl)) dL_comes_13 ⟨Nat.le_of_ble_eq_true rfl, Nat.le_of_ble_eq_true rfl⟩) ?_
      refine zt_i (y := nI (mMany w n wr)) (lc_s hR np hk hwr) ?_
      refine zb_ge (x := r_) (y := mMany w n wr) (tgt := 104) hx hb dL_comes_16 (by decide) (by omega) (by omega) (fun c_16 => ?_) (fun c_16 => ?_)
      · have hx_ : x_ = lNo w (lPt w n wr dd mm) := lPt_end c_16 hi_1 hi_2
        subst hx_
        have hl : lv_has ls 9 [(5, .int (nI r_)), (4, .int (lNo w (lPt w n wr dd mm))), (0, .ref (gM G 0)), (1, .int wr), (2, .int (nI dd)), (3, .int (nI mm))] := hl
        exact J_104 ls trivial (lv_sub hl [1, 2, 3, 4, 5] rfl)
      · refine lv_iload_n hx hb dL_comes_19 rfl (lv_at hl 4 rfl) ?_
        refine lv_iload_n hx hb dL_comes_20 rfl (lv_at hl 5 rfl) ?_
        refine lv_iadd hx hb dL_comes_21 ?_
        refine zt_i (z_add (a := dd) (b := mm) (by first | rfl | omega)) ?_
        refine lv_bipush (v := 100) hx hb dL_comes_22 (by decide +kernel) ?_
        refine zb_gt (x := dd + mm) (y := 100) (tgt := 104) hx hb dL_comes_24 (by decide) (by omega) (by omega) (fun c_24 => ?_) (fun c_24 => ?_)
        · have hx_ : x_ = lNo w (lPt w n wr dd mm) := lPt_big c_24 hi_2
          subst hx_
          have hl : lv_has ls 9 [(5, .int (nI r_)), (4, .int (lNo w (lPt w n wr dd mm))), (0, .ref (gM G 0)), (1, .int wr), (2, .int (nI dd)), (3, .int (nI mm))] := hl
          exact J_104 ls trivial (lv_sub hl [1, 2, 3, 4, 5] rfl)
        · obtain ⟨k_, hk_, hs_, hrk_⟩ := lAt c_16
          refine lv_aload_n hx hb dL_comes_27 rfl (lv_at hl 2 rfl) ?_
          refine lv_iload_n hx hb dL_comes_28 rfl (lv_at hl 3 rfl) ?_
          refine lv_iload hx hb dL_comes_29 (lv_at hl 0 rfl) ?_
          refine zc_se (va_runV (As := [.int wr, .int (nI r_)]) (rest := []) ⟨hx, hb, hml, hown, hts⟩ (c_X7_waiting l V G Y hp hk f1 f2 np pd pa kd nu mo wr (nI r_) hJ) (cwV 2 hts (zgVG_ uC_295 uG_9 uG_10 uG_11 (wsCG _ uC_25)) rfl rfl rfl (by decide +kernel) ⟨Nat.le_of_ble_eq_true rfl, Nat.le_of_ble_eq_true rfl⟩) (zPreV (B := fun H => zTP V G Y hp hk f1 f2 np pd pa kd nu mo H) hT hE (zT_rt hE hT)) rfl rfl hl.1 rfl (lv_room (Nat.le_of_ble_eq_true rfl)) dL_comes_31 ⟨Nat.le_of_ble_eq_true rfl, Nat.le_of_ble_eq_true rfl⟩) ?_
          refine zt_i (y := zF w k_ 0) (by rw [← hrk_]; exact lw_ hR hwr hk_ hs_) ?_
          refine lv_istore (lv' := [(6, .int (zF w k_ 0)), (5, .int (nI r_)), (4, .int x_), (0, .ref (gM G 0)), (1, .int wr), (2, .int (nI dd)), (3, .int (nI mm))]) hx hb dL_comes_34 hl (by decide) rfl (fun ls hl => ?_)
          refine lv_aload_n hx hb dL_comes_36 rfl (lv_at hl 3 rfl) ?_
          refine lv_iload hx hb dL_comes_37 (lv_at hl 0 rfl) ?_
          refine lv_iconst (v := 2) hx hb dL_comes_39 (by decide +kernel) ?_
          refine zc_se (va_runV (As := [.int (zF w k_ 0), .int 2]) (rest := []) ⟨hx, hb, hml, hown, hts⟩ (c_X7_of l V G Y hp hk f1 f2 np pd pa kd nu mo (zF w k_ 0) 2 hJ) (cwV 2 hts (zgVG_ uC_294 uG_12 uG_13 uG_14 (wsCG _ uC_25)) rfl rfl rfl (by decide +kernel) ⟨Nat.le_of_ble_eq_true rfl, Nat.le_of_ble_eq_true rfl⟩) (zPreV (B := fun H => zTP V G Y hp hk f1 f2 np pd pa kd nu mo H) hT hE (zT_rt hE hT)) rfl rfl hl.1 rfl (lv_room (Nat.le_of_ble_eq_true rfl)) dL_comes_40 ⟨Nat.le_of_ble_eq_true rfl, Nat.le_of_ble_eq_true rfl⟩) ?_
          refine zt_i (y := mLast w k_) (lo_2 hR hk_) ?_
          refine lv_iload_n hx hb dL_comes_43 rfl (lv_at hl 5 rfl) ?_
          refine lv_iconst (v := 1) hx hb dL_comes_44 (by decide +kernel) ?_
          refine lv_isub hx hb dL_comes_45 ?_
          refine lv_icmp_ne (tgt := 69) hx hb dL_comes_46 (by decide) (fun c_46 => ?_) (fun c_46 => ?_)
          · refine lv_iconst (v := 0) hx hb dL_comes_69 (by decide +kernel) ?_
            refine lv_istore (lv' := [(7, .int 0), (6, .int (zF w k_ 0)), (5, .int (nI r_)), (4, .int x_), (0, .ref (gM G 0)), (1, .int wr), (2, .int (nI dd)), (3, .int (nI mm))]) hx hb dL_comes_70 hl (by decide) rfl (fun ls hl => ?_)
            refine lv_iload hx hb dL_comes_72 (lv_at hl 0 rfl) ?_
            refine lv_if_eq (tgt := 94) hx hb dL_comes_74 (by decide) (fun c_74 => ?_) (fun c_74 => ?_)
            rotate_left
            · exact absurd c_74 (by decide +kernel)
            refine lv_iload hx hb dL_comes_94 (lv_at hl 3 rfl) ?_
            refine lv_istore (lv' := [(4, .int x_), (7, .int 0), (6, .int (zF w k_ 0)), (5, .int (nI r_)), (0, .ref (gM G 0)), (1, .int wr), (2, .int (nI dd)), (3, .int (nI mm))]) hx hb dL_comes_96 hl (by decide) rfl (fun ls hl => ?_)
            refine lv_iinc (v := nI (r_ + 1)) (lv' := [(5, .int (nI (r_ + 1))), (4, .int x_), (7, .int 0), (6, .int (zF w k_ 0)), (0, .ref (gM G 0)), (1, .int wr), (2, .int (nI dd)), (3, .int (nI mm))]) hx hb dL_comes_98 hl (k := 3) rfl (z_inc1 r_) (by decide) rfl (fun ls hl => ?_)
            refine lv_goto (tgt := 7) hx hb dL_comes_101 (by decide) ?_
            exact ih (r_ + 1) x_ ls (by omega) (by omega) (lPi_skip hk_ hs_ hrk_ (fun q => c_46 q.2.1) hi_1) (Or.inl c_24) (lv_sub hl [0, 1, 4, 5, 6, 7] rfl)
          · refine lv_iload_n hx hb dL_comes_49 rfl (lv_at hl 5 rfl) ?_
            refine lv_aload_n hx hb dL_comes_50 rfl (lv_at hl 3 rfl) ?_
            refine lv_iload hx hb dL_comes_51 (lv_at hl 0 rfl) ?_
            refine lv_iconst (v := 1) hx hb dL_comes_53 (by decide +kernel) ?_
            refine zc_se (va_runV (As := [.int (zF w k_ 0), .int 1]) (rest := [.int (nI dd)]) ⟨hx, hb, hml, hown, hts⟩ (c_X7_of l V G Y hp hk f1 f2 np pd pa kd nu mo (zF w k_ 0) 1 hJ) (cwV 2 hts (zgVG_ uC_294 uG_12 uG_13 uG_14 (wsCG _ uC_25)) rfl rfl rfl (by decide +kernel) ⟨Nat.le_of_ble_eq_true rfl, Nat.le_of_ble_eq_true rfl⟩) (zPreV (B := fun H => zTP V G Y hp hk f1 f2 np pd pa kd nu mo H) hT hE (zT_rt hE hT)) rfl rfl hl.1 rfl (lv_room (Nat.le_of_ble_eq_true rfl)) dL_comes_54 ⟨Nat.le_of_ble_eq_true rfl, Nat.le_of_ble_eq_true rfl⟩) ?_
            refine zt_i (y := zF w k_ 2) (lo_1 hR hk_) ?_
            refine lv_isub hx hb dL_comes_57 ?_
            refine lv_iload_n hx hb dL_comes_58 rfl (lv_at hl 6 rfl) ?_
            refine lv_iadd hx hb dL_comes_59 ?_
            refine lv_bipush (v := 9) hx hb dL_comes_60 (by decide +kernel) ?_
            refine lv_icmp_gt (tgt := 69) hx hb dL_comes_62 (by decide) (fun c_62 => ?_) (fun c_62 => ?_)
            · refine lv_iconst (v := 0) hx hb dL_comes_69 (by decide +kernel) ?_
              refine lv_istore (lv' := [(7, .int 0), (6, .int (zF w k_ 0)), (5, .int (nI r_)), (4, .int x_), (0, .ref (gM G 0)), (1, .int wr), (2, .int (nI dd)), (3, .int (nI mm))]) hx hb dL_comes_70 hl (by decide) rfl (fun ls hl => ?_)
              refine lv_iload hx hb dL_comes_72 (lv_at hl 0 rfl) ?_
              refine lv_if_eq (tgt := 94) hx hb dL_comes_74 (by decide) (fun c_74 => ?_) (fun c_74 => ?_)
              rotate_left
              · exact absurd c_74 (by decide +kernel)
              refine lv_iload hx hb dL_comes_94 (lv_at hl 3 rfl) ?_
              refine lv_istore (lv' := [(4, .int x_), (7, .int 0), (6, .int (zF w k_ 0)), (5, .int (nI r_)), (0, .ref (gM G 0)), (1, .int wr), (2, .int (nI dd)), (3, .int (nI mm))]) hx hb dL_comes_96 hl (by decide) rfl (fun ls hl => ?_)
              refine lv_iinc (v := nI (r_ + 1)) (lv' := [(5, .int (nI (r_ + 1))), (4, .int x_), (7, .int 0), (6, .int (zF w k_ 0)), (0, .ref (gM G 0)), (1, .int wr), (2, .int (nI dd)), (3, .int (nI mm))]) hx hb dL_comes_98 hl (k := 3) rfl (z_inc1 r_) (by decide) rfl (fun ls hl => ?_)
              refine lv_goto (tgt := 7) hx hb dL_comes_101 (by decide) ?_
              exact ih (r_ + 1) x_ ls (by omega) (by omega) (lPi_skip hk_ hs_ hrk_ (fun q => by have e_ := q.2.2; rw [← lMore c_46] at e_; exact z_lt' c_62 e_) hi_1) (Or.inl c_24) (lv_sub hl [0, 1, 4, 5, 6, 7] rfl)
            · have hcan_ : lCan w wr (nI dd) (nI mm) k_ := ⟨hs_, c_46, by rw [← lMore c_46]; exact z_nlt c_62⟩
              rcases hi_1 with ⟨hx_, h1_⟩ | ⟨b_, hb_, hcb_, hx_, hrb_, hmb_⟩
              · subst hx_
                have hl : lv_has ls 9 [(6, .int (zF w k_ 0)), (5, .int (nI r_)), (4, .int (-6)), (0, .ref (gM G 0)), (1, .int wr), (2, .int (nI dd)), (3, .int (nI mm))] := hl
                refine lv_iconst (v := 1) hx hb dL_comes_65 (by decide +kernel) ?_
                refine lv_goto (tgt := 70) hx hb dL_comes_66 (by decide) ?_
                refine lv_istore (lv' := [(7, .int 1), (6, .int (zF w k_ 0)), (5, .int (nI r_)), (4, .int (-6)), (0, .ref (gM G 0)), (1, .int wr), (2, .int (nI dd)), (3, .int (nI mm))]) hx hb dL_comes_70 hl (by decide) rfl (fun ls hl => ?_)
                refine lv_iload hx hb dL_comes_72 (lv_at hl 0 rfl) ?_
                refine lv_if_eq (tgt := 94) hx hb dL_comes_74 (by decide) (fun c_74 => ?_) (fun c_74 => ?_)
                · exact absurd c_74 (by decide +kernel)
                refine lv_iload hx hb dL_comes_77 (lv_at hl 3 rfl) ?_
                refine lv_if_lt (tgt := 89) hx hb dL_comes_79 (by decide) (fun c_79 => ?_) (fun c_79 => ?_)
                · refine lv_iload hx hb dL_comes_89 (lv_at hl 1 rfl) ?_
                  refine lv_goto (tgt := 96) hx hb dL_comes_91 (by decide) ?_
                  refine lv_istore (lv' := [(4, .int (zF w k_ 0)), (7, .int 1), (6, .int (zF w k_ 0)), (5, .int (nI r_)), (0, .ref (gM G 0)), (1, .int wr), (2, .int (nI dd)), (3, .int (nI mm))]) hx hb dL_comes_96 hl (by decide) rfl (fun ls hl => ?_)
                  refine lv_iinc (v := nI (r_ + 1)) (lv' := [(5, .int (nI (r_ + 1))), (4, .int (zF w k_ 0)), (7, .int 1), (6, .int (zF w k_ 0)), (0, .ref (gM G 0)), (1, .int wr), (2, .int (nI dd)), (3, .int (nI mm))]) hx hb dL_comes_98 hl (k := 3) rfl (z_inc1 r_) (by decide) rfl (fun ls hl => ?_)
                  refine lv_goto (tgt := 7) hx hb dL_comes_101 (by decide) ?_
                  exact ih (r_ + 1) (zF w k_ 0) ls (by omega) (by omega) (lPi_first hk_ hrk_ hcan_ h1_) (Or.inl c_24) (lv_sub hl [0, 1, 4, 5, 6, 7] rfl)
                · exact absurd (by decide) c_79
              · subst hx_
                have hl : lv_has ls 9 [(6, .int (zF w k_ 0)), (5, .int (nI r_)), (4, .int (zF w b_ 0)), (0, .ref (gM G 0)), (1, .int wr), (2, .int (nI dd)), (3, .int (nI mm))] := hl
                refine lv_iconst (v := 1) hx hb dL_comes_65 (by decide +kernel) ?_
                refine lv_goto (tgt := 70) hx hb dL_comes_66 (by decide) ?_
                refine lv_istore (lv' := [(7, .int 1), (6, .int (zF w k_ 0)), (5, .int (nI r_)), (4, .int (zF w b_ 0)), (0, .ref (gM G 0)), (1, .int wr), (2, .int (nI dd)), (3, .int (nI mm))]) hx hb dL_comes_70 hl (by decide) rfl (fun ls hl => ?_)
                refine lv_iload hx hb dL_comes_72 (lv_at hl 0 rfl) ?_
                refine lv_if_eq (tgt := 94) hx hb dL_comes_74 (by decide) (fun c_74 => ?_) (fun c_74 => ?_)
                · exact absurd c_74 (by decide +kernel)
                refine lv_iload hx hb dL_comes_77 (lv_at hl 3 rfl) ?_
                refine lv_if_lt (tgt := 89) hx hb dL_comes_79 (by decide) (fun c_79 => ?_) (fun c_79 => ?_)
                · exact absurd (h.X.1 b_ hb_).1 (z_lt' c_79)
                · refine lv_iload hx hb dL_comes_82 (lv_at hl 1 rfl) ?_
                  refine lv_iload hx hb dL_comes_84 (lv_at hl 3 rfl) ?_
                  refine lv_icmp_ge (tgt := 94) hx hb dL_comes_86 (by decide) (fun c_86 => ?_) (fun c_86 => ?_)
                  · refine lv_iload hx hb dL_comes_94 (lv_at hl 3 rfl) ?_
                    refine lv_istore (lv' := [(4, .int (zF w b_ 0)), (7, .int 1), (6, .int (zF w k_ 0)), (5, .int (nI r_)), (0, .ref (gM G 0)), (1, .int wr), (2, .int (nI dd)), (3, .int (nI mm))]) hx hb dL_comes_96 hl (by decide) rfl (fun ls hl => ?_)
                    refine lv_iinc (v := nI (r_ + 1)) (lv' := [(5, .int (nI (r_ + 1))), (4, .int (zF w b_ 0)), (7, .int 1), (6, .int (zF w k_ 0)), (0, .ref (gM G 0)), (1, .int wr), (2, .int (nI dd)), (3, .int (nI mm))]) hx hb dL_comes_98 hl (k := 3) rfl (z_inc1 r_) (by decide) rfl (fun ls hl => ?_)
                    refine lv_goto (tgt := 7) hx hb dL_comes_101 (by decide) ?_
                    exact ih (r_ + 1) (zF w b_ 0) ls (by omega) (by omega) (lPi_keep hk_ hrk_ hcan_ hb_ hcb_ hrb_ hmb_ (fun q => z_lt' (lRep_O hR k_ b_ q hb_).1 c_86)) (Or.inl c_24) (lv_sub hl [0, 1, 4, 5, 6, 7] rfl)
                  · refine lv_iload hx hb dL_comes_89 (lv_at hl 1 rfl) ?_
                    refine lv_goto (tgt := 96) hx hb dL_comes_91 (by decide) ?_
                    refine lv_istore (lv' := [(4, .int (zF w k_ 0)), (7, .int 1), (6, .int (zF w k_ 0)), (5, .int (nI r_)), (0, .ref (gM G 0)), (1, .int wr), (2, .int (nI dd)), (3, .int (nI mm))]) hx hb dL_comes_96 hl (by decide) rfl (fun ls hl => ?_)
                    refine lv_iinc (v := nI (r_ + 1)) (lv' := [(5, .int (nI (r_ + 1))), (4, .int (zF w k_ 0)), (7, .int 1), (6, .int (zF w k_ 0)), (0, .ref (gM G 0)), (1, .int wr), (2, .int (nI dd)), (3, .int (nI mm))]) hx hb dL_comes_98 hl (k := 3) rfl (z_inc1 r_) (by decide) rfl (fun ls hl => ?_)
                    refine lv_goto (tgt := 7) hx hb dL_comes_101 (by decide) ?_
                    exact ih (r_ + 1) (zF w k_ 0) ls (by omega) (by omega) (lPi_new hk_ hrk_ hcan_ hmb_ (lNum_lt (lRep_O hR) hk_ (z_nle c_86))) (Or.inl c_24) (lv_sub hl [0, 1, 4, 5, 6, 7] rfl)
  exact L_7 (mMany w n wr + 1) 0 (-6) ls (by omega) (by omega) lPi_0 (Or.inr rfl) (lv_sub hl [0, 1, 2, 3, 4, 5] rfl)
