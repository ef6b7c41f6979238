set_option maxHeartbeats 4000000 in
set_option maxRecDepth 100000 in
theorem c_L_inOrder (l : Launch) (V : zV) (G : Nat → Nat) (Y : Nat → zA) (hp hk : Nat) (f1 f2 : Int32) (np : Nat) (pd : Nat → Int32) (pa : Nat) (kd nu mo : Int32) (w : Nat → Int32) (n N t ac : Nat) (wr : Int32) (hJ : zInj 404 G) (h : lJ Y hp hk w n N t ac) (hwr : wr = 0 ∨ wr = 1) : Met l yL_inOrder wsL_inOrder (zR 4 0 0) (zPc V [.ref (gM G 0), .int wr] (fun H => zTP V G Y hp hk f1 f2 np pd pa kd nu mo H)) (vp_Si (fun r => r = 1)) 0 0 (fun _ => False) := by
  refine Met.ofW (cc := cL_inOrder) (maxL := 8) (ret := (some .boolean)) (by decide) rfl ?_
  intro p e s m args below meth c s₁ B hml hv
  obtain ⟨rfl, hP, hE⟩ := hv
  have hx := B.exec
  have hb := B.bytes
  have hr := B.returns
  have hts := atoms_spec (ws := wsL_inOrder) B.pre
  have hown : s.vm.findClass RL = some m.cls := findClass_of_methodNamed B.named
  have hlocks := B.notSynchronized
  have hl := lv_entry ([.ref (gM G 0), .int wr]) (n := 8) (Nat.le_of_ble_eq_true rfl)
  rw [lg_entry_eq]
  generalize (lg_sl ([.ref (gM G 0), .int wr]) ++ List.replicate (8 - (lg_sl ([.ref (gM G 0), .int wr])).length) Slot.unset).toArray = ls at hl ⊢
  have hl : lv_has ls 8 [(0, .ref (gM G 0)), (1, .int wr)] := hl
  have hT := hP
  have hR := h.R
  have hk6 := h.2.1
  have hc := lRep_c hR
  have h30 := hc.2.1
  have hm30 := lMany_le w n wr
  refine lv_aload_n hx hb dL_inOrder_0 rfl (lv_at hl 0 rfl) ?_
  refine lv_iconst (v := 1) hx hb dL_inOrder_1 (by decide +kernel) ?_
  refine lv_iload_n hx hb dL_inOrder_2 rfl (lv_at hl 1 rfl) ?_
  refine lv_iadd hx hb dL_inOrder_3 ?_
  refine zc_se (va_runV (As := [.int (1 + wr)]) (rest := []) ⟨hx, hb, hml, hown, hts⟩ (c_X7_count l V G Y hp hk f1 f2 np pd pa kd nu mo (1 + wr) hJ hk6) (cwV 1 hts (zgVG_ uC_307 uG_6 uG_7 uG_8 (wsCG _ uC_25)) rfl rfl rfl (by decide +kernel) ⟨Nat.le_of_ble_eq_true rfl, Nat.le_of_ble_eq_true rfl⟩) (zPreV (B := fun H => zTP V G Y hp hk f1 f2 np pd pa kd nu mo H) hT hE (zT_rt hE hT)) rfl rfl hl.1 rfl (lv_room (Nat.le_of_ble_eq_true rfl)) dL_inOrder_4 ⟨Nat.le_of_ble_eq_true rfl, Nat.le_of_ble_eq_true rfl⟩) ?_
  refine zt_i (y := nI (mMany w n wr)) (lc_s hR np hk hwr) ?_
  refine lv_istore_n (lv' := [(2, .int (nI (mMany w n wr))), (0, .ref (gM G 0)), (1, .int wr)]) hx hb dL_inOrder_7 rfl hl (by decide) rfl (fun ls hl => ?_)
  refine lv_iconst (v := 0) hx hb dL_inOrder_8 (by decide +kernel) ?_
  refine lv_istore_n (lv' := [(3, .int 0), (2, .int (nI (mMany w n wr))), (0, .ref (gM G 0)), (1, .int wr)]) hx hb dL_inOrder_9 rfl hl (by decide) rfl (fun ls hl => ?_)
  have L_10 : ∀ (n_ r_ : Nat) (ls : Array Slot), r_ ≤ mMany w n wr → mMany w n wr + 1 ≤ r_ + n_ → lv_has ls 8 [(3, .int (nI r_)), (2, .int (nI (mMany w n wr))), (0, .ref (gM G 0)), (1, .int wr)] → W p l e (headSpec wsL_inOrder (zR 4 0 0)).room s m (List.toArray [.ref (gM G 0), .int wr]) below meth c s.heap [] 0 0 (MQ below (vp_Si (fun r => r = 1)) (List.toArray [.ref (gM G 0), .int wr]) s 0 0 (fun _ => False)) (F0 m 10 ls []) := by
    intro n_
    induction n_ with
    | zero => intro r_   ls hi_ hn_; exact absurd hn_ (by omega)
    | succ n_ ih =>
      intro r_   ls hi_ hn_   hl
      refine lv_iload_n hx hb dL_inOrder_10 rfl (lv_at hl 0 rfl) ?_
      refine lv_iload_n hx hb dL_inOrder_11 rfl (lv_at hl 1 rfl) ?_
      refine zb_ge (x := r_) (y := mMany w n wr) (tgt := 212) hx hb dL_inOrder_12 (by decide) (by omega) (by omega) (fun c_12 => ?_) (fun c_12 => ?_)
      · refine lv_aload_n hx hb dL_inOrder_212 rfl (lv_at hl 2 rfl) ?_
        refine lv_iload_n hx hb dL_inOrder_213 rfl (lv_at hl 3 rfl) ?_
        refine lv_iload_n hx hb dL_inOrder_214 rfl (lv_at hl 1 rfl) ?_
        refine zc_se (va_runV (As := [.int wr, .int (nI (mMany w n wr))]) (rest := []) ⟨hx, hb, hml, hown, hts⟩ (c_X7_waiting l V G Y hp hk f1 f2 np pd pa kd nu mo wr (nI (mMany w n wr)) hJ) (cwV 2 hts (zgVG_ uC_295 uG_9 uG_10 uG_11 (wsCG _ uC_25)) rfl rfl rfl (by decide +kernel) ⟨Nat.le_of_ble_eq_true rfl, Nat.le_of_ble_eq_true rfl⟩) (zPreV (B := fun H => zTP V G Y hp hk f1 f2 np pd pa kd nu mo H) hT hE (zT_rt hE hT)) rfl rfl hl.1 rfl (lv_room (Nat.le_of_ble_eq_true rfl)) dL_inOrder_215 ⟨Nat.le_of_ble_eq_true rfl, Nat.le_of_ble_eq_true rfl⟩) ?_
        refine zt_i (y := (-1)) (lw_end hR hwr) ?_
        refine lv_iconst (v := (-1)) hx hb dL_inOrder_218 (by decide +kernel) ?_
        refine lv_icmp_ne (tgt := 236) hx hb dL_inOrder_219 (by decide) (fun c_219 => ?_) (fun c_219 => ?_)
        · exact absurd rfl c_219
        · refine lv_aload_n hx hb dL_inOrder_222 rfl (lv_at hl 2 rfl) ?_
          refine lv_iload_n hx hb dL_inOrder_223 rfl (lv_at hl 3 rfl) ?_
          refine lv_iconst (v := (-1)) hx hb dL_inOrder_224 (by decide +kernel) ?_
          refine zc_se (va_runV (As := [.int wr, .int (-1)]) (rest := []) ⟨hx, hb, hml, hown, hts⟩ (c_X7_waiting l V G Y hp hk f1 f2 np pd pa kd nu mo wr (-1) hJ) (cwV 2 hts (zgVG_ uC_295 uG_9 uG_10 uG_11 (wsCG _ uC_25)) rfl rfl rfl (by decide +kernel) ⟨Nat.le_of_ble_eq_true rfl, Nat.le_of_ble_eq_true rfl⟩) (zPreV (B := fun H => zTP V G Y hp hk f1 f2 np pd pa kd nu mo H) hT hE (zT_rt hE hT)) rfl rfl hl.1 rfl (lv_room (Nat.le_of_ble_eq_true rfl)) dL_inOrder_225 ⟨Nat.le_of_ble_eq_true rfl, Nat.le_of_ble_eq_true rfl⟩) ?_
          refine zt_i (y := (-1)) (lw_neg hR hwr) ?_
          refine lv_iconst (v := (-1)) hx hb dL_inOrder_228 (by decide +kernel) ?_
          refine lv_icmp_ne (tgt := 236) hx hb dL_inOrder_229 (by decide) (fun c_229 => ?_) (fun c_229 => ?_)
          · exact absurd rfl c_229
          · refine lv_iconst (v := 1) hx hb dL_inOrder_232 (by decide +kernel) ?_
            refine lv_goto (tgt := 237) hx hb dL_inOrder_233 (by decide) ?_
            exact zr_sz hx hb hr hlocks (by first | exact Or.inl rfl | exact Or.inr rfl | exact z_ite01 | assumption) rfl dL_inOrder_237
      · obtain ⟨k_, hk_, hs_, hrk_⟩ := lAt c_12
        refine lv_aload_n hx hb dL_inOrder_15 rfl (lv_at hl 2 rfl) ?_
        refine lv_iload_n hx hb dL_inOrder_16 rfl (lv_at hl 3 rfl) ?_
        refine lv_iload_n hx hb dL_inOrder_17 rfl (lv_at hl 0 rfl) ?_
        refine zc_se (va_runV (As := [.int wr, .int (nI r_)]) (rest := []) ⟨hx, hb, hml, hown, hts⟩ (c_X7_waiting l V G Y hp hk f1 f2 np pd pa kd nu mo wr (nI r_) hJ) (cwV 2 hts (zgVG_ uC_295 uG_9 uG_10 uG_11 (wsCG _ uC_25)) rfl rfl rfl (by decide +kernel) ⟨Nat.le_of_ble_eq_true rfl, Nat.le_of_ble_eq_true rfl⟩) (zPreV (B := fun H => zTP V G Y hp hk f1 f2 np pd pa kd nu mo H) hT hE (zT_rt hE hT)) rfl rfl hl.1 rfl (lv_room (Nat.le_of_ble_eq_true rfl)) dL_inOrder_18 ⟨Nat.le_of_ble_eq_true rfl, Nat.le_of_ble_eq_true rfl⟩) ?_
        refine zt_i (y := zF w k_ 0) (by rw [← hrk_]; exact lw_ hR hwr hk_ hs_) ?_
        refine lv_istore (lv' := [(4, .int (zF w k_ 0)), (3, .int (nI r_)), (2, .int (nI (mMany w n wr))), (0, .ref (gM G 0)), (1, .int wr)]) hx hb dL_inOrder_21 hl (by decide) rfl (fun ls hl => ?_)
        have J_87 : ∀ (ls : Array Slot), True → lv_has ls 8 [(4, .int (zF w k_ 0)), (3, .int (nI r_)), (2, .int (nI (mMany w n wr))), (0, .ref (gM G 0)), (1, .int wr)] → W p l e (headSpec wsL_inOrder (zR 4 0 0)).room s m (List.toArray [.ref (gM G 0), .int wr]) below meth c s.heap [] 0 0 (MQ below (vp_Si (fun r => r = 1)) (List.toArray [.ref (gM G 0), .int wr]) s 0 0 (fun _ => False)) (F0 m 87 ls []) := by
          intro   ls _   hl
          obtain ⟨d_, m_, hd_, hm_, h1_, h9_, hdm_, hla_⟩ := lRep_dm hR hk_
          refine lv_iconst (v := 1) hx hb dL_inOrder_87 (by decide +kernel) ?_
          refine lv_goto (tgt := 92) hx hb dL_inOrder_88 (by decide) ?_
          refine lv_istore (lv' := [(6, .int 1), (4, .int (zF w k_ 0)), (3, .int (nI r_)), (2, .int (nI (mMany w n wr))), (0, .ref (gM G 0)), (1, .int wr)]) hx hb dL_inOrder_92 hl (by decide) rfl (fun ls hl => ?_)
          refine lv_aload_n hx hb dL_inOrder_94 rfl (lv_at hl 4 rfl) ?_
          refine lv_iload hx hb dL_inOrder_95 (lv_at hl 1 rfl) ?_
          refine lv_iconst (v := 0) hx hb dL_inOrder_97 (by decide +kernel) ?_
          refine zc_se (va_runV (As := [.int (zF w k_ 0), .int 0]) (rest := []) ⟨hx, hb, hml, hown, hts⟩ (c_X7_of l V G Y hp hk f1 f2 np pd pa kd nu mo (zF w k_ 0) 0 hJ) (cwV 2 hts (zgVG_ uC_294 uG_12 uG_13 uG_14 (wsCG _ uC_25)) rfl rfl rfl (by decide +kernel) ⟨Nat.le_of_ble_eq_true rfl, Nat.le_of_ble_eq_true rfl⟩) (zPreV (B := fun H => zTP V G Y hp hk f1 f2 np pd pa kd nu mo H) hT hE (zT_rt hE hT)) rfl rfl hl.1 rfl (lv_room (Nat.le_of_ble_eq_true rfl)) dL_inOrder_98 ⟨Nat.le_of_ble_eq_true rfl, Nat.le_of_ble_eq_true rfl⟩) ?_
          refine zt_i (y := wr) ((lo_0 hR hk_).trans hs_) ?_
          refine lv_iload_n hx hb dL_inOrder_101 rfl (lv_at hl 5 rfl) ?_
          refine lv_icmp_ne (tgt := 158) hx hb dL_inOrder_102 (by decide) (fun c_102 => ?_) (fun c_102 => ?_)
          · exact absurd rfl c_102
          · refine lv_aload_n hx hb dL_inOrder_105 rfl (lv_at hl 4 rfl) ?_
            refine lv_iload hx hb dL_inOrder_106 (lv_at hl 1 rfl) ?_
            refine lv_iconst (v := 2) hx hb dL_inOrder_108 (by decide +kernel) ?_
            refine zc_se (va_runV (As := [.int (zF w k_ 0), .int 2]) (rest := []) ⟨hx, hb, hml, hown, hts⟩ (c_X7_of l V G Y hp hk f1 f2 np pd pa kd nu mo (zF w k_ 0) 2 hJ) (cwV 2 hts (zgVG_ uC_294 uG_12 uG_13 uG_14 (wsCG _ uC_25)) rfl rfl rfl (by decide +kernel) ⟨Nat.le_of_ble_eq_true rfl, Nat.le_of_ble_eq_true rfl⟩) (zPreV (B := fun H => zTP V G Y hp hk f1 f2 np pd pa kd nu mo H) hT hE (zT_rt hE hT)) rfl rfl hl.1 rfl (lv_room (Nat.le_of_ble_eq_true rfl)) dL_inOrder_109 ⟨Nat.le_of_ble_eq_true rfl, Nat.le_of_ble_eq_true rfl⟩) ?_
            refine zt_i (y := nI (d_ + m_ - 1)) ((lo_2 hR hk_).trans hla_) ?_
            refine lv_bipush (v := 99) hx hb dL_inOrder_112 (by decide +kernel) ?_
            refine zb_gt (x := d_ + m_ - 1) (y := 99) (tgt := 158) hx hb dL_inOrder_114 (by decide) (by omega) (by omega) (fun c_114 => ?_) (fun c_114 => ?_)
            · exact absurd c_114 (by omega)
            · refine lv_aload_n hx hb dL_inOrder_117 rfl (lv_at hl 4 rfl) ?_
              refine lv_iload hx hb dL_inOrder_118 (lv_at hl 1 rfl) ?_
              refine lv_iconst (v := 2) hx hb dL_inOrder_120 (by decide +kernel) ?_
              refine zc_se (va_runV (As := [.int (zF w k_ 0), .int 2]) (rest := []) ⟨hx, hb, hml, hown, hts⟩ (c_X7_of l V G Y hp hk f1 f2 np pd pa kd nu mo (zF w k_ 0) 2 hJ) (cwV 2 hts (zgVG_ uC_294 uG_12 uG_13 uG_14 (wsCG _ uC_25)) rfl rfl rfl (by decide +kernel) ⟨Nat.le_of_ble_eq_true rfl, Nat.le_of_ble_eq_true rfl⟩) (zPreV (B := fun H => zTP V G Y hp hk f1 f2 np pd pa kd nu mo H) hT hE (zT_rt hE hT)) rfl rfl hl.1 rfl (lv_room (Nat.le_of_ble_eq_true rfl)) dL_inOrder_121 ⟨Nat.le_of_ble_eq_true rfl, Nat.le_of_ble_eq_true rfl⟩) ?_
              refine zt_i (y := nI (d_ + m_ - 1)) ((lo_2 hR hk_).trans hla_) ?_
              refine lv_aload_n hx hb dL_inOrder_124 rfl (lv_at hl 4 rfl) ?_
              refine lv_iload hx hb dL_inOrder_125 (lv_at hl 1 rfl) ?_
              refine lv_iconst (v := 1) hx hb dL_inOrder_127 (by decide +kernel) ?_
              refine zc_se (va_runV (As := [.int (zF w k_ 0), .int 1]) (rest := [.int (nI (d_ + m_ - 1))]) ⟨hx, hb, hml, hown, hts⟩ (c_X7_of l V G Y hp hk f1 f2 np pd pa kd nu mo (zF w k_ 0) 1 hJ) (cwV 2 hts (zgVG_ uC_294 uG_12 uG_13 uG_14 (wsCG _ uC_25)) rfl rfl rfl (by decide +kernel) ⟨Nat.le_of_ble_eq_true rfl, Nat.le_of_ble_eq_true rfl⟩) (zPreV (B := fun H => zTP V G Y hp hk f1 f2 np pd pa kd nu mo H) hT hE (zT_rt hE hT)) rfl rfl hl.1 rfl (lv_room (Nat.le_of_ble_eq_true rfl)) dL_inOrder_128 ⟨Nat.le_of_ble_eq_true rfl, Nat.le_of_ble_eq_true rfl⟩) ?_
              refine zt_i (y := nI d_) ((lo_1 hR hk_).trans hd_) ?_
              refine lv_isub hx hb dL_inOrder_131 ?_
              refine zt_i (z_sub (a := d_ + m_ - 1) (b := d_) (by omega) (by first | rfl | omega)) ?_
              refine lv_bipush (v := 9) hx hb dL_inOrder_132 (by decide +kernel) ?_
              refine zb_ge (x := (d_ + m_ - 1) - d_) (y := 9) (tgt := 158) hx hb dL_inOrder_134 (by decide) (by omega) (by omega) (fun c_134 => ?_) (fun c_134 => ?_)
              · exact absurd c_134 (by omega)
              · refine lv_aload_n hx hb dL_inOrder_137 rfl (lv_at hl 4 rfl) ?_
                refine lv_iload hx hb dL_inOrder_138 (lv_at hl 1 rfl) ?_
                refine lv_iconst (v := 2) hx hb dL_inOrder_140 (by decide +kernel) ?_
                refine zc_se (va_runV (As := [.int (zF w k_ 0), .int 2]) (rest := []) ⟨hx, hb, hml, hown, hts⟩ (c_X7_of l V G Y hp hk f1 f2 np pd pa kd nu mo (zF w k_ 0) 2 hJ) (cwV 2 hts (zgVG_ uC_294 uG_12 uG_13 uG_14 (wsCG _ uC_25)) rfl rfl rfl (by decide +kernel) ⟨Nat.le_of_ble_eq_true rfl, Nat.le_of_ble_eq_true rfl⟩) (zPreV (B := fun H => zTP V G Y hp hk f1 f2 np pd pa kd nu mo H) hT hE (zT_rt hE hT)) rfl rfl hl.1 rfl (lv_room (Nat.le_of_ble_eq_true rfl)) dL_inOrder_141 ⟨Nat.le_of_ble_eq_true rfl, Nat.le_of_ble_eq_true rfl⟩) ?_
                refine zt_i (y := nI (d_ + m_ - 1)) ((lo_2 hR hk_).trans hla_) ?_
                refine lv_aload_n hx hb dL_inOrder_144 rfl (lv_at hl 4 rfl) ?_
                refine lv_iload hx hb dL_inOrder_145 (lv_at hl 1 rfl) ?_
                refine lv_iconst (v := 1) hx hb dL_inOrder_147 (by decide +kernel) ?_
                refine zc_se (va_runV (As := [.int (zF w k_ 0), .int 1]) (rest := [.int (nI (d_ + m_ - 1))]) ⟨hx, hb, hml, hown, hts⟩ (c_X7_of l V G Y hp hk f1 f2 np pd pa kd nu mo (zF w k_ 0) 1 hJ) (cwV 2 hts (zgVG_ uC_294 uG_12 uG_13 uG_14 (wsCG _ uC_25)) rfl rfl rfl (by decide +kernel) ⟨Nat.le_of_ble_eq_true rfl, Nat.le_of_ble_eq_true rfl⟩) (zPreV (B := fun H => zTP V G Y hp hk f1 f2 np pd pa kd nu mo H) hT hE (zT_rt hE hT)) rfl rfl hl.1 rfl (lv_room (Nat.le_of_ble_eq_true rfl)) dL_inOrder_148 ⟨Nat.le_of_ble_eq_true rfl, Nat.le_of_ble_eq_true rfl⟩) ?_
                refine zt_i (y := nI d_) ((lo_1 hR hk_).trans hd_) ?_
                refine zb_lt (x := d_ + m_ - 1) (y := d_) (tgt := 158) hx hb dL_inOrder_151 (by decide) (by omega) (by omega) (fun c_151 => ?_) (fun c_151 => ?_)
                · exact absurd c_151 (by omega)
                · refine lv_iconst (v := 1) hx hb dL_inOrder_154 (by decide +kernel) ?_
                  refine lv_goto (tgt := 159) hx hb dL_inOrder_155 (by decide) ?_
                  refine lv_istore (lv' := [(7, .int 1), (6, .int 1), (4, .int (zF w k_ 0)), (3, .int (nI r_)), (2, .int (nI (mMany w n wr))), (0, .ref (gM G 0)), (1, .int wr)]) hx hb dL_inOrder_159 hl (by decide) rfl (fun ls hl => ?_)
                  refine lv_iload hx hb dL_inOrder_161 (lv_at hl 1 rfl) ?_
                  refine lv_if_eq (tgt := 204) hx hb dL_inOrder_163 (by decide) (fun c_163 => ?_) (fun c_163 => ?_)
                  · exact absurd c_163 (by decide +kernel)
                  refine lv_iload hx hb dL_inOrder_166 (lv_at hl 0 rfl) ?_
                  refine lv_if_eq (tgt := 204) hx hb dL_inOrder_168 (by decide) (fun c_168 => ?_) (fun c_168 => ?_)
                  · exact absurd c_168 (by decide +kernel)
                  refine lv_aload_n hx hb dL_inOrder_171 rfl (lv_at hl 5 rfl) ?_
                  refine lv_iload hx hb dL_inOrder_172 (lv_at hl 2 rfl) ?_
                  refine lv_iconst (v := 4) hx hb dL_inOrder_174 (by decide +kernel) ?_
                  refine zc_se (va_runV (As := [.int (zF w k_ 0), .int 4]) (rest := []) ⟨hx, hb, hml, hown, hts⟩ (c_X7_of l V G Y hp hk f1 f2 np pd pa kd nu mo (zF w k_ 0) 4 hJ) (cwV 2 hts (zgVG_ uC_294 uG_12 uG_13 uG_14 (wsCG _ uC_25)) rfl rfl rfl (by decide +kernel) ⟨Nat.le_of_ble_eq_true rfl, Nat.le_of_ble_eq_true rfl⟩) (zPreV (B := fun H => zTP V G Y hp hk f1 f2 np pd pa kd nu mo H) hT hE (zT_rt hE hT)) rfl rfl hl.1 rfl (lv_room (Nat.le_of_ble_eq_true rfl)) dL_inOrder_175 ⟨Nat.le_of_ble_eq_true rfl, Nat.le_of_ble_eq_true rfl⟩) ?_
                  refine zt_i (y := if w wr.toNatClampNeg ≤ w 6 - zF w k_ 4 then 1 else 0) ((lo_4 hR hk_).trans (by rw [hs_])) ?_
                  refine lv_aload_n hx hb dL_inOrder_178 rfl (lv_at hl 5 rfl) ?_
                  refine lv_iload hx hb dL_inOrder_179 (lv_at hl 2 rfl) ?_
                  refine lv_iconst (v := 3) hx hb dL_inOrder_181 (by decide +kernel) ?_
                  refine zc_se (va_runV (As := [.int (zF w k_ 0), .int 3]) (rest := [.int (if w wr.toNatClampNeg ≤ w 6 - zF w k_ 4 then 1 else 0)]) ⟨hx, hb, hml, hown, hts⟩ (c_X7_of l V G Y hp hk f1 f2 np pd pa kd nu mo (zF w k_ 0) 3 hJ) (cwV 2 hts (zgVG_ uC_294 uG_12 uG_13 uG_14 (wsCG _ uC_25)) rfl rfl rfl (by decide +kernel) ⟨Nat.le_of_ble_eq_true rfl, Nat.le_of_ble_eq_true rfl⟩) (zPreV (B := fun H => zTP V G Y hp hk f1 f2 np pd pa kd nu mo H) hT hE (zT_rt hE hT)) rfl rfl hl.1 rfl (lv_room (Nat.le_of_ble_eq_true rfl)) dL_inOrder_182 ⟨Nat.le_of_ble_eq_true rfl, Nat.le_of_ble_eq_true rfl⟩) ?_
                  refine zt_i (y := w 6 - zF w k_ 4) (lo_3 hR hk_) ?_
                  refine lv_aload_n hx hb dL_inOrder_185 rfl (lv_at hl 5 rfl) ?_
                  refine lv_bipush (v := 10) hx hb dL_inOrder_186 (by decide +kernel) ?_
                  refine lv_iload_n hx hb dL_inOrder_188 rfl (lv_at hl 6 rfl) ?_
                  refine lv_iadd hx hb dL_inOrder_189 ?_
                  refine zc_se (va_runV (As := [.int (10 + wr)]) (rest := [.int (w 6 - zF w k_ 4), .int (if w wr.toNatClampNeg ≤ w 6 - zF w k_ 4 then 1 else 0)]) ⟨hx, hb, hml, hown, hts⟩ (c_X7_count l V G Y hp hk f1 f2 np pd pa kd nu mo (10 + wr) hJ hk6) (cwV 1 hts (zgVG_ uC_307 uG_6 uG_7 uG_8 (wsCG _ uC_25)) rfl rfl rfl (by decide +kernel) ⟨Nat.le_of_ble_eq_true rfl, Nat.le_of_ble_eq_true rfl⟩) (zPreV (B := fun H => zTP V G Y hp hk f1 f2 np pd pa kd nu mo H) hT hE (zT_rt hE hT)) rfl rfl hl.1 rfl (lv_room (Nat.le_of_ble_eq_true rfl)) dL_inOrder_190 ⟨Nat.le_of_ble_eq_true rfl, Nat.le_of_ble_eq_true rfl⟩) ?_
                  refine zt_i (y := w wr.toNatClampNeg) (lc_t hR np hk hwr) ?_
                  refine lv_icmp_lt (tgt := 200) hx hb dL_inOrder_193 (by decide) (fun c_193 => ?_) (fun c_193 => ?_)
                  · refine lv_iconst (v := 0) hx hb dL_inOrder_200 (by decide +kernel) ?_
                    refine lv_icmp_eq (tgt := 206) hx hb dL_inOrder_201 (by decide) (fun c_201 => ?_) (fun c_201 => ?_)
                    · refine lv_iinc (v := nI (r_ + 1)) (lv' := [(3, .int (nI (r_ + 1))), (7, .int 1), (6, .int 1), (4, .int (zF w k_ 0)), (2, .int (nI (mMany w n wr))), (0, .ref (gM G 0)), (1, .int wr)]) hx hb dL_inOrder_206 hl (k := 3) rfl (z_inc1 r_) (by decide) rfl (fun ls hl => ?_)
                      refine lv_goto (tgt := 10) hx hb dL_inOrder_209 (by decide) ?_
                      exact ih (r_ + 1) ls (by omega) (by omega) (lv_sub hl [0, 4, 5, 6] rfl)
                    · exact absurd (if_neg (fun q => z_lt' c_193 q)) c_201
                  · refine lv_iconst (v := 1) hx hb dL_inOrder_196 (by decide +kernel) ?_
                    refine lv_goto (tgt := 201) hx hb dL_inOrder_197 (by decide) ?_
                    refine lv_icmp_eq (tgt := 206) hx hb dL_inOrder_201 (by decide) (fun c_201 => ?_) (fun c_201 => ?_)
                    · refine lv_iinc (v := nI (r_ + 1)) (lv' := [(3, .int (nI (r_ + 1))), (7, .int 1), (6, .int 1), (4, .int (zF w k_ 0)), (2, .int (nI (mMany w n wr))), (0, .ref (gM G 0)), (1, .int wr)]) hx hb dL_inOrder_206 hl (k := 3) rfl (z_inc1 r_) (by decide) rfl (fun ls hl => ?_)
                      refine lv_goto (tgt := 10) hx hb dL_inOrder_209 (by decide) ?_
                      exact ih (r_ + 1) ls (by omega) (by omega) (lv_sub hl [0, 4, 5, 6] rfl)
                    · exact absurd (if_pos (z_nlt c_193)) c_201
        refine lv_iload_n hx hb dL_inOrder_23 rfl (lv_at hl 1 rfl) ?_
        refine zb0_ne (x := r_) (tgt := 31) hx hb dL_inOrder_24 (by decide) (by omega) (fun c_24 => ?_) (fun c_24 => ?_)
        · obtain ⟨k2_, hk2_, hs2_, hrk2_⟩ := lAt (w := w) (n := n) (wr := wr) (r := r_ - 1) (by omega)
          have hah_ : lAh w k2_ k_ := lRank_ah hk2_ hk_ (hs2_.trans hs_.symm) (by omega)
          refine lv_aload_n hx hb dL_inOrder_31 rfl (lv_at hl 3 rfl) ?_
          refine lv_iload_n hx hb dL_inOrder_32 rfl (lv_at hl 4 rfl) ?_
          refine lv_iload_n hx hb dL_inOrder_33 rfl (lv_at hl 1 rfl) ?_
          refine lv_iconst (v := 1) hx hb dL_inOrder_34 (by decide +kernel) ?_
          refine lv_isub hx hb dL_inOrder_35 ?_
          refine zt_i (z_sub (a := r_) (b := 1) (by omega) (by first | rfl | omega)) ?_
          refine zc_se (va_runV (As := [.int wr, .int (nI (r_ - 1))]) (rest := []) ⟨hx, hb, hml, hown, hts⟩ (c_X7_waiting l V G Y hp hk f1 f2 np pd pa kd nu mo wr (nI (r_ - 1)) hJ) (cwV 2 hts (zgVG_ uC_295 uG_9 uG_10 uG_11 (wsCG _ uC_25)) rfl rfl rfl (by decide +kernel) ⟨Nat.le_of_ble_eq_true rfl, Nat.le_of_ble_eq_true rfl⟩) (zPreV (B := fun H => zTP V G Y hp hk f1 f2 np pd pa kd nu mo H) hT hE (zT_rt hE hT)) rfl rfl hl.1 rfl (lv_room (Nat.le_of_ble_eq_true rfl)) dL_inOrder_36 ⟨Nat.le_of_ble_eq_true rfl, Nat.le_of_ble_eq_true rfl⟩) ?_
          refine zt_i (y := zF w k2_ 0) (by rw [← hrk2_]; exact lw_ hR hwr hk2_ hs2_) ?_
          refine lv_istore (lv' := [(5, .int (zF w k2_ 0)), (4, .int (zF w k_ 0)), (3, .int (nI r_)), (2, .int (nI (mMany w n wr))), (0, .ref (gM G 0)), (1, .int wr)]) hx hb dL_inOrder_39 hl (by decide) rfl (fun ls hl => ?_)
          refine lv_iload hx hb dL_inOrder_41 (lv_at hl 0 rfl) ?_
          refine lv_if_lt (tgt := 87) hx hb dL_inOrder_43 (by decide) (fun c_43 => ?_) (fun c_43 => ?_)
          · exact absurd (h.X.1 k2_ hk2_).1 (z_lt' c_43)
          · refine lv_aload_n hx hb dL_inOrder_46 rfl (lv_at hl 4 rfl) ?_
            refine lv_iload hx hb dL_inOrder_47 (lv_at hl 0 rfl) ?_
            refine lv_iconst (v := 1) hx hb dL_inOrder_49 (by decide +kernel) ?_
            refine zc_se (va_runV (As := [.int (zF w k2_ 0), .int 1]) (rest := []) ⟨hx, hb, hml, hown, hts⟩ (c_X7_of l V G Y hp hk f1 f2 np pd pa kd nu mo (zF w k2_ 0) 1 hJ) (cwV 2 hts (zgVG_ uC_294 uG_12 uG_13 uG_14 (wsCG _ uC_25)) rfl rfl rfl (by decide +kernel) ⟨Nat.le_of_ble_eq_true rfl, Nat.le_of_ble_eq_true rfl⟩) (zPreV (B := fun H => zTP V G Y hp hk f1 f2 np pd pa kd nu mo H) hT hE (zT_rt hE hT)) rfl rfl hl.1 rfl (lv_room (Nat.le_of_ble_eq_true rfl)) dL_inOrder_50 ⟨Nat.le_of_ble_eq_true rfl, Nat.le_of_ble_eq_true rfl⟩) ?_
            refine zt_i (y := zF w k2_ 2) (lo_1 hR hk2_) ?_
            refine lv_aload_n hx hb dL_inOrder_53 rfl (lv_at hl 4 rfl) ?_
            refine lv_iload hx hb dL_inOrder_54 (lv_at hl 1 rfl) ?_
            refine lv_iconst (v := 1) hx hb dL_inOrder_56 (by decide +kernel) ?_
            refine zc_se (va_runV (As := [.int (zF w k_ 0), .int 1]) (rest := [.int (zF w k2_ 2)]) ⟨hx, hb, hml, hown, hts⟩ (c_X7_of l V G Y hp hk f1 f2 np pd pa kd nu mo (zF w k_ 0) 1 hJ) (cwV 2 hts (zgVG_ uC_294 uG_12 uG_13 uG_14 (wsCG _ uC_25)) rfl rfl rfl (by decide +kernel) ⟨Nat.le_of_ble_eq_true rfl, Nat.le_of_ble_eq_true rfl⟩) (zPreV (B := fun H => zTP V G Y hp hk f1 f2 np pd pa kd nu mo H) hT hE (zT_rt hE hT)) rfl rfl hl.1 rfl (lv_room (Nat.le_of_ble_eq_true rfl)) dL_inOrder_57 ⟨Nat.le_of_ble_eq_true rfl, Nat.le_of_ble_eq_true rfl⟩) ?_
            refine zt_i (y := zF w k_ 2) (lo_1 hR hk_) ?_
            refine lv_icmp_lt (tgt := 87) hx hb dL_inOrder_60 (by decide) (fun c_60 => ?_) (fun c_60 => ?_)
            · exact J_87 ls trivial (lv_sub hl [1, 2, 3, 4, 5] rfl)
            · refine lv_aload_n hx hb dL_inOrder_63 rfl (lv_at hl 4 rfl) ?_
              refine lv_iload hx hb dL_inOrder_64 (lv_at hl 0 rfl) ?_
              refine lv_iconst (v := 1) hx hb dL_inOrder_66 (by decide +kernel) ?_
              refine zc_se (va_runV (As := [.int (zF w k2_ 0), .int 1]) (rest := []) ⟨hx, hb, hml, hown, hts⟩ (c_X7_of l V G Y hp hk f1 f2 np pd pa kd nu mo (zF w k2_ 0) 1 hJ) (cwV 2 hts (zgVG_ uC_294 uG_12 uG_13 uG_14 (wsCG _ uC_25)) rfl rfl rfl (by decide +kernel) ⟨Nat.le_of_ble_eq_true rfl, Nat.le_of_ble_eq_true rfl⟩) (zPreV (B := fun H => zTP V G Y hp hk f1 f2 np pd pa kd nu mo H) hT hE (zT_rt hE hT)) rfl rfl hl.1 rfl (lv_room (Nat.le_of_ble_eq_true rfl)) dL_inOrder_67 ⟨Nat.le_of_ble_eq_true rfl, Nat.le_of_ble_eq_true rfl⟩) ?_
              refine zt_i (y := zF w k2_ 2) (lo_1 hR hk2_) ?_
              refine lv_aload_n hx hb dL_inOrder_70 rfl (lv_at hl 4 rfl) ?_
              refine lv_iload hx hb dL_inOrder_71 (lv_at hl 1 rfl) ?_
              refine lv_iconst (v := 1) hx hb dL_inOrder_73 (by decide +kernel) ?_
              refine zc_se (va_runV (As := [.int (zF w k_ 0), .int 1]) (rest := [.int (zF w k2_ 2)]) ⟨hx, hb, hml, hown, hts⟩ (c_X7_of l V G Y hp hk f1 f2 np pd pa kd nu mo (zF w k_ 0) 1 hJ) (cwV 2 hts (zgVG_ uC_294 uG_12 uG_13 uG_14 (wsCG _ uC_25)) rfl rfl rfl (by decide +kernel) ⟨Nat.le_of_ble_eq_true rfl, Nat.le_of_ble_eq_true rfl⟩) (zPreV (B := fun H => zTP V G Y hp hk f1 f2 np pd pa kd nu mo H) hT hE (zT_rt hE hT)) rfl rfl hl.1 rfl (lv_room (Nat.le_of_ble_eq_true rfl)) dL_inOrder_74 ⟨Nat.le_of_ble_eq_true rfl, Nat.le_of_ble_eq_true rfl⟩) ?_
              refine zt_i (y := zF w k_ 2) (lo_1 hR hk_) ?_
              refine lv_icmp_ne (tgt := 91) hx hb dL_inOrder_77 (by decide) (fun c_77 => ?_) (fun c_77 => ?_)
              · exact hah_.elim (fun q => absurd q c_60) (fun q => absurd q.1 c_77)
              · refine lv_iload hx hb dL_inOrder_80 (lv_at hl 0 rfl) ?_
                refine lv_iload hx hb dL_inOrder_82 (lv_at hl 1 rfl) ?_
                refine lv_icmp_ge (tgt := 91) hx hb dL_inOrder_84 (by decide) (fun c_84 => ?_) (fun c_84 => ?_)
                · exact hah_.elim (fun q => absurd q c_60) (fun q => absurd c_84 (z_lt' (lRep_O hR k2_ k_ q.2 hk_).1))
                · exact J_87 ls trivial (lv_sub hl [1, 2, 3, 4, 5] rfl)
        · refine lv_iconst (v := (-1)) hx hb dL_inOrder_27 (by decide +kernel) ?_
          refine lv_goto (tgt := 39) hx hb dL_inOrder_28 (by decide) ?_
          refine lv_istore (lv' := [(5, .int (-1)), (4, .int (zF w k_ 0)), (3, .int (nI r_)), (2, .int (nI (mMany w n wr))), (0, .ref (gM G 0)), (1, .int wr)]) hx hb dL_inOrder_39 hl (by decide) rfl (fun ls hl => ?_)
          refine lv_iload hx hb dL_inOrder_41 (lv_at hl 0 rfl) ?_
          refine lv_if_lt (tgt := 87) hx hb dL_inOrder_43 (by decide) (fun c_43 => ?_) (fun c_43 => ?_)
          · exact J_87 ls trivial (lv_sub hl [1, 2, 3, 4, 5] rfl)
          · exact absurd (by decide) c_43
  exact L_10 (mMany w n wr + 1) 0 ls (by omega) (by omega) (lv_sub hl [0, 1, 2, 3] rfl)
set_option maxHeartbeats 4000000 in
set_option maxRecDepth 100000 in
theorem c_L_next (l : Launch) (V : zV) (G : Nat → Nat) (Y : Nat → zA) (hp hk : Nat) (f1 f2 : Int32) (np : Nat) (pd : Nat → Int32) (pa : Nat) (kd nu mo : Int32) (w : Nat → Int32) (n N t ac : Nat)  (hJ : zInj 404 G) (h : lJ Y hp hk w n N t ac) : Met l yL_next wsL_next (zR 5 0 0) (zPc V [.ref (gM G 0), .int (w 16)] (fun H => zTP V G Y hp hk f1 f2 np pd pa kd nu mo H)) (vp_Si (fun r => r = (lNext w n))) 0 0 (fun _ => False) := by
  refine Met.ofW (cc := cL_next) (maxL := 7) (ret := (some .int)) (by decide) rfl ?_
  intro p e s m args below meth c s₁ B hml hv
  obtain ⟨rfl, hP, hE⟩ := hv
  have hx := B.exec
  have hb := B.bytes
  have hr := B.returns
  have hts := atoms_spec (ws := wsL_next) B.pre
  have hown : s.vm.findClass RL = some m.cls := findClass_of_methodNamed B.named
  have hlocks := B.notSynchronized
  have hl := lv_entry ([.ref (gM G 0), .int (w 16)]) (n := 7) (Nat.le_of_ble_eq_true rfl)
  rw [lg_entry_eq]
  generalize (lg_sl ([.ref (gM G 0), .int (w 16)]) ++ List.replicate (7 - (lg_sl ([.ref (gM G 0), .int (w 16)])).length) Slot.unset).toArray = ls at hl ⊢
  have hl : lv_has ls 7 [(0, .ref (gM G 0)), (1, .int (w 16))] := hl
  have hT := hP
  have hR := h.R
  have hk6 := h.2.1
  have hc := lRep_c hR
  have h30 := hc.2.1
  have hsum := rMany (lRep_I hR)
  have hso := hc.2.2.2.2.2.2.2.2.2
  refine lv_aload_n hx hb dL_next_0 rfl (lv_at hl 0 rfl) ?_
  refine lv_iconst (v := 1) hx hb dL_next_1 (by decide +kernel) ?_
  refine zc_se (va_runV (As := [.int 1]) (rest := []) ⟨hx, hb, hml, hown, hts⟩ (c_X7_count l V G Y hp hk f1 f2 np pd pa kd nu mo 1 hJ hk6) (cwV 1 hts (zgVG_ uC_307 uG_6 uG_7 uG_8 (wsCG _ uC_25)) rfl rfl rfl (by decide +kernel) ⟨Nat.le_of_ble_eq_true rfl, Nat.le_of_ble_eq_true rfl⟩) (zPreV (B := fun H => zTP V G Y hp hk f1 f2 np pd pa kd nu mo H) hT hE (zT_rt hE hT)) rfl rfl hl.1 rfl (lv_room (Nat.le_of_ble_eq_true rfl)) dL_next_2 ⟨Nat.le_of_ble_eq_true rfl, Nat.le_of_ble_eq_true rfl⟩) ?_
  refine zt_i (y := nI (mMany w n 0)) (lc_1 hR np hk) ?_
  refine lv_aload_n hx hb dL_next_5 rfl (lv_at hl 0 rfl) ?_
  refine lv_iconst (v := 2) hx hb dL_next_6 (by decide +kernel) ?_
  refine zc_se (va_runV (As := [.int 2]) (rest := [.int (nI (mMany w n 0))]) ⟨hx, hb, hml, hown, hts⟩ (c_X7_count l V G Y hp hk f1 f2 np pd pa kd nu mo 2 hJ hk6) (cwV 1 hts (zgVG_ uC_307 uG_6 uG_7 uG_8 (wsCG _ uC_25)) rfl rfl rfl (by decide +kernel) ⟨Nat.le_of_ble_eq_true rfl, Nat.le_of_ble_eq_true rfl⟩) (zPreV (B := fun H => zTP V G Y hp hk f1 f2 np pd pa kd nu mo H) hT hE (zT_rt hE hT)) rfl rfl hl.1 rfl (lv_room (Nat.le_of_ble_eq_true rfl)) dL_next_7 ⟨Nat.le_of_ble_eq_true rfl, Nat.le_of_ble_eq_true rfl⟩) ?_
  refine zt_i (y := nI (mMany w n 1)) (lc_2 hR np hk) ?_
  refine lv_iadd hx hb dL_next_10 ?_
  refine zt_i (z_add (a := mMany w n 0) (b := mMany w n 1) (by first | rfl | omega)) ?_
  refine zb0_ne (x := mMany w n 0 + (mMany w n 1)) (tgt := 32) hx hb dL_next_11 (by decide) (by omega) (fun c_11 => ?_) (fun c_11 => ?_)
  · have hn_ : 0 < n := by omega
    have J_67 : ∀ (ls : Array Slot), True → lv_has ls 7 [(0, .ref (gM G 0)), (1, .int (w 16))] → W p l e (headSpec wsL_next (zR 5 0 0)).room s m (List.toArray [.ref (gM G 0), .int (w 16)]) below meth c s.heap [] 0 0 (MQ below (vp_Si (fun r => r = (lNext w n))) (List.toArray [.ref (gM G 0), .int (w 16)]) s 0 0 (fun _ => False)) (F0 m 67 ls [.int (lNo w (lOn1 w n))]) := by
      intro   ls _   hl
      refine lv_istore_n (lv' := [(2, .int (lNo w (lOn1 w n))), (0, .ref (gM G 0)), (1, .int (w 16))]) hx hb dL_next_67 rfl hl (by decide) rfl (fun ls hl => ?_)
      rcases ho_ : lOn1 w n with _ | k_
      · rw [ho_] at hl
        have hl : lv_has ls 7 [(2, .int (-6)), (0, .ref (gM G 0)), (1, .int (w 16))] := hl
        refine lv_iload_n hx hb dL_next_68 rfl (lv_at hl 0 rfl) ?_
        refine lv_if_lt (tgt := 96) hx hb dL_next_69 (by decide) (fun c_69 => ?_) (fun c_69 => ?_)
        · have J_140 : ∀ (ls : Array Slot), True → lv_has ls 7 [(0, .ref (gM G 0))] → W p l e (headSpec wsL_next (zR 5 0 0)).room s m (List.toArray [.ref (gM G 0), .int (w 16)]) below meth c s.heap [] 0 0 (MQ below (vp_Si (fun r => r = (lNext w n))) (List.toArray [.ref (gM G 0), .int (w 16)]) s 0 0 (fun _ => False)) (F0 m 140 ls [.int (mNext w n)]) := by
            intro   ls _   hl
            have hmn_ := lNx01 (w := w) (n := n)
            obtain ⟨k2_, hk2_, hs2_, ho2_⟩ := mOld_some hn_ (fun k hk => lRep_wr hR hk)
            refine lv_istore_n (lv' := [(3, .int (mNext w n)), (0, .ref (gM G 0))]) hx hb dL_next_140 rfl hl (by decide) rfl (fun ls hl => ?_)
            refine lv_aload_n hx hb dL_next_141 rfl (lv_at hl 1 rfl) ?_
            refine lv_iload_n hx hb dL_next_142 rfl (lv_at hl 0 rfl) ?_
            refine zc_se (va_runS (As := [.ref (gM G 0), .int (mNext w n)]) (rest := []) ⟨hx, hb, hml, hown, hts⟩ (c_L_oldest l V G Y hp hk f1 f2 np pd pa kd nu mo w n N t ac (mNext w n) hJ h hmn_) (va_cwS 2 hts (zgS_ wsG_all uG_15 uG_24 uG_25 uG_23) rfl rfl rfl (by decide +kernel) ⟨Nat.le_of_ble_eq_true rfl, Nat.le_of_ble_eq_true rfl⟩) (zPreS (B := fun H => zTP V G Y hp hk f1 f2 np pd pa kd nu mo H) hT hE) rfl rfl hl.1 rfl (lv_room (Nat.le_of_ble_eq_true rfl)) dL_next_143 ⟨Nat.le_of_ble_eq_true rfl, Nat.le_of_ble_eq_true rfl⟩) ?_
            refine zt_i (y := zF w k2_ 0) (by rw [ho2_]; rfl) ?_
            refine lv_istore (lv' := [(4, .int (zF w k2_ 0)), (3, .int (mNext w n)), (0, .ref (gM G 0))]) hx hb dL_next_146 hl (by decide) rfl (fun ls hl => ?_)
            refine lv_aload_n hx hb dL_next_148 rfl (lv_at hl 2 rfl) ?_
            refine lv_iload hx hb dL_next_149 (lv_at hl 0 rfl) ?_
            refine lv_iconst (v := 4) hx hb dL_next_151 (by decide +kernel) ?_
            refine zc_se (va_runV (As := [.int (zF w k2_ 0), .int 4]) (rest := []) ⟨hx, hb, hml, hown, hts⟩ (c_X7_of l V G Y hp hk f1 f2 np pd pa kd nu mo (zF w k2_ 0) 4 hJ) (cwV 2 hts (zgVG_ uC_294 uG_12 uG_13 uG_14 (wsCG _ uC_25)) rfl rfl rfl (by decide +kernel) ⟨Nat.le_of_ble_eq_true rfl, Nat.le_of_ble_eq_true rfl⟩) (zPreV (B := fun H => zTP V G Y hp hk f1 f2 np pd pa kd nu mo H) hT hE (zT_rt hE hT)) rfl rfl hl.1 rfl (lv_room (Nat.le_of_ble_eq_true rfl)) dL_next_152 ⟨Nat.le_of_ble_eq_true rfl, Nat.le_of_ble_eq_true rfl⟩) ?_
            refine zt_i (y := if w (zF w k2_ 1).toNatClampNeg ≤ w 6 - zF w k2_ 4 then 1 else 0) (lo_4 hR hk2_) ?_
            refine lv_iconst (v := 1) hx hb dL_next_155 (by decide +kernel) ?_
            refine lv_icmp_ne (tgt := 186) hx hb dL_next_156 (by decide) (fun c_156 => ?_) (fun c_156 => ?_)
            · have hp_ : ¬ w (zF w k2_ 1).toNatClampNeg ≤ w 6 - zF w k2_ 4 := fun q => c_156 (if_pos q)
              refine lv_aload_n hx hb dL_next_186 rfl (lv_at hl 2 rfl) ?_
              refine lv_iload_n hx hb dL_next_187 rfl (lv_at hl 1 rfl) ?_
              refine lv_aload_n hx hb dL_next_188 rfl (lv_at hl 2 rfl) ?_
              refine lv_iconst (v := 3) hx hb dL_next_189 (by decide +kernel) ?_
              refine zc_se (va_runV (As := [.int 3]) (rest := [.int (mNext w n), .ref (gM G 0)]) ⟨hx, hb, hml, hown, hts⟩ (c_X7_count l V G Y hp hk f1 f2 np pd pa kd nu mo 3 hJ hk6) (cwV 1 hts (zgVG_ uC_307 uG_6 uG_7 uG_8 (wsCG _ uC_25)) rfl rfl rfl (by decide +kernel) ⟨Nat.le_of_ble_eq_true rfl, Nat.le_of_ble_eq_true rfl⟩) (zPreV (B := fun H => zTP V G Y hp hk f1 f2 np pd pa kd nu mo H) hT hE (zT_rt hE hT)) rfl rfl hl.1 rfl (lv_room (Nat.le_of_ble_eq_true rfl)) dL_next_190 ⟨Nat.le_of_ble_eq_true rfl, Nat.le_of_ble_eq_true rfl⟩) ?_
              refine zt_i (y := w 9) (lc_3 hR np hk) ?_
              refine zc_se (va_runS (As := [.ref (gM G 0), .int (mNext w n), .int (w 9)]) (rest := []) ⟨hx, hb, hml, hown, hts⟩ (c_L_lowest l V G Y hp hk f1 f2 np pd pa kd nu mo w n N t ac (mNext w n) (w 9) hJ h hmn_) (va_cwS 3 hts (zgS_ wsG_all uG_5 uG_21 uG_22 uG_23) rfl rfl rfl (by decide +kernel) ⟨Nat.le_of_ble_eq_true rfl, Nat.le_of_ble_eq_true rfl⟩) (zPreS (B := fun H => zTP V G Y hp hk f1 f2 np pd pa kd nu mo H) hT hE) rfl rfl hl.1 rfl (lv_room (Nat.le_of_ble_eq_true rfl)) dL_next_193 ⟨Nat.le_of_ble_eq_true rfl, Nat.le_of_ble_eq_true rfl⟩) ?_
              refine lv_istore (lv' := [(5, .int (lNo w (mLow w n (mNext w n) (w 9)))), (4, .int (zF w k2_ 0)), (3, .int (mNext w n)), (0, .ref (gM G 0))]) hx hb dL_next_196 hl (by decide) rfl (fun ls hl => ?_)
              rcases hl2_ : mLow w n (mNext w n) (w 9) with _ | j_
              · rw [hl2_] at hl
                have hl : lv_has ls 7 [(5, .int (-6)), (4, .int (zF w k2_ 0)), (3, .int (mNext w n)), (0, .ref (gM G 0))] := hl
                have hlook_ := lLook_3 ho_ ho2_ hp_ hl2_
                have q_ := lk_some hR hn_
                rw [hlook_] at q_
                have hl3_ : mLow w n (mNext w n) 0 = some (lk w n) := q_.1
                refine lv_iload hx hb dL_next_198 (lv_at hl 0 rfl) ?_
                refine lv_if_lt (tgt := 208) hx hb dL_next_200 (by decide) (fun c_200 => ?_) (fun c_200 => ?_)
                · refine lv_aload_n hx hb dL_next_208 rfl (lv_at hl 3 rfl) ?_
                  refine lv_iload_n hx hb dL_next_209 rfl (lv_at hl 2 rfl) ?_
                  refine lv_iconst (v := 0) hx hb dL_next_210 (by decide +kernel) ?_
                  refine zc_se (va_runS (As := [.ref (gM G 0), .int (mNext w n), .int 0]) (rest := []) ⟨hx, hb, hml, hown, hts⟩ (c_L_lowest l V G Y hp hk f1 f2 np pd pa kd nu mo w n N t ac (mNext w n) 0 hJ h hmn_) (va_cwS 3 hts (zgS_ wsG_all uG_5 uG_21 uG_22 uG_23) rfl rfl rfl (by decide +kernel) ⟨Nat.le_of_ble_eq_true rfl, Nat.le_of_ble_eq_true rfl⟩) (zPreS (B := fun H => zTP V G Y hp hk f1 f2 np pd pa kd nu mo H) hT hE) rfl rfl hl.1 rfl (lv_room (Nat.le_of_ble_eq_true rfl)) dL_next_211 ⟨Nat.le_of_ble_eq_true rfl, Nat.le_of_ble_eq_true rfl⟩) ?_
                  refine zt_i (y := zF w (lk w n) 0) (by rw [hl3_]; rfl) ?_
                  refine lv_istore (lv' := [(6, .int (zF w (lk w n) 0)), (5, .int (-6)), (4, .int (zF w k2_ 0)), (3, .int (mNext w n)), (0, .ref (gM G 0))]) hx hb dL_next_214 hl (by decide) rfl (fun ls hl => ?_)
                  refine lv_aload_n hx hb dL_next_216 rfl (lv_at hl 4 rfl) ?_
                  refine lv_iconst (v := 1) hx hb dL_next_217 (by decide +kernel) ?_
                  refine zc_se (va_runV (As := [.int 1]) (rest := []) ⟨hx, hb, hml, hown, hts⟩ (c_X7_next l V G Y hp hk f1 f2 np pd pa kd nu mo 1 hJ) (cwV 1 hts (zgVG_ uC_310 uG_18 uG_19 uG_20 (wsCG _ uC_25)) rfl rfl rfl (by decide +kernel) ⟨Nat.le_of_ble_eq_true rfl, Nat.le_of_ble_eq_true rfl⟩) (zPreV (B := fun H => zTP V G Y hp hk f1 f2 np pd pa kd nu mo H) hT hE (zT_rt hE hT)) rfl rfl hl.1 rfl (lv_room (Nat.le_of_ble_eq_true rfl)) dL_next_218 ⟨Nat.le_of_ble_eq_true rfl, Nat.le_of_ble_eq_true rfl⟩) ?_
                  refine zt_i (y := 3) ((ln_1 hR hn_).trans (by rw [hlook_])) ?_
                  refine lv_iload hx hb dL_next_221 (lv_at hl 1 rfl) ?_
                  refine lv_if_lt (tgt := 230) hx hb dL_next_223 (by decide) (fun c_223 => ?_) (fun c_223 => ?_)
                  · refine lv_iconst (v := 3) hx hb dL_next_230 (by decide +kernel) ?_
                    refine zb_ne (x := 3) (y := 3) (tgt := 249) hx hb dL_next_231 (by decide) (by omega) (by omega) (fun c_231 => ?_) (fun c_231 => ?_)
                    · exact absurd rfl c_231
                    · refine lv_aload_n hx hb dL_next_234 rfl (lv_at hl 4 rfl) ?_
                      refine lv_iconst (v := 0) hx hb dL_next_235 (by decide +kernel) ?_
                      refine zc_se (va_runV (As := [.int 0]) (rest := []) ⟨hx, hb, hml, hown, hts⟩ (c_X7_next l V G Y hp hk f1 f2 np pd pa kd nu mo 0 hJ) (cwV 1 hts (zgVG_ uC_310 uG_18 uG_19 uG_20 (wsCG _ uC_25)) rfl rfl rfl (by decide +kernel) ⟨Nat.le_of_ble_eq_true rfl, Nat.le_of_ble_eq_true rfl⟩) (zPreV (B := fun H => zTP V G Y hp hk f1 f2 np pd pa kd nu mo H) hT hE (zT_rt hE hT)) rfl rfl hl.1 rfl (lv_room (Nat.le_of_ble_eq_true rfl)) dL_next_236 ⟨Nat.le_of_ble_eq_true rfl, Nat.le_of_ble_eq_true rfl⟩) ?_
                      refine zt_i (y := zF w (lk w n) 0) (ln_0 hR hn_) ?_
                      refine lv_iload hx hb dL_next_239 (lv_at hl 0 rfl) ?_
                      refine lv_icmp_ne (tgt := 249) hx hb dL_next_241 (by decide) (fun c_241 => ?_) (fun c_241 => ?_)
                      · exact absurd rfl c_241
                      · refine lv_iload hx hb dL_next_244 (lv_at hl 0 rfl) ?_
                        refine lv_goto (tgt := 251) hx hb dL_next_246 (by decide) ?_
                        exact zr_si hx hb hr hlocks (show zF w (lk w n) 0 = lNext w n from (if_neg (by omega)).symm) dL_next_251
                  · exact absurd (by decide) c_223
                · exact absurd (by decide) c_200
              · rw [hl2_] at hl
                have hl : lv_has ls 7 [(5, .int (zF w j_ 0)), (4, .int (zF w k2_ 0)), (3, .int (mNext w n)), (0, .ref (gM G 0))] := hl
                have hlook_ := lLook_low ho_ ho2_ hp_ hl2_
                have hj_ : j_ < n := (zBest_lt hl2_).1
                refine lv_iload hx hb dL_next_198 (lv_at hl 0 rfl) ?_
                refine lv_if_lt (tgt := 208) hx hb dL_next_200 (by decide) (fun c_200 => ?_) (fun c_200 => ?_)
                · exact absurd (h.X.1 j_ hj_).1 (z_lt' c_200)
                · refine lv_iload hx hb dL_next_203 (lv_at hl 0 rfl) ?_
                  refine lv_goto (tgt := 214) hx hb dL_next_205 (by decide) ?_
                  refine lv_istore (lv' := [(6, .int (zF w j_ 0)), (5, .int (zF w j_ 0)), (4, .int (zF w k2_ 0)), (3, .int (mNext w n)), (0, .ref (gM G 0))]) hx hb dL_next_214 hl (by decide) rfl (fun ls hl => ?_)
                  refine lv_aload_n hx hb dL_next_216 rfl (lv_at hl 4 rfl) ?_
                  refine lv_iconst (v := 1) hx hb dL_next_217 (by decide +kernel) ?_
                  refine zc_se (va_runV (As := [.int 1]) (rest := []) ⟨hx, hb, hml, hown, hts⟩ (c_X7_next l V G Y hp hk f1 f2 np pd pa kd nu mo 1 hJ) (cwV 1 hts (zgVG_ uC_310 uG_18 uG_19 uG_20 (wsCG _ uC_25)) rfl rfl rfl (by decide +kernel) ⟨Nat.le_of_ble_eq_true rfl, Nat.le_of_ble_eq_true rfl⟩) (zPreV (B := fun H => zTP V G Y hp hk f1 f2 np pd pa kd nu mo H) hT hE (zT_rt hE hT)) rfl rfl hl.1 rfl (lv_room (Nat.le_of_ble_eq_true rfl)) dL_next_218 ⟨Nat.le_of_ble_eq_true rfl, Nat.le_of_ble_eq_true rfl⟩) ?_
                  refine zt_i (y := 2) ((ln_1 hR hn_).trans (by rw [hlook_])) ?_
                  refine lv_iload hx hb dL_next_221 (lv_at hl 1 rfl) ?_
                  refine lv_if_lt (tgt := 230) hx hb dL_next_223 (by decide) (fun c_223 => ?_) (fun c_223 => ?_)
                  · exact absurd (h.X.1 j_ hj_).1 (z_lt' c_223)
                  · refine lv_iconst (v := 2) hx hb dL_next_226 (by decide +kernel) ?_
                    refine lv_goto (tgt := 231) hx hb dL_next_227 (by decide) ?_
                    refine zb_ne (x := 2) (y := 2) (tgt := 249) hx hb dL_next_231 (by decide) (by omega) (by omega) (fun c_231 => ?_) (fun c_231 => ?_)
                    · exact absurd rfl c_231
                    · refine lv_aload_n hx hb dL_next_234 rfl (lv_at hl 4 rfl) ?_
                      refine lv_iconst (v := 0) hx hb dL_next_235 (by decide +kernel) ?_
                      refine zc_se (va_runV (As := [.int 0]) (rest := []) ⟨hx, hb, hml, hown, hts⟩ (c_X7_next l V G Y hp hk f1 f2 np pd pa kd nu mo 0 hJ) (cwV 1 hts (zgVG_ uC_310 uG_18 uG_19 uG_20 (wsCG _ uC_25)) rfl rfl rfl (by decide +kernel) ⟨Nat.le_of_ble_eq_true rfl, Nat.le_of_ble_eq_true rfl⟩) (zPreV (B := fun H => zTP V G Y hp hk f1 f2 np pd pa kd nu mo H) hT hE (zT_rt hE hT)) rfl rfl hl.1 rfl (lv_room (Nat.le_of_ble_eq_true rfl)) dL_next_236 ⟨Nat.le_of_ble_eq_true rfl, Nat.le_of_ble_eq_true rfl⟩) ?_
                      refine zt_i (y := zF w j_ 0) ((ln_0 hR hn_).trans (by unfold lk; rw [hlook_]; rfl)) ?_
                      refine lv_iload hx hb dL_next_239 (lv_at hl 0 rfl) ?_
                      refine lv_icmp_ne (tgt := 249) hx hb dL_next_241 (by decide) (fun c_241 => ?_) (fun c_241 => ?_)
                      · exact absurd rfl c_241
                      · refine lv_iload hx hb dL_next_244 (lv_at hl 0 rfl) ?_
                        refine lv_goto (tgt := 251) hx hb dL_next_246 (by decide) ?_
                        exact zr_si hx hb hr hlocks (show zF w j_ 0 = lNext w n from (lNext_of hn_ hlook_).symm) dL_next_251
            · have hp_ : w (zF w k2_ 1).toNatClampNeg ≤ w 6 - zF w k2_ 4 := Classical.byContradiction (fun q => by rw [if_neg q] at c_156; exact absurd c_156 (by decide))
              have hlook_ := lLook_old ho_ ho2_ hp_
              refine lv_aload_n hx hb dL_next_159 rfl (lv_at hl 2 rfl) ?_
              refine lv_iconst (v := 1) hx hb dL_next_160 (by decide +kernel) ?_
              refine zc_se (va_runV (As := [.int 1]) (rest := []) ⟨hx, hb, hml, hown, hts⟩ (c_X7_next l V G Y hp hk f1 f2 np pd pa kd nu mo 1 hJ) (cwV 1 hts (zgVG_ uC_310 uG_18 uG_19 uG_20 (wsCG _ uC_25)) rfl rfl rfl (by decide +kernel) ⟨Nat.le_of_ble_eq_true rfl, Nat.le_of_ble_eq_true rfl⟩) (zPreV (B := fun H => zTP V G Y hp hk f1 f2 np pd pa kd nu mo H) hT hE (zT_rt hE hT)) rfl rfl hl.1 rfl (lv_room (Nat.le_of_ble_eq_true rfl)) dL_next_161 ⟨Nat.le_of_ble_eq_true rfl, Nat.le_of_ble_eq_true rfl⟩) ?_
              refine zt_i (y := 1) ((ln_1 hR hn_).trans (by rw [hlook_])) ?_
              refine lv_iconst (v := 1) hx hb dL_next_164 (by decide +kernel) ?_
              refine zb_ne (x := 1) (y := 1) (tgt := 183) hx hb dL_next_165 (by decide) (by omega) (by omega) (fun c_165 => ?_) (fun c_165 => ?_)
              · exact absurd rfl c_165
              · refine lv_aload_n hx hb dL_next_168 rfl (lv_at hl 2 rfl) ?_
                refine lv_iconst (v := 0) hx hb dL_next_169 (by decide +kernel) ?_
                refine zc_se (va_runV (As := [.int 0]) (rest := []) ⟨hx, hb, hml, hown, hts⟩ (c_X7_next l V G Y hp hk f1 f2 np pd pa kd nu mo 0 hJ) (cwV 1 hts (zgVG_ uC_310 uG_18 uG_19 uG_20 (wsCG _ uC_25)) rfl rfl rfl (by decide +kernel) ⟨Nat.le_of_ble_eq_true rfl, Nat.le_of_ble_eq_true rfl⟩) (zPreV (B := fun H => zTP V G Y hp hk f1 f2 np pd pa kd nu mo H) hT hE (zT_rt hE hT)) rfl rfl hl.1 rfl (lv_room (Nat.le_of_ble_eq_true rfl)) dL_next_170 ⟨Nat.le_of_ble_eq_true rfl, Nat.le_of_ble_eq_true rfl⟩) ?_
                refine zt_i (y := zF w k2_ 0) ((ln_0 hR hn_).trans (by unfold lk; rw [hlook_]; rfl)) ?_
                refine lv_iload hx hb dL_next_173 (lv_at hl 0 rfl) ?_
                refine lv_icmp_ne (tgt := 183) hx hb dL_next_175 (by decide) (fun c_175 => ?_) (fun c_175 => ?_)
                · exact absurd rfl c_175
                · refine lv_iload hx hb dL_next_178 (lv_at hl 0 rfl) ?_
                  refine lv_goto (tgt := 185) hx hb dL_next_180 (by decide) ?_
                  exact zr_si hx hb hr hlocks (show zF w k2_ 0 = lNext w n from (lNext_of hn_ hlook_).symm) dL_next_185
          refine lv_aload_n hx hb dL_next_96 rfl (lv_at hl 1 rfl) ?_
          refine lv_iconst (v := 2) hx hb dL_next_97 (by decide +kernel) ?_
          refine zc_se (va_runV (As := [.int 2]) (rest := []) ⟨hx, hb, hml, hown, hts⟩ (c_X7_count l V G Y hp hk f1 f2 np pd pa kd nu mo 2 hJ hk6) (cwV 1 hts (zgVG_ uC_307 uG_6 uG_7 uG_8 (wsCG _ uC_25)) rfl rfl rfl (by decide +kernel) ⟨Nat.le_of_ble_eq_true rfl, Nat.le_of_ble_eq_true rfl⟩) (zPreV (B := fun H => zTP V G Y hp hk f1 f2 np pd pa kd nu mo H) hT hE (zT_rt hE hT)) rfl rfl hl.1 rfl (lv_room (Nat.le_of_ble_eq_true rfl)) dL_next_98 ⟨Nat.le_of_ble_eq_true rfl, Nat.le_of_ble_eq_true rfl⟩) ?_
          refine zt_i (y := nI (mMany w n 1)) (lc_2 hR np hk) ?_
          refine zb0_ne (x := mMany w n 1) (tgt := 108) hx hb dL_next_101 (by decide) (by omega) (fun c_101 => ?_) (fun c_101 => ?_)
          · refine lv_aload_n hx hb dL_next_108 rfl (lv_at hl 1 rfl) ?_
            refine lv_iconst (v := 1) hx hb dL_next_109 (by decide +kernel) ?_
            refine zc_se (va_runV (As := [.int 1]) (rest := []) ⟨hx, hb, hml, hown, hts⟩ (c_X7_count l V G Y hp hk f1 f2 np pd pa kd nu mo 1 hJ hk6) (cwV 1 hts (zgVG_ uC_307 uG_6 uG_7 uG_8 (wsCG _ uC_25)) rfl rfl rfl (by decide +kernel) ⟨Nat.le_of_ble_eq_true rfl, Nat.le_of_ble_eq_true rfl⟩) (zPreV (B := fun H => zTP V G Y hp hk f1 f2 np pd pa kd nu mo H) hT hE (zT_rt hE hT)) rfl rfl hl.1 rfl (lv_room (Nat.le_of_ble_eq_true rfl)) dL_next_110 ⟨Nat.le_of_ble_eq_true rfl, Nat.le_of_ble_eq_true rfl⟩) ?_
            refine zt_i (y := nI (mMany w n 0)) (lc_1 hR np hk) ?_
            refine zb0_ne (x := mMany w n 0) (tgt := 120) hx hb dL_next_113 (by decide) (by omega) (fun c_113 => ?_) (fun c_113 => ?_)
            · refine lv_aload_n hx hb dL_next_120 rfl (lv_at hl 1 rfl) ?_
              refine lv_bipush (v := 9) hx hb dL_next_121 (by decide +kernel) ?_
              refine zc_se (va_runV (As := [.int 9]) (rest := []) ⟨hx, hb, hml, hown, hts⟩ (c_X7_count l V G Y hp hk f1 f2 np pd pa kd nu mo 9 hJ hk6) (cwV 1 hts (zgVG_ uC_307 uG_6 uG_7 uG_8 (wsCG _ uC_25)) rfl rfl rfl (by decide +kernel) ⟨Nat.le_of_ble_eq_true rfl, Nat.le_of_ble_eq_true rfl⟩) (zPreV (B := fun H => zTP V G Y hp hk f1 f2 np pd pa kd nu mo H) hT hE (zT_rt hE hT)) rfl rfl hl.1 rfl (lv_room (Nat.le_of_ble_eq_true rfl)) dL_next_123 ⟨Nat.le_of_ble_eq_true rfl, Nat.le_of_ble_eq_true rfl⟩) ?_
              refine zt_i (y := w 15) (lc_9 hR np hk) ?_
              refine lv_aload_n hx hb dL_next_126 rfl (lv_at hl 1 rfl) ?_
              refine lv_bipush (v := 13) hx hb dL_next_127 (by decide +kernel) ?_
              refine zc_se (va_runV (As := [.int 13]) (rest := [.int (w 15)]) ⟨hx, hb, hml, hown, hts⟩ (c_X7_count l V G Y hp hk f1 f2 np pd pa kd nu mo 13 hJ hk6) (cwV 1 hts (zgVG_ uC_307 uG_6 uG_7 uG_8 (wsCG _ uC_25)) rfl rfl rfl (by decide +kernel) ⟨Nat.le_of_ble_eq_true rfl, Nat.le_of_ble_eq_true rfl⟩) (zPreV (B := fun H => zTP V G Y hp hk f1 f2 np pd pa kd nu mo H) hT hE (zT_rt hE hT)) rfl rfl hl.1 rfl (lv_room (Nat.le_of_ble_eq_true rfl)) dL_next_129 ⟨Nat.le_of_ble_eq_true rfl, Nat.le_of_ble_eq_true rfl⟩) ?_
              refine zt_i (y := w 3) (lc_13 hR np hk) ?_
              refine lv_icmp_lt (tgt := 139) hx hb dL_next_132 (by decide) (fun c_132 => ?_) (fun c_132 => ?_)
              · refine lv_iconst (v := 0) hx hb dL_next_139 (by decide +kernel) ?_
                refine zt_i (y := mNext w n) (lNx_n hsum c_113 c_101 c_132) ?_
                exact J_140 ls trivial (lv_sub hl [1] rfl)
              · refine lv_iconst (v := 1) hx hb dL_next_135 (by decide +kernel) ?_
                refine lv_goto (tgt := 140) hx hb dL_next_136 (by decide) ?_
                refine zt_i (y := mNext w n) (lNx_s hsum c_113 c_101 c_132) ?_
                exact J_140 ls trivial (lv_sub hl [1] rfl)
            · refine lv_iconst (v := 1) hx hb dL_next_116 (by decide +kernel) ?_
              refine lv_goto (tgt := 140) hx hb dL_next_117 (by decide) ?_
              refine zt_i (y := mNext w n) (lNx_w hsum c_113) ?_
              exact J_140 ls trivial (lv_sub hl [1] rfl)
          · refine lv_iconst (v := 0) hx hb dL_next_104 (by decide +kernel) ?_
            refine lv_goto (tgt := 140) hx hb dL_next_105 (by decide) ?_
            refine zt_i (y := mNext w n) (lNx_r hn_ c_101) ?_
            exact J_140 ls trivial (lv_sub hl [1] rfl)
        · exact absurd (by decide) c_69
      · rw [ho_] at hl
        have hl : lv_has ls 7 [(2, .int (zF w k_ 0)), (0, .ref (gM G 0)), (1, .int (w 16))] := hl
        have hlook_ := lLook_on ho_
        have hk_ : k_ < n := by
          have q_ := lk_some hR hn_
          rw [hlook_] at q_
          have e_ : k_ = lk w n := Option.some.inj q_.1
          omega
        refine lv_iload_n hx hb dL_next_68 rfl (lv_at hl 0 rfl) ?_
        refine lv_if_lt (tgt := 96) hx hb dL_next_69 (by decide) (fun c_69 => ?_) (fun c_69 => ?_)
        · exact absurd (h.X.1 k_ hk_).1 (z_lt' c_69)
        · refine lv_aload_n hx hb dL_next_72 rfl (lv_at hl 1 rfl) ?_
          refine lv_iconst (v := 1) hx hb dL_next_73 (by decide +kernel) ?_
          refine zc_se (va_runV (As := [.int 1]) (rest := []) ⟨hx, hb, hml, hown, hts⟩ (c_X7_next l V G Y hp hk f1 f2 np pd pa kd nu mo 1 hJ) (cwV 1 hts (zgVG_ uC_310 uG_18 uG_19 uG_20 (wsCG _ uC_25)) rfl rfl rfl (by decide +kernel) ⟨Nat.le_of_ble_eq_true rfl, Nat.le_of_ble_eq_true rfl⟩) (zPreV (B := fun H => zTP V G Y hp hk f1 f2 np pd pa kd nu mo H) hT hE (zT_rt hE hT)) rfl rfl hl.1 rfl (lv_room (Nat.le_of_ble_eq_true rfl)) dL_next_74 ⟨Nat.le_of_ble_eq_true rfl, Nat.le_of_ble_eq_true rfl⟩) ?_
          refine zt_i (y := 0) ((ln_1 hR hn_).trans (by rw [hlook_])) ?_
          refine lv_if_ne (tgt := 93) hx hb dL_next_77 (by decide) (fun c_77 => ?_) (fun c_77 => ?_)
          · exact absurd c_77 (by decide +kernel)
          refine lv_aload_n hx hb dL_next_80 rfl (lv_at hl 1 rfl) ?_
          refine lv_iconst (v := 0) hx hb dL_next_81 (by decide +kernel) ?_
          refine zc_se (va_runV (As := [.int 0]) (rest := []) ⟨hx, hb, hml, hown, hts⟩ (c_X7_next l V G Y hp hk f1 f2 np pd pa kd nu mo 0 hJ) (cwV 1 hts (zgVG_ uC_310 uG_18 uG_19 uG_20 (wsCG _ uC_25)) rfl rfl rfl (by decide +kernel) ⟨Nat.le_of_ble_eq_true rfl, Nat.le_of_ble_eq_true rfl⟩) (zPreV (B := fun H => zTP V G Y hp hk f1 f2 np pd pa kd nu mo H) hT hE (zT_rt hE hT)) rfl rfl hl.1 rfl (lv_room (Nat.le_of_ble_eq_true rfl)) dL_next_82 ⟨Nat.le_of_ble_eq_true rfl, Nat.le_of_ble_eq_true rfl⟩) ?_
          refine zt_i (y := zF w k_ 0) ((ln_0 hR hn_).trans (by unfold lk; rw [hlook_]; rfl)) ?_
          refine lv_iload_n hx hb dL_next_85 rfl (lv_at hl 0 rfl) ?_
          refine lv_icmp_ne (tgt := 93) hx hb dL_next_86 (by decide) (fun c_86 => ?_) (fun c_86 => ?_)
          · exact absurd rfl c_86
          · refine lv_iload_n hx hb dL_next_89 rfl (lv_at hl 0 rfl) ?_
            refine lv_goto (tgt := 95) hx hb dL_next_90 (by decide) ?_
            exact zr_si hx hb hr hlocks (show zF w k_ 0 = lNext w n from (lNext_of hn_ hlook_).symm) dL_next_95
    refine lv_iload_n hx hb dL_next_32 rfl (lv_at hl 1 rfl) ?_
    refine lv_iconst (v := 2) hx hb dL_next_33 (by decide +kernel) ?_
    refine lv_icmp_ge (tgt := 65) hx hb dL_next_34 (by decide) (fun c_34 => ?_) (fun c_34 => ?_)
    · refine lv_bipush (v := (-6)) hx hb dL_next_65 (by decide +kernel) ?_
      refine zt_i (y := lNo w (lOn1 w n)) (by rw [show lOn1 w n = none from if_neg (fun q => hso.elim q.1 (fun z => z.elim (fun e => by rw [e] at c_34; exact absurd c_34 (by decide)) (fun e => by rw [e] at c_34; exact absurd c_34 (by decide))))]; rfl) ?_
      exact J_67 ls trivial (lv_sub hl [0, 1] rfl)
    · refine lv_aload_n hx hb dL_next_37 rfl (lv_at hl 0 rfl) ?_
      refine lv_bipush (v := 8) hx hb dL_next_38 (by decide +kernel) ?_
      refine zc_se (va_runV (As := [.int 8]) (rest := []) ⟨hx, hb, hml, hown, hts⟩ (c_X7_count l V G Y hp hk f1 f2 np pd pa kd nu mo 8 hJ hk6) (cwV 1 hts (zgVG_ uC_307 uG_6 uG_7 uG_8 (wsCG _ uC_25)) rfl rfl rfl (by decide +kernel) ⟨Nat.le_of_ble_eq_true rfl, Nat.le_of_ble_eq_true rfl⟩) (zPreV (B := fun H => zTP V G Y hp hk f1 f2 np pd pa kd nu mo H) hT hE (zT_rt hE hT)) rfl rfl hl.1 rfl (lv_room (Nat.le_of_ble_eq_true rfl)) dL_next_40 ⟨Nat.le_of_ble_eq_true rfl, Nat.le_of_ble_eq_true rfl⟩) ?_
      refine zt_i (y := w 14) (lc_8 hR np hk) ?_
      refine lv_aload_n hx hb dL_next_43 rfl (lv_at hl 0 rfl) ?_
      refine lv_bipush (v := 12) hx hb dL_next_44 (by decide +kernel) ?_
      refine zc_se (va_runV (As := [.int 12]) (rest := [.int (w 14)]) ⟨hx, hb, hml, hown, hts⟩ (c_X7_count l V G Y hp hk f1 f2 np pd pa kd nu mo 12 hJ hk6) (cwV 1 hts (zgVG_ uC_307 uG_6 uG_7 uG_8 (wsCG _ uC_25)) rfl rfl rfl (by decide +kernel) ⟨Nat.le_of_ble_eq_true rfl, Nat.le_of_ble_eq_true rfl⟩) (zPreV (B := fun H => zTP V G Y hp hk f1 f2 np pd pa kd nu mo H) hT hE (zT_rt hE hT)) rfl rfl hl.1 rfl (lv_room (Nat.le_of_ble_eq_true rfl)) dL_next_46 ⟨Nat.le_of_ble_eq_true rfl, Nat.le_of_ble_eq_true rfl⟩) ?_
      refine zt_i (y := w 2) (lc_12 hR np hk) ?_
      refine lv_icmp_ge (tgt := 65) hx hb dL_next_49 (by decide) (fun c_49 => ?_) (fun c_49 => ?_)
      · refine lv_bipush (v := (-6)) hx hb dL_next_65 (by decide +kernel) ?_
        refine zt_i (y := lNo w (lOn1 w n)) (by rw [show lOn1 w n = none from if_neg (fun q => z_le' c_49 q.2)]; rfl) ?_
        exact J_67 ls trivial (lv_sub hl [0, 1] rfl)
      · refine lv_aload_n hx hb dL_next_52 rfl (lv_at hl 0 rfl) ?_
        refine lv_iload_n hx hb dL_next_53 rfl (lv_at hl 1 rfl) ?_
        refine lv_aload_n hx hb dL_next_54 rfl (lv_at hl 0 rfl) ?_
        refine lv_iconst (v := 3) hx hb dL_next_55 (by decide +kernel) ?_
        refine zc_se (va_runV (As := [.int 3]) (rest := [.int (w 16), .ref (gM G 0)]) ⟨hx, hb, hml, hown, hts⟩ (c_X7_count l V G Y hp hk f1 f2 np pd pa kd nu mo 3 hJ hk6) (cwV 1 hts (zgVG_ uC_307 uG_6 uG_7 uG_8 (wsCG _ uC_25)) rfl rfl rfl (by decide +kernel) ⟨Nat.le_of_ble_eq_true rfl, Nat.le_of_ble_eq_true rfl⟩) (zPreV (B := fun H => zTP V G Y hp hk f1 f2 np pd pa kd nu mo H) hT hE (zT_rt hE hT)) rfl rfl hl.1 rfl (lv_room (Nat.le_of_ble_eq_true rfl)) dL_next_56 ⟨Nat.le_of_ble_eq_true rfl, Nat.le_of_ble_eq_true rfl⟩) ?_
        refine zt_i (y := w 9) (lc_3 hR np hk) ?_
        have hwr_ : w 16 = 0 ∨ w 16 = 1 := hso.resolve_left (fun e => by rw [e] at c_34; exact c_34 (by decide))
        refine zc_se (va_runS (As := [.ref (gM G 0), .int (w 16), .int (w 9)]) (rest := []) ⟨hx, hb, hml, hown, hts⟩ (c_L_lowest l V G Y hp hk f1 f2 np pd pa kd nu mo w n N t ac (w 16) (w 9) hJ h hwr_) (va_cwS 3 hts (zgS_ wsG_all uG_5 uG_21 uG_22 uG_23) rfl rfl rfl (by decide +kernel) ⟨Nat.le_of_ble_eq_true rfl, Nat.le_of_ble_eq_true rfl⟩) (zPreS (B := fun H => zTP V G Y hp hk f1 f2 np pd pa kd nu mo H) hT hE) rfl rfl hl.1 rfl (lv_room (Nat.le_of_ble_eq_true rfl)) dL_next_59 ⟨Nat.le_of_ble_eq_true rfl, Nat.le_of_ble_eq_true rfl⟩) ?_
        refine lv_goto (tgt := 67) hx hb dL_next_62 (by decide) ?_
        refine zt_i (y := lNo w (lOn1 w n)) (by rw [show lOn1 w n = mLow w n (w 16) (w 9) from if_pos ⟨fun e => by rw [e] at c_34; exact c_34 (by decide), z_nle c_49⟩]) ?_
        exact J_67 ls trivial (lv_sub hl [0, 1] rfl)
  · have hn0_ : n = 0 := by omega
    refine lv_aload_n hx hb dL_next_14 rfl (lv_at hl 0 rfl) ?_
    refine lv_iconst (v := 0) hx hb dL_next_15 (by decide +kernel) ?_
    refine zc_se (va_runV (As := [.int 0]) (rest := []) ⟨hx, hb, hml, hown, hts⟩ (c_X7_next l V G Y hp hk f1 f2 np pd pa kd nu mo 0 hJ) (cwV 1 hts (zgVG_ uC_310 uG_18 uG_19 uG_20 (wsCG _ uC_25)) rfl rfl rfl (by decide +kernel) ⟨Nat.le_of_ble_eq_true rfl, Nat.le_of_ble_eq_true rfl⟩) (zPreV (B := fun H => zTP V G Y hp hk f1 f2 np pd pa kd nu mo H) hT hE (zT_rt hE hT)) rfl rfl hl.1 rfl (lv_room (Nat.le_of_ble_eq_true rfl)) dL_next_16 ⟨Nat.le_of_ble_eq_true rfl, Nat.le_of_ble_eq_true rfl⟩) ?_
    refine zt_i (y := (-6)) (ln_e hR hn0_) ?_
    refine lv_bipush (v := (-6)) hx hb dL_next_19 (by decide +kernel) ?_
    refine lv_icmp_ne (tgt := 29) hx hb dL_next_21 (by decide) (fun c_21 => ?_) (fun c_21 => ?_)
    · exact absurd rfl c_21
    · refine lv_bipush (v := (-6)) hx hb dL_next_24 (by decide +kernel) ?_
      refine lv_goto (tgt := 31) hx hb dL_next_26 (by decide) ?_
      exact zr_si hx hb hr hlocks (show (-6) = lNext w n from (if_pos hn0_).symm) dL_next_31
