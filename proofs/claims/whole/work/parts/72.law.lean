theorem rRep17 {A : zA} {w : Nat → Int32} {n N t : Nat} (hR : Rep A w n N t) : w 17 = nI (min (aS A) 20) := by
  obtain ⟨σ, ar, B, hP, hW, hI, hO, hE, hL, hwf⟩ := hR
  exact hW.2.2.2.2.2.2.2.2.2.2.2.2.1
set_option maxHeartbeats 4000000 in
set_option maxRecDepth 100000 in
theorem law_loop {p : Program} {e : Env} {s : State} {m : MethodId} {below : List Frame} {meth : Method} {c : Code} (l : Launch) {b L : Nat} {xs : Nat → Int32} (hL : L ≤ 2048) (C0 : lw_At p s m meth c b L xs) (V : zV) (hE : zE V s) (hXs : zST (fun q => s.heap.size ≤ q) s s.heap) (G g : Nat → Nat) (hJ : zInj 404 G) (hJ8 : zInj 9 g) (hgG : ∀ p, p < 9 → ¬ zIn 404 G (g p)) (hGg : ∀ p, p < 404 → ¬ zIn 9 g (G p)) (hGA : ∀ q, zIn 404 G q → s.heap.size ≤ q) (hgA : ∀ q, zIn 9 g q → s.heap.size ≤ q) : ∀ (m_ i : Nat) (Y : Nat → zA) (hp hk : Nat) (f1 f2 : Int32) (n : Nat) (pd : Nat → Int32) (a : Nat) (kd nu mo : Int32) (w pa be av sl sv cd : Nat → Int32) (ap pl wy : Int32) (H : Heap) (locs : List Loc) (ls : Array Slot), i ≤ L → L + 1 ≤ i + m_ → rT Y hp hk f1 f2 w pa sl sv (20 * i) → n ≤ 80 → zTP V G Y hp hk f1 f2 n pd a kd nu mo H → va_P V.1 vwCl (zmW V g w pa be av sl sv pd cd (nI hk) (nI n) ap pl wy) H → va_S (fun q => s.heap.size ≤ q) s.heap H locs → lv_has ls 4 [(3, .int (nI i)), (0, .ref b), (1, .ref (gM G 0)), (2, .ref (g 0))] → W p l e room_1 s m #[Value.ref b] below meth c H locs 413 6613 (lw_Z below #[Value.ref b] s) (F0 m 18 ls []) := by
  obtain ⟨hx, hb, hr, hml, hown0, hts, hX, hbl, hlocks, hgv⟩ := id C0
  have hown : s.vm.findClass RL = some m.cls := hown0
  have hbA : ¬ (fun q : Nat => s.heap.size ≤ q) b := Nat.not_le.mpr hbl
  intro m_
  induction m_ with
  | zero => intro i Y hp hk f1 f2 n pd a kd nu mo w pa be av sl sv cd ap pl wy H locs ls hi_ hn_; exact absurd hn_ (by omega)
  | succ m_ ih =>
    intro i Y hp hk f1 f2 n pd a kd nu mo w pa be av sl sv cd ap pl wy H locs ls hi_ hn_ hrT h80 hT hM hS hl
    have hK : i + 4 ≤ L → ∀ (Y : Nat → zA) (hp hk : Nat) (f1 f2 : Int32) (n : Nat) (pd : Nat → Int32) (a : Nat) (kd nu mo : Int32) (w pa be av sl sv cd : Nat → Int32) (ap pl wy : Int32) (H : Heap) (locs : List Loc) (ls : Array Slot), rT Y hp hk f1 f2 w pa sl sv (20 * i + 80) → n ≤ 80 → zTP V G Y hp hk f1 f2 n pd a kd nu mo H → va_P V.1 vwCl (zmW V g w pa be av sl sv pd cd (nI hk) (nI n) ap pl wy) H → va_S (fun q => s.heap.size ≤ q) s.heap H locs → lv_has ls 4 [(3, .int (nI i)), (0, .ref b), (1, .ref (gM G 0)), (2, .ref (g 0))] → W p l e room_1 s m #[Value.ref b] below meth c H locs 413 6613 (lw_Z below #[Value.ref b] s) (F0 m 658 ls []) := by
      intro hi4 Y hp hk f1 f2 n pd a kd nu mo w pa be av sl sv cd ap pl wy H locs ls hrT h80 hT hM hS hl
      refine lv_iinc (v := nI (i + 4)) (lv' := [(3, .int (nI (i + 4))), (0, .ref b), (1, .ref (gM G 0)), (2, .ref (g 0))]) hx hb dL_law_658 hl (k := 0) rfl (show nI i + nI 4 = _ from nI_add _ _) (by decide) rfl (fun ls hl => ?_)
      refine lv_goto (tgt := 18) hx hb dL_law_661 (by decide) ?_
      exact ih (i + 4) Y hp hk f1 f2 n pd a kd nu mo w pa be av sl sv cd ap pl wy H locs ls (by omega) (by omega) (hrT.mono (by omega)) h80 hT hM hS (lv_sub hl [0, 1, 2, 3] rfl)
    refine lv_iload_n hx hb dL_law_18 rfl (lv_at hl 0 rfl) ?_
    refine lv_aload_n hx hb dL_law_19 rfl (lv_at hl 1 rfl) ?_
    refine va_slen hx hb hX hbl hbA hS dL_law_20 ?_
    refine zt_i (y := nI L) rfl ?_
    refine lv_iconst (v := 4) hx hb dL_law_21 (by decide +kernel) ?_
    refine lv_isub hx hb dL_law_22 ?_
    refine lv_icmp_gt (tgt := 664) hx hb dL_law_23 (by decide) (fun c_23 => ?_) (fun c_23 => ?_)
    · refine lv_iconst (v := 1) hx hb dL_law_664 (by decide +kernel) ?_
      refine va_forget hS.2.2 ?_
      refine W.widen (k := 600000) (n := 7302250) (Nat.le_of_ble_eq_true rfl) (Nat.le_of_ble_eq_true rfl) ?_
      exact lw_ret hx hb hr hlocks dL_law_665
    · have hi4 : i + 4 ≤ L := by
        have h1_ := z_nlt c_23
        rw [zi_le, nI_toInt (by omega), show (nI L - 4).toInt = (L : Int) - 4 from pk_sub_toInt (b := 4) (by omega) (by decide)] at h1_
        omega
      have K := hK hi4
      clear hK ih
      obtain ⟨n_, N_, t_, hR, ht9, hNM⟩ := hrT.1
      have hok := rOK hR
      have hgood := rGood hR
      refine lv_aload_n hx hb dL_law_26 rfl (lv_at hl 1 rfl) ?_
      refine lv_iload_n hx hb dL_law_27 rfl (lv_at hl 0 rfl) ?_
      refine va_sld hx hb hX hbl hbA hS (i := nI (i)) (vp_in_nI (by omega) (by omega)) dL_law_28 ?_
      refine zt_i (y := xs (i)) (by rw [nI_clamp (by omega)]) ?_
      refine lv_bipush (v := 31) hx hb dL_law_29 (by decide +kernel) ?_
      refine lv_iand hx hb dL_law_31 ?_
      rcases z_rng ((xs (i)) &&& 31) 20 (by decide) with ⟨k_, hk_, hc_⟩ | hc_
      · rcases (show k_ = 0 ∨ k_ = 1 ∨ k_ = 2 ∨ k_ = 3 ∨ k_ = 4 ∨ k_ = 5 ∨ k_ = 6 ∨ k_ = 7 ∨ k_ = 8 ∨ k_ = 9 ∨ k_ = 10 ∨ k_ = 11 ∨ k_ = 12 ∨ k_ = 13 ∨ k_ = 14 ∨ k_ = 15 ∨ k_ = 16 ∨ k_ = 17 ∨ k_ = 18 ∨ k_ = 19 by omega) with rfl | rfl | rfl | rfl | rfl | rfl | rfl | rfl | rfl | rfl | rfl | rfl | rfl | rfl | rfl | rfl | rfl | rfl | rfl | rfl
        · have hc_ : (xs (i)) &&& 31 = 0 := hc_
          refine lv_tableIn (off := 96) (tgt := 128) hx hb dL_law_32 (by rw [hc_]; decide) (by rw [hc_]; decide) (by rw [hc_]; rfl) (by decide) ?_
          refine lv_aload_n hx hb dL_law_128 rfl (lv_at hl 2 rfl) ?_
          refine lv_aload_n hx hb dL_law_129 rfl (lv_at hl 1 rfl) ?_
          refine lv_iload_n hx hb dL_law_130 rfl (lv_at hl 0 rfl) ?_
          refine lv_iconst (v := 1) hx hb dL_law_131 (by decide +kernel) ?_
          refine lv_iadd hx hb dL_law_132 ?_
          refine zt_i (z_add (a := i) (b := 1) (by first | rfl | omega)) ?_
          refine va_sld hx hb hX hbl hbA hS (i := nI (i + 1)) (vp_in_nI (by omega) (by omega)) dL_law_133 ?_
          refine zt_i (y := xs (i + 1)) (by rw [nI_clamp (by omega)]) ?_
          refine lv_aload_n hx hb dL_law_134 rfl (lv_at hl 1 rfl) ?_
          refine lv_iload_n hx hb dL_law_135 rfl (lv_at hl 0 rfl) ?_
          refine lv_iconst (v := 2) hx hb dL_law_136 (by decide +kernel) ?_
          refine lv_iadd hx hb dL_law_137 ?_
          refine zt_i (z_add (a := i) (b := 2) (by first | rfl | omega)) ?_
          refine va_sld hx hb hX hbl hbA hS (i := nI (i + 2)) (vp_in_nI (by omega) (by omega)) dL_law_138 ?_
          refine zt_i (y := xs (i + 2)) (by rw [nI_clamp (by omega)]) ?_
          obtain ⟨e1_, e2_, e3_⟩ := L_set hrT hR ht9 hNM ((xs (i + 1))) ((xs (i + 2)))
          have hX1_ : zST (zIn 404 G) s H := (hXs.kept (fun a h1 h2 => hS.2.1 a h1 h2)).narrow hGA
          refine zc_i (va_runV (As := [.int (xs (i + 1)), .int (xs (i + 2))]) (rest := []) ⟨hx, hb, hml, hown, hts⟩ (c_X7_set l V G Y hp hk f1 f2 n pd a kd nu mo ((xs (i + 1))) ((xs (i + 2))) hJ hrT.2.1 hrT.2.2.1 hrT.2.2.2.2.2.2) (cwV 2 hts (zgLV_ wsC_all wsC_in uC_266 (tq_1 _ (List.mem_of_getElem? (i := 239) rfl)) (tq_2 _ (List.mem_of_getElem? (i := 0) rfl)) (tq_2 _ (List.mem_of_getElem? (i := 1) rfl)) (tq_1 _ (List.mem_of_getElem? (i := 1) rfl))) rfl rfl rfl (by decide +kernel) ⟨Nat.le_of_ble_eq_true rfl, Nat.le_of_ble_eq_true rfl⟩) (zPsV (B := fun U => zTP V G Y hp hk f1 f2 n pd a kd nu mo U.heap ∧ zST (zIn 404 G) U U.heap) (fun _ _ _ _ h => ⟨h.1, zST.calling h.2⟩) (fun U hU hvm => by rw [hU]; exact ⟨hT, hX1_.moved hvm⟩) hE (zT_rt hE hT)) rfl rfl hl.1 rfl (lv_room (Nat.le_of_ble_eq_true rfl)) dL_law_139 ⟨Nat.le_of_ble_eq_true rfl, Nat.le_of_ble_eq_true rfl⟩) hS hGA hGA (fun r_ H_1 locs hQ_ _ hk_ hS => ?_)
          obtain ⟨hr_, hT⟩ := hQ_
          subst hr_
          have hM := zP_keep hM hk_ hgG
          refine lv_aload_n hx hb dL_law_142 rfl (lv_at hl 3 rfl) ?_
          refine lv_aload_n hx hb dL_law_143 rfl (lv_at hl 1 rfl) ?_
          refine lv_iload_n hx hb dL_law_144 rfl (lv_at hl 0 rfl) ?_
          refine lv_iconst (v := 1) hx hb dL_law_145 (by decide +kernel) ?_
          refine lv_iadd hx hb dL_law_146 ?_
          refine zt_i (z_add (a := i) (b := 1) (by first | rfl | omega)) ?_
          refine va_sld hx hb hX hbl hbA hS (i := nI (i + 1)) (vp_in_nI (by omega) (by omega)) dL_law_147 ?_
          refine zt_i (y := xs (i + 1)) (by rw [nI_clamp (by omega)]) ?_
          refine lv_aload_n hx hb dL_law_148 rfl (lv_at hl 1 rfl) ?_
          refine lv_iload_n hx hb dL_law_149 rfl (lv_at hl 0 rfl) ?_
          refine lv_iconst (v := 2) hx hb dL_law_150 (by decide +kernel) ?_
          refine lv_iadd hx hb dL_law_151 ?_
          refine zt_i (z_add (a := i) (b := 2) (by first | rfl | omega)) ?_
          refine va_sld hx hb hX hbl hbA hS (i := nI (i + 2)) (vp_in_nI (by omega) (by omega)) dL_law_152 ?_
          refine zt_i (y := xs (i + 2)) (by rw [nI_clamp (by omega)]) ?_
          refine zc_i (va_runV (As := [.int (xs (i + 1)), .int (xs (i + 2))]) (rest := [.int (kAdjR (aT (Y 0)) ((xs (i + 1))) ((xs (i + 2))))]) ⟨hx, hb, hml, hown, hts⟩ (c_X8_set l V g w pa be av sl sv pd cd (nI hk) (nI n) ap pl wy hk ((xs (i + 1))) ((xs (i + 2))) hJ8 rfl hrT.2.2.1) (cwV 2 hts (zgLV_ wsM_all wsM_in uM_105 (tq_3 _ (List.mem_of_getElem? (i := 180) rfl)) (tq_3 _ (List.mem_of_getElem? (i := 181) rfl)) (tq_3 _ (List.mem_of_getElem? (i := 182) rfl)) (tq_1 _ (List.mem_of_getElem? (i := 9) rfl))) rfl rfl rfl (by decide +kernel) ⟨Nat.le_of_ble_eq_true rfl, Nat.le_of_ble_eq_true rfl⟩) (zPreV (B := fun H => va_P V.1 vwCl (zmW V g w pa be av sl sv pd cd (nI hk) (nI n) ap pl wy) H) hM hE (va_recv hE.1 hM (ci := 8) (q0 := 0) (q := (RX8, TX8, 13)) rfl (zm_c0 V g w pa be av sl sv pd cd (nI hk) (nI n) ap pl wy))) rfl rfl hl.1 rfl (lv_room (Nat.le_of_ble_eq_true rfl)) dL_law_153 ⟨Nat.le_of_ble_eq_true rfl, Nat.le_of_ble_eq_true rfl⟩) hS hgA hgA (fun r_ H_2 locs hQ_ _ hk_ hS => ?_)
          obtain ⟨hr_, be_, hM⟩ := hQ_
          subst hr_
          have hT := zT_uni.mpr (zP_keep (zT_uni.mp hT) hk_ hGg)
          refine lv_icmp_eq (tgt := 658) hx hb dL_law_156 (by decide) (fun c_ => ?_) (fun c_ => absurd e1_ c_)
          rw [e3_] at hM
          exact K _ _ _ _ _ _ _ _ _ _ _ _ _ _ _ _ _ _ _ _ _ H_2 locs ls e2_ h80 hT hM hS (lv_sub hl [0, 1, 2, 3] rfl)
        · have hc_ : (xs (i)) &&& 31 = 1 := hc_
          refine lv_tableIn (off := 129) (tgt := 161) hx hb dL_law_32 (by rw [hc_]; decide) (by rw [hc_]; decide) (by rw [hc_]; rfl) (by decide) ?_
          refine lv_aload_n hx hb dL_law_161 rfl (lv_at hl 2 rfl) ?_
          refine lv_aload_n hx hb dL_law_162 rfl (lv_at hl 1 rfl) ?_
          refine lv_iload_n hx hb dL_law_163 rfl (lv_at hl 0 rfl) ?_
          refine lv_iconst (v := 1) hx hb dL_law_164 (by decide +kernel) ?_
          refine lv_iadd hx hb dL_law_165 ?_
          refine zt_i (z_add (a := i) (b := 1) (by first | rfl | omega)) ?_
          refine va_sld hx hb hX hbl hbA hS (i := nI (i + 1)) (vp_in_nI (by omega) (by omega)) dL_law_166 ?_
          refine zt_i (y := xs (i + 1)) (by rw [nI_clamp (by omega)]) ?_
          refine lv_aload_n hx hb dL_law_167 rfl (lv_at hl 1 rfl) ?_
          refine lv_iload_n hx hb dL_law_168 rfl (lv_at hl 0 rfl) ?_
          refine lv_iconst (v := 2) hx hb dL_law_169 (by decide +kernel) ?_
          refine lv_iadd hx hb dL_law_170 ?_
          refine zt_i (z_add (a := i) (b := 2) (by first | rfl | omega)) ?_
          refine va_sld hx hb hX hbl hbA hS (i := nI (i + 2)) (vp_in_nI (by omega) (by omega)) dL_law_171 ?_
          refine zt_i (y := xs (i + 2)) (by rw [nI_clamp (by omega)]) ?_
          refine lv_aload_n hx hb dL_law_172 rfl (lv_at hl 1 rfl) ?_
          refine lv_iload_n hx hb dL_law_173 rfl (lv_at hl 0 rfl) ?_
          refine lv_iconst (v := 3) hx hb dL_law_174 (by decide +kernel) ?_
          refine lv_iadd hx hb dL_law_175 ?_
          refine zt_i (z_add (a := i) (b := 3) (by first | rfl | omega)) ?_
          refine va_sld hx hb hX hbl hbA hS (i := nI (i + 3)) (vp_in_nI (by omega) (by omega)) dL_law_176 ?_
          refine zt_i (y := xs (i + 3)) (by rw [nI_clamp (by omega)]) ?_
          obtain ⟨e1_, e2_, e3_⟩ := L_slip hrT hR ht9 hNM (by omega) ((xs (i + 1))) ((xs (i + 2))) ((xs (i + 3)))
          refine zc_i (va_runV (As := [.int (xs (i + 1)), .int (xs (i + 2)), .int (xs (i + 3))]) (rest := []) ⟨hx, hb, hml, hown, hts⟩ (c_X7_slip l V G Y hp hk f1 f2 n pd a kd nu mo ((xs (i + 1))) ((xs (i + 2))) ((xs (i + 3))) hJ hrT.2.1 hrT.2.2.1 hrT.2.2.2.2.2.2) (cwV 3 hts (zgLV_ wsC_all wsC_in uC_274 (tq_2 _ (List.mem_of_getElem? (i := 49) rfl)) (tq_2 _ (List.mem_of_getElem? (i := 50) rfl)) (tq_2 _ (List.mem_of_getElem? (i := 51) rfl)) (tq_1 _ (List.mem_of_getElem? (i := 1) rfl))) rfl rfl rfl (by decide +kernel) ⟨Nat.le_of_ble_eq_true rfl, Nat.le_of_ble_eq_true rfl⟩) (zPreV (B := fun H => zTP V G Y hp hk f1 f2 n pd a kd nu mo H) hT hE (zT_rt hE hT)) rfl rfl hl.1 rfl (lv_room (Nat.le_of_ble_eq_true rfl)) dL_law_177 ⟨Nat.le_of_ble_eq_true rfl, Nat.le_of_ble_eq_true rfl⟩) hS hGA hGA (fun r_ H_3 locs hQ_ _ hk_ hS => ?_)
          obtain ⟨hr_, hT⟩ := hQ_
          subst hr_
          have hM := zP_keep hM hk_ hgG
          refine lv_aload_n hx hb dL_law_180 rfl (lv_at hl 3 rfl) ?_
          refine lv_aload_n hx hb dL_law_181 rfl (lv_at hl 1 rfl) ?_
          refine lv_iload_n hx hb dL_law_182 rfl (lv_at hl 0 rfl) ?_
          refine lv_iconst (v := 1) hx hb dL_law_183 (by decide +kernel) ?_
          refine lv_iadd hx hb dL_law_184 ?_
          refine zt_i (z_add (a := i) (b := 1) (by first | rfl | omega)) ?_
          refine va_sld hx hb hX hbl hbA hS (i := nI (i + 1)) (vp_in_nI (by omega) (by omega)) dL_law_185 ?_
          refine zt_i (y := xs (i + 1)) (by rw [nI_clamp (by omega)]) ?_
          refine lv_aload_n hx hb dL_law_186 rfl (lv_at hl 1 rfl) ?_
          refine lv_iload_n hx hb dL_law_187 rfl (lv_at hl 0 rfl) ?_
          refine lv_iconst (v := 2) hx hb dL_law_188 (by decide +kernel) ?_
          refine lv_iadd hx hb dL_law_189 ?_
          refine zt_i (z_add (a := i) (b := 2) (by first | rfl | omega)) ?_
          refine va_sld hx hb hX hbl hbA hS (i := nI (i + 2)) (vp_in_nI (by omega) (by omega)) dL_law_190 ?_
          refine zt_i (y := xs (i + 2)) (by rw [nI_clamp (by omega)]) ?_
          refine lv_aload_n hx hb dL_law_191 rfl (lv_at hl 1 rfl) ?_
          refine lv_iload_n hx hb dL_law_192 rfl (lv_at hl 0 rfl) ?_
          refine lv_iconst (v := 3) hx hb dL_law_193 (by decide +kernel) ?_
          refine lv_iadd hx hb dL_law_194 ?_
          refine zt_i (z_add (a := i) (b := 3) (by first | rfl | omega)) ?_
          refine va_sld hx hb hX hbl hbA hS (i := nI (i + 3)) (vp_in_nI (by omega) (by omega)) dL_law_195 ?_
          refine zt_i (y := xs (i + 3)) (by rw [nI_clamp (by omega)]) ?_
          refine zc_i (va_runV (As := [.int (xs (i + 1)), .int (xs (i + 2)), .int (xs (i + 3))]) (rest := [.int (kAccR (aF (Y 0)) (aP (Y 0)) ((xs (i + 1))) ((xs (i + 2))) ((xs (i + 3))))]) ⟨hx, hb, hml, hown, hts⟩ (c_X8_slip l V g w pa be av sl sv pd cd (nI hk) (nI n) ap pl wy n_ hk ((xs (i + 1))) ((xs (i + 2))) ((xs (i + 3))) hJ8 hok rfl hrT.2.2.1) (cwV 3 hts (zgLV_ wsM_all wsM_in uM_110 (tq_3 _ (List.mem_of_getElem? (i := 190) rfl)) (tq_3 _ (List.mem_of_getElem? (i := 191) rfl)) (tq_3 _ (List.mem_of_getElem? (i := 192) rfl)) (tq_1 _ (List.mem_of_getElem? (i := 9) rfl))) rfl rfl rfl (by decide +kernel) ⟨Nat.le_of_ble_eq_true rfl, Nat.le_of_ble_eq_true rfl⟩) (zPreV (B := fun H => va_P V.1 vwCl (zmW V g w pa be av sl sv pd cd (nI hk) (nI n) ap pl wy) H) hM hE (va_recv hE.1 hM (ci := 8) (q0 := 0) (q := (RX8, TX8, 13)) rfl (zm_c0 V g w pa be av sl sv pd cd (nI hk) (nI n) ap pl wy))) rfl rfl hl.1 rfl (lv_room (Nat.le_of_ble_eq_true rfl)) dL_law_196 ⟨Nat.le_of_ble_eq_true rfl, Nat.le_of_ble_eq_true rfl⟩) hS hgA hgA (fun r_ H_4 locs hQ_ _ hk_ hS => ?_)
          obtain ⟨hr_, hM⟩ := hQ_
          subst hr_
          have hT := zT_uni.mpr (zP_keep (zT_uni.mp hT) hk_ hGg)
          refine lv_icmp_eq (tgt := 658) hx hb dL_law_199 (by decide) (fun c_ => ?_) (fun c_ => absurd e1_ c_)
          rw [e3_] at hM
          exact K _ _ _ _ _ _ _ _ _ _ _ _ _ _ _ _ _ _ _ _ _ H_4 locs ls e2_ h80 hT hM hS (lv_sub hl [0, 1, 2, 3] rfl)
        · have hc_ : (xs (i)) &&& 31 = 2 := hc_
          refine lv_tableIn (off := 172) (tgt := 204) hx hb dL_law_32 (by rw [hc_]; decide) (by rw [hc_]; decide) (by rw [hc_]; rfl) (by decide) ?_
          refine lv_aload_n hx hb dL_law_204 rfl (lv_at hl 2 rfl) ?_
          refine lv_aload_n hx hb dL_law_205 rfl (lv_at hl 1 rfl) ?_
          refine lv_iload_n hx hb dL_law_206 rfl (lv_at hl 0 rfl) ?_
          refine lv_iconst (v := 1) hx hb dL_law_207 (by decide +kernel) ?_
          refine lv_iadd hx hb dL_law_208 ?_
          refine zt_i (z_add (a := i) (b := 1) (by first | rfl | omega)) ?_
          refine va_sld hx hb hX hbl hbA hS (i := nI (i + 1)) (vp_in_nI (by omega) (by omega)) dL_law_209 ?_
          refine zt_i (y := xs (i + 1)) (by rw [nI_clamp (by omega)]) ?_
          obtain ⟨e1_, e2_, e3_⟩ := L_tear hrT hR ht9 hNM ((xs (i + 1)))
          refine zc_i (va_runV (As := [.int (xs (i + 1))]) (rest := []) ⟨hx, hb, hml, hown, hts⟩ (c_X7_tear l V G Y hp hk f1 f2 n pd a kd nu mo ((xs (i + 1))) hJ hrT.2.1 hrT.2.2.1 hrT.2.2.2.2.2.2) (cwV 1 hts (zgLV_ wsC_all wsC_in uC_277 (tq_2 _ (List.mem_of_getElem? (i := 80) rfl)) (tq_2 _ (List.mem_of_getElem? (i := 81) rfl)) (tq_2 _ (List.mem_of_getElem? (i := 82) rfl)) (tq_1 _ (List.mem_of_getElem? (i := 1) rfl))) rfl rfl rfl (by decide +kernel) ⟨Nat.le_of_ble_eq_true rfl, Nat.le_of_ble_eq_true rfl⟩) (zPreV (B := fun H => zTP V G Y hp hk f1 f2 n pd a kd nu mo H) hT hE (zT_rt hE hT)) rfl rfl hl.1 rfl (lv_room (Nat.le_of_ble_eq_true rfl)) dL_law_210 ⟨Nat.le_of_ble_eq_true rfl, Nat.le_of_ble_eq_true rfl⟩) hS hGA hGA (fun r_ H_5 locs hQ_ _ hk_ hS => ?_)
          obtain ⟨hr_, hT⟩ := hQ_
          subst hr_
          have hM := zP_keep hM hk_ hgG
          refine lv_aload_n hx hb dL_law_213 rfl (lv_at hl 3 rfl) ?_
          refine lv_aload_n hx hb dL_law_214 rfl (lv_at hl 1 rfl) ?_
          refine lv_iload_n hx hb dL_law_215 rfl (lv_at hl 0 rfl) ?_
          refine lv_iconst (v := 1) hx hb dL_law_216 (by decide +kernel) ?_
          refine lv_iadd hx hb dL_law_217 ?_
          refine zt_i (z_add (a := i) (b := 1) (by first | rfl | omega)) ?_
          refine va_sld hx hb hX hbl hbA hS (i := nI (i + 1)) (vp_in_nI (by omega) (by omega)) dL_law_218 ?_
          refine zt_i (y := xs (i + 1)) (by rw [nI_clamp (by omega)]) ?_
          refine zc_i (va_runV (As := [.int (xs (i + 1))]) (rest := [.int (kTearR (aF (Y 0)) (aP (Y 0)) ((xs (i + 1))))]) ⟨hx, hb, hml, hown, hts⟩ (c_X8_tear l V g w pa be av sl sv pd cd (nI hk) (nI n) ap pl wy n_ hk ((xs (i + 1))) hJ8 hok rfl hrT.2.2.1) (cwV 1 hts (zgLV_ wsM_all wsM_in uM_114 (tq_3 _ (List.mem_of_getElem? (i := 213) rfl)) (tq_3 _ (List.mem_of_getElem? (i := 214) rfl)) (tq_3 _ (List.mem_of_getElem? (i := 215) rfl)) (tq_1 _ (List.mem_of_getElem? (i := 9) rfl))) rfl rfl rfl (by decide +kernel) ⟨Nat.le_of_ble_eq_true rfl, Nat.le_of_ble_eq_true rfl⟩) (zPreV (B := fun H => va_P V.1 vwCl (zmW V g w pa be av sl sv pd cd (nI hk) (nI n) ap pl wy) H) hM hE (va_recv hE.1 hM (ci := 8) (q0 := 0) (q := (RX8, TX8, 13)) rfl (zm_c0 V g w pa be av sl sv pd cd (nI hk) (nI n) ap pl wy))) rfl rfl hl.1 rfl (lv_room (Nat.le_of_ble_eq_true rfl)) dL_law_219 ⟨Nat.le_of_ble_eq_true rfl, Nat.le_of_ble_eq_true rfl⟩) hS hgA hgA (fun r_ H_6 locs hQ_ _ hk_ hS => ?_)
          obtain ⟨hr_, be_, hM⟩ := hQ_
          subst hr_
          have hT := zT_uni.mpr (zP_keep (zT_uni.mp hT) hk_ hGg)
          refine lv_icmp_eq (tgt := 658) hx hb dL_law_222 (by decide) (fun c_ => ?_) (fun c_ => absurd e1_ c_)
          rw [e3_] at hM
          exact K _ _ _ _ _ _ _ _ _ _ _ _ _ _ _ _ _ _ _ _ _ H_6 locs ls e2_ h80 hT hM hS (lv_sub hl [0, 1, 2, 3] rfl)
        · have hc_ : (xs (i)) &&& 31 = 3 := hc_
          refine lv_tableIn (off := 195) (tgt := 227) hx hb dL_law_32 (by rw [hc_]; decide) (by rw [hc_]; decide) (by rw [hc_]; rfl) (by decide) ?_
          refine lv_aload_n hx hb dL_law_227 rfl (lv_at hl 2 rfl) ?_
          refine lv_aload_n hx hb dL_law_228 rfl (lv_at hl 1 rfl) ?_
          refine lv_iload_n hx hb dL_law_229 rfl (lv_at hl 0 rfl) ?_
          refine lv_iconst (v := 1) hx hb dL_law_230 (by decide +kernel) ?_
          refine lv_iadd hx hb dL_law_231 ?_
          refine zt_i (z_add (a := i) (b := 1) (by first | rfl | omega)) ?_
          refine va_sld hx hb hX hbl hbA hS (i := nI (i + 1)) (vp_in_nI (by omega) (by omega)) dL_law_232 ?_
          refine zt_i (y := xs (i + 1)) (by rw [nI_clamp (by omega)]) ?_
          obtain ⟨e1_, e2_, e3_⟩ := L_serve hrT hR ht9 hNM ((xs (i + 1)))
          refine zc_i (va_runV (As := [.int (xs (i + 1))]) (rest := []) ⟨hx, hb, hml, hown, hts⟩ (c_X7_serve l V G Y hp hk f1 f2 n pd a kd nu mo ((xs (i + 1))) hJ hrT.2.1 hrT.2.2.1 hrT.2.2.2.2.2.2 hgood) (cwV 1 hts (zgLV_ wsC_all wsC_in uC_287 (tq_2 _ (List.mem_of_getElem? (i := 100) rfl)) (tq_2 _ (List.mem_of_getElem? (i := 101) rfl)) (tq_2 _ (List.mem_of_getElem? (i := 102) rfl)) (tq_1 _ (List.mem_of_getElem? (i := 1) rfl))) rfl rfl rfl (by decide +kernel) ⟨Nat.le_of_ble_eq_true rfl, Nat.le_of_ble_eq_true rfl⟩) (zPreV (B := fun H => zTP V G Y hp hk f1 f2 n pd a kd nu mo H) hT hE (zT_rt hE hT)) rfl rfl hl.1 rfl (lv_room (Nat.le_of_ble_eq_true rfl)) dL_law_233 ⟨Nat.le_of_ble_eq_true rfl, Nat.le_of_ble_eq_true rfl⟩) hS hGA hGA (fun r_ H_7 locs hQ_ _ hk_ hS => ?_)
          obtain ⟨hr_, hT⟩ := hQ_
          subst hr_
          have hM := zP_keep hM hk_ hgG
          refine lv_aload_n hx hb dL_law_236 rfl (lv_at hl 3 rfl) ?_
          refine lv_aload_n hx hb dL_law_237 rfl (lv_at hl 1 rfl) ?_
          refine lv_iload_n hx hb dL_law_238 rfl (lv_at hl 0 rfl) ?_
          refine lv_iconst (v := 1) hx hb dL_law_239 (by decide +kernel) ?_
          refine lv_iadd hx hb dL_law_240 ?_
          refine zt_i (z_add (a := i) (b := 1) (by first | rfl | omega)) ?_
          refine va_sld hx hb hX hbl hbA hS (i := nI (i + 1)) (vp_in_nI (by omega) (by omega)) dL_law_241 ?_
          refine zt_i (y := xs (i + 1)) (by rw [nI_clamp (by omega)]) ?_
          refine zc_i (va_runV (As := [.int (xs (i + 1))]) (rest := [.int (kSrvR (Y 0) ((xs (i + 1))))]) ⟨hx, hb, hml, hown, hts⟩ (c_X8_serve l V g w pa be av sl sv pd cd (nI hk) (nI n) ap pl wy n_ hk ((xs (i + 1))) hJ8 hok rfl hrT.2.2.1) (cwV 1 hts (zgLV_ wsM_all wsM_in uM_118 (tq_3 _ (List.mem_of_getElem? (i := 225) rfl)) (tq_3 _ (List.mem_of_getElem? (i := 226) rfl)) (tq_3 _ (List.mem_of_getElem? (i := 227) rfl)) (tq_1 _ (List.mem_of_getElem? (i := 9) rfl))) rfl rfl rfl (by decide +kernel) ⟨Nat.le_of_ble_eq_true rfl, Nat.le_of_ble_eq_true rfl⟩) (zPreV (B := fun H => va_P V.1 vwCl (zmW V g w pa be av sl sv pd cd (nI hk) (nI n) ap pl wy) H) hM hE (va_recv hE.1 hM (ci := 8) (q0 := 0) (q := (RX8, TX8, 13)) rfl (zm_c0 V g w pa be av sl sv pd cd (nI hk) (nI n) ap pl wy))) rfl rfl hl.1 rfl (lv_room (Nat.le_of_ble_eq_true rfl)) dL_law_242 ⟨Nat.le_of_ble_eq_true rfl, Nat.le_of_ble_eq_true rfl⟩) hS hgA hgA (fun r_ H_8 locs hQ_ _ hk_ hS => ?_)
          obtain ⟨hr_, av_, pl_, wy_, hM⟩ := hQ_
          subst hr_
          have hT := zT_uni.mpr (zP_keep (zT_uni.mp hT) hk_ hGg)
          refine lv_icmp_eq (tgt := 658) hx hb dL_law_245 (by decide) (fun c_ => ?_) (fun c_ => absurd e1_ c_)
          rw [e3_] at hM
          exact K _ _ _ _ _ _ _ _ _ _ _ _ _ _ _ _ _ _ _ _ _ H_8 locs ls e2_ h80 hT hM hS (lv_sub hl [0, 1, 2, 3] rfl)
        · have hc_ : (xs (i)) &&& 31 = 4 := hc_
          refine lv_tableIn (off := 218) (tgt := 250) hx hb dL_law_32 (by rw [hc_]; decide) (by rw [hc_]; decide) (by rw [hc_]; rfl) (by decide) ?_
          refine lv_aload_n hx hb dL_law_250 rfl (lv_at hl 2 rfl) ?_
          refine lv_aload_n hx hb dL_law_251 rfl (lv_at hl 1 rfl) ?_
          refine lv_iload_n hx hb dL_law_252 rfl (lv_at hl 0 rfl) ?_
          refine lv_iconst (v := 1) hx hb dL_law_253 (by decide +kernel) ?_
          refine lv_iadd hx hb dL_law_254 ?_
          refine zt_i (z_add (a := i) (b := 1) (by first | rfl | omega)) ?_
          refine va_sld hx hb hX hbl hbA hS (i := nI (i + 1)) (vp_in_nI (by omega) (by omega)) dL_law_255 ?_
          refine zt_i (y := xs (i + 1)) (by rw [nI_clamp (by omega)]) ?_
          obtain ⟨e1_, e2_, e3_⟩ := L_pass hrT hR ht9 hNM ((xs (i + 1)))
          refine zc_i (va_runV (As := [.int (xs (i + 1))]) (rest := []) ⟨hx, hb, hml, hown, hts⟩ (c_X7_pass l V G Y hp hk f1 f2 n pd a kd nu mo ((xs (i + 1))) hJ hrT.2.1 hrT.2.2.1 hrT.2.2.2.2.2.2) (cwV 1 hts (zgLV_ wsC_all wsC_in uC_291 (tq_2 _ (List.mem_of_getElem? (i := 171) rfl)) (tq_2 _ (List.mem_of_getElem? (i := 172) rfl)) (tq_2 _ (List.mem_of_getElem? (i := 173) rfl)) (tq_1 _ (List.mem_of_getElem? (i := 1) rfl))) rfl rfl rfl (by decide +kernel) ⟨Nat.le_of_ble_eq_true rfl, Nat.le_of_ble_eq_true rfl⟩) (zPreV (B := fun H => zTP V G Y hp hk f1 f2 n pd a kd nu mo H) hT hE (zT_rt hE hT)) rfl rfl hl.1 rfl (lv_room (Nat.le_of_ble_eq_true rfl)) dL_law_256 ⟨Nat.le_of_ble_eq_true rfl, Nat.le_of_ble_eq_true rfl⟩) hS hGA hGA (fun r_ H_9 locs hQ_ _ hk_ hS => ?_)
          obtain ⟨hr_, hT⟩ := hQ_
          subst hr_
          have hM := zP_keep hM hk_ hgG
          refine lv_aload_n hx hb dL_law_259 rfl (lv_at hl 3 rfl) ?_
          refine lv_aload_n hx hb dL_law_260 rfl (lv_at hl 1 rfl) ?_
          refine lv_iload_n hx hb dL_law_261 rfl (lv_at hl 0 rfl) ?_
          refine lv_iconst (v := 1) hx hb dL_law_262 (by decide +kernel) ?_
          refine lv_iadd hx hb dL_law_263 ?_
          refine zt_i (z_add (a := i) (b := 1) (by first | rfl | omega)) ?_
          refine va_sld hx hb hX hbl hbA hS (i := nI (i + 1)) (vp_in_nI (by omega) (by omega)) dL_law_264 ?_
          refine zt_i (y := xs (i + 1)) (by rw [nI_clamp (by omega)]) ?_
          refine zc_i (va_runV (As := [.int (xs (i + 1))]) (rest := [.int (kStandR (aF (Y 0)) ((xs (i + 1))))]) ⟨hx, hb, hml, hown, hts⟩ (c_X8_pass l V g w pa be av sl sv pd cd (nI hk) (nI n) ap pl wy n_ hk ((xs (i + 1))) hJ8 hok rfl hrT.2.2.1) (cwV 1 hts (zgLV_ wsM_all wsM_in uM_122 (tq_4 _ (List.mem_of_getElem? (i := 41) rfl)) (tq_4 _ (List.mem_of_getElem? (i := 42) rfl)) (tq_4 _ (List.mem_of_getElem? (i := 43) rfl)) (tq_1 _ (List.mem_of_getElem? (i := 9) rfl))) rfl rfl rfl (by decide +kernel) ⟨Nat.le_of_ble_eq_true rfl, Nat.le_of_ble_eq_true rfl⟩) (zPreV (B := fun H => va_P V.1 vwCl (zmW V g w pa be av sl sv pd cd (nI hk) (nI n) ap pl wy) H) hM hE (va_recv hE.1 hM (ci := 8) (q0 := 0) (q := (RX8, TX8, 13)) rfl (zm_c0 V g w pa be av sl sv pd cd (nI hk) (nI n) ap pl wy))) rfl rfl hl.1 rfl (lv_room (Nat.le_of_ble_eq_true rfl)) dL_law_265 ⟨Nat.le_of_ble_eq_true rfl, Nat.le_of_ble_eq_true rfl⟩) hS hgA hgA (fun r_ H_10 locs hQ_ _ hk_ hS => ?_)
          obtain ⟨hr_, hM⟩ := hQ_
          subst hr_
          have hT := zT_uni.mpr (zP_keep (zT_uni.mp hT) hk_ hGg)
          refine lv_icmp_eq (tgt := 658) hx hb dL_law_268 (by decide) (fun c_ => ?_) (fun c_ => absurd e1_ c_)
          rw [e3_] at hM
          exact K _ _ _ _ _ _ _ _ _ _ _ _ _ _ _ _ _ _ _ _ _ H_10 locs ls e2_ h80 hT hM hS (lv_sub hl [0, 1, 2, 3] rfl)
        · have hc_ : (xs (i)) &&& 31 = 5 := hc_
          refine lv_tableIn (off := 241) (tgt := 273) hx hb dL_law_32 (by rw [hc_]; decide) (by rw [hc_]; decide) (by rw [hc_]; rfl) (by decide) ?_
          refine lv_aload_n hx hb dL_law_273 rfl (lv_at hl 2 rfl) ?_
          refine lv_aload_n hx hb dL_law_274 rfl (lv_at hl 1 rfl) ?_
          refine lv_iload_n hx hb dL_law_275 rfl (lv_at hl 0 rfl) ?_
          refine lv_iconst (v := 1) hx hb dL_law_276 (by decide +kernel) ?_
          refine lv_iadd hx hb dL_law_277 ?_
          refine zt_i (z_add (a := i) (b := 1) (by first | rfl | omega)) ?_
          refine va_sld hx hb hX hbl hbA hS (i := nI (i + 1)) (vp_in_nI (by omega) (by omega)) dL_law_278 ?_
          refine zt_i (y := xs (i + 1)) (by rw [nI_clamp (by omega)]) ?_
          refine lv_aload_n hx hb dL_law_279 rfl (lv_at hl 1 rfl) ?_
          refine lv_iload_n hx hb dL_law_280 rfl (lv_at hl 0 rfl) ?_
          refine lv_iconst (v := 2) hx hb dL_law_281 (by decide +kernel) ?_
          refine lv_iadd hx hb dL_law_282 ?_
          refine zt_i (z_add (a := i) (b := 2) (by first | rfl | omega)) ?_
          refine va_sld hx hb hX hbl hbA hS (i := nI (i + 2)) (vp_in_nI (by omega) (by omega)) dL_law_283 ?_
          refine zt_i (y := xs (i + 2)) (by rw [nI_clamp (by omega)]) ?_
          have e1_ : (uOf (Y 0) ((xs (i + 1))) ((xs (i + 2)))) = (mOf w n_ ((xs (i + 1))) ((xs (i + 2)))) := qOf hR ((xs (i + 1))) ((xs (i + 2)))
          refine zc_se (va_runV (As := [.int (xs (i + 1)), .int (xs (i + 2))]) (rest := []) ⟨hx, hb, hml, hown, hts⟩ (c_X7_of l V G Y hp hk f1 f2 n pd a kd nu mo ((xs (i + 1))) ((xs (i + 2))) hJ) (cwV 2 hts (zgLV_ wsC_all wsC_in uC_294 (tq_2 _ (List.mem_of_getElem? (i := 180) rfl)) (tq_2 _ (List.mem_of_getElem? (i := 181) rfl)) (tq_2 _ (List.mem_of_getElem? (i := 182) rfl)) (tq_1 _ (List.mem_of_getElem? (i := 1) rfl))) rfl rfl rfl (by decide +kernel) ⟨Nat.le_of_ble_eq_true rfl, Nat.le_of_ble_eq_true rfl⟩) (zPreV (B := fun H => zTP V G Y hp hk f1 f2 n pd a kd nu mo H) hT hE (zT_rt hE hT)) rfl rfl hl.1 rfl (lv_room (Nat.le_of_ble_eq_true rfl)) dL_law_284 ⟨Nat.le_of_ble_eq_true rfl, Nat.le_of_ble_eq_true rfl⟩) ?_
          refine lv_aload_n hx hb dL_law_287 rfl (lv_at hl 3 rfl) ?_
          refine lv_aload_n hx hb dL_law_288 rfl (lv_at hl 1 rfl) ?_
          refine lv_iload_n hx hb dL_law_289 rfl (lv_at hl 0 rfl) ?_
          refine lv_iconst (v := 1) hx hb dL_law_290 (by decide +kernel) ?_
          refine lv_iadd hx hb dL_law_291 ?_
          refine zt_i (z_add (a := i) (b := 1) (by first | rfl | omega)) ?_
          refine va_sld hx hb hX hbl hbA hS (i := nI (i + 1)) (vp_in_nI (by omega) (by omega)) dL_law_292 ?_
          refine zt_i (y := xs (i + 1)) (by rw [nI_clamp (by omega)]) ?_
          refine lv_aload_n hx hb dL_law_293 rfl (lv_at hl 1 rfl) ?_
          refine lv_iload_n hx hb dL_law_294 rfl (lv_at hl 0 rfl) ?_
          refine lv_iconst (v := 2) hx hb dL_law_295 (by decide +kernel) ?_
          refine lv_iadd hx hb dL_law_296 ?_
          refine zt_i (z_add (a := i) (b := 2) (by first | rfl | omega)) ?_
          refine va_sld hx hb hX hbl hbA hS (i := nI (i + 2)) (vp_in_nI (by omega) (by omega)) dL_law_297 ?_
          refine zt_i (y := xs (i + 2)) (by rw [nI_clamp (by omega)]) ?_
          refine zc_se (va_runV (As := [.int (xs (i + 1)), .int (xs (i + 2))]) (rest := [.int (uOf (Y 0) ((xs (i + 1))) ((xs (i + 2))))]) ⟨hx, hb, hml, hown, hts⟩ (c_X8_of l V g w pa be av sl sv pd cd (nI hk) (nI n) ap pl wy n_ ((xs (i + 1))) ((xs (i + 2))) hok.1 hok.2.1 hok.2.2.1) (cwV 2 hts (zgLV_ wsM_all wsM_in uM_126 (tq_4 _ (List.mem_of_getElem? (i := 49) rfl)) (tq_4 _ (List.mem_of_getElem? (i := 50) rfl)) (tq_4 _ (List.mem_of_getElem? (i := 51) rfl)) (tq_1 _ (List.mem_of_getElem? (i := 9) rfl))) rfl rfl rfl (by decide +kernel) ⟨Nat.le_of_ble_eq_true rfl, Nat.le_of_ble_eq_true rfl⟩) (zPreV (B := fun H => va_P V.1 vwCl (zmW V g w pa be av sl sv pd cd (nI hk) (nI n) ap pl wy) H) hM hE (va_recv hE.1 hM (ci := 8) (q0 := 0) (q := (RX8, TX8, 13)) rfl (zm_c0 V g w pa be av sl sv pd cd (nI hk) (nI n) ap pl wy))) rfl rfl hl.1 rfl (lv_room (Nat.le_of_ble_eq_true rfl)) dL_law_298 ⟨Nat.le_of_ble_eq_true rfl, Nat.le_of_ble_eq_true rfl⟩) ?_
          refine lv_icmp_eq (tgt := 658) hx hb dL_law_301 (by decide) (fun c_ => ?_) (fun c_ => absurd e1_ c_)
          exact K _ _ _ _ _ _ _ _ _ _ _ _ _ _ _ _ _ _ _ _ _ H locs ls ((hrT).mono (by omega)) h80 hT hM hS (lv_sub hl [0, 1, 2, 3] rfl)
        · have hc_ : (xs (i)) &&& 31 = 6 := hc_
          refine lv_tableIn (off := 274) (tgt := 306) hx hb dL_law_32 (by rw [hc_]; decide) (by rw [hc_]; decide) (by rw [hc_]; rfl) (by decide) ?_
          refine lv_aload_n hx hb dL_law_306 rfl (lv_at hl 2 rfl) ?_
          refine lv_aload_n hx hb dL_law_307 rfl (lv_at hl 1 rfl) ?_
          refine lv_iload_n hx hb dL_law_308 rfl (lv_at hl 0 rfl) ?_
          refine lv_iconst (v := 1) hx hb dL_law_309 (by decide +kernel) ?_
          refine lv_iadd hx hb dL_law_310 ?_
          refine zt_i (z_add (a := i) (b := 1) (by first | rfl | omega)) ?_
          refine va_sld hx hb hX hbl hbA hS (i := nI (i + 1)) (vp_in_nI (by omega) (by omega)) dL_law_311 ?_
          refine zt_i (y := xs (i + 1)) (by rw [nI_clamp (by omega)]) ?_
          refine lv_aload_n hx hb dL_law_312 rfl (lv_at hl 1 rfl) ?_
          refine lv_iload_n hx hb dL_law_313 rfl (lv_at hl 0 rfl) ?_
          refine lv_iconst (v := 2) hx hb dL_law_314 (by decide +kernel) ?_
          refine lv_iadd hx hb dL_law_315 ?_
          refine zt_i (z_add (a := i) (b := 2) (by first | rfl | omega)) ?_
          refine va_sld hx hb hX hbl hbA hS (i := nI (i + 2)) (vp_in_nI (by omega) (by omega)) dL_law_316 ?_
          refine zt_i (y := xs (i + 2)) (by rw [nI_clamp (by omega)]) ?_
          have e1_ : (uWait (Y 0) ((xs (i + 1))) ((xs (i + 2)))) = (mWait w n_ ((xs (i + 1))) ((xs (i + 2)))) := qWait hR ((xs (i + 1))) ((xs (i + 2)))
          refine zc_se (va_runV (As := [.int (xs (i + 1)), .int (xs (i + 2))]) (rest := []) ⟨hx, hb, hml, hown, hts⟩ (c_X7_waiting l V G Y hp hk f1 f2 n pd a kd nu mo ((xs (i + 1))) ((xs (i + 2))) hJ) (cwV 2 hts (zgLV_ wsC_all wsC_in uC_295 (tq_2 _ (List.mem_of_getElem? (i := 188) rfl)) (tq_2 _ (List.mem_of_getElem? (i := 189) rfl)) (tq_2 _ (List.mem_of_getElem? (i := 190) rfl)) (tq_1 _ (List.mem_of_getElem? (i := 1) rfl))) rfl rfl rfl (by decide +kernel) ⟨Nat.le_of_ble_eq_true rfl, Nat.le_of_ble_eq_true rfl⟩) (zPreV (B := fun H => zTP V G Y hp hk f1 f2 n pd a kd nu mo H) hT hE (zT_rt hE hT)) rfl rfl hl.1 rfl (lv_room (Nat.le_of_ble_eq_true rfl)) dL_law_317 ⟨Nat.le_of_ble_eq_true rfl, Nat.le_of_ble_eq_true rfl⟩) ?_
          refine lv_aload_n hx hb dL_law_320 rfl (lv_at hl 3 rfl) ?_
          refine lv_aload_n hx hb dL_law_321 rfl (lv_at hl 1 rfl) ?_
          refine lv_iload_n hx hb dL_law_322 rfl (lv_at hl 0 rfl) ?_
          refine lv_iconst (v := 1) hx hb dL_law_323 (by decide +kernel) ?_
          refine lv_iadd hx hb dL_law_324 ?_
          refine zt_i (z_add (a := i) (b := 1) (by first | rfl | omega)) ?_
          refine va_sld hx hb hX hbl hbA hS (i := nI (i + 1)) (vp_in_nI (by omega) (by omega)) dL_law_325 ?_
          refine zt_i (y := xs (i + 1)) (by rw [nI_clamp (by omega)]) ?_
          refine lv_aload_n hx hb dL_law_326 rfl (lv_at hl 1 rfl) ?_
          refine lv_iload_n hx hb dL_law_327 rfl (lv_at hl 0 rfl) ?_
          refine lv_iconst (v := 2) hx hb dL_law_328 (by decide +kernel) ?_
          refine lv_iadd hx hb dL_law_329 ?_
          refine zt_i (z_add (a := i) (b := 2) (by first | rfl | omega)) ?_
          refine va_sld hx hb hX hbl hbA hS (i := nI (i + 2)) (vp_in_nI (by omega) (by omega)) dL_law_330 ?_
          refine zt_i (y := xs (i + 2)) (by rw [nI_clamp (by omega)]) ?_
          refine zc_se (va_runV (As := [.int (xs (i + 1)), .int (xs (i + 2))]) (rest := [.int (uWait (Y 0) ((xs (i + 1))) ((xs (i + 2))))]) ⟨hx, hb, hml, hown, hts⟩ (c_X8_waiting l V g w pa be av sl sv pd cd (nI hk) (nI n) ap pl wy n_ ((xs (i + 1))) ((xs (i + 2))) hok.1 hok.2.1) (cwV 2 hts (zgLV_ wsM_all wsM_in uM_128 (tq_4 _ (List.mem_of_getElem? (i := 53) rfl)) (tq_4 _ (List.mem_of_getElem? (i := 54) rfl)) (tq_4 _ (List.mem_of_getElem? (i := 55) rfl)) (tq_1 _ (List.mem_of_getElem? (i := 9) rfl))) rfl rfl rfl (by decide +kernel) ⟨Nat.le_of_ble_eq_true rfl, Nat.le_of_ble_eq_true rfl⟩) (zPreV (B := fun H => va_P V.1 vwCl (zmW V g w pa be av sl sv pd cd (nI hk) (nI n) ap pl wy) H) hM hE (va_recv hE.1 hM (ci := 8) (q0 := 0) (q := (RX8, TX8, 13)) rfl (zm_c0 V g w pa be av sl sv pd cd (nI hk) (nI n) ap pl wy))) rfl rfl hl.1 rfl (lv_room (Nat.le_of_ble_eq_true rfl)) dL_law_331 ⟨Nat.le_of_ble_eq_true rfl, Nat.le_of_ble_eq_true rfl⟩) ?_
          refine lv_icmp_eq (tgt := 658) hx hb dL_law_334 (by decide) (fun c_ => ?_) (fun c_ => absurd e1_ c_)
          exact K _ _ _ _ _ _ _ _ _ _ _ _ _ _ _ _ _ _ _ _ _ H locs ls ((hrT).mono (by omega)) h80 hT hM hS (lv_sub hl [0, 1, 2, 3] rfl)
        · have hc_ : (xs (i)) &&& 31 = 7 := hc_
          refine lv_tableIn (off := 307) (tgt := 339) hx hb dL_law_32 (by rw [hc_]; decide) (by rw [hc_]; decide) (by rw [hc_]; rfl) (by decide) ?_
          refine lv_aload_n hx hb dL_law_339 rfl (lv_at hl 2 rfl) ?_
          refine lv_aload_n hx hb dL_law_340 rfl (lv_at hl 1 rfl) ?_
          refine lv_iload_n hx hb dL_law_341 rfl (lv_at hl 0 rfl) ?_
          refine lv_iconst (v := 1) hx hb dL_law_342 (by decide +kernel) ?_
          refine lv_iadd hx hb dL_law_343 ?_
          refine zt_i (z_add (a := i) (b := 1) (by first | rfl | omega)) ?_
          refine va_sld hx hb hX hbl hbA hS (i := nI (i + 1)) (vp_in_nI (by omega) (by omega)) dL_law_344 ?_
          refine zt_i (y := xs (i + 1)) (by rw [nI_clamp (by omega)]) ?_
          refine lv_aload_n hx hb dL_law_345 rfl (lv_at hl 1 rfl) ?_
          refine lv_iload_n hx hb dL_law_346 rfl (lv_at hl 0 rfl) ?_
          refine lv_iconst (v := 2) hx hb dL_law_347 (by decide +kernel) ?_
          refine lv_iadd hx hb dL_law_348 ?_
          refine zt_i (z_add (a := i) (b := 2) (by first | rfl | omega)) ?_
          refine va_sld hx hb hX hbl hbA hS (i := nI (i + 2)) (vp_in_nI (by omega) (by omega)) dL_law_349 ?_
          refine zt_i (y := xs (i + 2)) (by rw [nI_clamp (by omega)]) ?_
          have e1_ : (uLog (Y 0) ((xs (i + 1))) ((xs (i + 2)))) = (mLog w ((xs (i + 1))) ((xs (i + 2)))) := qLog hR ((xs (i + 1))) ((xs (i + 2)))
          refine zc_se (va_runV (As := [.int (xs (i + 1)), .int (xs (i + 2))]) (rest := []) ⟨hx, hb, hml, hown, hts⟩ (c_X7_log l V G Y hp hk f1 f2 n pd a kd nu mo ((xs (i + 1))) ((xs (i + 2))) hJ (by have := hgood.2.2; omega)) (cwV 2 hts (zgLV_ wsC_all wsC_in uC_298 (tq_2 _ (List.mem_of_getElem? (i := 200) rfl)) (tq_2 _ (List.mem_of_getElem? (i := 201) rfl)) (tq_2 _ (List.mem_of_getElem? (i := 202) rfl)) (tq_1 _ (List.mem_of_getElem? (i := 1) rfl))) rfl rfl rfl (by decide +kernel) ⟨Nat.le_of_ble_eq_true rfl, Nat.le_of_ble_eq_true rfl⟩) (zPreV (B := fun H => zTP V G Y hp hk f1 f2 n pd a kd nu mo H) hT hE (zT_rt hE hT)) rfl rfl hl.1 rfl (lv_room (Nat.le_of_ble_eq_true rfl)) dL_law_350 ⟨Nat.le_of_ble_eq_true rfl, Nat.le_of_ble_eq_true rfl⟩) ?_
          refine lv_aload_n hx hb dL_law_353 rfl (lv_at hl 3 rfl) ?_
          refine lv_aload_n hx hb dL_law_354 rfl (lv_at hl 1 rfl) ?_
          refine lv_iload_n hx hb dL_law_355 rfl (lv_at hl 0 rfl) ?_
          refine lv_iconst (v := 1) hx hb dL_law_356 (by decide +kernel) ?_
          refine lv_iadd hx hb dL_law_357 ?_
          refine zt_i (z_add (a := i) (b := 1) (by first | rfl | omega)) ?_
          refine va_sld hx hb hX hbl hbA hS (i := nI (i + 1)) (vp_in_nI (by omega) (by omega)) dL_law_358 ?_
          refine zt_i (y := xs (i + 1)) (by rw [nI_clamp (by omega)]) ?_
          refine lv_aload_n hx hb dL_law_359 rfl (lv_at hl 1 rfl) ?_
          refine lv_iload_n hx hb dL_law_360 rfl (lv_at hl 0 rfl) ?_
          refine lv_iconst (v := 2) hx hb dL_law_361 (by decide +kernel) ?_
          refine lv_iadd hx hb dL_law_362 ?_
          refine zt_i (z_add (a := i) (b := 2) (by first | rfl | omega)) ?_
          refine va_sld hx hb hX hbl hbA hS (i := nI (i + 2)) (vp_in_nI (by omega) (by omega)) dL_law_363 ?_
          refine zt_i (y := xs (i + 2)) (by rw [nI_clamp (by omega)]) ?_
          refine zc_se (va_runV (As := [.int (xs (i + 1)), .int (xs (i + 2))]) (rest := [.int (uLog (Y 0) ((xs (i + 1))) ((xs (i + 2))))]) ⟨hx, hb, hml, hown, hts⟩ (c_X8_log l V g w pa be av sl sv pd cd (nI hk) (nI n) ap pl wy (min (aS (Y 0)) 20) ((xs (i + 1))) ((xs (i + 2))) (rRep17 hR) (Nat.min_le_right _ _)) (cwV 2 hts (zgLV_ wsM_all wsM_in uM_132 (tq_4 _ (List.mem_of_getElem? (i := 61) rfl)) (tq_4 _ (List.mem_of_getElem? (i := 62) rfl)) (tq_4 _ (List.mem_of_getElem? (i := 63) rfl)) (tq_1 _ (List.mem_of_getElem? (i := 9) rfl))) rfl rfl rfl (by decide +kernel) ⟨Nat.le_of_ble_eq_true rfl, Nat.le_of_ble_eq_true rfl⟩) (zPreV (B := fun H => va_P V.1 vwCl (zmW V g w pa be av sl sv pd cd (nI hk) (nI n) ap pl wy) H) hM hE (va_recv hE.1 hM (ci := 8) (q0 := 0) (q := (RX8, TX8, 13)) rfl (zm_c0 V g w pa be av sl sv pd cd (nI hk) (nI n) ap pl wy))) rfl rfl hl.1 rfl (lv_room (Nat.le_of_ble_eq_true rfl)) dL_law_364 ⟨Nat.le_of_ble_eq_true rfl, Nat.le_of_ble_eq_true rfl⟩) ?_
          refine lv_icmp_eq (tgt := 658) hx hb dL_law_367 (by decide) (fun c_ => ?_) (fun c_ => absurd e1_ c_)
          exact K _ _ _ _ _ _ _ _ _ _ _ _ _ _ _ _ _ _ _ _ _ H locs ls ((hrT).mono (by omega)) h80 hT hM hS (lv_sub hl [0, 1, 2, 3] rfl)
        · have hc_ : (xs (i)) &&& 31 = 8 := hc_
          refine lv_tableIn (off := 340) (tgt := 372) hx hb dL_law_32 (by rw [hc_]; decide) (by rw [hc_]; decide) (by rw [hc_]; rfl) (by decide) ?_
          refine lv_aload_n hx hb dL_law_372 rfl (lv_at hl 2 rfl) ?_
          refine lv_aload_n hx hb dL_law_373 rfl (lv_at hl 1 rfl) ?_
          refine lv_iload_n hx hb dL_law_374 rfl (lv_at hl 0 rfl) ?_
          refine lv_iconst (v := 1) hx hb dL_law_375 (by decide +kernel) ?_
          refine lv_iadd hx hb dL_law_376 ?_
          refine zt_i (z_add (a := i) (b := 1) (by first | rfl | omega)) ?_
          refine va_sld hx hb hX hbl hbA hS (i := nI (i + 1)) (vp_in_nI (by omega) (by omega)) dL_law_377 ?_
          refine zt_i (y := xs (i + 1)) (by rw [nI_clamp (by omega)]) ?_
          have e1_ : (uCount (Y 0) n hk ((xs (i + 1)))) = (mCount w n_ (nI n) (nI hk) ((xs (i + 1)))) := qCount hR n hk ((xs (i + 1)))
          refine zc_se (va_runV (As := [.int (xs (i + 1))]) (rest := []) ⟨hx, hb, hml, hown, hts⟩ (c_X7_count l V G Y hp hk f1 f2 n pd a kd nu mo ((xs (i + 1))) hJ hrT.2.2.1) (cwV 1 hts (zgLV_ wsC_all wsC_in uC_307 (tq_2 _ (List.mem_of_getElem? (i := 225) rfl)) (tq_2 _ (List.mem_of_getElem? (i := 226) rfl)) (tq_2 _ (List.mem_of_getElem? (i := 227) rfl)) (tq_1 _ (List.mem_of_getElem? (i := 1) rfl))) rfl rfl rfl (by decide +kernel) ⟨Nat.le_of_ble_eq_true rfl, Nat.le_of_ble_eq_true rfl⟩) (zPreV (B := fun H => zTP V G Y hp hk f1 f2 n pd a kd nu mo H) hT hE (zT_rt hE hT)) rfl rfl hl.1 rfl (lv_room (Nat.le_of_ble_eq_true rfl)) dL_law_378 ⟨Nat.le_of_ble_eq_true rfl, Nat.le_of_ble_eq_true rfl⟩) ?_
          refine lv_aload_n hx hb dL_law_381 rfl (lv_at hl 3 rfl) ?_
          refine lv_aload_n hx hb dL_law_382 rfl (lv_at hl 1 rfl) ?_
          refine lv_iload_n hx hb dL_law_383 rfl (lv_at hl 0 rfl) ?_
          refine lv_iconst (v := 1) hx hb dL_law_384 (by decide +kernel) ?_
          refine lv_iadd hx hb dL_law_385 ?_
          refine zt_i (z_add (a := i) (b := 1) (by first | rfl | omega)) ?_
          refine va_sld hx hb hX hbl hbA hS (i := nI (i + 1)) (vp_in_nI (by omega) (by omega)) dL_law_386 ?_
          refine zt_i (y := xs (i + 1)) (by rw [nI_clamp (by omega)]) ?_
          refine zc_se (va_runV (As := [.int (xs (i + 1))]) (rest := [.int (uCount (Y 0) n hk ((xs (i + 1))))]) ⟨hx, hb, hml, hown, hts⟩ (c_X8_count l V g w pa be av sl sv pd cd (nI hk) (nI n) ap pl wy n_ ((xs (i + 1))) hok.1 hok.2.1) (cwV 1 hts (zgLV_ wsM_all wsM_in uM_133 (tq_4 _ (List.mem_of_getElem? (i := 65) rfl)) (tq_4 _ (List.mem_of_getElem? (i := 66) rfl)) (tq_4 _ (List.mem_of_getElem? (i := 67) rfl)) (tq_1 _ (List.mem_of_getElem? (i := 9) rfl))) rfl rfl rfl (by decide +kernel) ⟨Nat.le_of_ble_eq_true rfl, Nat.le_of_ble_eq_true rfl⟩) (zPreV (B := fun H => va_P V.1 vwCl (zmW V g w pa be av sl sv pd cd (nI hk) (nI n) ap pl wy) H) hM hE (va_recv hE.1 hM (ci := 8) (q0 := 0) (q := (RX8, TX8, 13)) rfl (zm_c0 V g w pa be av sl sv pd cd (nI hk) (nI n) ap pl wy))) rfl rfl hl.1 rfl (lv_room (Nat.le_of_ble_eq_true rfl)) dL_law_387 ⟨Nat.le_of_ble_eq_true rfl, Nat.le_of_ble_eq_true rfl⟩) ?_
          refine lv_icmp_eq (tgt := 658) hx hb dL_law_390 (by decide) (fun c_ => ?_) (fun c_ => absurd e1_ c_)
          exact K _ _ _ _ _ _ _ _ _ _ _ _ _ _ _ _ _ _ _ _ _ H locs ls ((hrT).mono (by omega)) h80 hT hM hS (lv_sub hl [0, 1, 2, 3] rfl)
        · have hc_ : (xs (i)) &&& 31 = 9 := hc_
          refine lv_tableIn (off := 363) (tgt := 395) hx hb dL_law_32 (by rw [hc_]; decide) (by rw [hc_]; decide) (by rw [hc_]; rfl) (by decide) ?_
          refine lv_aload_n hx hb dL_law_395 rfl (lv_at hl 2 rfl) ?_
          refine lv_aload_n hx hb dL_law_396 rfl (lv_at hl 1 rfl) ?_
          refine lv_iload_n hx hb dL_law_397 rfl (lv_at hl 0 rfl) ?_
          refine lv_iconst (v := 1) hx hb dL_law_398 (by decide +kernel) ?_
          refine lv_iadd hx hb dL_law_399 ?_
          refine zt_i (z_add (a := i) (b := 1) (by first | rfl | omega)) ?_
          refine va_sld hx hb hX hbl hbA hS (i := nI (i + 1)) (vp_in_nI (by omega) (by omega)) dL_law_400 ?_
          refine zt_i (y := xs (i + 1)) (by rw [nI_clamp (by omega)]) ?_
          have e1_ : (uNext (Y 0) ((xs (i + 1)))) = (mNextQ w n_ ((xs (i + 1)))) := qNext hR ((xs (i + 1)))
          refine zc_se (va_runV (As := [.int (xs (i + 1))]) (rest := []) ⟨hx, hb, hml, hown, hts⟩ (c_X7_next l V G Y hp hk f1 f2 n pd a kd nu mo ((xs (i + 1))) hJ) (cwV 1 hts (zgLV_ wsC_all wsC_in uC_310 (tq_2 _ (List.mem_of_getElem? (i := 233) rfl)) (tq_2 _ (List.mem_of_getElem? (i := 234) rfl)) (tq_2 _ (List.mem_of_getElem? (i := 235) rfl)) (tq_1 _ (List.mem_of_getElem? (i := 1) rfl))) rfl rfl rfl (by decide +kernel) ⟨Nat.le_of_ble_eq_true rfl, Nat.le_of_ble_eq_true rfl⟩) (zPreV (B := fun H => zTP V G Y hp hk f1 f2 n pd a kd nu mo H) hT hE (zT_rt hE hT)) rfl rfl hl.1 rfl (lv_room (Nat.le_of_ble_eq_true rfl)) dL_law_401 ⟨Nat.le_of_ble_eq_true rfl, Nat.le_of_ble_eq_true rfl⟩) ?_
          refine lv_aload_n hx hb dL_law_404 rfl (lv_at hl 3 rfl) ?_
          refine lv_aload_n hx hb dL_law_405 rfl (lv_at hl 1 rfl) ?_
          refine lv_iload_n hx hb dL_law_406 rfl (lv_at hl 0 rfl) ?_
          refine lv_iconst (v := 1) hx hb dL_law_407 (by decide +kernel) ?_
          refine lv_iadd hx hb dL_law_408 ?_
          refine zt_i (z_add (a := i) (b := 1) (by first | rfl | omega)) ?_
          refine va_sld hx hb hX hbl hbA hS (i := nI (i + 1)) (vp_in_nI (by omega) (by omega)) dL_law_409 ?_
          refine zt_i (y := xs (i + 1)) (by rw [nI_clamp (by omega)]) ?_
          refine zc_i (va_runV (As := [.int (xs (i + 1))]) (rest := [.int (uNext (Y 0) ((xs (i + 1))))]) ⟨hx, hb, hml, hown, hts⟩ (c_X8_next l V g w pa be av sl sv pd cd (nI hk) (nI n) ap pl wy n_ ((xs (i + 1))) hJ8 hok) (cwV 1 hts (zgLV_ wsM_all wsM_in uM_135 (tq_4 _ (List.mem_of_getElem? (i := 69) rfl)) (tq_4 _ (List.mem_of_getElem? (i := 70) rfl)) (tq_4 _ (List.mem_of_getElem? (i := 71) rfl)) (tq_1 _ (List.mem_of_getElem? (i := 9) rfl))) rfl rfl rfl (by decide +kernel) ⟨Nat.le_of_ble_eq_true rfl, Nat.le_of_ble_eq_true rfl⟩) (zPreV (B := fun H => va_P V.1 vwCl (zmW V g w pa be av sl sv pd cd (nI hk) (nI n) ap pl wy) H) hM hE (va_recv hE.1 hM (ci := 8) (q0 := 0) (q := (RX8, TX8, 13)) rfl (zm_c0 V g w pa be av sl sv pd cd (nI hk) (nI n) ap pl wy))) rfl rfl hl.1 rfl (lv_room (Nat.le_of_ble_eq_true rfl)) dL_law_410 ⟨Nat.le_of_ble_eq_true rfl, Nat.le_of_ble_eq_true rfl⟩) hS hgA hgA (fun r_ H_11 locs hQ_ _ hk_ hS => ?_)
          obtain ⟨hr_, pl_, wy_, hM⟩ := hQ_
          subst hr_
          have hT := zT_uni.mpr (zP_keep (zT_uni.mp hT) hk_ hGg)
          refine lv_icmp_eq (tgt := 658) hx hb dL_law_413 (by decide) (fun c_ => ?_) (fun c_ => absurd e1_ c_)
          exact K _ _ _ _ _ _ _ _ _ _ _ _ _ _ _ _ _ _ _ _ _ H_11 locs ls ((hrT).mono (by omega)) h80 hT hM hS (lv_sub hl [0, 1, 2, 3] rfl)
        · have hc_ : (xs (i)) &&& 31 = 10 := hc_
          refine lv_tableIn (off := 386) (tgt := 418) hx hb dL_law_32 (by rw [hc_]; decide) (by rw [hc_]; decide) (by rw [hc_]; rfl) (by decide) ?_
          refine lv_aload_n hx hb dL_law_418 rfl (lv_at hl 2 rfl) ?_
          refine lv_aload_n hx hb dL_law_419 rfl (lv_at hl 1 rfl) ?_
          refine lv_iload_n hx hb dL_law_420 rfl (lv_at hl 0 rfl) ?_
          refine lv_iconst (v := 1) hx hb dL_law_421 (by decide +kernel) ?_
          refine lv_iadd hx hb dL_law_422 ?_
          refine zt_i (z_add (a := i) (b := 1) (by first | rfl | omega)) ?_
          refine va_sld hx hb hX hbl hbA hS (i := nI (i + 1)) (vp_in_nI (by omega) (by omega)) dL_law_423 ?_
          refine zt_i (y := xs (i + 1)) (by rw [nI_clamp (by omega)]) ?_
          have e1_ : (kSIR (Y 0) ((xs (i + 1)))) = (mServedIn w n_ ((xs (i + 1)))) := qSI hR ((xs (i + 1)))
          refine zc_i (va_runV (As := [.int (xs (i + 1))]) (rest := []) ⟨hx, hb, hml, hown, hts⟩ (c_X7_servedIn l V G Y hp hk f1 f2 n pd a kd nu mo ((xs (i + 1))) hJ hrT.2.2.2.2.2.2 hgood) (cwV 1 hts (zgLV_ wsC_all wsC_in uC_311 (tq_3 _ (List.mem_of_getElem? (i := 0) rfl)) (tq_3 _ (List.mem_of_getElem? (i := 1) rfl)) (tq_3 _ (List.mem_of_getElem? (i := 2) rfl)) (tq_1 _ (List.mem_of_getElem? (i := 1) rfl))) rfl rfl rfl (by decide +kernel) ⟨Nat.le_of_ble_eq_true rfl, Nat.le_of_ble_eq_true rfl⟩) (zPreV (B := fun H => zTP V G Y hp hk f1 f2 n pd a kd nu mo H) hT hE (zT_rt hE hT)) rfl rfl hl.1 rfl (lv_room (Nat.le_of_ble_eq_true rfl)) dL_law_424 ⟨Nat.le_of_ble_eq_true rfl, Nat.le_of_ble_eq_true rfl⟩) hS hGA hGA (fun r_ H_12 locs hQ_ _ hk_ hS => ?_)
          obtain ⟨hr_, hT⟩ := hQ_
          subst hr_
          have hM := zP_keep hM hk_ hgG
          refine lv_aload_n hx hb dL_law_427 rfl (lv_at hl 3 rfl) ?_
          refine lv_aload_n hx hb dL_law_428 rfl (lv_at hl 1 rfl) ?_
          refine lv_iload_n hx hb dL_law_429 rfl (lv_at hl 0 rfl) ?_
          refine lv_iconst (v := 1) hx hb dL_law_430 (by decide +kernel) ?_
          refine lv_iadd hx hb dL_law_431 ?_
          refine zt_i (z_add (a := i) (b := 1) (by first | rfl | omega)) ?_
          refine va_sld hx hb hX hbl hbA hS (i := nI (i + 1)) (vp_in_nI (by omega) (by omega)) dL_law_432 ?_
          refine zt_i (y := xs (i + 1)) (by rw [nI_clamp (by omega)]) ?_
          refine zc_i (va_runV (As := [.int (xs (i + 1))]) (rest := [.int (kSIR (Y 0) ((xs (i + 1))))]) ⟨hx, hb, hml, hown, hts⟩ (c_X8_servedIn l V g w pa be av sl sv pd cd (nI hk) (nI n) ap pl wy n_ ((xs (i + 1))) hJ8 hok) (cwV 1 hts (zgLV_ wsM_all wsM_in uM_136 (tq_4 _ (List.mem_of_getElem? (i := 73) rfl)) (tq_4 _ (List.mem_of_getElem? (i := 74) rfl)) (tq_4 _ (List.mem_of_getElem? (i := 75) rfl)) (tq_1 _ (List.mem_of_getElem? (i := 9) rfl))) rfl rfl rfl (by decide +kernel) ⟨Nat.le_of_ble_eq_true rfl, Nat.le_of_ble_eq_true rfl⟩) (zPreV (B := fun H => va_P V.1 vwCl (zmW V g w pa be av sl sv pd cd (nI hk) (nI n) ap pl wy) H) hM hE (va_recv hE.1 hM (ci := 8) (q0 := 0) (q := (RX8, TX8, 13)) rfl (zm_c0 V g w pa be av sl sv pd cd (nI hk) (nI n) ap pl wy))) rfl rfl hl.1 rfl (lv_room (Nat.le_of_ble_eq_true rfl)) dL_law_433 ⟨Nat.le_of_ble_eq_true rfl, Nat.le_of_ble_eq_true rfl⟩) hS hgA hgA (fun r_ H_13 locs hQ_ _ hk_ hS => ?_)
          obtain ⟨hr_, av_, pl_, wy_, hM⟩ := hQ_
          subst hr_
          have hT := zT_uni.mpr (zP_keep (zT_uni.mp hT) hk_ hGg)
          refine lv_icmp_eq (tgt := 658) hx hb dL_law_436 (by decide) (fun c_ => ?_) (fun c_ => absurd e1_ c_)
          exact K _ _ _ _ _ _ _ _ _ _ _ _ _ _ _ _ _ _ _ _ _ H_13 locs ls ((rT_trial hrT (kSIT_wf (rWf hR) (hrT.2.2.2.2.2.2 1 (by decide)))).mono (by omega)) h80 hT hM hS (lv_sub hl [0, 1, 2, 3] rfl)
        · have hc_ : (xs (i)) &&& 31 = 11 := hc_
          refine lv_tableIn (off := 409) (tgt := 441) hx hb dL_law_32 (by rw [hc_]; decide) (by rw [hc_]; decide) (by rw [hc_]; rfl) (by decide) ?_
          refine lv_aload_n hx hb dL_law_441 rfl (lv_at hl 2 rfl) ?_
          refine lv_aload_n hx hb dL_law_442 rfl (lv_at hl 1 rfl) ?_
          refine lv_iload_n hx hb dL_law_443 rfl (lv_at hl 0 rfl) ?_
          refine lv_iconst (v := 1) hx hb dL_law_444 (by decide +kernel) ?_
          refine lv_iadd hx hb dL_law_445 ?_
          refine zt_i (z_add (a := i) (b := 1) (by first | rfl | omega)) ?_
          refine va_sld hx hb hX hbl hbA hS (i := nI (i + 1)) (vp_in_nI (by omega) (by omega)) dL_law_446 ?_
          refine zt_i (y := xs (i + 1)) (by rw [nI_clamp (by omega)]) ?_
          have e1_ : (kAlR (Y 0) ((xs (i + 1)))) = (mAll w n_ ((xs (i + 1)))) := qAll hR ((xs (i + 1)))
          refine zc_i (va_runV (As := [.int (xs (i + 1))]) (rest := []) ⟨hx, hb, hml, hown, hts⟩ (c_X7_all l V G Y hp hk f1 f2 n pd a kd nu mo ((xs (i + 1))) hJ hrT.2.2.2.2.2.2 hgood) (cwV 1 hts (zgLV_ wsC_all wsC_in uC_312 (tq_3 _ (List.mem_of_getElem? (i := 4) rfl)) (tq_3 _ (List.mem_of_getElem? (i := 5) rfl)) (tq_3 _ (List.mem_of_getElem? (i := 6) rfl)) (tq_1 _ (List.mem_of_getElem? (i := 1) rfl))) rfl rfl rfl (by decide +kernel) ⟨Nat.le_of_ble_eq_true rfl, Nat.le_of_ble_eq_true rfl⟩) (zPreV (B := fun H => zTP V G Y hp hk f1 f2 n pd a kd nu mo H) hT hE (zT_rt hE hT)) rfl rfl hl.1 rfl (lv_room (Nat.le_of_ble_eq_true rfl)) dL_law_447 ⟨Nat.le_of_ble_eq_true rfl, Nat.le_of_ble_eq_true rfl⟩) hS hGA hGA (fun r_ H_14 locs hQ_ _ hk_ hS => ?_)
          obtain ⟨hr_, hT⟩ := hQ_
          subst hr_
          have hM := zP_keep hM hk_ hgG
          refine lv_aload_n hx hb dL_law_450 rfl (lv_at hl 3 rfl) ?_
          refine lv_aload_n hx hb dL_law_451 rfl (lv_at hl 1 rfl) ?_
          refine lv_iload_n hx hb dL_law_452 rfl (lv_at hl 0 rfl) ?_
          refine lv_iconst (v := 1) hx hb dL_law_453 (by decide +kernel) ?_
          refine lv_iadd hx hb dL_law_454 ?_
          refine zt_i (z_add (a := i) (b := 1) (by first | rfl | omega)) ?_
          refine va_sld hx hb hX hbl hbA hS (i := nI (i + 1)) (vp_in_nI (by omega) (by omega)) dL_law_455 ?_
          refine zt_i (y := xs (i + 1)) (by rw [nI_clamp (by omega)]) ?_
          refine zc_i (va_runV (As := [.int (xs (i + 1))]) (rest := [.int (kAlR (Y 0) ((xs (i + 1))))]) ⟨hx, hb, hml, hown, hts⟩ (c_X8_all l V g w pa be av sl sv pd cd (nI hk) (nI n) ap pl wy n_ ((xs (i + 1))) hJ8 hok) (cwV 1 hts (zgLV_ wsM_all wsM_in uM_137 (tq_4 _ (List.mem_of_getElem? (i := 77) rfl)) (tq_4 _ (List.mem_of_getElem? (i := 78) rfl)) (tq_4 _ (List.mem_of_getElem? (i := 79) rfl)) (tq_1 _ (List.mem_of_getElem? (i := 9) rfl))) rfl rfl rfl (by decide +kernel) ⟨Nat.le_of_ble_eq_true rfl, Nat.le_of_ble_eq_true rfl⟩) (zPreV (B := fun H => va_P V.1 vwCl (zmW V g w pa be av sl sv pd cd (nI hk) (nI n) ap pl wy) H) hM hE (va_recv hE.1 hM (ci := 8) (q0 := 0) (q := (RX8, TX8, 13)) rfl (zm_c0 V g w pa be av sl sv pd cd (nI hk) (nI n) ap pl wy))) rfl rfl hl.1 rfl (lv_room (Nat.le_of_ble_eq_true rfl)) dL_law_456 ⟨Nat.le_of_ble_eq_true rfl, Nat.le_of_ble_eq_true rfl⟩) hS hgA hgA (fun r_ H_15 locs hQ_ _ hk_ hS => ?_)
          obtain ⟨hr_, av_, pl_, wy_, hM⟩ := hQ_
          subst hr_
          have hT := zT_uni.mpr (zP_keep (zT_uni.mp hT) hk_ hGg)
          refine lv_icmp_eq (tgt := 658) hx hb dL_law_459 (by decide) (fun c_ => ?_) (fun c_ => absurd e1_ c_)
          exact K _ _ _ _ _ _ _ _ _ _ _ _ _ _ _ _ _ _ _ _ _ H_15 locs ls ((rT_trial hrT (kAlT_wf (rWf hR) (hrT.2.2.2.2.2.2 1 (by decide)))).mono (by omega)) h80 hT hM hS (lv_sub hl [0, 1, 2, 3] rfl)
        · have hc_ : (xs (i)) &&& 31 = 12 := hc_
          refine lv_tableIn (off := 432) (tgt := 464) hx hb dL_law_32 (by rw [hc_]; decide) (by rw [hc_]; decide) (by rw [hc_]; rfl) (by decide) ?_
          refine lv_aload_n hx hb dL_law_464 rfl (lv_at hl 2 rfl) ?_
          refine lv_aload_n hx hb dL_law_465 rfl (lv_at hl 1 rfl) ?_
          refine lv_iload_n hx hb dL_law_466 rfl (lv_at hl 0 rfl) ?_
          refine lv_iconst (v := 1) hx hb dL_law_467 (by decide +kernel) ?_
          refine lv_iadd hx hb dL_law_468 ?_
          refine zt_i (z_add (a := i) (b := 1) (by first | rfl | omega)) ?_
          refine va_sld hx hb hX hbl hbA hS (i := nI (i + 1)) (vp_in_nI (by omega) (by omega)) dL_law_469 ?_
          refine zt_i (y := xs (i + 1)) (by rw [nI_clamp (by omega)]) ?_
          refine lv_aload_n hx hb dL_law_470 rfl (lv_at hl 1 rfl) ?_
          refine lv_iload_n hx hb dL_law_471 rfl (lv_at hl 0 rfl) ?_
          refine lv_iconst (v := 2) hx hb dL_law_472 (by decide +kernel) ?_
          refine lv_iadd hx hb dL_law_473 ?_
          refine zt_i (z_add (a := i) (b := 2) (by first | rfl | omega)) ?_
          refine va_sld hx hb hX hbl hbA hS (i := nI (i + 2)) (vp_in_nI (by omega) (by omega)) dL_law_474 ?_
          refine zt_i (y := xs (i + 2)) (by rw [nI_clamp (by omega)]) ?_
          refine lv_aload_n hx hb dL_law_475 rfl (lv_at hl 1 rfl) ?_
          refine lv_iload_n hx hb dL_law_476 rfl (lv_at hl 0 rfl) ?_
          refine lv_iconst (v := 3) hx hb dL_law_477 (by decide +kernel) ?_
          refine lv_iadd hx hb dL_law_478 ?_
          refine zt_i (z_add (a := i) (b := 3) (by first | rfl | omega)) ?_
          refine va_sld hx hb hX hbl hbA hS (i := nI (i + 3)) (vp_in_nI (by omega) (by omega)) dL_law_479 ?_
          refine zt_i (y := xs (i + 3)) (by rw [nI_clamp (by omega)]) ?_
          have e1_ : (uJoined (Y 0) ((xs (i + 1))) ((xs (i + 2))) ((xs (i + 3)))) = (mJoined w n_ ((xs (i + 1))) ((xs (i + 2))) ((xs (i + 3)))) := qJoined hR ((xs (i + 1))) ((xs (i + 2))) ((xs (i + 3)))
          refine zc_se (va_runV (As := [.int (xs (i + 1)), .int (xs (i + 2)), .int (xs (i + 3))]) (rest := []) ⟨hx, hb, hml, hown, hts⟩ (c_X7_joined l V G Y hp hk f1 f2 n pd a kd nu mo ((xs (i + 1))) ((xs (i + 2))) ((xs (i + 3))) hJ) (cwV 3 hts (zgLV_ wsC_all wsC_in uC_313 (tq_3 _ (List.mem_of_getElem? (i := 8) rfl)) (tq_3 _ (List.mem_of_getElem? (i := 9) rfl)) (tq_3 _ (List.mem_of_getElem? (i := 10) rfl)) (tq_1 _ (List.mem_of_getElem? (i := 1) rfl))) rfl rfl rfl (by decide +kernel) ⟨Nat.le_of_ble_eq_true rfl, Nat.le_of_ble_eq_true rfl⟩) (zPreV (B := fun H => zTP V G Y hp hk f1 f2 n pd a kd nu mo H) hT hE (zT_rt hE hT)) rfl rfl hl.1 rfl (lv_room (Nat.le_of_ble_eq_true rfl)) dL_law_480 ⟨Nat.le_of_ble_eq_true rfl, Nat.le_of_ble_eq_true rfl⟩) ?_
          refine lv_aload_n hx hb dL_law_483 rfl (lv_at hl 3 rfl) ?_
          refine lv_aload_n hx hb dL_law_484 rfl (lv_at hl 1 rfl) ?_
          refine lv_iload_n hx hb dL_law_485 rfl (lv_at hl 0 rfl) ?_
          refine lv_iconst (v := 1) hx hb dL_law_486 (by decide +kernel) ?_
          refine lv_iadd hx hb dL_law_487 ?_
          refine zt_i (z_add (a := i) (b := 1) (by first | rfl | omega)) ?_
          refine va_sld hx hb hX hbl hbA hS (i := nI (i + 1)) (vp_in_nI (by omega) (by omega)) dL_law_488 ?_
          refine zt_i (y := xs (i + 1)) (by rw [nI_clamp (by omega)]) ?_
          refine lv_aload_n hx hb dL_law_489 rfl (lv_at hl 1 rfl) ?_
          refine lv_iload_n hx hb dL_law_490 rfl (lv_at hl 0 rfl) ?_
          refine lv_iconst (v := 2) hx hb dL_law_491 (by decide +kernel) ?_
          refine lv_iadd hx hb dL_law_492 ?_
          refine zt_i (z_add (a := i) (b := 2) (by first | rfl | omega)) ?_
          refine va_sld hx hb hX hbl hbA hS (i := nI (i + 2)) (vp_in_nI (by omega) (by omega)) dL_law_493 ?_
          refine zt_i (y := xs (i + 2)) (by rw [nI_clamp (by omega)]) ?_
          refine lv_aload_n hx hb dL_law_494 rfl (lv_at hl 1 rfl) ?_
          refine lv_iload_n hx hb dL_law_495 rfl (lv_at hl 0 rfl) ?_
          refine lv_iconst (v := 3) hx hb dL_law_496 (by decide +kernel) ?_
          refine lv_iadd hx hb dL_law_497 ?_
          refine zt_i (z_add (a := i) (b := 3) (by first | rfl | omega)) ?_
          refine va_sld hx hb hX hbl hbA hS (i := nI (i + 3)) (vp_in_nI (by omega) (by omega)) dL_law_498 ?_
          refine zt_i (y := xs (i + 3)) (by rw [nI_clamp (by omega)]) ?_
          refine zc_se (va_runV (As := [.int (xs (i + 1)), .int (xs (i + 2)), .int (xs (i + 3))]) (rest := [.int (uJoined (Y 0) ((xs (i + 1))) ((xs (i + 2))) ((xs (i + 3))))]) ⟨hx, hb, hml, hown, hts⟩ (c_X8_joined l V g w pa be av sl sv pd cd (nI hk) (nI n) ap pl wy n_ ((xs (i + 1))) ((xs (i + 2))) ((xs (i + 3))) hok.1 hok.2.1) (cwV 3 hts (zgLV_ wsM_all wsM_in uM_138 (tq_4 _ (List.mem_of_getElem? (i := 81) rfl)) (tq_4 _ (List.mem_of_getElem? (i := 82) rfl)) (tq_4 _ (List.mem_of_getElem? (i := 83) rfl)) (tq_1 _ (List.mem_of_getElem? (i := 9) rfl))) rfl rfl rfl (by decide +kernel) ⟨Nat.le_of_ble_eq_true rfl, Nat.le_of_ble_eq_true rfl⟩) (zPreV (B := fun H => va_P V.1 vwCl (zmW V g w pa be av sl sv pd cd (nI hk) (nI n) ap pl wy) H) hM hE (va_recv hE.1 hM (ci := 8) (q0 := 0) (q := (RX8, TX8, 13)) rfl (zm_c0 V g w pa be av sl sv pd cd (nI hk) (nI n) ap pl wy))) rfl rfl hl.1 rfl (lv_room (Nat.le_of_ble_eq_true rfl)) dL_law_499 ⟨Nat.le_of_ble_eq_true rfl, Nat.le_of_ble_eq_true rfl⟩) ?_
          refine lv_icmp_eq (tgt := 658) hx hb dL_law_502 (by decide) (fun c_ => ?_) (fun c_ => absurd e1_ c_)
          exact K _ _ _ _ _ _ _ _ _ _ _ _ _ _ _ _ _ _ _ _ _ H locs ls ((hrT).mono (by omega)) h80 hT hM hS (lv_sub hl [0, 1, 2, 3] rfl)
        · have hc_ : (xs (i)) &&& 31 = 13 := hc_
          refine lv_tableIn (off := 475) (tgt := 507) hx hb dL_law_32 (by rw [hc_]; decide) (by rw [hc_]; decide) (by rw [hc_]; rfl) (by decide) ?_
          refine lv_aload_n hx hb dL_law_507 rfl (lv_at hl 2 rfl) ?_
          refine lv_aload_n hx hb dL_law_508 rfl (lv_at hl 1 rfl) ?_
          refine lv_iload_n hx hb dL_law_509 rfl (lv_at hl 0 rfl) ?_
          refine lv_iconst (v := 1) hx hb dL_law_510 (by decide +kernel) ?_
          refine lv_iadd hx hb dL_law_511 ?_
          refine zt_i (z_add (a := i) (b := 1) (by first | rfl | omega)) ?_
          refine va_sld hx hb hX hbl hbA hS (i := nI (i + 1)) (vp_in_nI (by omega) (by omega)) dL_law_512 ?_
          refine zt_i (y := xs (i + 1)) (by rw [nI_clamp (by omega)]) ?_
          refine lv_i2l (v := (xs (i + 1)).toInt64) hx hb dL_law_513 rfl ?_
          refine lv_bipush (v := 32) hx hb dL_law_514 (by decide +kernel) ?_
          refine lv_lshl (v := ((xs (i + 1)).toInt64) <<< ((32 : Int32).toInt64 &&& 63)) hx hb dL_law_516 rfl ?_
          refine lv_aload_n hx hb dL_law_517 rfl (lv_at hl 1 rfl) ?_
          refine lv_iload_n hx hb dL_law_518 rfl (lv_at hl 0 rfl) ?_
          refine lv_iconst (v := 2) hx hb dL_law_519 (by decide +kernel) ?_
          refine lv_iadd hx hb dL_law_520 ?_
          refine zt_i (z_add (a := i) (b := 2) (by first | rfl | omega)) ?_
          refine va_sld hx hb hX hbl hbA hS (i := nI (i + 2)) (vp_in_nI (by omega) (by omega)) dL_law_521 ?_
          refine zt_i (y := xs (i + 2)) (by rw [nI_clamp (by omega)]) ?_
          refine lv_i2l (v := (xs (i + 2)).toInt64) hx hb dL_law_522 rfl ?_
          refine lv_ldc2 (v := 4294967295) hx hb hown (hts _ (tq_4 _ (List.mem_of_getElem? (i := 118) rfl))) dL_law_523 ?_
          refine lv_land hx hb dL_law_526 ?_
          refine lv_lor hx hb dL_law_527 ?_
          have e1_ : (kPutR n (((((xs (i + 1)).toInt64) <<< ((32 : Int32).toInt64 &&& 63)) ||| (((xs (i + 2)).toInt64) &&& 4294967295)))) = ((mPut pd n (((((xs (i + 1)).toInt64) <<< ((32 : Int32).toInt64 &&& 63)) ||| (((xs (i + 2)).toInt64) &&& 4294967295)))).1) := (rPut pd n (((((xs (i + 1)).toInt64) <<< ((32 : Int32).toInt64 &&& 63)) ||| (((xs (i + 2)).toInt64) &&& 4294967295)))).1
          refine zc_i (va_runV (As := [.long ((((xs (i + 1)).toInt64) <<< ((32 : Int32).toInt64 &&& 63)) ||| (((xs (i + 2)).toInt64) &&& 4294967295))]) (rest := []) ⟨hx, hb, hml, hown, hts⟩ (c_X7_put l V G Y hp hk f1 f2 n pd a kd nu mo (((((xs (i + 1)).toInt64) <<< ((32 : Int32).toInt64 &&& 63)) ||| (((xs (i + 2)).toInt64) &&& 4294967295))) hJ h80) (cwV 1 hts (zgLV_ wsC_all wsC_in uC_315 (tq_3 _ (List.mem_of_getElem? (i := 14) rfl)) (tq_3 _ (List.mem_of_getElem? (i := 15) rfl)) (tq_3 _ (List.mem_of_getElem? (i := 16) rfl)) (tq_1 _ (List.mem_of_getElem? (i := 1) rfl))) rfl rfl rfl (by decide +kernel) ⟨Nat.le_of_ble_eq_true rfl, Nat.le_of_ble_eq_true rfl⟩) (zPreV (B := fun H => zTP V G Y hp hk f1 f2 n pd a kd nu mo H) hT hE (zT_rt hE hT)) rfl rfl hl.1 rfl (lv_room (Nat.le_of_ble_eq_true rfl)) dL_law_528 ⟨Nat.le_of_ble_eq_true rfl, Nat.le_of_ble_eq_true rfl⟩) hS hGA hGA (fun r_ H_16 locs hQ_ _ hk_ hS => ?_)
          obtain ⟨hr_, hT⟩ := hQ_
          subst hr_
          have hM := zP_keep hM hk_ hgG
          refine lv_aload_n hx hb dL_law_531 rfl (lv_at hl 3 rfl) ?_
          refine lv_aload_n hx hb dL_law_532 rfl (lv_at hl 1 rfl) ?_
          refine lv_iload_n hx hb dL_law_533 rfl (lv_at hl 0 rfl) ?_
          refine lv_iconst (v := 1) hx hb dL_law_534 (by decide +kernel) ?_
          refine lv_iadd hx hb dL_law_535 ?_
          refine zt_i (z_add (a := i) (b := 1) (by first | rfl | omega)) ?_
          refine va_sld hx hb hX hbl hbA hS (i := nI (i + 1)) (vp_in_nI (by omega) (by omega)) dL_law_536 ?_
          refine zt_i (y := xs (i + 1)) (by rw [nI_clamp (by omega)]) ?_
          refine lv_i2l (v := (xs (i + 1)).toInt64) hx hb dL_law_537 rfl ?_
          refine lv_bipush (v := 32) hx hb dL_law_538 (by decide +kernel) ?_
          refine lv_lshl (v := ((xs (i + 1)).toInt64) <<< ((32 : Int32).toInt64 &&& 63)) hx hb dL_law_540 rfl ?_
          refine lv_aload_n hx hb dL_law_541 rfl (lv_at hl 1 rfl) ?_
          refine lv_iload_n hx hb dL_law_542 rfl (lv_at hl 0 rfl) ?_
          refine lv_iconst (v := 2) hx hb dL_law_543 (by decide +kernel) ?_
          refine lv_iadd hx hb dL_law_544 ?_
          refine zt_i (z_add (a := i) (b := 2) (by first | rfl | omega)) ?_
          refine va_sld hx hb hX hbl hbA hS (i := nI (i + 2)) (vp_in_nI (by omega) (by omega)) dL_law_545 ?_
          refine zt_i (y := xs (i + 2)) (by rw [nI_clamp (by omega)]) ?_
          refine lv_i2l (v := (xs (i + 2)).toInt64) hx hb dL_law_546 rfl ?_
          refine lv_ldc2 (v := 4294967295) hx hb hown (hts _ (tq_4 _ (List.mem_of_getElem? (i := 118) rfl))) dL_law_547 ?_
          refine lv_land hx hb dL_law_550 ?_
          refine lv_lor hx hb dL_law_551 ?_
          refine zc_i (va_runV (As := [.long ((((xs (i + 1)).toInt64) <<< ((32 : Int32).toInt64 &&& 63)) ||| (((xs (i + 2)).toInt64) &&& 4294967295))]) (rest := [.int (kPutR n (((((xs (i + 1)).toInt64) <<< ((32 : Int32).toInt64 &&& 63)) ||| (((xs (i + 2)).toInt64) &&& 4294967295))))]) ⟨hx, hb, hml, hown, hts⟩ (c_X8_put l V g w pa be av sl sv pd cd (nI hk) (nI n) ap pl wy n (((((xs (i + 1)).toInt64) <<< ((32 : Int32).toInt64 &&& 63)) ||| (((xs (i + 2)).toInt64) &&& 4294967295))) hJ8 rfl h80) (cwV 1 hts (zgLV_ wsM_all wsM_in uM_139 (tq_4 _ (List.mem_of_getElem? (i := 85) rfl)) (tq_4 _ (List.mem_of_getElem? (i := 86) rfl)) (tq_4 _ (List.mem_of_getElem? (i := 87) rfl)) (tq_1 _ (List.mem_of_getElem? (i := 9) rfl))) rfl rfl rfl (by decide +kernel) ⟨Nat.le_of_ble_eq_true rfl, Nat.le_of_ble_eq_true rfl⟩) (zPreV (B := fun H => va_P V.1 vwCl (zmW V g w pa be av sl sv pd cd (nI hk) (nI n) ap pl wy) H) hM hE (va_recv hE.1 hM (ci := 8) (q0 := 0) (q := (RX8, TX8, 13)) rfl (zm_c0 V g w pa be av sl sv pd cd (nI hk) (nI n) ap pl wy))) rfl rfl hl.1 rfl (lv_room (Nat.le_of_ble_eq_true rfl)) dL_law_552 ⟨Nat.le_of_ble_eq_true rfl, Nat.le_of_ble_eq_true rfl⟩) hS hgA hgA (fun r_ H_17 locs hQ_ _ hk_ hS => ?_)
          obtain ⟨hr_, cd_, hM⟩ := hQ_
          subst hr_
          have hT := zT_uni.mpr (zP_keep (zT_uni.mp hT) hk_ hGg)
          refine lv_icmp_eq (tgt := 658) hx hb dL_law_555 (by decide) (fun c_ => ?_) (fun c_ => absurd e1_ c_)
          rw [← (rPut pd n (((((xs (i + 1)).toInt64) <<< ((32 : Int32).toInt64 &&& 63)) ||| (((xs (i + 2)).toInt64) &&& 4294967295)))).2.1, ← (rPut pd n (((((xs (i + 1)).toInt64) <<< ((32 : Int32).toInt64 &&& 63)) ||| (((xs (i + 2)).toInt64) &&& 4294967295)))).2.2] at hM
          exact K _ _ _ _ _ _ _ _ _ _ _ _ _ _ _ _ _ _ _ _ _ H_17 locs ls ((hrT).mono (by omega)) (kPut_80 h80) hT hM hS (lv_sub hl [0, 1, 2, 3] rfl)
        · have hc_ : (xs (i)) &&& 31 = 14 := hc_
          refine lv_tableIn (off := 528) (tgt := 560) hx hb dL_law_32 (by rw [hc_]; decide) (by rw [hc_]; decide) (by rw [hc_]; rfl) (by decide) ?_
          refine lv_aload_n hx hb dL_law_560 rfl (lv_at hl 2 rfl) ?_
          have e1_ : (nI n) = (nI n) := rfl
          refine zc_i (va_runV (As := []) (rest := []) ⟨hx, hb, hml, hown, hts⟩ (c_X7_wipe l V G Y hp hk f1 f2 n pd a kd nu mo hJ h80) (cwV 0 hts (zgLV_ wsC_all wsC_in uC_318 (tq_3 _ (List.mem_of_getElem? (i := 30) rfl)) (tq_3 _ (List.mem_of_getElem? (i := 31) rfl)) (tq_3 _ (List.mem_of_getElem? (i := 32) rfl)) (tq_1 _ (List.mem_of_getElem? (i := 1) rfl))) rfl rfl rfl (by decide +kernel) ⟨Nat.le_of_ble_eq_true rfl, Nat.le_of_ble_eq_true rfl⟩) (zPreV (B := fun H => zTP V G Y hp hk f1 f2 n pd a kd nu mo H) hT hE (zT_rt hE hT)) rfl rfl hl.1 rfl (lv_room (Nat.le_of_ble_eq_true rfl)) dL_law_561 ⟨Nat.le_of_ble_eq_true rfl, Nat.le_of_ble_eq_true rfl⟩) hS hGA hGA (fun r_ H_18 locs hQ_ _ hk_ hS => ?_)
          obtain ⟨hr_, hT⟩ := hQ_
          subst hr_
          have hM := zP_keep hM hk_ hgG
          refine lv_aload_n hx hb dL_law_564 rfl (lv_at hl 3 rfl) ?_
          refine zc_i (va_runV (As := []) (rest := [.int (nI n)]) ⟨hx, hb, hml, hown, hts⟩ (c_X8_wipe l V g w pa be av sl sv pd cd (nI hk) (nI n) ap pl wy hJ8) (cwV 0 hts (zgLV_ wsM_all wsM_in uM_141 (tq_4 _ (List.mem_of_getElem? (i := 90) rfl)) (tq_4 _ (List.mem_of_getElem? (i := 91) rfl)) (tq_4 _ (List.mem_of_getElem? (i := 92) rfl)) (tq_1 _ (List.mem_of_getElem? (i := 9) rfl))) rfl rfl rfl (by decide +kernel) ⟨Nat.le_of_ble_eq_true rfl, Nat.le_of_ble_eq_true rfl⟩) (zPreV (B := fun H => va_P V.1 vwCl (zmW V g w pa be av sl sv pd cd (nI hk) (nI n) ap pl wy) H) hM hE (va_recv hE.1 hM (ci := 8) (q0 := 0) (q := (RX8, TX8, 13)) rfl (zm_c0 V g w pa be av sl sv pd cd (nI hk) (nI n) ap pl wy))) rfl rfl hl.1 rfl (lv_room (Nat.le_of_ble_eq_true rfl)) dL_law_565 ⟨Nat.le_of_ble_eq_true rfl, Nat.le_of_ble_eq_true rfl⟩) hS hgA hgA (fun r_ H_19 locs hQ_ _ hk_ hS => ?_)
          obtain ⟨hr_, hM⟩ := hQ_
          subst hr_
          have hT := zT_uni.mpr (zP_keep (zT_uni.mp hT) hk_ hGg)
          refine lv_icmp_eq (tgt := 658) hx hb dL_law_568 (by decide) (fun c_ => ?_) (fun c_ => absurd e1_ c_)
          exact K _ _ _ _ _ _ _ _ _ _ _ _ _ _ _ _ _ _ _ _ _ H_19 locs ls ((hrT).mono (by omega)) (Nat.zero_le _) hT hM hS (lv_sub hl [0, 1, 2, 3] rfl)
        · have hc_ : (xs (i)) &&& 31 = 15 := hc_
          refine lv_tableIn (off := 541) (tgt := 573) hx hb dL_law_32 (by rw [hc_]; decide) (by rw [hc_]; decide) (by rw [hc_]; rfl) (by decide) ?_
          refine lv_aload_n hx hb dL_law_573 rfl (lv_at hl 2 rfl) ?_
          have e1_ : (if (mWell pd n).1 = true then -6 else nI (mWell pd n).2) = (if (mWell pd n).1 = true then -6 else nI (mWell pd n).2) := rfl
          refine zc_i (va_runV (As := []) (rest := []) ⟨hx, hb, hml, hown, hts⟩ (c_X7_fault l V G Y hp hk f1 f2 n pd a kd nu mo hJ h80) (cwV 0 hts (zgLV_ wsC_all wsC_in uC_321 (tq_3 _ (List.mem_of_getElem? (i := 38) rfl)) (tq_3 _ (List.mem_of_getElem? (i := 39) rfl)) (tq_3 _ (List.mem_of_getElem? (i := 40) rfl)) (tq_1 _ (List.mem_of_getElem? (i := 1) rfl))) rfl rfl rfl (by decide +kernel) ⟨Nat.le_of_ble_eq_true rfl, Nat.le_of_ble_eq_true rfl⟩) (zPreV (B := fun H => zTP V G Y hp hk f1 f2 n pd a kd nu mo H) hT hE (zT_rt hE hT)) rfl rfl hl.1 rfl (lv_room (Nat.le_of_ble_eq_true rfl)) dL_law_574 ⟨Nat.le_of_ble_eq_true rfl, Nat.le_of_ble_eq_true rfl⟩) hS hGA hGA (fun r_ H_20 locs hQ_ _ hk_ hS => ?_)
          obtain ⟨hr_, a_, kd_, nu_, mo_, hT⟩ := hQ_
          subst hr_
          have hM := zP_keep hM hk_ hgG
          refine lv_aload_n hx hb dL_law_577 rfl (lv_at hl 3 rfl) ?_
          refine zc_i (va_runV (As := []) (rest := [.int (if (mWell pd n).1 = true then -6 else nI (mWell pd n).2)]) ⟨hx, hb, hml, hown, hts⟩ (c_X8_fault l V g w pa be av sl sv pd cd (nI hk) (nI n) ap pl wy n hJ8 rfl h80) (cwV 0 hts (zgLV_ wsM_all wsM_in uM_156 (tq_4 _ (List.mem_of_getElem? (i := 94) rfl)) (tq_4 _ (List.mem_of_getElem? (i := 95) rfl)) (tq_4 _ (List.mem_of_getElem? (i := 96) rfl)) (tq_1 _ (List.mem_of_getElem? (i := 9) rfl))) rfl rfl rfl (by decide +kernel) ⟨Nat.le_of_ble_eq_true rfl, Nat.le_of_ble_eq_true rfl⟩) (zPreV (B := fun H => va_P V.1 vwCl (zmW V g w pa be av sl sv pd cd (nI hk) (nI n) ap pl wy) H) hM hE (va_recv hE.1 hM (ci := 8) (q0 := 0) (q := (RX8, TX8, 13)) rfl (zm_c0 V g w pa be av sl sv pd cd (nI hk) (nI n) ap pl wy))) rfl rfl hl.1 rfl (lv_room (Nat.le_of_ble_eq_true rfl)) dL_law_578 ⟨Nat.le_of_ble_eq_true rfl, Nat.le_of_ble_eq_true rfl⟩) hS hgA hgA (fun r_ H_21 locs hQ_ _ hk_ hS => ?_)
          obtain ⟨hr_, ap_, hM⟩ := hQ_
          subst hr_
          have hT := zT_uni.mpr (zP_keep (zT_uni.mp hT) hk_ hGg)
          refine lv_icmp_eq (tgt := 658) hx hb dL_law_581 (by decide) (fun c_ => ?_) (fun c_ => absurd e1_ c_)
          exact K _ _ _ _ _ _ _ _ _ _ _ _ _ _ _ _ _ _ _ _ _ H_21 locs ls ((hrT).mono (by omega)) h80 hT hM hS (lv_sub hl [0, 1, 2, 3] rfl)
        · have hc_ : (xs (i)) &&& 31 = 16 := hc_
          refine lv_tableIn (off := 554) (tgt := 586) hx hb dL_law_32 (by rw [hc_]; decide) (by rw [hc_]; decide) (by rw [hc_]; rfl) (by decide) ?_
          refine lv_aload_n hx hb dL_law_586 rfl (lv_at hl 2 rfl) ?_
          obtain ⟨k1_, e1_, e2_, e3_⟩ := L_carry hrT hR ht9 hNM (by omega) pd n h80
          refine zc_i (va_runV (As := []) (rest := []) ⟨hx, hb, hml, hown, hts⟩ (c_X7_carryOut l V G Y hp hk f1 f2 n pd a kd nu mo hJ hrT.2.1 hrT.2.2.1 hrT.2.2.2.2.2.2 h80 k1_) (cwV 0 hts (zgLV_ wsC_all wsC_in uC_325 (tq_3 _ (List.mem_of_getElem? (i := 79) rfl)) (tq_3 _ (List.mem_of_getElem? (i := 80) rfl)) (tq_3 _ (List.mem_of_getElem? (i := 81) rfl)) (tq_1 _ (List.mem_of_getElem? (i := 1) rfl))) rfl rfl rfl (by decide +kernel) ⟨Nat.le_of_ble_eq_true rfl, Nat.le_of_ble_eq_true rfl⟩) (zPreV (B := fun H => zTP V G Y hp hk f1 f2 n pd a kd nu mo H) hT hE (zT_rt hE hT)) rfl rfl hl.1 rfl (lv_room (Nat.le_of_ble_eq_true rfl)) dL_law_587 ⟨Nat.le_of_ble_eq_true rfl, Nat.le_of_ble_eq_true rfl⟩) hS hGA hGA (fun r_ H_22 locs hQ_ _ hk_ hS => ?_)
          obtain ⟨hr_, a_, kd_, nu_, mo_, hT⟩ := hQ_
          subst hr_
          have hM := zP_keep hM hk_ hgG
          refine lv_aload_n hx hb dL_law_590 rfl (lv_at hl 3 rfl) ?_
          refine zc_i (va_runV (As := []) (rest := [.int (coR pd n (Y 0) (Y 1))]) ⟨hx, hb, hml, hown, hts⟩ (c_X8_carryOut l V g w pa be av sl sv pd cd (nI hk) (nI n) ap pl wy n hk n_ hJ8 rfl h80 hok rfl hrT.2.2.1) (cwV 0 hts (zgLV_ wsM_all wsM_in uM_160 (tq_4 _ (List.mem_of_getElem? (i := 114) rfl)) (tq_4 _ (List.mem_of_getElem? (i := 115) rfl)) (tq_4 _ (List.mem_of_getElem? (i := 116) rfl)) (tq_1 _ (List.mem_of_getElem? (i := 9) rfl))) rfl rfl rfl (by decide +kernel) ⟨Nat.le_of_ble_eq_true rfl, Nat.le_of_ble_eq_true rfl⟩) (zPreV (B := fun H => va_P V.1 vwCl (zmW V g w pa be av sl sv pd cd (nI hk) (nI n) ap pl wy) H) hM hE (va_recv hE.1 hM (ci := 8) (q0 := 0) (q := (RX8, TX8, 13)) rfl (zm_c0 V g w pa be av sl sv pd cd (nI hk) (nI n) ap pl wy))) rfl rfl hl.1 rfl (lv_room (Nat.le_of_ble_eq_true rfl)) dL_law_591 ⟨Nat.le_of_ble_eq_true rfl, Nat.le_of_ble_eq_true rfl⟩) hS hgA hgA (fun r_ H_23 locs hQ_ _ hk_ hS => ?_)
          obtain ⟨hr_, be_, av_, ap_, pl_, wy_, hM⟩ := hQ_
          subst hr_
          have hT := zT_uni.mpr (zP_keep (zT_uni.mp hT) hk_ hGg)
          refine lv_icmp_eq (tgt := 658) hx hb dL_law_594 (by decide) (fun c_ => ?_) (fun c_ => absurd e1_ c_)
          rw [e3_, show (if (mWell pd n).1 = true then (0 : Int32) else nI n) = nI (coN pd n) by unfold coN; by_cases hw_ : (mWell pd n).1 = true <;> simp [hw_] <;> rfl] at hM
          exact K _ _ _ _ _ _ _ _ _ _ _ _ _ _ _ _ _ _ _ _ _ H_23 locs ls e2_ (by unfold coN; split <;> omega) hT hM hS (lv_sub hl [0, 1, 2, 3] rfl)
        · have hc_ : (xs (i)) &&& 31 = 17 := hc_
          refine lv_tableIn (off := 567) (tgt := 599) hx hb dL_law_32 (by rw [hc_]; decide) (by rw [hc_]; decide) (by rw [hc_]; rfl) (by decide) ?_
          refine lv_aload_n hx hb dL_law_599 rfl (lv_at hl 2 rfl) ?_
          have e1_ : (if hk = 0 then -5 else nI (hk - 1)) = (if hk = 0 then -5 else nI (hk - 1)) := rfl
          refine zc_i (va_runV (As := []) (rest := []) ⟨hx, hb, hml, hown, hts⟩ (c_X7_undo l V G Y hp hk f1 f2 n pd a kd nu mo hJ hrT.2.1 hrT.2.2.1 hrT.2.2.2.2.2.2) (cwV 0 hts (zgLV_ wsC_all wsC_in uC_329 (tq_3 _ (List.mem_of_getElem? (i := 90) rfl)) (tq_3 _ (List.mem_of_getElem? (i := 91) rfl)) (tq_3 _ (List.mem_of_getElem? (i := 92) rfl)) (tq_1 _ (List.mem_of_getElem? (i := 1) rfl))) rfl rfl rfl (by decide +kernel) ⟨Nat.le_of_ble_eq_true rfl, Nat.le_of_ble_eq_true rfl⟩) (zPreV (B := fun H => zTP V G Y hp hk f1 f2 n pd a kd nu mo H) hT hE (zT_rt hE hT)) rfl rfl hl.1 rfl (lv_room (Nat.le_of_ble_eq_true rfl)) dL_law_600 ⟨Nat.le_of_ble_eq_true rfl, Nat.le_of_ble_eq_true rfl⟩) hS hGA hGA (fun r_ H_24 locs hQ_ _ hk_ hS => ?_)
          obtain ⟨hr_, hT⟩ := hQ_
          subst hr_
          have hM := zP_keep hM hk_ hgG
          refine lv_aload_n hx hb dL_law_603 rfl (lv_at hl 3 rfl) ?_
          refine zc_i (va_runV (As := []) (rest := [.int (if hk = 0 then -5 else nI (hk - 1))]) ⟨hx, hb, hml, hown, hts⟩ (c_X8_undo l V g w pa be av sl sv pd cd (nI hk) (nI n) ap pl wy hk hJ8 rfl hrT.2.2.1) (cwV 0 hts (zgLV_ wsM_all wsM_in uM_27 (tq_3 _ (List.mem_of_getElem? (i := 157) rfl)) (tq_3 _ (List.mem_of_getElem? (i := 158) rfl)) (tq_3 _ (List.mem_of_getElem? (i := 159) rfl)) (tq_1 _ (List.mem_of_getElem? (i := 9) rfl))) rfl rfl rfl (by decide +kernel) ⟨Nat.le_of_ble_eq_true rfl, Nat.le_of_ble_eq_true rfl⟩) (zPreV (B := fun H => va_P V.1 vwCl (zmW V g w pa be av sl sv pd cd (nI hk) (nI n) ap pl wy) H) hM hE (va_recv hE.1 hM (ci := 8) (q0 := 0) (q := (RX8, TX8, 13)) rfl (zm_c0 V g w pa be av sl sv pd cd (nI hk) (nI n) ap pl wy))) rfl rfl hl.1 rfl (lv_room (Nat.le_of_ble_eq_true rfl)) dL_law_604 ⟨Nat.le_of_ble_eq_true rfl, Nat.le_of_ble_eq_true rfl⟩) hS hgA hgA (fun r_ H_25 locs hQ_ _ hk_ hS => ?_)
          obtain ⟨hr_, hM⟩ := hQ_
          subst hr_
          have hT := zT_uni.mpr (zP_keep (zT_uni.mp hT) hk_ hGg)
          refine lv_icmp_eq (tgt := 658) hx hb dL_law_607 (by decide) (fun c_ => ?_) (fun c_ => absurd e1_ c_)
          rw [show nI (hk - 1) = nI (if hk = 0 then hk else hk - 1) by by_cases h0_ : hk = 0 <;> simp [h0_]] at hM
          exact K _ _ _ _ _ _ _ _ _ _ _ _ _ _ _ _ _ _ _ _ _ H_25 locs ls ((rT_undo hrT).mono (by omega)) h80 hT hM hS (lv_sub hl [0, 1, 2, 3] rfl)
        · have hc_ : (xs (i)) &&& 31 = 18 := hc_
          refine lv_tableIn (off := 580) (tgt := 612) hx hb dL_law_32 (by rw [hc_]; decide) (by rw [hc_]; decide) (by rw [hc_]; rfl) (by decide) ?_
          refine lv_aload_n hx hb dL_law_612 rfl (lv_at hl 2 rfl) ?_
          refine lv_aload_n hx hb dL_law_613 rfl (lv_at hl 1 rfl) ?_
          refine lv_iload_n hx hb dL_law_614 rfl (lv_at hl 0 rfl) ?_
          refine lv_iconst (v := 1) hx hb dL_law_615 (by decide +kernel) ?_
          refine lv_iadd hx hb dL_law_616 ?_
          refine zt_i (z_add (a := i) (b := 1) (by first | rfl | omega)) ?_
          refine va_sld hx hb hX hbl hbA hS (i := nI (i + 1)) (vp_in_nI (by omega) (by omega)) dL_law_617 ?_
          refine zt_i (y := xs (i + 1)) (by rw [nI_clamp (by omega)]) ?_
          have e1_ : (svR (Y 0) ((xs (i + 1)))) = (if 0 ≤ (xs (i + 1)) ∧ (xs (i + 1)) ≤ 1 then w 7 else -2) := (L_save hrT hR ((xs (i + 1)))).1
          refine zc_i (va_runV (As := [.int (xs (i + 1))]) (rest := []) ⟨hx, hb, hml, hown, hts⟩ (c_X7_save l V G Y hp hk f1 f2 n pd a kd nu mo ((xs (i + 1))) hJ hrT.2.2.2.2.2.2) (cwV 1 hts (zgLV_ wsC_all wsC_in uC_333 (tq_3 _ (List.mem_of_getElem? (i := 98) rfl)) (tq_3 _ (List.mem_of_getElem? (i := 99) rfl)) (tq_3 _ (List.mem_of_getElem? (i := 100) rfl)) (tq_1 _ (List.mem_of_getElem? (i := 1) rfl))) rfl rfl rfl (by decide +kernel) ⟨Nat.le_of_ble_eq_true rfl, Nat.le_of_ble_eq_true rfl⟩) (zPreV (B := fun H => zTP V G Y hp hk f1 f2 n pd a kd nu mo H) hT hE (zT_rt hE hT)) rfl rfl hl.1 rfl (lv_room (Nat.le_of_ble_eq_true rfl)) dL_law_618 ⟨Nat.le_of_ble_eq_true rfl, Nat.le_of_ble_eq_true rfl⟩) hS hGA hGA (fun r_ H_26 locs hQ_ _ hk_ hS => ?_)
          obtain ⟨hr_, hT⟩ := hQ_
          subst hr_
          have hM := zP_keep hM hk_ hgG
          refine lv_aload_n hx hb dL_law_621 rfl (lv_at hl 3 rfl) ?_
          refine lv_aload_n hx hb dL_law_622 rfl (lv_at hl 1 rfl) ?_
          refine lv_iload_n hx hb dL_law_623 rfl (lv_at hl 0 rfl) ?_
          refine lv_iconst (v := 1) hx hb dL_law_624 (by decide +kernel) ?_
          refine lv_iadd hx hb dL_law_625 ?_
          refine zt_i (z_add (a := i) (b := 1) (by first | rfl | omega)) ?_
          refine va_sld hx hb hX hbl hbA hS (i := nI (i + 1)) (vp_in_nI (by omega) (by omega)) dL_law_626 ?_
          refine zt_i (y := xs (i + 1)) (by rw [nI_clamp (by omega)]) ?_
          refine zc_i (va_runV (As := [.int (xs (i + 1))]) (rest := [.int (svR (Y 0) ((xs (i + 1))))]) ⟨hx, hb, hml, hown, hts⟩ (c_X8_save l V g w pa be av sl sv pd cd (nI hk) (nI n) ap pl wy ((xs (i + 1))) hJ8) (cwV 1 hts (zgLV_ wsM_all wsM_in uM_28 (tq_3 _ (List.mem_of_getElem? (i := 161) rfl)) (tq_3 _ (List.mem_of_getElem? (i := 162) rfl)) (tq_3 _ (List.mem_of_getElem? (i := 163) rfl)) (tq_1 _ (List.mem_of_getElem? (i := 9) rfl))) rfl rfl rfl (by decide +kernel) ⟨Nat.le_of_ble_eq_true rfl, Nat.le_of_ble_eq_true rfl⟩) (zPreV (B := fun H => va_P V.1 vwCl (zmW V g w pa be av sl sv pd cd (nI hk) (nI n) ap pl wy) H) hM hE (va_recv hE.1 hM (ci := 8) (q0 := 0) (q := (RX8, TX8, 13)) rfl (zm_c0 V g w pa be av sl sv pd cd (nI hk) (nI n) ap pl wy))) rfl rfl hl.1 rfl (lv_room (Nat.le_of_ble_eq_true rfl)) dL_law_627 ⟨Nat.le_of_ble_eq_true rfl, Nat.le_of_ble_eq_true rfl⟩) hS hgA hgA (fun r_ H_27 locs hQ_ _ hk_ hS => ?_)
          obtain ⟨hr_, hM⟩ := hQ_
          subst hr_
          have hT := zT_uni.mpr (zP_keep (zT_uni.mp hT) hk_ hGg)
          refine lv_icmp_eq (tgt := 658) hx hb dL_law_630 (by decide) (fun c_ => ?_) (fun c_ => absurd e1_ c_)
          exact K _ _ _ _ _ _ _ _ _ _ _ _ _ _ _ _ _ _ _ _ _ H_27 locs ls (((L_save hrT hR ((xs (i + 1)))).2).mono (by omega)) h80 hT hM hS (lv_sub hl [0, 1, 2, 3] rfl)
        · have hc_ : (xs (i)) &&& 31 = 19 := hc_
          refine lv_tableIn (off := 603) (tgt := 635) hx hb dL_law_32 (by rw [hc_]; decide) (by rw [hc_]; decide) (by rw [hc_]; rfl) (by decide) ?_
          refine lv_aload_n hx hb dL_law_635 rfl (lv_at hl 2 rfl) ?_
          refine lv_aload_n hx hb dL_law_636 rfl (lv_at hl 1 rfl) ?_
          refine lv_iload_n hx hb dL_law_637 rfl (lv_at hl 0 rfl) ?_
          refine lv_iconst (v := 1) hx hb dL_law_638 (by decide +kernel) ?_
          refine lv_iadd hx hb dL_law_639 ?_
          refine zt_i (z_add (a := i) (b := 1) (by first | rfl | omega)) ?_
          refine va_sld hx hb hX hbl hbA hS (i := nI (i + 1)) (vp_in_nI (by omega) (by omega)) dL_law_640 ?_
          refine zt_i (y := xs (i + 1)) (by rw [nI_clamp (by omega)]) ?_
          obtain ⟨e1_, e2_, e3_⟩ := L_restore hrT ((xs (i + 1)))
          refine zc_i (va_runV (As := [.int (xs (i + 1))]) (rest := []) ⟨hx, hb, hml, hown, hts⟩ (c_X7_restore l V G Y hp hk f1 f2 n pd a kd nu mo ((xs (i + 1))) hJ hrT.2.1 hrT.2.2.1 hrT.2.2.2.2.2.2) (cwV 1 hts (zgLV_ wsC_all wsC_in uC_337 (tq_3 _ (List.mem_of_getElem? (i := 106) rfl)) (tq_3 _ (List.mem_of_getElem? (i := 107) rfl)) (tq_3 _ (List.mem_of_getElem? (i := 108) rfl)) (tq_1 _ (List.mem_of_getElem? (i := 1) rfl))) rfl rfl rfl (by decide +kernel) ⟨Nat.le_of_ble_eq_true rfl, Nat.le_of_ble_eq_true rfl⟩) (zPreV (B := fun H => zTP V G Y hp hk f1 f2 n pd a kd nu mo H) hT hE (zT_rt hE hT)) rfl rfl hl.1 rfl (lv_room (Nat.le_of_ble_eq_true rfl)) dL_law_641 ⟨Nat.le_of_ble_eq_true rfl, Nat.le_of_ble_eq_true rfl⟩) hS hGA hGA (fun r_ H_28 locs hQ_ _ hk_ hS => ?_)
          obtain ⟨hr_, hT⟩ := hQ_
          subst hr_
          have hM := zP_keep hM hk_ hgG
          refine lv_aload_n hx hb dL_law_644 rfl (lv_at hl 3 rfl) ?_
          refine lv_aload_n hx hb dL_law_645 rfl (lv_at hl 1 rfl) ?_
          refine lv_iload_n hx hb dL_law_646 rfl (lv_at hl 0 rfl) ?_
          refine lv_iconst (v := 1) hx hb dL_law_647 (by decide +kernel) ?_
          refine lv_iadd hx hb dL_law_648 ?_
          refine zt_i (z_add (a := i) (b := 1) (by first | rfl | omega)) ?_
          refine va_sld hx hb hX hbl hbA hS (i := nI (i + 1)) (vp_in_nI (by omega) (by omega)) dL_law_649 ?_
          refine zt_i (y := xs (i + 1)) (by rw [nI_clamp (by omega)]) ?_
          refine zc_i (va_runV (As := [.int (xs (i + 1))]) (rest := [.int (rsR Y f1 f2 ((xs (i + 1))))]) ⟨hx, hb, hml, hown, hts⟩ (c_X8_restore l V g w pa be av sl sv pd cd (nI hk) (nI n) ap pl wy hk ((xs (i + 1))) hJ8 rfl hrT.2.2.1) (cwV 1 hts (zgLV_ wsM_all wsM_in uM_31 (tq_3 _ (List.mem_of_getElem? (i := 168) rfl)) (tq_3 _ (List.mem_of_getElem? (i := 169) rfl)) (tq_3 _ (List.mem_of_getElem? (i := 170) rfl)) (tq_1 _ (List.mem_of_getElem? (i := 9) rfl))) rfl rfl rfl (by decide +kernel) ⟨Nat.le_of_ble_eq_true rfl, Nat.le_of_ble_eq_true rfl⟩) (zPreV (B := fun H => va_P V.1 vwCl (zmW V g w pa be av sl sv pd cd (nI hk) (nI n) ap pl wy) H) hM hE (va_recv hE.1 hM (ci := 8) (q0 := 0) (q := (RX8, TX8, 13)) rfl (zm_c0 V g w pa be av sl sv pd cd (nI hk) (nI n) ap pl wy))) rfl rfl hl.1 rfl (lv_room (Nat.le_of_ble_eq_true rfl)) dL_law_650 ⟨Nat.le_of_ble_eq_true rfl, Nat.le_of_ble_eq_true rfl⟩) hS hgA hgA (fun r_ H_29 locs hQ_ _ hk_ hS => ?_)
          obtain ⟨hr_, be_, hM⟩ := hQ_
          subst hr_
          have hT := zT_uni.mpr (zP_keep (zT_uni.mp hT) hk_ hGg)
          refine lv_icmp_eq (tgt := 658) hx hb dL_law_653 (by decide) (fun c_ => ?_) (fun c_ => absurd e1_ c_)
          rw [e3_] at hM
          exact K _ _ _ _ _ _ _ _ _ _ _ _ _ _ _ _ _ _ _ _ _ H_29 locs ls (e2_.mono (by omega)) h80 hT hM hS (lv_sub hl [0, 1, 2, 3] rfl)
      · have hne_ : ¬ ((xs (i)) &&& 31) = 0 ∧ ¬ ((xs (i)) &&& 31) = 1 ∧ ¬ ((xs (i)) &&& 31) = 2 ∧ ¬ ((xs (i)) &&& 31) = 3 ∧ ¬ ((xs (i)) &&& 31) = 4 ∧ ¬ ((xs (i)) &&& 31) = 5 ∧ ¬ ((xs (i)) &&& 31) = 6 ∧ ¬ ((xs (i)) &&& 31) = 7 ∧ ¬ ((xs (i)) &&& 31) = 8 ∧ ¬ ((xs (i)) &&& 31) = 9 ∧ ¬ ((xs (i)) &&& 31) = 10 ∧ ¬ ((xs (i)) &&& 31) = 11 ∧ ¬ ((xs (i)) &&& 31) = 12 ∧ ¬ ((xs (i)) &&& 31) = 13 ∧ ¬ ((xs (i)) &&& 31) = 14 ∧ ¬ ((xs (i)) &&& 31) = 15 ∧ ¬ ((xs (i)) &&& 31) = 16 ∧ ¬ ((xs (i)) &&& 31) = 17 ∧ ¬ ((xs (i)) &&& 31) = 18 ∧ ¬ ((xs (i)) &&& 31) = 19 := by
          refine ⟨?_, ?_, ?_, ?_, ?_, ?_, ?_, ?_, ?_, ?_, ?_, ?_, ?_, ?_, ?_, ?_, ?_, ?_, ?_, ?_⟩ <;> (intro e_; rw [e_] at hc_; revert hc_; decide)
        refine lv_tableOut (tgt := 658) hx hb dL_law_32 hc_ (by decide) ?_
        exact K _ _ _ _ _ _ _ _ _ _ _ _ _ _ _ _ _ _ _ _ _ H locs ls (hrT.mono (by omega)) h80 hT hM hS (lv_sub hl [0, 1, 2, 3] rfl)
