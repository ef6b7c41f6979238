theorem hG_lt {b q : Nat} (h : q < 404) : hG_ b q < b + 404 := by
  rcases Nat.lt_or_ge q 396 with h1 | h1
  · obtain ⟨j, i, hj, hi, ex, e1⟩ := hG_lo (b := b) h1
    have f1 := off_free (b := b) hj hi
    omega
  · rcases hG_hi (b := b) h1 h with g | g | g | g | g | g | g | g <;> omega
set_option maxHeartbeats 4000000 in
set_option maxRecDepth 100000 in
theorem whole_start {p : Program} {e : Env} {s : State} {m : MethodId} {below : List Frame} {meth : Method} {c : Code} (l : Launch) (hflags : l.flags = flags0) {b L : Nat} {xs : Nat → Int32} (hL : L ≤ 2048) (C0 : lw_At p s m meth c b L xs) : W p l e room_1 s m #[Value.ref b] below meth c s.heap [] 0 0 (lw_Z below #[Value.ref b] s) (entryFrame m ([Value.ref b] : List Value).toArray 4) := by
  have C1 := C0
  obtain ⟨hx, hb, hr, hml, hown0, hts, hX, hbl, hlocks, hgv⟩ := C0
  have hown : s.vm.findClass RL = some m.cls := hown0
  obtain ⟨V, hE⟩ := zE_start hts
  have hXs := zST_start hts hgv
  have hao : va_AO RX0 s := va_AO.of (hts (.arrayOver (.object RX0)) (tq_1 _ (List.mem_of_getElem? (i := 148) rfl)))
  have hl := lv_entry ([.ref b]) (n := 4) (Nat.le_of_ble_eq_true rfl)
  rw [lg_entry_eq]
  generalize (lg_sl ([.ref b]) ++ List.replicate (4 - (lg_sl ([.ref b])).length) Slot.unset).toArray = ls at hl ⊢
  have hl : lv_has ls 4 [(0, .ref b)] := hl
  have hS : va_S (fun q => s.heap.size ≤ q) s.heap s.heap [] := va_S.rf
  refine zn_new (V := V) (ci := 7) (fs := [.null, .null, .null, .null, .null, .null, .null]) (C := RX7) (T := TX7) (N := 7) hx hb hts wsX70_in tyX7 tyX7_ok hown (hts _ (tq_1 _ (List.mem_of_getElem? (i := 11) rfl))) (hts _ (tq_1 _ (List.mem_of_getElem? (i := 12) rfl))) (hts _ (tq_1 _ (List.mem_of_getElem? (i := 1) rfl))) hE hS (show vwCl[7]? = some (RX7, TX7, 7) from rfl) (fun j hj => by rcases (show j = 0 ∨ j = 1 ∨ j = 2 ∨ j = 3 ∨ j = 4 ∨ j = 5 ∨ j = 6 by omega) with rfl | rfl | rfl | rfl | rfl | rfl | rfl <;> rfl) (Nat.le_of_ble_eq_true rfl) (Nat.le_of_ble_eq_true rfl) dL_law_0 (fun H_1 h_1 z1_ o1_ hS => ?_)
  refine lv_dup hx hb dL_law_3 rfl ?_
  have hX1 := hXs.kept (fun a h1 h2 => hS.2.1 a h1 h2)
  refine zc_v (va_runI (As := []) (rest := [.ref s.heap.size]) ⟨hx, hb, hml, hown, hts⟩ (c_X7_init l V s.heap.size) (cwI 0 hts (zgLB_ wsC_all wsC_in uC_240) rfl rfl rfl (hts _ (tq_1 _ (List.mem_of_getElem? (i := 1) rfl))) (hts _ (tq_1 _ (List.mem_of_getElem? (i := 13) rfl))) (hts _ (tq_1 _ (List.mem_of_getElem? (i := 14) rfl))) rfl (by decide +kernel) ⟨Nat.le_of_ble_eq_true rfl, Nat.le_of_ble_eq_true rfl⟩) (zPsS (B := fun U => (U.heap.size = s.heap.size + 1 ∧ va_at V.1 vwCl (s.heap.size, .inr (7, [.null, .null, .null, .null, .null, .null, .null])) U.heap) ∧ (zST (fun q => s.heap.size ≤ q) U U.heap ∧ va_AO RX0 U)) (fun _ _ _ _ h => ⟨h.1, zST.calling h.2.1, h.2.2⟩) (fun U hU hvm => by rw [hU]; exact ⟨⟨z1_, h_1⟩, hX1.moved hvm, hao.moved hvm⟩) hE) rfl rfl hl.1 rfl (lv_room (Nat.le_of_ble_eq_true rfl)) dL_law_4 ⟨Nat.le_of_ble_eq_true rfl, Nat.le_of_ble_eq_true rfl⟩) hS (fun q h => h) (fun q h => h) (fun H_2 locs hQ_ hge_ hk_ hS => ?_)
  clear h_1 z1_ o1_ hge_ hk_
  obtain ⟨hz, hT⟩ := hQ_
  refine lv_astore_n (lv' := [(1, .ref s.heap.size), (0, .ref b)]) hx hb dL_law_7 rfl hl (by decide) rfl (fun ls hl => ?_)
  refine zn_new (V := V) (ci := 8) (fs := [.null, .null, .null, .null, .null, .null, .int 0, .null, .int 0, .int 0, .null, .int 0, .int 0]) (C := RX8) (T := TX8) (N := 13) hx hb hts wsX80_in tyX8 tyX8_ok hown (hts _ (tq_3 _ (List.mem_of_getElem? (i := 110) rfl))) (hts _ (tq_3 _ (List.mem_of_getElem? (i := 111) rfl))) (hts _ (tq_1 _ (List.mem_of_getElem? (i := 9) rfl))) hE hS (show vwCl[8]? = some (RX8, TX8, 13) from rfl) (fun j hj => by rcases (show j = 0 ∨ j = 1 ∨ j = 2 ∨ j = 3 ∨ j = 4 ∨ j = 5 ∨ j = 6 ∨ j = 7 ∨ j = 8 ∨ j = 9 ∨ j = 10 ∨ j = 11 ∨ j = 12 by omega) with rfl | rfl | rfl | rfl | rfl | rfl | rfl | rfl | rfl | rfl | rfl | rfl | rfl <;> rfl) (Nat.le_of_ble_eq_true rfl) (Nat.le_of_ble_eq_true rfl) dL_law_8 (fun H_3 h_3 z1_ o1_ hS => ?_)
  rw [hz] at h_3 z1_ ⊢
  have kp_ : ∀ q, q < H_2.size → ¬ (fun q : Nat => s.heap.size + 404 ≤ q) q → H_3[q]? = H_2[q]? := fun q h _ => o1_ q h
  replace hT := zT_uni.mpr (zP_keep (zT_uni.mp hT) kp_ (fun p hp => by have := hG_lt (b := s.heap.size) hp; show ¬ (s.heap.size + 404 ≤ hG_ s.heap.size p); omega))
  clear kp_ o1_ hz
  refine lv_dup hx hb dL_law_11 rfl ?_
  have hI_ : ∀ q, zIn 9 (fun p => s.heap.size + 404 + p) q → s.heap.size ≤ q := fun q h => by obtain ⟨x, _, hx_⟩ := h; have hx_ : q = s.heap.size + 404 + x := hx_; omega
  refine zc_v (va_runI (As := []) (rest := [.ref (s.heap.size + 404)]) ⟨hx, hb, hml, hown, hts⟩ (c_X8_init l V (s.heap.size + 404)) (cwI 0 hts (zgLB_ wsM_all wsM_in uM_0) rfl rfl rfl (hts _ (tq_1 _ (List.mem_of_getElem? (i := 9) rfl))) (hts _ (tq_3 _ (List.mem_of_getElem? (i := 112) rfl))) (hts _ (tq_3 _ (List.mem_of_getElem? (i := 113) rfl))) rfl (by decide +kernel) ⟨Nat.le_of_ble_eq_true rfl, Nat.le_of_ble_eq_true rfl⟩) (zPreS (B := fun H => H.size = s.heap.size + 404 + 1 ∧ va_at V.1 vwCl (s.heap.size + 404, .inr (8, [.null, .null, .null, .null, .null, .null, .int 0, .null, .int 0, .int 0, .null, .int 0, .int 0])) H) ⟨z1_, h_3⟩ hE) rfl rfl hl.1 rfl (lv_room (Nat.le_of_ble_eq_true rfl)) dL_law_12 ⟨Nat.le_of_ble_eq_true rfl, Nat.le_of_ble_eq_true rfl⟩) hS hI_ hI_ (fun H_4 locs hM hge_ hk_ hS => ?_)
  replace hT := zT_uni.mpr (zP_keep (zT_uni.mp hT) hk_ (fun p hp => by
    have h_ := hG_lt (b := s.heap.size) hp
    rintro ⟨x, _, hx_⟩
    have hx_ : hG_ s.heap.size p = s.heap.size + 404 + x := hx_
    omega))
  clear h_3 z1_ hge_ hk_
  refine lv_astore_n (lv' := [(2, .ref (s.heap.size + 404)), (1, .ref s.heap.size), (0, .ref b)]) hx hb dL_law_15 rfl hl (by decide) rfl (fun ls hl => ?_)
  refine lv_iconst (v := 0) hx hb dL_law_16 (by decide +kernel) ?_
  refine lv_istore_n (lv' := [(3, .int 0), (2, .ref (s.heap.size + 404)), (1, .ref s.heap.size), (0, .ref b)]) hx hb dL_law_17 rfl hl (by decide) rfl (fun ls hl => ?_)
  refine W.widen (k := 413) (n := 6613) (Nat.le_of_ble_eq_true rfl) (Nat.le_of_ble_eq_true rfl) ?_
  refine law_loop l hL C1 V hE hXs (hG_ s.heap.size) (fun p => s.heap.size + 404 + p) (hG_inj _) (hJ8 _) ?_ ?_ ?_ ?_ (L + 1) 0 (fun _ => zA0) 0 0 0 0 0 (fun _ => 0) 0 0 0 0 mW0 (fun _ => 0) (fun _ => 0) (fun _ => 0) (fun _ => 0) (fun _ => 0) (fun _ => 0) 0 0 0 H_4 locs ls (Nat.zero_le _) (by omega) rT0 (by decide) hT hM hS ?_
  · intro p_ hp_ h_
    obtain ⟨x, hx1, hx2⟩ := h_
    have hx2 : s.heap.size + 404 + p_ = hG_ s.heap.size x := hx2
    have h_ := hG_lt (b := s.heap.size) hx1
    omega
  · intro p_ hp_ h_
    obtain ⟨x, _, hx2⟩ := h_
    have hx2 : hG_ s.heap.size p_ = s.heap.size + 404 + x := hx2
    have h_ := hG_lt (b := s.heap.size) hp_
    omega
  · intro q h_
    obtain ⟨x, hx1, rfl⟩ := h_
    exact hG_ge hx1
  · exact hI_
  · rw [(hG_m s.heap.size).2.2.2.1]
    exact lv_sub hl [0, 3, 2, 1] rfl
