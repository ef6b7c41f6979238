set_option maxHeartbeats 4000000 in
set_option maxRecDepth 100000 in
theorem c_X0_init (l : Launch) (V : zV) (b : Nat) : Met l yX0_init wsX0_init (zR 2 35 310) (zPs V [.ref b] (fun U => (U.heap.size = b + 1 ∧ va_at V.1 vwCl (b, .inr (0, [.null, .null, .null, .int 0, .int 0, .int 0, .int 0, .int 0, .int 0, .int 0, .int 0, .int 0, .int 0, .int 0])) U.heap) ∧ zST (fun q => b ≤ q) U U.heap)) (zQv (fun H => H.size = b + 36 ∧ va_P V.1 vwCl (zaX V (hA_ b) zA0) H) (fun q => b ≤ q)) 35 310 (fun q => b ≤ q) := by
  refine Met.ofW (cc := cX0_init) (maxL := 3) (ret := none) (by decide) rfl ?_
  intro p e s m args below meth c s₁ B hml hv
  obtain ⟨rfl, hP, hE⟩ := hv
  have hx := B.exec
  have hb := B.bytes
  have hr := B.returns
  have hts := atoms_spec (ws := wsX0_init) B.pre
  have hown : s.vm.findClass RX0 = some m.cls := findClass_of_methodNamed B.named
  have hlocks := B.notSynchronized
  have hl := lv_entry ([.ref b]) (n := 3) (Nat.le_of_ble_eq_true rfl)
  rw [lg_entry_eq]
  generalize (lg_sl ([.ref b]) ++ List.replicate (3 - (lg_sl ([.ref b])).length) Slot.unset).toArray = ls at hl ⊢
  have hl : lv_has ls 3 [(0, .ref b)] := hl
  have hin : meth.name = "<init>" := (name_of_methodNamed B.named B.method).1
  obtain ⟨⟨hz, hthis⟩, hX⟩ := hP
  have hS : va_S (fun q => b ≤ q) s.heap s.heap [] := va_S.rf
  have hz0_ := hz
  obtain ⟨-, -, ⟨t2, hZ2, hT2⟩⟩ := hX
  refine lv_aload_n hx hb dX0_init_0 rfl (lv_at hl 0 rfl) ?_
  refine W.objInit hx hb hown (hts _ (List.mem_cons_of_mem _ uC_13)) (hts _ (List.mem_cons_of_mem _ uC_2)) (hts _ (List.mem_cons_of_mem _ uC_3)) rfl (by rw [hml]; exact hl.1) rfl dX0_init_1 (Nat.le_of_ble_eq_true rfl) (Nat.le_of_ble_eq_true rfl) ?_
  refine W.eq (g2 := F0 m 4 ls []) rfl ?_
  refine lv_aload_n hx hb dX0_init_4 rfl (lv_at hl 0 rfl) ?_
  refine va_getsN hx hb (hZ2) (hS) hown (va_Nw.use rfl (hE.2 _ (List.mem_of_getElem? (i := 0) rfl))) (fun _ h9 => h9) dX0_init_5 ?_
  refine zo_len (n := 6) hx hb (zRd_T (va_T.kept hT2 (fun a h1 h2 => hS.2.1 a h1 h2))) dX0_init_8 ?_
  refine zn_arr (V := V) (atype := .int) (n := 6) (cA := V.2.1) (a0 := (6, .inl (fun _ => 0))) hx hb (hts _ (List.mem_cons_of_mem _ uC_4)) (hE.1.2 0 _ rfl).2 rfl hS (by decide) (by decide) (by show _ + 1 ≤ 35; omega) (by show _ + 6 ≤ 310; omega) dX0_init_9 (fun H_1 h_2 z1_ o1_ hS => ?_)
  rw [hz] at h_2 z1_ ⊢
  have kp_ : ∀ q, q < s.heap.size → q ≠ b + 1 → H_1[q]? = s.heap[q]? := fun q h _ => o1_ q h
  replace hthis := zn_A (b + 1) hthis kp_ (show b ≠ b + 1 by omega)
  replace hz : H_1.size = b + 2 := z1_
  clear kp_ z1_ o1_
  refine zn_putF 0 (.ref (b + 1)) (.array .int) hx hb hts (fun x h => List.mem_cons_of_mem _ (hU_X0 x h)) tyX0 tyX0_ok nmX0 hown hE hthis (show b ≤ b by omega) hS (show vwCl[0]? = some (RX0, TX0, 14) from rfl) (by decide) (Nat.le_of_ble_eq_true rfl) rfl hin rfl (by decide +kernel) rfl rfl (hts _ (List.mem_cons_of_mem _ uC_14)) (fun _ h9 => h9) dX0_init_11 (fun H_3 locs hthis z1_ o1_ hS => ?_)
  have kp_ : ∀ q, q < H_1.size → q ≠ b → H_3[q]? = H_1[q]? := fun q _ h => o1_ q h
  replace h_2 := zn_A (b) h_2 kp_ (show b + 1 ≠ b by omega)
  replace hz : H_3.size = b + 2 := z1_.trans hz
  clear kp_ z1_ o1_
  replace hthis : va_at V.1 vwCl (b, .inr (0, [.ref (b + 1), .null, .null, .int 0, .int 0, .int 0, .int 0, .int 0, .int 0, .int 0, .int 0, .int 0, .int 0, .int 0])) H_3 := hthis
  refine lv_aload_n hx hb dX0_init_14 rfl (lv_at hl 0 rfl) ?_
  refine zn_new (ci := 2) (fs := [.null, .null, .null, .int 0]) (C := RX2) (T := TX2) (N := 4) hx hb hts (fun x h => List.mem_cons_of_mem _ (hU_X2 x h)) tyX2 tyX2_ok hown (hts _ (List.mem_cons_of_mem _ uC_15)) (hts _ (List.mem_cons_of_mem _ uC_16)) (hts _ (List.mem_cons_of_mem _ uC_17)) hE hS (show vwCl[2]? = some (RX2, TX2, 4) from rfl) (fun j hj => by rcases (show j = 0 ∨ j = 1 ∨ j = 2 ∨ j = 3 by omega) with rfl | rfl | rfl | rfl <;> rfl) (by show _ + 1 ≤ 35; omega) (by show _ + 4 ≤ 310; omega) dX0_init_15 (fun H_4 h_5 z1_ o1_ hS => ?_)
  rw [hz] at h_5 z1_ ⊢
  have kp_ : ∀ q, q < H_3.size → q ≠ b + 2 → H_4[q]? = H_3[q]? := fun q h _ => o1_ q h
  replace hthis := zn_A (b + 2) hthis kp_ (show b ≠ b + 2 by omega)
  replace h_2 := zn_A (b + 2) h_2 kp_ (show b + 1 ≠ b + 2 by omega)
  replace hz : H_4.size = b + 3 := z1_
  clear kp_ z1_ o1_
  refine lv_dup hx hb dX0_init_18 rfl ?_
  refine zc_v (va_runIN (As := []) (rest := [.ref (b + 2), .ref b]) ⟨hx, hb, hml, hown, hts⟩ (c_X2_init l V (b + 2)) ⟨va_cnB 0 hts (zgB_ wsC_all uC_0) rfl rfl rfl (hE.2 (.methodLinkNest RX0 20 yX2_init "DrawerSlips") (List.mem_of_getElem? (i := 29) rfl)) (hts _ (List.mem_cons_of_mem _ uC_17)) (by decide +kernel) ⟨Nat.le_of_ble_eq_true rfl, Nat.le_of_ble_eq_true rfl⟩, rfl, (hts _ (List.mem_cons_of_mem _ uC_23))⟩ (zPreS (B := fun H => H.size = b + 2 + 1 ∧ va_at V.1 vwCl (b + 2, .inr (2, [.null, .null, .null, .int 0])) H) ⟨hz, h_5⟩ hE) rfl rfl hl.1 rfl (lv_room (Nat.le_of_ble_eq_true rfl)) dX0_init_19 ⟨(by show _ + 3 ≤ 35; omega), (by show _ + 60 ≤ 310; omega)⟩) hS (fun q h => Nat.le_trans (show b ≤ b + 2 by omega) h) (fun q h => Nat.le_trans (show b ≤ b + 2 by omega) h) (fun H_6 locs hQ_ hge_ hk_ hS => ?_)
  have kp_ : ∀ q, q < H_4.size → q ≠ b + 2 → H_6[q]? = H_4[q]? := fun q h h2 => hk_ q h (fun h3 => by have h3 : b + 2 ≤ q := h3; omega)
  replace hthis := zn_A (b + 2) hthis kp_ (show b ≠ b + 2 by omega)
  replace h_2 := zn_A (b + 2) h_2 kp_ (show b + 1 ≠ b + 2 by omega)
  clear h_5 hz kp_ hge_ hk_
  obtain ⟨hz, hlat⟩ := hQ_
  replace hz : H_6.size = b + 6 := hz
  refine zn_putF 2 (.ref (b + 2)) (.object "DrawerSlips$Lately") hx hb hts (fun x h => List.mem_cons_of_mem _ (hU_X0 x h)) tyX0 tyX0_ok nmX0 hown hE hthis (show b ≤ b by omega) hS (show vwCl[0]? = some (RX0, TX0, 14) from rfl) (by decide) (Nat.le_of_ble_eq_true rfl) rfl hin rfl (by decide +kernel) rfl rfl (hts _ (List.mem_cons_of_mem _ uC_18)) (fun _ h9 => h9) dX0_init_22 (fun H_7 locs hthis z1_ o1_ hS => ?_)
  have kp_ : ∀ q, q < H_6.size → q ≠ b → H_7[q]? = H_6[q]? := fun q _ h => o1_ q h
  replace h_2 := zn_A (b) h_2 kp_ (show b + 1 ≠ b by omega)
  replace hlat := zn_P (b) hlat kp_ (fun p hp => by show b + 2 + p ≠ b; omega)
  replace hz : H_7.size = b + 6 := z1_.trans hz
  clear kp_ z1_ o1_
  replace hthis : va_at V.1 vwCl (b, .inr (0, [.ref (b + 1), .null, .ref (b + 2), .int 0, .int 0, .int 0, .int 0, .int 0, .int 0, .int 0, .int 0, .int 0, .int 0, .int 0])) H_7 := hthis
  refine va_getsN hx hb (hZ2) (hS) hown (va_Nw.use rfl (hE.2 _ (List.mem_of_getElem? (i := 0) rfl))) (fun _ h9 => h9) dX0_init_25 ?_
  refine lv_aload_n hx hb dX0_init_28 rfl (lv_at hl 0 rfl) ?_
  refine zo_get 0 (.ref (b + 1)) hx hb hts (fun x h => List.mem_cons_of_mem _ (hU_X0 x h)) hown hE hthis (show vwCl[0]? = some (RX0, TX0, 14) from rfl) (by decide) rfl (hts _ (List.mem_cons_of_mem _ uC_14)) (fun _ h9 => h9) dX0_init_29 ?_
  have hne_ : t2 ≠ b + 1 := by
    obtain ⟨_, -, -, -, -, -, -, hnA_⟩ := id hT2
    exact fun z => hnA_ (show b ≤ t2 by omega)
  refine zc_v (va_runSN (As := [.ref t2, .ref (b + 1)]) (rest := []) ⟨hx, hb, hml, hown, hts⟩ (c_X7_copyRow l V t2 (b + 1) 6 6 zFi (fun _ => 0) (by decide) (by decide) hne_) ⟨va_cnB 2 hts (zgB_ wsC_all uC_8) rfl rfl rfl (hE.2 (.methodLinkNest RX0 25 yX7_copyRow "DrawerSlips") (List.mem_of_getElem? (i := 30) rfl)) (hts _ (List.mem_cons_of_mem _ uC_25)) (by decide +kernel) ⟨Nat.le_of_ble_eq_true rfl, Nat.le_of_ble_eq_true rfl⟩, (hts _ (List.mem_cons_of_mem _ uC_24)), trivial⟩ (zPsS (B := fun U => zRd U U.heap t2 6 zFi ∧ va_P V.1 vwCl [(b + 1, .inl (V.2.1, 6, .inl (fun _ => 0)))] U.heap) (fun _ _ _ _ h => ⟨zRd_calling h.1, h.2⟩) (fun U hU hvm => by rw [hU]; exact ⟨zRd.moved hvm (zRd_T (va_T.kept hT2 (fun a h1 h2 => hS.2.1 a h1 h2))), zP1 h_2⟩) hE) rfl rfl hl.1 rfl (lv_room (Nat.le_of_ble_eq_true rfl)) dX0_init_32 ⟨Nat.le_of_ble_eq_true rfl, Nat.le_of_ble_eq_true rfl⟩) hS (fun q h => Nat.le_trans (Nat.le_add_right b 1) (Nat.le_of_eq (Eq.symm h))) (fun q h => Nat.le_trans (Nat.le_add_right b 1) (Nat.le_of_eq (Eq.symm h))) (fun H_8 locs hQ_ hge_ hk_ hS => ?_)
  refine zw_sz (fun hsz_ => ?_)
  have kp_ : ∀ q, q < H_7.size → q ≠ b + 1 → H_8[q]? = H_7[q]? := fun q h h2 => hk_ q h h2
  replace hthis := zn_A (b + 1) hthis kp_ (show b ≠ b + 1 by omega)
  replace hlat := zn_P (b + 1) hlat kp_ (fun p hp => by show b + 2 + p ≠ b + 1; omega)
  replace hz : H_8.size = b + 6 := by omega
  have h_2 : va_at V.1 vwCl (b + 1, .inl (V.2.1, 6, .inl zFi)) H_8 := z_atx (zP1_at hQ_) (fun j hj => if_pos ⟨hj, hj⟩)
  refine lv_null hx hb dX0_init_35 ?_
  refine lv_astore_nN (lv' := [(1, .null), (0, .ref b)]) hx hb dX0_init_36 rfl hl (by decide) rfl (fun ls hl => ?_)
  refine lv_iconst (v := 0) hx hb dX0_init_37 (by decide +kernel) ?_
  refine lv_istore_n (lv' := [(2, .int 0), (1, .null), (0, .ref b)]) hx hb dX0_init_38 rfl hl (by decide) rfl (fun ls hl => ?_)
  have L_39 : ∀ (n_ i : Nat) (H : Heap) (locs : List Loc) (ls : Array Slot), i ≤ 30 → 30 + 1 ≤ i + n_ → H.size = b + 6 + i → (va_at V.1 vwCl (b, .inr (0, [.ref (b + 1), .null, .ref (b + 2), .int 0, .int 0, .int 0, .int 0, .int 0, .int 0, .int 0, .int 0, .int 0, .int 0, .int 0])) H) → (va_at V.1 vwCl (b + 1, .inl (V.2.1, 6, .inl zFi)) H) → (va_P V.1 vwCl (zlW V (fun p => b + 2 + p) 0 (fun _ => 0) (fun _ => 0) (fun _ => 0)) H) → (∀ j, j < i → va_at V.1 vwCl (b + 6 + j, .inr (5, zsO (if j = 0 then none else some (b + 6 + (j - 1))) (fun _ => 0))) H) → va_S (fun q => b ≤ q) s.heap H locs → lv_has ls 3 [(2, .int (nI i)), (1, va_rf (if i = 0 then none else some (b + 6 + (i - 1)))), (0, .ref b)] → W p l e (headSpec wsX0_init (zR 2 35 310)).room s m (List.toArray [.ref b]) below meth c H locs (5 + i) (70 + 8 * i) (MQ below (zQv (fun H => H.size = b + 36 ∧ va_P V.1 vwCl (zaX V (hA_ b) zA0) H) (fun q => b ≤ q)) (List.toArray [.ref b]) s 35 310 (fun q => b ≤ q)) (F0 m 39 ls []) := by
    intro n_
    induction n_ with
    | zero => intro i H locs ls hi_ hn_; exact absurd hn_ (by omega)
    | succ n_ ih =>
      intro i H locs ls hi_ hn_ hz hthis h_2 hlat hsl hS hl
      rcases Nat.eq_zero_or_pos i with h0_ | h0_
      · rw [if_pos h0_] at hl
        have hl : lv_has ls 3 [(2, .int (nI i)), (1, .null), (0, .ref b)] := hl
        refine lv_iload_n hx hb dX0_init_39 rfl (lv_at hl 0 rfl) ?_
        refine lv_bipush (v := 30) hx hb dX0_init_40 (by decide +kernel) ?_
        refine zb_ge (x := i) (y := 30) (tgt := 60) hx hb dX0_init_42 (by decide) (by omega) (by omega) (fun c_42 => ?_) (fun c_42 => ?_)
        · exact absurd c_42 (by omega)
        · refine zn_new (ci := 5) (fs := [.null, .int 0, .int 0, .int 0, .int 0, .int 0, .int 0, .int 0]) (C := RX5) (T := TX5) (N := 8) hx hb hts (fun x h => List.mem_cons_of_mem _ (hU_X5 x h)) tyX5 tyX5_ok hown (hts _ (List.mem_cons_of_mem _ uC_19)) (hts _ (List.mem_cons_of_mem _ uC_20)) (hts _ (List.mem_cons_of_mem _ uC_21)) hE hS (show vwCl[5]? = some (RX5, TX5, 8) from rfl) (fun j hj => by rcases (show j = 0 ∨ j = 1 ∨ j = 2 ∨ j = 3 ∨ j = 4 ∨ j = 5 ∨ j = 6 ∨ j = 7 by omega) with rfl | rfl | rfl | rfl | rfl | rfl | rfl | rfl <;> rfl) (by show _ + 1 ≤ 35; omega) (by show _ + 8 ≤ 310; omega) dX0_init_45 (fun H_9 h_10 z1_ o1_ hS => ?_)
          rw [hz] at h_10 z1_ ⊢
          have kp_ : ∀ q, q < H.size → q ≠ b + 6 + i → H_9[q]? = H[q]? := fun q h _ => o1_ q h
          replace hthis := zn_A (b + 6 + i) hthis kp_ (show b ≠ b + 6 + i by omega)
          replace h_2 := zn_A (b + 6 + i) h_2 kp_ (show b + 1 ≠ b + 6 + i by omega)
          replace hlat := zn_P (b + 6 + i) hlat kp_ (fun p hp => by show b + 2 + p ≠ b + 6 + i; omega)
          replace hsl := (fun j hj => zn_A (b + 6 + i) (hsl j hj) kp_ (show b + 6 + j ≠ b + 6 + i by omega))
          replace hz : H_9.size = b + 6 + i + 1 := z1_
          clear kp_ z1_ o1_
          refine lv_dup hx hb dX0_init_48 rfl ?_
          refine lv_aload_nN hx hb dX0_init_49 rfl (lv_at hl 1 rfl) ?_
          refine zc_v (va_runIN (As := [.null]) (rest := [.ref (b + 6 + i)]) ⟨hx, hb, hml, hown, hts⟩ (c_X5_initN l V (b + 6 + i)) ⟨va_cnB 1 hts (zgB_ wsC_all uC_9) rfl rfl rfl (hE.2 (.methodLinkNest RX0 31 yX5_init "DrawerSlips") (List.mem_of_getElem? (i := 31) rfl)) (hts _ (List.mem_cons_of_mem _ uC_21)) (by decide +kernel) ⟨Nat.le_of_ble_eq_true rfl, Nat.le_of_ble_eq_true rfl⟩, rfl, (hts _ (List.mem_cons_of_mem _ uC_26))⟩ (zPreS (B := fun H => H.size = b + 6 + i + 1 ∧ va_at V.1 vwCl (b + 6 + i, .inr (5, [.null, .int 0, .int 0, .int 0, .int 0, .int 0, .int 0, .int 0])) H) ⟨hz, h_10⟩ hE) rfl rfl hl.1 rfl (lv_room (Nat.le_of_ble_eq_true rfl)) dX0_init_50 ⟨(by show _ + 0 ≤ 35; omega), (by show _ + 0 ≤ 310; omega)⟩) hS (fun q h => Nat.le_trans (show b ≤ b + 6 + i by omega) h) (fun q h => Nat.le_trans (show b ≤ b + 6 + i by omega) h) (fun H_11 locs hQ_ hge_ hk_ hS => ?_)
          have kp_ : ∀ q, q < H_9.size → q ≠ b + 6 + i → H_11[q]? = H_9[q]? := fun q h h2 => hk_ q h (fun h3 => by have h3 : b + 6 + i ≤ q := h3; omega)
          replace hthis := zn_A (b + 6 + i) hthis kp_ (show b ≠ b + 6 + i by omega)
          replace h_2 := zn_A (b + 6 + i) h_2 kp_ (show b + 1 ≠ b + 6 + i by omega)
          replace hlat := zn_P (b + 6 + i) hlat kp_ (fun p hp => by show b + 2 + p ≠ b + 6 + i; omega)
          replace hsl := (fun j hj => zn_A (b + 6 + i) (hsl j hj) kp_ (show b + 6 + j ≠ b + 6 + i by omega))
          clear h_10 hz kp_ hge_ hk_
          obtain ⟨hz, hslip_⟩ := hQ_
          refine lv_astore_n (lv' := [(1, .ref (b + 6 + i)), (2, .int (nI i)), (0, .ref b)]) hx hb dX0_init_53 rfl hl (by decide) rfl (fun ls hl => ?_)
          refine lv_iinc (v := nI (i + 1)) (lv' := [(2, .int (nI (i + 1))), (1, .ref (b + 6 + i)), (0, .ref b)]) hx hb dX0_init_54 hl (k := 1) rfl (z_inc1 i) (by decide) rfl (fun ls hl => ?_)
          refine lv_goto (tgt := 39) hx hb dX0_init_57 (by decide) ?_
          refine W.widen (k := 5 + (i + 1)) (n := 70 + 8 * (i + 1)) (by omega) (by omega) ?_
          exact ih (i + 1) H_11 locs ls (by omega) (by omega) hz hthis h_2 hlat (fun j hj => by
            by_cases e_ : j = i
            · subst e_; rw [if_pos h0_]; exact hslip_
            · exact hsl j (by omega)) hS (by rw [if_neg (show ¬ i + 1 = 0 by omega), show i + 1 - 1 = i by omega]; exact lv_sub hl [0, 1, 2] rfl)
      · rw [if_neg (show ¬ i = 0 by omega)] at hl
        have hl : lv_has ls 3 [(2, .int (nI i)), (1, .ref (b + 6 + (i - 1))), (0, .ref b)] := hl
        refine lv_iload_n hx hb dX0_init_39 rfl (lv_at hl 0 rfl) ?_
        refine lv_bipush (v := 30) hx hb dX0_init_40 (by decide +kernel) ?_
        refine zb_ge (x := i) (y := 30) (tgt := 60) hx hb dX0_init_42 (by decide) (by omega) (by omega) (fun c_42 => ?_) (fun c_42 => ?_)
        · obtain rfl : i = 30 := by omega
          rw [show b + 6 + (30 - 1) = b + 35 by omega] at hl
          have hl : lv_has ls 3 [(2, .int (nI 30)), (1, .ref (b + 35)), (0, .ref b)] := hl
          have hl : lv_has ls 3 [(2, .int 30), (1, .ref (b + 35)), (0, .ref b)] := hl
          have hz : H.size = b + 36 := hz
          refine lv_aload_n hx hb dX0_init_60 rfl (lv_at hl 2 rfl) ?_
          refine lv_aload_n hx hb dX0_init_61 rfl (lv_at hl 1 rfl) ?_
          refine zn_putF 1 (.ref (b + 35)) (.object "DrawerSlips$Slip") hx hb hts (fun x h => List.mem_cons_of_mem _ (hU_X0 x h)) tyX0 tyX0_ok nmX0 hown hE hthis (show b ≤ b by omega) hS (show vwCl[0]? = some (RX0, TX0, 14) from rfl) (by decide) (Nat.le_of_ble_eq_true rfl) rfl hin rfl (by decide +kernel) rfl rfl (hts _ (List.mem_cons_of_mem _ uC_22)) (fun _ h9 => h9) dX0_init_62 (fun H_12 locs hthis z1_ o1_ hS => ?_)
          have kp_ : ∀ q, q < H.size → q ≠ b → H_12[q]? = H[q]? := fun q _ h => o1_ q h
          replace h_2 := zn_A (b) h_2 kp_ (show b + 1 ≠ b by omega)
          replace hlat := zn_P (b) hlat kp_ (fun p hp => by show b + 2 + p ≠ b; omega)
          replace hsl := (fun j hj => zn_A (b) (hsl j hj) kp_ (show b + 6 + j ≠ b by omega))
          replace hz : H_12.size = b + 36 := z1_.trans hz
          clear kp_ z1_ o1_
          replace hthis : va_at V.1 vwCl (b, .inr (0, [.ref (b + 1), .ref (b + 35), .ref (b + 2), .int 0, .int 0, .int 0, .int 0, .int 0, .int 0, .int 0, .int 0, .int 0, .int 0, .int 0])) H_12 := hthis
          have hfin_ : va_P V.1 vwCl (zaX V (hA_ b) zA0) H_12 := zP_mk (fun q hq => by
            match q, hq with
            | 0, _ => exact hthis
            | 1, _ => exact h_2
            | 2, _ => exact zP_at hlat (p := 0) (by decide)
            | 3, _ => exact zP_at hlat (p := 1) (by decide)
            | 4, _ => exact zP_at hlat (p := 2) (by decide)
            | 5, _ => exact zP_at hlat (p := 3) (by decide)
            | q + 6, hq =>
              have h1_ := hsl (29 - q) (by omega)
              have e1_ : hA_ b (q + 6) = b + 6 + (29 - q) := by unfold hA_; rw [if_neg (by omega)]; omega
              have e2_ : zch (hA_ b) (q + 1) = (if 29 - q = 0 then none else some (b + 6 + (29 - q - 1))) := by
                unfold zch
                by_cases h2_ : q + 1 < 30
                · rw [if_pos h2_, if_neg (by omega)]; unfold hA_; rw [if_neg (by omega)]; congr 1; omega
                · rw [if_neg h2_, if_pos (by omega)]
              show va_at V.1 vwCl (hA_ b (q + 6), .inr (5, zsO (zch (hA_ b) (q + 1)) (fun _ => 0))) H_12
              rw [e1_, e2_]; exact h1_)
          refine W.widen (k := 35) (n := 310) (by omega) (by omega) ?_
          exact zr_v hx hb hr hlocks hS (⟨hz, hfin_⟩) dX0_init_65
        · refine zn_new (ci := 5) (fs := [.null, .int 0, .int 0, .int 0, .int 0, .int 0, .int 0, .int 0]) (C := RX5) (T := TX5) (N := 8) hx hb hts (fun x h => List.mem_cons_of_mem _ (hU_X5 x h)) tyX5 tyX5_ok hown (hts _ (List.mem_cons_of_mem _ uC_19)) (hts _ (List.mem_cons_of_mem _ uC_20)) (hts _ (List.mem_cons_of_mem _ uC_21)) hE hS (show vwCl[5]? = some (RX5, TX5, 8) from rfl) (fun j hj => by rcases (show j = 0 ∨ j = 1 ∨ j = 2 ∨ j = 3 ∨ j = 4 ∨ j = 5 ∨ j = 6 ∨ j = 7 by omega) with rfl | rfl | rfl | rfl | rfl | rfl | rfl | rfl <;> rfl) (by show _ + 1 ≤ 35; omega) (by show _ + 8 ≤ 310; omega) dX0_init_45 (fun H_13 h_14 z1_ o1_ hS => ?_)
          rw [hz] at h_14 z1_ ⊢
          have kp_ : ∀ q, q < H.size → q ≠ b + 6 + i → H_13[q]? = H[q]? := fun q h _ => o1_ q h
          replace hthis := zn_A (b + 6 + i) hthis kp_ (show b ≠ b + 6 + i by omega)
          replace h_2 := zn_A (b + 6 + i) h_2 kp_ (show b + 1 ≠ b + 6 + i by omega)
          replace hlat := zn_P (b + 6 + i) hlat kp_ (fun p hp => by show b + 2 + p ≠ b + 6 + i; omega)
          replace hsl := (fun j hj => zn_A (b + 6 + i) (hsl j hj) kp_ (show b + 6 + j ≠ b + 6 + i by omega))
          replace hz : H_13.size = b + 6 + i + 1 := z1_
          clear kp_ z1_ o1_
          refine lv_dup hx hb dX0_init_48 rfl ?_
          refine lv_aload_n hx hb dX0_init_49 rfl (lv_at hl 1 rfl) ?_
          refine zc_v (va_runIN (As := [.ref (b + 6 + (i - 1))]) (rest := [.ref (b + 6 + i)]) ⟨hx, hb, hml, hown, hts⟩ (c_X5_init l V (b + 6 + i) (b + 6 + (i - 1))) ⟨va_cnB 1 hts (zgB_ wsC_all uC_9) rfl rfl rfl (hE.2 (.methodLinkNest RX0 31 yX5_init "DrawerSlips") (List.mem_of_getElem? (i := 31) rfl)) (hts _ (List.mem_cons_of_mem _ uC_21)) (by decide +kernel) ⟨Nat.le_of_ble_eq_true rfl, Nat.le_of_ble_eq_true rfl⟩, rfl, (hts _ (List.mem_cons_of_mem _ uC_26))⟩ (zPreS (B := fun H => H.size = b + 6 + i + 1 ∧ va_at V.1 vwCl (b + 6 + i, .inr (5, [.null, .int 0, .int 0, .int 0, .int 0, .int 0, .int 0, .int 0])) H) ⟨hz, h_14⟩ hE) rfl rfl hl.1 rfl (lv_room (Nat.le_of_ble_eq_true rfl)) dX0_init_50 ⟨(by show _ + 0 ≤ 35; omega), (by show _ + 0 ≤ 310; omega)⟩) hS (fun q h => Nat.le_trans (show b ≤ b + 6 + i by omega) h) (fun q h => Nat.le_trans (show b ≤ b + 6 + i by omega) h) (fun H_15 locs hQ_ hge_ hk_ hS => ?_)
          have kp_ : ∀ q, q < H_13.size → q ≠ b + 6 + i → H_15[q]? = H_13[q]? := fun q h h2 => hk_ q h (fun h3 => by have h3 : b + 6 + i ≤ q := h3; omega)
          replace hthis := zn_A (b + 6 + i) hthis kp_ (show b ≠ b + 6 + i by omega)
          replace h_2 := zn_A (b + 6 + i) h_2 kp_ (show b + 1 ≠ b + 6 + i by omega)
          replace hlat := zn_P (b + 6 + i) hlat kp_ (fun p hp => by show b + 2 + p ≠ b + 6 + i; omega)
          replace hsl := (fun j hj => zn_A (b + 6 + i) (hsl j hj) kp_ (show b + 6 + j ≠ b + 6 + i by omega))
          clear h_14 hz kp_ hge_ hk_
          obtain ⟨hz, hslip_⟩ := hQ_
          refine lv_astore_n (lv' := [(1, .ref (b + 6 + i)), (2, .int (nI i)), (0, .ref b)]) hx hb dX0_init_53 rfl hl (by decide) rfl (fun ls hl => ?_)
          refine lv_iinc (v := nI (i + 1)) (lv' := [(2, .int (nI (i + 1))), (1, .ref (b + 6 + i)), (0, .ref b)]) hx hb dX0_init_54 hl (k := 1) rfl (z_inc1 i) (by decide) rfl (fun ls hl => ?_)
          refine lv_goto (tgt := 39) hx hb dX0_init_57 (by decide) ?_
          refine W.widen (k := 5 + (i + 1)) (n := 70 + 8 * (i + 1)) (by omega) (by omega) ?_
          exact ih (i + 1) H_15 locs ls (by omega) (by omega) hz hthis h_2 hlat (fun j hj => by
            by_cases e_ : j = i
            · subst e_; rw [if_neg (show ¬ j = 0 by omega)]; exact hslip_
            · exact hsl j (by omega)) hS (by rw [if_neg (show ¬ i + 1 = 0 by omega), show i + 1 - 1 = i by omega]; exact lv_sub hl [0, 1, 2] rfl)
  refine W.widen (k := 5 + 0) (n := 70 + 8 * 0) (by omega) (by omega) ?_
  exact L_39 (30 + 1) 0 H_8 locs ls (by omega) (by omega) hz hthis h_2 hlat (fun j hj => absurd hj (by omega)) hS (lv_sub hl [0, 1, 2] rfl)
