theorem z_atq {D : va_G} {cl : List vw_C} {a : Nat} {cA : ClassId} {n : Nat} {f f' : Nat → Option Nat} {H : Heap} (h : va_at D cl (a, .inl (cA, n, .inr (.inr (.inr (.inr f))))) H) (hf : ∀ j, j < n → f j = f' j) : va_at D cl (a, .inl (cA, n, .inr (.inr (.inr (.inr f'))))) H := by
  have e : vp_cell cA (n, .inr (.inr (.inr (.inr f)))) = vp_cell cA (n, .inr (.inr (.inr (.inr f')))) := by
    rw [vp_cell_q, vp_cell_q]
    show ({ cls := cA, slots := Array.ofFn (n := n) fun j => va_rf (f j.val), vm := .none } : Cell) = { cls := cA, slots := Array.ofFn (n := n) fun j => va_rf (f' j.val), vm := .none }
    congr 2
    funext j
    exact congrArg va_rf (hf j.val j.isLt)
  show H[a]? = some (vp_cell cA (n, .inr (.inr (.inr (.inr f')))))
  rw [← e]
  exact h
theorem zaX_h {V : zV} {h h' : Nat → Nat} {A : zA} {H : Heap} (hh : ∀ p, p < 36 → h p = h' p) (hP : va_P V.1 vwCl (zaX V h A) H) : va_P V.1 vwCl (zaX V h' A) H := by
  refine zP_mk (fun q hq => ?_)
  have h1 := zP_at hP hq
  rw [hh q hq] at h1
  match q, hq, h1 with
  | 0, _, h1 =>
    have e : zaO h (aF A) = zaO h' (aF A) := by unfold zaO; rw [hh 1 (by decide), hh 6 (by decide), hh 2 (by decide)]
    show va_at V.1 vwCl (h' 0, .inr (0, zaO h' (aF A))) H
    rw [← e]; exact h1
  | 1, _, h1 => exact h1
  | 2, _, h1 =>
    have e : zlO h (nI (aS A)) = zlO h' (nI (aS A)) := by unfold zlO; rw [hh 3 (by decide), hh 4 (by decide), hh 5 (by decide)]
    show va_at V.1 vwCl (h' 2, .inr (2, zlO h' (nI (aS A)))) H
    rw [← e]; exact h1
  | 3, _, h1 => exact h1
  | 4, _, h1 => exact h1
  | 5, _, h1 => exact h1
  | i + 6, hq, h1 =>
    have e : zch h (i + 1) = zch h' (i + 1) := by
      unfold zch
      by_cases h2 : i + 1 < 30
      · rw [if_pos h2, if_pos h2, hh (i + 1 + 6) (by omega)]
      · rw [if_neg h2, if_neg h2]
    show va_at V.1 vwCl (h' (i + 6), .inr (5, zsO (zch h' (i + 1)) (aP A i))) H
    rw [← e]; exact h1
set_option maxHeartbeats 4000000 in
set_option maxRecDepth 100000 in
theorem c_X6_init (l : Launch) (V : zV) (b : Nat) : Met l yX6_init wsX6_init (zR 3 36 324) (zPs V [.ref b] (fun U => (U.heap.size = b + 1 ∧ va_at V.1 vwCl (b, .inr (6, [.null, .int 0])) U.heap) ∧ zST (fun q => b ≤ q) U U.heap)) (zQv (fun H => H.size = b + 37 ∧ va_at V.1 vwCl (b, .inr (6, [.ref (b + 1), .int 0])) H ∧ va_P V.1 vwCl (zaX V (hA_ (b + 1)) zA0) H) (fun q => b ≤ q)) 36 324 (fun q => b ≤ q) := by
  refine Met.ofW (cc := cX6_init) (maxL := 1) (ret := none) (by decide) rfl ?_
  intro p e s m args below meth c s₁ B hml hv
  obtain ⟨rfl, hP, hE⟩ := hv
  have hx := B.exec
  have hb := B.bytes
  have hr := B.returns
  have hts := atoms_spec (ws := wsX6_init) B.pre
  have hown : s.vm.findClass RX6 = some m.cls := findClass_of_methodNamed B.named
  have hlocks := B.notSynchronized
  have hl := lv_entry ([.ref b]) (n := 1) (Nat.le_of_ble_eq_true rfl)
  rw [lg_entry_eq]
  generalize (lg_sl ([.ref b]) ++ List.replicate (1 - (lg_sl ([.ref b])).length) Slot.unset).toArray = ls at hl ⊢
  have hl : lv_has ls 1 [(0, .ref b)] := hl
  have hin : meth.name = "<init>" := (name_of_methodNamed B.named B.method).1
  obtain ⟨⟨hz, hthis⟩, hX⟩ := hP
  have hS : va_S (fun q => b ≤ q) s.heap s.heap [] := va_S.rf
  have hX0_ := hX
  refine lv_aload_n hx hb dX6_init_0 rfl (lv_at hl 0 rfl) ?_
  refine W.objInit hx hb hown (hts _ (List.mem_cons_of_mem _ uC_237)) (hts _ (List.mem_cons_of_mem _ uC_2)) (hts _ (List.mem_cons_of_mem _ uC_3)) rfl (by rw [hml]; exact hl.1) rfl dX6_init_1 (Nat.le_of_ble_eq_true rfl) (Nat.le_of_ble_eq_true rfl) ?_
  refine W.eq (g2 := F0 m 4 ls []) rfl ?_
  refine lv_aload_n hx hb dX6_init_4 rfl (lv_at hl 0 rfl) ?_
  refine zn_new (ci := 0) (fs := [.null, .null, .null, .int 0, .int 0, .int 0, .int 0, .int 0, .int 0, .int 0, .int 0, .int 0, .int 0, .int 0]) (C := RX0) (T := TX0) (N := 14) hx hb hts (fun x h => List.mem_cons_of_mem _ (hU_X0 x h)) tyX0 tyX0_ok hown (hts _ (List.mem_cons_of_mem _ uC_238)) (hts _ (List.mem_cons_of_mem _ uC_159)) (hts _ (List.mem_cons_of_mem _ uC_73)) hE hS (show vwCl[0]? = some (RX0, TX0, 14) from rfl) (fun j hj => by rcases (show j = 0 ∨ j = 1 ∨ j = 2 ∨ j = 3 ∨ j = 4 ∨ j = 5 ∨ j = 6 ∨ j = 7 ∨ j = 8 ∨ j = 9 ∨ j = 10 ∨ j = 11 ∨ j = 12 ∨ j = 13 by omega) with rfl | rfl | rfl | rfl | rfl | rfl | rfl | rfl | rfl | rfl | rfl | rfl | rfl | rfl <;> rfl) (by show _ + 1 ≤ 36; omega) (by show _ + 14 ≤ 324; omega) dX6_init_5 (fun H_1 h_2 z1_ o1_ hS => ?_)
  rw [hz] at h_2 z1_ ⊢
  have kp_ : ∀ q, q < s.heap.size → q ≠ b + 1 → H_1[q]? = s.heap[q]? := fun q h _ => o1_ q h
  replace hthis := zn_A (b + 1) hthis kp_ (show b ≠ b + 1 by omega)
  replace hz : H_1.size = b + 2 := z1_
  clear kp_ z1_ o1_
  refine lv_dup hx hb dX6_init_8 rfl ?_
  have hXc : zST (fun q => b + 1 ≤ q) s H_1 := (hX0_.kept (fun a h1 h2 => hS.2.1 a h1 h2)).narrow (fun q h => Nat.le_trans (show b ≤ b + 1 by omega) h)
  refine zc_v (va_runIN (As := []) (rest := [.ref (b + 1), .ref b]) ⟨hx, hb, hml, hown, hts⟩ (c_X0_init l V (b + 1)) ⟨va_cnB 0 hts (zgB_ wsC_all uC_12) rfl rfl rfl (hE.2 (.methodLinkNest RX6 9 yX0_init "DrawerSlips") (List.mem_of_getElem? (i := 35) rfl)) (hts _ (List.mem_cons_of_mem _ uC_73)) (by decide +kernel) ⟨Nat.le_of_ble_eq_true rfl, Nat.le_of_ble_eq_true rfl⟩, rfl, (hts _ (List.mem_cons_of_mem _ uC_160))⟩ (zPsS (B := fun U => (U.heap.size = b + 1 + 1 ∧ va_at V.1 vwCl (b + 1, .inr (0, [.null, .null, .null, .int 0, .int 0, .int 0, .int 0, .int 0, .int 0, .int 0, .int 0, .int 0, .int 0, .int 0])) U.heap) ∧ zST (fun q => b + 1 ≤ q) U U.heap) (fun _ _ _ _ h => ⟨h.1, zST.calling h.2⟩) (fun U hU hvm => by rw [hU]; exact ⟨⟨hz, h_2⟩, hXc.moved hvm⟩) hE) rfl rfl hl.1 rfl (lv_room (Nat.le_of_ble_eq_true rfl)) dX6_init_9 ⟨(by show _ + 35 ≤ 36; omega), (by show _ + 310 ≤ 324; omega)⟩) hS (fun q h => Nat.le_trans (show b ≤ b + 1 by omega) h) (fun q h => Nat.le_trans (show b ≤ b + 1 by omega) h) (fun H_4 locs hQ_ hge_ hk_ hS => ?_)
  have kp_ : ∀ q, q < H_1.size → q ≠ b + 1 → H_4[q]? = H_1[q]? := fun q h h2 => hk_ q h (fun h3 => by have h3 : b + 1 ≤ q := h3; omega)
  replace hthis := zn_A (b + 1) hthis kp_ (show b ≠ b + 1 by omega)
  clear h_2 hz kp_ hge_ hk_
  obtain ⟨hz, harch_3⟩ := hQ_
  replace hz : H_4.size = b + 37 := hz
  refine zn_putF 0 (.ref (b + 1)) (.object "DrawerSlips$Archive") hx hb hts (fun x h => List.mem_cons_of_mem _ (hU_X6 x h)) tyX6 tyX6_ok nmX6 hown hE hthis (show b ≤ b by omega) hS (show vwCl[6]? = some (RX6, TX6, 2) from rfl) (by decide) (Nat.le_of_ble_eq_true rfl) rfl hin rfl (by decide +kernel) rfl rfl (hts _ (List.mem_cons_of_mem _ uC_239)) (fun _ h9 => h9) dX6_init_12 (fun H_5 locs hthis z1_ o1_ hS => ?_)
  have kp_ : ∀ q, q < H_4.size → q ≠ b → H_5[q]? = H_4[q]? := fun q _ h => o1_ q h
  replace harch_3 := zn_P (b) harch_3 kp_ (fun p hp => by have h_ := hA_rng (q := b + 1) hp; show hA_ (b + 1) p ≠ b; omega)
  replace hz : H_5.size = b + 37 := z1_.trans hz
  clear kp_ z1_ o1_
  replace hthis : va_at V.1 vwCl (b, .inr (6, [.ref (b + 1), .int 0])) H_5 := hthis
  refine W.widen (k := 36) (n := 324) (by omega) (by omega) ?_
  exact zr_v hx hb hr hlocks hS (⟨hz, hthis, harch_3⟩) dX6_init_15
set_option maxHeartbeats 4000000 in
set_option maxRecDepth 100000 in
theorem c_X1_init (l : Launch) (V : zV) (b : Nat) : Met l yX1_init wsX1_init (zR 3 253 2275) (zPs V [.ref b] (fun U => (U.heap.size = b + 1 ∧ va_at V.1 vwCl (b, .inr (1, [.null, .int 0, .int 0])) U.heap) ∧ (zST (fun q => b ≤ q) U U.heap ∧ va_AO RX0 U))) (zQv (fun H => H.size = b + 254 ∧ va_at V.1 vwCl (b, .inr (1, [.ref (b + 1), .int 0, .int 0])) H ∧ va_at V.1 vwCl (b + 1, .inl (V.2.2.2, 7, .inr (.inr (.inr (.inr (fun j => some (b + 2 + 36 * j))))))) H ∧ ∀ j, j < 7 → va_P V.1 vwCl (zaX V (hA_ (b + 2 + 36 * j)) zA0) H) (fun q => b ≤ q)) 253 2275 (fun q => b ≤ q) := by
  refine Met.ofW (cc := cX1_init) (maxL := 2) (ret := none) (by decide) rfl ?_
  intro p e s m args below meth c s₁ B hml hv
  obtain ⟨rfl, hP, hE⟩ := hv
  have hx := B.exec
  have hb := B.bytes
  have hr := B.returns
  have hts := atoms_spec (ws := wsX1_init) B.pre
  have hown : s.vm.findClass RX1 = some m.cls := findClass_of_methodNamed B.named
  have hlocks := B.notSynchronized
  have hl := lv_entry ([.ref b]) (n := 2) (Nat.le_of_ble_eq_true rfl)
  rw [lg_entry_eq]
  generalize (lg_sl ([.ref b]) ++ List.replicate (2 - (lg_sl ([.ref b])).length) Slot.unset).toArray = ls at hl ⊢
  have hl : lv_has ls 2 [(0, .ref b)] := hl
  have hin : meth.name = "<init>" := (name_of_methodNamed B.named B.method).1
  obtain ⟨⟨hz, hthis⟩, hX⟩ := hP
  have hS : va_S (fun q => b ≤ q) s.heap s.heap [] := va_S.rf
  obtain ⟨hX0_, hao⟩ := hX
  refine lv_aload_n hx hb dX1_init_0 rfl (lv_at hl 0 rfl) ?_
  refine W.objInit hx hb hown (hts _ (List.mem_cons_of_mem _ uC_156)) (hts _ (List.mem_cons_of_mem _ uC_2)) (hts _ (List.mem_cons_of_mem _ uC_3)) rfl (by rw [hml]; exact hl.1) rfl dX1_init_1 (Nat.le_of_ble_eq_true rfl) (Nat.le_of_ble_eq_true rfl) ?_
  refine W.eq (g2 := F0 m 4 ls []) rfl ?_
  refine lv_aload_n hx hb dX1_init_4 rfl (lv_at hl 0 rfl) ?_
  refine lv_bipush (v := 7) hx hb dX1_init_5 (by decide +kernel) ?_
  obtain ⟨kA_, comp_, hra1_, hra2_, hra3_, hra4_⟩ := (hE.1.2 2 _ rfl).2
  refine zn_newq (V := V) (n := 7) (cA := V.2.2.2) hx hb hown (hts _ (List.mem_cons_of_mem _ uC_157)) hao hra4_ hS (by decide) (by decide) (by show _ + 1 ≤ 253; omega) (by show _ + 7 ≤ 2275; omega) dX1_init_7 (fun H_1 h_2 z1_ o1_ hS => ?_)
  rw [hz] at h_2 z1_ ⊢
  have kp_ : ∀ q, q < s.heap.size → q ≠ b + 1 → H_1[q]? = s.heap[q]? := fun q h _ => o1_ q h
  replace hthis := zn_A (b + 1) hthis kp_ (show b ≠ b + 1 by omega)
  replace hz : H_1.size = b + 2 := z1_
  clear kp_ z1_ o1_
  refine zn_putF 0 (.ref (b + 1)) (.array (.object "DrawerSlips$Archive")) hx hb hts (fun x h => List.mem_cons_of_mem _ (hU_X1 x h)) tyX1 tyX1_ok nmX1 hown hE hthis (show b ≤ b by omega) hS (show vwCl[1]? = some (RX1, TX1, 3) from rfl) (by decide) (Nat.le_of_ble_eq_true rfl) rfl hin rfl (by decide +kernel) rfl rfl (hts _ (List.mem_cons_of_mem _ uC_158)) (fun _ h9 => h9) dX1_init_10 (fun H_3 locs hthis z1_ o1_ hS => ?_)
  have kp_ : ∀ q, q < H_1.size → q ≠ b → H_3[q]? = H_1[q]? := fun q _ h => o1_ q h
  replace h_2 := zn_A (b) h_2 kp_ (show b + 1 ≠ b by omega)
  replace hz : H_3.size = b + 2 := z1_.trans hz
  clear kp_ z1_ o1_
  replace hthis : va_at V.1 vwCl (b, .inr (1, [.ref (b + 1), .int 0, .int 0])) H_3 := hthis
  refine lv_iconst (v := 0) hx hb dX1_init_13 (by decide +kernel) ?_
  refine lv_istore_n (lv' := [(1, .int 0), (0, .ref b)]) hx hb dX1_init_14 rfl hl (by decide) rfl (fun ls hl => ?_)
  have L_15 : ∀ (n_ i : Nat) (f_ : Nat → Option Nat) (H : Heap) (locs : List Loc) (ls : Array Slot), i ≤ 7 → 7 + 1 ≤ i + n_ → H.size = b + 2 + 36 * i → va_at V.1 vwCl (b, .inr (1, [.ref (b + 1), .int 0, .int 0])) H → va_at V.1 vwCl (b + 1, .inl (V.2.2.2, 7, .inr (.inr (.inr (.inr f_))))) H → (∀ j, j < i → f_ j = some (b + 2 + 36 * j)) → (∀ j, j < i → va_P V.1 vwCl (zaX V (hA_ (b + 2 + 36 * j)) zA0) H) → va_S (fun q => b ≤ q) s.heap H locs → lv_has ls 2 [(1, .int (nI i)), (0, .ref b)] → W p l e (headSpec wsX1_init (zR 3 253 2275)).room s m (List.toArray [.ref b]) below meth c H locs (1 + 36 * i) (7 + 324 * i) (MQ below (zQv (fun H => H.size = b + 254 ∧ va_at V.1 vwCl (b, .inr (1, [.ref (b + 1), .int 0, .int 0])) H ∧ va_at V.1 vwCl (b + 1, .inl (V.2.2.2, 7, .inr (.inr (.inr (.inr (fun j => some (b + 2 + 36 * j))))))) H ∧ ∀ j, j < 7 → va_P V.1 vwCl (zaX V (hA_ (b + 2 + 36 * j)) zA0) H) (fun q => b ≤ q)) (List.toArray [.ref b]) s 253 2275 (fun q => b ≤ q)) (F0 m 15 ls []) := by
    intro n_
    induction n_ with
    | zero => intro i f_ H locs ls hi_ hn_; exact absurd hn_ (by omega)
    | succ n_ ih =>
      intro i f_ H locs ls hi_ hn_ hz hthis harr hf_ harchs hS hl
      refine lv_iload_n hx hb dX1_init_15 rfl (lv_at hl 0 rfl) ?_
      refine lv_aload_n hx hb dX1_init_16 rfl (lv_at hl 1 rfl) ?_
      refine zo_get 0 (.ref (b + 1)) hx hb hts (fun x h => List.mem_cons_of_mem _ (hU_X1 x h)) hown hE hthis (show vwCl[1]? = some (RX1, TX1, 3) from rfl) (by decide) rfl (hts _ (List.mem_cons_of_mem _ uC_158)) (fun _ h9 => h9) dX1_init_17 ?_
      refine va_alen hx hb hE.1 (zP1 harr) 0 2 rfl rfl rfl dX1_init_20 ?_
      refine zb_ge (x := i) (y := 7) (tgt := 43) hx hb dX1_init_21 (by decide) (by omega) (by omega) (fun c_21 => ?_) (fun c_21 => ?_)
      · obtain rfl : i = 7 := by omega
        have hz : H.size = b + 254 := hz
        have hl : lv_has ls 2 [(1, .int 7), (0, .ref b)] := hl
        refine W.widen (k := 253) (n := 2275) (by omega) (by omega) ?_
        exact zr_v hx hb hr hlocks hS (⟨hz, hthis, z_atq harr hf_, harchs⟩) dX1_init_43
      · refine lv_aload_n hx hb dX1_init_24 rfl (lv_at hl 1 rfl) ?_
        refine zo_get 0 (.ref (b + 1)) hx hb hts (fun x h => List.mem_cons_of_mem _ (hU_X1 x h)) hown hE hthis (show vwCl[1]? = some (RX1, TX1, 3) from rfl) (by decide) rfl (hts _ (List.mem_cons_of_mem _ uC_158)) (fun _ h9 => h9) dX1_init_25 ?_
        refine lv_iload_n hx hb dX1_init_28 rfl (lv_at hl 0 rfl) ?_
        refine zn_new (ci := 0) (fs := [.null, .null, .null, .int 0, .int 0, .int 0, .int 0, .int 0, .int 0, .int 0, .int 0, .int 0, .int 0, .int 0]) (C := RX0) (T := TX0) (N := 14) hx hb hts (fun x h => List.mem_cons_of_mem _ (hU_X0 x h)) tyX0 tyX0_ok hown (hts _ (List.mem_cons_of_mem _ uC_157)) (hts _ (List.mem_cons_of_mem _ uC_159)) (hts _ (List.mem_cons_of_mem _ uC_73)) hE hS (show vwCl[0]? = some (RX0, TX0, 14) from rfl) (fun j hj => by rcases (show j = 0 ∨ j = 1 ∨ j = 2 ∨ j = 3 ∨ j = 4 ∨ j = 5 ∨ j = 6 ∨ j = 7 ∨ j = 8 ∨ j = 9 ∨ j = 10 ∨ j = 11 ∨ j = 12 ∨ j = 13 by omega) with rfl | rfl | rfl | rfl | rfl | rfl | rfl | rfl | rfl | rfl | rfl | rfl | rfl | rfl <;> rfl) (by show _ + 1 ≤ 253; omega) (by show _ + 14 ≤ 2275; omega) dX1_init_29 (fun H_4 h_5 z1_ o1_ hS => ?_)
        rw [hz] at h_5 z1_ ⊢
        have kp_ : ∀ q, q < H.size → q ≠ b + 2 + 36 * i → H_4[q]? = H[q]? := fun q h _ => o1_ q h
        replace hthis := zn_A (b + 2 + 36 * i) hthis kp_ (show b ≠ b + 2 + 36 * i by omega)
        replace harr := zn_A (b + 2 + 36 * i) harr kp_ (show b + 1 ≠ b + 2 + 36 * i by omega)
        replace harchs := (fun j hj => zn_P (b + 2 + 36 * i) (harchs j hj) kp_ (fun p hp => by have h_ := hA_rng (q := b + 2 + 36 * j) hp; show hA_ (b + 2 + 36 * j) p ≠ b + 2 + 36 * i; omega))
        replace hz : H_4.size = b + 2 + 36 * i + 1 := z1_
        clear kp_ z1_ o1_
        refine lv_dup hx hb dX1_init_32 rfl ?_
        have hXc : zST (fun q => b + 2 + 36 * i ≤ q) s H_4 := (hX0_.kept (fun a h1 h2 => hS.2.1 a h1 h2)).narrow (fun q h => Nat.le_trans (show b ≤ b + 2 + 36 * i by omega) h)
        refine zc_v (va_runIN (As := []) (rest := [.ref (b + 2 + 36 * i), .int (nI i), .ref (b + 1)]) ⟨hx, hb, hml, hown, hts⟩ (c_X0_init l V (b + 2 + 36 * i)) ⟨va_cnB 0 hts (zgB_ wsC_all uC_12) rfl rfl rfl (hE.2 (.methodLinkNest RX1 15 yX0_init "DrawerSlips") (List.mem_of_getElem? (i := 33) rfl)) (hts _ (List.mem_cons_of_mem _ uC_73)) (by decide +kernel) ⟨Nat.le_of_ble_eq_true rfl, Nat.le_of_ble_eq_true rfl⟩, rfl, (hts _ (List.mem_cons_of_mem _ uC_160))⟩ (zPsS (B := fun U => (U.heap.size = b + 2 + 36 * i + 1 ∧ va_at V.1 vwCl (b + 2 + 36 * i, .inr (0, [.null, .null, .null, .int 0, .int 0, .int 0, .int 0, .int 0, .int 0, .int 0, .int 0, .int 0, .int 0, .int 0])) U.heap) ∧ zST (fun q => b + 2 + 36 * i ≤ q) U U.heap) (fun _ _ _ _ h => ⟨h.1, zST.calling h.2⟩) (fun U hU hvm => by rw [hU]; exact ⟨⟨hz, h_5⟩, hXc.moved hvm⟩) hE) rfl rfl hl.1 rfl (lv_room (Nat.le_of_ble_eq_true rfl)) dX1_init_33 ⟨(by show _ + 35 ≤ 253; omega), (by show _ + 310 ≤ 2275; omega)⟩) hS (fun q h => Nat.le_trans (show b ≤ b + 2 + 36 * i by omega) h) (fun q h => Nat.le_trans (show b ≤ b + 2 + 36 * i by omega) h) (fun H_7 locs hQ_ hge_ hk_ hS => ?_)
        have kp_ : ∀ q, q < H_4.size → q ≠ b + 2 + 36 * i → H_7[q]? = H_4[q]? := fun q h h2 => hk_ q h (fun h3 => by have h3 : b + 2 + 36 * i ≤ q := h3; omega)
        replace hthis := zn_A (b + 2 + 36 * i) hthis kp_ (show b ≠ b + 2 + 36 * i by omega)
        replace harr := zn_A (b + 2 + 36 * i) harr kp_ (show b + 1 ≠ b + 2 + 36 * i by omega)
        replace harchs := (fun j hj => zn_P (b + 2 + 36 * i) (harchs j hj) kp_ (fun p hp => by have h_ := hA_rng (q := b + 2 + 36 * j) hp; show hA_ (b + 2 + 36 * j) p ≠ b + 2 + 36 * i; omega))
        clear h_5 hz kp_ hge_ hk_
        obtain ⟨hz, harch_6⟩ := hQ_
        replace hz : H_7.size = b + 2 + 36 * i + 36 := hz
        have hv_ : va_at V.1 vwCl (b + 2 + 36 * i, .inr (0, zaO (hA_ (b + 2 + 36 * i)) (fun _ => 0))) H_7 := za_o harch_6
        refine zn_aast (i := i) hx hb hE harr (hE.1.2 2 _ rfl).2 hv_ (show vwCl[0]? = some (RX0, TX0, 14) from rfl) (show b ≤ b + 1 by omega) hS (by omega) (by decide) dX1_init_36 (fun H_8 locs hn_ z1_ o1_ hS => ?_)
        have kp_ : ∀ q, q < H_7.size → q ≠ b + 1 → H_8[q]? = H_7[q]? := fun q _ h => o1_ q h
        replace hthis := zn_A (b + 1) hthis kp_ (show b ≠ b + 1 by omega)
        replace harchs := (fun j hj => zn_P (b + 1) (harchs j hj) kp_ (fun p hp => by have h_ := hA_rng (q := b + 2 + 36 * j) hp; show hA_ (b + 2 + 36 * j) p ≠ b + 1; omega))
        replace harch_6 := zn_P (b + 1) harch_6 kp_ (fun p hp => by have h_ := hA_rng (q := b + 2 + 36 * i) hp; show hA_ (b + 2 + 36 * i) p ≠ b + 1; omega)
        replace harr := hn_
        replace hz : H_8.size = b + 2 + 36 * i + 36 := z1_.trans hz
        clear kp_ z1_ o1_
        refine lv_iinc (v := nI (i + 1)) (lv' := [(1, .int (nI (i + 1))), (0, .ref b)]) hx hb dX1_init_37 hl (k := 0) rfl (z_inc1 i) (by decide) rfl (fun ls hl => ?_)
        refine lv_goto (tgt := 15) hx hb dX1_init_40 (by decide) ?_
        refine W.widen (k := 1 + 36 * (i + 1)) (n := 7 + 324 * (i + 1)) (by omega) (by omega) ?_
        exact ih (i + 1) _ H_8 locs ls (by omega) (by omega) (by omega) hthis harr (fun j hj => by
          by_cases e_ : j = i
          · subst e_; exact zUp_s _ _ _
          · rw [zUp_n _ _ e_]; exact hf_ j (by omega)) (fun j hj => by
          by_cases e_ : j = i
          · subst e_; exact harch_6
          · exact harchs j (by omega)) hS (lv_sub hl [0, 1] rfl)
  refine W.widen (k := 1 + 36 * 0) (n := 7 + 324 * 0) (by omega) (by omega) ?_
  exact L_15 (7 + 1) 0 _ H_3 locs ls (by omega) (by omega) hz hthis h_2 (fun j hj => absurd hj (by omega)) (fun j hj => absurd hj (by omega)) hS (lv_sub hl [0, 1] rfl)
def off_ (b j : Nat) : Nat := if j = 0 then b + 1 else if j = 1 then b + 37 else if j < 9 then b + 75 + 36 * (j - 2) else if j = 9 then b + 328 else b + 365
def hG_ (b q : Nat) : Nat := if q < 396 then hA_ (off_ b (q / 36)) (q % 36) else if q = 396 then b + 401 else if q = 397 then b + 402 else if q = 398 then b + 403 else if q = 399 then b else if q = 400 then b + 73 else if q = 401 then b + 74 else if q = 402 then b + 327 else b + 364
theorem off_mono {b i j : Nat} (h : i < j) (hj : j < 11) : off_ b i + 36 ≤ off_ b j := by
  have h1 : ∀ k, k < 10 → off_ b k + 36 ≤ off_ b (k + 1) := fun k hk => by
    rcases (show k = 0 ∨ k = 1 ∨ k = 2 ∨ k = 3 ∨ k = 4 ∨ k = 5 ∨ k = 6 ∨ k = 7 ∨ k = 8 ∨ k = 9 by omega) with rfl | rfl | rfl | rfl | rfl | rfl | rfl | rfl | rfl | rfl <;> (unfold off_; simp)
  have h2 : ∀ d, i + 1 + d < 11 → off_ b i + 36 ≤ off_ b (i + 1 + d) := by
    intro d
    induction d with
    | zero => intro hd; exact h1 i (by omega)
    | succ d ih =>
      intro hd
      have h3 := ih (by omega)
      have h4 := h1 (i + 1 + d) (by omega)
      rw [show i + 1 + (d + 1) = i + 1 + d + 1 by omega]
      omega
  have := h2 (j - (i + 1)) (by omega)
  rw [show i + 1 + (j - (i + 1)) = j by omega] at this
  exact this
theorem hG_a {b j i : Nat} (hj : j < 11) (hi : i < 36) : gA (hG_ b) j i = hA_ (off_ b j) i := by
  unfold gA hG_
  rw [if_pos (by omega), show (36 * j + i) / 36 = j by omega, show (36 * j + i) % 36 = i by omega]
theorem hG_m (b : Nat) : gQ (hG_ b) 0 = b + 401 ∧ gQ (hG_ b) 1 = b + 402 ∧ gQ (hG_ b) 2 = b + 403 ∧ gM (hG_ b) 0 = b ∧ gM (hG_ b) 1 = b + 73 ∧ gM (hG_ b) 2 = b + 74 ∧ gM (hG_ b) 3 = b + 327 ∧ gM (hG_ b) 4 = b + 364 := by
  unfold gQ gM hG_
  simp
/-- where a cell of the whole lies: in an archive's stretch, or apart -/
theorem hG_lo {b q : Nat} (h : q < 396) : ∃ j i, j < 11 ∧ i < 36 ∧ q = 36 * j + i ∧ hG_ b q = hA_ (off_ b j) i := ⟨q / 36, q % 36, by omega, by omega, by omega, by unfold hG_; rw [if_pos h]⟩
theorem hG_hi {b q : Nat} (h1 : 396 ≤ q) (h2 : q < 404) : (q = 396 ∧ hG_ b q = b + 401) ∨ (q = 397 ∧ hG_ b q = b + 402) ∨ (q = 398 ∧ hG_ b q = b + 403) ∨ (q = 399 ∧ hG_ b q = b) ∨ (q = 400 ∧ hG_ b q = b + 73) ∨ (q = 401 ∧ hG_ b q = b + 74) ∨ (q = 402 ∧ hG_ b q = b + 327) ∨ (q = 403 ∧ hG_ b q = b + 364) := by
  unfold hG_
  rcases (show q = 396 ∨ q = 397 ∨ q = 398 ∨ q = 399 ∨ q = 400 ∨ q = 401 ∨ q = 402 ∨ q = 403 by omega) with rfl | rfl | rfl | rfl | rfl | rfl | rfl | rfl <;> simp
theorem off_free {b j i : Nat} (hj : j < 11) (hi : i < 36) : hA_ (off_ b j) i ≠ b ∧ hA_ (off_ b j) i ≠ b + 73 ∧ hA_ (off_ b j) i ≠ b + 74 ∧ hA_ (off_ b j) i ≠ b + 327 ∧ hA_ (off_ b j) i ≠ b + 364 ∧ hA_ (off_ b j) i < b + 401 ∧ b ≤ hA_ (off_ b j) i := by
  have h1 := hA_rng (q := off_ b j) hi
  have h2 : off_ b j = b + 1 + 36 * j ∧ j < 2 ∨ off_ b j = b + 3 + 36 * j ∧ 2 ≤ j ∧ j < 9 ∨ off_ b j = b + 4 + 36 * j ∧ j = 9 ∨ off_ b j = b + 5 + 36 * j ∧ j = 10 := by
    unfold off_
    rcases (show j = 0 ∨ j = 1 ∨ j = 2 ∨ j = 3 ∨ j = 4 ∨ j = 5 ∨ j = 6 ∨ j = 7 ∨ j = 8 ∨ j = 9 ∨ j = 10 by omega) with rfl | rfl | rfl | rfl | rfl | rfl | rfl | rfl | rfl | rfl | rfl <;> simp
  omega
theorem hG_inj (b : Nat) : zInj 404 (hG_ b) := fun x y hx hy e => by
  rcases Nat.lt_or_ge x 396 with h1 | h1
  · obtain ⟨j, i, hj, hi, ex, e1⟩ := hG_lo (b := b) h1
    have f1 := off_free (b := b) hj hi
    rcases Nat.lt_or_ge y 396 with h2 | h2
    · obtain ⟨j2, i2, hj2, hi2, ey, e2⟩ := hG_lo (b := b) h2
      rw [e1, e2] at e
      have r1 := hA_rng (q := off_ b j) hi
      have r2 := hA_rng (q := off_ b j2) hi2
      rcases Nat.lt_trichotomy j j2 with g | g | g
      · have := off_mono (b := b) g hj2; omega
      · subst g
        have := hA_inj (off_ b j) i i2 hi hi2 e
        omega
      · have := off_mono (b := b) g hj; omega
    · rcases hG_hi (b := b) h2 hy with g | g | g | g | g | g | g | g <;> omega
  · rcases Nat.lt_or_ge y 396 with h2 | h2
    · obtain ⟨j2, i2, hj2, hi2, ey, e2⟩ := hG_lo (b := b) h2
      have f1 := off_free (b := b) hj2 hi2
      rcases hG_hi (b := b) h1 hx with g | g | g | g | g | g | g | g <;> omega
    · rcases hG_hi (b := b) h1 hx with g | g | g | g | g | g | g | g <;> rcases hG_hi (b := b) h2 hy with g2 | g2 | g2 | g2 | g2 | g2 | g2 | g2 <;> omega
theorem hG_ge {b q : Nat} (h : q < 404) : b ≤ hG_ b q := by
  rcases Nat.lt_or_ge q 396 with h1 | h1
  · obtain ⟨j, i, hj, hi, ex, e1⟩ := hG_lo (b := b) h1
    have f1 := off_free (b := b) hj hi
    omega
  · rcases hG_hi (b := b) h1 h with g | g | g | g | g | g | g | g <;> omega
