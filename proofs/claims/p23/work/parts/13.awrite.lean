theorem zUp_up {α : Type} (f : Nat → α) (k : Nat) (x y : α) : va_up (va_up f k x) k y = va_up f k y := by
  funext j
  by_cases hj : j = k
  · subst hj; rw [zUp_s, zUp_s]
  · rw [zUp_n _ _ hj, zUp_n _ _ hj, zUp_n _ _ hj]
def kCount (F : Nat → Int32) (wr more : Int32) : Nat → Int32 := if wr = 1 then upd F 4 (F 4 + more) else upd F 3 (F 3 + more)
def kBegin (F : Nat → Int32) (x : Int32) : Nat → Int32 := if x = 1 then upd (upd (upd (upd F 10 (F 10 + 1)) 11 x) 12 0) 13 0 else if 0 < F 4 then upd (upd (upd (upd F 10 (F 10 + 1)) 11 x) 12 0) 13 (F 13 + 1) else upd (upd (upd F 10 (F 10 + 1)) 11 x) 12 0
section ZK2
variable {p : Program} {l : Launch} {e : Env} {R : Room} {s : State} {m : MethodId} {args : Array Value} {below : List Frame} {meth : Method} {c : Code} {H : Heap} {locs : List Loc} {cells slots : Nat} {Q : State → Prop}
variable {pc : Nat} {ls : Array Slot} {rest st0 : List Value} {a : Array Value} {cc : ByteArray} {H0 : Heap}
variable {V : zV} {h : Nat → Nat} {F T : Nat → Int32} {lv : Int32} {Ga Gb Gc : Nat → Int32} {P : Nat → Nat → Int32}
theorem za_slip2 {i : Nat} {f : Nat → Int32} (hP : va_P V.1 vwCl (zaW V h F T lv Ga Gb Gc (va_up P i f)) H) (hi : i < 30) : va_at V.1 vwCl (h (i + 6), .inr (5, zsO (zch h (i + 1)) f)) H := by
  have h1 := za_slip hP hi
  rw [zUp_s] at h1
  exact h1
theorem za_put {own ref : String} {index : Nat} {Ts : List Cond} (k : Nat) (x : Int32) (hx : p.tables.exec = Jvm.exec) (hb : c.code = cc) (hts : ∀ w ∈ Ts, w.before args s = true) (hin : ∀ w ∈ u_ws RX0 TX0 14, w ∈ Ts) (hown : s.vm.findClass own = some m.cls) (hE : zE V s) (hP : va_P V.1 vwCl (zaW V h F T lv Ga Gb Gc P) H) (hJ : zInj 36 h) (hS : va_S (zIn 36 h) H0 H locs) (hk : k < 14) (hset : (zaO h F).set k (.int x) = zaO h (upd F k x)) (hfin : (TX0 k).2.2.2 = false) (hd : parseFieldDescriptor (TX0 k).2.2.1 = some .int) (hlink : (Cond.fieldLink own index ref (TX0 k).2.1 (TX0 k).2.2.1).before args s = true) (hsame : ∀ x, s.fieldFound? (TX0 k).1 (TX0 k).2.1 (TX0 k).2.2.1 = some x → s.fieldFound? ref (TX0 k).2.1 (TX0 k).2.2.1 = some x) (hdg : decode cc pc = .ok (.putfield index, 3))
    (kk : ∀ (H1 : Heap) (locs1 : List Loc), va_P V.1 vwCl (zaW V h (upd F k x) T lv Ga Gb Gc P) H1 → va_S (zIn 36 h) H0 H1 locs1 → W p l e R s m args below meth c H1 locs1 cells slots Q (F0 m (pc + 3) ls rest)) : W p l e R s m args below meth c H locs cells slots Q (F0 m pc ls (.int x :: .ref (h 0) :: rest)) :=
  zo_put (C := RX0) (T := TX0) (N := 14) (p0 := 0) k (.int x) .int hx hb hts hin tyX0 tyX0_ok nmX0 hown hE hP (zD hJ) hS (za_c0 V h F T lv Ga Gb Gc P) rfl hk hk hfin hd rfl rfl hlink hsame hdg (fun H1 l1 h1 h3 => kk H1 l1 (by rw [hset, za_s0] at h1; exact h1) h3)
theorem za_putsN {own ref host : String} {index : Nat} {Ts : List Cond} (i k : Nat) (x : Int32) (ty : FieldType) {f : Nat → Int32} {P0 : Nat → Nat → Int32} (hf : P i = f) (hq : ∀ g, va_up P i g = va_up P0 i g) (hx : p.tables.exec = Jvm.exec) (hb : c.code = cc) (hts : ∀ w ∈ Ts, w.before args s = true) (hin : ∀ w ∈ u_ws RX5 TX5 8, w ∈ Ts) (hown : s.vm.findClass own = some m.cls) (hE : zE V s) (hP : va_P V.1 vwCl (zaW V h F T lv Ga Gb Gc P) H) (hJ : zInj 36 h) (hS : va_S (zIn 36 h) H0 H locs) (hi : i < 30) (hk : k < 8) (hset : (zsO (zch h (i + 1)) f).set k (.int x) = zsO (zch h (i + 1)) (upd f k x)) (hfin : (TX5 k).2.2.2 = false) (hd : parseFieldDescriptor (TX5 k).2.2.1 = some ty) (hn : narrow ty (.int x) = .int x) (hfit : fits ty (.int x) = true) (hlink : Cond.fieldLinkNest own index ref (TX5 k).2.1 (TX5 k).2.2.1 host ∈ zNW) (hsame : ∀ x, s.fieldFound? (TX5 k).1 (TX5 k).2.1 (TX5 k).2.2.1 = some x → s.fieldFound? ref (TX5 k).2.1 (TX5 k).2.2.1 = some x) (hdg : decode cc pc = .ok (.putfield index, 3))
    (kk : ∀ (H1 : Heap) (locs1 : List Loc), va_P V.1 vwCl (zaW V h F T lv Ga Gb Gc (va_up P0 i (upd f k x))) H1 → va_S (zIn 36 h) H0 H1 locs1 → W p l e R s m args below meth c H1 locs1 cells slots Q (F0 m (pc + 3) ls rest)) : W p l e R s m args below meth c H locs cells slots Q (F0 m pc ls (.int x :: .ref (h (i + 6)) :: rest)) := by
  subst hf
  exact zo_putN (C := RX5) (T := TX5) (N := 8) (p0 := i + 6) k (.int x) ty hx hb hts hin tyX5 tyX5_ok nmX5 hown hE hP (zD hJ) hS (za_cs V h F T lv Ga Gb Gc P hi) rfl hk hk hfin hd hn hfit hlink hsame hdg (fun H1 l1 h1 h3 => kk H1 l1 (by rw [hset, za_ss _ _ _ _ _ _ _ _ _ hi, hq] at h1; exact h1) h3)
theorem za_putT {k : Nat} {x : Int32} (hx : p.tables.exec = Jvm.exec) (hb : c.code = cc) (hE : zE V s) (hP : va_P V.1 vwCl (zaW V h F T lv Ga Gb Gc P) H) (hJ : zInj 36 h) (hS : va_S (zIn 36 h) H0 H locs) (hk : k < 6) (hdg : decode cc pc = .ok (.iastore, 1))
    (kk : ∀ (H1 : Heap) (locs1 : List Loc), va_P V.1 vwCl (zaW V h F (upd T k x) lv Ga Gb Gc P) H1 → va_S (zIn 36 h) H0 H1 locs1 → W p l e R s m args below meth c H1 locs1 cells slots Q (F0 m (pc + 1) ls rest)) : W p l e R s m args below meth c H locs cells slots Q (F0 m pc ls (.int x :: .int (nI k) :: .ref (h 1) :: rest)) :=
  z_iast hx hb hE hP (zD hJ) hS 1 (za_c1 V h F T lv Ga Gb Gc P) hk (by decide) hdg (fun H1 l1 h1 h3 => kk H1 l1 (by rw [za_s1] at h1; exact h1) h3)
end ZK2
theorem za_x {V : zV} {h : Nat → Nat} {F T : Nat → Int32} {lv : Int32} {Ga Gb Gc : Nat → Int32} {P : Nat → Nat → Int32} {H : Heap} (F' T' : Nat → Int32) (lv' : Int32) (Ga' Gb' Gc' : Nat → Int32) (P' : Nat → Nat → Int32) (hF : ∀ j, 3 ≤ j → j < 14 → F j = F' j) (hT : ∀ j, j < 6 → T j = T' j) (hv : lv = lv') (ha : ∀ j, j < 20 → Ga j = Ga' j) (hb : ∀ j, j < 20 → Gb j = Gb' j) (hc : ∀ j, j < 20 → Gc j = Gc' j) (hp : ∀ i, i < 30 → ∀ j, 1 ≤ j → j < 8 → P i j = P' i j) (hP : va_P V.1 vwCl (zaW V h F T lv Ga Gb Gc P) H) : va_P V.1 vwCl (zaW V h F' T' lv' Ga' Gb' Gc' P') H := by
  subst hv
  refine zP_mk (fun q hq => ?_)
  have h1 := zP_at hP hq
  match q, hq, h1 with
  | 0, _, h1 =>
    have e : zaO h F = zaO h F' := by
      unfold zaO
      rw [hF 3 (by decide) (by decide), hF 4 (by decide) (by decide), hF 5 (by decide) (by decide), hF 6 (by decide) (by decide), hF 7 (by decide) (by decide), hF 8 (by decide) (by decide), hF 9 (by decide) (by decide), hF 10 (by decide) (by decide), hF 11 (by decide) (by decide), hF 12 (by decide) (by decide), hF 13 (by decide) (by decide)]
    show va_at V.1 vwCl (h 0, .inr (0, zaO h F')) H
    rw [← e]
    exact h1
  | 1, _, h1 => exact z_atx h1 hT
  | 2, _, h1 => exact h1
  | 3, _, h1 => exact z_atx h1 ha
  | 4, _, h1 => exact z_atx h1 hb
  | 5, _, h1 => exact z_atx h1 hc
  | i + 6, hq, h1 =>
    have hi : i < 30 := by omega
    have e : zsO (zch h (i + 1)) (P i) = zsO (zch h (i + 1)) (P' i) := by
      unfold zsO
      rw [hp i hi 1 (by decide) (by decide), hp i hi 2 (by decide) (by decide), hp i hi 3 (by decide) (by decide), hp i hi 4 (by decide) (by decide), hp i hi 5 (by decide) (by decide), hp i hi 6 (by decide) (by decide), hp i hi 7 (by decide) (by decide)]
    show va_at V.1 vwCl (h (i + 6), .inr (5, zsO (zch h (i + 1)) (P' i))) H
    rw [← e]
    exact h1
set_option maxHeartbeats 4000000 in
set_option maxRecDepth 100000 in
theorem c_X0_countWaiting (l : Launch) (V : zV) (h : Nat → Nat) (F T : Nat → Int32) (lv : Int32) (Ga Gb Gc : Nat → Int32) (P : Nat → Nat → Int32) (wr more : Int32) (hJ : zInj 36 h) : Met l yX0_countWaiting wsX0_countWaiting (zR 0 0 0) (zPc V [.ref (h 0), .int wr, .int more] (fun H => va_P V.1 vwCl (zaW V h F T lv Ga Gb Gc P) H)) (zQv (fun H => va_P V.1 vwCl (zaW V h (kCount F wr more) T lv Ga Gb Gc P) H) (zIn 36 h)) 0 0 (zIn 36 h) := by
  refine Met.ofW (cc := cX0_countWaiting) (maxL := 3) (ret := none) (by decide) rfl ?_
  intro p e s m args below meth c s₁ B hml hv
  obtain ⟨rfl, hP, hE⟩ := hv
  have hx := B.exec
  have hb := B.bytes
  have hr := B.returns
  have hts := atoms_spec (ws := wsX0_countWaiting) B.pre
  have hown : s.vm.findClass RX0 = some m.cls := findClass_of_methodNamed B.named
  have hlocks := B.notSynchronized
  have hl := lv_entry ([.ref (h 0), .int wr, .int more]) (n := 3) (Nat.le_of_ble_eq_true rfl)
  rw [lg_entry_eq]
  generalize (lg_sl ([.ref (h 0), .int wr, .int more]) ++ List.replicate (3 - (lg_sl ([.ref (h 0), .int wr, .int more])).length) Slot.unset).toArray = ls at hl ⊢
  have hl : lv_has ls 3 [(0, .ref (h 0)), (1, .int wr), (2, .int more)] := hl
  have hS : va_S (zIn 36 h) s.heap s.heap [] := va_S.rf
  refine lv_iload_n hx hb dX0_countWaiting_0 rfl (lv_at hl 1 rfl) ?_
  refine lv_iconst (v := 1) hx hb dX0_countWaiting_1 (by decide +kernel) ?_
  refine lv_icmp_ne (tgt := 18) hx hb dX0_countWaiting_2 (by decide) (fun c_2 => ?_) (fun c_2 => ?_)
  · refine lv_aload_n hx hb dX0_countWaiting_18 rfl (lv_at hl 0 rfl) ?_
    refine lv_dup hx hb dX0_countWaiting_19 rfl ?_
    refine zo_get 3 (.int (F 3)) hx hb hts (fun x h => List.mem_cons_of_mem _ (hU_X0 x h)) hown hE (za_o hP) (show vwCl[0]? = some (RX0, TX0, 14) from rfl) (by decide) rfl (hts _ (List.mem_cons_of_mem _ uC_38)) (fun _ h9 => h9) dX0_countWaiting_20 ?_
    refine lv_iload_n hx hb dX0_countWaiting_23 rfl (lv_at hl 2 rfl) ?_
    refine lv_iadd hx hb dX0_countWaiting_24 ?_
    refine za_put 3 ((F 3) + more) hx hb hts (fun x h => List.mem_cons_of_mem _ (hU_X0 x h)) hown hE hP hJ hS (by decide) rfl rfl (by decide +kernel) (hts _ (List.mem_cons_of_mem _ uC_38)) (fun _ h9 => h9) dX0_countWaiting_25 (fun H locs hP hS => ?_)
    exact zr_v hx hb hr hlocks hS (by rw [kCount, if_neg c_2]; exact hP) dX0_countWaiting_28
  · refine lv_aload_n hx hb dX0_countWaiting_5 rfl (lv_at hl 0 rfl) ?_
    refine lv_dup hx hb dX0_countWaiting_6 rfl ?_
    refine zo_get 4 (.int (F 4)) hx hb hts (fun x h => List.mem_cons_of_mem _ (hU_X0 x h)) hown hE (za_o hP) (show vwCl[0]? = some (RX0, TX0, 14) from rfl) (by decide) rfl (hts _ (List.mem_cons_of_mem _ uC_39)) (fun _ h9 => h9) dX0_countWaiting_7 ?_
    refine lv_iload_n hx hb dX0_countWaiting_10 rfl (lv_at hl 2 rfl) ?_
    refine lv_iadd hx hb dX0_countWaiting_11 ?_
    refine za_put 4 ((F 4) + more) hx hb hts (fun x h => List.mem_cons_of_mem _ (hU_X0 x h)) hown hE hP hJ hS (by decide) rfl rfl (by decide +kernel) (hts _ (List.mem_cons_of_mem _ uC_39)) (fun _ h9 => h9) dX0_countWaiting_12 (fun H locs hP hS => ?_)
    refine lv_goto (tgt := 28) hx hb dX0_countWaiting_15 (by decide) ?_
    exact zr_v hx hb hr hlocks hS (by rw [kCount, if_pos c_2]; exact hP) dX0_countWaiting_28
set_option maxHeartbeats 4000000 in
set_option maxRecDepth 100000 in
theorem c_X0_remove (l : Launch) (V : zV) (h : Nat → Nat) (F T : Nat → Int32) (lv : Int32) (Ga Gb Gc : Nat → Int32) (P : Nat → Nat → Int32) (k : Nat) (hJ : zInj 36 h) (hk : k < 30) : Met l yX0_remove wsX0_remove (zR 1 0 0) (zPc V [.ref (h 0), .ref (h (k + 6))] (fun H => va_P V.1 vwCl (zaW V h F T lv Ga Gb Gc P) H)) (zQv (fun H => va_P V.1 vwCl (zaW V h (kCount F (P k 3) (-1)) T lv Ga Gb Gc (va_up P k (upd (P k) 1 0))) H) (zIn 36 h)) 0 0 (zIn 36 h) := by
  refine Met.ofW (cc := cX0_remove) (maxL := 2) (ret := none) (by decide) rfl ?_
  intro p e s m args below meth c s₁ B hml hv
  obtain ⟨rfl, hP, hE⟩ := hv
  have hx := B.exec
  have hb := B.bytes
  have hr := B.returns
  have hts := atoms_spec (ws := wsX0_remove) B.pre
  have hown : s.vm.findClass RX0 = some m.cls := findClass_of_methodNamed B.named
  have hlocks := B.notSynchronized
  have hl := lv_entry ([.ref (h 0), .ref (h (k + 6))]) (n := 2) (Nat.le_of_ble_eq_true rfl)
  rw [lg_entry_eq]
  generalize (lg_sl ([.ref (h 0), .ref (h (k + 6))]) ++ List.replicate (2 - (lg_sl ([.ref (h 0), .ref (h (k + 6))])).length) Slot.unset).toArray = ls at hl ⊢
  have hl : lv_has ls 2 [(0, .ref (h 0)), (1, .ref (h (k + 6)))] := hl
  have hS : va_S (zIn 36 h) s.heap s.heap [] := va_S.rf
  refine lv_aload_n hx hb dX0_remove_0 rfl (lv_at hl 1 rfl) ?_
  refine lv_iconst (v := 0) hx hb dX0_remove_1 (by decide +kernel) ?_
  refine za_putsN (P0 := P) (f := P k) k 1 0 .boolean rfl (fun _ => rfl) hx hb hts (fun x h => List.mem_cons_of_mem _ (hU_X5 x h)) hown hE hP hJ hS (by omega) (by decide) rfl rfl (by decide +kernel) rfl rfl (List.mem_of_getElem? (i := 3) rfl) (fun _ h9 => h9) dX0_remove_2 (fun H locs hP hS => ?_)
  refine lv_aload_n hx hb dX0_remove_5 rfl (lv_at hl 0 rfl) ?_
  refine lv_aload_n hx hb dX0_remove_6 rfl (lv_at hl 1 rfl) ?_
  refine zo_getN 3 (.int ((upd (P k) 1 0) 3)) hx hb hts (fun x h => List.mem_cons_of_mem _ (hU_X5 x h)) hown hE (za_slip2 (i := k) hP (by omega)) (show vwCl[5]? = some (RX5, TX5, 8) from rfl) (by decide) rfl (List.mem_of_getElem? (i := 6) rfl) (fun _ h9 => h9) dX0_remove_7 ?_
  refine lv_iconst (v := (-1)) hx hb dX0_remove_10 (by decide +kernel) ?_
  refine zc_v (va_runV (As := [.int ((upd (P k) 1 0) 3), .int (-1)]) (rest := []) ⟨hx, hb, hml, hown, hts⟩ (c_X0_countWaiting l V h F T lv Ga Gb Gc (va_up P k (upd (P k) 1 0)) ((upd (P k) 1 0) 3) (-1) hJ) (cwV 2 hts (zgV_ wsC_all uC_67 uC_77 uC_78 uC_79 uC_73) rfl rfl rfl (by decide +kernel) ⟨Nat.le_of_ble_eq_true rfl, Nat.le_of_ble_eq_true rfl⟩) (zPreV (B := fun H => va_P V.1 vwCl (zaW V h F T lv Ga Gb Gc (va_up P k (upd (P k) 1 0))) H) hP hE (za_ro hE hP)) rfl rfl hl.1 rfl (lv_room (Nat.le_of_ble_eq_true rfl)) dX0_remove_11 ⟨Nat.le_of_ble_eq_true rfl, Nat.le_of_ble_eq_true rfl⟩) hS (fun _ h => h) (fun _ h => h) (fun H locs hP _ _ hS => ?_)
  exact zr_v hx hb hr hlocks hS hP dX0_remove_14
set_option maxHeartbeats 4000000 in
set_option maxRecDepth 100000 in
theorem c_X0_beginBatch (l : Launch) (V : zV) (h : Nat → Nat) (F T : Nat → Int32) (lv : Int32) (Ga Gb Gc : Nat → Int32) (P : Nat → Nat → Int32) (x : Int32) (hJ : zInj 36 h) : Met l yX0_beginBatch wsX0_beginBatch (zR 0 0 0) (zPc V [.ref (h 0), .int x] (fun H => va_P V.1 vwCl (zaW V h F T lv Ga Gb Gc P) H)) (zQv (fun H => va_P V.1 vwCl (zaW V h (kBegin F x) T lv Ga Gb Gc P) H) (zIn 36 h)) 0 0 (zIn 36 h) := by
  refine Met.ofW (cc := cX0_beginBatch) (maxL := 2) (ret := none) (by decide) rfl ?_
  intro p e s m args below meth c s₁ B hml hv
  obtain ⟨rfl, hP, hE⟩ := hv
  have hx := B.exec
  have hb := B.bytes
  have hr := B.returns
  have hts := atoms_spec (ws := wsX0_beginBatch) B.pre
  have hown : s.vm.findClass RX0 = some m.cls := findClass_of_methodNamed B.named
  have hlocks := B.notSynchronized
  have hl := lv_entry ([.ref (h 0), .int x]) (n := 2) (Nat.le_of_ble_eq_true rfl)
  rw [lg_entry_eq]
  generalize (lg_sl ([.ref (h 0), .int x]) ++ List.replicate (2 - (lg_sl ([.ref (h 0), .int x])).length) Slot.unset).toArray = ls at hl ⊢
  have hl : lv_has ls 2 [(0, .ref (h 0)), (1, .int x)] := hl
  have hS : va_S (zIn 36 h) s.heap s.heap [] := va_S.rf
  refine lv_aload_n hx hb dX0_beginBatch_0 rfl (lv_at hl 0 rfl) ?_
  refine lv_dup hx hb dX0_beginBatch_1 rfl ?_
  refine zo_get 10 (.int (F 10)) hx hb hts (fun x h => List.mem_cons_of_mem _ (hU_X0 x h)) hown hE (za_o hP) (show vwCl[0]? = some (RX0, TX0, 14) from rfl) (by decide) rfl (hts _ (List.mem_cons_of_mem _ uC_45)) (fun _ h9 => h9) dX0_beginBatch_2 ?_
  refine lv_iconst (v := 1) hx hb dX0_beginBatch_5 (by decide +kernel) ?_
  refine lv_iadd hx hb dX0_beginBatch_6 ?_
  refine za_put 10 ((F 10) + 1) hx hb hts (fun x h => List.mem_cons_of_mem _ (hU_X0 x h)) hown hE hP hJ hS (by decide) rfl rfl (by decide +kernel) (hts _ (List.mem_cons_of_mem _ uC_45)) (fun _ h9 => h9) dX0_beginBatch_7 (fun H locs hP hS => ?_)
  refine lv_aload_n hx hb dX0_beginBatch_10 rfl (lv_at hl 0 rfl) ?_
  refine lv_iload_n hx hb dX0_beginBatch_11 rfl (lv_at hl 1 rfl) ?_
  refine za_put 11 x hx hb hts (fun x h => List.mem_cons_of_mem _ (hU_X0 x h)) hown hE hP hJ hS (by decide) rfl rfl (by decide +kernel) (hts _ (List.mem_cons_of_mem _ uC_46)) (fun _ h9 => h9) dX0_beginBatch_12 (fun H locs hP hS => ?_)
  refine lv_aload_n hx hb dX0_beginBatch_15 rfl (lv_at hl 0 rfl) ?_
  refine lv_iconst (v := 0) hx hb dX0_beginBatch_16 (by decide +kernel) ?_
  refine za_put 12 0 hx hb hts (fun x h => List.mem_cons_of_mem _ (hU_X0 x h)) hown hE hP hJ hS (by decide) rfl rfl (by decide +kernel) (hts _ (List.mem_cons_of_mem _ uC_47)) (fun _ h9 => h9) dX0_beginBatch_17 (fun H locs hP hS => ?_)
  refine lv_iload_n hx hb dX0_beginBatch_20 rfl (lv_at hl 1 rfl) ?_
  refine lv_iconst (v := 1) hx hb dX0_beginBatch_21 (by decide +kernel) ?_
  refine lv_icmp_ne (tgt := 33) hx hb dX0_beginBatch_22 (by decide) (fun c_22 => ?_) (fun c_22 => ?_)
  · refine lv_aload_n hx hb dX0_beginBatch_33 rfl (lv_at hl 0 rfl) ?_
    refine zo_get 4 (.int (F 4)) hx hb hts (fun x h => List.mem_cons_of_mem _ (hU_X0 x h)) hown hE (za_o hP) (show vwCl[0]? = some (RX0, TX0, 14) from rfl) (by decide) rfl (hts _ (List.mem_cons_of_mem _ uC_39)) (fun _ h9 => h9) dX0_beginBatch_34 ?_
    refine lv_if_le (tgt := 50) hx hb dX0_beginBatch_37 (by decide) (fun c_37 => ?_) (fun c_37 => ?_)
    · exact zr_v hx hb hr hlocks hS (by rw [kBegin, if_neg c_22, if_neg (z_le' c_37)]; exact hP) dX0_beginBatch_50
    · refine lv_aload_n hx hb dX0_beginBatch_40 rfl (lv_at hl 0 rfl) ?_
      refine lv_dup hx hb dX0_beginBatch_41 rfl ?_
      refine zo_get 13 (.int (F 13)) hx hb hts (fun x h => List.mem_cons_of_mem _ (hU_X0 x h)) hown hE (za_o hP) (show vwCl[0]? = some (RX0, TX0, 14) from rfl) (by decide) rfl (hts _ (List.mem_cons_of_mem _ uC_48)) (fun _ h9 => h9) dX0_beginBatch_42 ?_
      refine lv_iconst (v := 1) hx hb dX0_beginBatch_45 (by decide +kernel) ?_
      refine lv_iadd hx hb dX0_beginBatch_46 ?_
      refine za_put 13 ((F 13) + 1) hx hb hts (fun x h => List.mem_cons_of_mem _ (hU_X0 x h)) hown hE hP hJ hS (by decide) rfl rfl (by decide +kernel) (hts _ (List.mem_cons_of_mem _ uC_48)) (fun _ h9 => h9) dX0_beginBatch_47 (fun H locs hP hS => ?_)
      exact zr_v hx hb hr hlocks hS (by rw [kBegin, if_neg c_22, if_pos (z_nle c_37)]; exact hP) dX0_beginBatch_50
  · refine lv_aload_n hx hb dX0_beginBatch_25 rfl (lv_at hl 0 rfl) ?_
    refine lv_iconst (v := 0) hx hb dX0_beginBatch_26 (by decide +kernel) ?_
    refine za_put 13 0 hx hb hts (fun x h => List.mem_cons_of_mem _ (hU_X0 x h)) hown hE hP hJ hS (by decide) rfl rfl (by decide +kernel) (hts _ (List.mem_cons_of_mem _ uC_48)) (fun _ h9 => h9) dX0_beginBatch_27 (fun H locs hP hS => ?_)
    refine lv_goto (tgt := 50) hx hb dX0_beginBatch_30 (by decide) ?_
    exact zr_v hx hb hr hlocks hS (by rw [kBegin, if_pos c_22]; exact hP) dX0_beginBatch_50
def kStandR (F : Nat → Int32) (mi : Int32) : Int32 := if 1 ≤ mi ∧ mi ≤ 999 then (if 99999 < F 6 + mi then -5 else F 6 + mi) else -2
def kStandF (F : Nat → Int32) (mi : Int32) : Nat → Int32 := if 1 ≤ mi ∧ mi ≤ 999 then (if 99999 < F 6 + mi then F else upd F 6 (F 6 + mi)) else F
set_option maxHeartbeats 4000000 in
set_option maxRecDepth 100000 in
theorem c_X0_stand (l : Launch) (V : zV) (h : Nat → Nat) (F T : Nat → Int32) (lv : Int32) (Ga Gb Gc : Nat → Int32) (P : Nat → Nat → Int32) (mi : Int32) (hJ : zInj 36 h) : Met l yX0_stand wsX0_stand (zR 0 0 0) (zPc V [.ref (h 0), .int mi] (fun H => va_P V.1 vwCl (zaW V h F T lv Ga Gb Gc P) H)) (zQi (fun r H => r = (kStandR F mi) ∧ va_P V.1 vwCl (zaW V h (kStandF F mi) T lv Ga Gb Gc P) H) (zIn 36 h)) 0 0 (zIn 36 h) := by
  refine Met.ofW (cc := cX0_stand) (maxL := 2) (ret := (some .int)) (by decide) rfl ?_
  intro p e s m args below meth c s₁ B hml hv
  obtain ⟨rfl, hP, hE⟩ := hv
  have hx := B.exec
  have hb := B.bytes
  have hr := B.returns
  have hts := atoms_spec (ws := wsX0_stand) B.pre
  have hown : s.vm.findClass RX0 = some m.cls := findClass_of_methodNamed B.named
  have hlocks := B.notSynchronized
  have hl := lv_entry ([.ref (h 0), .int mi]) (n := 2) (Nat.le_of_ble_eq_true rfl)
  rw [lg_entry_eq]
  generalize (lg_sl ([.ref (h 0), .int mi]) ++ List.replicate (2 - (lg_sl ([.ref (h 0), .int mi])).length) Slot.unset).toArray = ls at hl ⊢
  have hl : lv_has ls 2 [(0, .ref (h 0)), (1, .int mi)] := hl
  have hS : va_S (zIn 36 h) s.heap s.heap [] := va_S.rf
  refine lv_iload_n hx hb dX0_stand_0 rfl (lv_at hl 1 rfl) ?_
  refine lv_iconst (v := 1) hx hb dX0_stand_1 (by decide +kernel) ?_
  refine lv_icmp_lt (tgt := 12) hx hb dX0_stand_2 (by decide) (fun c_2 => ?_) (fun c_2 => ?_)
  · refine lv_bipush (v := (-2)) hx hb dX0_stand_12 (by decide +kernel) ?_
    exact zr_i hx hb hr hlocks hS (⟨by rw [kStandR, if_neg (show ¬ (1 ≤ mi ∧ mi ≤ 999) from fun h => z_lt' c_2 h.1)], by rw [kStandF, if_neg (show ¬ (1 ≤ mi ∧ mi ≤ 999) from fun h => z_lt' c_2 h.1)]; exact hP⟩) dX0_stand_14
  · refine lv_iload_n hx hb dX0_stand_5 rfl (lv_at hl 1 rfl) ?_
    refine lv_sipush (v := 999) hx hb dX0_stand_6 (by decide +kernel) ?_
    refine lv_icmp_le (tgt := 15) hx hb dX0_stand_9 (by decide) (fun c_9 => ?_) (fun c_9 => ?_)
    · refine lv_aload_n hx hb dX0_stand_15 rfl (lv_at hl 0 rfl) ?_
      refine zo_get 6 (.int (F 6)) hx hb hts (fun x h => List.mem_cons_of_mem _ (hU_X0 x h)) hown hE (za_o hP) (show vwCl[0]? = some (RX0, TX0, 14) from rfl) (by decide) rfl (hts _ (List.mem_cons_of_mem _ uC_41)) (fun _ h9 => h9) dX0_stand_16 ?_
      refine lv_iload_n hx hb dX0_stand_19 rfl (lv_at hl 1 rfl) ?_
      refine lv_iadd hx hb dX0_stand_20 ?_
      refine lv_ldc (v := (99999)) hx hb hown (hts _ (List.mem_cons_of_mem _ uC_94)) dX0_stand_21 ?_
      refine lv_icmp_le (tgt := 29) hx hb dX0_stand_23 (by decide) (fun c_23 => ?_) (fun c_23 => ?_)
      · refine lv_aload_n hx hb dX0_stand_29 rfl (lv_at hl 0 rfl) ?_
        refine lv_dup hx hb dX0_stand_30 rfl ?_
        refine zo_get 6 (.int (F 6)) hx hb hts (fun x h => List.mem_cons_of_mem _ (hU_X0 x h)) hown hE (za_o hP) (show vwCl[0]? = some (RX0, TX0, 14) from rfl) (by decide) rfl (hts _ (List.mem_cons_of_mem _ uC_41)) (fun _ h9 => h9) dX0_stand_31 ?_
        refine lv_iload_n hx hb dX0_stand_34 rfl (lv_at hl 1 rfl) ?_
        refine lv_iadd hx hb dX0_stand_35 ?_
        refine za_put 6 ((F 6) + mi) hx hb hts (fun x h => List.mem_cons_of_mem _ (hU_X0 x h)) hown hE hP hJ hS (by decide) rfl rfl (by decide +kernel) (hts _ (List.mem_cons_of_mem _ uC_41)) (fun _ h9 => h9) dX0_stand_36 (fun H locs hP hS => ?_)
        refine lv_aload_n hx hb dX0_stand_39 rfl (lv_at hl 0 rfl) ?_
        refine zo_get 6 (.int ((F 6) + mi)) hx hb hts (fun x h => List.mem_cons_of_mem _ (hU_X0 x h)) hown hE (za_o hP) (show vwCl[0]? = some (RX0, TX0, 14) from rfl) (by decide) rfl (hts _ (List.mem_cons_of_mem _ uC_41)) (fun _ h9 => h9) dX0_stand_40 ?_
        exact zr_i hx hb hr hlocks hS (⟨by rw [kStandR, if_pos (show 1 ≤ mi ∧ mi ≤ 999 from ⟨z_nlt c_2, c_9⟩), if_neg (z_le' c_23)], by rw [kStandF, if_pos (show 1 ≤ mi ∧ mi ≤ 999 from ⟨z_nlt c_2, c_9⟩), if_neg (z_le' c_23)]; exact hP⟩) dX0_stand_43
      · refine lv_bipush (v := (-5)) hx hb dX0_stand_26 (by decide +kernel) ?_
        exact zr_i hx hb hr hlocks hS (⟨by rw [kStandR, if_pos (show 1 ≤ mi ∧ mi ≤ 999 from ⟨z_nlt c_2, c_9⟩), if_pos (z_nle c_23)], by rw [kStandF, if_pos (show 1 ≤ mi ∧ mi ≤ 999 from ⟨z_nlt c_2, c_9⟩), if_pos (z_nle c_23)]; exact hP⟩) dX0_stand_28
    · refine lv_bipush (v := (-2)) hx hb dX0_stand_12 (by decide +kernel) ?_
      exact zr_i hx hb hr hlocks hS (⟨by rw [kStandR, if_neg (show ¬ (1 ≤ mi ∧ mi ≤ 999) from fun h => c_9 h.2)], by rw [kStandF, if_neg (show ¬ (1 ≤ mi ∧ mi ≤ 999) from fun h => c_9 h.2)]; exact hP⟩) dX0_stand_14
def kOn {α : Type} (o : Option Nat) (a : α) (f : Nat → α) : α := match o with
  | none => a
  | some k => f k
theorem kOn_n {α : Type} {o : Option Nat} {a : α} {f : Nat → α} (h : o = none) : kOn o a f = a := by subst h; rfl
theorem kOn_s {α : Type} {o : Option Nat} {k : Nat} {a : α} {f : Nat → α} (h : o = some k) : kOn o a f = f k := by subst h; rfl
def kTearR (F : Nat → Int32) (P : Nat → Nat → Int32) (x : Int32) : Int32 := kOn (kFind P x 30) (-1) (fun k => F 6 - P k 6)
def kTearF (F : Nat → Int32) (P : Nat → Nat → Int32) (x : Int32) : Nat → Int32 := kOn (kFind P x 30) F (fun k => kCount F (P k 3) (-1))
def kTearP (P : Nat → Nat → Int32) (x : Int32) : Nat → Nat → Int32 := kOn (kFind P x 30) P (fun k => va_up P k (upd (P k) 1 0))
theorem kCount_o {F : Nat → Int32} {wr more : Int32} {j : Nat} (h3 : j ≠ 3) (h4 : j ≠ 4) : kCount F wr more j = F j := by
  unfold kCount
  split
  · exact if_neg h4
  · exact if_neg h3
set_option maxHeartbeats 4000000 in
set_option maxRecDepth 100000 in
theorem c_X0_tearUp (l : Launch) (V : zV) (h : Nat → Nat) (F T : Nat → Int32) (lv : Int32) (Ga Gb Gc : Nat → Int32) (P : Nat → Nat → Int32) (x : Int32) (hJ : zInj 36 h) : Met l yX0_tearUp wsX0_tearUp (zR 2 0 0) (zPc V [.ref (h 0), .int x] (fun H => va_P V.1 vwCl (zaW V h F T lv Ga Gb Gc P) H)) (zQi (fun r H => r = (kTearR F P x) ∧ va_P V.1 vwCl (zaW V h (kTearF F P x) T lv Ga Gb Gc (kTearP P x)) H) (zIn 36 h)) 0 0 (zIn 36 h) := by
  refine Met.ofW (cc := cX0_tearUp) (maxL := 3) (ret := (some .int)) (by decide) rfl ?_
  intro p e s m args below meth c s₁ B hml hv
  obtain ⟨rfl, hP, hE⟩ := hv
  have hx := B.exec
  have hb := B.bytes
  have hr := B.returns
  have hts := atoms_spec (ws := wsX0_tearUp) B.pre
  have hown : s.vm.findClass RX0 = some m.cls := findClass_of_methodNamed B.named
  have hlocks := B.notSynchronized
  have hl := lv_entry ([.ref (h 0), .int x]) (n := 3) (Nat.le_of_ble_eq_true rfl)
  rw [lg_entry_eq]
  generalize (lg_sl ([.ref (h 0), .int x]) ++ List.replicate (3 - (lg_sl ([.ref (h 0), .int x])).length) Slot.unset).toArray = ls at hl ⊢
  have hl : lv_has ls 3 [(0, .ref (h 0)), (1, .int x)] := hl
  have hS : va_S (zIn 36 h) s.heap s.heap [] := va_S.rf
  refine lv_aload_n hx hb dX0_tearUp_0 rfl (lv_at hl 0 rfl) ?_
  refine lv_iload_n hx hb dX0_tearUp_1 rfl (lv_at hl 1 rfl) ?_
  refine zc_sqe (va_runV (As := [.int x]) (rest := []) ⟨hx, hb, hml, hown, hts⟩ (c_X0_find l V h F T lv Ga Gb Gc P x) (cwV 1 hts (zgV_ wsC_all uC_80 uC_84 uC_85 uC_86 uC_73) rfl rfl rfl (by decide +kernel) ⟨Nat.le_of_ble_eq_true rfl, Nat.le_of_ble_eq_true rfl⟩) (zPreV (B := fun H => va_P V.1 vwCl (zaW V h F T lv Ga Gb Gc P) H) hP hE (za_ro hE hP)) rfl rfl hl.1 rfl (lv_room (Nat.le_of_ble_eq_true rfl)) dX0_tearUp_2 ⟨Nat.le_of_ble_eq_true rfl, Nat.le_of_ble_eq_true rfl⟩) ?_
  refine zo_astore_n (r := zad h (kFind P x 30)) (lv' := [(2, va_rf (zad h (kFind P x 30))), (0, .ref (h 0)), (1, .int x)]) hx hb dX0_tearUp_5 rfl hl (by decide) rfl (fun ls hl => ?_)
  refine zo_aload_n (r := zad h (kFind P x 30)) hx hb dX0_tearUp_6 rfl (lv_at hl 0 rfl) ?_
  rcases hq_7 : kFind P x 30 with _ | k_7
  · refine zt_v (y := .null) (by first | rfl | (rw [hq_7]; rfl)) ?_
    rw [hq_7] at hl
    have hl : lv_has ls 3 [(2, .null), (0, .ref (h 0)), (1, .int x)] := hl
    refine lv_ifnonnullN hx hb dX0_tearUp_7 ?_
    refine lv_iconst (v := (-1)) hx hb dX0_tearUp_10 (by decide +kernel) ?_
    exact zr_i hx hb hr hlocks hS (⟨(kOn_n hq_7).symm, by rw [show kTearF F P x = F from kOn_n hq_7, show kTearP P x = P from kOn_n hq_7]; exact hP⟩) dX0_tearUp_11
  · refine zt_v (y := .ref (h (k_7 + 6))) (by first | rfl | (rw [hq_7]; rfl)) ?_
    rw [hq_7] at hl
    have hl : lv_has ls 3 [(2, .ref (h (k_7 + 6))), (0, .ref (h 0)), (1, .int x)] := hl
    have hb_7 : k_7 < 30 := by first | exact (zFirst_lt hq_7).1 | exact (zBest_lt hq_7).1 | exact kSel_lt hq_7 | (have h_ := (zBest_lt hq_7).1; omega)
    refine lv_ifnonnull (tgt := 12) hx hb dX0_tearUp_7 (by decide) ?_
    refine lv_aload_n hx hb dX0_tearUp_12 rfl (lv_at hl 1 rfl) ?_
    refine lv_aload_n hx hb dX0_tearUp_13 rfl (lv_at hl 0 rfl) ?_
    refine zc_v (va_runV (As := [.ref (h (k_7 + 6))]) (rest := []) ⟨hx, hb, hml, hown, hts⟩ (c_X0_remove l V h F T lv Ga Gb Gc P k_7 hJ (by omega)) (cwV 1 hts (zgV_ wsC_all uC_81 uC_87 uC_88 uC_89 uC_73) rfl rfl rfl (by decide +kernel) ⟨Nat.le_of_ble_eq_true rfl, Nat.le_of_ble_eq_true rfl⟩) (zPreV (B := fun H => va_P V.1 vwCl (zaW V h F T lv Ga Gb Gc P) H) hP hE (za_ro hE hP)) rfl rfl hl.1 rfl (lv_room (Nat.le_of_ble_eq_true rfl)) dX0_tearUp_14 ⟨Nat.le_of_ble_eq_true rfl, Nat.le_of_ble_eq_true rfl⟩) hS (fun _ h => h) (fun _ h => h) (fun H locs hP _ _ hS => ?_)
    refine lv_aload_n hx hb dX0_tearUp_17 rfl (lv_at hl 1 rfl) ?_
    refine lv_aload_n hx hb dX0_tearUp_18 rfl (lv_at hl 0 rfl) ?_
    refine zc_se (va_runV (As := [.ref (h (k_7 + 6))]) (rest := []) ⟨hx, hb, hml, hown, hts⟩ (c_X0_age l V h (kCount F ((P k_7) 3) (-1)) T lv Ga Gb Gc (va_up P k_7 (upd (P k_7) 1 0)) k_7 (by omega)) (cwV 1 hts (zgV_ wsC_all uC_82 uC_90 uC_91 uC_92 uC_73) rfl rfl rfl (by decide +kernel) ⟨Nat.le_of_ble_eq_true rfl, Nat.le_of_ble_eq_true rfl⟩) (zPreV (B := fun H => va_P V.1 vwCl (zaW V h (kCount F ((P k_7) 3) (-1)) T lv Ga Gb Gc (va_up P k_7 (upd (P k_7) 1 0))) H) hP hE (za_ro hE hP)) rfl rfl hl.1 rfl (lv_room (Nat.le_of_ble_eq_true rfl)) dX0_tearUp_19 ⟨Nat.le_of_ble_eq_true rfl, Nat.le_of_ble_eq_true rfl⟩) ?_
    exact zr_i hx hb hr hlocks hS (⟨(by rw [show kTearR F P x = F 6 - P k_7 6 from kOn_s hq_7, kCount_o (by decide) (by decide), zUp_s, pk_un (by decide)]), by rw [show kTearF F P x = kCount F (P k_7 3) (-1) from kOn_s hq_7, show kTearP P x = va_up P k_7 (upd (P k_7) 1 0) from kOn_s hq_7]; exact hP⟩) dX0_tearUp_22
def kAccR (F : Nat → Int32) (P : Nat → Nat → Int32) (wr d mm : Int32) : Int32 := if mSlip wr d mm then kOn (kHost P wr d mm 30) (kOn (kFree P 30) (-4) (fun _ => F 5)) (fun k => P k 2) else -2
def kAccF (F : Nat → Int32) (P : Nat → Nat → Int32) (wr d mm : Int32) : Nat → Int32 := if mSlip wr d mm then kOn (kHost P wr d mm 30) (kOn (kFree P 30) F (fun _ => kCount (upd F 5 (F 5 + 1)) wr 1)) (fun _ => F) else F
def kSlip (f : Nat → Int32) (nu wr d mm now : Int32) : Nat → Int32 := upd (upd (upd (upd (upd (upd (upd f 1 1) 2 nu) 3 wr) 4 d) 5 mm) 6 now) 7 0
def kAccP (F : Nat → Int32) (P : Nat → Nat → Int32) (wr d mm : Int32) : Nat → Nat → Int32 := if mSlip wr d mm then kOn (kHost P wr d mm 30) (kOn (kFree P 30) P (fun k => va_up P k (kSlip (P k) (F 5) wr d mm (F 6)))) (fun k => va_up P k (upd (upd (P k) 5 (P k 5 + mm)) 7 (P k 7 + 1))) else P
set_option maxHeartbeats 4000000 in
set_option maxRecDepth 100000 in
theorem c_X0_accept (l : Launch) (V : zV) (h : Nat → Nat) (F T : Nat → Int32) (lv : Int32) (Ga Gb Gc : Nat → Int32) (P : Nat → Nat → Int32) (wr d mm : Int32) (hJ : zInj 36 h) : Met l yX0_accept wsX0_accept (zR 2 0 0) (zPc V [.ref (h 0), .int wr, .int d, .int mm] (fun H => va_P V.1 vwCl (zaW V h F T lv Ga Gb Gc P) H)) (zQi (fun r H => r = (kAccR F P wr d mm) ∧ va_P V.1 vwCl (zaW V h (kAccF F P wr d mm) T lv Ga Gb Gc (kAccP F P wr d mm)) H) (zIn 36 h)) 0 0 (zIn 36 h) := by
  refine Met.ofW (cc := cX0_accept) (maxL := 6) (ret := (some .int)) (by decide) rfl ?_
  intro p e s m args below meth c s₁ B hml hv
  obtain ⟨rfl, hP, hE⟩ := hv
  have hx := B.exec
  have hb := B.bytes
  have hr := B.returns
  have hts := atoms_spec (ws := wsX0_accept) B.pre
  have hown : s.vm.findClass RX0 = some m.cls := findClass_of_methodNamed B.named
  have hlocks := B.notSynchronized
  have hl := lv_entry ([.ref (h 0), .int wr, .int d, .int mm]) (n := 6) (Nat.le_of_ble_eq_true rfl)
  rw [lg_entry_eq]
  generalize (lg_sl ([.ref (h 0), .int wr, .int d, .int mm]) ++ List.replicate (6 - (lg_sl ([.ref (h 0), .int wr, .int d, .int mm])).length) Slot.unset).toArray = ls at hl ⊢
  have hl : lv_has ls 6 [(0, .ref (h 0)), (1, .int wr), (2, .int d), (3, .int mm)] := hl
  have hS : va_S (zIn 36 h) s.heap s.heap [] := va_S.rf
  refine lv_iload_n hx hb dX0_accept_0 rfl (lv_at hl 1 rfl) ?_
  refine lv_iload_n hx hb dX0_accept_1 rfl (lv_at hl 2 rfl) ?_
  refine lv_iload_n hx hb dX0_accept_2 rfl (lv_at hl 3 rfl) ?_
  refine zc_se (va_runSN (As := [.int wr, .int d, .int mm]) (rest := []) ⟨hx, hb, hml, hown, hts⟩ (c_X7_isSlip l V wr d mm) ⟨va_cnB 3 hts (zgB_ wsC_all uC_58) rfl rfl rfl (hE.2 (.methodLinkNest RX0 95 yX7_isSlip "DrawerSlips") (List.mem_of_getElem? (i := 48) rfl)) (hts _ (List.mem_cons_of_mem _ uC_25)) (by decide +kernel) ⟨Nat.le_of_ble_eq_true rfl, Nat.le_of_ble_eq_true rfl⟩, (hts _ (List.mem_cons_of_mem _ uC_69)), trivial⟩ (zPreS (B := fun _ => True) trivial hE) rfl rfl hl.1 rfl (lv_room (Nat.le_of_ble_eq_true rfl)) dX0_accept_3 ⟨Nat.le_of_ble_eq_true rfl, Nat.le_of_ble_eq_true rfl⟩) ?_
  refine zbp_ne (P := mSlip wr d mm) (tgt := 12) hx hb dX0_accept_6 (by decide) (fun c_6 => ?_) (fun c_6 => ?_)
  · refine lv_aload_n hx hb dX0_accept_12 rfl (lv_at hl 0 rfl) ?_
    refine lv_iload_n hx hb dX0_accept_13 rfl (lv_at hl 1 rfl) ?_
    refine lv_iload_n hx hb dX0_accept_14 rfl (lv_at hl 2 rfl) ?_
    refine lv_iload_n hx hb dX0_accept_15 rfl (lv_at hl 3 rfl) ?_
    refine zc_sqe (va_runV (As := [.int wr, .int d, .int mm]) (rest := []) ⟨hx, hb, hml, hown, hts⟩ (c_X0_hostFor l V h F T lv Ga Gb Gc P wr d mm) (cwV 3 hts (zgV_ wsC_all uC_61 uC_70 uC_71 uC_72 uC_73) rfl rfl rfl (by decide +kernel) ⟨Nat.le_of_ble_eq_true rfl, Nat.le_of_ble_eq_true rfl⟩) (zPreV (B := fun H => va_P V.1 vwCl (zaW V h F T lv Ga Gb Gc P) H) hP hE (za_ro hE hP)) rfl rfl hl.1 rfl (lv_room (Nat.le_of_ble_eq_true rfl)) dX0_accept_16 ⟨Nat.le_of_ble_eq_true rfl, Nat.le_of_ble_eq_true rfl⟩) ?_
    refine zo_astore (r := zad h (kHost P wr d mm 30)) (lv' := [(4, va_rf (zad h (kHost P wr d mm 30))), (0, .ref (h 0)), (1, .int wr), (2, .int d), (3, .int mm)]) hx hb dX0_accept_19 hl (by decide) rfl (fun ls hl => ?_)
    refine zo_aload (r := zad h (kHost P wr d mm 30)) hx hb dX0_accept_21 (lv_at hl 0 rfl) ?_
    rcases hq_23 : kHost P wr d mm 30 with _ | k_23
    · refine zt_v (y := .null) (by first | rfl | (rw [hq_23]; rfl)) ?_
      rw [hq_23] at hl
      have hl : lv_has ls 6 [(4, .null), (0, .ref (h 0)), (1, .int wr), (2, .int d), (3, .int mm)] := hl
      refine lv_ifnullN (tgt := 54) hx hb dX0_accept_23 (by decide) ?_
      refine lv_aload_n hx hb dX0_accept_54 rfl (lv_at hl 1 rfl) ?_
      refine zc_sqe (va_runV (As := []) (rest := []) ⟨hx, hb, hml, hown, hts⟩ (c_X0_freePlace l V h F T lv Ga Gb Gc P) (cwV 0 hts (zgV_ wsC_all uC_66 uC_74 uC_75 uC_76 uC_73) rfl rfl rfl (by decide +kernel) ⟨Nat.le_of_ble_eq_true rfl, Nat.le_of_ble_eq_true rfl⟩) (zPreV (B := fun H => va_P V.1 vwCl (zaW V h F T lv Ga Gb Gc P) H) hP hE (za_ro hE hP)) rfl rfl hl.1 rfl (lv_room (Nat.le_of_ble_eq_true rfl)) dX0_accept_55 ⟨Nat.le_of_ble_eq_true rfl, Nat.le_of_ble_eq_true rfl⟩) ?_
      refine zo_astore (r := zad h (kFree P 30)) (lv' := [(5, va_rf (zad h (kFree P 30))), (4, .null), (0, .ref (h 0)), (1, .int wr), (2, .int d), (3, .int mm)]) hx hb dX0_accept_58 hl (by decide) rfl (fun ls hl => ?_)
      refine zo_aload (r := zad h (kFree P 30)) hx hb dX0_accept_60 (lv_at hl 0 rfl) ?_
      rcases hq_62 : kFree P 30 with _ | k_62
      · refine zt_v (y := .null) (by first | rfl | (rw [hq_62]; rfl)) ?_
        rw [hq_62] at hl
        have hl : lv_has ls 6 [(5, .null), (4, .null), (0, .ref (h 0)), (1, .int wr), (2, .int d), (3, .int mm)] := hl
        refine lv_ifnonnullN hx hb dX0_accept_62 ?_
        refine lv_bipush (v := (-4)) hx hb dX0_accept_65 (by decide +kernel) ?_
        exact zr_i hx hb hr hlocks hS (⟨(show kAccR F P wr d mm = -4 from (if_pos c_6).trans ((kOn_n hq_23).trans (kOn_n hq_62))).symm, by rw [show kAccF F P wr d mm = F from (if_pos c_6).trans ((kOn_n hq_23).trans (kOn_n hq_62)), show kAccP F P wr d mm = P from (if_pos c_6).trans ((kOn_n hq_23).trans (kOn_n hq_62))]; exact hP⟩) dX0_accept_67
      · refine zt_v (y := .ref (h (k_62 + 6))) (by first | rfl | (rw [hq_62]; rfl)) ?_
        rw [hq_62] at hl
        have hl : lv_has ls 6 [(5, .ref (h (k_62 + 6))), (4, .null), (0, .ref (h 0)), (1, .int wr), (2, .int d), (3, .int mm)] := hl
        have hb_62 : k_62 < 30 := by first | exact (zFirst_lt hq_62).1 | exact (zBest_lt hq_62).1 | exact kSel_lt hq_62 | (have h_ := (zBest_lt hq_62).1; omega)
        refine lv_ifnonnull (tgt := 68) hx hb dX0_accept_62 (by decide) ?_
        refine lv_aload hx hb dX0_accept_68 (lv_at hl 0 rfl) ?_
        refine lv_iconst (v := 1) hx hb dX0_accept_70 (by decide +kernel) ?_
        refine za_putsN (P0 := P) (f := P k_62) k_62 1 1 .boolean rfl (fun _ => rfl) hx hb hts (fun x h => List.mem_cons_of_mem _ (hU_X5 x h)) hown hE hP hJ hS (by omega) (by decide) rfl rfl (by decide +kernel) rfl rfl (List.mem_of_getElem? (i := 3) rfl) (fun _ h9 => h9) dX0_accept_71 (fun H locs hP hS => ?_)
        refine lv_aload hx hb dX0_accept_74 (lv_at hl 0 rfl) ?_
        refine lv_aload_n hx hb dX0_accept_76 rfl (lv_at hl 2 rfl) ?_
        refine zo_get 5 (.int (F 5)) hx hb hts (fun x h => List.mem_cons_of_mem _ (hU_X0 x h)) hown hE (za_o hP) (show vwCl[0]? = some (RX0, TX0, 14) from rfl) (by decide) rfl (hts _ (List.mem_cons_of_mem _ uC_40)) (fun _ h9 => h9) dX0_accept_77 ?_
        refine za_putsN (P0 := P) (f := upd (P k_62) 1 1) k_62 2 (F 5) .int (zUp_s _ _ _) (fun _ => zUp_up _ _ _ _) hx hb hts (fun x h => List.mem_cons_of_mem _ (hU_X5 x h)) hown hE hP hJ hS (by omega) (by decide) rfl rfl (by decide +kernel) rfl rfl (List.mem_of_getElem? (i := 4) rfl) (fun _ h9 => h9) dX0_accept_80 (fun H locs hP hS => ?_)
        refine lv_aload hx hb dX0_accept_83 (lv_at hl 0 rfl) ?_
        refine lv_iload_n hx hb dX0_accept_85 rfl (lv_at hl 3 rfl) ?_
        refine za_putsN (P0 := P) (f := upd (upd (P k_62) 1 1) 2 (F 5)) k_62 3 wr .int (zUp_s _ _ _) (fun _ => zUp_up _ _ _ _) hx hb hts (fun x h => List.mem_cons_of_mem _ (hU_X5 x h)) hown hE hP hJ hS (by omega) (by decide) rfl rfl (by decide +kernel) rfl rfl (List.mem_of_getElem? (i := 6) rfl) (fun _ h9 => h9) dX0_accept_86 (fun H locs hP hS => ?_)
        refine lv_aload hx hb dX0_accept_89 (lv_at hl 0 rfl) ?_
        refine lv_iload_n hx hb dX0_accept_91 rfl (lv_at hl 4 rfl) ?_
        refine za_putsN (P0 := P) (f := upd (upd (upd (P k_62) 1 1) 2 (F 5)) 3 wr) k_62 4 d .int (zUp_s _ _ _) (fun _ => zUp_up _ _ _ _) hx hb hts (fun x h => List.mem_cons_of_mem _ (hU_X5 x h)) hown hE hP hJ hS (by omega) (by decide) rfl rfl (by decide +kernel) rfl rfl (List.mem_of_getElem? (i := 8) rfl) (fun _ h9 => h9) dX0_accept_92 (fun H locs hP hS => ?_)
        refine lv_aload hx hb dX0_accept_95 (lv_at hl 0 rfl) ?_
        refine lv_iload_n hx hb dX0_accept_97 rfl (lv_at hl 5 rfl) ?_
        refine za_putsN (P0 := P) (f := upd (upd (upd (upd (P k_62) 1 1) 2 (F 5)) 3 wr) 4 d) k_62 5 mm .int (zUp_s _ _ _) (fun _ => zUp_up _ _ _ _) hx hb hts (fun x h => List.mem_cons_of_mem _ (hU_X5 x h)) hown hE hP hJ hS (by omega) (by decide) rfl rfl (by decide +kernel) rfl rfl (List.mem_of_getElem? (i := 10) rfl) (fun _ h9 => h9) dX0_accept_98 (fun H locs hP hS => ?_)
        refine lv_aload hx hb dX0_accept_101 (lv_at hl 0 rfl) ?_
        refine lv_aload_n hx hb dX0_accept_103 rfl (lv_at hl 2 rfl) ?_
        refine zo_get 6 (.int (F 6)) hx hb hts (fun x h => List.mem_cons_of_mem _ (hU_X0 x h)) hown hE (za_o hP) (show vwCl[0]? = some (RX0, TX0, 14) from rfl) (by decide) rfl (hts _ (List.mem_cons_of_mem _ uC_41)) (fun _ h9 => h9) dX0_accept_104 ?_
        refine za_putsN (P0 := P) (f := upd (upd (upd (upd (upd (P k_62) 1 1) 2 (F 5)) 3 wr) 4 d) 5 mm) k_62 6 (F 6) .int (zUp_s _ _ _) (fun _ => zUp_up _ _ _ _) hx hb hts (fun x h => List.mem_cons_of_mem _ (hU_X5 x h)) hown hE hP hJ hS (by omega) (by decide) rfl rfl (by decide +kernel) rfl rfl (List.mem_of_getElem? (i := 11) rfl) (fun _ h9 => h9) dX0_accept_107 (fun H locs hP hS => ?_)
        refine lv_aload hx hb dX0_accept_110 (lv_at hl 0 rfl) ?_
        refine lv_iconst (v := 0) hx hb dX0_accept_112 (by decide +kernel) ?_
        refine za_putsN (P0 := P) (f := upd (upd (upd (upd (upd (upd (P k_62) 1 1) 2 (F 5)) 3 wr) 4 d) 5 mm) 6 (F 6)) k_62 7 0 .int (zUp_s _ _ _) (fun _ => zUp_up _ _ _ _) hx hb hts (fun x h => List.mem_cons_of_mem _ (hU_X5 x h)) hown hE hP hJ hS (by omega) (by decide) rfl rfl (by decide +kernel) rfl rfl (List.mem_of_getElem? (i := 12) rfl) (fun _ h9 => h9) dX0_accept_113 (fun H locs hP hS => ?_)
        refine lv_aload_n hx hb dX0_accept_116 rfl (lv_at hl 2 rfl) ?_
        refine lv_dup hx hb dX0_accept_117 rfl ?_
        refine zo_get 5 (.int (F 5)) hx hb hts (fun x h => List.mem_cons_of_mem _ (hU_X0 x h)) hown hE (za_o hP) (show vwCl[0]? = some (RX0, TX0, 14) from rfl) (by decide) rfl (hts _ (List.mem_cons_of_mem _ uC_40)) (fun _ h9 => h9) dX0_accept_118 ?_
        refine lv_iconst (v := 1) hx hb dX0_accept_121 (by decide +kernel) ?_
        refine lv_iadd hx hb dX0_accept_122 ?_
        refine za_put 5 ((F 5) + 1) hx hb hts (fun x h => List.mem_cons_of_mem _ (hU_X0 x h)) hown hE hP hJ hS (by decide) rfl rfl (by decide +kernel) (hts _ (List.mem_cons_of_mem _ uC_40)) (fun _ h9 => h9) dX0_accept_123 (fun H locs hP hS => ?_)
        refine lv_aload_n hx hb dX0_accept_126 rfl (lv_at hl 2 rfl) ?_
        refine lv_iload_n hx hb dX0_accept_127 rfl (lv_at hl 3 rfl) ?_
        refine lv_iconst (v := 1) hx hb dX0_accept_128 (by decide +kernel) ?_
        refine zc_v (va_runV (As := [.int wr, .int 1]) (rest := []) ⟨hx, hb, hml, hown, hts⟩ (c_X0_countWaiting l V h (upd F 5 ((F 5) + 1)) T lv Ga Gb Gc (va_up P k_62 (upd (upd (upd (upd (upd (upd (upd (P k_62) 1 1) 2 (F 5)) 3 wr) 4 d) 5 mm) 6 (F 6)) 7 0)) wr 1 hJ) (cwV 2 hts (zgV_ wsC_all uC_67 uC_77 uC_78 uC_79 uC_73) rfl rfl rfl (by decide +kernel) ⟨Nat.le_of_ble_eq_true rfl, Nat.le_of_ble_eq_true rfl⟩) (zPreV (B := fun H => va_P V.1 vwCl (zaW V h (upd F 5 ((F 5) + 1)) T lv Ga Gb Gc (va_up P k_62 (upd (upd (upd (upd (upd (upd (upd (P k_62) 1 1) 2 (F 5)) 3 wr) 4 d) 5 mm) 6 (F 6)) 7 0))) H) hP hE (za_ro hE hP)) rfl rfl hl.1 rfl (lv_room (Nat.le_of_ble_eq_true rfl)) dX0_accept_129 ⟨Nat.le_of_ble_eq_true rfl, Nat.le_of_ble_eq_true rfl⟩) hS (fun _ h => h) (fun _ h => h) (fun H locs hP _ _ hS => ?_)
        refine lv_aload hx hb dX0_accept_132 (lv_at hl 0 rfl) ?_
        refine zo_getN 2 (.int ((upd (upd (upd (upd (upd (upd (upd (P k_62) 1 1) 2 (F 5)) 3 wr) 4 d) 5 mm) 6 (F 6)) 7 0) 2)) hx hb hts (fun x h => List.mem_cons_of_mem _ (hU_X5 x h)) hown hE (za_slip2 (i := k_62) hP (by omega)) (show vwCl[5]? = some (RX5, TX5, 8) from rfl) (by decide) rfl (List.mem_of_getElem? (i := 4) rfl) (fun _ h9 => h9) dX0_accept_134 ?_
        exact zr_i hx hb hr hlocks hS (⟨(show kAccR F P wr d mm = F 5 from (if_pos c_6).trans ((kOn_n hq_23).trans (kOn_s hq_62))).symm, by rw [show kAccF F P wr d mm = kCount (upd F 5 (F 5 + 1)) wr 1 from (if_pos c_6).trans ((kOn_n hq_23).trans (kOn_s hq_62)), show kAccP F P wr d mm = va_up P k_62 (kSlip (P k_62) (F 5) wr d mm (F 6)) from (if_pos c_6).trans ((kOn_n hq_23).trans (kOn_s hq_62))]; exact hP⟩) dX0_accept_137
    · refine zt_v (y := .ref (h (k_23 + 6))) (by first | rfl | (rw [hq_23]; rfl)) ?_
      rw [hq_23] at hl
      have hl : lv_has ls 6 [(4, .ref (h (k_23 + 6))), (0, .ref (h 0)), (1, .int wr), (2, .int d), (3, .int mm)] := hl
      have hb_23 : k_23 < 30 := by first | exact (zFirst_lt hq_23).1 | exact (zBest_lt hq_23).1 | exact kSel_lt hq_23 | (have h_ := (zBest_lt hq_23).1; omega)
      refine lv_ifnull hx hb dX0_accept_23 ?_
      refine lv_aload hx hb dX0_accept_26 (lv_at hl 0 rfl) ?_
      refine lv_dup hx hb dX0_accept_28 rfl ?_
      refine zo_getN 5 (.int ((P k_23) 5)) hx hb hts (fun x h => List.mem_cons_of_mem _ (hU_X5 x h)) hown hE (za_slip hP (i := k_23) (by omega)) (show vwCl[5]? = some (RX5, TX5, 8) from rfl) (by decide) rfl (List.mem_of_getElem? (i := 10) rfl) (fun _ h9 => h9) dX0_accept_29 ?_
      refine lv_iload_n hx hb dX0_accept_32 rfl (lv_at hl 4 rfl) ?_
      refine lv_iadd hx hb dX0_accept_33 ?_
      refine za_putsN (P0 := P) (f := P k_23) k_23 5 (((P k_23) 5) + mm) .int rfl (fun _ => rfl) hx hb hts (fun x h => List.mem_cons_of_mem _ (hU_X5 x h)) hown hE hP hJ hS (by omega) (by decide) rfl rfl (by decide +kernel) rfl rfl (List.mem_of_getElem? (i := 10) rfl) (fun _ h9 => h9) dX0_accept_34 (fun H locs hP hS => ?_)
      refine lv_aload hx hb dX0_accept_37 (lv_at hl 0 rfl) ?_
      refine lv_dup hx hb dX0_accept_39 rfl ?_
      refine zo_getN 7 (.int ((upd (P k_23) 5 (((P k_23) 5) + mm)) 7)) hx hb hts (fun x h => List.mem_cons_of_mem _ (hU_X5 x h)) hown hE (za_slip2 (i := k_23) hP (by omega)) (show vwCl[5]? = some (RX5, TX5, 8) from rfl) (by decide) rfl (List.mem_of_getElem? (i := 12) rfl) (fun _ h9 => h9) dX0_accept_40 ?_
      refine lv_iconst (v := 1) hx hb dX0_accept_43 (by decide +kernel) ?_
      refine lv_iadd hx hb dX0_accept_44 ?_
      refine za_putsN (P0 := P) (f := upd (P k_23) 5 (((P k_23) 5) + mm)) k_23 7 (((upd (P k_23) 5 (((P k_23) 5) + mm)) 7) + 1) .int (zUp_s _ _ _) (fun _ => zUp_up _ _ _ _) hx hb hts (fun x h => List.mem_cons_of_mem _ (hU_X5 x h)) hown hE hP hJ hS (by omega) (by decide) rfl rfl (by decide +kernel) rfl rfl (List.mem_of_getElem? (i := 12) rfl) (fun _ h9 => h9) dX0_accept_45 (fun H locs hP hS => ?_)
      refine lv_aload hx hb dX0_accept_48 (lv_at hl 0 rfl) ?_
      refine zo_getN 2 (.int ((upd (upd (P k_23) 5 (((P k_23) 5) + mm)) 7 (((upd (P k_23) 5 (((P k_23) 5) + mm)) 7) + 1)) 2)) hx hb hts (fun x h => List.mem_cons_of_mem _ (hU_X5 x h)) hown hE (za_slip2 (i := k_23) hP (by omega)) (show vwCl[5]? = some (RX5, TX5, 8) from rfl) (by decide) rfl (List.mem_of_getElem? (i := 4) rfl) (fun _ h9 => h9) dX0_accept_50 ?_
      exact zr_i hx hb hr hlocks hS (⟨(show kAccR F P wr d mm = P k_23 2 from (if_pos c_6).trans (kOn_s hq_23)).symm, by rw [show kAccF F P wr d mm = F from (if_pos c_6).trans (kOn_s hq_23), show kAccP F P wr d mm = va_up P k_23 (upd (upd (P k_23) 5 (P k_23 5 + mm)) 7 (P k_23 7 + 1)) from (if_pos c_6).trans (kOn_s hq_23)]; exact hP⟩) dX0_accept_53
  · refine lv_bipush (v := (-2)) hx hb dX0_accept_9 (by decide +kernel) ?_
    exact zr_i hx hb hr hlocks hS (⟨(if_neg c_6).symm, by rw [show kAccF F P wr d mm = F from if_neg c_6, show kAccP F P wr d mm = P from if_neg c_6]; exact hP⟩) dX0_accept_11
