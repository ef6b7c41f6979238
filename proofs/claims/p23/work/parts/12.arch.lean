abbrev kS (P : Nat → Nat → Int32) (x : Int32) (i : Nat) : Prop := ¬ P i 1 = 0 ∧ P i 3 = x
abbrev kAh (P : Nat → Nat → Int32) (i j : Nat) : Prop := P i 4 < P j 4 ∨ (P i 4 = P j 4 ∧ P i 2 < P j 2)
def kFind (P : Nat → Nat → Int32) (x : Int32) (n : Nat) : Option Nat := zFirst (fun i => decide (¬ P i 1 = 0 ∧ P i 2 = x)) n
def kFree (P : Nat → Nat → Int32) (n : Nat) : Option Nat := zFirst (fun i => decide (P i 1 = 0)) n
def kHost (P : Nat → Nat → Int32) (wr d mm : Int32) (n : Nat) : Option Nat := zBest (fun i => decide (kS P wr i ∧ P i 4 + P i 5 - 1 + 1 = d ∧ P i 5 + mm ≤ 9)) (fun a b => decide (P a 2 < P b 2)) n
def kOld (P : Nat → Nat → Int32) (x : Int32) (n : Nat) : Option Nat := zBest (fun i => decide (kS P x i)) (fun a b => decide (P a 2 < P b 2)) n
def kLow (P : Nat → Nat → Int32) (x d : Int32) (n : Nat) : Option Nat := zBest (fun i => decide (kS P x i ∧ d ≤ P i 4)) (fun a b => decide (kAh P a b)) n
def kAhead (P : Nat → Nat → Int32) (k n : Nat) : Nat := zCnt (fun i => decide (kS P (P k 3) i ∧ kAh P i k)) n
def kRank (P : Nat → Nat → Int32) (x rk : Int32) (n : Nat) : Option Nat := zFirst (fun i => decide (kS P x i ∧ nI (kAhead P i 30) = rk)) n
def kNew (F T : Nat → Int32) : Int32 := if F 4 = 0 then 0 else if F 3 = 0 then 1 else if T 3 ≤ F 13 then 1 else 0
abbrev kOldP (F T : Nat → Int32) (P : Nat → Nat → Int32) (k : Nat) : Prop := T (if P k 3 = 1 then 1 else 0) ≤ F 6 - P k 6
abbrev kFar (F : Nat → Int32) (P : Nat → Nat → Int32) (k : Nat) : Int32 := if 0 ≤ P k 4 - F 7 then P k 4 - F 7 else 0 - (P k 4 - F 7)
abbrev kMin (F T : Nat → Int32) (P : Nat → Nat → Int32) (k : Nat) : Int32 := kFar F P k * T 4 + P k 5 * T 5
abbrev kRoom (F T : Nat → Int32) : Prop := 0 < F 10 ∧ F 12 < T 2
def kPick (o : Option Nat) (q : Nat → Bool) (z : Int32) : Int32 := match o with
  | none => z
  | some k => if q k then 1 else z
def kIs (o : Option Nat) (x y : Int32) : Int32 := match o with
  | none => x
  | some _ => y
def kWhy3 (F T : Nat → Int32) (P : Nat → Nat → Int32) : Int32 := kIs (kLow P (kNew F T) (F 7) 30) 3 2
def kWhy2 (F T : Nat → Int32) (P : Nat → Nat → Int32) : Int32 := kPick (kOld P (kNew F T) 30) (fun k => decide (kOldP F T P k)) (kWhy3 F T P)
def kWhy (F T : Nat → Int32) (P : Nat → Nat → Int32) : Int32 := if kRoom F T then kIs (kLow P (F 11) (F 7) 30) (kWhy2 F T P) 0 else kWhy2 F T P
section KW
variable {F T : Nat → Int32} {P : Nat → Nat → Int32} {k : Nat}
theorem kWhy3_n (h : kLow P (kNew F T) (F 7) 30 = none) : kWhy3 F T P = 3 := by simp only [kWhy3, h, kIs]
theorem kWhy3_s (h : kLow P (kNew F T) (F 7) 30 = some k) : kWhy3 F T P = 2 := by simp only [kWhy3, h, kIs]
theorem kWhy2_n (h : kOld P (kNew F T) 30 = none) : kWhy2 F T P = kWhy3 F T P := by simp only [kWhy2, h, kPick]
theorem kWhy2_y (h : kOld P (kNew F T) 30 = some k) (h2 : kOldP F T P k) : kWhy2 F T P = 1 := by simp only [kWhy2, h, kPick]; rw [if_pos (decide_eq_true h2)]
theorem kWhy2_o (h : kOld P (kNew F T) 30 = some k) (h2 : ¬ kOldP F T P k) : kWhy2 F T P = kWhy3 F T P := by simp only [kWhy2, h, kPick]; rw [if_neg (by rw [decide_eq_false h2]; exact Bool.noConfusion)]
theorem kWhy_0 (h1 : kRoom F T) (h : kLow P (F 11) (F 7) 30 = some k) : kWhy F T P = 0 := by rw [kWhy, if_pos h1, h, kIs]
theorem kWhy_r (h1 : ¬ kRoom F T) : kWhy F T P = kWhy2 F T P := by rw [kWhy, if_neg h1]
theorem kWhy_l (h : kLow P (F 11) (F 7) 30 = none) : kWhy F T P = kWhy2 F T P := by
  by_cases h1 : kRoom F T
  · rw [kWhy, if_pos h1, h, kIs]
  · exact kWhy_r h1
end KW
def kSel (F T : Nat → Int32) (P : Nat → Nat → Int32) (y : Int32) : Option Nat := if y = 0 then kLow P (F 11) (F 7) 30 else if y = 1 then kOld P (kNew F T) 30 else if y = 2 then kLow P (kNew F T) (F 7) 30 else kLow P (kNew F T) 0 30
def kAmount (F T : Nat → Int32) (lv x : Int32) : Int32 := if x = 0 then F 6 else if x = 1 then F 3 else if x = 2 then F 4 else if x = 3 then F 7 else if x = 4 then lv else if x = 5 then F 8 else if x = 6 then F 9 else if x = 7 then F 10 else if x = 8 then F 12 else if x = 9 then F 13 else if 0 ≤ x - 10 ∧ x - 10 < nI 6 then (if 0 ≤ x - 10 ∧ x - 10 < nI 6 then T (x - 10).toNatClampNeg else 0) else -2
theorem kSel_lt {F T : Nat → Int32} {P : Nat → Nat → Int32} {y : Int32} {k : Nat} (h : kSel F T P y = some k) : k < 30 := by
  unfold kSel at h
  split at h
  · exact (zBest_lt h).1
  · split at h
    · exact (zBest_lt h).1
    · split at h <;> exact (zBest_lt h).1
section ZK
variable {p : Program} {l : Launch} {e : Env} {R : Room} {s : State} {m : MethodId} {args : Array Value} {below : List Frame} {meth : Method} {c : Code} {H : Heap} {locs : List Loc} {cells slots : Nat} {Q : State → Prop}
variable {pc : Nat} {ls : Array Slot} {rest st0 : List Value} {a : Array Value} {cc : ByteArray} {H0 : Heap}
variable {V : zV} {h : Nat → Nat} {F T : Nat → Int32} {lv : Int32} {Ga Gb Gc : Nat → Int32} {P : Nat → Nat → Int32}
theorem zc_sqe {r : Option Nat} (hr : va_Run p l e R s m args below meth c H locs cells slots 0 0 (F0 m pc ls st0) rest (va_Sq (fun q => q = r) a) (fun _ => False))
    (kk : W p l e R s m args below meth c H locs cells slots Q (F0 m (pc + 3) ls (va_rf r :: rest))) : W p l e R s m args below meth c H locs cells slots Q (F0 m pc ls st0) := zc_sq hr (fun q hq => by rw [hq]; exact kk)
theorem za_o (hP : va_P V.1 vwCl (zaW V h F T lv Ga Gb Gc P) H) : va_at V.1 vwCl (h 0, .inr (0, zaO h F)) H := za_at hP (i := 0) (by decide)
theorem za_t (hP : va_P V.1 vwCl (zaW V h F T lv Ga Gb Gc P) H) : va_at V.1 vwCl (h 1, .inl (V.2.1, 6, .inl T)) H := za_at hP (i := 1) (by decide)
theorem za_l (hP : va_P V.1 vwCl (zaW V h F T lv Ga Gb Gc P) H) : va_at V.1 vwCl (h 2, .inr (2, zlO h lv)) H := za_at hP (i := 2) (by decide)
theorem za_c0 (V : zV) (h : Nat → Nat) (F T : Nat → Int32) (lv : Int32) (Ga Gb Gc : Nat → Int32) (P : Nat → Nat → Int32) : (zaW V h F T lv Ga Gb Gc P)[0]? = some (h 0, .inr (0, zaO h F)) := zWd_at (by decide)
theorem za_c1 (V : zV) (h : Nat → Nat) (F T : Nat → Int32) (lv : Int32) (Ga Gb Gc : Nat → Int32) (P : Nat → Nat → Int32) : (zaW V h F T lv Ga Gb Gc P)[1]? = some (h 1, .inl (V.2.1, 6, .inl T)) := zWd_at (by decide)
theorem za_cs (V : zV) (h : Nat → Nat) (F T : Nat → Int32) (lv : Int32) (Ga Gb Gc : Nat → Int32) (P : Nat → Nat → Int32) {i : Nat} (hi : i < 30) : (zaW V h F T lv Ga Gb Gc P)[i + 6]? = some (h (i + 6), .inr (5, zsO (zch h (i + 1)) (P i))) := zWd_at (p := i + 6) (by omega)
theorem za_ro (hE : zE V s) (hP : va_P V.1 vwCl (zaW V h F T lv Ga Gb Gc P) H) : ∃ cell : Cell, H[h 0]? = some cell ∧ cell.vm.isStatics = false ∧ s.vm.findClass RX0 = some cell.cls := va_recv hE.1 hP (ci := 0) (q0 := 0) (q := (RX0, TX0, 14)) rfl (za_c0 V h F T lv Ga Gb Gc P)
theorem za_rs {i : Nat} (hE : zE V s) (hP : va_P V.1 vwCl (zaW V h F T lv Ga Gb Gc P) H) (hi : i < 30) : ∃ cell : Cell, H[h (i + 6)]? = some cell ∧ cell.vm.isStatics = false ∧ s.vm.findClass RX5 = some cell.cls := va_recv hE.1 hP (ci := 5) (q0 := i + 6) (q := (RX5, TX5, 8)) rfl (za_cs V h F T lv Ga Gb Gc P hi)
end ZK
set_option maxHeartbeats 4000000 in
set_option maxRecDepth 100000 in
theorem c_X0_age (l : Launch) (V : zV) (h : Nat → Nat) (F T : Nat → Int32) (lv : Int32) (Ga Gb Gc : Nat → Int32) (P : Nat → Nat → Int32) (k : Nat) (hk : k < 30) : Met l yX0_age wsX0_age (zR 0 0 0) (zPc V [.ref (h 0), .ref (h (k + 6))] (fun H => va_P V.1 vwCl (zaW V h F T lv Ga Gb Gc P) H)) (vp_Si (fun r => r = (F 6 - P k 6))) 0 0 (fun _ => False) := by
  refine Met.ofW (cc := cX0_age) (maxL := 2) (ret := (some .int)) (by decide) rfl ?_
  intro p e s m args below meth c s₁ B hml hv
  obtain ⟨rfl, hP, hE⟩ := hv
  have hx := B.exec
  have hb := B.bytes
  have hr := B.returns
  have hts := atoms_spec (ws := wsX0_age) B.pre
  have hown : s.vm.findClass RX0 = some m.cls := findClass_of_methodNamed B.named
  have hlocks := B.notSynchronized
  have hl := lv_entry ([.ref (h 0), .ref (h (k + 6))]) (n := 2) (Nat.le_of_ble_eq_true rfl)
  rw [lg_entry_eq]
  generalize (lg_sl ([.ref (h 0), .ref (h (k + 6))]) ++ List.replicate (2 - (lg_sl ([.ref (h 0), .ref (h (k + 6))])).length) Slot.unset).toArray = ls at hl ⊢
  have hl : lv_has ls 2 [(0, .ref (h 0)), (1, .ref (h (k + 6)))] := hl
  refine lv_aload_n hx hb dX0_age_0 rfl (lv_at hl 0 rfl) ?_
  refine zo_get 6 (.int (F 6)) hx hb hts (fun x h => List.mem_cons_of_mem _ (hU_X0 x h)) hown hE (za_o hP) (show vwCl[0]? = some (RX0, TX0, 14) from rfl) (by decide) rfl (hts _ (List.mem_cons_of_mem _ uC_41)) (fun _ h9 => h9) dX0_age_1 ?_
  refine lv_aload_n hx hb dX0_age_4 rfl (lv_at hl 1 rfl) ?_
  refine zo_getN 6 (.int (P k 6)) hx hb hts (fun x h => List.mem_cons_of_mem _ (hU_X5 x h)) hown hE (za_slip hP (i := k) (by omega)) (show vwCl[5]? = some (RX5, TX5, 8) from rfl) (by decide) rfl (List.mem_of_getElem? (i := 11) rfl) (fun _ h9 => h9) dX0_age_5 ?_
  refine lv_isub hx hb dX0_age_8 ?_
  exact zr_si hx hb hr hlocks (by rfl) dX0_age_9
set_option maxHeartbeats 4000000 in
set_option maxRecDepth 100000 in
theorem c_X0_isTooOld (l : Launch) (V : zV) (h : Nat → Nat) (F T : Nat → Int32) (lv : Int32) (Ga Gb Gc : Nat → Int32) (P : Nat → Nat → Int32) (k : Nat) (hk : k < 30) : Met l yX0_isTooOld wsX0_isTooOld (zR 1 0 0) (zPc V [.ref (h 0), .ref (h (k + 6))] (fun H => va_P V.1 vwCl (zaW V h F T lv Ga Gb Gc P) H)) (vp_Si (fun r => r = (if kOldP F T P k then 1 else 0))) 0 0 (fun _ => False) := by
  refine Met.ofW (cc := cX0_isTooOld) (maxL := 2) (ret := (some .boolean)) (by decide) rfl ?_
  intro p e s m args below meth c s₁ B hml hv
  obtain ⟨rfl, hP, hE⟩ := hv
  have hx := B.exec
  have hb := B.bytes
  have hr := B.returns
  have hts := atoms_spec (ws := wsX0_isTooOld) B.pre
  have hown : s.vm.findClass RX0 = some m.cls := findClass_of_methodNamed B.named
  have hlocks := B.notSynchronized
  have hl := lv_entry ([.ref (h 0), .ref (h (k + 6))]) (n := 2) (Nat.le_of_ble_eq_true rfl)
  rw [lg_entry_eq]
  generalize (lg_sl ([.ref (h 0), .ref (h (k + 6))]) ++ List.replicate (2 - (lg_sl ([.ref (h 0), .ref (h (k + 6))])).length) Slot.unset).toArray = ls at hl ⊢
  have hl : lv_has ls 2 [(0, .ref (h 0)), (1, .ref (h (k + 6)))] := hl
  refine lv_aload_n hx hb dX0_isTooOld_0 rfl (lv_at hl 0 rfl) ?_
  refine lv_aload_n hx hb dX0_isTooOld_1 rfl (lv_at hl 1 rfl) ?_
  refine zc_se (va_runV (As := [.ref (h (k + 6))]) (rest := []) ⟨hx, hb, hml, hown, hts⟩ (c_X0_age l V h F T lv Ga Gb Gc P k (by omega)) (cwV 1 hts (zgV_ wsC_all uC_82 uC_90 uC_91 uC_92 uC_73) rfl rfl rfl (by decide +kernel) ⟨Nat.le_of_ble_eq_true rfl, Nat.le_of_ble_eq_true rfl⟩) (zPreV (B := fun H => va_P V.1 vwCl (zaW V h F T lv Ga Gb Gc P) H) hP hE (za_ro hE hP)) rfl rfl hl.1 rfl (lv_room (Nat.le_of_ble_eq_true rfl)) dX0_isTooOld_2 ⟨Nat.le_of_ble_eq_true rfl, Nat.le_of_ble_eq_true rfl⟩) ?_
  refine lv_aload_n hx hb dX0_isTooOld_5 rfl (lv_at hl 0 rfl) ?_
  refine zo_get 0 (.ref (h 1)) hx hb hts (fun x h => List.mem_cons_of_mem _ (hU_X0 x h)) hown hE (za_o hP) (show vwCl[0]? = some (RX0, TX0, 14) from rfl) (by decide) rfl (hts _ (List.mem_cons_of_mem _ uC_14)) (fun _ h9 => h9) dX0_isTooOld_6 ?_
  refine lv_aload_n hx hb dX0_isTooOld_9 rfl (lv_at hl 1 rfl) ?_
  refine zo_getN 3 (.int (P k 3)) hx hb hts (fun x h => List.mem_cons_of_mem _ (hU_X5 x h)) hown hE (za_slip hP (i := k) (by omega)) (show vwCl[5]? = some (RX5, TX5, 8) from rfl) (by decide) rfl (List.mem_of_getElem? (i := 6) rfl) (fun _ h9 => h9) dX0_isTooOld_10 ?_
  refine lv_iconst (v := 1) hx hb dX0_isTooOld_13 (by decide +kernel) ?_
  refine lv_icmp_ne (tgt := 21) hx hb dX0_isTooOld_14 (by decide) (fun c_14 => ?_) (fun c_14 => ?_)
  · refine lv_iconst (v := 0) hx hb dX0_isTooOld_21 (by decide +kernel) ?_
    refine zc_se (va_runSN (As := [.ref (h 1), .int 0]) (rest := [.int (F 6 - P k 6)]) ⟨hx, hb, hml, hown, hts⟩ (c_X7_valueAt l V (h 1) 6 T 0 (by first | decide | omega)) ⟨va_cnB 2 hts (zgB_ wsC_all uC_54) rfl rfl rfl (hE.2 (.methodLinkNest RX0 88 yX7_valueAt "DrawerSlips") (List.mem_of_getElem? (i := 45) rfl)) (hts _ (List.mem_cons_of_mem _ uC_25)) (by decide +kernel) ⟨Nat.le_of_ble_eq_true rfl, Nat.le_of_ble_eq_true rfl⟩, (hts _ (List.mem_cons_of_mem _ uC_57)), trivial⟩ (zPsS (B := fun U => zRd U U.heap (h 1) 6 T) (fun _ _ _ _ h => zRd_calling h) (fun U hU hvm => by rw [hU]; exact zRd.moved hvm (zRd_of hE (za_t hP))) hE) rfl rfl hl.1 rfl (lv_room (Nat.le_of_ble_eq_true rfl)) dX0_isTooOld_22 ⟨Nat.le_of_ble_eq_true rfl, Nat.le_of_ble_eq_true rfl⟩) ?_
    refine zt_i (z_vat (f := T) (k := 0) (n := 6) (by omega) (by first | decide | omega)) ?_
    refine lv_icmp_lt (tgt := 32) hx hb dX0_isTooOld_25 (by decide) (fun c_25 => ?_) (fun c_25 => ?_)
    · refine lv_iconst (v := 0) hx hb dX0_isTooOld_32 (by decide +kernel) ?_
      exact zr_sz hx hb hr hlocks (by first | exact Or.inl rfl | exact Or.inr rfl | exact z_ite01 | assumption) ((if_neg (fun h => z_lt' c_25 (by have h2 : T (if P k 3 = 1 then 1 else 0) ≤ F 6 - P k 6 := h; rw [(if_neg c_14)] at h2; exact h2))).symm) dX0_isTooOld_33
    · refine lv_iconst (v := 1) hx hb dX0_isTooOld_28 (by decide +kernel) ?_
      refine lv_goto (tgt := 33) hx hb dX0_isTooOld_29 (by decide) ?_
      exact zr_sz hx hb hr hlocks (by first | exact Or.inl rfl | exact Or.inr rfl | exact z_ite01 | assumption) ((if_pos (by show T (if P k 3 = 1 then 1 else 0) ≤ F 6 - P k 6; rw [(if_neg c_14)]; exact z_nlt c_25)).symm) dX0_isTooOld_33
  · refine lv_iconst (v := 1) hx hb dX0_isTooOld_17 (by decide +kernel) ?_
    refine lv_goto (tgt := 22) hx hb dX0_isTooOld_18 (by decide) ?_
    refine zc_se (va_runSN (As := [.ref (h 1), .int 1]) (rest := [.int (F 6 - P k 6)]) ⟨hx, hb, hml, hown, hts⟩ (c_X7_valueAt l V (h 1) 6 T 1 (by first | decide | omega)) ⟨va_cnB 2 hts (zgB_ wsC_all uC_54) rfl rfl rfl (hE.2 (.methodLinkNest RX0 88 yX7_valueAt "DrawerSlips") (List.mem_of_getElem? (i := 45) rfl)) (hts _ (List.mem_cons_of_mem _ uC_25)) (by decide +kernel) ⟨Nat.le_of_ble_eq_true rfl, Nat.le_of_ble_eq_true rfl⟩, (hts _ (List.mem_cons_of_mem _ uC_57)), trivial⟩ (zPsS (B := fun U => zRd U U.heap (h 1) 6 T) (fun _ _ _ _ h => zRd_calling h) (fun U hU hvm => by rw [hU]; exact zRd.moved hvm (zRd_of hE (za_t hP))) hE) rfl rfl hl.1 rfl (lv_room (Nat.le_of_ble_eq_true rfl)) dX0_isTooOld_22 ⟨Nat.le_of_ble_eq_true rfl, Nat.le_of_ble_eq_true rfl⟩) ?_
    refine zt_i (z_vat (f := T) (k := 1) (n := 6) (by omega) (by first | decide | omega)) ?_
    refine lv_icmp_lt (tgt := 32) hx hb dX0_isTooOld_25 (by decide) (fun c_25 => ?_) (fun c_25 => ?_)
    · refine lv_iconst (v := 0) hx hb dX0_isTooOld_32 (by decide +kernel) ?_
      exact zr_sz hx hb hr hlocks (by first | exact Or.inl rfl | exact Or.inr rfl | exact z_ite01 | assumption) ((if_neg (fun h => z_lt' c_25 (by have h2 : T (if P k 3 = 1 then 1 else 0) ≤ F 6 - P k 6 := h; rw [(if_pos c_14)] at h2; exact h2))).symm) dX0_isTooOld_33
    · refine lv_iconst (v := 1) hx hb dX0_isTooOld_28 (by decide +kernel) ?_
      refine lv_goto (tgt := 33) hx hb dX0_isTooOld_29 (by decide) ?_
      exact zr_sz hx hb hr hlocks (by first | exact Or.inl rfl | exact Or.inr rfl | exact z_ite01 | assumption) ((if_pos (by show T (if P k 3 = 1 then 1 else 0) ≤ F 6 - P k 6; rw [(if_pos c_14)]; exact z_nlt c_25)).symm) dX0_isTooOld_33
set_option maxHeartbeats 4000000 in
set_option maxRecDepth 100000 in
theorem c_X0_amount (l : Launch) (V : zV) (h : Nat → Nat) (F T : Nat → Int32) (lv : Int32) (Ga Gb Gc : Nat → Int32) (P : Nat → Nat → Int32) (x : Int32) : Met l yX0_amount wsX0_amount (zR 1 0 0) (zPc V [.ref (h 0), .int x] (fun H => va_P V.1 vwCl (zaW V h F T lv Ga Gb Gc P) H)) (vp_Si (fun r => r = (kAmount F T lv x))) 0 0 (fun _ => False) := by
  refine Met.ofW (cc := cX0_amount) (maxL := 2) (ret := (some .int)) (by decide) rfl ?_
  intro p e s m args below meth c s₁ B hml hv
  obtain ⟨rfl, hP, hE⟩ := hv
  have hx := B.exec
  have hb := B.bytes
  have hr := B.returns
  have hts := atoms_spec (ws := wsX0_amount) B.pre
  have hown : s.vm.findClass RX0 = some m.cls := findClass_of_methodNamed B.named
  have hlocks := B.notSynchronized
  have hl := lv_entry ([.ref (h 0), .int x]) (n := 2) (Nat.le_of_ble_eq_true rfl)
  rw [lg_entry_eq]
  generalize (lg_sl ([.ref (h 0), .int x]) ++ List.replicate (2 - (lg_sl ([.ref (h 0), .int x])).length) Slot.unset).toArray = ls at hl ⊢
  have hl : lv_has ls 2 [(0, .ref (h 0)), (1, .int x)] := hl
  refine lv_iload_n hx hb dX0_amount_0 rfl (lv_at hl 1 rfl) ?_
  rcases z_rng x 10 (by decide) with ⟨k_, hk_, hc_⟩ | hc_
  · rcases (show k_ = 0 ∨ k_ = 1 ∨ k_ = 2 ∨ k_ = 3 ∨ k_ = 4 ∨ k_ = 5 ∨ k_ = 6 ∨ k_ = 7 ∨ k_ = 8 ∨ k_ = 9 by omega) with rfl | rfl | rfl | rfl | rfl | rfl | rfl | rfl | rfl | rfl
    · have hc_ : x = 0 := hc_
      refine lv_tableIn (off := 55) (tgt := 56) hx hb dX0_amount_1 (by rw [hc_]; decide) (by rw [hc_]; decide) (by rw [hc_]; rfl) (by decide) ?_
      refine lv_aload_n hx hb dX0_amount_56 rfl (lv_at hl 0 rfl) ?_
      refine zo_get 6 (.int (F 6)) hx hb hts (fun x h => List.mem_cons_of_mem _ (hU_X0 x h)) hown hE (za_o hP) (show vwCl[0]? = some (RX0, TX0, 14) from rfl) (by decide) rfl (hts _ (List.mem_cons_of_mem _ uC_41)) (fun _ h9 => h9) dX0_amount_57 ?_
      exact zr_si hx hb hr hlocks (by subst hc_; rfl) dX0_amount_60
    · have hc_ : x = 1 := hc_
      refine lv_tableIn (off := 60) (tgt := 61) hx hb dX0_amount_1 (by rw [hc_]; decide) (by rw [hc_]; decide) (by rw [hc_]; rfl) (by decide) ?_
      refine lv_aload_n hx hb dX0_amount_61 rfl (lv_at hl 0 rfl) ?_
      refine zo_get 3 (.int (F 3)) hx hb hts (fun x h => List.mem_cons_of_mem _ (hU_X0 x h)) hown hE (za_o hP) (show vwCl[0]? = some (RX0, TX0, 14) from rfl) (by decide) rfl (hts _ (List.mem_cons_of_mem _ uC_38)) (fun _ h9 => h9) dX0_amount_62 ?_
      exact zr_si hx hb hr hlocks (by subst hc_; rfl) dX0_amount_65
    · have hc_ : x = 2 := hc_
      refine lv_tableIn (off := 65) (tgt := 66) hx hb dX0_amount_1 (by rw [hc_]; decide) (by rw [hc_]; decide) (by rw [hc_]; rfl) (by decide) ?_
      refine lv_aload_n hx hb dX0_amount_66 rfl (lv_at hl 0 rfl) ?_
      refine zo_get 4 (.int (F 4)) hx hb hts (fun x h => List.mem_cons_of_mem _ (hU_X0 x h)) hown hE (za_o hP) (show vwCl[0]? = some (RX0, TX0, 14) from rfl) (by decide) rfl (hts _ (List.mem_cons_of_mem _ uC_39)) (fun _ h9 => h9) dX0_amount_67 ?_
      exact zr_si hx hb hr hlocks (by subst hc_; rfl) dX0_amount_70
    · have hc_ : x = 3 := hc_
      refine lv_tableIn (off := 70) (tgt := 71) hx hb dX0_amount_1 (by rw [hc_]; decide) (by rw [hc_]; decide) (by rw [hc_]; rfl) (by decide) ?_
      refine lv_aload_n hx hb dX0_amount_71 rfl (lv_at hl 0 rfl) ?_
      refine zo_get 7 (.int (F 7)) hx hb hts (fun x h => List.mem_cons_of_mem _ (hU_X0 x h)) hown hE (za_o hP) (show vwCl[0]? = some (RX0, TX0, 14) from rfl) (by decide) rfl (hts _ (List.mem_cons_of_mem _ uC_42)) (fun _ h9 => h9) dX0_amount_72 ?_
      exact zr_si hx hb hr hlocks (by subst hc_; rfl) dX0_amount_75
    · have hc_ : x = 4 := hc_
      refine lv_tableIn (off := 75) (tgt := 76) hx hb dX0_amount_1 (by rw [hc_]; decide) (by rw [hc_]; decide) (by rw [hc_]; rfl) (by decide) ?_
      refine lv_aload_n hx hb dX0_amount_76 rfl (lv_at hl 0 rfl) ?_
      refine zo_get 2 (.ref (h 2)) hx hb hts (fun x h => List.mem_cons_of_mem _ (hU_X0 x h)) hown hE (za_o hP) (show vwCl[0]? = some (RX0, TX0, 14) from rfl) (by decide) rfl (hts _ (List.mem_cons_of_mem _ uC_18)) (fun _ h9 => h9) dX0_amount_77 ?_
      refine zo_getN 3 (.int lv) hx hb hts (fun x h => List.mem_cons_of_mem _ (hU_X2 x h)) hown hE (za_l hP) (show vwCl[2]? = some (RX2, TX2, 4) from rfl) (by decide) rfl (List.mem_of_getElem? (i := 1) rfl) (fun _ h9 => h9) dX0_amount_80 ?_
      exact zr_si hx hb hr hlocks (by subst hc_; rfl) dX0_amount_83
    · have hc_ : x = 5 := hc_
      refine lv_tableIn (off := 83) (tgt := 84) hx hb dX0_amount_1 (by rw [hc_]; decide) (by rw [hc_]; decide) (by rw [hc_]; rfl) (by decide) ?_
      refine lv_aload_n hx hb dX0_amount_84 rfl (lv_at hl 0 rfl) ?_
      refine zo_get 8 (.int (F 8)) hx hb hts (fun x h => List.mem_cons_of_mem _ (hU_X0 x h)) hown hE (za_o hP) (show vwCl[0]? = some (RX0, TX0, 14) from rfl) (by decide) rfl (hts _ (List.mem_cons_of_mem _ uC_43)) (fun _ h9 => h9) dX0_amount_85 ?_
      exact zr_si hx hb hr hlocks (by subst hc_; rfl) dX0_amount_88
    · have hc_ : x = 6 := hc_
      refine lv_tableIn (off := 88) (tgt := 89) hx hb dX0_amount_1 (by rw [hc_]; decide) (by rw [hc_]; decide) (by rw [hc_]; rfl) (by decide) ?_
      refine lv_aload_n hx hb dX0_amount_89 rfl (lv_at hl 0 rfl) ?_
      refine zo_get 9 (.int (F 9)) hx hb hts (fun x h => List.mem_cons_of_mem _ (hU_X0 x h)) hown hE (za_o hP) (show vwCl[0]? = some (RX0, TX0, 14) from rfl) (by decide) rfl (hts _ (List.mem_cons_of_mem _ uC_44)) (fun _ h9 => h9) dX0_amount_90 ?_
      exact zr_si hx hb hr hlocks (by subst hc_; rfl) dX0_amount_93
    · have hc_ : x = 7 := hc_
      refine lv_tableIn (off := 93) (tgt := 94) hx hb dX0_amount_1 (by rw [hc_]; decide) (by rw [hc_]; decide) (by rw [hc_]; rfl) (by decide) ?_
      refine lv_aload_n hx hb dX0_amount_94 rfl (lv_at hl 0 rfl) ?_
      refine zo_get 10 (.int (F 10)) hx hb hts (fun x h => List.mem_cons_of_mem _ (hU_X0 x h)) hown hE (za_o hP) (show vwCl[0]? = some (RX0, TX0, 14) from rfl) (by decide) rfl (hts _ (List.mem_cons_of_mem _ uC_45)) (fun _ h9 => h9) dX0_amount_95 ?_
      exact zr_si hx hb hr hlocks (by subst hc_; rfl) dX0_amount_98
    · have hc_ : x = 8 := hc_
      refine lv_tableIn (off := 98) (tgt := 99) hx hb dX0_amount_1 (by rw [hc_]; decide) (by rw [hc_]; decide) (by rw [hc_]; rfl) (by decide) ?_
      refine lv_aload_n hx hb dX0_amount_99 rfl (lv_at hl 0 rfl) ?_
      refine zo_get 12 (.int (F 12)) hx hb hts (fun x h => List.mem_cons_of_mem _ (hU_X0 x h)) hown hE (za_o hP) (show vwCl[0]? = some (RX0, TX0, 14) from rfl) (by decide) rfl (hts _ (List.mem_cons_of_mem _ uC_47)) (fun _ h9 => h9) dX0_amount_100 ?_
      exact zr_si hx hb hr hlocks (by subst hc_; rfl) dX0_amount_103
    · have hc_ : x = 9 := hc_
      refine lv_tableIn (off := 103) (tgt := 104) hx hb dX0_amount_1 (by rw [hc_]; decide) (by rw [hc_]; decide) (by rw [hc_]; rfl) (by decide) ?_
      refine lv_aload_n hx hb dX0_amount_104 rfl (lv_at hl 0 rfl) ?_
      refine zo_get 13 (.int (F 13)) hx hb hts (fun x h => List.mem_cons_of_mem _ (hU_X0 x h)) hown hE (za_o hP) (show vwCl[0]? = some (RX0, TX0, 14) from rfl) (by decide) rfl (hts _ (List.mem_cons_of_mem _ uC_48)) (fun _ h9 => h9) dX0_amount_105 ?_
      exact zr_si hx hb hr hlocks (by subst hc_; rfl) dX0_amount_108
  · have hne_ : ¬ x = 0 ∧ ¬ x = 1 ∧ ¬ x = 2 ∧ ¬ x = 3 ∧ ¬ x = 4 ∧ ¬ x = 5 ∧ ¬ x = 6 ∧ ¬ x = 7 ∧ ¬ x = 8 ∧ ¬ x = 9 := by
      refine ⟨?_, ?_, ?_, ?_, ?_, ?_, ?_, ?_, ?_, ?_⟩ <;> (intro e_; rw [e_] at hc_; revert hc_; decide)
    refine lv_tableOut (tgt := 109) hx hb dX0_amount_1 hc_ (by decide) ?_
    refine lv_aload_n hx hb dX0_amount_109 rfl (lv_at hl 0 rfl) ?_
    refine zo_get 0 (.ref (h 1)) hx hb hts (fun x h => List.mem_cons_of_mem _ (hU_X0 x h)) hown hE (za_o hP) (show vwCl[0]? = some (RX0, TX0, 14) from rfl) (by decide) rfl (hts _ (List.mem_cons_of_mem _ uC_14)) (fun _ h9 => h9) dX0_amount_110 ?_
    refine lv_iload_n hx hb dX0_amount_113 rfl (lv_at hl 1 rfl) ?_
    refine lv_bipush (v := 10) hx hb dX0_amount_114 (by decide +kernel) ?_
    refine lv_isub hx hb dX0_amount_116 ?_
    refine zc_se (va_runSN (As := [.ref (h 1), .int (x - 10)]) (rest := []) ⟨hx, hb, hml, hown, hts⟩ (c_X7_isIndexOf l V (h 1) 6 T (x - 10) (by first | decide | omega)) ⟨va_cnB 2 hts (zgB_ wsC_all uC_53) rfl rfl rfl (hE.2 (.methodLinkNest RX0 81 yX7_isIndexOf "DrawerSlips") (List.mem_of_getElem? (i := 44) rfl)) (hts _ (List.mem_cons_of_mem _ uC_25)) (by decide +kernel) ⟨Nat.le_of_ble_eq_true rfl, Nat.le_of_ble_eq_true rfl⟩, (hts _ (List.mem_cons_of_mem _ uC_56)), trivial⟩ (zPsS (B := fun U => zRd U U.heap (h 1) 6 T) (fun _ _ _ _ h => zRd_calling h) (fun U hU hvm => by rw [hU]; exact zRd.moved hvm (zRd_of hE (za_t hP))) hE) rfl rfl hl.1 rfl (lv_room (Nat.le_of_ble_eq_true rfl)) dX0_amount_117 ⟨Nat.le_of_ble_eq_true rfl, Nat.le_of_ble_eq_true rfl⟩) ?_
    refine zbp_eq (P := 0 ≤ x - 10 ∧ x - 10 < nI 6) (tgt := 137) hx hb dX0_amount_120 (by decide) (fun c_120 => ?_) (fun c_120 => ?_)
    · refine lv_bipush (v := (-2)) hx hb dX0_amount_137 (by decide +kernel) ?_
      exact zr_si hx hb hr hlocks (by rw [kAmount]; simp only [if_neg hne_.1, if_neg hne_.2.1, if_neg hne_.2.2.1, if_neg hne_.2.2.2.1, if_neg hne_.2.2.2.2.1, if_neg hne_.2.2.2.2.2.1, if_neg hne_.2.2.2.2.2.2.1, if_neg hne_.2.2.2.2.2.2.2.1, if_neg hne_.2.2.2.2.2.2.2.2.1, if_neg hne_.2.2.2.2.2.2.2.2.2]; rw [if_neg c_120]) dX0_amount_139
    · refine lv_aload_n hx hb dX0_amount_123 rfl (lv_at hl 0 rfl) ?_
      refine zo_get 0 (.ref (h 1)) hx hb hts (fun x h => List.mem_cons_of_mem _ (hU_X0 x h)) hown hE (za_o hP) (show vwCl[0]? = some (RX0, TX0, 14) from rfl) (by decide) rfl (hts _ (List.mem_cons_of_mem _ uC_14)) (fun _ h9 => h9) dX0_amount_124 ?_
      refine lv_iload_n hx hb dX0_amount_127 rfl (lv_at hl 1 rfl) ?_
      refine lv_bipush (v := 10) hx hb dX0_amount_128 (by decide +kernel) ?_
      refine lv_isub hx hb dX0_amount_130 ?_
      refine zc_se (va_runSN (As := [.ref (h 1), .int (x - 10)]) (rest := []) ⟨hx, hb, hml, hown, hts⟩ (c_X7_valueAt l V (h 1) 6 T (x - 10) (by first | decide | omega)) ⟨va_cnB 2 hts (zgB_ wsC_all uC_54) rfl rfl rfl (hE.2 (.methodLinkNest RX0 88 yX7_valueAt "DrawerSlips") (List.mem_of_getElem? (i := 45) rfl)) (hts _ (List.mem_cons_of_mem _ uC_25)) (by decide +kernel) ⟨Nat.le_of_ble_eq_true rfl, Nat.le_of_ble_eq_true rfl⟩, (hts _ (List.mem_cons_of_mem _ uC_57)), trivial⟩ (zPsS (B := fun U => zRd U U.heap (h 1) 6 T) (fun _ _ _ _ h => zRd_calling h) (fun U hU hvm => by rw [hU]; exact zRd.moved hvm (zRd_of hE (za_t hP))) hE) rfl rfl hl.1 rfl (lv_room (Nat.le_of_ble_eq_true rfl)) dX0_amount_131 ⟨Nat.le_of_ble_eq_true rfl, Nat.le_of_ble_eq_true rfl⟩) ?_
      refine lv_goto (tgt := 139) hx hb dX0_amount_134 (by decide) ?_
      exact zr_si hx hb hr hlocks (by rw [kAmount]; simp only [if_neg hne_.1, if_neg hne_.2.1, if_neg hne_.2.2.1, if_neg hne_.2.2.2.1, if_neg hne_.2.2.2.2.1, if_neg hne_.2.2.2.2.2.1, if_neg hne_.2.2.2.2.2.2.1, if_neg hne_.2.2.2.2.2.2.2.1, if_neg hne_.2.2.2.2.2.2.2.2.1, if_neg hne_.2.2.2.2.2.2.2.2.2]; rw [if_pos c_120, if_pos c_120]) dX0_amount_139
set_option maxHeartbeats 4000000 in
set_option maxRecDepth 100000 in
theorem c_X0_slipsThatWait (l : Launch) (V : zV) (h : Nat → Nat) (F T : Nat → Int32) (lv : Int32) (Ga Gb Gc : Nat → Int32) (P : Nat → Nat → Int32) : Met l yX0_slipsThatWait wsX0_slipsThatWait (zR 0 0 0) (zPc V [.ref (h 0)] (fun H => va_P V.1 vwCl (zaW V h F T lv Ga Gb Gc P) H)) (vp_Si (fun r => r = (F 3 + F 4))) 0 0 (fun _ => False) := by
  refine Met.ofW (cc := cX0_slipsThatWait) (maxL := 1) (ret := (some .int)) (by decide) rfl ?_
  intro p e s m args below meth c s₁ B hml hv
  obtain ⟨rfl, hP, hE⟩ := hv
  have hx := B.exec
  have hb := B.bytes
  have hr := B.returns
  have hts := atoms_spec (ws := wsX0_slipsThatWait) B.pre
  have hown : s.vm.findClass RX0 = some m.cls := findClass_of_methodNamed B.named
  have hlocks := B.notSynchronized
  have hl := lv_entry ([.ref (h 0)]) (n := 1) (Nat.le_of_ble_eq_true rfl)
  rw [lg_entry_eq]
  generalize (lg_sl ([.ref (h 0)]) ++ List.replicate (1 - (lg_sl ([.ref (h 0)])).length) Slot.unset).toArray = ls at hl ⊢
  have hl : lv_has ls 1 [(0, .ref (h 0))] := hl
  refine lv_aload_n hx hb dX0_slipsThatWait_0 rfl (lv_at hl 0 rfl) ?_
  refine zo_get 3 (.int (F 3)) hx hb hts (fun x h => List.mem_cons_of_mem _ (hU_X0 x h)) hown hE (za_o hP) (show vwCl[0]? = some (RX0, TX0, 14) from rfl) (by decide) rfl (hts _ (List.mem_cons_of_mem _ uC_38)) (fun _ h9 => h9) dX0_slipsThatWait_1 ?_
  refine lv_aload_n hx hb dX0_slipsThatWait_4 rfl (lv_at hl 0 rfl) ?_
  refine zo_get 4 (.int (F 4)) hx hb hts (fun x h => List.mem_cons_of_mem _ (hU_X0 x h)) hown hE (za_o hP) (show vwCl[0]? = some (RX0, TX0, 14) from rfl) (by decide) rfl (hts _ (List.mem_cons_of_mem _ uC_39)) (fun _ h9 => h9) dX0_slipsThatWait_5 ?_
  refine lv_iadd hx hb dX0_slipsThatWait_8 ?_
  exact zr_si hx hb hr hlocks (by rfl) dX0_slipsThatWait_9
set_option maxHeartbeats 4000000 in
set_option maxRecDepth 100000 in
theorem c_X0_newSort (l : Launch) (V : zV) (h : Nat → Nat) (F T : Nat → Int32) (lv : Int32) (Ga Gb Gc : Nat → Int32) (P : Nat → Nat → Int32) : Met l yX0_newSort wsX0_newSort (zR 1 0 0) (zPc V [.ref (h 0)] (fun H => va_P V.1 vwCl (zaW V h F T lv Ga Gb Gc P) H)) (vp_Si (fun r => r = (kNew F T))) 0 0 (fun _ => False) := by
  refine Met.ofW (cc := cX0_newSort) (maxL := 1) (ret := (some .int)) (by decide) rfl ?_
  intro p e s m args below meth c s₁ B hml hv
  obtain ⟨rfl, hP, hE⟩ := hv
  have hx := B.exec
  have hb := B.bytes
  have hr := B.returns
  have hts := atoms_spec (ws := wsX0_newSort) B.pre
  have hown : s.vm.findClass RX0 = some m.cls := findClass_of_methodNamed B.named
  have hlocks := B.notSynchronized
  have hl := lv_entry ([.ref (h 0)]) (n := 1) (Nat.le_of_ble_eq_true rfl)
  rw [lg_entry_eq]
  generalize (lg_sl ([.ref (h 0)]) ++ List.replicate (1 - (lg_sl ([.ref (h 0)])).length) Slot.unset).toArray = ls at hl ⊢
  have hl : lv_has ls 1 [(0, .ref (h 0))] := hl
  refine lv_aload_n hx hb dX0_newSort_0 rfl (lv_at hl 0 rfl) ?_
  refine zo_get 4 (.int (F 4)) hx hb hts (fun x h => List.mem_cons_of_mem _ (hU_X0 x h)) hown hE (za_o hP) (show vwCl[0]? = some (RX0, TX0, 14) from rfl) (by decide) rfl (hts _ (List.mem_cons_of_mem _ uC_39)) (fun _ h9 => h9) dX0_newSort_1 ?_
  refine lv_if_ne (tgt := 9) hx hb dX0_newSort_4 (by decide) (fun c_4 => ?_) (fun c_4 => ?_)
  · refine lv_aload_n hx hb dX0_newSort_9 rfl (lv_at hl 0 rfl) ?_
    refine zo_get 3 (.int (F 3)) hx hb hts (fun x h => List.mem_cons_of_mem _ (hU_X0 x h)) hown hE (za_o hP) (show vwCl[0]? = some (RX0, TX0, 14) from rfl) (by decide) rfl (hts _ (List.mem_cons_of_mem _ uC_38)) (fun _ h9 => h9) dX0_newSort_10 ?_
    refine lv_if_ne (tgt := 18) hx hb dX0_newSort_13 (by decide) (fun c_13 => ?_) (fun c_13 => ?_)
    · refine lv_aload_n hx hb dX0_newSort_18 rfl (lv_at hl 0 rfl) ?_
      refine zo_get 13 (.int (F 13)) hx hb hts (fun x h => List.mem_cons_of_mem _ (hU_X0 x h)) hown hE (za_o hP) (show vwCl[0]? = some (RX0, TX0, 14) from rfl) (by decide) rfl (hts _ (List.mem_cons_of_mem _ uC_48)) (fun _ h9 => h9) dX0_newSort_19 ?_
      refine lv_aload_n hx hb dX0_newSort_22 rfl (lv_at hl 0 rfl) ?_
      refine zo_get 0 (.ref (h 1)) hx hb hts (fun x h => List.mem_cons_of_mem _ (hU_X0 x h)) hown hE (za_o hP) (show vwCl[0]? = some (RX0, TX0, 14) from rfl) (by decide) rfl (hts _ (List.mem_cons_of_mem _ uC_14)) (fun _ h9 => h9) dX0_newSort_23 ?_
      refine lv_iconst (v := 3) hx hb dX0_newSort_26 (by decide +kernel) ?_
      refine zc_se (va_runSN (As := [.ref (h 1), .int 3]) (rest := [.int (F 13)]) ⟨hx, hb, hml, hown, hts⟩ (c_X7_valueAt l V (h 1) 6 T 3 (by first | decide | omega)) ⟨va_cnB 2 hts (zgB_ wsC_all uC_54) rfl rfl rfl (hE.2 (.methodLinkNest RX0 88 yX7_valueAt "DrawerSlips") (List.mem_of_getElem? (i := 45) rfl)) (hts _ (List.mem_cons_of_mem _ uC_25)) (by decide +kernel) ⟨Nat.le_of_ble_eq_true rfl, Nat.le_of_ble_eq_true rfl⟩, (hts _ (List.mem_cons_of_mem _ uC_57)), trivial⟩ (zPsS (B := fun U => zRd U U.heap (h 1) 6 T) (fun _ _ _ _ h => zRd_calling h) (fun U hU hvm => by rw [hU]; exact zRd.moved hvm (zRd_of hE (za_t hP))) hE) rfl rfl hl.1 rfl (lv_room (Nat.le_of_ble_eq_true rfl)) dX0_newSort_27 ⟨Nat.le_of_ble_eq_true rfl, Nat.le_of_ble_eq_true rfl⟩) ?_
      refine zt_i (z_vat (f := T) (k := 3) (n := 6) (by omega) (by first | decide | omega)) ?_
      refine lv_icmp_lt (tgt := 37) hx hb dX0_newSort_30 (by decide) (fun c_30 => ?_) (fun c_30 => ?_)
      · refine lv_iconst (v := 0) hx hb dX0_newSort_37 (by decide +kernel) ?_
        exact zr_si hx hb hr hlocks (((if_neg c_4).trans ((if_neg c_13).trans (if_neg (z_lt' c_30)))).symm) dX0_newSort_38
      · refine lv_iconst (v := 1) hx hb dX0_newSort_33 (by decide +kernel) ?_
        refine lv_goto (tgt := 38) hx hb dX0_newSort_34 (by decide) ?_
        exact zr_si hx hb hr hlocks (((if_neg c_4).trans ((if_neg c_13).trans (if_pos (z_nlt c_30)))).symm) dX0_newSort_38
    · refine lv_iconst (v := 1) hx hb dX0_newSort_16 (by decide +kernel) ?_
      exact zr_si hx hb hr hlocks (((if_neg c_4).trans (if_pos c_13)).symm) dX0_newSort_17
  · refine lv_iconst (v := 0) hx hb dX0_newSort_7 (by decide +kernel) ?_
    exact zr_si hx hb hr hlocks ((if_pos c_4).symm) dX0_newSort_8
set_option maxHeartbeats 4000000 in
set_option maxRecDepth 100000 in
theorem c_X0_drawersTo (l : Launch) (V : zV) (h : Nat → Nat) (F T : Nat → Int32) (lv : Int32) (Ga Gb Gc : Nat → Int32) (P : Nat → Nat → Int32) (k : Nat) (hk : k < 30) : Met l yX0_drawersTo wsX0_drawersTo (zR 1 0 0) (zPc V [.ref (h 0), .ref (h (k + 6))] (fun H => va_P V.1 vwCl (zaW V h F T lv Ga Gb Gc P) H)) (vp_Si (fun r => r = (kFar F P k))) 0 0 (fun _ => False) := by
  refine Met.ofW (cc := cX0_drawersTo) (maxL := 2) (ret := (some .int)) (by decide) rfl ?_
  intro p e s m args below meth c s₁ B hml hv
  obtain ⟨rfl, hP, hE⟩ := hv
  have hx := B.exec
  have hb := B.bytes
  have hr := B.returns
  have hts := atoms_spec (ws := wsX0_drawersTo) B.pre
  have hown : s.vm.findClass RX0 = some m.cls := findClass_of_methodNamed B.named
  have hlocks := B.notSynchronized
  have hl := lv_entry ([.ref (h 0), .ref (h (k + 6))]) (n := 2) (Nat.le_of_ble_eq_true rfl)
  rw [lg_entry_eq]
  generalize (lg_sl ([.ref (h 0), .ref (h (k + 6))]) ++ List.replicate (2 - (lg_sl ([.ref (h 0), .ref (h (k + 6))])).length) Slot.unset).toArray = ls at hl ⊢
  have hl : lv_has ls 2 [(0, .ref (h 0)), (1, .ref (h (k + 6)))] := hl
  refine lv_aload_n hx hb dX0_drawersTo_0 rfl (lv_at hl 1 rfl) ?_
  refine zo_getN 4 (.int (P k 4)) hx hb hts (fun x h => List.mem_cons_of_mem _ (hU_X5 x h)) hown hE (za_slip hP (i := k) (by omega)) (show vwCl[5]? = some (RX5, TX5, 8) from rfl) (by decide) rfl (List.mem_of_getElem? (i := 8) rfl) (fun _ h9 => h9) dX0_drawersTo_1 ?_
  refine lv_aload_n hx hb dX0_drawersTo_4 rfl (lv_at hl 0 rfl) ?_
  refine zo_get 7 (.int (F 7)) hx hb hts (fun x h => List.mem_cons_of_mem _ (hU_X0 x h)) hown hE (za_o hP) (show vwCl[0]? = some (RX0, TX0, 14) from rfl) (by decide) rfl (hts _ (List.mem_cons_of_mem _ uC_42)) (fun _ h9 => h9) dX0_drawersTo_5 ?_
  refine lv_isub hx hb dX0_drawersTo_8 ?_
  refine va_mabs hx hb (hml.trans hl.1.symm) hown (hts _ (List.mem_cons_of_mem _ uC_124)) (hts _ (List.mem_cons_of_mem _ uC_125)) (hts _ (List.mem_cons_of_mem _ uC_126)) (hts _ (List.mem_cons_of_mem _ uC_127)) (Nat.le_of_ble_eq_true rfl) (Nat.le_of_ble_eq_true rfl) (Nat.le_of_ble_eq_true rfl) (Nat.le_of_ble_eq_true rfl) dX0_drawersTo_9 ?_
  exact zr_si hx hb hr hlocks (by rfl) dX0_drawersTo_12
set_option maxHeartbeats 4000000 in
set_option maxRecDepth 100000 in
theorem c_X0_minutesFor (l : Launch) (V : zV) (h : Nat → Nat) (F T : Nat → Int32) (lv : Int32) (Ga Gb Gc : Nat → Int32) (P : Nat → Nat → Int32) (k : Nat) (hk : k < 30) : Met l yX0_minutesFor wsX0_minutesFor (zR 2 0 0) (zPc V [.ref (h 0), .ref (h (k + 6))] (fun H => va_P V.1 vwCl (zaW V h F T lv Ga Gb Gc P) H)) (vp_Si (fun r => r = (kMin F T P k))) 0 0 (fun _ => False) := by
  refine Met.ofW (cc := cX0_minutesFor) (maxL := 2) (ret := (some .int)) (by decide) rfl ?_
  intro p e s m args below meth c s₁ B hml hv
  obtain ⟨rfl, hP, hE⟩ := hv
  have hx := B.exec
  have hb := B.bytes
  have hr := B.returns
  have hts := atoms_spec (ws := wsX0_minutesFor) B.pre
  have hown : s.vm.findClass RX0 = some m.cls := findClass_of_methodNamed B.named
  have hlocks := B.notSynchronized
  have hl := lv_entry ([.ref (h 0), .ref (h (k + 6))]) (n := 2) (Nat.le_of_ble_eq_true rfl)
  rw [lg_entry_eq]
  generalize (lg_sl ([.ref (h 0), .ref (h (k + 6))]) ++ List.replicate (2 - (lg_sl ([.ref (h 0), .ref (h (k + 6))])).length) Slot.unset).toArray = ls at hl ⊢
  have hl : lv_has ls 2 [(0, .ref (h 0)), (1, .ref (h (k + 6)))] := hl
  refine lv_aload_n hx hb dX0_minutesFor_0 rfl (lv_at hl 0 rfl) ?_
  refine lv_aload_n hx hb dX0_minutesFor_1 rfl (lv_at hl 1 rfl) ?_
  refine zc_se (va_runV (As := [.ref (h (k + 6))]) (rest := []) ⟨hx, hb, hml, hown, hts⟩ (c_X0_drawersTo l V h F T lv Ga Gb Gc P k (by omega)) (cwV 1 hts (zgV_ wsC_all uC_123 uC_129 uC_130 uC_131 uC_73) rfl rfl rfl (by decide +kernel) ⟨Nat.le_of_ble_eq_true rfl, Nat.le_of_ble_eq_true rfl⟩) (zPreV (B := fun H => va_P V.1 vwCl (zaW V h F T lv Ga Gb Gc P) H) hP hE (za_ro hE hP)) rfl rfl hl.1 rfl (lv_room (Nat.le_of_ble_eq_true rfl)) dX0_minutesFor_2 ⟨Nat.le_of_ble_eq_true rfl, Nat.le_of_ble_eq_true rfl⟩) ?_
  refine lv_aload_n hx hb dX0_minutesFor_5 rfl (lv_at hl 0 rfl) ?_
  refine zo_get 0 (.ref (h 1)) hx hb hts (fun x h => List.mem_cons_of_mem _ (hU_X0 x h)) hown hE (za_o hP) (show vwCl[0]? = some (RX0, TX0, 14) from rfl) (by decide) rfl (hts _ (List.mem_cons_of_mem _ uC_14)) (fun _ h9 => h9) dX0_minutesFor_6 ?_
  refine lv_iconst (v := 4) hx hb dX0_minutesFor_9 (by decide +kernel) ?_
  refine zc_se (va_runSN (As := [.ref (h 1), .int 4]) (rest := [.int (kFar F P k)]) ⟨hx, hb, hml, hown, hts⟩ (c_X7_valueAt l V (h 1) 6 T 4 (by first | decide | omega)) ⟨va_cnB 2 hts (zgB_ wsC_all uC_54) rfl rfl rfl (hE.2 (.methodLinkNest RX0 88 yX7_valueAt "DrawerSlips") (List.mem_of_getElem? (i := 45) rfl)) (hts _ (List.mem_cons_of_mem _ uC_25)) (by decide +kernel) ⟨Nat.le_of_ble_eq_true rfl, Nat.le_of_ble_eq_true rfl⟩, (hts _ (List.mem_cons_of_mem _ uC_57)), trivial⟩ (zPsS (B := fun U => zRd U U.heap (h 1) 6 T) (fun _ _ _ _ h => zRd_calling h) (fun U hU hvm => by rw [hU]; exact zRd.moved hvm (zRd_of hE (za_t hP))) hE) rfl rfl hl.1 rfl (lv_room (Nat.le_of_ble_eq_true rfl)) dX0_minutesFor_10 ⟨Nat.le_of_ble_eq_true rfl, Nat.le_of_ble_eq_true rfl⟩) ?_
  refine zt_i (z_vat (f := T) (k := 4) (n := 6) (by omega) (by first | decide | omega)) ?_
  refine lv_imul hx hb dX0_minutesFor_13 ?_
  refine lv_aload_n hx hb dX0_minutesFor_14 rfl (lv_at hl 1 rfl) ?_
  refine zo_getN 5 (.int (P k 5)) hx hb hts (fun x h => List.mem_cons_of_mem _ (hU_X5 x h)) hown hE (za_slip hP (i := k) (by omega)) (show vwCl[5]? = some (RX5, TX5, 8) from rfl) (by decide) rfl (List.mem_of_getElem? (i := 10) rfl) (fun _ h9 => h9) dX0_minutesFor_15 ?_
  refine lv_aload_n hx hb dX0_minutesFor_18 rfl (lv_at hl 0 rfl) ?_
  refine zo_get 0 (.ref (h 1)) hx hb hts (fun x h => List.mem_cons_of_mem _ (hU_X0 x h)) hown hE (za_o hP) (show vwCl[0]? = some (RX0, TX0, 14) from rfl) (by decide) rfl (hts _ (List.mem_cons_of_mem _ uC_14)) (fun _ h9 => h9) dX0_minutesFor_19 ?_
  refine lv_iconst (v := 5) hx hb dX0_minutesFor_22 (by decide +kernel) ?_
  refine zc_se (va_runSN (As := [.ref (h 1), .int 5]) (rest := [.int (P k 5), .int ((kFar F P k) * (T 4))]) ⟨hx, hb, hml, hown, hts⟩ (c_X7_valueAt l V (h 1) 6 T 5 (by first | decide | omega)) ⟨va_cnB 2 hts (zgB_ wsC_all uC_54) rfl rfl rfl (hE.2 (.methodLinkNest RX0 88 yX7_valueAt "DrawerSlips") (List.mem_of_getElem? (i := 45) rfl)) (hts _ (List.mem_cons_of_mem _ uC_25)) (by decide +kernel) ⟨Nat.le_of_ble_eq_true rfl, Nat.le_of_ble_eq_true rfl⟩, (hts _ (List.mem_cons_of_mem _ uC_57)), trivial⟩ (zPsS (B := fun U => zRd U U.heap (h 1) 6 T) (fun _ _ _ _ h => zRd_calling h) (fun U hU hvm => by rw [hU]; exact zRd.moved hvm (zRd_of hE (za_t hP))) hE) rfl rfl hl.1 rfl (lv_room (Nat.le_of_ble_eq_true rfl)) dX0_minutesFor_23 ⟨Nat.le_of_ble_eq_true rfl, Nat.le_of_ble_eq_true rfl⟩) ?_
  refine zt_i (z_vat (f := T) (k := 5) (n := 6) (by omega) (by first | decide | omega)) ?_
  refine lv_imul hx hb dX0_minutesFor_26 ?_
  refine lv_iadd hx hb dX0_minutesFor_27 ?_
  exact zr_si hx hb hr hlocks (by rfl) dX0_minutesFor_28
set_option maxHeartbeats 4000000 in
set_option maxRecDepth 100000 in
theorem c_X0_find (l : Launch) (V : zV) (h : Nat → Nat) (F T : Nat → Int32) (lv : Int32) (Ga Gb Gc : Nat → Int32) (P : Nat → Nat → Int32) (x : Int32) : Met l yX0_find wsX0_find (zR 0 0 0) (zPc V [.ref (h 0), .int x] (fun H => va_P V.1 vwCl (zaW V h F T lv Ga Gb Gc P) H)) (va_Sq (fun r => r = zad h (kFind P x 30))) 0 0 (fun _ => False) := by
  refine Met.ofW (cc := cX0_find) (maxL := 3) (ret := (some (.object "DrawerSlips$Slip"))) (by decide) rfl ?_
  intro p e s m args below meth c s₁ B hml hv
  obtain ⟨rfl, hP, hE⟩ := hv
  have hx := B.exec
  have hb := B.bytes
  have hr := B.returns
  have hts := atoms_spec (ws := wsX0_find) B.pre
  have hown : s.vm.findClass RX0 = some m.cls := findClass_of_methodNamed B.named
  have hlocks := B.notSynchronized
  have hl := lv_entry ([.ref (h 0), .int x]) (n := 3) (Nat.le_of_ble_eq_true rfl)
  rw [lg_entry_eq]
  generalize (lg_sl ([.ref (h 0), .int x]) ++ List.replicate (3 - (lg_sl ([.ref (h 0), .int x])).length) Slot.unset).toArray = ls at hl ⊢
  have hl : lv_has ls 3 [(0, .ref (h 0)), (1, .int x)] := hl
  refine lv_aload_n hx hb dX0_find_0 rfl (lv_at hl 0 rfl) ?_
  refine zo_get 1 (.ref (h 6)) hx hb hts (fun x h => List.mem_cons_of_mem _ (hU_X0 x h)) hown hE (za_o hP) (show vwCl[0]? = some (RX0, TX0, 14) from rfl) (by decide) rfl (hts _ (List.mem_cons_of_mem _ uC_22)) (fun _ h9 => h9) dX0_find_1 ?_
  refine lv_astore_n (lv' := [(2, .ref (h 6)), (0, .ref (h 0)), (1, .int x)]) hx hb dX0_find_4 rfl hl (by decide) rfl (fun ls hl => ?_)
  have L_5 : ∀ (n_ i : Nat) (ls : Array Slot), i ≤ 30 → 30 + 1 ≤ i + n_ → (kFind P x i = none) → lv_has ls 3 [(2, va_rf (zch h i)), (0, .ref (h 0)), (1, .int x)] → W p l e (headSpec wsX0_find (zR 0 0 0)).room s m (List.toArray [.ref (h 0), .int x]) below meth c s.heap [] 0 0 (MQ below (va_Sq (fun r => r = zad h (kFind P x 30))) (List.toArray [.ref (h 0), .int x]) s 0 0 (fun _ => False)) (F0 m 5 ls []) := by
    intro n_
    induction n_ with
    | zero => intro i   ls hi_ hn_; exact absurd hn_ (by omega)
    | succ n_ ih =>
      intro i   ls hi_ hn_ hno  hl
      rcases Nat.lt_or_ge i 30 with hi3_ | hi3_
      · rw [zch_lt hi3_] at hl
        have hl : lv_has ls 3 [(2, .ref (h (i + 6))), (0, .ref (h 0)), (1, .int x)] := hl
        refine lv_aload_n hx hb dX0_find_5 rfl (lv_at hl 0 rfl) ?_
        refine lv_ifnull hx hb dX0_find_6 ?_
        refine lv_aload_n hx hb dX0_find_9 rfl (lv_at hl 0 rfl) ?_
        refine zo_getN 1 (.int (P i 1)) hx hb hts (fun x h => List.mem_cons_of_mem _ (hU_X5 x h)) hown hE (za_slip hP (i := i) (by omega)) (show vwCl[5]? = some (RX5, TX5, 8) from rfl) (by decide) rfl (List.mem_of_getElem? (i := 3) rfl) (fun _ h9 => h9) dX0_find_10 ?_
        refine lv_if_eq (tgt := 26) hx hb dX0_find_13 (by decide) (fun c_13 => ?_) (fun c_13 => ?_)
        · refine lv_aload_n hx hb dX0_find_26 rfl (lv_at hl 0 rfl) ?_
          refine zo_getN 0 (va_rf (zch h (i + 1))) hx hb hts (fun x h => List.mem_cons_of_mem _ (hU_X5 x h)) hown hE (za_slip hP (i := i) (by omega)) (show vwCl[5]? = some (RX5, TX5, 8) from rfl) (by decide) rfl (List.mem_of_getElem? (i := 2) rfl) (fun _ h9 => h9) dX0_find_27 ?_
          refine zo_astore_n (r := zch h (i + 1)) (lv' := [(2, va_rf (zch h (i + 1))), (0, .ref (h 0)), (1, .int x)]) hx hb dX0_find_30 rfl hl (by decide) rfl (fun ls hl => ?_)
          refine lv_goto (tgt := 5) hx hb dX0_find_31 (by decide) ?_
          exact ih (i + 1) ls (by omega) (by omega) (zFirst_no hno (decide_eq_false (fun h => h.1 c_13))) (lv_sub hl [0, 1, 2] rfl)
        · refine lv_aload_n hx hb dX0_find_16 rfl (lv_at hl 0 rfl) ?_
          refine zo_getN 2 (.int (P i 2)) hx hb hts (fun x h => List.mem_cons_of_mem _ (hU_X5 x h)) hown hE (za_slip hP (i := i) (by omega)) (show vwCl[5]? = some (RX5, TX5, 8) from rfl) (by decide) rfl (List.mem_of_getElem? (i := 4) rfl) (fun _ h9 => h9) dX0_find_17 ?_
          refine lv_iload_n hx hb dX0_find_20 rfl (lv_at hl 2 rfl) ?_
          refine lv_icmp_ne (tgt := 26) hx hb dX0_find_21 (by decide) (fun c_21 => ?_) (fun c_21 => ?_)
          · refine lv_aload_n hx hb dX0_find_26 rfl (lv_at hl 0 rfl) ?_
            refine zo_getN 0 (va_rf (zch h (i + 1))) hx hb hts (fun x h => List.mem_cons_of_mem _ (hU_X5 x h)) hown hE (za_slip hP (i := i) (by omega)) (show vwCl[5]? = some (RX5, TX5, 8) from rfl) (by decide) rfl (List.mem_of_getElem? (i := 2) rfl) (fun _ h9 => h9) dX0_find_27 ?_
            refine zo_astore_n (r := zch h (i + 1)) (lv' := [(2, va_rf (zch h (i + 1))), (0, .ref (h 0)), (1, .int x)]) hx hb dX0_find_30 rfl hl (by decide) rfl (fun ls hl => ?_)
            refine lv_goto (tgt := 5) hx hb dX0_find_31 (by decide) ?_
            exact ih (i + 1) ls (by omega) (by omega) (zFirst_no hno (decide_eq_false (fun h => c_21 h.2))) (lv_sub hl [0, 1, 2] rfl)
          · refine lv_aload_n hx hb dX0_find_24 rfl (lv_at hl 0 rfl) ?_
            exact zr_sq (r := some (h (i + 6))) hx hb hr hlocks (by rw [kFind, zFirst_hit hno (decide_eq_true ⟨c_13, c_21⟩) (by omega)]; rfl) dX0_find_25
      · rw [zch_end hi3_] at hl
        have hl : lv_has ls 3 [(2, .null), (0, .ref (h 0)), (1, .int x)] := hl
        have hi30_ : i = 30 := by omega
        refine lv_aload_nN hx hb dX0_find_5 rfl (lv_at hl 0 rfl) ?_
        refine lv_ifnullN (tgt := 34) hx hb dX0_find_6 (by decide) ?_
        refine lv_null hx hb dX0_find_34 ?_
        exact zr_sq (r := none) hx hb hr hlocks (by rw [show 30 = i by omega, hno]; rfl) dX0_find_35
  exact L_5 (30 + 1) 0 ls (by omega) (by omega) rfl (lv_sub hl [0, 1, 2] rfl)
set_option maxHeartbeats 4000000 in
set_option maxRecDepth 100000 in
theorem c_X0_freePlace (l : Launch) (V : zV) (h : Nat → Nat) (F T : Nat → Int32) (lv : Int32) (Ga Gb Gc : Nat → Int32) (P : Nat → Nat → Int32) : Met l yX0_freePlace wsX0_freePlace (zR 0 0 0) (zPc V [.ref (h 0)] (fun H => va_P V.1 vwCl (zaW V h F T lv Ga Gb Gc P) H)) (va_Sq (fun r => r = zad h (kFree P 30))) 0 0 (fun _ => False) := by
  refine Met.ofW (cc := cX0_freePlace) (maxL := 2) (ret := (some (.object "DrawerSlips$Slip"))) (by decide) rfl ?_
  intro p e s m args below meth c s₁ B hml hv
  obtain ⟨rfl, hP, hE⟩ := hv
  have hx := B.exec
  have hb := B.bytes
  have hr := B.returns
  have hts := atoms_spec (ws := wsX0_freePlace) B.pre
  have hown : s.vm.findClass RX0 = some m.cls := findClass_of_methodNamed B.named
  have hlocks := B.notSynchronized
  have hl := lv_entry ([.ref (h 0)]) (n := 2) (Nat.le_of_ble_eq_true rfl)
  rw [lg_entry_eq]
  generalize (lg_sl ([.ref (h 0)]) ++ List.replicate (2 - (lg_sl ([.ref (h 0)])).length) Slot.unset).toArray = ls at hl ⊢
  have hl : lv_has ls 2 [(0, .ref (h 0))] := hl
  refine lv_aload_n hx hb dX0_freePlace_0 rfl (lv_at hl 0 rfl) ?_
  refine zo_get 1 (.ref (h 6)) hx hb hts (fun x h => List.mem_cons_of_mem _ (hU_X0 x h)) hown hE (za_o hP) (show vwCl[0]? = some (RX0, TX0, 14) from rfl) (by decide) rfl (hts _ (List.mem_cons_of_mem _ uC_22)) (fun _ h9 => h9) dX0_freePlace_1 ?_
  refine lv_astore_n (lv' := [(1, .ref (h 6)), (0, .ref (h 0))]) hx hb dX0_freePlace_4 rfl hl (by decide) rfl (fun ls hl => ?_)
  have L_5 : ∀ (n_ i : Nat) (ls : Array Slot), i ≤ 30 → 30 + 1 ≤ i + n_ → (kFree P i = none) → lv_has ls 2 [(1, va_rf (zch h i)), (0, .ref (h 0))] → W p l e (headSpec wsX0_freePlace (zR 0 0 0)).room s m (List.toArray [.ref (h 0)]) below meth c s.heap [] 0 0 (MQ below (va_Sq (fun r => r = zad h (kFree P 30))) (List.toArray [.ref (h 0)]) s 0 0 (fun _ => False)) (F0 m 5 ls []) := by
    intro n_
    induction n_ with
    | zero => intro i   ls hi_ hn_; exact absurd hn_ (by omega)
    | succ n_ ih =>
      intro i   ls hi_ hn_ hno  hl
      rcases Nat.lt_or_ge i 30 with hi3_ | hi3_
      · rw [zch_lt hi3_] at hl
        have hl : lv_has ls 2 [(1, .ref (h (i + 6))), (0, .ref (h 0))] := hl
        refine lv_aload_n hx hb dX0_freePlace_5 rfl (lv_at hl 0 rfl) ?_
        refine lv_ifnull hx hb dX0_freePlace_6 ?_
        refine lv_aload_n hx hb dX0_freePlace_9 rfl (lv_at hl 0 rfl) ?_
        refine zo_getN 1 (.int (P i 1)) hx hb hts (fun x h => List.mem_cons_of_mem _ (hU_X5 x h)) hown hE (za_slip hP (i := i) (by omega)) (show vwCl[5]? = some (RX5, TX5, 8) from rfl) (by decide) rfl (List.mem_of_getElem? (i := 3) rfl) (fun _ h9 => h9) dX0_freePlace_10 ?_
        refine lv_if_ne (tgt := 18) hx hb dX0_freePlace_13 (by decide) (fun c_13 => ?_) (fun c_13 => ?_)
        · refine lv_aload_n hx hb dX0_freePlace_18 rfl (lv_at hl 0 rfl) ?_
          refine zo_getN 0 (va_rf (zch h (i + 1))) hx hb hts (fun x h => List.mem_cons_of_mem _ (hU_X5 x h)) hown hE (za_slip hP (i := i) (by omega)) (show vwCl[5]? = some (RX5, TX5, 8) from rfl) (by decide) rfl (List.mem_of_getElem? (i := 2) rfl) (fun _ h9 => h9) dX0_freePlace_19 ?_
          refine zo_astore_n (r := zch h (i + 1)) (lv' := [(1, va_rf (zch h (i + 1))), (0, .ref (h 0))]) hx hb dX0_freePlace_22 rfl hl (by decide) rfl (fun ls hl => ?_)
          refine lv_goto (tgt := 5) hx hb dX0_freePlace_23 (by decide) ?_
          exact ih (i + 1) ls (by omega) (by omega) (zFirst_no hno (decide_eq_false c_13)) (lv_sub hl [0, 1] rfl)
        · refine lv_aload_n hx hb dX0_freePlace_16 rfl (lv_at hl 0 rfl) ?_
          exact zr_sq (r := some (h (i + 6))) hx hb hr hlocks (by rw [kFree, zFirst_hit hno (decide_eq_true c_13) (by omega)]; rfl) dX0_freePlace_17
      · rw [zch_end hi3_] at hl
        have hl : lv_has ls 2 [(1, .null), (0, .ref (h 0))] := hl
        have hi30_ : i = 30 := by omega
        refine lv_aload_nN hx hb dX0_freePlace_5 rfl (lv_at hl 0 rfl) ?_
        refine lv_ifnullN (tgt := 26) hx hb dX0_freePlace_6 (by decide) ?_
        refine lv_null hx hb dX0_freePlace_26 ?_
        exact zr_sq (r := none) hx hb hr hlocks (by rw [show 30 = i by omega, hno]; rfl) dX0_freePlace_27
  exact L_5 (30 + 1) 0 ls (by omega) (by omega) rfl (lv_sub hl [0, 1] rfl)
set_option maxHeartbeats 4000000 in
set_option maxRecDepth 100000 in
theorem c_X0_oldest (l : Launch) (V : zV) (h : Nat → Nat) (F T : Nat → Int32) (lv : Int32) (Ga Gb Gc : Nat → Int32) (P : Nat → Nat → Int32) (x : Int32) : Met l yX0_oldest wsX0_oldest (zR 1 0 0) (zPc V [.ref (h 0), .int x] (fun H => va_P V.1 vwCl (zaW V h F T lv Ga Gb Gc P) H)) (va_Sq (fun r => r = zad h (kOld P x 30))) 0 0 (fun _ => False) := by
  refine Met.ofW (cc := cX0_oldest) (maxL := 4) (ret := (some (.object "DrawerSlips$Slip"))) (by decide) rfl ?_
  intro p e s m args below meth c s₁ B hml hv
  obtain ⟨rfl, hP, hE⟩ := hv
  have hx := B.exec
  have hb := B.bytes
  have hr := B.returns
  have hts := atoms_spec (ws := wsX0_oldest) B.pre
  have hown : s.vm.findClass RX0 = some m.cls := findClass_of_methodNamed B.named
  have hlocks := B.notSynchronized
  have hl := lv_entry ([.ref (h 0), .int x]) (n := 4) (Nat.le_of_ble_eq_true rfl)
  rw [lg_entry_eq]
  generalize (lg_sl ([.ref (h 0), .int x]) ++ List.replicate (4 - (lg_sl ([.ref (h 0), .int x])).length) Slot.unset).toArray = ls at hl ⊢
  have hl : lv_has ls 4 [(0, .ref (h 0)), (1, .int x)] := hl
  refine lv_null hx hb dX0_oldest_0 ?_
  refine lv_astore_nN (lv' := [(2, .null), (0, .ref (h 0)), (1, .int x)]) hx hb dX0_oldest_1 rfl hl (by decide) rfl (fun ls hl => ?_)
  refine lv_aload_n hx hb dX0_oldest_2 rfl (lv_at hl 1 rfl) ?_
  refine zo_get 1 (.ref (h 6)) hx hb hts (fun x h => List.mem_cons_of_mem _ (hU_X0 x h)) hown hE (za_o hP) (show vwCl[0]? = some (RX0, TX0, 14) from rfl) (by decide) rfl (hts _ (List.mem_cons_of_mem _ uC_22)) (fun _ h9 => h9) dX0_oldest_3 ?_
  refine lv_astore_n (lv' := [(3, .ref (h 6)), (2, .null), (0, .ref (h 0)), (1, .int x)]) hx hb dX0_oldest_6 rfl hl (by decide) rfl (fun ls hl => ?_)
  have L_7 : ∀ (n_ i : Nat) (ls : Array Slot), i ≤ 30 → 30 + 1 ≤ i + n_ → lv_has ls 4 [(3, va_rf (zch h i)), (2, va_rf (zad h (kOld P x i))), (0, .ref (h 0)), (1, .int x)] → W p l e (headSpec wsX0_oldest (zR 1 0 0)).room s m (List.toArray [.ref (h 0), .int x]) below meth c s.heap [] 0 0 (MQ below (va_Sq (fun r => r = zad h (kOld P x 30))) (List.toArray [.ref (h 0), .int x]) s 0 0 (fun _ => False)) (F0 m 7 ls []) := by
    intro n_
    induction n_ with
    | zero => intro i   ls hi_ hn_; exact absurd hn_ (by omega)
    | succ n_ ih =>
      intro i   ls hi_ hn_   hl
      rcases Nat.lt_or_ge i 30 with hi3_ | hi3_
      · rw [zch_lt hi3_] at hl
        have hl : lv_has ls 4 [(3, .ref (h (i + 6))), (2, va_rf (zad h (kOld P x i))), (0, .ref (h 0)), (1, .int x)] := hl
        refine lv_aload_n hx hb dX0_oldest_7 rfl (lv_at hl 0 rfl) ?_
        refine lv_ifnull hx hb dX0_oldest_8 ?_
        refine lv_aload_n hx hb dX0_oldest_11 rfl (lv_at hl 0 rfl) ?_
        refine lv_iload_n hx hb dX0_oldest_12 rfl (lv_at hl 3 rfl) ?_
        refine zc_se (va_runVN (As := [.int x]) (rest := []) ⟨hx, hb, hml, hown, hts⟩ (c_X5_isOfSort l V (h (i + 6)) (zch h (i + 1)) (P i) x) ⟨va_cnB 1 hts (zgB_ wsC_all uC_59) rfl rfl rfl (hE.2 (.methodLinkNest RX0 145 yX5_isOfSort "DrawerSlips") (List.mem_of_getElem? (i := 49) rfl)) (hts _ (List.mem_cons_of_mem _ uC_21)) (by decide +kernel) ⟨Nat.le_of_ble_eq_true rfl, Nat.le_of_ble_eq_true rfl⟩, (hts _ (List.mem_cons_of_mem _ uC_62)), (hts _ (List.mem_cons_of_mem _ uC_63))⟩ (zPreV (B := fun H => va_at V.1 vwCl (h (i + 6), .inr (5, zsO (zch h (i + 1)) (P i))) H) (za_slip hP (i := i) (by omega)) hE (za_rs hE hP (i := i) (by omega))) rfl rfl hl.1 rfl (lv_room (Nat.le_of_ble_eq_true rfl)) dX0_oldest_13 ⟨Nat.le_of_ble_eq_true rfl, Nat.le_of_ble_eq_true rfl⟩) ?_
        refine zbp_eq (P := ¬ P i 1 = 0 ∧ P i 3 = x) (tgt := 36) hx hb dX0_oldest_16 (by decide) (fun c_16 => ?_) (fun c_16 => ?_)
        · refine lv_aload_n hx hb dX0_oldest_36 rfl (lv_at hl 0 rfl) ?_
          refine zo_getN 0 (va_rf (zch h (i + 1))) hx hb hts (fun x h => List.mem_cons_of_mem _ (hU_X5 x h)) hown hE (za_slip hP (i := i) (by omega)) (show vwCl[5]? = some (RX5, TX5, 8) from rfl) (by decide) rfl (List.mem_of_getElem? (i := 2) rfl) (fun _ h9 => h9) dX0_oldest_37 ?_
          refine zo_astore_n (r := zch h (i + 1)) (lv' := [(3, va_rf (zch h (i + 1))), (2, va_rf (zad h (kOld P x i))), (0, .ref (h 0)), (1, .int x)]) hx hb dX0_oldest_40 rfl hl (by decide) (by generalize zad h (kOld P x i) = r_; cases r_ <;> rfl) (fun ls hl => ?_)
          refine lv_goto (tgt := 7) hx hb dX0_oldest_41 (by decide) ?_
          have e_ : kOld P x (i + 1) = kOld P x i := by exact zBest_skip (decide_eq_false c_16)
          have e2_ : va_rf (zad h (kOld P x i)) = va_rf (zad h (kOld P x (i + 1))) := by rw [e_]
          rw [e2_] at hl
          exact ih (i + 1) ls (by omega) (by omega) (lv_sub hl [0, 1, 2, 3] rfl)
        · refine zo_aload_n (r := zad h (kOld P x i)) hx hb dX0_oldest_19 rfl (lv_at hl 1 rfl) ?_
          rcases hq_20 : kOld P x i with _ | k_20
          · refine zt_v (y := .null) (by first | rfl | (rw [hq_20]; rfl)) ?_
            rw [hq_20] at hl
            have hl : lv_has ls 4 [(3, .ref (h (i + 6))), (2, .null), (0, .ref (h 0)), (1, .int x)] := hl
            refine lv_ifnullN (tgt := 34) hx hb dX0_oldest_20 (by decide) ?_
            refine lv_aload_n hx hb dX0_oldest_34 rfl (lv_at hl 0 rfl) ?_
            refine lv_astore_n (lv' := [(2, .ref (h (i + 6))), (3, .ref (h (i + 6))), (0, .ref (h 0)), (1, .int x)]) hx hb dX0_oldest_35 rfl hl (by decide) rfl (fun ls hl => ?_)
            refine lv_aload_n hx hb dX0_oldest_36 rfl (lv_at hl 1 rfl) ?_
            refine zo_getN 0 (va_rf (zch h (i + 1))) hx hb hts (fun x h => List.mem_cons_of_mem _ (hU_X5 x h)) hown hE (za_slip hP (i := i) (by omega)) (show vwCl[5]? = some (RX5, TX5, 8) from rfl) (by decide) rfl (List.mem_of_getElem? (i := 2) rfl) (fun _ h9 => h9) dX0_oldest_37 ?_
            refine zo_astore_n (r := zch h (i + 1)) (lv' := [(3, va_rf (zch h (i + 1))), (2, .ref (h (i + 6))), (0, .ref (h 0)), (1, .int x)]) hx hb dX0_oldest_40 rfl hl (by decide) rfl (fun ls hl => ?_)
            refine lv_goto (tgt := 7) hx hb dX0_oldest_41 (by decide) ?_
            have e_ : kOld P x (i + 1) = some i := by exact zBest_first hq_20 (decide_eq_true c_16)
            have e2_ : .ref (h (i + 6)) = va_rf (zad h (kOld P x (i + 1))) := by rw [e_]; rfl
            rw [e2_] at hl
            exact ih (i + 1) ls (by omega) (by omega) (lv_sub hl [0, 1, 2, 3] rfl)
          · refine zt_v (y := .ref (h (k_20 + 6))) (by first | rfl | (rw [hq_20]; rfl)) ?_
            rw [hq_20] at hl
            have hl : lv_has ls 4 [(3, .ref (h (i + 6))), (2, .ref (h (k_20 + 6))), (0, .ref (h 0)), (1, .int x)] := hl
            have hb_20 : k_20 < 30 := by first | exact (zFirst_lt hq_20).1 | exact (zBest_lt hq_20).1 | exact kSel_lt hq_20 | (have h_ := (zBest_lt hq_20).1; omega)
            refine lv_ifnull hx hb dX0_oldest_20 ?_
            refine lv_aload_n hx hb dX0_oldest_23 rfl (lv_at hl 0 rfl) ?_
            refine zo_getN 2 (.int (P i 2)) hx hb hts (fun x h => List.mem_cons_of_mem _ (hU_X5 x h)) hown hE (za_slip hP (i := i) (by omega)) (show vwCl[5]? = some (RX5, TX5, 8) from rfl) (by decide) rfl (List.mem_of_getElem? (i := 4) rfl) (fun _ h9 => h9) dX0_oldest_24 ?_
            refine lv_aload_n hx hb dX0_oldest_27 rfl (lv_at hl 1 rfl) ?_
            refine zo_getN 2 (.int (P k_20 2)) hx hb hts (fun x h => List.mem_cons_of_mem _ (hU_X5 x h)) hown hE (za_slip hP (i := k_20) (by omega)) (show vwCl[5]? = some (RX5, TX5, 8) from rfl) (by decide) rfl (List.mem_of_getElem? (i := 4) rfl) (fun _ h9 => h9) dX0_oldest_28 ?_
            refine lv_icmp_ge (tgt := 36) hx hb dX0_oldest_31 (by decide) (fun c_31 => ?_) (fun c_31 => ?_)
            · refine lv_aload_n hx hb dX0_oldest_36 rfl (lv_at hl 0 rfl) ?_
              refine zo_getN 0 (va_rf (zch h (i + 1))) hx hb hts (fun x h => List.mem_cons_of_mem _ (hU_X5 x h)) hown hE (za_slip hP (i := i) (by omega)) (show vwCl[5]? = some (RX5, TX5, 8) from rfl) (by decide) rfl (List.mem_of_getElem? (i := 2) rfl) (fun _ h9 => h9) dX0_oldest_37 ?_
              refine zo_astore_n (r := zch h (i + 1)) (lv' := [(3, va_rf (zch h (i + 1))), (2, .ref (h (k_20 + 6))), (0, .ref (h 0)), (1, .int x)]) hx hb dX0_oldest_40 rfl hl (by decide) rfl (fun ls hl => ?_)
              refine lv_goto (tgt := 7) hx hb dX0_oldest_41 (by decide) ?_
              have e_ : kOld P x (i + 1) = some k_20 := by exact zBest_keep hq_20 (decide_eq_false (z_le' c_31))
              have e2_ : .ref (h (k_20 + 6)) = va_rf (zad h (kOld P x (i + 1))) := by rw [e_]; rfl
              rw [e2_] at hl
              exact ih (i + 1) ls (by omega) (by omega) (lv_sub hl [0, 1, 2, 3] rfl)
            · refine lv_aload_n hx hb dX0_oldest_34 rfl (lv_at hl 0 rfl) ?_
              refine lv_astore_n (lv' := [(2, .ref (h (i + 6))), (3, .ref (h (i + 6))), (0, .ref (h 0)), (1, .int x)]) hx hb dX0_oldest_35 rfl hl (by decide) rfl (fun ls hl => ?_)
              refine lv_aload_n hx hb dX0_oldest_36 rfl (lv_at hl 1 rfl) ?_
              refine zo_getN 0 (va_rf (zch h (i + 1))) hx hb hts (fun x h => List.mem_cons_of_mem _ (hU_X5 x h)) hown hE (za_slip hP (i := i) (by omega)) (show vwCl[5]? = some (RX5, TX5, 8) from rfl) (by decide) rfl (List.mem_of_getElem? (i := 2) rfl) (fun _ h9 => h9) dX0_oldest_37 ?_
              refine zo_astore_n (r := zch h (i + 1)) (lv' := [(3, va_rf (zch h (i + 1))), (2, .ref (h (i + 6))), (0, .ref (h 0)), (1, .int x)]) hx hb dX0_oldest_40 rfl hl (by decide) rfl (fun ls hl => ?_)
              refine lv_goto (tgt := 7) hx hb dX0_oldest_41 (by decide) ?_
              have e_ : kOld P x (i + 1) = some i := by exact zBest_less hq_20 (decide_eq_true c_16) (decide_eq_true (z_nle c_31))
              have e2_ : .ref (h (i + 6)) = va_rf (zad h (kOld P x (i + 1))) := by rw [e_]; rfl
              rw [e2_] at hl
              exact ih (i + 1) ls (by omega) (by omega) (lv_sub hl [0, 1, 2, 3] rfl)
      · rw [zch_end hi3_] at hl
        have hl : lv_has ls 4 [(3, .null), (2, va_rf (zad h (kOld P x i))), (0, .ref (h 0)), (1, .int x)] := hl
        have hi30_ : i = 30 := by omega
        refine lv_aload_nN hx hb dX0_oldest_7 rfl (lv_at hl 0 rfl) ?_
        refine lv_ifnullN (tgt := 44) hx hb dX0_oldest_8 (by decide) ?_
        refine zo_aload_n (r := zad h (kOld P x i)) hx hb dX0_oldest_44 rfl (lv_at hl 1 rfl) ?_
        exact zr_sq (r := zad h (kOld P x i)) hx hb hr hlocks (by rw [hi30_]) dX0_oldest_45
  exact L_7 (30 + 1) 0 ls (by omega) (by omega) (lv_sub hl [0, 1, 2, 3] rfl)
set_option maxHeartbeats 4000000 in
set_option maxRecDepth 100000 in
theorem c_X0_leastFrom (l : Launch) (V : zV) (h : Nat → Nat) (F T : Nat → Int32) (lv : Int32) (Ga Gb Gc : Nat → Int32) (P : Nat → Nat → Int32) (x d : Int32) : Met l yX0_leastFrom wsX0_leastFrom (zR 1 0 0) (zPc V [.ref (h 0), .int x, .int d] (fun H => va_P V.1 vwCl (zaW V h F T lv Ga Gb Gc P) H)) (va_Sq (fun r => r = zad h (kLow P x d 30))) 0 0 (fun _ => False) := by
  refine Met.ofW (cc := cX0_leastFrom) (maxL := 5) (ret := (some (.object "DrawerSlips$Slip"))) (by decide) rfl ?_
  intro p e s m args below meth c s₁ B hml hv
  obtain ⟨rfl, hP, hE⟩ := hv
  have hx := B.exec
  have hb := B.bytes
  have hr := B.returns
  have hts := atoms_spec (ws := wsX0_leastFrom) B.pre
  have hown : s.vm.findClass RX0 = some m.cls := findClass_of_methodNamed B.named
  have hlocks := B.notSynchronized
  have hl := lv_entry ([.ref (h 0), .int x, .int d]) (n := 5) (Nat.le_of_ble_eq_true rfl)
  rw [lg_entry_eq]
  generalize (lg_sl ([.ref (h 0), .int x, .int d]) ++ List.replicate (5 - (lg_sl ([.ref (h 0), .int x, .int d])).length) Slot.unset).toArray = ls at hl ⊢
  have hl : lv_has ls 5 [(0, .ref (h 0)), (1, .int x), (2, .int d)] := hl
  refine lv_null hx hb dX0_leastFrom_0 ?_
  refine lv_astore_nN (lv' := [(3, .null), (0, .ref (h 0)), (1, .int x), (2, .int d)]) hx hb dX0_leastFrom_1 rfl hl (by decide) rfl (fun ls hl => ?_)
  refine lv_aload_n hx hb dX0_leastFrom_2 rfl (lv_at hl 1 rfl) ?_
  refine zo_get 1 (.ref (h 6)) hx hb hts (fun x h => List.mem_cons_of_mem _ (hU_X0 x h)) hown hE (za_o hP) (show vwCl[0]? = some (RX0, TX0, 14) from rfl) (by decide) rfl (hts _ (List.mem_cons_of_mem _ uC_22)) (fun _ h9 => h9) dX0_leastFrom_3 ?_
  refine lv_astore (lv' := [(4, .ref (h 6)), (3, .null), (0, .ref (h 0)), (1, .int x), (2, .int d)]) hx hb dX0_leastFrom_6 hl (by decide) rfl (fun ls hl => ?_)
  have L_8 : ∀ (n_ i : Nat) (ls : Array Slot), i ≤ 30 → 30 + 1 ≤ i + n_ → lv_has ls 5 [(4, va_rf (zch h i)), (3, va_rf (zad h (kLow P x d i))), (0, .ref (h 0)), (1, .int x), (2, .int d)] → W p l e (headSpec wsX0_leastFrom (zR 1 0 0)).room s m (List.toArray [.ref (h 0), .int x, .int d]) below meth c s.heap [] 0 0 (MQ below (va_Sq (fun r => r = zad h (kLow P x d 30))) (List.toArray [.ref (h 0), .int x, .int d]) s 0 0 (fun _ => False)) (F0 m 8 ls []) := by
    intro n_
    induction n_ with
    | zero => intro i   ls hi_ hn_; exact absurd hn_ (by omega)
    | succ n_ ih =>
      intro i   ls hi_ hn_   hl
      rcases Nat.lt_or_ge i 30 with hi3_ | hi3_
      · rw [zch_lt hi3_] at hl
        have hl : lv_has ls 5 [(4, .ref (h (i + 6))), (3, va_rf (zad h (kLow P x d i))), (0, .ref (h 0)), (1, .int x), (2, .int d)] := hl
        refine lv_aload hx hb dX0_leastFrom_8 (lv_at hl 0 rfl) ?_
        refine lv_ifnull hx hb dX0_leastFrom_10 ?_
        refine lv_aload hx hb dX0_leastFrom_13 (lv_at hl 0 rfl) ?_
        refine lv_iload_n hx hb dX0_leastFrom_15 rfl (lv_at hl 3 rfl) ?_
        refine zc_se (va_runVN (As := [.int x]) (rest := []) ⟨hx, hb, hml, hown, hts⟩ (c_X5_isOfSort l V (h (i + 6)) (zch h (i + 1)) (P i) x) ⟨va_cnB 1 hts (zgB_ wsC_all uC_59) rfl rfl rfl (hE.2 (.methodLinkNest RX0 145 yX5_isOfSort "DrawerSlips") (List.mem_of_getElem? (i := 49) rfl)) (hts _ (List.mem_cons_of_mem _ uC_21)) (by decide +kernel) ⟨Nat.le_of_ble_eq_true rfl, Nat.le_of_ble_eq_true rfl⟩, (hts _ (List.mem_cons_of_mem _ uC_62)), (hts _ (List.mem_cons_of_mem _ uC_63))⟩ (zPreV (B := fun H => va_at V.1 vwCl (h (i + 6), .inr (5, zsO (zch h (i + 1)) (P i))) H) (za_slip hP (i := i) (by omega)) hE (za_rs hE hP (i := i) (by omega))) rfl rfl hl.1 rfl (lv_room (Nat.le_of_ble_eq_true rfl)) dX0_leastFrom_16 ⟨Nat.le_of_ble_eq_true rfl, Nat.le_of_ble_eq_true rfl⟩) ?_
        refine zbp_eq (P := ¬ P i 1 = 0 ∧ P i 3 = x) (tgt := 47) hx hb dX0_leastFrom_19 (by decide) (fun c_19 => ?_) (fun c_19 => ?_)
        · refine lv_aload hx hb dX0_leastFrom_47 (lv_at hl 0 rfl) ?_
          refine zo_getN 0 (va_rf (zch h (i + 1))) hx hb hts (fun x h => List.mem_cons_of_mem _ (hU_X5 x h)) hown hE (za_slip hP (i := i) (by omega)) (show vwCl[5]? = some (RX5, TX5, 8) from rfl) (by decide) rfl (List.mem_of_getElem? (i := 2) rfl) (fun _ h9 => h9) dX0_leastFrom_49 ?_
          refine zo_astore (r := zch h (i + 1)) (lv' := [(4, va_rf (zch h (i + 1))), (3, va_rf (zad h (kLow P x d i))), (0, .ref (h 0)), (1, .int x), (2, .int d)]) hx hb dX0_leastFrom_52 hl (by decide) (by generalize zad h (kLow P x d i) = r_; cases r_ <;> rfl) (fun ls hl => ?_)
          refine lv_goto (tgt := 8) hx hb dX0_leastFrom_54 (by decide) ?_
          have e_ : kLow P x d (i + 1) = kLow P x d i := by exact zBest_skip (decide_eq_false (fun h => c_19 h.1))
          have e2_ : va_rf (zad h (kLow P x d i)) = va_rf (zad h (kLow P x d (i + 1))) := by rw [e_]
          rw [e2_] at hl
          exact ih (i + 1) ls (by omega) (by omega) (lv_sub hl [0, 1, 2, 3, 4] rfl)
        · refine lv_aload hx hb dX0_leastFrom_22 (lv_at hl 0 rfl) ?_
          refine zo_getN 4 (.int (P i 4)) hx hb hts (fun x h => List.mem_cons_of_mem _ (hU_X5 x h)) hown hE (za_slip hP (i := i) (by omega)) (show vwCl[5]? = some (RX5, TX5, 8) from rfl) (by decide) rfl (List.mem_of_getElem? (i := 8) rfl) (fun _ h9 => h9) dX0_leastFrom_24 ?_
          refine lv_iload_n hx hb dX0_leastFrom_27 rfl (lv_at hl 4 rfl) ?_
          refine lv_icmp_lt (tgt := 47) hx hb dX0_leastFrom_28 (by decide) (fun c_28 => ?_) (fun c_28 => ?_)
          · refine lv_aload hx hb dX0_leastFrom_47 (lv_at hl 0 rfl) ?_
            refine zo_getN 0 (va_rf (zch h (i + 1))) hx hb hts (fun x h => List.mem_cons_of_mem _ (hU_X5 x h)) hown hE (za_slip hP (i := i) (by omega)) (show vwCl[5]? = some (RX5, TX5, 8) from rfl) (by decide) rfl (List.mem_of_getElem? (i := 2) rfl) (fun _ h9 => h9) dX0_leastFrom_49 ?_
            refine zo_astore (r := zch h (i + 1)) (lv' := [(4, va_rf (zch h (i + 1))), (3, va_rf (zad h (kLow P x d i))), (0, .ref (h 0)), (1, .int x), (2, .int d)]) hx hb dX0_leastFrom_52 hl (by decide) (by generalize zad h (kLow P x d i) = r_; cases r_ <;> rfl) (fun ls hl => ?_)
            refine lv_goto (tgt := 8) hx hb dX0_leastFrom_54 (by decide) ?_
            have e_ : kLow P x d (i + 1) = kLow P x d i := by exact zBest_skip (decide_eq_false (fun h => z_lt' c_28 h.2))
            have e2_ : va_rf (zad h (kLow P x d i)) = va_rf (zad h (kLow P x d (i + 1))) := by rw [e_]
            rw [e2_] at hl
            exact ih (i + 1) ls (by omega) (by omega) (lv_sub hl [0, 1, 2, 3, 4] rfl)
          · refine zo_aload_n (r := zad h (kLow P x d i)) hx hb dX0_leastFrom_31 rfl (lv_at hl 1 rfl) ?_
            rcases hq_32 : kLow P x d i with _ | k_32
            · refine zt_v (y := .null) (by first | rfl | (rw [hq_32]; rfl)) ?_
              rw [hq_32] at hl
              have hl : lv_has ls 5 [(4, .ref (h (i + 6))), (3, .null), (0, .ref (h 0)), (1, .int x), (2, .int d)] := hl
              refine lv_ifnullN (tgt := 44) hx hb dX0_leastFrom_32 (by decide) ?_
              refine lv_aload hx hb dX0_leastFrom_44 (lv_at hl 0 rfl) ?_
              refine lv_astore_n (lv' := [(3, .ref (h (i + 6))), (4, .ref (h (i + 6))), (0, .ref (h 0)), (1, .int x), (2, .int d)]) hx hb dX0_leastFrom_46 rfl hl (by decide) rfl (fun ls hl => ?_)
              refine lv_aload hx hb dX0_leastFrom_47 (lv_at hl 1 rfl) ?_
              refine zo_getN 0 (va_rf (zch h (i + 1))) hx hb hts (fun x h => List.mem_cons_of_mem _ (hU_X5 x h)) hown hE (za_slip hP (i := i) (by omega)) (show vwCl[5]? = some (RX5, TX5, 8) from rfl) (by decide) rfl (List.mem_of_getElem? (i := 2) rfl) (fun _ h9 => h9) dX0_leastFrom_49 ?_
              refine zo_astore (r := zch h (i + 1)) (lv' := [(4, va_rf (zch h (i + 1))), (3, .ref (h (i + 6))), (0, .ref (h 0)), (1, .int x), (2, .int d)]) hx hb dX0_leastFrom_52 hl (by decide) rfl (fun ls hl => ?_)
              refine lv_goto (tgt := 8) hx hb dX0_leastFrom_54 (by decide) ?_
              have e_ : kLow P x d (i + 1) = some i := by exact zBest_first hq_32 (decide_eq_true ⟨c_19, z_nlt c_28⟩)
              have e2_ : .ref (h (i + 6)) = va_rf (zad h (kLow P x d (i + 1))) := by rw [e_]; rfl
              rw [e2_] at hl
              exact ih (i + 1) ls (by omega) (by omega) (lv_sub hl [0, 1, 2, 3, 4] rfl)
            · refine zt_v (y := .ref (h (k_32 + 6))) (by first | rfl | (rw [hq_32]; rfl)) ?_
              rw [hq_32] at hl
              have hl : lv_has ls 5 [(4, .ref (h (i + 6))), (3, .ref (h (k_32 + 6))), (0, .ref (h 0)), (1, .int x), (2, .int d)] := hl
              have hb_32 : k_32 < 30 := by first | exact (zFirst_lt hq_32).1 | exact (zBest_lt hq_32).1 | exact kSel_lt hq_32 | (have h_ := (zBest_lt hq_32).1; omega)
              refine lv_ifnull hx hb dX0_leastFrom_32 ?_
              refine lv_aload hx hb dX0_leastFrom_35 (lv_at hl 0 rfl) ?_
              refine lv_aload_n hx hb dX0_leastFrom_37 rfl (lv_at hl 1 rfl) ?_
              refine zc_se (va_runVN (As := [.ref (h (k_32 + 6))]) (rest := []) ⟨hx, hb, hml, hown, hts⟩ (c_X5_isAheadOf l V (h (i + 6)) (h (k_32 + 6)) (zch h (i + 1)) (zch h (k_32 + 1)) (P i) (P k_32)) ⟨va_cnB 1 hts (zgB_ wsC_all uC_96) rfl rfl rfl (hE.2 (.methodLinkNest RX0 156 yX5_isAheadOf "DrawerSlips") (List.mem_of_getElem? (i := 55) rfl)) (hts _ (List.mem_cons_of_mem _ uC_21)) (by decide +kernel) ⟨Nat.le_of_ble_eq_true rfl, Nat.le_of_ble_eq_true rfl⟩, (hts _ (List.mem_cons_of_mem _ uC_98)), (hts _ (List.mem_cons_of_mem _ uC_99))⟩ (zPreV (B := fun H => va_at V.1 vwCl (h (i + 6), .inr (5, zsO (zch h (i + 1)) (P i))) H ∧ va_at V.1 vwCl (h (k_32 + 6), .inr (5, zsO (zch h (k_32 + 1)) (P k_32))) H) ⟨(za_slip hP (i := i) (by omega)), (za_slip hP (i := k_32) (by omega))⟩ hE (za_rs hE hP (i := i) (by omega))) rfl rfl hl.1 rfl (lv_room (Nat.le_of_ble_eq_true rfl)) dX0_leastFrom_38 ⟨Nat.le_of_ble_eq_true rfl, Nat.le_of_ble_eq_true rfl⟩) ?_
              refine zbp_eq (P := P i 4 < P k_32 4 ∨ (P i 4 = P k_32 4 ∧ P i 2 < P k_32 2)) (tgt := 47) hx hb dX0_leastFrom_41 (by decide) (fun c_41 => ?_) (fun c_41 => ?_)
              · refine lv_aload hx hb dX0_leastFrom_47 (lv_at hl 0 rfl) ?_
                refine zo_getN 0 (va_rf (zch h (i + 1))) hx hb hts (fun x h => List.mem_cons_of_mem _ (hU_X5 x h)) hown hE (za_slip hP (i := i) (by omega)) (show vwCl[5]? = some (RX5, TX5, 8) from rfl) (by decide) rfl (List.mem_of_getElem? (i := 2) rfl) (fun _ h9 => h9) dX0_leastFrom_49 ?_
                refine zo_astore (r := zch h (i + 1)) (lv' := [(4, va_rf (zch h (i + 1))), (3, .ref (h (k_32 + 6))), (0, .ref (h 0)), (1, .int x), (2, .int d)]) hx hb dX0_leastFrom_52 hl (by decide) rfl (fun ls hl => ?_)
                refine lv_goto (tgt := 8) hx hb dX0_leastFrom_54 (by decide) ?_
                have e_ : kLow P x d (i + 1) = some k_32 := by exact zBest_keep hq_32 (decide_eq_false c_41)
                have e2_ : .ref (h (k_32 + 6)) = va_rf (zad h (kLow P x d (i + 1))) := by rw [e_]; rfl
                rw [e2_] at hl
                exact ih (i + 1) ls (by omega) (by omega) (lv_sub hl [0, 1, 2, 3, 4] rfl)
              · refine lv_aload hx hb dX0_leastFrom_44 (lv_at hl 0 rfl) ?_
                refine lv_astore_n (lv' := [(3, .ref (h (i + 6))), (4, .ref (h (i + 6))), (0, .ref (h 0)), (1, .int x), (2, .int d)]) hx hb dX0_leastFrom_46 rfl hl (by decide) rfl (fun ls hl => ?_)
                refine lv_aload hx hb dX0_leastFrom_47 (lv_at hl 1 rfl) ?_
                refine zo_getN 0 (va_rf (zch h (i + 1))) hx hb hts (fun x h => List.mem_cons_of_mem _ (hU_X5 x h)) hown hE (za_slip hP (i := i) (by omega)) (show vwCl[5]? = some (RX5, TX5, 8) from rfl) (by decide) rfl (List.mem_of_getElem? (i := 2) rfl) (fun _ h9 => h9) dX0_leastFrom_49 ?_
                refine zo_astore (r := zch h (i + 1)) (lv' := [(4, va_rf (zch h (i + 1))), (3, .ref (h (i + 6))), (0, .ref (h 0)), (1, .int x), (2, .int d)]) hx hb dX0_leastFrom_52 hl (by decide) rfl (fun ls hl => ?_)
                refine lv_goto (tgt := 8) hx hb dX0_leastFrom_54 (by decide) ?_
                have e_ : kLow P x d (i + 1) = some i := by exact zBest_less hq_32 (decide_eq_true ⟨c_19, z_nlt c_28⟩) (decide_eq_true c_41)
                have e2_ : .ref (h (i + 6)) = va_rf (zad h (kLow P x d (i + 1))) := by rw [e_]; rfl
                rw [e2_] at hl
                exact ih (i + 1) ls (by omega) (by omega) (lv_sub hl [0, 1, 2, 3, 4] rfl)
      · rw [zch_end hi3_] at hl
        have hl : lv_has ls 5 [(4, .null), (3, va_rf (zad h (kLow P x d i))), (0, .ref (h 0)), (1, .int x), (2, .int d)] := hl
        have hi30_ : i = 30 := by omega
        refine lv_aloadN hx hb dX0_leastFrom_8 (lv_at hl 0 rfl) ?_
        refine lv_ifnullN (tgt := 57) hx hb dX0_leastFrom_10 (by decide) ?_
        refine zo_aload_n (r := zad h (kLow P x d i)) hx hb dX0_leastFrom_57 rfl (lv_at hl 1 rfl) ?_
        exact zr_sq (r := zad h (kLow P x d i)) hx hb hr hlocks (by rw [hi30_]) dX0_leastFrom_58
  exact L_8 (30 + 1) 0 ls (by omega) (by omega) (lv_sub hl [0, 1, 2, 3, 4] rfl)
set_option maxHeartbeats 4000000 in
set_option maxRecDepth 100000 in
theorem c_X0_hostFor (l : Launch) (V : zV) (h : Nat → Nat) (F T : Nat → Int32) (lv : Int32) (Ga Gb Gc : Nat → Int32) (P : Nat → Nat → Int32) (wr d mm : Int32) : Met l yX0_hostFor wsX0_hostFor (zR 1 0 0) (zPc V [.ref (h 0), .int wr, .int d, .int mm] (fun H => va_P V.1 vwCl (zaW V h F T lv Ga Gb Gc P) H)) (va_Sq (fun r => r = zad h (kHost P wr d mm 30))) 0 0 (fun _ => False) := by
  refine Met.ofW (cc := cX0_hostFor) (maxL := 7) (ret := (some (.object "DrawerSlips$Slip"))) (by decide) rfl ?_
  intro p e s m args below meth c s₁ B hml hv
  obtain ⟨rfl, hP, hE⟩ := hv
  have hx := B.exec
  have hb := B.bytes
  have hr := B.returns
  have hts := atoms_spec (ws := wsX0_hostFor) B.pre
  have hown : s.vm.findClass RX0 = some m.cls := findClass_of_methodNamed B.named
  have hlocks := B.notSynchronized
  have hl := lv_entry ([.ref (h 0), .int wr, .int d, .int mm]) (n := 7) (Nat.le_of_ble_eq_true rfl)
  rw [lg_entry_eq]
  generalize (lg_sl ([.ref (h 0), .int wr, .int d, .int mm]) ++ List.replicate (7 - (lg_sl ([.ref (h 0), .int wr, .int d, .int mm])).length) Slot.unset).toArray = ls at hl ⊢
  have hl : lv_has ls 7 [(0, .ref (h 0)), (1, .int wr), (2, .int d), (3, .int mm)] := hl
  refine lv_null hx hb dX0_hostFor_0 ?_
  refine lv_astoreN (lv' := [(4, .null), (0, .ref (h 0)), (1, .int wr), (2, .int d), (3, .int mm)]) hx hb dX0_hostFor_1 hl (by decide) rfl (fun ls hl => ?_)
  refine lv_aload_n hx hb dX0_hostFor_3 rfl (lv_at hl 1 rfl) ?_
  refine zo_get 1 (.ref (h 6)) hx hb hts (fun x h => List.mem_cons_of_mem _ (hU_X0 x h)) hown hE (za_o hP) (show vwCl[0]? = some (RX0, TX0, 14) from rfl) (by decide) rfl (hts _ (List.mem_cons_of_mem _ uC_22)) (fun _ h9 => h9) dX0_hostFor_4 ?_
  refine lv_astore (lv' := [(5, .ref (h 6)), (4, .null), (0, .ref (h 0)), (1, .int wr), (2, .int d), (3, .int mm)]) hx hb dX0_hostFor_7 hl (by decide) rfl (fun ls hl => ?_)
  have L_9 : ∀ (n_ i : Nat) (ls : Array Slot), i ≤ 30 → 30 + 1 ≤ i + n_ → lv_has ls 7 [(5, va_rf (zch h i)), (4, va_rf (zad h (kHost P wr d mm i))), (0, .ref (h 0)), (1, .int wr), (2, .int d), (3, .int mm)] → W p l e (headSpec wsX0_hostFor (zR 1 0 0)).room s m (List.toArray [.ref (h 0), .int wr, .int d, .int mm]) below meth c s.heap [] 0 0 (MQ below (va_Sq (fun r => r = zad h (kHost P wr d mm 30))) (List.toArray [.ref (h 0), .int wr, .int d, .int mm]) s 0 0 (fun _ => False)) (F0 m 9 ls []) := by
    intro n_
    induction n_ with
    | zero => intro i   ls hi_ hn_; exact absurd hn_ (by omega)
    | succ n_ ih =>
      intro i   ls hi_ hn_   hl
      rcases Nat.lt_or_ge i 30 with hi3_ | hi3_
      · rw [zch_lt hi3_] at hl
        have hl : lv_has ls 7 [(5, .ref (h (i + 6))), (4, va_rf (zad h (kHost P wr d mm i))), (0, .ref (h 0)), (1, .int wr), (2, .int d), (3, .int mm)] := hl
        refine lv_aload hx hb dX0_hostFor_9 (lv_at hl 0 rfl) ?_
        refine lv_ifnull hx hb dX0_hostFor_11 ?_
        refine lv_aload hx hb dX0_hostFor_14 (lv_at hl 0 rfl) ?_
        refine lv_iload_n hx hb dX0_hostFor_16 rfl (lv_at hl 3 rfl) ?_
        refine zc_se (va_runVN (As := [.int wr]) (rest := []) ⟨hx, hb, hml, hown, hts⟩ (c_X5_isOfSort l V (h (i + 6)) (zch h (i + 1)) (P i) wr) ⟨va_cnB 1 hts (zgB_ wsC_all uC_59) rfl rfl rfl (hE.2 (.methodLinkNest RX0 145 yX5_isOfSort "DrawerSlips") (List.mem_of_getElem? (i := 49) rfl)) (hts _ (List.mem_cons_of_mem _ uC_21)) (by decide +kernel) ⟨Nat.le_of_ble_eq_true rfl, Nat.le_of_ble_eq_true rfl⟩, (hts _ (List.mem_cons_of_mem _ uC_62)), (hts _ (List.mem_cons_of_mem _ uC_63))⟩ (zPreV (B := fun H => va_at V.1 vwCl (h (i + 6), .inr (5, zsO (zch h (i + 1)) (P i))) H) (za_slip hP (i := i) (by omega)) hE (za_rs hE hP (i := i) (by omega))) rfl rfl hl.1 rfl (lv_room (Nat.le_of_ble_eq_true rfl)) dX0_hostFor_17 ⟨Nat.le_of_ble_eq_true rfl, Nat.le_of_ble_eq_true rfl⟩) ?_
        refine zbp_eq (P := ¬ P i 1 = 0 ∧ P i 3 = wr) (tgt := 50) hx hb dX0_hostFor_20 (by decide) (fun c_20 => ?_) (fun c_20 => ?_)
        · refine lv_iconst (v := 0) hx hb dX0_hostFor_50 (by decide +kernel) ?_
          refine lv_istore (lv' := [(6, .int 0), (5, .ref (h (i + 6))), (4, va_rf (zad h (kHost P wr d mm i))), (0, .ref (h 0)), (1, .int wr), (2, .int d), (3, .int mm)]) hx hb dX0_hostFor_51 hl (by decide) rfl (fun ls hl => ?_)
          refine lv_iload hx hb dX0_hostFor_53 (lv_at hl 0 rfl) ?_
          refine lv_if_eq (tgt := 80) hx hb dX0_hostFor_55 (by decide) (fun c_55 => ?_) (fun c_55 => ?_)
          rotate_left
          · exact absurd c_55 (by decide +kernel)
          refine lv_aload hx hb dX0_hostFor_80 (lv_at hl 1 rfl) ?_
          refine zo_getN 0 (va_rf (zch h (i + 1))) hx hb hts (fun x h => List.mem_cons_of_mem _ (hU_X5 x h)) hown hE (za_slip hP (i := i) (by omega)) (show vwCl[5]? = some (RX5, TX5, 8) from rfl) (by decide) rfl (List.mem_of_getElem? (i := 2) rfl) (fun _ h9 => h9) dX0_hostFor_82 ?_
          refine zo_astore (r := zch h (i + 1)) (lv' := [(5, va_rf (zch h (i + 1))), (6, .int 0), (4, va_rf (zad h (kHost P wr d mm i))), (0, .ref (h 0)), (1, .int wr), (2, .int d), (3, .int mm)]) hx hb dX0_hostFor_85 hl (by decide) (by generalize zad h (kHost P wr d mm i) = r_; cases r_ <;> rfl) (fun ls hl => ?_)
          refine lv_goto (tgt := 9) hx hb dX0_hostFor_87 (by decide) ?_
          have e_ : kHost P wr d mm (i + 1) = kHost P wr d mm i := by exact zBest_skip (decide_eq_false (fun h => c_20 h.1))
          have e2_ : va_rf (zad h (kHost P wr d mm i)) = va_rf (zad h (kHost P wr d mm (i + 1))) := by rw [e_]
          rw [e2_] at hl
          exact ih (i + 1) ls (by omega) (by omega) (lv_sub hl [0, 2, 3, 4, 5, 6] rfl)
        · refine lv_aload hx hb dX0_hostFor_23 (lv_at hl 0 rfl) ?_
          refine zc_se (va_runVN (As := []) (rest := []) ⟨hx, hb, hml, hown, hts⟩ (c_X5_last l V (h (i + 6)) (zch h (i + 1)) (P i)) ⟨va_cnB 0 hts (zgB_ wsC_all uC_60) rfl rfl rfl (hE.2 (.methodLinkNest RX0 149 yX5_last "DrawerSlips") (List.mem_of_getElem? (i := 50) rfl)) (hts _ (List.mem_cons_of_mem _ uC_21)) (by decide +kernel) ⟨Nat.le_of_ble_eq_true rfl, Nat.le_of_ble_eq_true rfl⟩, (hts _ (List.mem_cons_of_mem _ uC_64)), (hts _ (List.mem_cons_of_mem _ uC_65))⟩ (zPreV (B := fun H => va_at V.1 vwCl (h (i + 6), .inr (5, zsO (zch h (i + 1)) (P i))) H) (za_slip hP (i := i) (by omega)) hE (za_rs hE hP (i := i) (by omega))) rfl rfl hl.1 rfl (lv_room (Nat.le_of_ble_eq_true rfl)) dX0_hostFor_25 ⟨Nat.le_of_ble_eq_true rfl, Nat.le_of_ble_eq_true rfl⟩) ?_
          refine lv_iconst (v := 1) hx hb dX0_hostFor_28 (by decide +kernel) ?_
          refine lv_iadd hx hb dX0_hostFor_29 ?_
          refine lv_iload_n hx hb dX0_hostFor_30 rfl (lv_at hl 4 rfl) ?_
          refine lv_icmp_ne (tgt := 50) hx hb dX0_hostFor_31 (by decide) (fun c_31 => ?_) (fun c_31 => ?_)
          · refine lv_iconst (v := 0) hx hb dX0_hostFor_50 (by decide +kernel) ?_
            refine lv_istore (lv' := [(6, .int 0), (5, .ref (h (i + 6))), (4, va_rf (zad h (kHost P wr d mm i))), (0, .ref (h 0)), (1, .int wr), (2, .int d), (3, .int mm)]) hx hb dX0_hostFor_51 hl (by decide) rfl (fun ls hl => ?_)
            refine lv_iload hx hb dX0_hostFor_53 (lv_at hl 0 rfl) ?_
            refine lv_if_eq (tgt := 80) hx hb dX0_hostFor_55 (by decide) (fun c_55 => ?_) (fun c_55 => ?_)
            rotate_left
            · exact absurd c_55 (by decide +kernel)
            refine lv_aload hx hb dX0_hostFor_80 (lv_at hl 1 rfl) ?_
            refine zo_getN 0 (va_rf (zch h (i + 1))) hx hb hts (fun x h => List.mem_cons_of_mem _ (hU_X5 x h)) hown hE (za_slip hP (i := i) (by omega)) (show vwCl[5]? = some (RX5, TX5, 8) from rfl) (by decide) rfl (List.mem_of_getElem? (i := 2) rfl) (fun _ h9 => h9) dX0_hostFor_82 ?_
            refine zo_astore (r := zch h (i + 1)) (lv' := [(5, va_rf (zch h (i + 1))), (6, .int 0), (4, va_rf (zad h (kHost P wr d mm i))), (0, .ref (h 0)), (1, .int wr), (2, .int d), (3, .int mm)]) hx hb dX0_hostFor_85 hl (by decide) (by generalize zad h (kHost P wr d mm i) = r_; cases r_ <;> rfl) (fun ls hl => ?_)
            refine lv_goto (tgt := 9) hx hb dX0_hostFor_87 (by decide) ?_
            have e_ : kHost P wr d mm (i + 1) = kHost P wr d mm i := by exact zBest_skip (decide_eq_false (fun h => c_31 h.2.1))
            have e2_ : va_rf (zad h (kHost P wr d mm i)) = va_rf (zad h (kHost P wr d mm (i + 1))) := by rw [e_]
            rw [e2_] at hl
            exact ih (i + 1) ls (by omega) (by omega) (lv_sub hl [0, 2, 3, 4, 5, 6] rfl)
          · refine lv_aload hx hb dX0_hostFor_34 (lv_at hl 0 rfl) ?_
            refine zo_getN 5 (.int (P i 5)) hx hb hts (fun x h => List.mem_cons_of_mem _ (hU_X5 x h)) hown hE (za_slip hP (i := i) (by omega)) (show vwCl[5]? = some (RX5, TX5, 8) from rfl) (by decide) rfl (List.mem_of_getElem? (i := 10) rfl) (fun _ h9 => h9) dX0_hostFor_36 ?_
            refine lv_iload_n hx hb dX0_hostFor_39 rfl (lv_at hl 5 rfl) ?_
            refine lv_iadd hx hb dX0_hostFor_40 ?_
            refine lv_bipush (v := 9) hx hb dX0_hostFor_41 (by decide +kernel) ?_
            refine lv_icmp_gt (tgt := 50) hx hb dX0_hostFor_43 (by decide) (fun c_43 => ?_) (fun c_43 => ?_)
            · refine lv_iconst (v := 0) hx hb dX0_hostFor_50 (by decide +kernel) ?_
              refine lv_istore (lv' := [(6, .int 0), (5, .ref (h (i + 6))), (4, va_rf (zad h (kHost P wr d mm i))), (0, .ref (h 0)), (1, .int wr), (2, .int d), (3, .int mm)]) hx hb dX0_hostFor_51 hl (by decide) rfl (fun ls hl => ?_)
              refine lv_iload hx hb dX0_hostFor_53 (lv_at hl 0 rfl) ?_
              refine lv_if_eq (tgt := 80) hx hb dX0_hostFor_55 (by decide) (fun c_55 => ?_) (fun c_55 => ?_)
              rotate_left
              · exact absurd c_55 (by decide +kernel)
              refine lv_aload hx hb dX0_hostFor_80 (lv_at hl 1 rfl) ?_
              refine zo_getN 0 (va_rf (zch h (i + 1))) hx hb hts (fun x h => List.mem_cons_of_mem _ (hU_X5 x h)) hown hE (za_slip hP (i := i) (by omega)) (show vwCl[5]? = some (RX5, TX5, 8) from rfl) (by decide) rfl (List.mem_of_getElem? (i := 2) rfl) (fun _ h9 => h9) dX0_hostFor_82 ?_
              refine zo_astore (r := zch h (i + 1)) (lv' := [(5, va_rf (zch h (i + 1))), (6, .int 0), (4, va_rf (zad h (kHost P wr d mm i))), (0, .ref (h 0)), (1, .int wr), (2, .int d), (3, .int mm)]) hx hb dX0_hostFor_85 hl (by decide) (by generalize zad h (kHost P wr d mm i) = r_; cases r_ <;> rfl) (fun ls hl => ?_)
              refine lv_goto (tgt := 9) hx hb dX0_hostFor_87 (by decide) ?_
              have e_ : kHost P wr d mm (i + 1) = kHost P wr d mm i := by exact zBest_skip (decide_eq_false (fun h => z_lt' c_43 h.2.2))
              have e2_ : va_rf (zad h (kHost P wr d mm i)) = va_rf (zad h (kHost P wr d mm (i + 1))) := by rw [e_]
              rw [e2_] at hl
              exact ih (i + 1) ls (by omega) (by omega) (lv_sub hl [0, 2, 3, 4, 5, 6] rfl)
            · refine lv_iconst (v := 1) hx hb dX0_hostFor_46 (by decide +kernel) ?_
              refine lv_goto (tgt := 51) hx hb dX0_hostFor_47 (by decide) ?_
              refine lv_istore (lv' := [(6, .int 1), (5, .ref (h (i + 6))), (4, va_rf (zad h (kHost P wr d mm i))), (0, .ref (h 0)), (1, .int wr), (2, .int d), (3, .int mm)]) hx hb dX0_hostFor_51 hl (by decide) rfl (fun ls hl => ?_)
              refine lv_iload hx hb dX0_hostFor_53 (lv_at hl 0 rfl) ?_
              refine lv_if_eq (tgt := 80) hx hb dX0_hostFor_55 (by decide) (fun c_55 => ?_) (fun c_55 => ?_)
              · exact absurd c_55 (by decide +kernel)
              refine zo_aload (r := zad h (kHost P wr d mm i)) hx hb dX0_hostFor_58 (lv_at hl 2 rfl) ?_
              rcases hq_60 : kHost P wr d mm i with _ | k_60
              · refine zt_v (y := .null) (by first | rfl | (rw [hq_60]; rfl)) ?_
                rw [hq_60] at hl
                have hl : lv_has ls 7 [(6, .int 1), (5, .ref (h (i + 6))), (4, .null), (0, .ref (h 0)), (1, .int wr), (2, .int d), (3, .int mm)] := hl
                refine lv_ifnullN (tgt := 76) hx hb dX0_hostFor_60 (by decide) ?_
                refine lv_aload hx hb dX0_hostFor_76 (lv_at hl 1 rfl) ?_
                refine lv_astore (lv' := [(4, .ref (h (i + 6))), (6, .int 1), (5, .ref (h (i + 6))), (0, .ref (h 0)), (1, .int wr), (2, .int d), (3, .int mm)]) hx hb dX0_hostFor_78 hl (by decide) rfl (fun ls hl => ?_)
                refine lv_aload hx hb dX0_hostFor_80 (lv_at hl 2 rfl) ?_
                refine zo_getN 0 (va_rf (zch h (i + 1))) hx hb hts (fun x h => List.mem_cons_of_mem _ (hU_X5 x h)) hown hE (za_slip hP (i := i) (by omega)) (show vwCl[5]? = some (RX5, TX5, 8) from rfl) (by decide) rfl (List.mem_of_getElem? (i := 2) rfl) (fun _ h9 => h9) dX0_hostFor_82 ?_
                refine zo_astore (r := zch h (i + 1)) (lv' := [(5, va_rf (zch h (i + 1))), (4, .ref (h (i + 6))), (6, .int 1), (0, .ref (h 0)), (1, .int wr), (2, .int d), (3, .int mm)]) hx hb dX0_hostFor_85 hl (by decide) rfl (fun ls hl => ?_)
                refine lv_goto (tgt := 9) hx hb dX0_hostFor_87 (by decide) ?_
                have e_ : kHost P wr d mm (i + 1) = some i := by exact zBest_first hq_60 (decide_eq_true ⟨c_20, c_31, z_nlt c_43⟩)
                have e2_ : .ref (h (i + 6)) = va_rf (zad h (kHost P wr d mm (i + 1))) := by rw [e_]; rfl
                rw [e2_] at hl
                exact ih (i + 1) ls (by omega) (by omega) (lv_sub hl [0, 1, 3, 4, 5, 6] rfl)
              · refine zt_v (y := .ref (h (k_60 + 6))) (by first | rfl | (rw [hq_60]; rfl)) ?_
                rw [hq_60] at hl
                have hl : lv_has ls 7 [(6, .int 1), (5, .ref (h (i + 6))), (4, .ref (h (k_60 + 6))), (0, .ref (h 0)), (1, .int wr), (2, .int d), (3, .int mm)] := hl
                have hb_60 : k_60 < 30 := by first | exact (zFirst_lt hq_60).1 | exact (zBest_lt hq_60).1 | exact kSel_lt hq_60 | (have h_ := (zBest_lt hq_60).1; omega)
                refine lv_ifnull hx hb dX0_hostFor_60 ?_
                refine lv_aload hx hb dX0_hostFor_63 (lv_at hl 1 rfl) ?_
                refine zo_getN 2 (.int (P i 2)) hx hb hts (fun x h => List.mem_cons_of_mem _ (hU_X5 x h)) hown hE (za_slip hP (i := i) (by omega)) (show vwCl[5]? = some (RX5, TX5, 8) from rfl) (by decide) rfl (List.mem_of_getElem? (i := 4) rfl) (fun _ h9 => h9) dX0_hostFor_65 ?_
                refine lv_aload hx hb dX0_hostFor_68 (lv_at hl 2 rfl) ?_
                refine zo_getN 2 (.int (P k_60 2)) hx hb hts (fun x h => List.mem_cons_of_mem _ (hU_X5 x h)) hown hE (za_slip hP (i := k_60) (by omega)) (show vwCl[5]? = some (RX5, TX5, 8) from rfl) (by decide) rfl (List.mem_of_getElem? (i := 4) rfl) (fun _ h9 => h9) dX0_hostFor_70 ?_
                refine lv_icmp_ge (tgt := 80) hx hb dX0_hostFor_73 (by decide) (fun c_73 => ?_) (fun c_73 => ?_)
                · refine lv_aload hx hb dX0_hostFor_80 (lv_at hl 1 rfl) ?_
                  refine zo_getN 0 (va_rf (zch h (i + 1))) hx hb hts (fun x h => List.mem_cons_of_mem _ (hU_X5 x h)) hown hE (za_slip hP (i := i) (by omega)) (show vwCl[5]? = some (RX5, TX5, 8) from rfl) (by decide) rfl (List.mem_of_getElem? (i := 2) rfl) (fun _ h9 => h9) dX0_hostFor_82 ?_
                  refine zo_astore (r := zch h (i + 1)) (lv' := [(5, va_rf (zch h (i + 1))), (6, .int 1), (4, .ref (h (k_60 + 6))), (0, .ref (h 0)), (1, .int wr), (2, .int d), (3, .int mm)]) hx hb dX0_hostFor_85 hl (by decide) rfl (fun ls hl => ?_)
                  refine lv_goto (tgt := 9) hx hb dX0_hostFor_87 (by decide) ?_
                  have e_ : kHost P wr d mm (i + 1) = some k_60 := by exact zBest_keep hq_60 (decide_eq_false (z_le' c_73))
                  have e2_ : .ref (h (k_60 + 6)) = va_rf (zad h (kHost P wr d mm (i + 1))) := by rw [e_]; rfl
                  rw [e2_] at hl
                  exact ih (i + 1) ls (by omega) (by omega) (lv_sub hl [0, 2, 3, 4, 5, 6] rfl)
                · refine lv_aload hx hb dX0_hostFor_76 (lv_at hl 1 rfl) ?_
                  refine lv_astore (lv' := [(4, .ref (h (i + 6))), (6, .int 1), (5, .ref (h (i + 6))), (0, .ref (h 0)), (1, .int wr), (2, .int d), (3, .int mm)]) hx hb dX0_hostFor_78 hl (by decide) rfl (fun ls hl => ?_)
                  refine lv_aload hx hb dX0_hostFor_80 (lv_at hl 2 rfl) ?_
                  refine zo_getN 0 (va_rf (zch h (i + 1))) hx hb hts (fun x h => List.mem_cons_of_mem _ (hU_X5 x h)) hown hE (za_slip hP (i := i) (by omega)) (show vwCl[5]? = some (RX5, TX5, 8) from rfl) (by decide) rfl (List.mem_of_getElem? (i := 2) rfl) (fun _ h9 => h9) dX0_hostFor_82 ?_
                  refine zo_astore (r := zch h (i + 1)) (lv' := [(5, va_rf (zch h (i + 1))), (4, .ref (h (i + 6))), (6, .int 1), (0, .ref (h 0)), (1, .int wr), (2, .int d), (3, .int mm)]) hx hb dX0_hostFor_85 hl (by decide) rfl (fun ls hl => ?_)
                  refine lv_goto (tgt := 9) hx hb dX0_hostFor_87 (by decide) ?_
                  have e_ : kHost P wr d mm (i + 1) = some i := by exact zBest_less hq_60 (decide_eq_true ⟨c_20, c_31, z_nlt c_43⟩) (decide_eq_true (z_nle c_73))
                  have e2_ : .ref (h (i + 6)) = va_rf (zad h (kHost P wr d mm (i + 1))) := by rw [e_]; rfl
                  rw [e2_] at hl
                  exact ih (i + 1) ls (by omega) (by omega) (lv_sub hl [0, 1, 3, 4, 5, 6] rfl)
      · rw [zch_end hi3_] at hl
        have hl : lv_has ls 7 [(5, .null), (4, va_rf (zad h (kHost P wr d mm i))), (0, .ref (h 0)), (1, .int wr), (2, .int d), (3, .int mm)] := hl
        have hi30_ : i = 30 := by omega
        refine lv_aloadN hx hb dX0_hostFor_9 (lv_at hl 0 rfl) ?_
        refine lv_ifnullN (tgt := 90) hx hb dX0_hostFor_11 (by decide) ?_
        refine zo_aload (r := zad h (kHost P wr d mm i)) hx hb dX0_hostFor_90 (lv_at hl 1 rfl) ?_
        exact zr_sq (r := zad h (kHost P wr d mm i)) hx hb hr hlocks (by rw [hi30_]) dX0_hostFor_92
  exact L_9 (30 + 1) 0 ls (by omega) (by omega) (lv_sub hl [0, 1, 2, 3, 4, 5] rfl)
set_option maxHeartbeats 4000000 in
set_option maxRecDepth 100000 in
theorem c_X0_slipsAheadOf (l : Launch) (V : zV) (h : Nat → Nat) (F T : Nat → Int32) (lv : Int32) (Ga Gb Gc : Nat → Int32) (P : Nat → Nat → Int32) (k : Nat) (hk : k < 30) : Met l yX0_slipsAheadOf wsX0_slipsAheadOf (zR 1 0 0) (zPc V [.ref (h 0), .ref (h (k + 6))] (fun H => va_P V.1 vwCl (zaW V h F T lv Ga Gb Gc P) H)) (vp_Si (fun r => r = (nI (kAhead P k 30)))) 0 0 (fun _ => False) := by
  refine Met.ofW (cc := cX0_slipsAheadOf) (maxL := 4) (ret := (some .int)) (by decide) rfl ?_
  intro p e s m args below meth c s₁ B hml hv
  obtain ⟨rfl, hP, hE⟩ := hv
  have hx := B.exec
  have hb := B.bytes
  have hr := B.returns
  have hts := atoms_spec (ws := wsX0_slipsAheadOf) B.pre
  have hown : s.vm.findClass RX0 = some m.cls := findClass_of_methodNamed B.named
  have hlocks := B.notSynchronized
  have hl := lv_entry ([.ref (h 0), .ref (h (k + 6))]) (n := 4) (Nat.le_of_ble_eq_true rfl)
  rw [lg_entry_eq]
  generalize (lg_sl ([.ref (h 0), .ref (h (k + 6))]) ++ List.replicate (4 - (lg_sl ([.ref (h 0), .ref (h (k + 6))])).length) Slot.unset).toArray = ls at hl ⊢
  have hl : lv_has ls 4 [(0, .ref (h 0)), (1, .ref (h (k + 6)))] := hl
  refine lv_iconst (v := 0) hx hb dX0_slipsAheadOf_0 (by decide +kernel) ?_
  refine lv_istore_n (lv' := [(2, .int 0), (0, .ref (h 0)), (1, .ref (h (k + 6)))]) hx hb dX0_slipsAheadOf_1 rfl hl (by decide) rfl (fun ls hl => ?_)
  refine lv_aload_n hx hb dX0_slipsAheadOf_2 rfl (lv_at hl 1 rfl) ?_
  refine zo_get 1 (.ref (h 6)) hx hb hts (fun x h => List.mem_cons_of_mem _ (hU_X0 x h)) hown hE (za_o hP) (show vwCl[0]? = some (RX0, TX0, 14) from rfl) (by decide) rfl (hts _ (List.mem_cons_of_mem _ uC_22)) (fun _ h9 => h9) dX0_slipsAheadOf_3 ?_
  refine lv_astore_n (lv' := [(3, .ref (h 6)), (2, .int 0), (0, .ref (h 0)), (1, .ref (h (k + 6)))]) hx hb dX0_slipsAheadOf_6 rfl hl (by decide) rfl (fun ls hl => ?_)
  have L_7 : ∀ (n_ i : Nat) (ls : Array Slot), i ≤ 30 → 30 + 1 ≤ i + n_ → lv_has ls 4 [(3, va_rf (zch h i)), (0, .ref (h 0)), (1, .ref (h (k + 6))), (2, .int (nI (kAhead P k i)))] → W p l e (headSpec wsX0_slipsAheadOf (zR 1 0 0)).room s m (List.toArray [.ref (h 0), .ref (h (k + 6))]) below meth c s.heap [] 0 0 (MQ below (vp_Si (fun r => r = (nI (kAhead P k 30)))) (List.toArray [.ref (h 0), .ref (h (k + 6))]) s 0 0 (fun _ => False)) (F0 m 7 ls []) := by
    intro n_
    induction n_ with
    | zero => intro i   ls hi_ hn_; exact absurd hn_ (by omega)
    | succ n_ ih =>
      intro i   ls hi_ hn_   hl
      rcases Nat.lt_or_ge i 30 with hi3_ | hi3_
      · rw [zch_lt hi3_] at hl
        have hl : lv_has ls 4 [(3, .ref (h (i + 6))), (0, .ref (h 0)), (1, .ref (h (k + 6))), (2, .int (nI (kAhead P k i)))] := hl
        refine lv_aload_n hx hb dX0_slipsAheadOf_7 rfl (lv_at hl 0 rfl) ?_
        refine lv_ifnull hx hb dX0_slipsAheadOf_8 ?_
        refine lv_aload_n hx hb dX0_slipsAheadOf_11 rfl (lv_at hl 0 rfl) ?_
        refine lv_aload_n hx hb dX0_slipsAheadOf_12 rfl (lv_at hl 2 rfl) ?_
        refine zo_getN 3 (.int (P k 3)) hx hb hts (fun x h => List.mem_cons_of_mem _ (hU_X5 x h)) hown hE (za_slip hP (i := k) (by omega)) (show vwCl[5]? = some (RX5, TX5, 8) from rfl) (by decide) rfl (List.mem_of_getElem? (i := 6) rfl) (fun _ h9 => h9) dX0_slipsAheadOf_13 ?_
        refine zc_se (va_runVN (As := [.int (P k 3)]) (rest := []) ⟨hx, hb, hml, hown, hts⟩ (c_X5_isOfSort l V (h (i + 6)) (zch h (i + 1)) (P i) (P k 3)) ⟨va_cnB 1 hts (zgB_ wsC_all uC_59) rfl rfl rfl (hE.2 (.methodLinkNest RX0 145 yX5_isOfSort "DrawerSlips") (List.mem_of_getElem? (i := 49) rfl)) (hts _ (List.mem_cons_of_mem _ uC_21)) (by decide +kernel) ⟨Nat.le_of_ble_eq_true rfl, Nat.le_of_ble_eq_true rfl⟩, (hts _ (List.mem_cons_of_mem _ uC_62)), (hts _ (List.mem_cons_of_mem _ uC_63))⟩ (zPreV (B := fun H => va_at V.1 vwCl (h (i + 6), .inr (5, zsO (zch h (i + 1)) (P i))) H) (za_slip hP (i := i) (by omega)) hE (za_rs hE hP (i := i) (by omega))) rfl rfl hl.1 rfl (lv_room (Nat.le_of_ble_eq_true rfl)) dX0_slipsAheadOf_16 ⟨Nat.le_of_ble_eq_true rfl, Nat.le_of_ble_eq_true rfl⟩) ?_
        refine zbp_eq (P := ¬ P i 1 = 0 ∧ P i 3 = P k 3) (tgt := 33) hx hb dX0_slipsAheadOf_19 (by decide) (fun c_19 => ?_) (fun c_19 => ?_)
        · refine lv_aload_n hx hb dX0_slipsAheadOf_33 rfl (lv_at hl 0 rfl) ?_
          refine zo_getN 0 (va_rf (zch h (i + 1))) hx hb hts (fun x h => List.mem_cons_of_mem _ (hU_X5 x h)) hown hE (za_slip hP (i := i) (by omega)) (show vwCl[5]? = some (RX5, TX5, 8) from rfl) (by decide) rfl (List.mem_of_getElem? (i := 2) rfl) (fun _ h9 => h9) dX0_slipsAheadOf_34 ?_
          refine zo_astore_n (r := zch h (i + 1)) (lv' := [(3, va_rf (zch h (i + 1))), (0, .ref (h 0)), (1, .ref (h (k + 6))), (2, .int (nI (kAhead P k i)))]) hx hb dX0_slipsAheadOf_37 rfl hl (by decide) rfl (fun ls hl => ?_)
          refine lv_goto (tgt := 7) hx hb dX0_slipsAheadOf_38 (by decide) ?_
          have e_ : kAhead P k i = kAhead P k (i + 1) := zCnt_n (decide_eq_false (fun h => c_19 h.1))
          rw [e_] at hl
          exact ih (i + 1) ls (by omega) (by omega) (lv_sub hl [0, 1, 2, 3] rfl)
        · refine lv_aload_n hx hb dX0_slipsAheadOf_22 rfl (lv_at hl 0 rfl) ?_
          refine lv_aload_n hx hb dX0_slipsAheadOf_23 rfl (lv_at hl 2 rfl) ?_
          refine zc_se (va_runVN (As := [.ref (h (k + 6))]) (rest := []) ⟨hx, hb, hml, hown, hts⟩ (c_X5_isAheadOf l V (h (i + 6)) (h (k + 6)) (zch h (i + 1)) (zch h (k + 1)) (P i) (P k)) ⟨va_cnB 1 hts (zgB_ wsC_all uC_96) rfl rfl rfl (hE.2 (.methodLinkNest RX0 156 yX5_isAheadOf "DrawerSlips") (List.mem_of_getElem? (i := 55) rfl)) (hts _ (List.mem_cons_of_mem _ uC_21)) (by decide +kernel) ⟨Nat.le_of_ble_eq_true rfl, Nat.le_of_ble_eq_true rfl⟩, (hts _ (List.mem_cons_of_mem _ uC_98)), (hts _ (List.mem_cons_of_mem _ uC_99))⟩ (zPreV (B := fun H => va_at V.1 vwCl (h (i + 6), .inr (5, zsO (zch h (i + 1)) (P i))) H ∧ va_at V.1 vwCl (h (k + 6), .inr (5, zsO (zch h (k + 1)) (P k))) H) ⟨(za_slip hP (i := i) (by omega)), (za_slip hP (i := k) (by omega))⟩ hE (za_rs hE hP (i := i) (by omega))) rfl rfl hl.1 rfl (lv_room (Nat.le_of_ble_eq_true rfl)) dX0_slipsAheadOf_24 ⟨Nat.le_of_ble_eq_true rfl, Nat.le_of_ble_eq_true rfl⟩) ?_
          refine zbp_eq (P := P i 4 < P k 4 ∨ (P i 4 = P k 4 ∧ P i 2 < P k 2)) (tgt := 33) hx hb dX0_slipsAheadOf_27 (by decide) (fun c_27 => ?_) (fun c_27 => ?_)
          · refine lv_aload_n hx hb dX0_slipsAheadOf_33 rfl (lv_at hl 0 rfl) ?_
            refine zo_getN 0 (va_rf (zch h (i + 1))) hx hb hts (fun x h => List.mem_cons_of_mem _ (hU_X5 x h)) hown hE (za_slip hP (i := i) (by omega)) (show vwCl[5]? = some (RX5, TX5, 8) from rfl) (by decide) rfl (List.mem_of_getElem? (i := 2) rfl) (fun _ h9 => h9) dX0_slipsAheadOf_34 ?_
            refine zo_astore_n (r := zch h (i + 1)) (lv' := [(3, va_rf (zch h (i + 1))), (0, .ref (h 0)), (1, .ref (h (k + 6))), (2, .int (nI (kAhead P k i)))]) hx hb dX0_slipsAheadOf_37 rfl hl (by decide) rfl (fun ls hl => ?_)
            refine lv_goto (tgt := 7) hx hb dX0_slipsAheadOf_38 (by decide) ?_
            have e_ : kAhead P k i = kAhead P k (i + 1) := zCnt_n (decide_eq_false (fun h => c_27 h.2))
            rw [e_] at hl
            exact ih (i + 1) ls (by omega) (by omega) (lv_sub hl [0, 1, 2, 3] rfl)
          · refine lv_iinc (v := nI (kAhead P k i + 1)) (lv' := [(2, .int (nI (kAhead P k i + 1))), (3, .ref (h (i + 6))), (0, .ref (h 0)), (1, .ref (h (k + 6)))]) hx hb dX0_slipsAheadOf_30 hl (k := 3) rfl (z_inc1 (kAhead P k i)) (by decide) rfl (fun ls hl => ?_)
            refine lv_aload_n hx hb dX0_slipsAheadOf_33 rfl (lv_at hl 1 rfl) ?_
            refine zo_getN 0 (va_rf (zch h (i + 1))) hx hb hts (fun x h => List.mem_cons_of_mem _ (hU_X5 x h)) hown hE (za_slip hP (i := i) (by omega)) (show vwCl[5]? = some (RX5, TX5, 8) from rfl) (by decide) rfl (List.mem_of_getElem? (i := 2) rfl) (fun _ h9 => h9) dX0_slipsAheadOf_34 ?_
            refine zo_astore_n (r := zch h (i + 1)) (lv' := [(3, va_rf (zch h (i + 1))), (2, .int (nI (kAhead P k i + 1))), (0, .ref (h 0)), (1, .ref (h (k + 6)))]) hx hb dX0_slipsAheadOf_37 rfl hl (by decide) rfl (fun ls hl => ?_)
            refine lv_goto (tgt := 7) hx hb dX0_slipsAheadOf_38 (by decide) ?_
            have e_ : kAhead P k i + 1 = kAhead P k (i + 1) := zCnt_y (decide_eq_true ⟨c_19, c_27⟩)
            rw [e_] at hl
            exact ih (i + 1) ls (by omega) (by omega) (lv_sub hl [0, 2, 3, 1] rfl)
      · rw [zch_end hi3_] at hl
        have hl : lv_has ls 4 [(3, .null), (0, .ref (h 0)), (1, .ref (h (k + 6))), (2, .int (nI (kAhead P k i)))] := hl
        have hi30_ : i = 30 := by omega
        refine lv_aload_nN hx hb dX0_slipsAheadOf_7 rfl (lv_at hl 0 rfl) ?_
        refine lv_ifnullN (tgt := 41) hx hb dX0_slipsAheadOf_8 (by decide) ?_
        refine lv_iload_n hx hb dX0_slipsAheadOf_41 rfl (lv_at hl 3 rfl) ?_
        exact zr_si hx hb hr hlocks (by rw [hi30_]) dX0_slipsAheadOf_42
  exact L_7 (30 + 1) 0 ls (by omega) (by omega) (lv_sub hl [0, 2, 3, 1] rfl)
set_option maxHeartbeats 4000000 in
set_option maxRecDepth 100000 in
theorem c_X0_ranked (l : Launch) (V : zV) (h : Nat → Nat) (F T : Nat → Int32) (lv : Int32) (Ga Gb Gc : Nat → Int32) (P : Nat → Nat → Int32) (x rk : Int32) : Met l yX0_ranked wsX0_ranked (zR 2 0 0) (zPc V [.ref (h 0), .int x, .int rk] (fun H => va_P V.1 vwCl (zaW V h F T lv Ga Gb Gc P) H)) (va_Sq (fun r => r = zad h (kRank P x rk 30))) 0 0 (fun _ => False) := by
  refine Met.ofW (cc := cX0_ranked) (maxL := 4) (ret := (some (.object "DrawerSlips$Slip"))) (by decide) rfl ?_
  intro p e s m args below meth c s₁ B hml hv
  obtain ⟨rfl, hP, hE⟩ := hv
  have hx := B.exec
  have hb := B.bytes
  have hr := B.returns
  have hts := atoms_spec (ws := wsX0_ranked) B.pre
  have hown : s.vm.findClass RX0 = some m.cls := findClass_of_methodNamed B.named
  have hlocks := B.notSynchronized
  have hl := lv_entry ([.ref (h 0), .int x, .int rk]) (n := 4) (Nat.le_of_ble_eq_true rfl)
  rw [lg_entry_eq]
  generalize (lg_sl ([.ref (h 0), .int x, .int rk]) ++ List.replicate (4 - (lg_sl ([.ref (h 0), .int x, .int rk])).length) Slot.unset).toArray = ls at hl ⊢
  have hl : lv_has ls 4 [(0, .ref (h 0)), (1, .int x), (2, .int rk)] := hl
  refine lv_aload_n hx hb dX0_ranked_0 rfl (lv_at hl 0 rfl) ?_
  refine zo_get 1 (.ref (h 6)) hx hb hts (fun x h => List.mem_cons_of_mem _ (hU_X0 x h)) hown hE (za_o hP) (show vwCl[0]? = some (RX0, TX0, 14) from rfl) (by decide) rfl (hts _ (List.mem_cons_of_mem _ uC_22)) (fun _ h9 => h9) dX0_ranked_1 ?_
  refine lv_astore_n (lv' := [(3, .ref (h 6)), (0, .ref (h 0)), (1, .int x), (2, .int rk)]) hx hb dX0_ranked_4 rfl hl (by decide) rfl (fun ls hl => ?_)
  have L_5 : ∀ (n_ i : Nat) (ls : Array Slot), i ≤ 30 → 30 + 1 ≤ i + n_ → (kRank P x rk i = none) → lv_has ls 4 [(3, va_rf (zch h i)), (0, .ref (h 0)), (1, .int x), (2, .int rk)] → W p l e (headSpec wsX0_ranked (zR 2 0 0)).room s m (List.toArray [.ref (h 0), .int x, .int rk]) below meth c s.heap [] 0 0 (MQ below (va_Sq (fun r => r = zad h (kRank P x rk 30))) (List.toArray [.ref (h 0), .int x, .int rk]) s 0 0 (fun _ => False)) (F0 m 5 ls []) := by
    intro n_
    induction n_ with
    | zero => intro i   ls hi_ hn_; exact absurd hn_ (by omega)
    | succ n_ ih =>
      intro i   ls hi_ hn_ hno  hl
      rcases Nat.lt_or_ge i 30 with hi3_ | hi3_
      · rw [zch_lt hi3_] at hl
        have hl : lv_has ls 4 [(3, .ref (h (i + 6))), (0, .ref (h 0)), (1, .int x), (2, .int rk)] := hl
        refine lv_aload_n hx hb dX0_ranked_5 rfl (lv_at hl 0 rfl) ?_
        refine lv_ifnull hx hb dX0_ranked_6 ?_
        refine lv_aload_n hx hb dX0_ranked_9 rfl (lv_at hl 0 rfl) ?_
        refine lv_iload_n hx hb dX0_ranked_10 rfl (lv_at hl 2 rfl) ?_
        refine zc_se (va_runVN (As := [.int x]) (rest := []) ⟨hx, hb, hml, hown, hts⟩ (c_X5_isOfSort l V (h (i + 6)) (zch h (i + 1)) (P i) x) ⟨va_cnB 1 hts (zgB_ wsC_all uC_59) rfl rfl rfl (hE.2 (.methodLinkNest RX0 145 yX5_isOfSort "DrawerSlips") (List.mem_of_getElem? (i := 49) rfl)) (hts _ (List.mem_cons_of_mem _ uC_21)) (by decide +kernel) ⟨Nat.le_of_ble_eq_true rfl, Nat.le_of_ble_eq_true rfl⟩, (hts _ (List.mem_cons_of_mem _ uC_62)), (hts _ (List.mem_cons_of_mem _ uC_63))⟩ (zPreV (B := fun H => va_at V.1 vwCl (h (i + 6), .inr (5, zsO (zch h (i + 1)) (P i))) H) (za_slip hP (i := i) (by omega)) hE (za_rs hE hP (i := i) (by omega))) rfl rfl hl.1 rfl (lv_room (Nat.le_of_ble_eq_true rfl)) dX0_ranked_11 ⟨Nat.le_of_ble_eq_true rfl, Nat.le_of_ble_eq_true rfl⟩) ?_
        refine zbp_eq (P := ¬ P i 1 = 0 ∧ P i 3 = x) (tgt := 28) hx hb dX0_ranked_14 (by decide) (fun c_14 => ?_) (fun c_14 => ?_)
        · refine lv_aload_n hx hb dX0_ranked_28 rfl (lv_at hl 0 rfl) ?_
          refine zo_getN 0 (va_rf (zch h (i + 1))) hx hb hts (fun x h => List.mem_cons_of_mem _ (hU_X5 x h)) hown hE (za_slip hP (i := i) (by omega)) (show vwCl[5]? = some (RX5, TX5, 8) from rfl) (by decide) rfl (List.mem_of_getElem? (i := 2) rfl) (fun _ h9 => h9) dX0_ranked_29 ?_
          refine zo_astore_n (r := zch h (i + 1)) (lv' := [(3, va_rf (zch h (i + 1))), (0, .ref (h 0)), (1, .int x), (2, .int rk)]) hx hb dX0_ranked_32 rfl hl (by decide) rfl (fun ls hl => ?_)
          refine lv_goto (tgt := 5) hx hb dX0_ranked_33 (by decide) ?_
          exact ih (i + 1) ls (by omega) (by omega) (zFirst_no hno (decide_eq_false (fun h => c_14 h.1))) (lv_sub hl [0, 1, 2, 3] rfl)
        · refine lv_aload_n hx hb dX0_ranked_17 rfl (lv_at hl 1 rfl) ?_
          refine lv_aload_n hx hb dX0_ranked_18 rfl (lv_at hl 0 rfl) ?_
          refine zc_se (va_runV (As := [.ref (h (i + 6))]) (rest := []) ⟨hx, hb, hml, hown, hts⟩ (c_X0_slipsAheadOf l V h F T lv Ga Gb Gc P i (by omega)) (cwV 1 hts (zgV_ wsC_all uC_97 uC_101 uC_102 uC_103 uC_73) rfl rfl rfl (by decide +kernel) ⟨Nat.le_of_ble_eq_true rfl, Nat.le_of_ble_eq_true rfl⟩) (zPreV (B := fun H => va_P V.1 vwCl (zaW V h F T lv Ga Gb Gc P) H) hP hE (za_ro hE hP)) rfl rfl hl.1 rfl (lv_room (Nat.le_of_ble_eq_true rfl)) dX0_ranked_19 ⟨Nat.le_of_ble_eq_true rfl, Nat.le_of_ble_eq_true rfl⟩) ?_
          refine lv_iload_n hx hb dX0_ranked_22 rfl (lv_at hl 3 rfl) ?_
          refine lv_icmp_ne (tgt := 28) hx hb dX0_ranked_23 (by decide) (fun c_23 => ?_) (fun c_23 => ?_)
          · refine lv_aload_n hx hb dX0_ranked_28 rfl (lv_at hl 0 rfl) ?_
            refine zo_getN 0 (va_rf (zch h (i + 1))) hx hb hts (fun x h => List.mem_cons_of_mem _ (hU_X5 x h)) hown hE (za_slip hP (i := i) (by omega)) (show vwCl[5]? = some (RX5, TX5, 8) from rfl) (by decide) rfl (List.mem_of_getElem? (i := 2) rfl) (fun _ h9 => h9) dX0_ranked_29 ?_
            refine zo_astore_n (r := zch h (i + 1)) (lv' := [(3, va_rf (zch h (i + 1))), (0, .ref (h 0)), (1, .int x), (2, .int rk)]) hx hb dX0_ranked_32 rfl hl (by decide) rfl (fun ls hl => ?_)
            refine lv_goto (tgt := 5) hx hb dX0_ranked_33 (by decide) ?_
            exact ih (i + 1) ls (by omega) (by omega) (zFirst_no hno (decide_eq_false (fun h => c_23 h.2))) (lv_sub hl [0, 1, 2, 3] rfl)
          · refine lv_aload_n hx hb dX0_ranked_26 rfl (lv_at hl 0 rfl) ?_
            exact zr_sq (r := some (h (i + 6))) hx hb hr hlocks (by rw [kRank, zFirst_hit hno (decide_eq_true ⟨c_14, c_23⟩) (by omega)]; rfl) dX0_ranked_27
      · rw [zch_end hi3_] at hl
        have hl : lv_has ls 4 [(3, .null), (0, .ref (h 0)), (1, .int x), (2, .int rk)] := hl
        have hi30_ : i = 30 := by omega
        refine lv_aload_nN hx hb dX0_ranked_5 rfl (lv_at hl 0 rfl) ?_
        refine lv_ifnullN (tgt := 36) hx hb dX0_ranked_6 (by decide) ?_
        refine lv_null hx hb dX0_ranked_36 ?_
        exact zr_sq (r := none) hx hb hr hlocks (by rw [show 30 = i by omega, hno]; rfl) dX0_ranked_37
  exact L_5 (30 + 1) 0 ls (by omega) (by omega) rfl (lv_sub hl [0, 1, 2, 3] rfl)
set_option maxHeartbeats 4000000 in
set_option maxRecDepth 100000 in
theorem c_X0_reason (l : Launch) (V : zV) (h : Nat → Nat) (F T : Nat → Int32) (lv : Int32) (Ga Gb Gc : Nat → Int32) (P : Nat → Nat → Int32) : Met l yX0_reason wsX0_reason (zR 2 0 0) (zPc V [.ref (h 0)] (fun H => va_P V.1 vwCl (zaW V h F T lv Ga Gb Gc P) H)) (vp_Si (fun r => r = (kWhy F T P))) 0 0 (fun _ => False) := by
  refine Met.ofW (cc := cX0_reason) (maxL := 4) (ret := (some .int)) (by decide) rfl ?_
  intro p e s m args below meth c s₁ B hml hv
  obtain ⟨rfl, hP, hE⟩ := hv
  have hx := B.exec
  have hb := B.bytes
  have hr := B.returns
  have hts := atoms_spec (ws := wsX0_reason) B.pre
  have hown : s.vm.findClass RX0 = some m.cls := findClass_of_methodNamed B.named
  have hlocks := B.notSynchronized
  have hl := lv_entry ([.ref (h 0)]) (n := 4) (Nat.le_of_ble_eq_true rfl)
  rw [lg_entry_eq]
  generalize (lg_sl ([.ref (h 0)]) ++ List.replicate (4 - (lg_sl ([.ref (h 0)])).length) Slot.unset).toArray = ls at hl ⊢
  have hl : lv_has ls 4 [(0, .ref (h 0))] := hl
  refine lv_aload_n hx hb dX0_reason_0 rfl (lv_at hl 0 rfl) ?_
  refine zo_get 10 (.int (F 10)) hx hb hts (fun x h => List.mem_cons_of_mem _ (hU_X0 x h)) hown hE (za_o hP) (show vwCl[0]? = some (RX0, TX0, 14) from rfl) (by decide) rfl (hts _ (List.mem_cons_of_mem _ uC_45)) (fun _ h9 => h9) dX0_reason_1 ?_
  refine lv_if_le (tgt := 26) hx hb dX0_reason_4 (by decide) (fun c_4 => ?_) (fun c_4 => ?_)
  · refine lv_iconst (v := 0) hx hb dX0_reason_26 (by decide +kernel) ?_
    refine lv_istore_n (lv' := [(1, .int 0), (0, .ref (h 0))]) hx hb dX0_reason_27 rfl hl (by decide) rfl (fun ls hl => ?_)
    refine lv_iload_n hx hb dX0_reason_28 rfl (lv_at hl 0 rfl) ?_
    refine lv_if_eq (tgt := 49) hx hb dX0_reason_29 (by decide) (fun c_29 => ?_) (fun c_29 => ?_)
    rotate_left
    · exact absurd c_29 (by decide +kernel)
    refine lv_aload_n hx hb dX0_reason_49 rfl (lv_at hl 1 rfl) ?_
    refine zc_se (va_runV (As := []) (rest := []) ⟨hx, hb, hml, hown, hts⟩ (c_X0_newSort l V h F T lv Ga Gb Gc P) (cwV 0 hts (zgV_ wsC_all uC_107 uC_113 uC_114 uC_115 uC_73) rfl rfl rfl (by decide +kernel) ⟨Nat.le_of_ble_eq_true rfl, Nat.le_of_ble_eq_true rfl⟩) (zPreV (B := fun H => va_P V.1 vwCl (zaW V h F T lv Ga Gb Gc P) H) hP hE (za_ro hE hP)) rfl rfl hl.1 rfl (lv_room (Nat.le_of_ble_eq_true rfl)) dX0_reason_50 ⟨Nat.le_of_ble_eq_true rfl, Nat.le_of_ble_eq_true rfl⟩) ?_
    refine lv_istore_n (lv' := [(2, .int (kNew F T)), (1, .int 0), (0, .ref (h 0))]) hx hb dX0_reason_53 rfl hl (by decide) rfl (fun ls hl => ?_)
    refine lv_aload_n hx hb dX0_reason_54 rfl (lv_at hl 2 rfl) ?_
    refine lv_iload_n hx hb dX0_reason_55 rfl (lv_at hl 0 rfl) ?_
    refine zc_sqe (va_runV (As := [.int (kNew F T)]) (rest := []) ⟨hx, hb, hml, hown, hts⟩ (c_X0_oldest l V h F T lv Ga Gb Gc P (kNew F T)) (cwV 1 hts (zgV_ wsC_all uC_108 uC_116 uC_117 uC_118 uC_73) rfl rfl rfl (by decide +kernel) ⟨Nat.le_of_ble_eq_true rfl, Nat.le_of_ble_eq_true rfl⟩) (zPreV (B := fun H => va_P V.1 vwCl (zaW V h F T lv Ga Gb Gc P) H) hP hE (za_ro hE hP)) rfl rfl hl.1 rfl (lv_room (Nat.le_of_ble_eq_true rfl)) dX0_reason_56 ⟨Nat.le_of_ble_eq_true rfl, Nat.le_of_ble_eq_true rfl⟩) ?_
    refine zo_astore_n (r := zad h (kOld P (kNew F T) 30)) (lv' := [(3, va_rf (zad h (kOld P (kNew F T) 30))), (2, .int (kNew F T)), (1, .int 0), (0, .ref (h 0))]) hx hb dX0_reason_59 rfl hl (by decide) rfl (fun ls hl => ?_)
    refine zo_aload_n (r := zad h (kOld P (kNew F T) 30)) hx hb dX0_reason_60 rfl (lv_at hl 0 rfl) ?_
    rcases hq_61 : kOld P (kNew F T) 30 with _ | k_61
    · refine zt_v (y := .null) (by first | rfl | (rw [hq_61]; rfl)) ?_
      rw [hq_61] at hl
      have hl : lv_has ls 4 [(3, .null), (2, .int (kNew F T)), (1, .int 0), (0, .ref (h 0))] := hl
      refine lv_ifnullN (tgt := 74) hx hb dX0_reason_61 (by decide) ?_
      refine lv_aload_n hx hb dX0_reason_74 rfl (lv_at hl 3 rfl) ?_
      refine lv_iload_n hx hb dX0_reason_75 rfl (lv_at hl 1 rfl) ?_
      refine lv_aload_n hx hb dX0_reason_76 rfl (lv_at hl 3 rfl) ?_
      refine zo_get 7 (.int (F 7)) hx hb hts (fun x h => List.mem_cons_of_mem _ (hU_X0 x h)) hown hE (za_o hP) (show vwCl[0]? = some (RX0, TX0, 14) from rfl) (by decide) rfl (hts _ (List.mem_cons_of_mem _ uC_42)) (fun _ h9 => h9) dX0_reason_77 ?_
      refine zc_sqe (va_runV (As := [.int (kNew F T), .int (F 7)]) (rest := []) ⟨hx, hb, hml, hown, hts⟩ (c_X0_leastFrom l V h F T lv Ga Gb Gc P (kNew F T) (F 7)) (cwV 2 hts (zgV_ wsC_all uC_106 uC_110 uC_111 uC_112 uC_73) rfl rfl rfl (by decide +kernel) ⟨Nat.le_of_ble_eq_true rfl, Nat.le_of_ble_eq_true rfl⟩) (zPreV (B := fun H => va_P V.1 vwCl (zaW V h F T lv Ga Gb Gc P) H) hP hE (za_ro hE hP)) rfl rfl hl.1 rfl (lv_room (Nat.le_of_ble_eq_true rfl)) dX0_reason_80 ⟨Nat.le_of_ble_eq_true rfl, Nat.le_of_ble_eq_true rfl⟩) ?_
      rcases hq_83 : kLow P (kNew F T) (F 7) 30 with _ | k_83
      · refine zt_v (y := .null) (by first | rfl | (rw [hq_83]; rfl)) ?_
        refine lv_ifnullN (tgt := 90) hx hb dX0_reason_83 (by decide) ?_
        refine lv_iconst (v := 3) hx hb dX0_reason_90 (by decide +kernel) ?_
        exact zr_si hx hb hr hlocks (((kWhy_r (fun h => z_le' c_4 h.1)).trans ((kWhy2_n hq_61).trans (kWhy3_n hq_83))).symm) dX0_reason_91
      · refine zt_v (y := .ref (h (k_83 + 6))) (by first | rfl | (rw [hq_83]; rfl)) ?_
        have hb_83 : k_83 < 30 := by first | exact (zFirst_lt hq_83).1 | exact (zBest_lt hq_83).1 | exact kSel_lt hq_83 | (have h_ := (zBest_lt hq_83).1; omega)
        refine lv_ifnull hx hb dX0_reason_83 ?_
        refine lv_iconst (v := 2) hx hb dX0_reason_86 (by decide +kernel) ?_
        refine lv_goto (tgt := 91) hx hb dX0_reason_87 (by decide) ?_
        exact zr_si hx hb hr hlocks (((kWhy_r (fun h => z_le' c_4 h.1)).trans ((kWhy2_n hq_61).trans (kWhy3_s hq_83))).symm) dX0_reason_91
    · refine zt_v (y := .ref (h (k_61 + 6))) (by first | rfl | (rw [hq_61]; rfl)) ?_
      rw [hq_61] at hl
      have hl : lv_has ls 4 [(3, .ref (h (k_61 + 6))), (2, .int (kNew F T)), (1, .int 0), (0, .ref (h 0))] := hl
      have hb_61 : k_61 < 30 := by first | exact (zFirst_lt hq_61).1 | exact (zBest_lt hq_61).1 | exact kSel_lt hq_61 | (have h_ := (zBest_lt hq_61).1; omega)
      refine lv_ifnull hx hb dX0_reason_61 ?_
      refine lv_aload_n hx hb dX0_reason_64 rfl (lv_at hl 3 rfl) ?_
      refine lv_aload_n hx hb dX0_reason_65 rfl (lv_at hl 0 rfl) ?_
      refine zc_se (va_runV (As := [.ref (h (k_61 + 6))]) (rest := []) ⟨hx, hb, hml, hown, hts⟩ (c_X0_isTooOld l V h F T lv Ga Gb Gc P k_61 (by omega)) (cwV 1 hts (zgV_ wsC_all uC_104 uC_119 uC_120 uC_121 uC_73) rfl rfl rfl (by decide +kernel) ⟨Nat.le_of_ble_eq_true rfl, Nat.le_of_ble_eq_true rfl⟩) (zPreV (B := fun H => va_P V.1 vwCl (zaW V h F T lv Ga Gb Gc P) H) hP hE (za_ro hE hP)) rfl rfl hl.1 rfl (lv_room (Nat.le_of_ble_eq_true rfl)) dX0_reason_66 ⟨Nat.le_of_ble_eq_true rfl, Nat.le_of_ble_eq_true rfl⟩) ?_
      refine zbp_eq (P := kOldP F T P k_61) (tgt := 74) hx hb dX0_reason_69 (by decide) (fun c_69 => ?_) (fun c_69 => ?_)
      · refine lv_aload_n hx hb dX0_reason_74 rfl (lv_at hl 3 rfl) ?_
        refine lv_iload_n hx hb dX0_reason_75 rfl (lv_at hl 1 rfl) ?_
        refine lv_aload_n hx hb dX0_reason_76 rfl (lv_at hl 3 rfl) ?_
        refine zo_get 7 (.int (F 7)) hx hb hts (fun x h => List.mem_cons_of_mem _ (hU_X0 x h)) hown hE (za_o hP) (show vwCl[0]? = some (RX0, TX0, 14) from rfl) (by decide) rfl (hts _ (List.mem_cons_of_mem _ uC_42)) (fun _ h9 => h9) dX0_reason_77 ?_
        refine zc_sqe (va_runV (As := [.int (kNew F T), .int (F 7)]) (rest := []) ⟨hx, hb, hml, hown, hts⟩ (c_X0_leastFrom l V h F T lv Ga Gb Gc P (kNew F T) (F 7)) (cwV 2 hts (zgV_ wsC_all uC_106 uC_110 uC_111 uC_112 uC_73) rfl rfl rfl (by decide +kernel) ⟨Nat.le_of_ble_eq_true rfl, Nat.le_of_ble_eq_true rfl⟩) (zPreV (B := fun H => va_P V.1 vwCl (zaW V h F T lv Ga Gb Gc P) H) hP hE (za_ro hE hP)) rfl rfl hl.1 rfl (lv_room (Nat.le_of_ble_eq_true rfl)) dX0_reason_80 ⟨Nat.le_of_ble_eq_true rfl, Nat.le_of_ble_eq_true rfl⟩) ?_
        rcases hq_83 : kLow P (kNew F T) (F 7) 30 with _ | k_83
        · refine zt_v (y := .null) (by first | rfl | (rw [hq_83]; rfl)) ?_
          refine lv_ifnullN (tgt := 90) hx hb dX0_reason_83 (by decide) ?_
          refine lv_iconst (v := 3) hx hb dX0_reason_90 (by decide +kernel) ?_
          exact zr_si hx hb hr hlocks (((kWhy_r (fun h => z_le' c_4 h.1)).trans ((kWhy2_o hq_61 c_69).trans (kWhy3_n hq_83))).symm) dX0_reason_91
        · refine zt_v (y := .ref (h (k_83 + 6))) (by first | rfl | (rw [hq_83]; rfl)) ?_
          have hb_83 : k_83 < 30 := by first | exact (zFirst_lt hq_83).1 | exact (zBest_lt hq_83).1 | exact kSel_lt hq_83 | (have h_ := (zBest_lt hq_83).1; omega)
          refine lv_ifnull hx hb dX0_reason_83 ?_
          refine lv_iconst (v := 2) hx hb dX0_reason_86 (by decide +kernel) ?_
          refine lv_goto (tgt := 91) hx hb dX0_reason_87 (by decide) ?_
          exact zr_si hx hb hr hlocks (((kWhy_r (fun h => z_le' c_4 h.1)).trans ((kWhy2_o hq_61 c_69).trans (kWhy3_s hq_83))).symm) dX0_reason_91
      · refine lv_iconst (v := 1) hx hb dX0_reason_72 (by decide +kernel) ?_
        exact zr_si hx hb hr hlocks (((kWhy_r (fun h => z_le' c_4 h.1)).trans (kWhy2_y hq_61 c_69)).symm) dX0_reason_73
  · refine lv_aload_n hx hb dX0_reason_7 rfl (lv_at hl 0 rfl) ?_
    refine zo_get 12 (.int (F 12)) hx hb hts (fun x h => List.mem_cons_of_mem _ (hU_X0 x h)) hown hE (za_o hP) (show vwCl[0]? = some (RX0, TX0, 14) from rfl) (by decide) rfl (hts _ (List.mem_cons_of_mem _ uC_47)) (fun _ h9 => h9) dX0_reason_8 ?_
    refine lv_aload_n hx hb dX0_reason_11 rfl (lv_at hl 0 rfl) ?_
    refine zo_get 0 (.ref (h 1)) hx hb hts (fun x h => List.mem_cons_of_mem _ (hU_X0 x h)) hown hE (za_o hP) (show vwCl[0]? = some (RX0, TX0, 14) from rfl) (by decide) rfl (hts _ (List.mem_cons_of_mem _ uC_14)) (fun _ h9 => h9) dX0_reason_12 ?_
    refine lv_iconst (v := 2) hx hb dX0_reason_15 (by decide +kernel) ?_
    refine zc_se (va_runSN (As := [.ref (h 1), .int 2]) (rest := [.int (F 12)]) ⟨hx, hb, hml, hown, hts⟩ (c_X7_valueAt l V (h 1) 6 T 2 (by first | decide | omega)) ⟨va_cnB 2 hts (zgB_ wsC_all uC_54) rfl rfl rfl (hE.2 (.methodLinkNest RX0 88 yX7_valueAt "DrawerSlips") (List.mem_of_getElem? (i := 45) rfl)) (hts _ (List.mem_cons_of_mem _ uC_25)) (by decide +kernel) ⟨Nat.le_of_ble_eq_true rfl, Nat.le_of_ble_eq_true rfl⟩, (hts _ (List.mem_cons_of_mem _ uC_57)), trivial⟩ (zPsS (B := fun U => zRd U U.heap (h 1) 6 T) (fun _ _ _ _ h => zRd_calling h) (fun U hU hvm => by rw [hU]; exact zRd.moved hvm (zRd_of hE (za_t hP))) hE) rfl rfl hl.1 rfl (lv_room (Nat.le_of_ble_eq_true rfl)) dX0_reason_16 ⟨Nat.le_of_ble_eq_true rfl, Nat.le_of_ble_eq_true rfl⟩) ?_
    refine zt_i (z_vat (f := T) (k := 2) (n := 6) (by omega) (by first | decide | omega)) ?_
    refine lv_icmp_ge (tgt := 26) hx hb dX0_reason_19 (by decide) (fun c_19 => ?_) (fun c_19 => ?_)
    · refine lv_iconst (v := 0) hx hb dX0_reason_26 (by decide +kernel) ?_
      refine lv_istore_n (lv' := [(1, .int 0), (0, .ref (h 0))]) hx hb dX0_reason_27 rfl hl (by decide) rfl (fun ls hl => ?_)
      refine lv_iload_n hx hb dX0_reason_28 rfl (lv_at hl 0 rfl) ?_
      refine lv_if_eq (tgt := 49) hx hb dX0_reason_29 (by decide) (fun c_29 => ?_) (fun c_29 => ?_)
      rotate_left
      · exact absurd c_29 (by decide +kernel)
      refine lv_aload_n hx hb dX0_reason_49 rfl (lv_at hl 1 rfl) ?_
      refine zc_se (va_runV (As := []) (rest := []) ⟨hx, hb, hml, hown, hts⟩ (c_X0_newSort l V h F T lv Ga Gb Gc P) (cwV 0 hts (zgV_ wsC_all uC_107 uC_113 uC_114 uC_115 uC_73) rfl rfl rfl (by decide +kernel) ⟨Nat.le_of_ble_eq_true rfl, Nat.le_of_ble_eq_true rfl⟩) (zPreV (B := fun H => va_P V.1 vwCl (zaW V h F T lv Ga Gb Gc P) H) hP hE (za_ro hE hP)) rfl rfl hl.1 rfl (lv_room (Nat.le_of_ble_eq_true rfl)) dX0_reason_50 ⟨Nat.le_of_ble_eq_true rfl, Nat.le_of_ble_eq_true rfl⟩) ?_
      refine lv_istore_n (lv' := [(2, .int (kNew F T)), (1, .int 0), (0, .ref (h 0))]) hx hb dX0_reason_53 rfl hl (by decide) rfl (fun ls hl => ?_)
      refine lv_aload_n hx hb dX0_reason_54 rfl (lv_at hl 2 rfl) ?_
      refine lv_iload_n hx hb dX0_reason_55 rfl (lv_at hl 0 rfl) ?_
      refine zc_sqe (va_runV (As := [.int (kNew F T)]) (rest := []) ⟨hx, hb, hml, hown, hts⟩ (c_X0_oldest l V h F T lv Ga Gb Gc P (kNew F T)) (cwV 1 hts (zgV_ wsC_all uC_108 uC_116 uC_117 uC_118 uC_73) rfl rfl rfl (by decide +kernel) ⟨Nat.le_of_ble_eq_true rfl, Nat.le_of_ble_eq_true rfl⟩) (zPreV (B := fun H => va_P V.1 vwCl (zaW V h F T lv Ga Gb Gc P) H) hP hE (za_ro hE hP)) rfl rfl hl.1 rfl (lv_room (Nat.le_of_ble_eq_true rfl)) dX0_reason_56 ⟨Nat.le_of_ble_eq_true rfl, Nat.le_of_ble_eq_true rfl⟩) ?_
      refine zo_astore_n (r := zad h (kOld P (kNew F T) 30)) (lv' := [(3, va_rf (zad h (kOld P (kNew F T) 30))), (2, .int (kNew F T)), (1, .int 0), (0, .ref (h 0))]) hx hb dX0_reason_59 rfl hl (by decide) rfl (fun ls hl => ?_)
      refine zo_aload_n (r := zad h (kOld P (kNew F T) 30)) hx hb dX0_reason_60 rfl (lv_at hl 0 rfl) ?_
      rcases hq_61 : kOld P (kNew F T) 30 with _ | k_61
      · refine zt_v (y := .null) (by first | rfl | (rw [hq_61]; rfl)) ?_
        rw [hq_61] at hl
        have hl : lv_has ls 4 [(3, .null), (2, .int (kNew F T)), (1, .int 0), (0, .ref (h 0))] := hl
        refine lv_ifnullN (tgt := 74) hx hb dX0_reason_61 (by decide) ?_
        refine lv_aload_n hx hb dX0_reason_74 rfl (lv_at hl 3 rfl) ?_
        refine lv_iload_n hx hb dX0_reason_75 rfl (lv_at hl 1 rfl) ?_
        refine lv_aload_n hx hb dX0_reason_76 rfl (lv_at hl 3 rfl) ?_
        refine zo_get 7 (.int (F 7)) hx hb hts (fun x h => List.mem_cons_of_mem _ (hU_X0 x h)) hown hE (za_o hP) (show vwCl[0]? = some (RX0, TX0, 14) from rfl) (by decide) rfl (hts _ (List.mem_cons_of_mem _ uC_42)) (fun _ h9 => h9) dX0_reason_77 ?_
        refine zc_sqe (va_runV (As := [.int (kNew F T), .int (F 7)]) (rest := []) ⟨hx, hb, hml, hown, hts⟩ (c_X0_leastFrom l V h F T lv Ga Gb Gc P (kNew F T) (F 7)) (cwV 2 hts (zgV_ wsC_all uC_106 uC_110 uC_111 uC_112 uC_73) rfl rfl rfl (by decide +kernel) ⟨Nat.le_of_ble_eq_true rfl, Nat.le_of_ble_eq_true rfl⟩) (zPreV (B := fun H => va_P V.1 vwCl (zaW V h F T lv Ga Gb Gc P) H) hP hE (za_ro hE hP)) rfl rfl hl.1 rfl (lv_room (Nat.le_of_ble_eq_true rfl)) dX0_reason_80 ⟨Nat.le_of_ble_eq_true rfl, Nat.le_of_ble_eq_true rfl⟩) ?_
        rcases hq_83 : kLow P (kNew F T) (F 7) 30 with _ | k_83
        · refine zt_v (y := .null) (by first | rfl | (rw [hq_83]; rfl)) ?_
          refine lv_ifnullN (tgt := 90) hx hb dX0_reason_83 (by decide) ?_
          refine lv_iconst (v := 3) hx hb dX0_reason_90 (by decide +kernel) ?_
          exact zr_si hx hb hr hlocks (((kWhy_r (fun h => z_le' c_19 h.2)).trans ((kWhy2_n hq_61).trans (kWhy3_n hq_83))).symm) dX0_reason_91
        · refine zt_v (y := .ref (h (k_83 + 6))) (by first | rfl | (rw [hq_83]; rfl)) ?_
          have hb_83 : k_83 < 30 := by first | exact (zFirst_lt hq_83).1 | exact (zBest_lt hq_83).1 | exact kSel_lt hq_83 | (have h_ := (zBest_lt hq_83).1; omega)
          refine lv_ifnull hx hb dX0_reason_83 ?_
          refine lv_iconst (v := 2) hx hb dX0_reason_86 (by decide +kernel) ?_
          refine lv_goto (tgt := 91) hx hb dX0_reason_87 (by decide) ?_
          exact zr_si hx hb hr hlocks (((kWhy_r (fun h => z_le' c_19 h.2)).trans ((kWhy2_n hq_61).trans (kWhy3_s hq_83))).symm) dX0_reason_91
      · refine zt_v (y := .ref (h (k_61 + 6))) (by first | rfl | (rw [hq_61]; rfl)) ?_
        rw [hq_61] at hl
        have hl : lv_has ls 4 [(3, .ref (h (k_61 + 6))), (2, .int (kNew F T)), (1, .int 0), (0, .ref (h 0))] := hl
        have hb_61 : k_61 < 30 := by first | exact (zFirst_lt hq_61).1 | exact (zBest_lt hq_61).1 | exact kSel_lt hq_61 | (have h_ := (zBest_lt hq_61).1; omega)
        refine lv_ifnull hx hb dX0_reason_61 ?_
        refine lv_aload_n hx hb dX0_reason_64 rfl (lv_at hl 3 rfl) ?_
        refine lv_aload_n hx hb dX0_reason_65 rfl (lv_at hl 0 rfl) ?_
        refine zc_se (va_runV (As := [.ref (h (k_61 + 6))]) (rest := []) ⟨hx, hb, hml, hown, hts⟩ (c_X0_isTooOld l V h F T lv Ga Gb Gc P k_61 (by omega)) (cwV 1 hts (zgV_ wsC_all uC_104 uC_119 uC_120 uC_121 uC_73) rfl rfl rfl (by decide +kernel) ⟨Nat.le_of_ble_eq_true rfl, Nat.le_of_ble_eq_true rfl⟩) (zPreV (B := fun H => va_P V.1 vwCl (zaW V h F T lv Ga Gb Gc P) H) hP hE (za_ro hE hP)) rfl rfl hl.1 rfl (lv_room (Nat.le_of_ble_eq_true rfl)) dX0_reason_66 ⟨Nat.le_of_ble_eq_true rfl, Nat.le_of_ble_eq_true rfl⟩) ?_
        refine zbp_eq (P := kOldP F T P k_61) (tgt := 74) hx hb dX0_reason_69 (by decide) (fun c_69 => ?_) (fun c_69 => ?_)
        · refine lv_aload_n hx hb dX0_reason_74 rfl (lv_at hl 3 rfl) ?_
          refine lv_iload_n hx hb dX0_reason_75 rfl (lv_at hl 1 rfl) ?_
          refine lv_aload_n hx hb dX0_reason_76 rfl (lv_at hl 3 rfl) ?_
          refine zo_get 7 (.int (F 7)) hx hb hts (fun x h => List.mem_cons_of_mem _ (hU_X0 x h)) hown hE (za_o hP) (show vwCl[0]? = some (RX0, TX0, 14) from rfl) (by decide) rfl (hts _ (List.mem_cons_of_mem _ uC_42)) (fun _ h9 => h9) dX0_reason_77 ?_
          refine zc_sqe (va_runV (As := [.int (kNew F T), .int (F 7)]) (rest := []) ⟨hx, hb, hml, hown, hts⟩ (c_X0_leastFrom l V h F T lv Ga Gb Gc P (kNew F T) (F 7)) (cwV 2 hts (zgV_ wsC_all uC_106 uC_110 uC_111 uC_112 uC_73) rfl rfl rfl (by decide +kernel) ⟨Nat.le_of_ble_eq_true rfl, Nat.le_of_ble_eq_true rfl⟩) (zPreV (B := fun H => va_P V.1 vwCl (zaW V h F T lv Ga Gb Gc P) H) hP hE (za_ro hE hP)) rfl rfl hl.1 rfl (lv_room (Nat.le_of_ble_eq_true rfl)) dX0_reason_80 ⟨Nat.le_of_ble_eq_true rfl, Nat.le_of_ble_eq_true rfl⟩) ?_
          rcases hq_83 : kLow P (kNew F T) (F 7) 30 with _ | k_83
          · refine zt_v (y := .null) (by first | rfl | (rw [hq_83]; rfl)) ?_
            refine lv_ifnullN (tgt := 90) hx hb dX0_reason_83 (by decide) ?_
            refine lv_iconst (v := 3) hx hb dX0_reason_90 (by decide +kernel) ?_
            exact zr_si hx hb hr hlocks (((kWhy_r (fun h => z_le' c_19 h.2)).trans ((kWhy2_o hq_61 c_69).trans (kWhy3_n hq_83))).symm) dX0_reason_91
          · refine zt_v (y := .ref (h (k_83 + 6))) (by first | rfl | (rw [hq_83]; rfl)) ?_
            have hb_83 : k_83 < 30 := by first | exact (zFirst_lt hq_83).1 | exact (zBest_lt hq_83).1 | exact kSel_lt hq_83 | (have h_ := (zBest_lt hq_83).1; omega)
            refine lv_ifnull hx hb dX0_reason_83 ?_
            refine lv_iconst (v := 2) hx hb dX0_reason_86 (by decide +kernel) ?_
            refine lv_goto (tgt := 91) hx hb dX0_reason_87 (by decide) ?_
            exact zr_si hx hb hr hlocks (((kWhy_r (fun h => z_le' c_19 h.2)).trans ((kWhy2_o hq_61 c_69).trans (kWhy3_s hq_83))).symm) dX0_reason_91
        · refine lv_iconst (v := 1) hx hb dX0_reason_72 (by decide +kernel) ?_
          exact zr_si hx hb hr hlocks (((kWhy_r (fun h => z_le' c_19 h.2)).trans (kWhy2_y hq_61 c_69)).symm) dX0_reason_73
    · refine lv_iconst (v := 1) hx hb dX0_reason_22 (by decide +kernel) ?_
      refine lv_goto (tgt := 27) hx hb dX0_reason_23 (by decide) ?_
      refine lv_istore_n (lv' := [(1, .int 1), (0, .ref (h 0))]) hx hb dX0_reason_27 rfl hl (by decide) rfl (fun ls hl => ?_)
      refine lv_iload_n hx hb dX0_reason_28 rfl (lv_at hl 0 rfl) ?_
      refine lv_if_eq (tgt := 49) hx hb dX0_reason_29 (by decide) (fun c_29 => ?_) (fun c_29 => ?_)
      · exact absurd c_29 (by decide +kernel)
      refine lv_aload_n hx hb dX0_reason_32 rfl (lv_at hl 1 rfl) ?_
      refine lv_aload_n hx hb dX0_reason_33 rfl (lv_at hl 1 rfl) ?_
      refine zo_get 11 (.int (F 11)) hx hb hts (fun x h => List.mem_cons_of_mem _ (hU_X0 x h)) hown hE (za_o hP) (show vwCl[0]? = some (RX0, TX0, 14) from rfl) (by decide) rfl (hts _ (List.mem_cons_of_mem _ uC_46)) (fun _ h9 => h9) dX0_reason_34 ?_
      refine lv_aload_n hx hb dX0_reason_37 rfl (lv_at hl 1 rfl) ?_
      refine zo_get 7 (.int (F 7)) hx hb hts (fun x h => List.mem_cons_of_mem _ (hU_X0 x h)) hown hE (za_o hP) (show vwCl[0]? = some (RX0, TX0, 14) from rfl) (by decide) rfl (hts _ (List.mem_cons_of_mem _ uC_42)) (fun _ h9 => h9) dX0_reason_38 ?_
      refine zc_sqe (va_runV (As := [.int (F 11), .int (F 7)]) (rest := []) ⟨hx, hb, hml, hown, hts⟩ (c_X0_leastFrom l V h F T lv Ga Gb Gc P (F 11) (F 7)) (cwV 2 hts (zgV_ wsC_all uC_106 uC_110 uC_111 uC_112 uC_73) rfl rfl rfl (by decide +kernel) ⟨Nat.le_of_ble_eq_true rfl, Nat.le_of_ble_eq_true rfl⟩) (zPreV (B := fun H => va_P V.1 vwCl (zaW V h F T lv Ga Gb Gc P) H) hP hE (za_ro hE hP)) rfl rfl hl.1 rfl (lv_room (Nat.le_of_ble_eq_true rfl)) dX0_reason_41 ⟨Nat.le_of_ble_eq_true rfl, Nat.le_of_ble_eq_true rfl⟩) ?_
      rcases hq_44 : kLow P (F 11) (F 7) 30 with _ | k_44
      · refine zt_v (y := .null) (by first | rfl | (rw [hq_44]; rfl)) ?_
        refine lv_ifnullN (tgt := 49) hx hb dX0_reason_44 (by decide) ?_
        refine lv_aload_n hx hb dX0_reason_49 rfl (lv_at hl 1 rfl) ?_
        refine zc_se (va_runV (As := []) (rest := []) ⟨hx, hb, hml, hown, hts⟩ (c_X0_newSort l V h F T lv Ga Gb Gc P) (cwV 0 hts (zgV_ wsC_all uC_107 uC_113 uC_114 uC_115 uC_73) rfl rfl rfl (by decide +kernel) ⟨Nat.le_of_ble_eq_true rfl, Nat.le_of_ble_eq_true rfl⟩) (zPreV (B := fun H => va_P V.1 vwCl (zaW V h F T lv Ga Gb Gc P) H) hP hE (za_ro hE hP)) rfl rfl hl.1 rfl (lv_room (Nat.le_of_ble_eq_true rfl)) dX0_reason_50 ⟨Nat.le_of_ble_eq_true rfl, Nat.le_of_ble_eq_true rfl⟩) ?_
        refine lv_istore_n (lv' := [(2, .int (kNew F T)), (1, .int 1), (0, .ref (h 0))]) hx hb dX0_reason_53 rfl hl (by decide) rfl (fun ls hl => ?_)
        refine lv_aload_n hx hb dX0_reason_54 rfl (lv_at hl 2 rfl) ?_
        refine lv_iload_n hx hb dX0_reason_55 rfl (lv_at hl 0 rfl) ?_
        refine zc_sqe (va_runV (As := [.int (kNew F T)]) (rest := []) ⟨hx, hb, hml, hown, hts⟩ (c_X0_oldest l V h F T lv Ga Gb Gc P (kNew F T)) (cwV 1 hts (zgV_ wsC_all uC_108 uC_116 uC_117 uC_118 uC_73) rfl rfl rfl (by decide +kernel) ⟨Nat.le_of_ble_eq_true rfl, Nat.le_of_ble_eq_true rfl⟩) (zPreV (B := fun H => va_P V.1 vwCl (zaW V h F T lv Ga Gb Gc P) H) hP hE (za_ro hE hP)) rfl rfl hl.1 rfl (lv_room (Nat.le_of_ble_eq_true rfl)) dX0_reason_56 ⟨Nat.le_of_ble_eq_true rfl, Nat.le_of_ble_eq_true rfl⟩) ?_
        refine zo_astore_n (r := zad h (kOld P (kNew F T) 30)) (lv' := [(3, va_rf (zad h (kOld P (kNew F T) 30))), (2, .int (kNew F T)), (1, .int 1), (0, .ref (h 0))]) hx hb dX0_reason_59 rfl hl (by decide) rfl (fun ls hl => ?_)
        refine zo_aload_n (r := zad h (kOld P (kNew F T) 30)) hx hb dX0_reason_60 rfl (lv_at hl 0 rfl) ?_
        rcases hq_61 : kOld P (kNew F T) 30 with _ | k_61
        · refine zt_v (y := .null) (by first | rfl | (rw [hq_61]; rfl)) ?_
          rw [hq_61] at hl
          have hl : lv_has ls 4 [(3, .null), (2, .int (kNew F T)), (1, .int 1), (0, .ref (h 0))] := hl
          refine lv_ifnullN (tgt := 74) hx hb dX0_reason_61 (by decide) ?_
          refine lv_aload_n hx hb dX0_reason_74 rfl (lv_at hl 3 rfl) ?_
          refine lv_iload_n hx hb dX0_reason_75 rfl (lv_at hl 1 rfl) ?_
          refine lv_aload_n hx hb dX0_reason_76 rfl (lv_at hl 3 rfl) ?_
          refine zo_get 7 (.int (F 7)) hx hb hts (fun x h => List.mem_cons_of_mem _ (hU_X0 x h)) hown hE (za_o hP) (show vwCl[0]? = some (RX0, TX0, 14) from rfl) (by decide) rfl (hts _ (List.mem_cons_of_mem _ uC_42)) (fun _ h9 => h9) dX0_reason_77 ?_
          refine zc_sqe (va_runV (As := [.int (kNew F T), .int (F 7)]) (rest := []) ⟨hx, hb, hml, hown, hts⟩ (c_X0_leastFrom l V h F T lv Ga Gb Gc P (kNew F T) (F 7)) (cwV 2 hts (zgV_ wsC_all uC_106 uC_110 uC_111 uC_112 uC_73) rfl rfl rfl (by decide +kernel) ⟨Nat.le_of_ble_eq_true rfl, Nat.le_of_ble_eq_true rfl⟩) (zPreV (B := fun H => va_P V.1 vwCl (zaW V h F T lv Ga Gb Gc P) H) hP hE (za_ro hE hP)) rfl rfl hl.1 rfl (lv_room (Nat.le_of_ble_eq_true rfl)) dX0_reason_80 ⟨Nat.le_of_ble_eq_true rfl, Nat.le_of_ble_eq_true rfl⟩) ?_
          rcases hq_83 : kLow P (kNew F T) (F 7) 30 with _ | k_83
          · refine zt_v (y := .null) (by first | rfl | (rw [hq_83]; rfl)) ?_
            refine lv_ifnullN (tgt := 90) hx hb dX0_reason_83 (by decide) ?_
            refine lv_iconst (v := 3) hx hb dX0_reason_90 (by decide +kernel) ?_
            exact zr_si hx hb hr hlocks (((kWhy_l hq_44).trans ((kWhy2_n hq_61).trans (kWhy3_n hq_83))).symm) dX0_reason_91
          · refine zt_v (y := .ref (h (k_83 + 6))) (by first | rfl | (rw [hq_83]; rfl)) ?_
            have hb_83 : k_83 < 30 := by first | exact (zFirst_lt hq_83).1 | exact (zBest_lt hq_83).1 | exact kSel_lt hq_83 | (have h_ := (zBest_lt hq_83).1; omega)
            refine lv_ifnull hx hb dX0_reason_83 ?_
            refine lv_iconst (v := 2) hx hb dX0_reason_86 (by decide +kernel) ?_
            refine lv_goto (tgt := 91) hx hb dX0_reason_87 (by decide) ?_
            exact zr_si hx hb hr hlocks (((kWhy_l hq_44).trans ((kWhy2_n hq_61).trans (kWhy3_s hq_83))).symm) dX0_reason_91
        · refine zt_v (y := .ref (h (k_61 + 6))) (by first | rfl | (rw [hq_61]; rfl)) ?_
          rw [hq_61] at hl
          have hl : lv_has ls 4 [(3, .ref (h (k_61 + 6))), (2, .int (kNew F T)), (1, .int 1), (0, .ref (h 0))] := hl
          have hb_61 : k_61 < 30 := by first | exact (zFirst_lt hq_61).1 | exact (zBest_lt hq_61).1 | exact kSel_lt hq_61 | (have h_ := (zBest_lt hq_61).1; omega)
          refine lv_ifnull hx hb dX0_reason_61 ?_
          refine lv_aload_n hx hb dX0_reason_64 rfl (lv_at hl 3 rfl) ?_
          refine lv_aload_n hx hb dX0_reason_65 rfl (lv_at hl 0 rfl) ?_
          refine zc_se (va_runV (As := [.ref (h (k_61 + 6))]) (rest := []) ⟨hx, hb, hml, hown, hts⟩ (c_X0_isTooOld l V h F T lv Ga Gb Gc P k_61 (by omega)) (cwV 1 hts (zgV_ wsC_all uC_104 uC_119 uC_120 uC_121 uC_73) rfl rfl rfl (by decide +kernel) ⟨Nat.le_of_ble_eq_true rfl, Nat.le_of_ble_eq_true rfl⟩) (zPreV (B := fun H => va_P V.1 vwCl (zaW V h F T lv Ga Gb Gc P) H) hP hE (za_ro hE hP)) rfl rfl hl.1 rfl (lv_room (Nat.le_of_ble_eq_true rfl)) dX0_reason_66 ⟨Nat.le_of_ble_eq_true rfl, Nat.le_of_ble_eq_true rfl⟩) ?_
          refine zbp_eq (P := kOldP F T P k_61) (tgt := 74) hx hb dX0_reason_69 (by decide) (fun c_69 => ?_) (fun c_69 => ?_)
          · refine lv_aload_n hx hb dX0_reason_74 rfl (lv_at hl 3 rfl) ?_
            refine lv_iload_n hx hb dX0_reason_75 rfl (lv_at hl 1 rfl) ?_
            refine lv_aload_n hx hb dX0_reason_76 rfl (lv_at hl 3 rfl) ?_
            refine zo_get 7 (.int (F 7)) hx hb hts (fun x h => List.mem_cons_of_mem _ (hU_X0 x h)) hown hE (za_o hP) (show vwCl[0]? = some (RX0, TX0, 14) from rfl) (by decide) rfl (hts _ (List.mem_cons_of_mem _ uC_42)) (fun _ h9 => h9) dX0_reason_77 ?_
            refine zc_sqe (va_runV (As := [.int (kNew F T), .int (F 7)]) (rest := []) ⟨hx, hb, hml, hown, hts⟩ (c_X0_leastFrom l V h F T lv Ga Gb Gc P (kNew F T) (F 7)) (cwV 2 hts (zgV_ wsC_all uC_106 uC_110 uC_111 uC_112 uC_73) rfl rfl rfl (by decide +kernel) ⟨Nat.le_of_ble_eq_true rfl, Nat.le_of_ble_eq_true rfl⟩) (zPreV (B := fun H => va_P V.1 vwCl (zaW V h F T lv Ga Gb Gc P) H) hP hE (za_ro hE hP)) rfl rfl hl.1 rfl (lv_room (Nat.le_of_ble_eq_true rfl)) dX0_reason_80 ⟨Nat.le_of_ble_eq_true rfl, Nat.le_of_ble_eq_true rfl⟩) ?_
            rcases hq_83 : kLow P (kNew F T) (F 7) 30 with _ | k_83
            · refine zt_v (y := .null) (by first | rfl | (rw [hq_83]; rfl)) ?_
              refine lv_ifnullN (tgt := 90) hx hb dX0_reason_83 (by decide) ?_
              refine lv_iconst (v := 3) hx hb dX0_reason_90 (by decide +kernel) ?_
              exact zr_si hx hb hr hlocks (((kWhy_l hq_44).trans ((kWhy2_o hq_61 c_69).trans (kWhy3_n hq_83))).symm) dX0_reason_91
            · refine zt_v (y := .ref (h (k_83 + 6))) (by first | rfl | (rw [hq_83]; rfl)) ?_
              have hb_83 : k_83 < 30 := by first | exact (zFirst_lt hq_83).1 | exact (zBest_lt hq_83).1 | exact kSel_lt hq_83 | (have h_ := (zBest_lt hq_83).1; omega)
              refine lv_ifnull hx hb dX0_reason_83 ?_
              refine lv_iconst (v := 2) hx hb dX0_reason_86 (by decide +kernel) ?_
              refine lv_goto (tgt := 91) hx hb dX0_reason_87 (by decide) ?_
              exact zr_si hx hb hr hlocks (((kWhy_l hq_44).trans ((kWhy2_o hq_61 c_69).trans (kWhy3_s hq_83))).symm) dX0_reason_91
          · refine lv_iconst (v := 1) hx hb dX0_reason_72 (by decide +kernel) ?_
            exact zr_si hx hb hr hlocks (((kWhy_l hq_44).trans (kWhy2_y hq_61 c_69)).symm) dX0_reason_73
      · refine zt_v (y := .ref (h (k_44 + 6))) (by first | rfl | (rw [hq_44]; rfl)) ?_
        have hb_44 : k_44 < 30 := by first | exact (zFirst_lt hq_44).1 | exact (zBest_lt hq_44).1 | exact kSel_lt hq_44 | (have h_ := (zBest_lt hq_44).1; omega)
        refine lv_ifnull hx hb dX0_reason_44 ?_
        refine lv_iconst (v := 0) hx hb dX0_reason_47 (by decide +kernel) ?_
        exact zr_si hx hb hr hlocks ((kWhy_0 ⟨z_nle c_4, z_nle c_19⟩ hq_44).symm) dX0_reason_48
set_option maxHeartbeats 4000000 in
set_option maxRecDepth 100000 in
theorem c_X0_chosen (l : Launch) (V : zV) (h : Nat → Nat) (F T : Nat → Int32) (lv : Int32) (Ga Gb Gc : Nat → Int32) (P : Nat → Nat → Int32) (y : Int32) : Met l yX0_chosen wsX0_chosen (zR 2 0 0) (zPc V [.ref (h 0), .int y] (fun H => va_P V.1 vwCl (zaW V h F T lv Ga Gb Gc P) H)) (va_Sq (fun r => r = zad h (kSel F T P y))) 0 0 (fun _ => False) := by
  refine Met.ofW (cc := cX0_chosen) (maxL := 2) (ret := (some (.object "DrawerSlips$Slip"))) (by decide) rfl ?_
  intro p e s m args below meth c s₁ B hml hv
  obtain ⟨rfl, hP, hE⟩ := hv
  have hx := B.exec
  have hb := B.bytes
  have hr := B.returns
  have hts := atoms_spec (ws := wsX0_chosen) B.pre
  have hown : s.vm.findClass RX0 = some m.cls := findClass_of_methodNamed B.named
  have hlocks := B.notSynchronized
  have hl := lv_entry ([.ref (h 0), .int y]) (n := 2) (Nat.le_of_ble_eq_true rfl)
  rw [lg_entry_eq]
  generalize (lg_sl ([.ref (h 0), .int y]) ++ List.replicate (2 - (lg_sl ([.ref (h 0), .int y])).length) Slot.unset).toArray = ls at hl ⊢
  have hl : lv_has ls 2 [(0, .ref (h 0)), (1, .int y)] := hl
  refine lv_iload_n hx hb dX0_chosen_0 rfl (lv_at hl 1 rfl) ?_
  rcases z_rng y 3 (by decide) with ⟨k_, hk_, hc_⟩ | hc_
  · rcases (show k_ = 0 ∨ k_ = 1 ∨ k_ = 2 by omega) with rfl | rfl | rfl
    · have hc_ : y = 0 := hc_
      refine lv_tableIn (off := 27) (tgt := 28) hx hb dX0_chosen_1 (by rw [hc_]; decide) (by rw [hc_]; decide) (by rw [hc_]; rfl) (by decide) ?_
      refine lv_aload_n hx hb dX0_chosen_28 rfl (lv_at hl 0 rfl) ?_
      refine lv_aload_n hx hb dX0_chosen_29 rfl (lv_at hl 0 rfl) ?_
      refine zo_get 11 (.int (F 11)) hx hb hts (fun x h => List.mem_cons_of_mem _ (hU_X0 x h)) hown hE (za_o hP) (show vwCl[0]? = some (RX0, TX0, 14) from rfl) (by decide) rfl (hts _ (List.mem_cons_of_mem _ uC_46)) (fun _ h9 => h9) dX0_chosen_30 ?_
      refine lv_aload_n hx hb dX0_chosen_33 rfl (lv_at hl 0 rfl) ?_
      refine zo_get 7 (.int (F 7)) hx hb hts (fun x h => List.mem_cons_of_mem _ (hU_X0 x h)) hown hE (za_o hP) (show vwCl[0]? = some (RX0, TX0, 14) from rfl) (by decide) rfl (hts _ (List.mem_cons_of_mem _ uC_42)) (fun _ h9 => h9) dX0_chosen_34 ?_
      refine zc_sqe (va_runV (As := [.int (F 11), .int (F 7)]) (rest := []) ⟨hx, hb, hml, hown, hts⟩ (c_X0_leastFrom l V h F T lv Ga Gb Gc P (F 11) (F 7)) (cwV 2 hts (zgV_ wsC_all uC_106 uC_110 uC_111 uC_112 uC_73) rfl rfl rfl (by decide +kernel) ⟨Nat.le_of_ble_eq_true rfl, Nat.le_of_ble_eq_true rfl⟩) (zPreV (B := fun H => va_P V.1 vwCl (zaW V h F T lv Ga Gb Gc P) H) hP hE (za_ro hE hP)) rfl rfl hl.1 rfl (lv_room (Nat.le_of_ble_eq_true rfl)) dX0_chosen_37 ⟨Nat.le_of_ble_eq_true rfl, Nat.le_of_ble_eq_true rfl⟩) ?_
      exact zr_sq (r := zad h (kLow P (F 11) (F 7) 30)) hx hb hr hlocks (by subst hc_; rfl) dX0_chosen_40
    · have hc_ : y = 1 := hc_
      refine lv_tableIn (off := 40) (tgt := 41) hx hb dX0_chosen_1 (by rw [hc_]; decide) (by rw [hc_]; decide) (by rw [hc_]; rfl) (by decide) ?_
      refine lv_aload_n hx hb dX0_chosen_41 rfl (lv_at hl 0 rfl) ?_
      refine lv_aload_n hx hb dX0_chosen_42 rfl (lv_at hl 0 rfl) ?_
      refine zc_se (va_runV (As := []) (rest := [.ref (h 0)]) ⟨hx, hb, hml, hown, hts⟩ (c_X0_newSort l V h F T lv Ga Gb Gc P) (cwV 0 hts (zgV_ wsC_all uC_107 uC_113 uC_114 uC_115 uC_73) rfl rfl rfl (by decide +kernel) ⟨Nat.le_of_ble_eq_true rfl, Nat.le_of_ble_eq_true rfl⟩) (zPreV (B := fun H => va_P V.1 vwCl (zaW V h F T lv Ga Gb Gc P) H) hP hE (za_ro hE hP)) rfl rfl hl.1 rfl (lv_room (Nat.le_of_ble_eq_true rfl)) dX0_chosen_43 ⟨Nat.le_of_ble_eq_true rfl, Nat.le_of_ble_eq_true rfl⟩) ?_
      refine zc_sqe (va_runV (As := [.int (kNew F T)]) (rest := []) ⟨hx, hb, hml, hown, hts⟩ (c_X0_oldest l V h F T lv Ga Gb Gc P (kNew F T)) (cwV 1 hts (zgV_ wsC_all uC_108 uC_116 uC_117 uC_118 uC_73) rfl rfl rfl (by decide +kernel) ⟨Nat.le_of_ble_eq_true rfl, Nat.le_of_ble_eq_true rfl⟩) (zPreV (B := fun H => va_P V.1 vwCl (zaW V h F T lv Ga Gb Gc P) H) hP hE (za_ro hE hP)) rfl rfl hl.1 rfl (lv_room (Nat.le_of_ble_eq_true rfl)) dX0_chosen_46 ⟨Nat.le_of_ble_eq_true rfl, Nat.le_of_ble_eq_true rfl⟩) ?_
      exact zr_sq (r := zad h (kOld P (kNew F T) 30)) hx hb hr hlocks (by subst hc_; rfl) dX0_chosen_49
    · have hc_ : y = 2 := hc_
      refine lv_tableIn (off := 49) (tgt := 50) hx hb dX0_chosen_1 (by rw [hc_]; decide) (by rw [hc_]; decide) (by rw [hc_]; rfl) (by decide) ?_
      refine lv_aload_n hx hb dX0_chosen_50 rfl (lv_at hl 0 rfl) ?_
      refine lv_aload_n hx hb dX0_chosen_51 rfl (lv_at hl 0 rfl) ?_
      refine zc_se (va_runV (As := []) (rest := [.ref (h 0)]) ⟨hx, hb, hml, hown, hts⟩ (c_X0_newSort l V h F T lv Ga Gb Gc P) (cwV 0 hts (zgV_ wsC_all uC_107 uC_113 uC_114 uC_115 uC_73) rfl rfl rfl (by decide +kernel) ⟨Nat.le_of_ble_eq_true rfl, Nat.le_of_ble_eq_true rfl⟩) (zPreV (B := fun H => va_P V.1 vwCl (zaW V h F T lv Ga Gb Gc P) H) hP hE (za_ro hE hP)) rfl rfl hl.1 rfl (lv_room (Nat.le_of_ble_eq_true rfl)) dX0_chosen_52 ⟨Nat.le_of_ble_eq_true rfl, Nat.le_of_ble_eq_true rfl⟩) ?_
      refine lv_aload_n hx hb dX0_chosen_55 rfl (lv_at hl 0 rfl) ?_
      refine zo_get 7 (.int (F 7)) hx hb hts (fun x h => List.mem_cons_of_mem _ (hU_X0 x h)) hown hE (za_o hP) (show vwCl[0]? = some (RX0, TX0, 14) from rfl) (by decide) rfl (hts _ (List.mem_cons_of_mem _ uC_42)) (fun _ h9 => h9) dX0_chosen_56 ?_
      refine zc_sqe (va_runV (As := [.int (kNew F T), .int (F 7)]) (rest := []) ⟨hx, hb, hml, hown, hts⟩ (c_X0_leastFrom l V h F T lv Ga Gb Gc P (kNew F T) (F 7)) (cwV 2 hts (zgV_ wsC_all uC_106 uC_110 uC_111 uC_112 uC_73) rfl rfl rfl (by decide +kernel) ⟨Nat.le_of_ble_eq_true rfl, Nat.le_of_ble_eq_true rfl⟩) (zPreV (B := fun H => va_P V.1 vwCl (zaW V h F T lv Ga Gb Gc P) H) hP hE (za_ro hE hP)) rfl rfl hl.1 rfl (lv_room (Nat.le_of_ble_eq_true rfl)) dX0_chosen_59 ⟨Nat.le_of_ble_eq_true rfl, Nat.le_of_ble_eq_true rfl⟩) ?_
      exact zr_sq (r := zad h (kLow P (kNew F T) (F 7) 30)) hx hb hr hlocks (by subst hc_; rfl) dX0_chosen_62
  · have hne_ : ¬ y = 0 ∧ ¬ y = 1 ∧ ¬ y = 2 := by
      refine ⟨?_, ?_, ?_⟩ <;> (intro e_; rw [e_] at hc_; revert hc_; decide)
    refine lv_tableOut (tgt := 63) hx hb dX0_chosen_1 hc_ (by decide) ?_
    refine lv_aload_n hx hb dX0_chosen_63 rfl (lv_at hl 0 rfl) ?_
    refine lv_aload_n hx hb dX0_chosen_64 rfl (lv_at hl 0 rfl) ?_
    refine zc_se (va_runV (As := []) (rest := [.ref (h 0)]) ⟨hx, hb, hml, hown, hts⟩ (c_X0_newSort l V h F T lv Ga Gb Gc P) (cwV 0 hts (zgV_ wsC_all uC_107 uC_113 uC_114 uC_115 uC_73) rfl rfl rfl (by decide +kernel) ⟨Nat.le_of_ble_eq_true rfl, Nat.le_of_ble_eq_true rfl⟩) (zPreV (B := fun H => va_P V.1 vwCl (zaW V h F T lv Ga Gb Gc P) H) hP hE (za_ro hE hP)) rfl rfl hl.1 rfl (lv_room (Nat.le_of_ble_eq_true rfl)) dX0_chosen_65 ⟨Nat.le_of_ble_eq_true rfl, Nat.le_of_ble_eq_true rfl⟩) ?_
    refine lv_iconst (v := 0) hx hb dX0_chosen_68 (by decide +kernel) ?_
    refine zc_sqe (va_runV (As := [.int (kNew F T), .int 0]) (rest := []) ⟨hx, hb, hml, hown, hts⟩ (c_X0_leastFrom l V h F T lv Ga Gb Gc P (kNew F T) 0) (cwV 2 hts (zgV_ wsC_all uC_106 uC_110 uC_111 uC_112 uC_73) rfl rfl rfl (by decide +kernel) ⟨Nat.le_of_ble_eq_true rfl, Nat.le_of_ble_eq_true rfl⟩) (zPreV (B := fun H => va_P V.1 vwCl (zaW V h F T lv Ga Gb Gc P) H) hP hE (za_ro hE hP)) rfl rfl hl.1 rfl (lv_room (Nat.le_of_ble_eq_true rfl)) dX0_chosen_69 ⟨Nat.le_of_ble_eq_true rfl, Nat.le_of_ble_eq_true rfl⟩) ?_
    exact zr_sq (r := zad h (kLow P (kNew F T) 0 30)) hx hb hr hlocks (by rw [kSel, if_neg hne_.1, if_neg hne_.2.1, if_neg hne_.2.2]) dX0_chosen_72
