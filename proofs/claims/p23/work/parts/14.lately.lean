-- the latest ones: four cells
def zlE (V : zV) (g : Nat → Nat) (lv : Int32) (Ga Gb Gc : Nat → Int32) : Nat → va_E
  | 0 => .inr (2, [.ref (g 1), .ref (g 2), .ref (g 3), .int lv])
  | 1 => .inl (V.2.1, 20, .inl Ga)
  | 2 => .inl (V.2.1, 20, .inl Gb)
  | _ => .inl (V.2.1, 20, .inl Gc)
def zlW (V : zV) (g : Nat → Nat) (lv : Int32) (Ga Gb Gc : Nat → Int32) : va_W := zWd 4 g (zlE V g lv Ga Gb Gc)
theorem zP_one {D : va_G} {cl : List vw_C} {N : Nat} {g : Nat → Nat} {E E' : Nat → va_E} {c : Nat} {H H1 : Heap} (h : va_P D cl (zWd N g E) H) (hJ : zInj N g) (hc : c < N) (hk : ∀ q : Nat, q < H.size → ¬ q = g c → H1[q]? = H[q]?) (hn : va_at D cl (g c, E' c) H1) (ho : ∀ p, p < N → p ≠ c → E' p = E p) : va_P D cl (zWd N g E') H1 :=
  zP_join (A1 := fun q => q = g c) h hk (fun p hp => by
    by_cases e : p = c
    · subst e; exact Or.inl hn
    · exact Or.inr ⟨ho p hp e, fun z => e (hJ p c hp hc z)⟩)
theorem zP_keep {D : va_G} {cl : List vw_C} {N : Nat} {g : Nat → Nat} {E : Nat → va_E} {A1 : Nat → Prop} {H H1 : Heap} (h : va_P D cl (zWd N g E) H) (hk : ∀ q : Nat, q < H.size → ¬ A1 q → H1[q]? = H[q]?) (hd : ∀ p, p < N → ¬ A1 (g p)) : va_P D cl (zWd N g E) H1 := zP_join h hk (fun p hp => Or.inr ⟨rfl, hd p hp⟩)
theorem zP_other {D : va_G} {cl : List vw_C} {N : Nat} {g : Nat → Nat} {E : Nat → va_E} {A : Nat → Prop} {H0 H : Heap} {locs : List Loc} (h : va_P D cl (zWd N g E) H0) (hS : va_S A H0 H locs) (hd : ∀ p, p < N → ¬ A (g p)) : va_P D cl (zWd N g E) H := zP_keep h (fun q h1 h2 => hS.2.1 q h1 h2) hd
section ZL
variable {p : Program} {l : Launch} {e : Env} {R : Room} {s : State} {m : MethodId} {args : Array Value} {below : List Frame} {meth : Method} {c : Code} {H : Heap} {locs : List Loc} {cells slots : Nat} {Q : State → Prop}
variable {pc : Nat} {ls : Array Slot} {rest st0 : List Value} {a : Array Value} {cc : ByteArray} {H0 : Heap}
variable {V : zV} {g : Nat → Nat} {lv : Int32} {Ga Gb Gc : Nat → Int32}
theorem zl_c0 (V : zV) (g : Nat → Nat) (lv : Int32) (Ga Gb Gc : Nat → Int32) : (zlW V g lv Ga Gb Gc)[0]? = some (g 0, .inr (2, [.ref (g 1), .ref (g 2), .ref (g 3), .int lv])) := zWd_at (by decide)
theorem zl_c1 (V : zV) (g : Nat → Nat) (lv : Int32) (Ga Gb Gc : Nat → Int32) : (zlW V g lv Ga Gb Gc)[1]? = some (g 1, .inl (V.2.1, 20, .inl Ga)) := zWd_at (by decide)
theorem zl_c2 (V : zV) (g : Nat → Nat) (lv : Int32) (Ga Gb Gc : Nat → Int32) : (zlW V g lv Ga Gb Gc)[2]? = some (g 2, .inl (V.2.1, 20, .inl Gb)) := zWd_at (by decide)
theorem zl_c3 (V : zV) (g : Nat → Nat) (lv : Int32) (Ga Gb Gc : Nat → Int32) : (zlW V g lv Ga Gb Gc)[3]? = some (g 3, .inl (V.2.1, 20, .inl Gc)) := zWd_at (by decide)
theorem zl_o (hP : va_P V.1 vwCl (zlW V g lv Ga Gb Gc) H) : va_at V.1 vwCl (g 0, .inr (2, [.ref (g 1), .ref (g 2), .ref (g 3), .int lv])) H := zP_at hP (p := 0) (by decide)
theorem zl_1 (hP : va_P V.1 vwCl (zlW V g lv Ga Gb Gc) H) : va_at V.1 vwCl (g 1, .inl (V.2.1, 20, .inl Ga)) H := zP_at hP (p := 1) (by decide)
theorem zl_2 (hP : va_P V.1 vwCl (zlW V g lv Ga Gb Gc) H) : va_at V.1 vwCl (g 2, .inl (V.2.1, 20, .inl Gb)) H := zP_at hP (p := 2) (by decide)
theorem zl_3 (hP : va_P V.1 vwCl (zlW V g lv Ga Gb Gc) H) : va_at V.1 vwCl (g 3, .inl (V.2.1, 20, .inl Gc)) H := zP_at hP (p := 3) (by decide)
theorem zl_ro (hE : zE V s) (hP : va_P V.1 vwCl (zlW V g lv Ga Gb Gc) H) : ∃ cell : Cell, H[g 0]? = some cell ∧ cell.vm.isStatics = false ∧ s.vm.findClass RX2 = some cell.cls := va_recv hE.1 hP (ci := 2) (q0 := 0) (q := (RX2, TX2, 4)) rfl (zl_c0 V g lv Ga Gb Gc)
theorem zl_s0 (lv' : Int32) : (zlW V g lv Ga Gb Gc).set 0 (g 0, .inr (2, [.ref (g 1), .ref (g 2), .ref (g 3), .int lv'])) = zlW V g lv' Ga Gb Gc :=
  zWd_set (by decide) rfl (fun q _ hne => by
    match q, hne with
    | 0, h => exact absurd rfl h
    | 1, _ => rfl
    | 2, _ => rfl
    | q + 3, _ => rfl)
theorem zl_s1 (f : Nat → Int32) : (zlW V g lv Ga Gb Gc).set 1 (g 1, .inl (V.2.1, 20, .inl f)) = zlW V g lv f Gb Gc :=
  zWd_set (by decide) rfl (fun q _ hne => by
    match q, hne with
    | 0, _ => rfl
    | 1, h => exact absurd rfl h
    | 2, _ => rfl
    | q + 3, _ => rfl)
theorem zl_s2 (f : Nat → Int32) : (zlW V g lv Ga Gb Gc).set 2 (g 2, .inl (V.2.1, 20, .inl f)) = zlW V g lv Ga f Gc :=
  zWd_set (by decide) rfl (fun q _ hne => by
    match q, hne with
    | 0, _ => rfl
    | 1, _ => rfl
    | 2, h => exact absurd rfl h
    | q + 3, _ => rfl)
theorem zl_s3 (f : Nat → Int32) : (zlW V g lv Ga Gb Gc).set 3 (g 3, .inl (V.2.1, 20, .inl f)) = zlW V g lv Ga Gb f :=
  zWd_set (by decide) rfl (fun q hq hne => by
    match q, hq, hne with
    | 0, _, _ => rfl
    | 1, _, _ => rfl
    | 2, _, _ => rfl
    | 3, _, h => exact absurd rfl h
    | q + 4, h, _ => exact absurd h (by omega))
theorem zl_j1 (f : Nat → Int32) {H1 : Heap} (hP : va_P V.1 vwCl (zlW V g lv Ga Gb Gc) H) (hJ : zInj 4 g) (hk : ∀ q : Nat, q < H.size → ¬ q = g 1 → H1[q]? = H[q]?) (hn : va_P V.1 vwCl [(g 1, .inl (V.2.1, 20, .inl f))] H1) : va_P V.1 vwCl (zlW V g lv f Gb Gc) H1 := zP_one hP hJ (c := 1) (by decide) hk (zP1_at hn) (fun p hp hne => by
    match p, hne with
    | 0, _ => rfl
    | 1, h => exact absurd rfl h
    | 2, _ => rfl
    | p + 3, _ => rfl)
theorem zl_j2 (f : Nat → Int32) {H1 : Heap} (hP : va_P V.1 vwCl (zlW V g lv Ga Gb Gc) H) (hJ : zInj 4 g) (hk : ∀ q : Nat, q < H.size → ¬ q = g 2 → H1[q]? = H[q]?) (hn : va_P V.1 vwCl [(g 2, .inl (V.2.1, 20, .inl f))] H1) : va_P V.1 vwCl (zlW V g lv Ga f Gc) H1 := zP_one hP hJ (c := 2) (by decide) hk (zP1_at hn) (fun p hp hne => by
    match p, hne with
    | 0, _ => rfl
    | 1, _ => rfl
    | 2, h => exact absurd rfl h
    | p + 3, _ => rfl)
theorem zl_j3 (f : Nat → Int32) {H1 : Heap} (hP : va_P V.1 vwCl (zlW V g lv Ga Gb Gc) H) (hJ : zInj 4 g) (hk : ∀ q : Nat, q < H.size → ¬ q = g 3 → H1[q]? = H[q]?) (hn : va_P V.1 vwCl [(g 3, .inl (V.2.1, 20, .inl f))] H1) : va_P V.1 vwCl (zlW V g lv Ga Gb f) H1 := zP_one hP hJ (c := 3) (by decide) hk (zP1_at hn) (fun p hp hne => by
    match p, hp, hne with
    | 0, _, _ => rfl
    | 1, _, _ => rfl
    | 2, _, _ => rfl
    | 3, _, h => exact absurd rfl h
    | p + 4, h, _ => exact absurd h (by omega))
theorem zl_x (lv' : Int32) (Ga' Gb' Gc' : Nat → Int32) (hv : lv = lv') (ha : ∀ j, j < 20 → Ga j = Ga' j) (hb : ∀ j, j < 20 → Gb j = Gb' j) (hc : ∀ j, j < 20 → Gc j = Gc' j) (hP : va_P V.1 vwCl (zlW V g lv Ga Gb Gc) H) : va_P V.1 vwCl (zlW V g lv' Ga' Gb' Gc') H := by
  subst hv
  refine zP_mk (fun q hq => ?_)
  have h1 := zP_at hP hq
  match q, hq, h1 with
  | 0, _, h1 => exact h1
  | 1, _, h1 => exact z_atx h1 ha
  | 2, _, h1 => exact z_atx h1 hb
  | 3, _, h1 => exact z_atx h1 hc
  | q + 4, h, _ => exact absurd h (by omega)
end ZL
set_option maxHeartbeats 4000000 in
set_option maxRecDepth 100000 in
theorem c_X2_has (l : Launch) (V : zV) (g : Nat → Nat) (lv : Int32) (Ga Gb Gc : Nat → Int32) (x : Int32) : Met l yX2_has wsX2_has (zR 0 0 0) (zPc V [.ref (g 0), .int x] (fun H => va_P V.1 vwCl (zlW V g lv Ga Gb Gc) H)) (vp_Si (fun r => r = (if 0 ≤ x ∧ x < 20 ∧ x < lv then 1 else 0))) 0 0 (fun _ => False) := by
  refine Met.ofW (cc := cX2_has) (maxL := 2) (ret := (some .boolean)) (by decide) rfl ?_
  intro p e s m args below meth c s₁ B hml hv
  obtain ⟨rfl, hP, hE⟩ := hv
  have hx := B.exec
  have hb := B.bytes
  have hr := B.returns
  have hts := atoms_spec (ws := wsX2_has) B.pre
  have hown : s.vm.findClass RX2 = some m.cls := findClass_of_methodNamed B.named
  have hlocks := B.notSynchronized
  have hl := lv_entry ([.ref (g 0), .int x]) (n := 2) (Nat.le_of_ble_eq_true rfl)
  rw [lg_entry_eq]
  generalize (lg_sl ([.ref (g 0), .int x]) ++ List.replicate (2 - (lg_sl ([.ref (g 0), .int x])).length) Slot.unset).toArray = ls at hl ⊢
  have hl : lv_has ls 2 [(0, .ref (g 0)), (1, .int x)] := hl
  refine lv_iload_n hx hb dX2_has_0 rfl (lv_at hl 1 rfl) ?_
  refine lv_if_lt (tgt := 22) hx hb dX2_has_1 (by decide) (fun c_1 => ?_) (fun c_1 => ?_)
  · refine lv_iconst (v := 0) hx hb dX2_has_22 (by decide +kernel) ?_
    exact zr_sz hx hb hr hlocks (by first | exact Or.inl rfl | exact Or.inr rfl | exact z_ite01 | assumption) ((if_neg (fun h => z_lt' c_1 h.1)).symm) dX2_has_23
  · refine lv_iload_n hx hb dX2_has_4 rfl (lv_at hl 1 rfl) ?_
    refine lv_bipush (v := 20) hx hb dX2_has_5 (by decide +kernel) ?_
    refine lv_icmp_ge (tgt := 22) hx hb dX2_has_7 (by decide) (fun c_7 => ?_) (fun c_7 => ?_)
    · refine lv_iconst (v := 0) hx hb dX2_has_22 (by decide +kernel) ?_
      exact zr_sz hx hb hr hlocks (by first | exact Or.inl rfl | exact Or.inr rfl | exact z_ite01 | assumption) ((if_neg (fun h => z_le' c_7 h.2.1)).symm) dX2_has_23
    · refine lv_iload_n hx hb dX2_has_10 rfl (lv_at hl 1 rfl) ?_
      refine lv_aload_n hx hb dX2_has_11 rfl (lv_at hl 0 rfl) ?_
      refine zo_get 3 (.int lv) hx hb hts (fun x h => List.mem_cons_of_mem _ (hU_X2 x h)) hown hE (zl_o hP) (show vwCl[2]? = some (RX2, TX2, 4) from rfl) (by decide) rfl (hts _ (List.mem_cons_of_mem _ uC_36)) (fun _ h9 => h9) dX2_has_12 ?_
      refine lv_icmp_ge (tgt := 22) hx hb dX2_has_15 (by decide) (fun c_15 => ?_) (fun c_15 => ?_)
      · refine lv_iconst (v := 0) hx hb dX2_has_22 (by decide +kernel) ?_
        exact zr_sz hx hb hr hlocks (by first | exact Or.inl rfl | exact Or.inr rfl | exact z_ite01 | assumption) ((if_neg (fun h => z_le' c_15 h.2.2)).symm) dX2_has_23
      · refine lv_iconst (v := 1) hx hb dX2_has_18 (by decide +kernel) ?_
        refine lv_goto (tgt := 23) hx hb dX2_has_19 (by decide) ?_
        exact zr_sz hx hb hr hlocks (by first | exact Or.inl rfl | exact Or.inr rfl | exact z_ite01 | assumption) ((if_pos ⟨z_nlt c_1, z_nle c_7, z_nle c_15⟩).symm) dX2_has_23
set_option maxHeartbeats 4000000 in
set_option maxRecDepth 100000 in
theorem c_X2_place (l : Launch) (V : zV) (g : Nat → Nat) (lv : Int32) (Ga Gb Gc : Nat → Int32) (sv j : Nat) (hsv : lv = nI sv) (hj : j < sv) (hb31 : sv < 2 ^ 31) : Met l yX2_place wsX2_place (zR 0 0 0) (zPc V [.ref (g 0), .int (nI j)] (fun H => va_P V.1 vwCl (zlW V g lv Ga Gb Gc) H)) (vp_Si (fun r => r = nI ((sv - 1 - j) % 20))) 0 0 (fun _ => False) := by
  refine Met.ofW (cc := cX2_place) (maxL := 2) (ret := (some .int)) (by decide) rfl ?_
  intro p e s m args below meth c s₁ B hml hv
  obtain ⟨rfl, hP, hE⟩ := hv
  have hx := B.exec
  have hb := B.bytes
  have hr := B.returns
  have hts := atoms_spec (ws := wsX2_place) B.pre
  have hown : s.vm.findClass RX2 = some m.cls := findClass_of_methodNamed B.named
  have hlocks := B.notSynchronized
  have hl := lv_entry ([.ref (g 0), .int (nI j)]) (n := 2) (Nat.le_of_ble_eq_true rfl)
  rw [lg_entry_eq]
  generalize (lg_sl ([.ref (g 0), .int (nI j)]) ++ List.replicate (2 - (lg_sl ([.ref (g 0), .int (nI j)])).length) Slot.unset).toArray = ls at hl ⊢
  have hl : lv_has ls 2 [(0, .ref (g 0)), (1, .int (nI j))] := hl
  subst hsv
  refine lv_aload_n hx hb dX2_place_0 rfl (lv_at hl 0 rfl) ?_
  refine zo_get 3 (.int (nI sv)) hx hb hts (fun x h => List.mem_cons_of_mem _ (hU_X2 x h)) hown hE (zl_o hP) (show vwCl[2]? = some (RX2, TX2, 4) from rfl) (by decide) rfl (hts _ (List.mem_cons_of_mem _ uC_36)) (fun _ h9 => h9) dX2_place_1 ?_
  refine lv_iconst (v := 1) hx hb dX2_place_4 (by decide +kernel) ?_
  refine lv_isub hx hb dX2_place_5 ?_
  refine zt_i (z_sub (a := sv) (b := 1) (by omega) (by first | rfl | omega)) ?_
  refine lv_iload_n hx hb dX2_place_6 rfl (lv_at hl 1 rfl) ?_
  refine lv_isub hx hb dX2_place_7 ?_
  refine zt_i (z_sub (a := sv - 1) (b := j) (by omega) (by first | rfl | omega)) ?_
  refine lv_bipush (v := 20) hx hb dX2_place_8 (by decide +kernel) ?_
  refine lv_irem hx hb dX2_place_10 (by decide +kernel) ?_
  refine zt_i (pk_rem (by omega) (by decide) (by decide)) ?_
  exact zr_si hx hb hr hlocks (by rfl) dX2_place_11
set_option maxHeartbeats 4000000 in
set_option maxRecDepth 100000 in
theorem c_X2_numberOf (l : Launch) (V : zV) (g : Nat → Nat) (lv : Int32) (Ga Gb Gc : Nat → Int32) (sv j : Nat) (hsv : lv = nI sv) (hj : j < sv) (hb31 : sv < 2 ^ 31) : Met l yX2_numberOf wsX2_numberOf (zR 1 0 0) (zPc V [.ref (g 0), .int (nI j)] (fun H => va_P V.1 vwCl (zlW V g lv Ga Gb Gc) H)) (vp_Si (fun r => r = Ga ((sv - 1 - j) % 20))) 0 0 (fun _ => False) := by
  refine Met.ofW (cc := cX2_numberOf) (maxL := 2) (ret := (some .int)) (by decide) rfl ?_
  intro p e s m args below meth c s₁ B hml hv
  obtain ⟨rfl, hP, hE⟩ := hv
  have hx := B.exec
  have hb := B.bytes
  have hr := B.returns
  have hts := atoms_spec (ws := wsX2_numberOf) B.pre
  have hown : s.vm.findClass RX2 = some m.cls := findClass_of_methodNamed B.named
  have hlocks := B.notSynchronized
  have hl := lv_entry ([.ref (g 0), .int (nI j)]) (n := 2) (Nat.le_of_ble_eq_true rfl)
  rw [lg_entry_eq]
  generalize (lg_sl ([.ref (g 0), .int (nI j)]) ++ List.replicate (2 - (lg_sl ([.ref (g 0), .int (nI j)])).length) Slot.unset).toArray = ls at hl ⊢
  have hl : lv_has ls 2 [(0, .ref (g 0)), (1, .int (nI j))] := hl
  subst hsv
  have hm20 : (sv - 1 - j) % 20 < 20 := Nat.mod_lt _ (by decide)
  refine lv_aload_n hx hb dX2_numberOf_0 rfl (lv_at hl 0 rfl) ?_
  refine zo_get 0 (.ref (g 1)) hx hb hts (fun x h => List.mem_cons_of_mem _ (hU_X2 x h)) hown hE (zl_o hP) (show vwCl[2]? = some (RX2, TX2, 4) from rfl) (by decide) rfl (hts _ (List.mem_cons_of_mem _ uC_5)) (fun _ h9 => h9) dX2_numberOf_1 ?_
  refine lv_aload_n hx hb dX2_numberOf_4 rfl (lv_at hl 0 rfl) ?_
  refine lv_iload_n hx hb dX2_numberOf_5 rfl (lv_at hl 1 rfl) ?_
  refine zc_se (va_runV (As := [.int (nI j)]) (rest := [.ref (g 1)]) ⟨hx, hb, hml, hown, hts⟩ (c_X2_place l V g (nI sv) Ga Gb Gc sv j rfl (by omega) (by omega)) (cwV 1 hts (zgV_ wsC_all uC_175 uC_177 uC_178 uC_179 uC_17) rfl rfl rfl (by decide +kernel) ⟨Nat.le_of_ble_eq_true rfl, Nat.le_of_ble_eq_true rfl⟩) (zPreV (B := fun H => va_P V.1 vwCl (zlW V g (nI sv) Ga Gb Gc) H) hP hE (zl_ro hE hP)) rfl rfl hl.1 rfl (lv_room (Nat.le_of_ble_eq_true rfl)) dX2_numberOf_6 ⟨Nat.le_of_ble_eq_true rfl, Nat.le_of_ble_eq_true rfl⟩) ?_
  refine zc_se (va_runSN (As := [.ref (g 1), .int (nI ((sv - 1 - j) % 20))]) (rest := []) ⟨hx, hb, hml, hown, hts⟩ (c_X7_valueAt l V (g 1) 20 Ga (nI ((sv - 1 - j) % 20)) (by first | decide | omega)) ⟨va_cnB 2 hts (zgB_ wsC_all uC_54) rfl rfl rfl (hE.2 (.methodLinkNest RX2 37 yX7_valueAt "DrawerSlips") (List.mem_of_getElem? (i := 66) rfl)) (hts _ (List.mem_cons_of_mem _ uC_25)) (by decide +kernel) ⟨Nat.le_of_ble_eq_true rfl, Nat.le_of_ble_eq_true rfl⟩, (hts _ (List.mem_cons_of_mem _ uC_57)), trivial⟩ (zPsS (B := fun U => zRd U U.heap (g 1) 20 Ga) (fun _ _ _ _ h => zRd_calling h) (fun U hU hvm => by rw [hU]; exact zRd.moved hvm (zRd_of hE (zl_1 hP))) hE) rfl rfl hl.1 rfl (lv_room (Nat.le_of_ble_eq_true rfl)) dX2_numberOf_9 ⟨Nat.le_of_ble_eq_true rfl, Nat.le_of_ble_eq_true rfl⟩) ?_
  refine zt_i (z_vat (f := Ga) (k := (sv - 1 - j) % 20) (n := 20) (by omega) (by first | decide | omega)) ?_
  exact zr_si hx hb hr hlocks (by rfl) dX2_numberOf_12
set_option maxHeartbeats 4000000 in
set_option maxRecDepth 100000 in
theorem c_X2_waitOf (l : Launch) (V : zV) (g : Nat → Nat) (lv : Int32) (Ga Gb Gc : Nat → Int32) (sv j : Nat) (hsv : lv = nI sv) (hj : j < sv) (hb31 : sv < 2 ^ 31) : Met l yX2_waitOf wsX2_waitOf (zR 1 0 0) (zPc V [.ref (g 0), .int (nI j)] (fun H => va_P V.1 vwCl (zlW V g lv Ga Gb Gc) H)) (vp_Si (fun r => r = Gb ((sv - 1 - j) % 20))) 0 0 (fun _ => False) := by
  refine Met.ofW (cc := cX2_waitOf) (maxL := 2) (ret := (some .int)) (by decide) rfl ?_
  intro p e s m args below meth c s₁ B hml hv
  obtain ⟨rfl, hP, hE⟩ := hv
  have hx := B.exec
  have hb := B.bytes
  have hr := B.returns
  have hts := atoms_spec (ws := wsX2_waitOf) B.pre
  have hown : s.vm.findClass RX2 = some m.cls := findClass_of_methodNamed B.named
  have hlocks := B.notSynchronized
  have hl := lv_entry ([.ref (g 0), .int (nI j)]) (n := 2) (Nat.le_of_ble_eq_true rfl)
  rw [lg_entry_eq]
  generalize (lg_sl ([.ref (g 0), .int (nI j)]) ++ List.replicate (2 - (lg_sl ([.ref (g 0), .int (nI j)])).length) Slot.unset).toArray = ls at hl ⊢
  have hl : lv_has ls 2 [(0, .ref (g 0)), (1, .int (nI j))] := hl
  subst hsv
  have hm20 : (sv - 1 - j) % 20 < 20 := Nat.mod_lt _ (by decide)
  refine lv_aload_n hx hb dX2_waitOf_0 rfl (lv_at hl 0 rfl) ?_
  refine zo_get 1 (.ref (g 2)) hx hb hts (fun x h => List.mem_cons_of_mem _ (hU_X2 x h)) hown hE (zl_o hP) (show vwCl[2]? = some (RX2, TX2, 4) from rfl) (by decide) rfl (hts _ (List.mem_cons_of_mem _ uC_6)) (fun _ h9 => h9) dX2_waitOf_1 ?_
  refine lv_aload_n hx hb dX2_waitOf_4 rfl (lv_at hl 0 rfl) ?_
  refine lv_iload_n hx hb dX2_waitOf_5 rfl (lv_at hl 1 rfl) ?_
  refine zc_se (va_runV (As := [.int (nI j)]) (rest := [.ref (g 2)]) ⟨hx, hb, hml, hown, hts⟩ (c_X2_place l V g (nI sv) Ga Gb Gc sv j rfl (by omega) (by omega)) (cwV 1 hts (zgV_ wsC_all uC_175 uC_177 uC_178 uC_179 uC_17) rfl rfl rfl (by decide +kernel) ⟨Nat.le_of_ble_eq_true rfl, Nat.le_of_ble_eq_true rfl⟩) (zPreV (B := fun H => va_P V.1 vwCl (zlW V g (nI sv) Ga Gb Gc) H) hP hE (zl_ro hE hP)) rfl rfl hl.1 rfl (lv_room (Nat.le_of_ble_eq_true rfl)) dX2_waitOf_6 ⟨Nat.le_of_ble_eq_true rfl, Nat.le_of_ble_eq_true rfl⟩) ?_
  refine zc_se (va_runSN (As := [.ref (g 2), .int (nI ((sv - 1 - j) % 20))]) (rest := []) ⟨hx, hb, hml, hown, hts⟩ (c_X7_valueAt l V (g 2) 20 Gb (nI ((sv - 1 - j) % 20)) (by first | decide | omega)) ⟨va_cnB 2 hts (zgB_ wsC_all uC_54) rfl rfl rfl (hE.2 (.methodLinkNest RX2 37 yX7_valueAt "DrawerSlips") (List.mem_of_getElem? (i := 66) rfl)) (hts _ (List.mem_cons_of_mem _ uC_25)) (by decide +kernel) ⟨Nat.le_of_ble_eq_true rfl, Nat.le_of_ble_eq_true rfl⟩, (hts _ (List.mem_cons_of_mem _ uC_57)), trivial⟩ (zPsS (B := fun U => zRd U U.heap (g 2) 20 Gb) (fun _ _ _ _ h => zRd_calling h) (fun U hU hvm => by rw [hU]; exact zRd.moved hvm (zRd_of hE (zl_2 hP))) hE) rfl rfl hl.1 rfl (lv_room (Nat.le_of_ble_eq_true rfl)) dX2_waitOf_9 ⟨Nat.le_of_ble_eq_true rfl, Nat.le_of_ble_eq_true rfl⟩) ?_
  refine zt_i (z_vat (f := Gb) (k := (sv - 1 - j) % 20) (n := 20) (by omega) (by first | decide | omega)) ?_
  exact zr_si hx hb hr hlocks (by rfl) dX2_waitOf_12
set_option maxHeartbeats 4000000 in
set_option maxRecDepth 100000 in
theorem c_X2_sortOf (l : Launch) (V : zV) (g : Nat → Nat) (lv : Int32) (Ga Gb Gc : Nat → Int32) (sv j : Nat) (hsv : lv = nI sv) (hj : j < sv) (hb31 : sv < 2 ^ 31) : Met l yX2_sortOf wsX2_sortOf (zR 1 0 0) (zPc V [.ref (g 0), .int (nI j)] (fun H => va_P V.1 vwCl (zlW V g lv Ga Gb Gc) H)) (vp_Si (fun r => r = Gc ((sv - 1 - j) % 20))) 0 0 (fun _ => False) := by
  refine Met.ofW (cc := cX2_sortOf) (maxL := 2) (ret := (some .int)) (by decide) rfl ?_
  intro p e s m args below meth c s₁ B hml hv
  obtain ⟨rfl, hP, hE⟩ := hv
  have hx := B.exec
  have hb := B.bytes
  have hr := B.returns
  have hts := atoms_spec (ws := wsX2_sortOf) B.pre
  have hown : s.vm.findClass RX2 = some m.cls := findClass_of_methodNamed B.named
  have hlocks := B.notSynchronized
  have hl := lv_entry ([.ref (g 0), .int (nI j)]) (n := 2) (Nat.le_of_ble_eq_true rfl)
  rw [lg_entry_eq]
  generalize (lg_sl ([.ref (g 0), .int (nI j)]) ++ List.replicate (2 - (lg_sl ([.ref (g 0), .int (nI j)])).length) Slot.unset).toArray = ls at hl ⊢
  have hl : lv_has ls 2 [(0, .ref (g 0)), (1, .int (nI j))] := hl
  subst hsv
  have hm20 : (sv - 1 - j) % 20 < 20 := Nat.mod_lt _ (by decide)
  refine lv_aload_n hx hb dX2_sortOf_0 rfl (lv_at hl 0 rfl) ?_
  refine zo_get 2 (.ref (g 3)) hx hb hts (fun x h => List.mem_cons_of_mem _ (hU_X2 x h)) hown hE (zl_o hP) (show vwCl[2]? = some (RX2, TX2, 4) from rfl) (by decide) rfl (hts _ (List.mem_cons_of_mem _ uC_7)) (fun _ h9 => h9) dX2_sortOf_1 ?_
  refine lv_aload_n hx hb dX2_sortOf_4 rfl (lv_at hl 0 rfl) ?_
  refine lv_iload_n hx hb dX2_sortOf_5 rfl (lv_at hl 1 rfl) ?_
  refine zc_se (va_runV (As := [.int (nI j)]) (rest := [.ref (g 3)]) ⟨hx, hb, hml, hown, hts⟩ (c_X2_place l V g (nI sv) Ga Gb Gc sv j rfl (by omega) (by omega)) (cwV 1 hts (zgV_ wsC_all uC_175 uC_177 uC_178 uC_179 uC_17) rfl rfl rfl (by decide +kernel) ⟨Nat.le_of_ble_eq_true rfl, Nat.le_of_ble_eq_true rfl⟩) (zPreV (B := fun H => va_P V.1 vwCl (zlW V g (nI sv) Ga Gb Gc) H) hP hE (zl_ro hE hP)) rfl rfl hl.1 rfl (lv_room (Nat.le_of_ble_eq_true rfl)) dX2_sortOf_6 ⟨Nat.le_of_ble_eq_true rfl, Nat.le_of_ble_eq_true rfl⟩) ?_
  refine zc_se (va_runSN (As := [.ref (g 3), .int (nI ((sv - 1 - j) % 20))]) (rest := []) ⟨hx, hb, hml, hown, hts⟩ (c_X7_valueAt l V (g 3) 20 Gc (nI ((sv - 1 - j) % 20)) (by first | decide | omega)) ⟨va_cnB 2 hts (zgB_ wsC_all uC_54) rfl rfl rfl (hE.2 (.methodLinkNest RX2 37 yX7_valueAt "DrawerSlips") (List.mem_of_getElem? (i := 66) rfl)) (hts _ (List.mem_cons_of_mem _ uC_25)) (by decide +kernel) ⟨Nat.le_of_ble_eq_true rfl, Nat.le_of_ble_eq_true rfl⟩, (hts _ (List.mem_cons_of_mem _ uC_57)), trivial⟩ (zPsS (B := fun U => zRd U U.heap (g 3) 20 Gc) (fun _ _ _ _ h => zRd_calling h) (fun U hU hvm => by rw [hU]; exact zRd.moved hvm (zRd_of hE (zl_3 hP))) hE) rfl rfl hl.1 rfl (lv_room (Nat.le_of_ble_eq_true rfl)) dX2_sortOf_9 ⟨Nat.le_of_ble_eq_true rfl, Nat.le_of_ble_eq_true rfl⟩) ?_
  refine zt_i (z_vat (f := Gc) (k := (sv - 1 - j) % 20) (n := 20) (by omega) (by first | decide | omega)) ?_
  exact zr_si hx hb hr hlocks (by rfl) dX2_sortOf_12
set_option maxHeartbeats 4000000 in
set_option maxRecDepth 100000 in
theorem c_X2_append (l : Launch) (V : zV) (g : Nat → Nat) (lv : Int32) (Ga Gb Gc : Nat → Int32) (sv : Nat) (nu wt wr : Int32) (hJ : zInj 4 g) (hsv : lv = nI sv) (hb31 : sv + 1 < 2 ^ 31) : Met l yX2_append wsX2_append (zR 1 0 0) (zPc V [.ref (g 0), .int nu, .int wt, .int wr] (fun H => va_P V.1 vwCl (zlW V g lv Ga Gb Gc) H)) (zQv (fun H => va_P V.1 vwCl (zlW V g (nI (sv + 1)) (upd Ga (sv % 20) nu) (upd Gb (sv % 20) wt) (upd Gc (sv % 20) wr)) H) (zIn 4 g)) 0 0 (zIn 4 g) := by
  refine Met.ofW (cc := cX2_append) (maxL := 5) (ret := none) (by decide) rfl ?_
  intro p e s m args below meth c s₁ B hml hv
  obtain ⟨rfl, hP, hE⟩ := hv
  have hx := B.exec
  have hb := B.bytes
  have hr := B.returns
  have hts := atoms_spec (ws := wsX2_append) B.pre
  have hown : s.vm.findClass RX2 = some m.cls := findClass_of_methodNamed B.named
  have hlocks := B.notSynchronized
  have hl := lv_entry ([.ref (g 0), .int nu, .int wt, .int wr]) (n := 5) (Nat.le_of_ble_eq_true rfl)
  rw [lg_entry_eq]
  generalize (lg_sl ([.ref (g 0), .int nu, .int wt, .int wr]) ++ List.replicate (5 - (lg_sl ([.ref (g 0), .int nu, .int wt, .int wr])).length) Slot.unset).toArray = ls at hl ⊢
  have hl : lv_has ls 5 [(0, .ref (g 0)), (1, .int nu), (2, .int wt), (3, .int wr)] := hl
  have hS : va_S (zIn 4 g) s.heap s.heap [] := va_S.rf
  subst hsv
  have hm20 : sv % 20 < 20 := Nat.mod_lt _ (by decide)
  refine lv_aload_n hx hb dX2_append_0 rfl (lv_at hl 0 rfl) ?_
  refine zo_get 3 (.int (nI sv)) hx hb hts (fun x h => List.mem_cons_of_mem _ (hU_X2 x h)) hown hE (zl_o hP) (show vwCl[2]? = some (RX2, TX2, 4) from rfl) (by decide) rfl (hts _ (List.mem_cons_of_mem _ uC_36)) (fun _ h9 => h9) dX2_append_1 ?_
  refine lv_bipush (v := 20) hx hb dX2_append_4 (by decide +kernel) ?_
  refine lv_irem hx hb dX2_append_6 (by decide +kernel) ?_
  refine zt_i (pk_rem (by omega) (by decide) (by decide)) ?_
  refine lv_istore (lv' := [(4, .int (nI (sv % 20))), (0, .ref (g 0)), (1, .int nu), (2, .int wt), (3, .int wr)]) hx hb dX2_append_7 hl (by decide) rfl (fun ls hl => ?_)
  refine lv_aload_n hx hb dX2_append_9 rfl (lv_at hl 1 rfl) ?_
  refine zo_get 0 (.ref (g 1)) hx hb hts (fun x h => List.mem_cons_of_mem _ (hU_X2 x h)) hown hE (zl_o hP) (show vwCl[2]? = some (RX2, TX2, 4) from rfl) (by decide) rfl (hts _ (List.mem_cons_of_mem _ uC_5)) (fun _ h9 => h9) dX2_append_10 ?_
  refine lv_iload hx hb dX2_append_13 (lv_at hl 0 rfl) ?_
  refine zc_se (va_runSN (As := [.ref (g 1), .int (nI (sv % 20))]) (rest := []) ⟨hx, hb, hml, hown, hts⟩ (c_X7_isIndexOf l V (g 1) 20 Ga (nI (sv % 20)) (by first | decide | omega)) ⟨va_cnB 2 hts (zgB_ wsC_all uC_53) rfl rfl rfl (hE.2 (.methodLinkNest RX2 29 yX7_isIndexOf "DrawerSlips") (List.mem_of_getElem? (i := 57) rfl)) (hts _ (List.mem_cons_of_mem _ uC_25)) (by decide +kernel) ⟨Nat.le_of_ble_eq_true rfl, Nat.le_of_ble_eq_true rfl⟩, (hts _ (List.mem_cons_of_mem _ uC_56)), trivial⟩ (zPsS (B := fun U => zRd U U.heap (g 1) 20 Ga) (fun _ _ _ _ h => zRd_calling h) (fun U hU hvm => by rw [hU]; exact zRd.moved hvm (zRd_of hE (zl_1 hP))) hE) rfl rfl hl.1 rfl (lv_room (Nat.le_of_ble_eq_true rfl)) dX2_append_15 ⟨Nat.le_of_ble_eq_true rfl, Nat.le_of_ble_eq_true rfl⟩) ?_
  refine zbp_eq (P := 0 ≤ nI (sv % 20) ∧ nI (sv % 20) < nI 20) (tgt := 79) hx hb dX2_append_18 (by decide) (fun c_18 => ?_) (fun c_18 => ?_)
  · exact absurd (show 0 ≤ nI (sv % 20) ∧ nI (sv % 20) < nI 20 from ⟨nI_pos' (by omega), nI_lt hm20 (by decide)⟩) c_18
  · refine lv_aload_n hx hb dX2_append_21 rfl (lv_at hl 1 rfl) ?_
    refine zo_get 1 (.ref (g 2)) hx hb hts (fun x h => List.mem_cons_of_mem _ (hU_X2 x h)) hown hE (zl_o hP) (show vwCl[2]? = some (RX2, TX2, 4) from rfl) (by decide) rfl (hts _ (List.mem_cons_of_mem _ uC_6)) (fun _ h9 => h9) dX2_append_22 ?_
    refine lv_iload hx hb dX2_append_25 (lv_at hl 0 rfl) ?_
    refine zc_se (va_runSN (As := [.ref (g 2), .int (nI (sv % 20))]) (rest := []) ⟨hx, hb, hml, hown, hts⟩ (c_X7_isIndexOf l V (g 2) 20 Gb (nI (sv % 20)) (by first | decide | omega)) ⟨va_cnB 2 hts (zgB_ wsC_all uC_53) rfl rfl rfl (hE.2 (.methodLinkNest RX2 29 yX7_isIndexOf "DrawerSlips") (List.mem_of_getElem? (i := 57) rfl)) (hts _ (List.mem_cons_of_mem _ uC_25)) (by decide +kernel) ⟨Nat.le_of_ble_eq_true rfl, Nat.le_of_ble_eq_true rfl⟩, (hts _ (List.mem_cons_of_mem _ uC_56)), trivial⟩ (zPsS (B := fun U => zRd U U.heap (g 2) 20 Gb) (fun _ _ _ _ h => zRd_calling h) (fun U hU hvm => by rw [hU]; exact zRd.moved hvm (zRd_of hE (zl_2 hP))) hE) rfl rfl hl.1 rfl (lv_room (Nat.le_of_ble_eq_true rfl)) dX2_append_27 ⟨Nat.le_of_ble_eq_true rfl, Nat.le_of_ble_eq_true rfl⟩) ?_
    refine zbp_eq (P := 0 ≤ nI (sv % 20) ∧ nI (sv % 20) < nI 20) (tgt := 79) hx hb dX2_append_30 (by decide) (fun c_30 => ?_) (fun c_30 => ?_)
    · exact absurd (show 0 ≤ nI (sv % 20) ∧ nI (sv % 20) < nI 20 from ⟨nI_pos' (by omega), nI_lt hm20 (by decide)⟩) c_30
    · refine lv_aload_n hx hb dX2_append_33 rfl (lv_at hl 1 rfl) ?_
      refine zo_get 2 (.ref (g 3)) hx hb hts (fun x h => List.mem_cons_of_mem _ (hU_X2 x h)) hown hE (zl_o hP) (show vwCl[2]? = some (RX2, TX2, 4) from rfl) (by decide) rfl (hts _ (List.mem_cons_of_mem _ uC_7)) (fun _ h9 => h9) dX2_append_34 ?_
      refine lv_iload hx hb dX2_append_37 (lv_at hl 0 rfl) ?_
      refine zc_se (va_runSN (As := [.ref (g 3), .int (nI (sv % 20))]) (rest := []) ⟨hx, hb, hml, hown, hts⟩ (c_X7_isIndexOf l V (g 3) 20 Gc (nI (sv % 20)) (by first | decide | omega)) ⟨va_cnB 2 hts (zgB_ wsC_all uC_53) rfl rfl rfl (hE.2 (.methodLinkNest RX2 29 yX7_isIndexOf "DrawerSlips") (List.mem_of_getElem? (i := 57) rfl)) (hts _ (List.mem_cons_of_mem _ uC_25)) (by decide +kernel) ⟨Nat.le_of_ble_eq_true rfl, Nat.le_of_ble_eq_true rfl⟩, (hts _ (List.mem_cons_of_mem _ uC_56)), trivial⟩ (zPsS (B := fun U => zRd U U.heap (g 3) 20 Gc) (fun _ _ _ _ h => zRd_calling h) (fun U hU hvm => by rw [hU]; exact zRd.moved hvm (zRd_of hE (zl_3 hP))) hE) rfl rfl hl.1 rfl (lv_room (Nat.le_of_ble_eq_true rfl)) dX2_append_39 ⟨Nat.le_of_ble_eq_true rfl, Nat.le_of_ble_eq_true rfl⟩) ?_
      refine zbp_eq (P := 0 ≤ nI (sv % 20) ∧ nI (sv % 20) < nI 20) (tgt := 79) hx hb dX2_append_42 (by decide) (fun c_42 => ?_) (fun c_42 => ?_)
      · exact absurd (show 0 ≤ nI (sv % 20) ∧ nI (sv % 20) < nI 20 from ⟨nI_pos' (by omega), nI_lt hm20 (by decide)⟩) c_42
      · refine lv_aload_n hx hb dX2_append_45 rfl (lv_at hl 1 rfl) ?_
        refine zo_get 0 (.ref (g 1)) hx hb hts (fun x h => List.mem_cons_of_mem _ (hU_X2 x h)) hown hE (zl_o hP) (show vwCl[2]? = some (RX2, TX2, 4) from rfl) (by decide) rfl (hts _ (List.mem_cons_of_mem _ uC_5)) (fun _ h9 => h9) dX2_append_46 ?_
        refine lv_iload hx hb dX2_append_49 (lv_at hl 0 rfl) ?_
        refine lv_iload_n hx hb dX2_append_51 rfl (lv_at hl 2 rfl) ?_
        refine z_iast (k := sv % 20) hx hb hE hP (zD hJ) hS 1 (zl_c1 V g (nI sv) Ga Gb Gc) (by omega) (by decide) dX2_append_52 (fun H locs hP hS => ?_)
        rw [zl_s1] at hP
        have hP : va_P V.1 vwCl (zlW V g (nI sv) (upd Ga (sv % 20) nu) Gb Gc) H := hP
        refine lv_aload_n hx hb dX2_append_53 rfl (lv_at hl 1 rfl) ?_
        refine zo_get 1 (.ref (g 2)) hx hb hts (fun x h => List.mem_cons_of_mem _ (hU_X2 x h)) hown hE (zl_o hP) (show vwCl[2]? = some (RX2, TX2, 4) from rfl) (by decide) rfl (hts _ (List.mem_cons_of_mem _ uC_6)) (fun _ h9 => h9) dX2_append_54 ?_
        refine lv_iload hx hb dX2_append_57 (lv_at hl 0 rfl) ?_
        refine lv_iload_n hx hb dX2_append_59 rfl (lv_at hl 3 rfl) ?_
        refine z_iast (k := sv % 20) hx hb hE hP (zD hJ) hS 2 (zl_c2 V g (nI sv) (upd Ga (sv % 20) nu) Gb Gc) (by omega) (by decide) dX2_append_60 (fun H locs hP hS => ?_)
        rw [zl_s2] at hP
        have hP : va_P V.1 vwCl (zlW V g (nI sv) (upd Ga (sv % 20) nu) (upd Gb (sv % 20) wt) Gc) H := hP
        refine lv_aload_n hx hb dX2_append_61 rfl (lv_at hl 1 rfl) ?_
        refine zo_get 2 (.ref (g 3)) hx hb hts (fun x h => List.mem_cons_of_mem _ (hU_X2 x h)) hown hE (zl_o hP) (show vwCl[2]? = some (RX2, TX2, 4) from rfl) (by decide) rfl (hts _ (List.mem_cons_of_mem _ uC_7)) (fun _ h9 => h9) dX2_append_62 ?_
        refine lv_iload hx hb dX2_append_65 (lv_at hl 0 rfl) ?_
        refine lv_iload_n hx hb dX2_append_67 rfl (lv_at hl 4 rfl) ?_
        refine z_iast (k := sv % 20) hx hb hE hP (zD hJ) hS 3 (zl_c3 V g (nI sv) (upd Ga (sv % 20) nu) (upd Gb (sv % 20) wt) Gc) (by omega) (by decide) dX2_append_68 (fun H locs hP hS => ?_)
        rw [zl_s3] at hP
        have hP : va_P V.1 vwCl (zlW V g (nI sv) (upd Ga (sv % 20) nu) (upd Gb (sv % 20) wt) (upd Gc (sv % 20) wr)) H := hP
        refine lv_aload_n hx hb dX2_append_69 rfl (lv_at hl 1 rfl) ?_
        refine lv_dup hx hb dX2_append_70 rfl ?_
        refine zo_get 3 (.int (nI sv)) hx hb hts (fun x h => List.mem_cons_of_mem _ (hU_X2 x h)) hown hE (zl_o hP) (show vwCl[2]? = some (RX2, TX2, 4) from rfl) (by decide) rfl (hts _ (List.mem_cons_of_mem _ uC_36)) (fun _ h9 => h9) dX2_append_71 ?_
        refine lv_iconst (v := 1) hx hb dX2_append_74 (by decide +kernel) ?_
        refine lv_iadd hx hb dX2_append_75 ?_
        refine zt_i (z_add (a := sv) (b := 1) (by first | rfl | omega)) ?_
        refine zo_put (p0 := 0) 3 (.int (nI (sv + 1))) .int hx hb hts (fun x h => List.mem_cons_of_mem _ (hU_X2 x h)) tyX2 tyX2_ok nmX2 hown hE hP (zD hJ) hS (zl_c0 V g (nI sv) (upd Ga (sv % 20) nu) (upd Gb (sv % 20) wt) (upd Gc (sv % 20) wr)) (show vwCl[2]? = some (RX2, TX2, 4) from rfl) (by decide) (Nat.le_of_ble_eq_true rfl) rfl (by decide +kernel) rfl rfl (hts _ (List.mem_cons_of_mem _ uC_36)) (fun _ h9 => h9) dX2_append_76 (fun H locs hP hS => ?_)
        have hP : va_P V.1 vwCl (zlW V g (nI (sv + 1)) (upd Ga (sv % 20) nu) (upd Gb (sv % 20) wt) (upd Gc (sv % 20) wr)) H := (zl_s0 (V := V) (g := g) (nI (sv + 1))) ▸ hP
        exact zr_v hx hb hr hlocks hS hP dX2_append_79
set_option maxHeartbeats 4000000 in
set_option maxRecDepth 100000 in
theorem c_X2_copyFrom (l : Launch) (V : zV) (g : Nat → Nat) (lv : Int32) (Ga Gb Gc : Nat → Int32) (g2 : Nat → Nat) (lv2 : Int32) (Ga2 Gb2 Gc2 : Nat → Int32) (hJ : zInj 4 g) (hd2 : ∀ p, p < 4 → ¬ zIn 4 g (g2 p)) : Met l yX2_copyFrom wsX2_copyFrom (zR 1 0 0) (zPc V [.ref (g 0), .ref (g2 0)] (fun H => va_P V.1 vwCl (zlW V g lv Ga Gb Gc) H ∧ va_P V.1 vwCl (zlW V g2 lv2 Ga2 Gb2 Gc2) H)) (zQv (fun H => va_P V.1 vwCl (zlW V g lv2 Ga2 Gb2 Gc2) H) (zIn 4 g)) 0 0 (zIn 4 g) := by
  refine Met.ofW (cc := cX2_copyFrom) (maxL := 2) (ret := none) (by decide) rfl ?_
  intro p e s m args below meth c s₁ B hml hv
  obtain ⟨rfl, hP, hE⟩ := hv
  have hx := B.exec
  have hb := B.bytes
  have hr := B.returns
  have hts := atoms_spec (ws := wsX2_copyFrom) B.pre
  have hown : s.vm.findClass RX2 = some m.cls := findClass_of_methodNamed B.named
  have hlocks := B.notSynchronized
  have hl := lv_entry ([.ref (g 0), .ref (g2 0)]) (n := 2) (Nat.le_of_ble_eq_true rfl)
  rw [lg_entry_eq]
  generalize (lg_sl ([.ref (g 0), .ref (g2 0)]) ++ List.replicate (2 - (lg_sl ([.ref (g 0), .ref (g2 0)])).length) Slot.unset).toArray = ls at hl ⊢
  have hl : lv_has ls 2 [(0, .ref (g 0)), (1, .ref (g2 0))] := hl
  obtain ⟨hP, hP2⟩ := hP
  have hS : va_S (zIn 4 g) s.heap s.heap [] := va_S.rf
  refine lv_aload_n hx hb dX2_copyFrom_0 rfl (lv_at hl 1 rfl) ?_
  refine zo_get 0 (.ref (g2 1)) hx hb hts (fun x h => List.mem_cons_of_mem _ (hU_X2 x h)) hown hE (zl_o (zP_other hP2 hS hd2)) (show vwCl[2]? = some (RX2, TX2, 4) from rfl) (by decide) rfl (hts _ (List.mem_cons_of_mem _ uC_5)) (fun _ h9 => h9) dX2_copyFrom_1 ?_
  refine lv_aload_n hx hb dX2_copyFrom_4 rfl (lv_at hl 0 rfl) ?_
  refine zo_get 0 (.ref (g 1)) hx hb hts (fun x h => List.mem_cons_of_mem _ (hU_X2 x h)) hown hE (zl_o hP) (show vwCl[2]? = some (RX2, TX2, 4) from rfl) (by decide) rfl (hts _ (List.mem_cons_of_mem _ uC_5)) (fun _ h9 => h9) dX2_copyFrom_5 ?_
  refine zc_v (va_runSN (As := [.ref (g2 1), .ref (g 1)]) (rest := []) ⟨hx, hb, hml, hown, hts⟩ (c_X7_copyRow l V (g2 1) (g 1) 20 20 Ga2 Ga (by decide) (by decide) (fun z => hd2 1 (by decide) ⟨1, by decide, z⟩)) ⟨va_cnB 2 hts (zgB_ wsC_all uC_8) rfl rfl rfl (hE.2 (.methodLinkNest RX2 19 yX7_copyRow "DrawerSlips") (List.mem_of_getElem? (i := 42) rfl)) (hts _ (List.mem_cons_of_mem _ uC_25)) (by decide +kernel) ⟨Nat.le_of_ble_eq_true rfl, Nat.le_of_ble_eq_true rfl⟩, (hts _ (List.mem_cons_of_mem _ uC_24)), trivial⟩ (zPsS (B := fun U => zRd U U.heap (g2 1) 20 Ga2 ∧ va_P V.1 vwCl [(g 1, .inl (V.2.1, 20, .inl Ga))] U.heap) (fun _ _ _ _ h => ⟨zRd_calling h.1, h.2⟩) (fun U hU hvm => by rw [hU]; exact ⟨zRd.moved hvm (zRd_of hE (zl_1 (zP_other hP2 hS hd2))), zP1 (zl_1 hP)⟩) hE) rfl rfl hl.1 rfl (lv_room (Nat.le_of_ble_eq_true rfl)) dX2_copyFrom_8 ⟨Nat.le_of_ble_eq_true rfl, Nat.le_of_ble_eq_true rfl⟩) hS (fun q h => ⟨1, by decide, h⟩) (fun q h => ⟨1, by decide, h⟩) (fun H locs hQ_ _ hk_ hS => ?_)
  have hP := zl_j1 (fun j => if j < 20 ∧ j < 20 then Ga2 j else Ga j) hP hJ hk_ hQ_
  refine lv_aload_n hx hb dX2_copyFrom_11 rfl (lv_at hl 1 rfl) ?_
  refine zo_get 1 (.ref (g2 2)) hx hb hts (fun x h => List.mem_cons_of_mem _ (hU_X2 x h)) hown hE (zl_o (zP_other hP2 hS hd2)) (show vwCl[2]? = some (RX2, TX2, 4) from rfl) (by decide) rfl (hts _ (List.mem_cons_of_mem _ uC_6)) (fun _ h9 => h9) dX2_copyFrom_12 ?_
  refine lv_aload_n hx hb dX2_copyFrom_15 rfl (lv_at hl 0 rfl) ?_
  refine zo_get 1 (.ref (g 2)) hx hb hts (fun x h => List.mem_cons_of_mem _ (hU_X2 x h)) hown hE (zl_o hP) (show vwCl[2]? = some (RX2, TX2, 4) from rfl) (by decide) rfl (hts _ (List.mem_cons_of_mem _ uC_6)) (fun _ h9 => h9) dX2_copyFrom_16 ?_
  refine zc_v (va_runSN (As := [.ref (g2 2), .ref (g 2)]) (rest := []) ⟨hx, hb, hml, hown, hts⟩ (c_X7_copyRow l V (g2 2) (g 2) 20 20 Gb2 Gb (by decide) (by decide) (fun z => hd2 2 (by decide) ⟨2, by decide, z⟩)) ⟨va_cnB 2 hts (zgB_ wsC_all uC_8) rfl rfl rfl (hE.2 (.methodLinkNest RX2 19 yX7_copyRow "DrawerSlips") (List.mem_of_getElem? (i := 42) rfl)) (hts _ (List.mem_cons_of_mem _ uC_25)) (by decide +kernel) ⟨Nat.le_of_ble_eq_true rfl, Nat.le_of_ble_eq_true rfl⟩, (hts _ (List.mem_cons_of_mem _ uC_24)), trivial⟩ (zPsS (B := fun U => zRd U U.heap (g2 2) 20 Gb2 ∧ va_P V.1 vwCl [(g 2, .inl (V.2.1, 20, .inl Gb))] U.heap) (fun _ _ _ _ h => ⟨zRd_calling h.1, h.2⟩) (fun U hU hvm => by rw [hU]; exact ⟨zRd.moved hvm (zRd_of hE (zl_2 (zP_other hP2 hS hd2))), zP1 (zl_2 hP)⟩) hE) rfl rfl hl.1 rfl (lv_room (Nat.le_of_ble_eq_true rfl)) dX2_copyFrom_19 ⟨Nat.le_of_ble_eq_true rfl, Nat.le_of_ble_eq_true rfl⟩) hS (fun q h => ⟨2, by decide, h⟩) (fun q h => ⟨2, by decide, h⟩) (fun H locs hQ_ _ hk_ hS => ?_)
  have hP := zl_j2 (fun j => if j < 20 ∧ j < 20 then Gb2 j else Gb j) hP hJ hk_ hQ_
  refine lv_aload_n hx hb dX2_copyFrom_22 rfl (lv_at hl 1 rfl) ?_
  refine zo_get 2 (.ref (g2 3)) hx hb hts (fun x h => List.mem_cons_of_mem _ (hU_X2 x h)) hown hE (zl_o (zP_other hP2 hS hd2)) (show vwCl[2]? = some (RX2, TX2, 4) from rfl) (by decide) rfl (hts _ (List.mem_cons_of_mem _ uC_7)) (fun _ h9 => h9) dX2_copyFrom_23 ?_
  refine lv_aload_n hx hb dX2_copyFrom_26 rfl (lv_at hl 0 rfl) ?_
  refine zo_get 2 (.ref (g 3)) hx hb hts (fun x h => List.mem_cons_of_mem _ (hU_X2 x h)) hown hE (zl_o hP) (show vwCl[2]? = some (RX2, TX2, 4) from rfl) (by decide) rfl (hts _ (List.mem_cons_of_mem _ uC_7)) (fun _ h9 => h9) dX2_copyFrom_27 ?_
  refine zc_v (va_runSN (As := [.ref (g2 3), .ref (g 3)]) (rest := []) ⟨hx, hb, hml, hown, hts⟩ (c_X7_copyRow l V (g2 3) (g 3) 20 20 Gc2 Gc (by decide) (by decide) (fun z => hd2 3 (by decide) ⟨3, by decide, z⟩)) ⟨va_cnB 2 hts (zgB_ wsC_all uC_8) rfl rfl rfl (hE.2 (.methodLinkNest RX2 19 yX7_copyRow "DrawerSlips") (List.mem_of_getElem? (i := 42) rfl)) (hts _ (List.mem_cons_of_mem _ uC_25)) (by decide +kernel) ⟨Nat.le_of_ble_eq_true rfl, Nat.le_of_ble_eq_true rfl⟩, (hts _ (List.mem_cons_of_mem _ uC_24)), trivial⟩ (zPsS (B := fun U => zRd U U.heap (g2 3) 20 Gc2 ∧ va_P V.1 vwCl [(g 3, .inl (V.2.1, 20, .inl Gc))] U.heap) (fun _ _ _ _ h => ⟨zRd_calling h.1, h.2⟩) (fun U hU hvm => by rw [hU]; exact ⟨zRd.moved hvm (zRd_of hE (zl_3 (zP_other hP2 hS hd2))), zP1 (zl_3 hP)⟩) hE) rfl rfl hl.1 rfl (lv_room (Nat.le_of_ble_eq_true rfl)) dX2_copyFrom_30 ⟨Nat.le_of_ble_eq_true rfl, Nat.le_of_ble_eq_true rfl⟩) hS (fun q h => ⟨3, by decide, h⟩) (fun q h => ⟨3, by decide, h⟩) (fun H locs hQ_ _ hk_ hS => ?_)
  have hP := zl_j3 (fun j => if j < 20 ∧ j < 20 then Gc2 j else Gc j) hP hJ hk_ hQ_
  refine lv_aload_n hx hb dX2_copyFrom_33 rfl (lv_at hl 0 rfl) ?_
  refine lv_aload_n hx hb dX2_copyFrom_34 rfl (lv_at hl 1 rfl) ?_
  refine zo_get 3 (.int lv2) hx hb hts (fun x h => List.mem_cons_of_mem _ (hU_X2 x h)) hown hE (zl_o (zP_other hP2 hS hd2)) (show vwCl[2]? = some (RX2, TX2, 4) from rfl) (by decide) rfl (hts _ (List.mem_cons_of_mem _ uC_36)) (fun _ h9 => h9) dX2_copyFrom_35 ?_
  refine zo_put (p0 := 0) 3 (.int lv2) .int hx hb hts (fun x h => List.mem_cons_of_mem _ (hU_X2 x h)) tyX2 tyX2_ok nmX2 hown hE hP (zD hJ) hS (zl_c0 V g lv (fun j => if j < 20 ∧ j < 20 then Ga2 j else Ga j) (fun j => if j < 20 ∧ j < 20 then Gb2 j else Gb j) (fun j => if j < 20 ∧ j < 20 then Gc2 j else Gc j)) (show vwCl[2]? = some (RX2, TX2, 4) from rfl) (by decide) (Nat.le_of_ble_eq_true rfl) rfl (by decide +kernel) rfl rfl (hts _ (List.mem_cons_of_mem _ uC_36)) (fun _ h9 => h9) dX2_copyFrom_38 (fun H locs hP hS => ?_)
  have hP : va_P V.1 vwCl (zlW V g lv2 (fun j => if j < 20 ∧ j < 20 then Ga2 j else Ga j) (fun j => if j < 20 ∧ j < 20 then Gb2 j else Gb j) (fun j => if j < 20 ∧ j < 20 then Gc2 j else Gc j)) H := (zl_s0 (V := V) (g := g) lv2) ▸ hP
  exact zr_v hx hb hr hlocks hS (zl_x lv2 Ga2 Gb2 Gc2 rfl (fun j hj => if_pos ⟨hj, hj⟩) (fun j hj => if_pos ⟨hj, hj⟩) (fun j hj => if_pos ⟨hj, hj⟩) hP) dX2_copyFrom_41
