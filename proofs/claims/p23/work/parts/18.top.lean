-- an archive's state as one
abbrev zA : Type := (Nat → Int32) × (Nat → Int32) × Nat × (Nat → Int32) × (Nat → Int32) × (Nat → Int32) × (Nat → Nat → Int32)
abbrev aF (A : zA) : Nat → Int32 := A.1
abbrev aT (A : zA) : Nat → Int32 := A.2.1
abbrev aS (A : zA) : Nat := A.2.2.1
abbrev aU (A : zA) : Nat → Int32 := A.2.2.2.1
abbrev aV (A : zA) : Nat → Int32 := A.2.2.2.2.1
abbrev aX (A : zA) : Nat → Int32 := A.2.2.2.2.2.1
abbrev aP (A : zA) : Nat → Nat → Int32 := A.2.2.2.2.2.2
def zaX (V : zV) (h : Nat → Nat) (A : zA) : va_W := zaW V h (aF A) (aT A) (nI (aS A)) (aU A) (aV A) (aX A) (aP A)
def kNx (A : zA) : zA := (kNxF (aF A) (aT A) (aP A), aT A, kNxS (aF A) (aT A) (aP A) (aS A), kNxA (aF A) (aT A) (aP A) (aU A) (aS A), kNxB (aF A) (aT A) (aP A) (aV A) (aS A), kNxC (aF A) (aT A) (aP A) (aX A) (aS A), kNxP (aF A) (aT A) (aP A))
def kAcc (A : zA) (wr d mm : Int32) : zA := (kAccF (aF A) (aP A) wr d mm, aT A, aS A, aU A, aV A, aX A, kAccP (aF A) (aP A) wr d mm)
def kTear (A : zA) (x : Int32) : zA := (kTearF (aF A) (aP A) x, aT A, aS A, aU A, aV A, aX A, kTearP (aP A) x)
def kStand (A : zA) (mi : Int32) : zA := (kStandF (aF A) mi, aT A, aS A, aU A, aV A, aX A, aP A)
def kAdj (A : zA) (x v : Int32) : zA := (aF A, kAdjT (aT A) x v, aS A, aU A, aV A, aX A, aP A)
-- the whole: eleven archives (0 the one, 1 the trial, 2 to 8 the history, 9 and 10 the slots), the pad and its reader, five more cells
def gA (G : Nat → Nat) (j i : Nat) : Nat := G (36 * j + i)
def gQ (G : Nat → Nat) (i : Nat) : Nat := G (396 + i)
def gM (G : Nat → Nat) (i : Nat) : Nat := G (399 + i)
def zsE (V : zV) (G : Nat → Nat) (hp hk : Nat) (f1 f2 : Int32) : Nat → va_E
  | 0 => .inr (7, [.ref (gA G 0 0), .ref (gA G 1 0), .ref (gM G 1), .ref (gM G 3), .ref (gM G 4), .ref (gQ G 0), .ref (gQ G 2)])
  | 1 => .inr (1, [.ref (gM G 2), .int (nI hp), .int (nI hk)])
  | 2 => .inl (V.2.2.2, 7, .inr (.inr (.inr (.inr (fun j => some (gA G (j + 2) 0))))))
  | 3 => .inr (6, [.ref (gA G 9 0), .int f1])
  | _ => .inr (6, [.ref (gA G 10 0), .int f2])
def zsW (V : zV) (G : Nat → Nat) (hp hk : Nat) (f1 f2 : Int32) : va_W := zWd 5 (gM G) (zsE V G hp hk f1 f2)
def zaXE (V : zV) (h : Nat → Nat) (A : zA) : Nat → va_E := zaE V h (aF A) (aT A) (nI (aS A)) (aU A) (aV A) (aX A) (aP A)
def zTP (V : zV) (G : Nat → Nat) (Y : Nat → zA) (hp hk : Nat) (f1 f2 : Int32) (n : Nat) (pd : Nat → Int32) (a : Nat) (kd nu mo : Int32) (H : Heap) : Prop := (∀ j, j < 11 → va_P V.1 vwCl (zaX V (gA G j) (Y j)) H) ∧ va_P V.1 vwCl (zqW V (gQ G) n pd a kd nu mo) H ∧ va_P V.1 vwCl (zsW V G hp hk f1 f2) H
def zUE (V : zV) (G : Nat → Nat) (Y : Nat → zA) (hp hk : Nat) (f1 f2 : Int32) (n : Nat) (pd : Nat → Int32) (a : Nat) (kd nu mo : Int32) : Nat → va_E := fun q => if q < 396 then zaXE V (gA G (q / 36)) (Y (q / 36)) (q % 36) else if q < 399 then zqE V (gQ G) n pd a kd nu mo (q - 396) else zsE V G hp hk f1 f2 (q - 399)
theorem zT_uni {V : zV} {G : Nat → Nat} {Y : Nat → zA} {hp hk : Nat} {f1 f2 : Int32} {n : Nat} {pd : Nat → Int32} {a : Nat} {kd nu mo : Int32} {H : Heap} : zTP V G Y hp hk f1 f2 n pd a kd nu mo H ↔ va_P V.1 vwCl (zWd 404 G (zUE V G Y hp hk f1 f2 n pd a kd nu mo)) H := by
  constructor
  · intro h
    refine zP_mk (fun q hq => ?_)
    unfold zUE
    by_cases h1 : q < 396
    · rw [if_pos h1]
      have h2 := zP_at (h.1 (q / 36) (by omega)) (p := q % 36) (by omega)
      have e : gA G (q / 36) (q % 36) = G q := by unfold gA; rw [show 36 * (q / 36) + q % 36 = q by omega]
      rw [e] at h2
      exact h2
    · by_cases h2 : q < 399
      · obtain ⟨r, rfl⟩ : ∃ r, q = 396 + r := ⟨q - 396, by omega⟩
        have hr : r < 3 := by omega
        rw [if_neg h1, if_pos h2, show 396 + r - 396 = r by omega]
        exact zP_at h.2.1 hr
      · obtain ⟨r, rfl⟩ : ∃ r, q = 399 + r := ⟨q - 399, by omega⟩
        have hr : r < 5 := by omega
        rw [if_neg h1, if_neg h2, show 399 + r - 399 = r by omega]
        exact zP_at h.2.2 hr
  · intro h
    refine ⟨fun j hj => zP_sub h (fun p => 36 * j + p) (fun p hp => ⟨by omega, rfl, ?_⟩), zP_sub h (fun p => 396 + p) (fun p hp => ⟨by omega, rfl, ?_⟩), zP_sub h (fun p => 399 + p) (fun p hp => ⟨by omega, rfl, ?_⟩)⟩
    · unfold zUE
      rw [if_pos (by omega), show (36 * j + p) / 36 = j by omega, show (36 * j + p) % 36 = p by omega]
      rfl
    · unfold zUE
      rw [if_neg (by omega), if_pos (by omega), show 396 + p - 396 = p by omega]
    · unfold zUE
      rw [if_neg (by omega), if_neg (by omega), show 399 + p - 399 = p by omega]
theorem zB_dis {N : Nat} {G : Nat → Nat} (hJ : zInj N G) {b b' len len' : Nat} (h1 : b + len ≤ N) (h2 : b' + len' ≤ N) (h3 : b + len ≤ b' ∨ b' + len' ≤ b) : ∀ p, p < len' → ¬ zIn len (fun i => G (b + i)) (G (b' + p)) := fun p hp hz => by
  obtain ⟨i, hi, e⟩ := hz
  have := hJ (b' + p) (b + i) (by omega) (by omega) e
  omega
theorem zB_J {N : Nat} {G : Nat → Nat} (hJ : zInj N G) {b len : Nat} (h1 : b + len ≤ N) : zInj len (fun i => G (b + i)) := fun i j hi hj e => by have := hJ (b + i) (b + j) (by omega) (by omega) e; omega
theorem zB_in {N : Nat} {G : Nat → Nat} {b len : Nat} (h1 : b + len ≤ N) {q : Nat} (h : zIn len (fun i => G (b + i)) q) : zIn N G q := by
  obtain ⟨i, hi, e⟩ := h
  exact ⟨b + i, by omega, e⟩
theorem zT_JA {G : Nat → Nat} (hJ : zInj 404 G) {j : Nat} (hj : j < 11) : zInj 36 (gA G j) := zB_J hJ (b := 36 * j) (by omega)
theorem zT_iA {G : Nat → Nat} {j : Nat} (hj : j < 11) {q : Nat} (h : zIn 36 (gA G j) q) : zIn 404 G q := zB_in (b := 36 * j) (by omega) h
theorem zT_dA {G : Nat → Nat} (hJ : zInj 404 G) {j j' : Nat} (hj : j < 11) (hj' : j' < 11) (h : j' ≠ j) : ∀ p, p < 36 → ¬ zIn 36 (gA G j) (gA G j' p) := zB_dis hJ (b := 36 * j) (b' := 36 * j') (by omega) (by omega) (by omega)
section ZT
variable {V : zV} {G : Nat → Nat} {Y : Nat → zA} {hp hk : Nat} {f1 f2 : Int32} {n : Nat} {pd : Nat → Int32} {a : Nat} {kd nu mo : Int32} {H H1 : Heap}
theorem zT_arch {j : Nat} {A' : zA} (hT : zTP V G Y hp hk f1 f2 n pd a kd nu mo H) (hJ : zInj 404 G) (hj : j < 11) (hq : ∀ q : Nat, q < H.size → ¬ zIn 36 (gA G j) q → H1[q]? = H[q]?) (hn : va_P V.1 vwCl (zaX V (gA G j) A') H1) : zTP V G (va_up Y j A') hp hk f1 f2 n pd a kd nu mo H1 :=
  ⟨fun i hi => by
    by_cases e : i = j
    · subst e; rw [zUp_s]; exact hn
    · rw [zUp_n _ _ e]; exact zP_keep (hT.1 i hi) hq (zT_dA hJ hj hi e), zP_keep hT.2.1 hq (zB_dis hJ (b := 36 * j) (b' := 396) (by omega) (by omega) (by omega)), zP_keep hT.2.2 hq (zB_dis hJ (b := 36 * j) (b' := 399) (by omega) (by omega) (by omega))⟩
theorem zT_c {c : Nat} (hT : zTP V G Y hp hk f1 f2 n pd a kd nu mo H) (hc : c < 5) : va_at V.1 vwCl (gM G c, zsE V G hp hk f1 f2 c) H := zP_at hT.2.2 hc
theorem zU_c (V : zV) (G : Nat → Nat) (Y : Nat → zA) (hp hk : Nat) (f1 f2 : Int32) (n : Nat) (pd : Nat → Int32) (a : Nat) (kd nu mo : Int32) {c : Nat} (hc : c < 5) : (zWd 404 G (zUE V G Y hp hk f1 f2 n pd a kd nu mo))[399 + c]? = some (gM G c, zsE V G hp hk f1 f2 c) := by
  rw [zWd_at (by omega)]
  unfold zUE
  rw [if_neg (by omega), if_neg (by omega), show 399 + c - 399 = c by omega]
  rfl
theorem zU_s {hp' hk' : Nat} {f1' f2' : Int32} {c : Nat} (hc : c < 5) {x : va_E} (hx : zsE V G hp' hk' f1' f2' c = x) (ho : ∀ q, q < 5 → q ≠ c → zsE V G hp' hk' f1' f2' q = zsE V G hp hk f1 f2 q) : (zWd 404 G (zUE V G Y hp hk f1 f2 n pd a kd nu mo)).set (399 + c) (gM G c, x) = zWd 404 G (zUE V G Y hp' hk' f1' f2' n pd a kd nu mo) :=
  zWd_set (by omega) (by unfold zUE; rw [if_neg (by omega), if_neg (by omega), show 399 + c - 399 = c by omega]; exact hx) (fun q hq hne => by
    unfold zUE
    by_cases h1 : q < 396
    · rw [if_pos h1, if_pos h1]
    · rw [if_neg h1, if_neg h1]
      by_cases h2 : q < 399
      · rw [if_pos h2, if_pos h2]
      · rw [if_neg h2, if_neg h2]
        exact ho (q - 399) (by omega) (by omega))
theorem zT_of {hp' hk' : Nat} {f1' f2' : Int32} {c : Nat} (hc : c < 5) {x : va_E} (hx : zsE V G hp' hk' f1' f2' c = x) (ho : ∀ q, q < 5 → q ≠ c → zsE V G hp' hk' f1' f2' q = zsE V G hp hk f1 f2 q) (h : va_P V.1 vwCl ((zWd 404 G (zUE V G Y hp hk f1 f2 n pd a kd nu mo)).set (399 + c) (gM G c, x)) H) : zTP V G Y hp' hk' f1' f2' n pd a kd nu mo H := by
  rw [zU_s hc hx ho] at h
  exact zT_uni.mpr h
end ZT
section ZTR
variable {p : Program} {l : Launch} {e : Env} {R : Room} {s : State} {m : MethodId} {args : Array Value} {below : List Frame} {meth : Method} {c : Code} {H : Heap} {locs : List Loc} {cells slots : Nat} {Q : State → Prop}
variable {pc : Nat} {ls : Array Slot} {rest st0 : List Value} {cc : ByteArray} {H0 : Heap}
variable {V : zV} {G : Nat → Nat} {Y : Nat → zA} {hp hk : Nat} {f1 f2 : Int32} {n : Nat} {pd : Nat → Int32} {a : Nat} {kd nu mo : Int32}
theorem zT_ra {j : Nat} (hE : zE V s) (hT : zTP V G Y hp hk f1 f2 n pd a kd nu mo H) (hj : j < 11) : ∃ cell : Cell, H[gA G j 0]? = some cell ∧ cell.vm.isStatics = false ∧ s.vm.findClass RX0 = some cell.cls := za_ro hE (hT.1 j hj)
theorem zT_rh (hE : zE V s) (hT : zTP V G Y hp hk f1 f2 n pd a kd nu mo H) : ∃ cell : Cell, H[gM G 1]? = some cell ∧ cell.vm.isStatics = false ∧ s.vm.findClass RX1 = some cell.cls := va_recv hE.1 (zT_uni.mp hT) (ci := 1) (q0 := 399 + 1) (q := (RX1, TX1, 3)) rfl (zU_c V G Y hp hk f1 f2 n pd a kd nu mo (c := 1) (by decide))
theorem zT_rt (hE : zE V s) (hT : zTP V G Y hp hk f1 f2 n pd a kd nu mo H) : ∃ cell : Cell, H[gM G 0]? = some cell ∧ cell.vm.isStatics = false ∧ s.vm.findClass RX7 = some cell.cls := va_recv hE.1 (zT_uni.mp hT) (ci := 7) (q0 := 399 + 0) (q := (RX7, TX7, 7)) rfl (zU_c V G Y hp hk f1 f2 n pd a kd nu mo (c := 0) (by decide))
end ZTR
theorem zWf_up {Y : Nat → zA} {k : Nat} {A : zA} (h : ∀ j, j < 11 → ∀ i, i < 30 → aP (Y j) i 1 = 0 ∨ aP (Y j) i 1 = 1) (hA : ∀ i, i < 30 → aP A i 1 = 0 ∨ aP A i 1 = 1) : ∀ j, j < 11 → ∀ i, i < 30 → aP (va_up Y k A j) i 1 = 0 ∨ aP (va_up Y k A j) i 1 = 1 := fun j hj => by
  by_cases e : j = k
  · subst e; rw [zUp_s]; exact hA
  · rw [zUp_n _ _ e]; exact h j hj
def zWfA (A : zA) : Prop := ∀ i, i < 30 → aP A i 1 = 0 ∨ aP A i 1 = 1
section ZTS
variable {p : Program} {l : Launch} {e : Env} {R : Room} {s : State} {m : MethodId} {args : Array Value} {below : List Frame} {meth : Method} {c : Code} {H : Heap} {locs : List Loc} {cells slots : Nat} {Q : State → Prop}
variable {pc : Nat} {ls : Array Slot} {rest : List Value} {cc : ByteArray}
variable {V : zV} {G : Nat → Nat} {Y : Nat → zA} {hp hk : Nat} {f1 f2 : Int32} {n : Nat} {pd : Nat → Int32} {a : Nat} {kd nu mo : Int32}
theorem zo_slen (hx : p.tables.exec = Jvm.exec) (hb : c.code = cc) (hE : zE V s) (hT : zTP V G Y hp hk f1 f2 n pd a kd nu mo H) (hdg : decode cc pc = .ok (.arraylength, 1))
    (kk : W p l e R s m args below meth c H locs cells slots Q (F0 m (pc + 1) ls (.int (nI 7) :: rest))) : W p l e R s m args below meth c H locs cells slots Q (F0 m pc ls (.ref (gM G 2) :: rest)) := by
  refine va_alen hx hb hE.1 hT.2.2 2 2 (zWd_at (by decide)) rfl rfl hdg ?_
  exact kk
end ZTS
theorem zPsV {V : zV} {s : State} {H : Heap} {C : String} {b : Nat} {As : List Value} {B : State → Prop} (hb : ∀ (a : Array Value) (U : State) (g : JFrame) (mk : MethodId), B U → B (U.calling g mk a)) (hB : ∀ U : State, U.heap = H → s.vm.Alike U.vm → B U) (hE : zE V s) (hr : ∃ cell : Cell, H[b]? = some cell ∧ cell.vm.isStatics = false ∧ s.vm.findClass C = some cell.cls) : PreV s H C b (zPs V (.ref b :: As) B) As :=
  ⟨zPs_blind hb, hr, fun U hU hW => ⟨rfl, hB U hU hW.alike, hE.moved hW⟩⟩
set_option maxHeartbeats 4000000 in
set_option maxRecDepth 100000 in
theorem c_X1_stateAt (l : Launch) (V : zV) (G : Nat → Nat) (Y : Nat → zA) (hp hk : Nat) (f1 f2 : Int32) (n : Nat) (pd : Nat → Int32) (a : Nat) (kd nu mo : Int32) (k : Nat) (hJ : zInj 404 G) (hk7 : k < 7) : Met l yX1_stateAt wsX1_stateAt (zR 0 0 0) (zPc V [.ref (gM G 1), .int (nI k)] (fun H => zTP V G Y hp hk f1 f2 n pd a kd nu mo H)) (va_Sq (fun r => r = some (gA G (k + 2) 0))) 0 0 (fun _ => False) := by
  refine Met.ofW (cc := cX1_stateAt) (maxL := 2) (ret := (some (.object "DrawerSlips$Archive"))) (by decide) rfl ?_
  intro p e s m args below meth c s₁ B hml hv
  obtain ⟨rfl, hP, hE⟩ := hv
  have hx := B.exec
  have hb := B.bytes
  have hr := B.returns
  have hts := atoms_spec (ws := wsX1_stateAt) B.pre
  have hown : s.vm.findClass RX1 = some m.cls := findClass_of_methodNamed B.named
  have hlocks := B.notSynchronized
  have hl := lv_entry ([.ref (gM G 1), .int (nI k)]) (n := 2) (Nat.le_of_ble_eq_true rfl)
  rw [lg_entry_eq]
  generalize (lg_sl ([.ref (gM G 1), .int (nI k)]) ++ List.replicate (2 - (lg_sl ([.ref (gM G 1), .int (nI k)])).length) Slot.unset).toArray = ls at hl ⊢
  have hl : lv_has ls 2 [(0, .ref (gM G 1)), (1, .int (nI k))] := hl
  have hT := hP
  refine lv_iload_n hx hb dX1_stateAt_0 rfl (lv_at hl 1 rfl) ?_
  refine zb0_lt (x := k) (tgt := 22) hx hb dX1_stateAt_1 (by decide) (by omega) (fun c_1 => ?_) (fun c_1 => ?_)
  · exact c_1.elim
  · refine lv_iload_n hx hb dX1_stateAt_4 rfl (lv_at hl 1 rfl) ?_
    refine lv_aload_n hx hb dX1_stateAt_5 rfl (lv_at hl 0 rfl) ?_
    refine zo_get 0 (.ref (gM G 2)) hx hb hts (fun x h => List.mem_cons_of_mem _ (hU_X1 x h)) hown hE (zT_c hT (c := 1) (by decide)) (show vwCl[1]? = some (RX1, TX1, 3) from rfl) (by decide) rfl (hts _ (List.mem_cons_of_mem _ uC_158)) (fun _ h9 => h9) dX1_stateAt_6 ?_
    refine zo_slen hx hb hE hT dX1_stateAt_9 ?_
    refine zb_ge (x := k) (y := 7) (tgt := 22) hx hb dX1_stateAt_10 (by decide) (by omega) (by omega) (fun c_10 => ?_) (fun c_10 => ?_)
    · exact absurd c_10 (by omega)
    · refine lv_aload_n hx hb dX1_stateAt_13 rfl (lv_at hl 0 rfl) ?_
      refine zo_get 0 (.ref (gM G 2)) hx hb hts (fun x h => List.mem_cons_of_mem _ (hU_X1 x h)) hown hE (zT_c hT (c := 1) (by decide)) (show vwCl[1]? = some (RX1, TX1, 3) from rfl) (by decide) rfl (hts _ (List.mem_cons_of_mem _ uC_158)) (fun _ h9 => h9) dX1_stateAt_14 ?_
      refine lv_iload_n hx hb dX1_stateAt_17 rfl (lv_at hl 1 rfl) ?_
      refine z_aald (k := k) hx hb hE hT.2.2 2 (zWd_at (by decide)) (by omega) (by decide) dX1_stateAt_18 ?_
      refine zt_v (y := .ref (gA G (k + 2) 0)) rfl ?_
      refine lv_goto (tgt := 23) hx hb dX1_stateAt_19 (by decide) ?_
      exact zr_sq (r := some (gA G (k + 2) 0)) hx hb hr hlocks (by rfl) dX1_stateAt_23
set_option maxHeartbeats 4000000 in
set_option maxRecDepth 100000 in
theorem c_X1_prepare (l : Launch) (V : zV) (G : Nat → Nat) (Y : Nat → zA) (hp hk : Nat) (f1 f2 : Int32) (n : Nat) (pd : Nat → Int32) (a : Nat) (kd nu mo : Int32) (hJ : zInj 404 G) (hp7 : hp < 7) (hwf : ∀ j, j < 11 → zWfA (Y j)) : Met l yX1_prepare wsX1_prepare (zR 3 0 0) (zPc V [.ref (gM G 1), .ref (gA G 0 0)] (fun H => zTP V G Y hp hk f1 f2 n pd a kd nu mo H)) (zQv (fun H => zTP V G (va_up Y (hp + 2) (Y 0)) hp hk f1 f2 n pd a kd nu mo H) (zIn 404 G)) 0 0 (zIn 404 G) := by
  refine Met.ofW (cc := cX1_prepare) (maxL := 3) (ret := none) (by decide) rfl ?_
  intro p e s m args below meth c s₁ B hml hv
  obtain ⟨rfl, hP, hE⟩ := hv
  have hx := B.exec
  have hb := B.bytes
  have hr := B.returns
  have hts := atoms_spec (ws := wsX1_prepare) B.pre
  have hown : s.vm.findClass RX1 = some m.cls := findClass_of_methodNamed B.named
  have hlocks := B.notSynchronized
  have hl := lv_entry ([.ref (gM G 1), .ref (gA G 0 0)]) (n := 3) (Nat.le_of_ble_eq_true rfl)
  rw [lg_entry_eq]
  generalize (lg_sl ([.ref (gM G 1), .ref (gA G 0 0)]) ++ List.replicate (3 - (lg_sl ([.ref (gM G 1), .ref (gA G 0 0)])).length) Slot.unset).toArray = ls at hl ⊢
  have hl : lv_has ls 3 [(0, .ref (gM G 1)), (1, .ref (gA G 0 0))] := hl
  have hT := hP
  have hS : va_S (zIn 404 G) s.heap s.heap [] := va_S.rf
  refine lv_aload_n hx hb dX1_prepare_0 rfl (lv_at hl 0 rfl) ?_
  refine lv_aload_n hx hb dX1_prepare_1 rfl (lv_at hl 0 rfl) ?_
  refine zo_get 1 (.int (nI hp)) hx hb hts (fun x h => List.mem_cons_of_mem _ (hU_X1 x h)) hown hE (zT_c hT (c := 1) (by decide)) (show vwCl[1]? = some (RX1, TX1, 3) from rfl) (by decide) rfl (hts _ (List.mem_cons_of_mem _ uC_163)) (fun _ h9 => h9) dX1_prepare_2 ?_
  refine zc_sqe (va_runV (As := [.int (nI hp)]) (rest := []) ⟨hx, hb, hml, hown, hts⟩ (c_X1_stateAt l V G Y hp hk f1 f2 n pd a kd nu mo hp hJ (by omega)) (cwV 1 hts (zgV_ wsC_all uC_161 uC_164 uC_165 uC_166 uC_167) rfl rfl rfl (by decide +kernel) ⟨Nat.le_of_ble_eq_true rfl, Nat.le_of_ble_eq_true rfl⟩) (zPreV (B := fun H => zTP V G Y hp hk f1 f2 n pd a kd nu mo H) hT hE (zT_rh hE hT)) rfl rfl hl.1 rfl (lv_room (Nat.le_of_ble_eq_true rfl)) dX1_prepare_5 ⟨Nat.le_of_ble_eq_true rfl, Nat.le_of_ble_eq_true rfl⟩) ?_
  refine zt_v (y := .ref (gA G (hp + 2) 0)) rfl ?_
  refine lv_astore_n (lv' := [(2, .ref (gA G (hp + 2) 0)), (0, .ref (gM G 1)), (1, .ref (gA G 0 0))]) hx hb dX1_prepare_8 rfl hl (by decide) rfl (fun ls hl => ?_)
  refine lv_aload_n hx hb dX1_prepare_9 rfl (lv_at hl 0 rfl) ?_
  refine lv_ifnull hx hb dX1_prepare_10 ?_
  refine lv_aload_n hx hb dX1_prepare_13 rfl (lv_at hl 0 rfl) ?_
  refine lv_aload_n hx hb dX1_prepare_14 rfl (lv_at hl 2 rfl) ?_
  refine zc_v (va_runVN (As := [.ref (gA G 0 0)]) (rest := []) ⟨hx, hb, hml, hown, hts⟩ (c_X0_copyFrom l V (gA G (hp + 2)) (gA G 0) (aF (Y (hp + 2))) (aT (Y (hp + 2))) (nI (aS (Y (hp + 2)))) (aU (Y (hp + 2))) (aV (Y (hp + 2))) (aX (Y (hp + 2))) (aP (Y (hp + 2))) (aF (Y 0)) (aT (Y 0)) (nI (aS (Y 0))) (aU (Y 0)) (aV (Y 0)) (aX (Y 0)) (aP (Y 0)) (zT_JA hJ (by omega)) (zT_dA hJ (by omega) (by omega) (by omega)) (hwf 0 (by omega))) ⟨va_cnB 1 hts (zgB_ wsC_all uC_37) rfl rfl rfl (hE.2 (.methodLinkNest RX1 24 yX0_copyFrom "DrawerSlips") (List.mem_of_getElem? (i := 39) rfl)) (hts _ (List.mem_cons_of_mem _ uC_73)) (by decide +kernel) ⟨Nat.le_of_ble_eq_true rfl, Nat.le_of_ble_eq_true rfl⟩, (hts _ (List.mem_cons_of_mem _ uC_168)), (hts _ (List.mem_cons_of_mem _ uC_169))⟩ (zPreV (B := fun H => va_P V.1 vwCl (zaW V (gA G (hp + 2)) (aF (Y (hp + 2))) (aT (Y (hp + 2))) (nI (aS (Y (hp + 2)))) (aU (Y (hp + 2))) (aV (Y (hp + 2))) (aX (Y (hp + 2))) (aP (Y (hp + 2)))) H ∧ va_P V.1 vwCl (zaW V (gA G 0) (aF (Y 0)) (aT (Y 0)) (nI (aS (Y 0))) (aU (Y 0)) (aV (Y 0)) (aX (Y 0)) (aP (Y 0))) H) ⟨(hT.1 (hp + 2) (by omega)), (hT.1 0 (by omega))⟩ hE (zT_ra hE hT (by omega))) rfl rfl hl.1 rfl (lv_room (Nat.le_of_ble_eq_true rfl)) dX1_prepare_15 ⟨Nat.le_of_ble_eq_true rfl, Nat.le_of_ble_eq_true rfl⟩) hS (fun q h => zT_iA (by omega) h) (fun q h => zT_iA (by omega) h) (fun H locs hQ_ _ hk_ hS => ?_)
  have hT := zT_arch (j := (hp + 2)) (A' := (Y 0)) hT hJ (by omega) hk_ hQ_
  have hwf := zWf_up (k := (hp + 2)) (A := (Y 0)) hwf (hwf 0 (by omega))
  exact zr_v hx hb hr hlocks hS hT dX1_prepare_18
theorem z_min6 {k : Nat} (h : k ≤ 6) : (if (6 : Int32) < nI (k + 1) then (6 : Int32) else nI (k + 1)) = nI (min (k + 1) 6) := by
  rcases (show k = 0 ∨ k = 1 ∨ k = 2 ∨ k = 3 ∨ k = 4 ∨ k = 5 ∨ k = 6 by omega) with rfl | rfl | rfl | rfl | rfl | rfl | rfl <;> decide
set_option maxHeartbeats 4000000 in
set_option maxRecDepth 100000 in
theorem c_X1_keep (l : Launch) (V : zV) (G : Nat → Nat) (Y : Nat → zA) (hp hk : Nat) (f1 f2 : Int32) (n : Nat) (pd : Nat → Int32) (a : Nat) (kd nu mo : Int32) (hJ : zInj 404 G) (hp7 : hp < 7) (hk6 : hk ≤ 6) : Met l yX1_keep wsX1_keep (zR 1 0 0) (zPc V [.ref (gM G 1)] (fun H => zTP V G Y hp hk f1 f2 n pd a kd nu mo H)) (zQv (fun H => zTP V G Y ((hp + 1) % 7) (min (hk + 1) 6) f1 f2 n pd a kd nu mo H) (zIn 404 G)) 0 0 (zIn 404 G) := by
  refine Met.ofW (cc := cX1_keep) (maxL := 1) (ret := none) (by decide) rfl ?_
  intro p e s m args below meth c s₁ B hml hv
  obtain ⟨rfl, hP, hE⟩ := hv
  have hx := B.exec
  have hb := B.bytes
  have hr := B.returns
  have hts := atoms_spec (ws := wsX1_keep) B.pre
  have hown : s.vm.findClass RX1 = some m.cls := findClass_of_methodNamed B.named
  have hlocks := B.notSynchronized
  have hl := lv_entry ([.ref (gM G 1)]) (n := 1) (Nat.le_of_ble_eq_true rfl)
  rw [lg_entry_eq]
  generalize (lg_sl ([.ref (gM G 1)]) ++ List.replicate (1 - (lg_sl ([.ref (gM G 1)])).length) Slot.unset).toArray = ls at hl ⊢
  have hl : lv_has ls 1 [(0, .ref (gM G 1))] := hl
  have hT := hP
  have hS : va_S (zIn 404 G) s.heap s.heap [] := va_S.rf
  refine lv_aload_n hx hb dX1_keep_0 rfl (lv_at hl 0 rfl) ?_
  refine lv_aload_n hx hb dX1_keep_1 rfl (lv_at hl 0 rfl) ?_
  refine zo_get 1 (.int (nI hp)) hx hb hts (fun x h => List.mem_cons_of_mem _ (hU_X1 x h)) hown hE (zT_c hT (c := 1) (by decide)) (show vwCl[1]? = some (RX1, TX1, 3) from rfl) (by decide) rfl (hts _ (List.mem_cons_of_mem _ uC_163)) (fun _ h9 => h9) dX1_keep_2 ?_
  refine lv_iconst (v := 1) hx hb dX1_keep_5 (by decide +kernel) ?_
  refine lv_iadd hx hb dX1_keep_6 ?_
  refine zt_i (z_add (a := hp) (b := 1) (by first | rfl | omega)) ?_
  refine lv_bipush (v := 7) hx hb dX1_keep_7 (by decide +kernel) ?_
  refine lv_irem hx hb dX1_keep_9 (by decide +kernel) ?_
  refine zt_i (pk_rem (by omega) (by decide) (by decide)) ?_
  refine zo_put (p0 := 399 + 1) 1 (.int (nI ((hp + 1) % 7))) .int hx hb hts (fun x h => List.mem_cons_of_mem _ (hU_X1 x h)) tyX1 tyX1_ok nmX1 hown hE (zT_uni.mp hT) (zD hJ) hS (zU_c V G Y hp hk f1 f2 n pd a kd nu mo (c := 1) (by decide)) (show vwCl[1]? = some (RX1, TX1, 3) from rfl) (by decide) (Nat.le_of_ble_eq_true rfl) rfl (by decide +kernel) rfl rfl (hts _ (List.mem_cons_of_mem _ uC_163)) (fun _ h9 => h9) dX1_keep_10 (fun H locs hT hS => ?_)
  have hT : zTP V G Y ((hp + 1) % 7) hk f1 f2 n pd a kd nu mo H := zT_of (c := 1) (hp' := ((hp + 1) % 7)) (hk' := hk) (f1' := f1) (f2' := f2) (by decide) rfl (fun q hq hne => by
    rcases (show q = 0 ∨ q = 1 ∨ q = 2 ∨ q = 3 ∨ q = 4 by omega) with rfl | rfl | rfl | rfl | rfl <;> first | rfl | exact absurd rfl hne) hT
  refine lv_aload_n hx hb dX1_keep_13 rfl (lv_at hl 0 rfl) ?_
  refine lv_aload_n hx hb dX1_keep_14 rfl (lv_at hl 0 rfl) ?_
  refine zo_get 2 (.int (nI hk)) hx hb hts (fun x h => List.mem_cons_of_mem _ (hU_X1 x h)) hown hE (zT_c hT (c := 1) (by decide)) (show vwCl[1]? = some (RX1, TX1, 3) from rfl) (by decide) rfl (hts _ (List.mem_cons_of_mem _ uC_171)) (fun _ h9 => h9) dX1_keep_15 ?_
  refine lv_iconst (v := 1) hx hb dX1_keep_18 (by decide +kernel) ?_
  refine lv_iadd hx hb dX1_keep_19 ?_
  refine zt_i (z_add (a := hk) (b := 1) (by first | rfl | omega)) ?_
  refine lv_bipush (v := 6) hx hb dX1_keep_20 (by decide +kernel) ?_
  refine va_mmin hx hb (hml.trans hl.1.symm) hown (hts _ (List.mem_cons_of_mem _ uC_172)) (hts _ (List.mem_cons_of_mem _ uC_136)) (hts _ (List.mem_cons_of_mem _ uC_126)) (hts _ (List.mem_cons_of_mem _ uC_137)) (Nat.le_of_ble_eq_true rfl) (Nat.le_of_ble_eq_true rfl) (Nat.le_of_ble_eq_true rfl) (Nat.le_of_ble_eq_true rfl) dX1_keep_22 ?_
  refine zt_i (y := nI (min (hk + 1) 6)) (z_min6 (by omega)) ?_
  refine zo_put (p0 := 399 + 1) 2 (.int (nI (min (hk + 1) 6))) .int hx hb hts (fun x h => List.mem_cons_of_mem _ (hU_X1 x h)) tyX1 tyX1_ok nmX1 hown hE (zT_uni.mp hT) (zD hJ) hS (zU_c V G Y ((hp + 1) % 7) hk f1 f2 n pd a kd nu mo (c := 1) (by decide)) (show vwCl[1]? = some (RX1, TX1, 3) from rfl) (by decide) (Nat.le_of_ble_eq_true rfl) rfl (by decide +kernel) rfl rfl (hts _ (List.mem_cons_of_mem _ uC_171)) (fun _ h9 => h9) dX1_keep_25 (fun H locs hT hS => ?_)
  have hT : zTP V G Y ((hp + 1) % 7) (min (hk + 1) 6) f1 f2 n pd a kd nu mo H := zT_of (c := 1) (hp' := ((hp + 1) % 7)) (hk' := (min (hk + 1) 6)) (f1' := f1) (f2' := f2) (by decide) rfl (fun q hq hne => by
    rcases (show q = 0 ∨ q = 1 ∨ q = 2 ∨ q = 3 ∨ q = 4 by omega) with rfl | rfl | rfl | rfl | rfl <;> first | rfl | exact absurd rfl hne) hT
  exact zr_v hx hb hr hlocks hS hT dX1_keep_28
