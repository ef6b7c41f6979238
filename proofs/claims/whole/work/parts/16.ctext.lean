-- the pad and its reader: three cells
def zqE (V : zV) (g : Nat → Nat) (n : Nat) (pd : Nat → Int32) (a : Nat) (kd nu mo : Int32) : Nat → va_E
  | 0 => .inr (3, [.ref (g 1), .int (nI n)])
  | 1 => .inl (V.2.1, 80, .inl pd)
  | _ => .inr (4, [.ref (g 0), .int (nI a), .int kd, .int nu, .int mo])
def zqW (V : zV) (g : Nat → Nat) (n : Nat) (pd : Nat → Int32) (a : Nat) (kd nu mo : Int32) : va_W := zWd 3 g (zqE V g n pd a kd nu mo)
section ZQ
variable {p : Program} {l : Launch} {e : Env} {R : Room} {s : State} {m : MethodId} {args : Array Value} {below : List Frame} {meth : Method} {c : Code} {H : Heap} {locs : List Loc} {cells slots : Nat} {Q : State → Prop}
variable {V : zV} {g : Nat → Nat} {n : Nat} {pd : Nat → Int32} {a : Nat} {kd nu mo : Int32}
theorem zq_c0 (V : zV) (g : Nat → Nat) (n : Nat) (pd : Nat → Int32) (a : Nat) (kd nu mo : Int32) : (zqW V g n pd a kd nu mo)[0]? = some (g 0, .inr (3, [.ref (g 1), .int (nI n)])) := zWd_at (by decide)
theorem zq_c1 (V : zV) (g : Nat → Nat) (n : Nat) (pd : Nat → Int32) (a : Nat) (kd nu mo : Int32) : (zqW V g n pd a kd nu mo)[1]? = some (g 1, .inl (V.2.1, 80, .inl pd)) := zWd_at (by decide)
theorem zq_c2 (V : zV) (g : Nat → Nat) (n : Nat) (pd : Nat → Int32) (a : Nat) (kd nu mo : Int32) : (zqW V g n pd a kd nu mo)[2]? = some (g 2, .inr (4, [.ref (g 0), .int (nI a), .int kd, .int nu, .int mo])) := zWd_at (by decide)
theorem zq_p (hP : va_P V.1 vwCl (zqW V g n pd a kd nu mo) H) : va_at V.1 vwCl (g 0, .inr (3, [.ref (g 1), .int (nI n)])) H := zP_at hP (p := 0) (by decide)
theorem zq_s (hP : va_P V.1 vwCl (zqW V g n pd a kd nu mo) H) : va_at V.1 vwCl (g 1, .inl (V.2.1, 80, .inl pd)) H := zP_at hP (p := 1) (by decide)
theorem zq_r (hP : va_P V.1 vwCl (zqW V g n pd a kd nu mo) H) : va_at V.1 vwCl (g 2, .inr (4, [.ref (g 0), .int (nI a), .int kd, .int nu, .int mo])) H := zP_at hP (p := 2) (by decide)
theorem zq_rp (hE : zE V s) (hP : va_P V.1 vwCl (zqW V g n pd a kd nu mo) H) : ∃ cell : Cell, H[g 0]? = some cell ∧ cell.vm.isStatics = false ∧ s.vm.findClass RX3 = some cell.cls := va_recv hE.1 hP (ci := 3) (q0 := 0) (q := (RX3, TX3, 2)) rfl (zq_c0 V g n pd a kd nu mo)
theorem zq_rr (hE : zE V s) (hP : va_P V.1 vwCl (zqW V g n pd a kd nu mo) H) : ∃ cell : Cell, H[g 2]? = some cell ∧ cell.vm.isStatics = false ∧ s.vm.findClass RX4 = some cell.cls := va_recv hE.1 hP (ci := 4) (q0 := 2) (q := (RX4, TX4, 5)) rfl (zq_c2 V g n pd a kd nu mo)
theorem zq_s0 (n' : Nat) : (zqW V g n pd a kd nu mo).set 0 (g 0, .inr (3, [.ref (g 1), .int (nI n')])) = zqW V g n' pd a kd nu mo :=
  zWd_set (by decide) rfl (fun q _ hne => by
    match q, hne with
    | 0, h => exact absurd rfl h
    | 1, _ => rfl
    | q + 2, _ => rfl)
theorem zq_s1 (pd' : Nat → Int32) : (zqW V g n pd a kd nu mo).set 1 (g 1, .inl (V.2.1, 80, .inl pd')) = zqW V g n pd' a kd nu mo :=
  zWd_set (by decide) rfl (fun q _ hne => by
    match q, hne with
    | 0, _ => rfl
    | 1, h => exact absurd rfl h
    | q + 2, _ => rfl)
theorem zq_s2 (a' : Nat) (kd' nu' mo' : Int32) : (zqW V g n pd a kd nu mo).set 2 (g 2, .inr (4, [.ref (g 0), .int (nI a'), .int kd', .int nu', .int mo'])) = zqW V g n pd a' kd' nu' mo' :=
  zWd_set (by decide) rfl (fun q hq hne => by
    match q, hq, hne with
    | 0, _, _ => rfl
    | 1, _, _ => rfl
    | 2, _, h => exact absurd rfl h
    | q + 3, h, _ => exact absurd h (by omega))
end ZQ
theorem zq_x {V : zV} {g : Nat → Nat} {n : Nat} {pd : Nat → Int32} {a : Nat} {kd nu mo : Int32} {H : Heap} (pd' : Nat → Int32) (h : ∀ j, j < 80 → pd j = pd' j) (hP : va_P V.1 vwCl (zqW V g n pd a kd nu mo) H) : va_P V.1 vwCl (zqW V g n pd' a kd nu mo) H := by
  refine zP_mk (fun q hq => ?_)
  have h1 := zP_at hP hq
  match q, hq, h1 with
  | 0, _, h1 => exact h1
  | 1, _, h1 => exact z_atx h1 h
  | 2, _, h1 => exact h1
  | q + 3, h, _ => exact absurd h (by omega)
abbrev rDig (pd : Nat → Int32) (n a : Nat) : Prop := 48 ≤ mSg pd n a ∧ mSg pd n a ≤ 57
def rNum (pd : Nat → Int32) (n a : Nat) (nu : Int32) : Nat × Int32 := if rDig pd n a then (if ¬ mSg pd n a - 48 = 0 ∧ rDig pd n (a + 1) then (a + 2, (mSg pd n a - 48) * 10 + (mSg pd n (a + 1) - 48)) else (a + 1, mSg pd n a - 48)) else (a, nu)
abbrev rSort (pd : Nat → Int32) (n a : Nat) : Prop := mSg pd n a = 114 ∨ mSg pd n a = 119
abbrev rSign (pd : Nat → Int32) (n a : Nat) : Prop := mSg pd n a = 114 ∨ mSg pd n a = 119 ∨ mSg pd n a = 115 ∨ mSg pd n a = 116
/-- an order is read: is it one, where the reading stands then, its number, how many more -/
def rTok (pd : Nat → Int32) (n a : Nat) (nu : Int32) : Bool × Nat × Int32 × Int32 :=
  if rSign pd n a then
    (if rDig pd n (a + 1) then
      (if rSort pd n a ∧ mSg pd n (rNum pd n (a + 1) nu).1 = 43 then
        (if rDig pd n ((rNum pd n (a + 1) nu).1 + 1) then (true, (rNum pd n (a + 1) nu).1 + 2, (rNum pd n (a + 1) nu).2, mSg pd n ((rNum pd n (a + 1) nu).1 + 1) - 48)
        else (false, (rNum pd n (a + 1) nu).1 + 1, (rNum pd n (a + 1) nu).2, 0))
      else (true, (rNum pd n (a + 1) nu).1, (rNum pd n (a + 1) nu).2, 0))
    else (false, a + 1, nu, 0))
  else (false, a, nu, 0)
theorem mSg_dig {pd : Nat → Int32} {n a : Nat} : rDig pd n a ↔ a < n ∧ (48 ≤ pd a ∧ pd a ≤ 57) := by
  unfold rDig mSg
  constructor
  · intro h
    by_cases q : a < n
    · rw [if_pos q] at h
      exact ⟨q, h⟩
    · rw [if_neg q] at h
      exact absurd h.1 (by decide)
  · intro h
    rw [if_pos h.1]
    exact h.2
theorem mSg_is {pd : Nat → Int32} {n a : Nat} {x : Int32} (hx : x ≠ 0) : mSg pd n a = x ↔ a < n ∧ (x ≤ pd a ∧ pd a ≤ x) := by
  unfold mSg
  constructor
  · intro h
    by_cases q : a < n
    · rw [if_pos q] at h
      exact ⟨q, by rw [h, Int32.le_iff_toInt_le]; exact Int.le_refl _, by rw [h, Int32.le_iff_toInt_le]; exact Int.le_refl _⟩
    · rw [if_neg q] at h
      exact absurd h.symm hx
  · intro h
    rw [if_pos h.1]
    have h1 := h.2.1
    have h2 := h.2.2
    rw [Int32.le_iff_toInt_le] at h1 h2
    exact Int32.toInt_inj.mp (by omega)
theorem z_and8 (c : Int64) : (c &&& 255).toInt32 = c.toInt32 &&& 255 := Int64.toInt32_and c 255
theorem z_am1 (x : Int32) : x + Int32.ofInt (-1) = x - 1 := by
  rw [Int32.sub_eq_add_neg]
  exact congrArg (fun y => x + y) (by decide)
def kSigns (c : Int64) : Nat := if mPn c < 8 ∧ ¬ mLeft c (mPn c) = 0 then 0 else mPn c
theorem mLeft_n (c : Int64) : ∀ i, (mLeft c i).toUInt64.toNat = c.toUInt64.toNat >>> (8 * i)
  | 0 => rfl
  | i + 1 => by
    show (((mLeft c i).toUInt64 >>> ((8 : Int32).toInt64.toUInt64 &&& Int64.toUInt64 63)).toInt64).toUInt64.toNat = _
    rw [UInt64.toUInt64_toInt64, UInt64.toNat_shiftRight, mLeft_n c i, show ((8 : Int32).toInt64.toUInt64 &&& Int64.toUInt64 63).toNat % 64 = 8 by decide, ← Nat.shiftRight_add]
    rfl
theorem mLeft_sh (c : Int64) {i : Nat} (hi : i < 8) : (c.toUInt64 >>> ((nI (i * 8)).toInt64.toUInt64 &&& Int64.toUInt64 63)).toInt64 = mLeft c i := by
  have e : ((nI (i * 8)).toInt64.toUInt64 &&& Int64.toUInt64 63).toNat % 64 = 8 * i := by
    rcases (show i = 0 ∨ i = 1 ∨ i = 2 ∨ i = 3 ∨ i = 4 ∨ i = 5 ∨ i = 6 ∨ i = 7 by omega) with rfl | rfl | rfl | rfl | rfl | rfl | rfl | rfl <;> decide
  have h1 : ((c.toUInt64 >>> ((nI (i * 8)).toInt64.toUInt64 &&& Int64.toUInt64 63)).toInt64).toUInt64.toNat = (mLeft c i).toUInt64.toNat := by
    rw [UInt64.toUInt64_toInt64, UInt64.toNat_shiftRight, e, mLeft_n]
  have h2 := UInt64.toNat_inj.mp h1
  exact congrArg UInt64.toInt64 h2
set_option maxHeartbeats 4000000 in
set_option maxRecDepth 100000 in
theorem c_X3_signAt (l : Launch) (V : zV) (g : Nat → Nat) (n : Nat) (pd : Nat → Int32) (a : Nat) (kd nu mo : Int32) (k : Nat) (h80 : n ≤ 80) (hk : k < 2 ^ 31) : Met l yX3_signAt wsX3_signAt (zR 1 0 0) (zPc V [.ref (g 0), .int (nI k)] (fun H => va_P V.1 vwCl (zqW V g n pd a kd nu mo) H)) (vp_Si (fun r => r = (mSg pd n k))) 0 0 (fun _ => False) := by
  refine Met.ofW (cc := cX3_signAt) (maxL := 2) (ret := (some .int)) (by decide) rfl ?_
  intro p e s m args below meth c s₁ B hml hv
  obtain ⟨rfl, hP, hE⟩ := hv
  have hx := B.exec
  have hb := B.bytes
  have hr := B.returns
  have hts := atoms_spec (ws := wsX3_signAt) B.pre
  have hown : s.vm.findClass RX3 = some m.cls := findClass_of_methodNamed B.named
  have hlocks := B.notSynchronized
  have hl := lv_entry ([.ref (g 0), .int (nI k)]) (n := 2) (Nat.le_of_ble_eq_true rfl)
  rw [lg_entry_eq]
  generalize (lg_sl ([.ref (g 0), .int (nI k)]) ++ List.replicate (2 - (lg_sl ([.ref (g 0), .int (nI k)])).length) Slot.unset).toArray = ls at hl ⊢
  have hl : lv_has ls 2 [(0, .ref (g 0)), (1, .int (nI k))] := hl
  refine lv_iload_n hx hb dX3_signAt_0 rfl (lv_at hl 1 rfl) ?_
  refine lv_aload_n hx hb dX3_signAt_1 rfl (lv_at hl 0 rfl) ?_
  refine zo_get 1 (.int (nI n)) hx hb hts (fun x h => List.mem_cons_of_mem _ (hU_X3 x h)) hown hE (zq_p hP) (show vwCl[3]? = some (RX3, TX3, 2) from rfl) (by decide) rfl (hts _ (List.mem_cons_of_mem _ uC_186)) (fun _ h9 => h9) dX3_signAt_2 ?_
  refine zb_ge (x := k) (y := n) (tgt := 19) hx hb dX3_signAt_5 (by decide) (by omega) (by omega) (fun c_5 => ?_) (fun c_5 => ?_)
  · refine lv_iconst (v := 0) hx hb dX3_signAt_19 (by decide +kernel) ?_
    exact zr_si hx hb hr hlocks ((if_neg (by omega)).symm) dX3_signAt_20
  · refine lv_aload_n hx hb dX3_signAt_8 rfl (lv_at hl 0 rfl) ?_
    refine zo_get 0 (.ref (g 1)) hx hb hts (fun x h => List.mem_cons_of_mem _ (hU_X3 x h)) hown hE (zq_p hP) (show vwCl[3]? = some (RX3, TX3, 2) from rfl) (by decide) rfl (hts _ (List.mem_cons_of_mem _ uC_184)) (fun _ h9 => h9) dX3_signAt_9 ?_
    refine lv_iload_n hx hb dX3_signAt_12 rfl (lv_at hl 1 rfl) ?_
    refine zc_se (va_runSN (As := [.ref (g 1), .int (nI k)]) (rest := []) ⟨hx, hb, hml, hown, hts⟩ (c_X7_valueAt l V (g 1) 80 pd (nI k) (by first | decide | omega)) ⟨va_cnB 2 hts (zgB_ wsC_all uC_54) rfl rfl rfl (hE.2 (.methodLinkNest RX3 19 yX7_valueAt "DrawerSlips") (List.mem_of_getElem? (i := 79) rfl)) (hts _ (List.mem_cons_of_mem _ uC_25)) (by decide +kernel) ⟨Nat.le_of_ble_eq_true rfl, Nat.le_of_ble_eq_true rfl⟩, (hts _ (List.mem_cons_of_mem _ uC_57)), trivial⟩ (zPsS (B := fun U => zRd U U.heap (g 1) 80 pd) (fun _ _ _ _ h => zRd_calling h) (fun U hU hvm => by rw [hU]; exact zRd.moved hvm (zRd_of hE (zq_s hP))) hE) rfl rfl hl.1 rfl (lv_room (Nat.le_of_ble_eq_true rfl)) dX3_signAt_13 ⟨Nat.le_of_ble_eq_true rfl, Nat.le_of_ble_eq_true rfl⟩) ?_
    refine zt_i (z_vat (f := pd) (k := k) (n := 80) (by omega) (by first | decide | omega)) ?_
    refine lv_goto (tgt := 20) hx hb dX3_signAt_16 (by decide) ?_
    exact zr_si hx hb hr hlocks ((if_pos c_5).symm) dX3_signAt_20
set_option maxHeartbeats 4000000 in
set_option maxRecDepth 100000 in
theorem c_X3_signsIn (l : Launch) (V : zV) (c_ : Int64) : Met l yX3_signsIn wsX3_signsIn (zR 0 0 0) (zPc V [.long c_] (fun H => True)) (vp_Si (fun r => r = nI (kSigns c_))) 0 0 (fun _ => False) := by
  refine Met.ofW (cc := cX3_signsIn) (maxL := 6) (ret := (some .int)) (by decide) rfl ?_
  intro p e s m args below meth c s₁ B hml hv
  obtain ⟨rfl, hP, hE⟩ := hv
  have hx := B.exec
  have hb := B.bytes
  have hr := B.returns
  have hts := atoms_spec (ws := wsX3_signsIn) B.pre
  have hown : s.vm.findClass RX3 = some m.cls := findClass_of_methodNamed B.named
  have hlocks := B.notSynchronized
  have hl := lv_entry ([.long c_]) (n := 6) (Nat.le_of_ble_eq_true rfl)
  rw [lg_entry_eq]
  generalize (lg_sl ([.long c_]) ++ List.replicate (6 - (lg_sl ([.long c_])).length) Slot.unset).toArray = ls at hl ⊢
  have hl : lv_has ls 6 [(0, .long c_)] := hl
  refine lv_iconst (v := 0) hx hb dX3_signsIn_0 (by decide +kernel) ?_
  refine lv_istore_n (lv' := [(2, .int 0), (0, .long c_)]) hx hb dX3_signsIn_1 rfl hl (by decide) rfl (fun ls hl => ?_)
  refine lv_lload_n hx hb dX3_signsIn_2 rfl (lv_at hl 1 rfl) ?_
  refine lv_lstore_n (lv' := [(3, .long c_), (2, .int 0), (0, .long c_)]) hx hb dX3_signsIn_3 rfl hl (by decide) rfl (fun ls hl => ?_)
  have L_4 : ∀ (n_ i : Nat) (ls : Array Slot), i ≤ 8 → 8 + 1 ≤ i + n_ → (zFirst (fun i => decide (i = 8 ∨ mLeft c_ i = 0 ∨ ¬ (33 ≤ mCode c_ i ∧ mCode c_ i ≤ 126))) i = none) → lv_has ls 6 [(3, .long (mLeft c_ i)), (2, .int (nI i)), (0, .long c_)] → W p l e (headSpec wsX3_signsIn (zR 0 0 0)).room s m (List.toArray [.long c_]) below meth c s.heap [] 0 0 (MQ below (vp_Si (fun r => r = nI (kSigns c_))) (List.toArray [.long c_]) s 0 0 (fun _ => False)) (F0 m 4 ls []) := by
    intro n_
    induction n_ with
    | zero => intro i   ls hi_ hn_; exact absurd hn_ (by omega)
    | succ n_ ih =>
      intro i   ls hi_ hn_ hno  hl
      refine lv_lload_n hx hb dX3_signsIn_4 rfl (lv_at hl 0 rfl) ?_
      refine lv_lconst (v := 0) hx hb dX3_signsIn_5 (by decide +kernel) ?_
      refine W.lcmp hx hb dX3_signsIn_6 ?_
      refine lv_if_eq (tgt := 51) hx hb dX3_signsIn_7 (by decide) (fun c_7 => ?_) (fun c_7 => ?_)
      · refine lv_iload_n hx hb dX3_signsIn_51 rfl (lv_at hl 1 rfl) ?_
        have e_ : mPn c_ = i := by rw [mPn, zFirst_hit hno (decide_eq_true (Or.inr (Or.inl (z_lc0.mp c_7)))) (by omega)]; rfl
        exact zr_si hx hb hr hlocks (by rw [kSigns, if_neg (show ¬ (mPn c_ < 8 ∧ ¬ mLeft c_ (mPn c_) = 0) from fun h => h.2 (by rw [e_]; exact z_lc0.mp c_7)), e_]) dX3_signsIn_52
      · refine lv_iload_n hx hb dX3_signsIn_10 rfl (lv_at hl 1 rfl) ?_
        refine lv_bipush (v := 8) hx hb dX3_signsIn_11 (by decide +kernel) ?_
        refine zb_ge (x := i) (y := 8) (tgt := 51) hx hb dX3_signsIn_13 (by decide) (by omega) (by omega) (fun c_13 => ?_) (fun c_13 => ?_)
        · refine lv_iload_n hx hb dX3_signsIn_51 rfl (lv_at hl 1 rfl) ?_
          have e_ : mPn c_ = i := by rw [mPn, zFirst_hit hno (decide_eq_true (Or.inl (by omega))) (by omega)]; rfl
          exact zr_si hx hb hr hlocks (by rw [kSigns, if_neg (show ¬ (mPn c_ < 8 ∧ ¬ mLeft c_ (mPn c_) = 0) from fun h => absurd h.1 (by omega)), e_]) dX3_signsIn_52
        · refine lv_lload_n hx hb dX3_signsIn_16 rfl (lv_at hl 0 rfl) ?_
          refine lv_l2i (v := (mLeft c_ i).toInt32) hx hb dX3_signsIn_17 rfl ?_
          refine lv_sipush (v := 255) hx hb dX3_signsIn_18 (by decide +kernel) ?_
          refine lv_iand hx hb dX3_signsIn_21 ?_
          refine lv_istore (lv' := [(5, .int (((mLeft c_ i).toInt32) &&& 255)), (3, .long (mLeft c_ i)), (2, .int (nI i)), (0, .long c_)]) hx hb dX3_signsIn_22 hl (by decide) rfl (fun ls hl => ?_)
          refine lv_iload hx hb dX3_signsIn_24 (lv_at hl 0 rfl) ?_
          refine lv_bipush (v := 33) hx hb dX3_signsIn_26 (by decide +kernel) ?_
          refine lv_icmp_lt (tgt := 38) hx hb dX3_signsIn_28 (by decide) (fun c_28 => ?_) (fun c_28 => ?_)
          · refine lv_iconst (v := 0) hx hb dX3_signsIn_38 (by decide +kernel) ?_
            have e_ : mPn c_ = i := by rw [mPn, zFirst_hit hno (decide_eq_true (Or.inr (Or.inr (fun h => z_lt' c_28 (by have h1 := h.1; rw [mCode, z_and8] at h1; exact h1))))) (by omega)]; rfl
            exact zr_si hx hb hr hlocks (by rw [kSigns, if_pos (show mPn c_ < 8 ∧ ¬ mLeft c_ (mPn c_) = 0 from ⟨by rw [e_]; omega, by rw [e_]; exact fun q => c_7 (z_lc0.mpr q)⟩)]; rfl) dX3_signsIn_39
          · refine lv_iload hx hb dX3_signsIn_31 (lv_at hl 0 rfl) ?_
            refine lv_bipush (v := 126) hx hb dX3_signsIn_33 (by decide +kernel) ?_
            refine lv_icmp_le (tgt := 40) hx hb dX3_signsIn_35 (by decide) (fun c_35 => ?_) (fun c_35 => ?_)
            · refine lv_iinc (v := nI (i + 1)) (lv' := [(2, .int (nI (i + 1))), (5, .int (((mLeft c_ i).toInt32) &&& 255)), (3, .long (mLeft c_ i)), (0, .long c_)]) hx hb dX3_signsIn_40 hl (k := 2) rfl (z_inc1 i) (by decide) rfl (fun ls hl => ?_)
              refine lv_lload_n hx hb dX3_signsIn_43 rfl (lv_at hl 2 rfl) ?_
              refine lv_bipush (v := 8) hx hb dX3_signsIn_44 (by decide +kernel) ?_
              refine lv_lushr (v := ((mLeft c_ i).toUInt64 >>> ((8 : Int32).toInt64.toUInt64 &&& Int64.toUInt64 63)).toInt64) hx hb dX3_signsIn_46 rfl ?_
              refine lv_lstore_n (lv' := [(3, .long (((mLeft c_ i).toUInt64 >>> ((8 : Int32).toInt64.toUInt64 &&& Int64.toUInt64 63)).toInt64)), (2, .int (nI (i + 1))), (5, .int (((mLeft c_ i).toInt32) &&& 255)), (0, .long c_)]) hx hb dX3_signsIn_47 rfl hl (by decide) rfl (fun ls hl => ?_)
              refine lv_goto (tgt := 4) hx hb dX3_signsIn_48 (by decide) ?_
              exact ih (i + 1) ls (by omega) (by omega) (zFirst_no hno (decide_eq_false (fun h => h.elim (by omega) (fun h => h.elim (fun q => c_7 (z_lc0.mpr q)) (fun q => q ⟨by rw [mCode, z_and8]; exact z_nlt c_28, by rw [mCode, z_and8]; exact c_35⟩))))) (lv_sub hl [0, 1, 3] rfl)
            · refine lv_iconst (v := 0) hx hb dX3_signsIn_38 (by decide +kernel) ?_
              have e_ : mPn c_ = i := by rw [mPn, zFirst_hit hno (decide_eq_true (Or.inr (Or.inr (fun h => c_35 (by have h1 := h.2; rw [mCode, z_and8] at h1; exact h1))))) (by omega)]; rfl
              exact zr_si hx hb hr hlocks (by rw [kSigns, if_pos (show mPn c_ < 8 ∧ ¬ mLeft c_ (mPn c_) = 0 from ⟨by rw [e_]; omega, by rw [e_]; exact fun q => c_7 (z_lc0.mpr q)⟩)]; rfl) dX3_signsIn_39
  exact L_4 (8 + 1) 0 ls (by omega) (by omega) rfl (lv_sub hl [0, 1, 2] rfl)
theorem kSigns_le (c : Int64) : kSigns c ≤ 8 := by
  unfold kSigns
  split
  · omega
  · unfold mPn
    cases h : zFirst (fun i => decide (i = 8 ∨ mLeft c i = 0 ∨ ¬ (33 ≤ mCode c i ∧ mCode c i ≤ 126))) 9 with
    | none => simp
    | some k => have := (zFirst_lt h).1; simp; omega
set_option maxHeartbeats 4000000 in
set_option maxRecDepth 100000 in
theorem c_X3_add (l : Launch) (V : zV) (g : Nat → Nat) (n : Nat) (pd : Nat → Int32) (a : Nat) (kd nu mo : Int32) (x : Int32) (hJ : zInj 3 g) (hn80 : n < 80) : Met l yX3_add wsX3_add (zR 1 0 0) (zPc V [.ref (g 0), .int x] (fun H => va_P V.1 vwCl (zqW V g n pd a kd nu mo) H)) (zQv (fun H => va_P V.1 vwCl (zqW V g (n + 1) (upd pd n x) a kd nu mo) H) (zIn 3 g)) 0 0 (zIn 3 g) := by
  refine Met.ofW (cc := cX3_add) (maxL := 2) (ret := none) (by decide) rfl ?_
  intro p e s m args below meth c s₁ B hml hv
  obtain ⟨rfl, hP, hE⟩ := hv
  have hx := B.exec
  have hb := B.bytes
  have hr := B.returns
  have hts := atoms_spec (ws := wsX3_add) B.pre
  have hown : s.vm.findClass RX3 = some m.cls := findClass_of_methodNamed B.named
  have hlocks := B.notSynchronized
  have hl := lv_entry ([.ref (g 0), .int x]) (n := 2) (Nat.le_of_ble_eq_true rfl)
  rw [lg_entry_eq]
  generalize (lg_sl ([.ref (g 0), .int x]) ++ List.replicate (2 - (lg_sl ([.ref (g 0), .int x])).length) Slot.unset).toArray = ls at hl ⊢
  have hl : lv_has ls 2 [(0, .ref (g 0)), (1, .int x)] := hl
  have hS : va_S (zIn 3 g) s.heap s.heap [] := va_S.rf
  refine lv_aload_n hx hb dX3_add_0 rfl (lv_at hl 0 rfl) ?_
  refine zo_get 0 (.ref (g 1)) hx hb hts (fun x h => List.mem_cons_of_mem _ (hU_X3 x h)) hown hE (zq_p hP) (show vwCl[3]? = some (RX3, TX3, 2) from rfl) (by decide) rfl (hts _ (List.mem_cons_of_mem _ uC_184)) (fun _ h9 => h9) dX3_add_1 ?_
  refine lv_aload_n hx hb dX3_add_4 rfl (lv_at hl 0 rfl) ?_
  refine zo_get 1 (.int (nI n)) hx hb hts (fun x h => List.mem_cons_of_mem _ (hU_X3 x h)) hown hE (zq_p hP) (show vwCl[3]? = some (RX3, TX3, 2) from rfl) (by decide) rfl (hts _ (List.mem_cons_of_mem _ uC_186)) (fun _ h9 => h9) dX3_add_5 ?_
  refine zc_se (va_runSN (As := [.ref (g 1), .int (nI n)]) (rest := []) ⟨hx, hb, hml, hown, hts⟩ (c_X7_isIndexOf l V (g 1) 80 pd (nI n) (by first | decide | omega)) ⟨va_cnB 2 hts (zgB_ wsC_all uC_53) rfl rfl rfl (hE.2 (.methodLinkNest RX3 31 yX7_isIndexOf "DrawerSlips") (List.mem_of_getElem? (i := 75) rfl)) (hts _ (List.mem_cons_of_mem _ uC_25)) (by decide +kernel) ⟨Nat.le_of_ble_eq_true rfl, Nat.le_of_ble_eq_true rfl⟩, (hts _ (List.mem_cons_of_mem _ uC_56)), trivial⟩ (zPsS (B := fun U => zRd U U.heap (g 1) 80 pd) (fun _ _ _ _ h => zRd_calling h) (fun U hU hvm => by rw [hU]; exact zRd.moved hvm (zRd_of hE (zq_s hP))) hE) rfl rfl hl.1 rfl (lv_room (Nat.le_of_ble_eq_true rfl)) dX3_add_8 ⟨Nat.le_of_ble_eq_true rfl, Nat.le_of_ble_eq_true rfl⟩) ?_
  refine zbp_eq (P := 0 ≤ nI n ∧ nI n < nI 80) (tgt := 34) hx hb dX3_add_11 (by decide) (fun c_11 => ?_) (fun c_11 => ?_)
  · exact absurd (show 0 ≤ nI n ∧ nI n < nI 80 from ⟨nI_pos' (by omega), nI_lt hn80 (by decide)⟩) c_11
  · refine lv_aload_n hx hb dX3_add_14 rfl (lv_at hl 0 rfl) ?_
    refine zo_get 0 (.ref (g 1)) hx hb hts (fun x h => List.mem_cons_of_mem _ (hU_X3 x h)) hown hE (zq_p hP) (show vwCl[3]? = some (RX3, TX3, 2) from rfl) (by decide) rfl (hts _ (List.mem_cons_of_mem _ uC_184)) (fun _ h9 => h9) dX3_add_15 ?_
    refine lv_aload_n hx hb dX3_add_18 rfl (lv_at hl 0 rfl) ?_
    refine zo_get 1 (.int (nI n)) hx hb hts (fun x h => List.mem_cons_of_mem _ (hU_X3 x h)) hown hE (zq_p hP) (show vwCl[3]? = some (RX3, TX3, 2) from rfl) (by decide) rfl (hts _ (List.mem_cons_of_mem _ uC_186)) (fun _ h9 => h9) dX3_add_19 ?_
    refine lv_iload_n hx hb dX3_add_22 rfl (lv_at hl 1 rfl) ?_
    refine z_iast (k := n) hx hb hE hP (zD hJ) hS 1 (zq_c1 V g n pd a kd nu mo) (by omega) (by decide) dX3_add_23 (fun H locs hP hS => ?_)
    rw [zq_s1] at hP
    have hP : va_P V.1 vwCl (zqW V g n (upd pd n x) a kd nu mo) H := hP
    refine lv_aload_n hx hb dX3_add_24 rfl (lv_at hl 0 rfl) ?_
    refine lv_dup hx hb dX3_add_25 rfl ?_
    refine zo_get 1 (.int (nI n)) hx hb hts (fun x h => List.mem_cons_of_mem _ (hU_X3 x h)) hown hE (zq_p hP) (show vwCl[3]? = some (RX3, TX3, 2) from rfl) (by decide) rfl (hts _ (List.mem_cons_of_mem _ uC_186)) (fun _ h9 => h9) dX3_add_26 ?_
    refine lv_iconst (v := 1) hx hb dX3_add_29 (by decide +kernel) ?_
    refine lv_iadd hx hb dX3_add_30 ?_
    refine zt_i (z_add (a := n) (b := 1) (by first | rfl | omega)) ?_
    refine zo_put (p0 := 0) 1 (.int (nI (n + 1))) .int hx hb hts (fun x h => List.mem_cons_of_mem _ (hU_X3 x h)) tyX3 tyX3_ok nmX3 hown hE hP (zD hJ) hS (zq_c0 V g n (upd pd n x) a kd nu mo) (show vwCl[3]? = some (RX3, TX3, 2) from rfl) (by decide) (Nat.le_of_ble_eq_true rfl) rfl (by decide +kernel) rfl rfl (hts _ (List.mem_cons_of_mem _ uC_186)) (fun _ h9 => h9) dX3_add_31 (fun H locs hP hS => ?_)
    have hP : va_P V.1 vwCl (zqW V g (n + 1) (upd pd n x) a kd nu mo) H := (zq_s0 (V := V) (g := g) (n + 1)) ▸ hP
    exact zr_v hx hb hr hlocks hS hP dX3_add_34
def kPutR (n : Nat) (c : Int64) : Int32 := if kSigns c = 0 then -2 else if 80 < n + kSigns c then -4 else nI (n + kSigns c)
def kPut (pd : Nat → Int32) (n : Nat) (c : Int64) : (Nat → Int32) × Nat := if kSigns c = 0 ∨ 80 < n + kSigns c then (pd, n) else (fun j => if n ≤ j ∧ j < n + kSigns c then mCode c (kSigns c - 1 - (j - n)) else pd j, n + kSigns c)
set_option maxHeartbeats 4000000 in
set_option maxRecDepth 100000 in
theorem c_X3_append (l : Launch) (V : zV) (g : Nat → Nat) (n : Nat) (pd : Nat → Int32) (a : Nat) (kd nu mo : Int32) (c_ : Int64) (hJ : zInj 3 g) (h80 : n ≤ 80) : Met l yX3_append wsX3_append (zR 2 0 0) (zPc V [.ref (g 0), .long c_] (fun H => va_P V.1 vwCl (zqW V g n pd a kd nu mo) H)) (zQi (fun r H => r = (kPutR n c_) ∧ (va_P V.1 vwCl (zqW V g ((kPut pd n c_).2) ((kPut pd n c_).1) a kd nu mo) H)) (zIn 3 g)) 0 0 (zIn 3 g) := by
  refine Met.ofW (cc := cX3_append) (maxL := 5) (ret := (some .int)) (by decide) rfl ?_
  intro p e s m args below meth c s₁ B hml hv
  obtain ⟨rfl, hP, hE⟩ := hv
  have hx := B.exec
  have hb := B.bytes
  have hr := B.returns
  have hts := atoms_spec (ws := wsX3_append) B.pre
  have hown : s.vm.findClass RX3 = some m.cls := findClass_of_methodNamed B.named
  have hlocks := B.notSynchronized
  have hl := lv_entry ([.ref (g 0), .long c_]) (n := 5) (Nat.le_of_ble_eq_true rfl)
  rw [lg_entry_eq]
  generalize (lg_sl ([.ref (g 0), .long c_]) ++ List.replicate (5 - (lg_sl ([.ref (g 0), .long c_])).length) Slot.unset).toArray = ls at hl ⊢
  have hl : lv_has ls 5 [(0, .ref (g 0)), (1, .long c_)] := hl
  have hS : va_S (zIn 3 g) s.heap s.heap [] := va_S.rf
  have hk8 := kSigns_le c_
  refine lv_lload_n hx hb dX3_append_0 rfl (lv_at hl 1 rfl) ?_
  refine zc_se (va_runS (As := [.long c_]) (rest := []) ⟨hx, hb, hml, hown, hts⟩ (c_X3_signsIn l V c_) (va_cwS 1 hts (zgS_ wsC_all uC_187 uC_190 uC_191 uC_192) rfl rfl rfl (by decide +kernel) ⟨Nat.le_of_ble_eq_true rfl, Nat.le_of_ble_eq_true rfl⟩) (zPreS (B := fun _ => True) trivial hE) rfl rfl hl.1 rfl (lv_room (Nat.le_of_ble_eq_true rfl)) dX3_append_1 ⟨Nat.le_of_ble_eq_true rfl, Nat.le_of_ble_eq_true rfl⟩) ?_
  refine lv_istore_n (lv' := [(3, .int (nI (kSigns c_))), (0, .ref (g 0)), (1, .long c_)]) hx hb dX3_append_4 rfl hl (by decide) rfl (fun ls hl => ?_)
  refine lv_iload_n hx hb dX3_append_5 rfl (lv_at hl 0 rfl) ?_
  refine zb0_ne (x := kSigns c_) (tgt := 12) hx hb dX3_append_6 (by decide) (by omega) (fun c_6 => ?_) (fun c_6 => ?_)
  · refine lv_aload_n hx hb dX3_append_12 rfl (lv_at hl 1 rfl) ?_
    refine zo_get 1 (.int (nI n)) hx hb hts (fun x h => List.mem_cons_of_mem _ (hU_X3 x h)) hown hE (zq_p hP) (show vwCl[3]? = some (RX3, TX3, 2) from rfl) (by decide) rfl (hts _ (List.mem_cons_of_mem _ uC_186)) (fun _ h9 => h9) dX3_append_13 ?_
    refine lv_iload_n hx hb dX3_append_16 rfl (lv_at hl 0 rfl) ?_
    refine lv_iadd hx hb dX3_append_17 ?_
    refine zt_i (z_add (a := n) (b := kSigns c_) (by first | rfl | omega)) ?_
    refine lv_bipush (v := 80) hx hb dX3_append_18 (by decide +kernel) ?_
    refine zb_le (x := n + (kSigns c_)) (y := 80) (tgt := 26) hx hb dX3_append_20 (by decide) (by omega) (by omega) (fun c_20 => ?_) (fun c_20 => ?_)
    · refine lv_iload_n hx hb dX3_append_26 rfl (lv_at hl 0 rfl) ?_
      refine lv_iconst (v := 1) hx hb dX3_append_27 (by decide +kernel) ?_
      refine lv_isub hx hb dX3_append_28 ?_
      refine zt_i (z_sub (a := kSigns c_) (b := 1) (by omega) (by first | rfl | omega)) ?_
      refine lv_istore (lv' := [(4, .int (nI (kSigns c_ - 1))), (3, .int (nI (kSigns c_))), (0, .ref (g 0)), (1, .long c_)]) hx hb dX3_append_29 hl (by decide) rfl (fun ls hl => ?_)
      have hl : lv_has ls 5 [(4, .int (nI (kSigns c_ - 0) - 1)), (3, .int (nI (kSigns c_))), (0, .ref (g 0)), (1, .long c_)] := by rw [show nI (kSigns c_ - 0) - 1 = nI (kSigns c_ - 1) from (show nI (kSigns c_) - nI 1 = _ from z_sub (by omega) rfl)]; exact hl
      have L_31 : ∀ (n_ i : Nat) (q_ : Nat → Int32) (H : Heap) (locs : List Loc) (ls : Array Slot), i ≤ kSigns c_ → kSigns c_ + 1 ≤ i + n_ → (q_ = fun j => if n ≤ j ∧ j < n + i then mCode c_ (kSigns c_ - 1 - (j - n)) else pd j) → va_P V.1 vwCl (zqW V g (n + i) q_ a kd nu mo) H → va_S (zIn 3 g) s.heap H locs → lv_has ls 5 [(4, .int (nI (kSigns c_ - i) - 1)), (3, .int (nI (kSigns c_))), (0, .ref (g 0)), (1, .long c_)] → W p l e (headSpec wsX3_append (zR 2 0 0)).room s m (List.toArray [.ref (g 0), .long c_]) below meth c H locs 0 0 (MQ below (zQi (fun r H => r = (kPutR n c_) ∧ (va_P V.1 vwCl (zqW V g ((kPut pd n c_).2) ((kPut pd n c_).1) a kd nu mo) H)) (zIn 3 g)) (List.toArray [.ref (g 0), .long c_]) s 0 0 (zIn 3 g)) (F0 m 31 ls []) := by
        intro n_
        induction n_ with
        | zero => intro i q_ H locs ls hi_ hn_; exact absurd hn_ (by omega)
        | succ n_ ih =>
          intro i q_ H locs ls hi_ hn_ eq_ hP hS hl
          refine lv_iload hx hb dX3_append_31 (lv_at hl 0 rfl) ?_
          rcases Nat.lt_or_ge i (kSigns c_) with hlt_ | hge_
          · refine zt_i (y := nI (kSigns c_ - 1 - i)) (show nI (kSigns c_ - i) - nI 1 = _ from z_sub (by omega) (by omega)) ?_
            have hl : lv_has ls 5 [(4, .int (nI (kSigns c_ - 1 - i))), (3, .int (nI (kSigns c_))), (0, .ref (g 0)), (1, .long c_)] := by rw [show nI (kSigns c_ - i) - 1 = nI (kSigns c_ - 1 - i) from (show nI (kSigns c_ - i) - nI 1 = _ from z_sub (by omega) (by omega))] at hl; exact hl
            refine zb0_lt (x := kSigns c_ - 1 - i) (tgt := 58) hx hb dX3_append_33 (by decide) (by omega) (fun c_33 => ?_) (fun c_33 => ?_)
            · exact c_33.elim
            · refine lv_aload_n hx hb dX3_append_36 rfl (lv_at hl 2 rfl) ?_
              refine lv_lload_n hx hb dX3_append_37 rfl (lv_at hl 3 rfl) ?_
              refine lv_iload hx hb dX3_append_38 (lv_at hl 0 rfl) ?_
              refine lv_bipush (v := 8) hx hb dX3_append_40 (by decide +kernel) ?_
              refine lv_imul hx hb dX3_append_42 ?_
              refine zt_i (z_mul (a := kSigns c_ - 1 - i) (b := 8) (by first | rfl | omega)) ?_
              refine lv_lushr (v := (c_.toUInt64 >>> ((nI ((kSigns c_ - 1 - i) * 8)).toInt64.toUInt64 &&& Int64.toUInt64 63)).toInt64) hx hb dX3_append_43 rfl ?_
              refine lv_l2i (v := ((c_.toUInt64 >>> ((nI ((kSigns c_ - 1 - i) * 8)).toInt64.toUInt64 &&& Int64.toUInt64 63)).toInt64).toInt32) hx hb dX3_append_44 rfl ?_
              refine lv_sipush (v := 255) hx hb dX3_append_45 (by decide +kernel) ?_
              refine lv_iand hx hb dX3_append_48 ?_
              refine zt_i (y := mCode c_ (kSigns c_ - 1 - i)) (by rw [mLeft_sh c_ (by omega), ← z_and8]; rfl) ?_
              refine zc_v (va_runV (As := [.int (mCode c_ (kSigns c_ - 1 - i))]) (rest := []) ⟨hx, hb, hml, hown, hts⟩ (c_X3_add l V g (n + i) q_ a kd nu mo (mCode c_ (kSigns c_ - 1 - i)) hJ (by omega)) (cwV 1 hts (zgV_ wsC_all uC_188 uC_193 uC_194 uC_195 uC_192) rfl rfl rfl (by decide +kernel) ⟨Nat.le_of_ble_eq_true rfl, Nat.le_of_ble_eq_true rfl⟩) (zPreV (B := fun H => va_P V.1 vwCl (zqW V g (n + i) q_ a kd nu mo) H) hP hE (zq_rp hE hP)) rfl rfl hl.1 rfl (lv_room (Nat.le_of_ble_eq_true rfl)) dX3_append_49 ⟨Nat.le_of_ble_eq_true rfl, Nat.le_of_ble_eq_true rfl⟩) hS (fun _ h => h) (fun _ h => h) (fun H locs hQ_ _ _ hS => ?_)
              have hP := hQ_
              refine lv_iinc (v := nI (kSigns c_ - (i + 1)) - 1) (lv' := [(4, .int (nI (kSigns c_ - (i + 1)) - 1)), (3, .int (nI (kSigns c_))), (0, .ref (g 0)), (1, .long c_)]) hx hb dX3_append_52 hl (k := 0) rfl (by rw [show kSigns c_ - 1 - i = kSigns c_ - (i + 1) by omega]; exact z_am1 _) (by decide) rfl (fun ls hl => ?_)
              refine lv_goto (tgt := 31) hx hb dX3_append_55 (by decide) ?_
              have e_ : upd q_ (n + i) (mCode c_ (kSigns c_ - 1 - i)) = fun j => if n ≤ j ∧ j < n + (i + 1) then mCode c_ (kSigns c_ - 1 - (j - n)) else pd j := by
                rw [eq_]; funext j; simp only [upd]; by_cases h1 : j = n + i
                · subst h1; rw [if_pos rfl, if_pos ⟨by omega, by omega⟩, show n + i - n = i by omega]
                · rw [if_neg h1]; by_cases h2 : n ≤ j ∧ j < n + i
                  · rw [if_pos h2, if_pos ⟨h2.1, by omega⟩]
                  · rw [if_neg h2, if_neg (fun h => h2 ⟨h.1, by omega⟩)]
              exact ih (i + 1) (upd q_ (n + i) (mCode c_ (kSigns c_ - 1 - i))) H locs ls (by omega) (by omega) e_ hP hS (lv_sub hl [0, 1, 2, 3] rfl)
          · have hm1_ : nI (kSigns c_ - i) - 1 < 0 := by rw [show kSigns c_ - i = 0 by omega]; decide
            refine lv_if_lt (tgt := 58) hx hb dX3_append_33 (by decide) (fun c_33 => ?_) (fun c_33 => ?_)
            · refine lv_aload_n hx hb dX3_append_58 rfl (lv_at hl 2 rfl) ?_
              refine zo_get 1 (.int (nI (n + i))) hx hb hts (fun x h => List.mem_cons_of_mem _ (hU_X3 x h)) hown hE (zq_p hP) (show vwCl[3]? = some (RX3, TX3, 2) from rfl) (by decide) rfl (hts _ (List.mem_cons_of_mem _ uC_186)) (fun _ h9 => h9) dX3_append_59 ?_
              exact zr_i hx hb hr hlocks hS (⟨by rw [show kPutR n c_ = nI (n + kSigns c_) from (if_neg c_6).trans (if_neg (by omega)), show n + i = n + kSigns c_ by omega], by rw [show kPut pd n c_ = (fun j => if n ≤ j ∧ j < n + kSigns c_ then mCode c_ (kSigns c_ - 1 - (j - n)) else pd j, n + kSigns c_) from if_neg (fun h => h.elim c_6 (by omega)), show n + kSigns c_ = n + i by omega, ← eq_]; exact hP⟩) dX3_append_62
            · exact absurd hm1_ c_33
      exact L_31 (kSigns c_ + 1) 0 pd s.heap [] ls (by omega) (by omega) (by funext j; rw [if_neg (fun h => absurd h.2 (by omega))]) hP hS (lv_sub hl [0, 1, 2, 3] rfl)
    · refine lv_bipush (v := (-4)) hx hb dX3_append_23 (by decide +kernel) ?_
      exact zr_i hx hb hr hlocks hS (⟨((if_neg c_6).trans (if_pos c_20)).symm, by rw [show kPut pd n c_ = (pd, n) from if_pos (Or.inr c_20)]; exact hP⟩) dX3_append_25
  · refine lv_bipush (v := (-2)) hx hb dX3_append_9 (by decide +kernel) ?_
    exact zr_i hx hb hr hlocks hS (⟨(if_pos c_6).symm, by rw [show kPut pd n c_ = (pd, n) from if_pos (Or.inl c_6)]; exact hP⟩) dX3_append_11
set_option maxHeartbeats 4000000 in
set_option maxRecDepth 100000 in
theorem c_X3_empty (l : Launch) (V : zV) (g : Nat → Nat) (n : Nat) (pd : Nat → Int32) (a : Nat) (kd nu mo : Int32) (hJ : zInj 3 g) (h80 : n ≤ 80) : Met l yX3_empty wsX3_empty (zR 0 0 0) (zPc V [.ref (g 0)] (fun H => va_P V.1 vwCl (zqW V g n pd a kd nu mo) H)) (zQi (fun r H => r = (nI n) ∧ (va_P V.1 vwCl (zqW V g 0 pd a kd nu mo) H)) (zIn 3 g)) 0 0 (zIn 3 g) := by
  refine Met.ofW (cc := cX3_empty) (maxL := 2) (ret := (some .int)) (by decide) rfl ?_
  intro p e s m args below meth c s₁ B hml hv
  obtain ⟨rfl, hP, hE⟩ := hv
  have hx := B.exec
  have hb := B.bytes
  have hr := B.returns
  have hts := atoms_spec (ws := wsX3_empty) B.pre
  have hown : s.vm.findClass RX3 = some m.cls := findClass_of_methodNamed B.named
  have hlocks := B.notSynchronized
  have hl := lv_entry ([.ref (g 0)]) (n := 2) (Nat.le_of_ble_eq_true rfl)
  rw [lg_entry_eq]
  generalize (lg_sl ([.ref (g 0)]) ++ List.replicate (2 - (lg_sl ([.ref (g 0)])).length) Slot.unset).toArray = ls at hl ⊢
  have hl : lv_has ls 2 [(0, .ref (g 0))] := hl
  have hS : va_S (zIn 3 g) s.heap s.heap [] := va_S.rf
  refine lv_aload_n hx hb dX3_empty_0 rfl (lv_at hl 0 rfl) ?_
  refine zo_get 1 (.int (nI n)) hx hb hts (fun x h => List.mem_cons_of_mem _ (hU_X3 x h)) hown hE (zq_p hP) (show vwCl[3]? = some (RX3, TX3, 2) from rfl) (by decide) rfl (hts _ (List.mem_cons_of_mem _ uC_186)) (fun _ h9 => h9) dX3_empty_1 ?_
  refine lv_istore_n (lv' := [(1, .int (nI n)), (0, .ref (g 0))]) hx hb dX3_empty_4 rfl hl (by decide) rfl (fun ls hl => ?_)
  refine lv_aload_n hx hb dX3_empty_5 rfl (lv_at hl 1 rfl) ?_
  refine lv_iconst (v := 0) hx hb dX3_empty_6 (by decide +kernel) ?_
  refine zo_put (p0 := 0) 1 (.int 0) .int hx hb hts (fun x h => List.mem_cons_of_mem _ (hU_X3 x h)) tyX3 tyX3_ok nmX3 hown hE hP (zD hJ) hS (zq_c0 V g n pd a kd nu mo) (show vwCl[3]? = some (RX3, TX3, 2) from rfl) (by decide) (Nat.le_of_ble_eq_true rfl) rfl (by decide +kernel) rfl rfl (hts _ (List.mem_cons_of_mem _ uC_186)) (fun _ h9 => h9) dX3_empty_7 (fun H locs hP hS => ?_)
  have hP : va_P V.1 vwCl (zqW V g 0 pd a kd nu mo) H := (zq_s0 (V := V) (g := g) 0) ▸ hP
  refine lv_iload_n hx hb dX3_empty_10 rfl (lv_at hl 0 rfl) ?_
  exact zr_i hx hb hr hlocks hS (⟨rfl, hP⟩) dX3_empty_11
set_option maxHeartbeats 4000000 in
set_option maxRecDepth 100000 in
theorem c_X4_begin (l : Launch) (V : zV) (g : Nat → Nat) (n : Nat) (pd : Nat → Int32) (a : Nat) (kd nu mo : Int32) (hJ : zInj 3 g) : Met l yX4_begin wsX4_begin (zR 0 0 0) (zPc V [.ref (g 2)] (fun H => va_P V.1 vwCl (zqW V g n pd a kd nu mo) H)) (zQv (fun H => va_P V.1 vwCl (zqW V g n pd 0 kd nu mo) H) (zIn 3 g)) 0 0 (zIn 3 g) := by
  refine Met.ofW (cc := cX4_begin) (maxL := 1) (ret := none) (by decide) rfl ?_
  intro p e s m args below meth c s₁ B hml hv
  obtain ⟨rfl, hP, hE⟩ := hv
  have hx := B.exec
  have hb := B.bytes
  have hr := B.returns
  have hts := atoms_spec (ws := wsX4_begin) B.pre
  have hown : s.vm.findClass RX4 = some m.cls := findClass_of_methodNamed B.named
  have hlocks := B.notSynchronized
  have hl := lv_entry ([.ref (g 2)]) (n := 1) (Nat.le_of_ble_eq_true rfl)
  rw [lg_entry_eq]
  generalize (lg_sl ([.ref (g 2)]) ++ List.replicate (1 - (lg_sl ([.ref (g 2)])).length) Slot.unset).toArray = ls at hl ⊢
  have hl : lv_has ls 1 [(0, .ref (g 2))] := hl
  have hS : va_S (zIn 3 g) s.heap s.heap [] := va_S.rf
  refine lv_aload_n hx hb dX4_begin_0 rfl (lv_at hl 0 rfl) ?_
  refine lv_iconst (v := 0) hx hb dX4_begin_1 (by decide +kernel) ?_
  refine zo_put (p0 := 2) 1 (.int 0) .int hx hb hts (fun x h => List.mem_cons_of_mem _ (hU_X4 x h)) tyX4 tyX4_ok nmX4 hown hE hP (zD hJ) hS (zq_c2 V g n pd a kd nu mo) (show vwCl[4]? = some (RX4, TX4, 5) from rfl) (by decide) (Nat.le_of_ble_eq_true rfl) rfl (by decide +kernel) rfl rfl (hts _ (List.mem_cons_of_mem _ uC_201)) (fun _ h9 => h9) dX4_begin_2 (fun H locs hP hS => ?_)
  have hP : va_P V.1 vwCl (zqW V g n pd 0 kd nu mo) H := (zq_s2 (V := V) (g := g) 0 kd nu mo) ▸ hP
  exact zr_v hx hb hr hlocks hS hP dX4_begin_5
set_option maxHeartbeats 4000000 in
set_option maxRecDepth 100000 in
theorem c_X4_skipSemicolon (l : Launch) (V : zV) (g : Nat → Nat) (n : Nat) (pd : Nat → Int32) (a : Nat) (kd nu mo : Int32) (hJ : zInj 3 g) : Met l yX4_skipSemicolon wsX4_skipSemicolon (zR 0 0 0) (zPc V [.ref (g 2)] (fun H => va_P V.1 vwCl (zqW V g n pd a kd nu mo) H)) (zQv (fun H => va_P V.1 vwCl (zqW V g n pd (a + 1) kd nu mo) H) (zIn 3 g)) 0 0 (zIn 3 g) := by
  refine Met.ofW (cc := cX4_skipSemicolon) (maxL := 1) (ret := none) (by decide) rfl ?_
  intro p e s m args below meth c s₁ B hml hv
  obtain ⟨rfl, hP, hE⟩ := hv
  have hx := B.exec
  have hb := B.bytes
  have hr := B.returns
  have hts := atoms_spec (ws := wsX4_skipSemicolon) B.pre
  have hown : s.vm.findClass RX4 = some m.cls := findClass_of_methodNamed B.named
  have hlocks := B.notSynchronized
  have hl := lv_entry ([.ref (g 2)]) (n := 1) (Nat.le_of_ble_eq_true rfl)
  rw [lg_entry_eq]
  generalize (lg_sl ([.ref (g 2)]) ++ List.replicate (1 - (lg_sl ([.ref (g 2)])).length) Slot.unset).toArray = ls at hl ⊢
  have hl : lv_has ls 1 [(0, .ref (g 2))] := hl
  have hS : va_S (zIn 3 g) s.heap s.heap [] := va_S.rf
  refine lv_aload_n hx hb dX4_skipSemicolon_0 rfl (lv_at hl 0 rfl) ?_
  refine lv_dup hx hb dX4_skipSemicolon_1 rfl ?_
  refine zo_get 1 (.int (nI a)) hx hb hts (fun x h => List.mem_cons_of_mem _ (hU_X4 x h)) hown hE (zq_r hP) (show vwCl[4]? = some (RX4, TX4, 5) from rfl) (by decide) rfl (hts _ (List.mem_cons_of_mem _ uC_201)) (fun _ h9 => h9) dX4_skipSemicolon_2 ?_
  refine lv_iconst (v := 1) hx hb dX4_skipSemicolon_5 (by decide +kernel) ?_
  refine lv_iadd hx hb dX4_skipSemicolon_6 ?_
  refine zt_i (z_add (a := a) (b := 1) (by first | rfl | omega)) ?_
  refine zo_put (p0 := 2) 1 (.int (nI (a + 1))) .int hx hb hts (fun x h => List.mem_cons_of_mem _ (hU_X4 x h)) tyX4 tyX4_ok nmX4 hown hE hP (zD hJ) hS (zq_c2 V g n pd a kd nu mo) (show vwCl[4]? = some (RX4, TX4, 5) from rfl) (by decide) (Nat.le_of_ble_eq_true rfl) rfl (by decide +kernel) rfl rfl (hts _ (List.mem_cons_of_mem _ uC_201)) (fun _ h9 => h9) dX4_skipSemicolon_7 (fun H locs hP hS => ?_)
  have hP : va_P V.1 vwCl (zqW V g n pd (a + 1) kd nu mo) H := (zq_s2 (V := V) (g := g) (a + 1) kd nu mo) ▸ hP
  exact zr_v hx hb hr hlocks hS hP dX4_skipSemicolon_10
set_option maxHeartbeats 4000000 in
set_option maxRecDepth 100000 in
theorem c_X4_isDigitNext (l : Launch) (V : zV) (g : Nat → Nat) (n : Nat) (pd : Nat → Int32) (a : Nat) (kd nu mo : Int32) (h80 : n ≤ 80) (ha : a ≤ 100) : Met l yX4_isDigitNext wsX4_isDigitNext (zR 2 0 0) (zPc V [.ref (g 2)] (fun H => va_P V.1 vwCl (zqW V g n pd a kd nu mo) H)) (vp_Si (fun r => r = (if rDig pd n a then 1 else 0))) 0 0 (fun _ => False) := by
  refine Met.ofW (cc := cX4_isDigitNext) (maxL := 2) (ret := (some .boolean)) (by decide) rfl ?_
  intro p e s m args below meth c s₁ B hml hv
  obtain ⟨rfl, hP, hE⟩ := hv
  have hx := B.exec
  have hb := B.bytes
  have hr := B.returns
  have hts := atoms_spec (ws := wsX4_isDigitNext) B.pre
  have hown : s.vm.findClass RX4 = some m.cls := findClass_of_methodNamed B.named
  have hlocks := B.notSynchronized
  have hl := lv_entry ([.ref (g 2)]) (n := 2) (Nat.le_of_ble_eq_true rfl)
  rw [lg_entry_eq]
  generalize (lg_sl ([.ref (g 2)]) ++ List.replicate (2 - (lg_sl ([.ref (g 2)])).length) Slot.unset).toArray = ls at hl ⊢
  have hl : lv_has ls 2 [(0, .ref (g 2))] := hl
  refine lv_aload_n hx hb dX4_isDigitNext_0 rfl (lv_at hl 0 rfl) ?_
  refine zo_get 0 (.ref (g 0)) hx hb hts (fun x h => List.mem_cons_of_mem _ (hU_X4 x h)) hown hE (zq_r hP) (show vwCl[4]? = some (RX4, TX4, 5) from rfl) (by decide) rfl (hts _ (List.mem_cons_of_mem _ uC_199)) (fun _ h9 => h9) dX4_isDigitNext_1 ?_
  refine lv_aload_n hx hb dX4_isDigitNext_4 rfl (lv_at hl 0 rfl) ?_
  refine zo_get 1 (.int (nI a)) hx hb hts (fun x h => List.mem_cons_of_mem _ (hU_X4 x h)) hown hE (zq_r hP) (show vwCl[4]? = some (RX4, TX4, 5) from rfl) (by decide) rfl (hts _ (List.mem_cons_of_mem _ uC_201)) (fun _ h9 => h9) dX4_isDigitNext_5 ?_
  refine zc_se (va_runVN (As := [.int (nI a)]) (rest := []) ⟨hx, hb, hml, hown, hts⟩ (c_X3_signAt l V g n pd a kd nu mo a (by omega) (by omega)) ⟨va_cnB 1 hts (zgB_ wsC_all uC_185) rfl rfl rfl (hE.2 (.methodLinkNest RX4 28 yX3_signAt "DrawerSlips") (List.mem_of_getElem? (i := 78) rfl)) (hts _ (List.mem_cons_of_mem _ uC_192)) (by decide +kernel) ⟨Nat.le_of_ble_eq_true rfl, Nat.le_of_ble_eq_true rfl⟩, (hts _ (List.mem_cons_of_mem _ uC_203)), (hts _ (List.mem_cons_of_mem _ uC_204))⟩ (zPreV (B := fun H => va_P V.1 vwCl (zqW V g n pd a kd nu mo) H) hP hE (zq_rp hE hP)) rfl rfl hl.1 rfl (lv_room (Nat.le_of_ble_eq_true rfl)) dX4_isDigitNext_8 ⟨Nat.le_of_ble_eq_true rfl, Nat.le_of_ble_eq_true rfl⟩) ?_
  refine lv_istore_n (lv' := [(1, .int (mSg pd n a)), (0, .ref (g 2))]) hx hb dX4_isDigitNext_11 rfl hl (by decide) rfl (fun ls hl => ?_)
  refine lv_iload_n hx hb dX4_isDigitNext_12 rfl (lv_at hl 0 rfl) ?_
  refine lv_bipush (v := 48) hx hb dX4_isDigitNext_13 (by decide +kernel) ?_
  refine lv_icmp_lt (tgt := 28) hx hb dX4_isDigitNext_15 (by decide) (fun c_15 => ?_) (fun c_15 => ?_)
  · refine lv_iconst (v := 0) hx hb dX4_isDigitNext_28 (by decide +kernel) ?_
    exact zr_sz hx hb hr hlocks (by first | exact Or.inl rfl | exact Or.inr rfl | exact z_ite01 | assumption) ((if_neg (fun h => z_lt' c_15 h.1)).symm) dX4_isDigitNext_29
  · refine lv_iload_n hx hb dX4_isDigitNext_18 rfl (lv_at hl 0 rfl) ?_
    refine lv_bipush (v := 57) hx hb dX4_isDigitNext_19 (by decide +kernel) ?_
    refine lv_icmp_gt (tgt := 28) hx hb dX4_isDigitNext_21 (by decide) (fun c_21 => ?_) (fun c_21 => ?_)
    · refine lv_iconst (v := 0) hx hb dX4_isDigitNext_28 (by decide +kernel) ?_
      exact zr_sz hx hb hr hlocks (by first | exact Or.inl rfl | exact Or.inr rfl | exact z_ite01 | assumption) ((if_neg (fun h => z_lt' c_21 h.2)).symm) dX4_isDigitNext_29
    · refine lv_iconst (v := 1) hx hb dX4_isDigitNext_24 (by decide +kernel) ?_
      refine lv_goto (tgt := 29) hx hb dX4_isDigitNext_25 (by decide) ?_
      exact zr_sz hx hb hr hlocks (by first | exact Or.inl rfl | exact Or.inr rfl | exact z_ite01 | assumption) ((if_pos ⟨z_nlt c_15, z_nlt c_21⟩).symm) dX4_isDigitNext_29
set_option maxHeartbeats 4000000 in
set_option maxRecDepth 100000 in
theorem c_X4_takeDigit (l : Launch) (V : zV) (g : Nat → Nat) (n : Nat) (pd : Nat → Int32) (a : Nat) (kd nu mo : Int32) (hJ : zInj 3 g) (h80 : n ≤ 80) (ha : a ≤ 100) : Met l yX4_takeDigit wsX4_takeDigit (zR 2 0 0) (zPc V [.ref (g 2)] (fun H => va_P V.1 vwCl (zqW V g n pd a kd nu mo) H)) (zQi (fun r H => r = (mSg pd n a - 48) ∧ (va_P V.1 vwCl (zqW V g n pd (a + 1) kd nu mo) H)) (zIn 3 g)) 0 0 (zIn 3 g) := by
  refine Met.ofW (cc := cX4_takeDigit) (maxL := 2) (ret := (some .int)) (by decide) rfl ?_
  intro p e s m args below meth c s₁ B hml hv
  obtain ⟨rfl, hP, hE⟩ := hv
  have hx := B.exec
  have hb := B.bytes
  have hr := B.returns
  have hts := atoms_spec (ws := wsX4_takeDigit) B.pre
  have hown : s.vm.findClass RX4 = some m.cls := findClass_of_methodNamed B.named
  have hlocks := B.notSynchronized
  have hl := lv_entry ([.ref (g 2)]) (n := 2) (Nat.le_of_ble_eq_true rfl)
  rw [lg_entry_eq]
  generalize (lg_sl ([.ref (g 2)]) ++ List.replicate (2 - (lg_sl ([.ref (g 2)])).length) Slot.unset).toArray = ls at hl ⊢
  have hl : lv_has ls 2 [(0, .ref (g 2))] := hl
  have hS : va_S (zIn 3 g) s.heap s.heap [] := va_S.rf
  refine lv_aload_n hx hb dX4_takeDigit_0 rfl (lv_at hl 0 rfl) ?_
  refine zo_get 0 (.ref (g 0)) hx hb hts (fun x h => List.mem_cons_of_mem _ (hU_X4 x h)) hown hE (zq_r hP) (show vwCl[4]? = some (RX4, TX4, 5) from rfl) (by decide) rfl (hts _ (List.mem_cons_of_mem _ uC_199)) (fun _ h9 => h9) dX4_takeDigit_1 ?_
  refine lv_aload_n hx hb dX4_takeDigit_4 rfl (lv_at hl 0 rfl) ?_
  refine zo_get 1 (.int (nI a)) hx hb hts (fun x h => List.mem_cons_of_mem _ (hU_X4 x h)) hown hE (zq_r hP) (show vwCl[4]? = some (RX4, TX4, 5) from rfl) (by decide) rfl (hts _ (List.mem_cons_of_mem _ uC_201)) (fun _ h9 => h9) dX4_takeDigit_5 ?_
  refine zc_se (va_runVN (As := [.int (nI a)]) (rest := []) ⟨hx, hb, hml, hown, hts⟩ (c_X3_signAt l V g n pd a kd nu mo a (by omega) (by omega)) ⟨va_cnB 1 hts (zgB_ wsC_all uC_185) rfl rfl rfl (hE.2 (.methodLinkNest RX4 28 yX3_signAt "DrawerSlips") (List.mem_of_getElem? (i := 78) rfl)) (hts _ (List.mem_cons_of_mem _ uC_192)) (by decide +kernel) ⟨Nat.le_of_ble_eq_true rfl, Nat.le_of_ble_eq_true rfl⟩, (hts _ (List.mem_cons_of_mem _ uC_203)), (hts _ (List.mem_cons_of_mem _ uC_204))⟩ (zPreV (B := fun H => va_P V.1 vwCl (zqW V g n pd a kd nu mo) H) hP hE (zq_rp hE hP)) rfl rfl hl.1 rfl (lv_room (Nat.le_of_ble_eq_true rfl)) dX4_takeDigit_8 ⟨Nat.le_of_ble_eq_true rfl, Nat.le_of_ble_eq_true rfl⟩) ?_
  refine lv_bipush (v := 48) hx hb dX4_takeDigit_11 (by decide +kernel) ?_
  refine lv_isub hx hb dX4_takeDigit_13 ?_
  refine lv_istore_n (lv' := [(1, .int ((mSg pd n a) - 48)), (0, .ref (g 2))]) hx hb dX4_takeDigit_14 rfl hl (by decide) rfl (fun ls hl => ?_)
  refine lv_aload_n hx hb dX4_takeDigit_15 rfl (lv_at hl 1 rfl) ?_
  refine lv_dup hx hb dX4_takeDigit_16 rfl ?_
  refine zo_get 1 (.int (nI a)) hx hb hts (fun x h => List.mem_cons_of_mem _ (hU_X4 x h)) hown hE (zq_r hP) (show vwCl[4]? = some (RX4, TX4, 5) from rfl) (by decide) rfl (hts _ (List.mem_cons_of_mem _ uC_201)) (fun _ h9 => h9) dX4_takeDigit_17 ?_
  refine lv_iconst (v := 1) hx hb dX4_takeDigit_20 (by decide +kernel) ?_
  refine lv_iadd hx hb dX4_takeDigit_21 ?_
  refine zt_i (z_add (a := a) (b := 1) (by first | rfl | omega)) ?_
  refine zo_put (p0 := 2) 1 (.int (nI (a + 1))) .int hx hb hts (fun x h => List.mem_cons_of_mem _ (hU_X4 x h)) tyX4 tyX4_ok nmX4 hown hE hP (zD hJ) hS (zq_c2 V g n pd a kd nu mo) (show vwCl[4]? = some (RX4, TX4, 5) from rfl) (by decide) (Nat.le_of_ble_eq_true rfl) rfl (by decide +kernel) rfl rfl (hts _ (List.mem_cons_of_mem _ uC_201)) (fun _ h9 => h9) dX4_takeDigit_22 (fun H locs hP hS => ?_)
  have hP : va_P V.1 vwCl (zqW V g n pd (a + 1) kd nu mo) H := (zq_s2 (V := V) (g := g) (a + 1) kd nu mo) ▸ hP
  refine lv_iload_n hx hb dX4_takeDigit_25 rfl (lv_at hl 0 rfl) ?_
  exact zr_i hx hb hr hlocks hS (⟨rfl, hP⟩) dX4_takeDigit_26
set_option maxHeartbeats 4000000 in
set_option maxRecDepth 100000 in
theorem c_X4_readNumber (l : Launch) (V : zV) (g : Nat → Nat) (n : Nat) (pd : Nat → Int32) (a : Nat) (kd nu mo : Int32) (hJ : zInj 3 g) (h80 : n ≤ 80) (ha : a ≤ 97) : Met l yX4_readNumber wsX4_readNumber (zR 3 0 0) (zPc V [.ref (g 2)] (fun H => va_P V.1 vwCl (zqW V g n pd a kd nu mo) H)) (zQi (fun r H => r = (if rDig pd n a then 1 else 0) ∧ (va_P V.1 vwCl (zqW V g n pd ((rNum pd n a nu).1) kd ((rNum pd n a nu).2) mo) H)) (zIn 3 g)) 0 0 (zIn 3 g) := by
  refine Met.ofW (cc := cX4_readNumber) (maxL := 1) (ret := (some .boolean)) (by decide) rfl ?_
  intro p e s m args below meth c s₁ B hml hv
  obtain ⟨rfl, hP, hE⟩ := hv
  have hx := B.exec
  have hb := B.bytes
  have hr := B.returns
  have hts := atoms_spec (ws := wsX4_readNumber) B.pre
  have hown : s.vm.findClass RX4 = some m.cls := findClass_of_methodNamed B.named
  have hlocks := B.notSynchronized
  have hl := lv_entry ([.ref (g 2)]) (n := 1) (Nat.le_of_ble_eq_true rfl)
  rw [lg_entry_eq]
  generalize (lg_sl ([.ref (g 2)]) ++ List.replicate (1 - (lg_sl ([.ref (g 2)])).length) Slot.unset).toArray = ls at hl ⊢
  have hl : lv_has ls 1 [(0, .ref (g 2))] := hl
  have hS : va_S (zIn 3 g) s.heap s.heap [] := va_S.rf
  refine lv_aload_n hx hb dX4_readNumber_0 rfl (lv_at hl 0 rfl) ?_
  refine zc_se (va_runV (As := []) (rest := []) ⟨hx, hb, hml, hown, hts⟩ (c_X4_isDigitNext l V g n pd a kd nu mo (by omega) (by omega)) (cwV 0 hts (zgV_ wsC_all uC_202 uC_208 uC_209 uC_210 uC_211) rfl rfl rfl (by decide +kernel) ⟨Nat.le_of_ble_eq_true rfl, Nat.le_of_ble_eq_true rfl⟩) (zPreV (B := fun H => va_P V.1 vwCl (zqW V g n pd a kd nu mo) H) hP hE (zq_rr hE hP)) rfl rfl hl.1 rfl (lv_room (Nat.le_of_ble_eq_true rfl)) dX4_readNumber_1 ⟨Nat.le_of_ble_eq_true rfl, Nat.le_of_ble_eq_true rfl⟩) ?_
  refine zbp_ne (P := rDig pd n a) (tgt := 9) hx hb dX4_readNumber_4 (by decide) (fun c_4 => ?_) (fun c_4 => ?_)
  · refine lv_aload_n hx hb dX4_readNumber_9 rfl (lv_at hl 0 rfl) ?_
    refine lv_aload_n hx hb dX4_readNumber_10 rfl (lv_at hl 0 rfl) ?_
    refine zc_i (va_runV (As := []) (rest := [.ref (g 2)]) ⟨hx, hb, hml, hown, hts⟩ (c_X4_takeDigit l V g n pd a kd nu mo hJ (by omega) (by omega)) (cwV 0 hts (zgV_ wsC_all uC_205 uC_212 uC_213 uC_214 uC_211) rfl rfl rfl (by decide +kernel) ⟨Nat.le_of_ble_eq_true rfl, Nat.le_of_ble_eq_true rfl⟩) (zPreV (B := fun H => va_P V.1 vwCl (zqW V g n pd a kd nu mo) H) hP hE (zq_rr hE hP)) rfl rfl hl.1 rfl (lv_room (Nat.le_of_ble_eq_true rfl)) dX4_readNumber_11 ⟨Nat.le_of_ble_eq_true rfl, Nat.le_of_ble_eq_true rfl⟩) hS (fun _ h => h) (fun _ h => h) (fun r_ H locs hQ_ _ _ hS => ?_)
    obtain ⟨hr_, hP⟩ := hQ_
    subst hr_
    refine zo_put (p0 := 2) 3 (.int (mSg pd n a - 48)) .int hx hb hts (fun x h => List.mem_cons_of_mem _ (hU_X4 x h)) tyX4 tyX4_ok nmX4 hown hE hP (zD hJ) hS (zq_c2 V g n pd (a + 1) kd nu mo) (show vwCl[4]? = some (RX4, TX4, 5) from rfl) (by decide) (Nat.le_of_ble_eq_true rfl) rfl (by decide +kernel) rfl rfl (hts _ (List.mem_cons_of_mem _ uC_207)) (fun _ h9 => h9) dX4_readNumber_14 (fun H locs hP hS => ?_)
    have hP : va_P V.1 vwCl (zqW V g n pd (a + 1) kd (mSg pd n a - 48) mo) H := (zq_s2 (V := V) (g := g) (a + 1) kd (mSg pd n a - 48) mo) ▸ hP
    refine lv_aload_n hx hb dX4_readNumber_17 rfl (lv_at hl 0 rfl) ?_
    refine zo_get 3 (.int (mSg pd n a - 48)) hx hb hts (fun x h => List.mem_cons_of_mem _ (hU_X4 x h)) hown hE (zq_r hP) (show vwCl[4]? = some (RX4, TX4, 5) from rfl) (by decide) rfl (hts _ (List.mem_cons_of_mem _ uC_207)) (fun _ h9 => h9) dX4_readNumber_18 ?_
    refine lv_if_eq (tgt := 47) hx hb dX4_readNumber_21 (by decide) (fun c_21 => ?_) (fun c_21 => ?_)
    · refine lv_iconst (v := 1) hx hb dX4_readNumber_47 (by decide +kernel) ?_
      exact zr_z hx hb hr hlocks hS (by first | exact Or.inl rfl | exact Or.inr rfl | exact z_ite01 | assumption) (⟨(if_pos c_4).symm, by rw [show rNum pd n a nu = (a + 1, mSg pd n a - 48) from (if_pos c_4).trans (if_neg (fun h => h.1 c_21))]; exact hP⟩) dX4_readNumber_48
    · refine lv_aload_n hx hb dX4_readNumber_24 rfl (lv_at hl 0 rfl) ?_
      refine zc_se (va_runV (As := []) (rest := []) ⟨hx, hb, hml, hown, hts⟩ (c_X4_isDigitNext l V g n pd (a + 1) kd (mSg pd n a - 48) mo (by omega) (by omega)) (cwV 0 hts (zgV_ wsC_all uC_202 uC_208 uC_209 uC_210 uC_211) rfl rfl rfl (by decide +kernel) ⟨Nat.le_of_ble_eq_true rfl, Nat.le_of_ble_eq_true rfl⟩) (zPreV (B := fun H => va_P V.1 vwCl (zqW V g n pd (a + 1) kd (mSg pd n a - 48) mo) H) hP hE (zq_rr hE hP)) rfl rfl hl.1 rfl (lv_room (Nat.le_of_ble_eq_true rfl)) dX4_readNumber_25 ⟨Nat.le_of_ble_eq_true rfl, Nat.le_of_ble_eq_true rfl⟩) ?_
      refine zbp_eq (P := rDig pd n (a + 1)) (tgt := 47) hx hb dX4_readNumber_28 (by decide) (fun c_28 => ?_) (fun c_28 => ?_)
      · refine lv_iconst (v := 1) hx hb dX4_readNumber_47 (by decide +kernel) ?_
        exact zr_z hx hb hr hlocks hS (by first | exact Or.inl rfl | exact Or.inr rfl | exact z_ite01 | assumption) (⟨(if_pos c_4).symm, by rw [show rNum pd n a nu = (a + 1, mSg pd n a - 48) from (if_pos c_4).trans (if_neg (fun h => c_28 h.2))]; exact hP⟩) dX4_readNumber_48
      · refine lv_aload_n hx hb dX4_readNumber_31 rfl (lv_at hl 0 rfl) ?_
        refine lv_aload_n hx hb dX4_readNumber_32 rfl (lv_at hl 0 rfl) ?_
        refine zo_get 3 (.int (mSg pd n a - 48)) hx hb hts (fun x h => List.mem_cons_of_mem _ (hU_X4 x h)) hown hE (zq_r hP) (show vwCl[4]? = some (RX4, TX4, 5) from rfl) (by decide) rfl (hts _ (List.mem_cons_of_mem _ uC_207)) (fun _ h9 => h9) dX4_readNumber_33 ?_
        refine lv_bipush (v := 10) hx hb dX4_readNumber_36 (by decide +kernel) ?_
        refine lv_imul hx hb dX4_readNumber_38 ?_
        refine lv_aload_n hx hb dX4_readNumber_39 rfl (lv_at hl 0 rfl) ?_
        refine zc_i (va_runV (As := []) (rest := [.int ((mSg pd n a - 48) * 10), .ref (g 2)]) ⟨hx, hb, hml, hown, hts⟩ (c_X4_takeDigit l V g n pd (a + 1) kd (mSg pd n a - 48) mo hJ (by omega) (by omega)) (cwV 0 hts (zgV_ wsC_all uC_205 uC_212 uC_213 uC_214 uC_211) rfl rfl rfl (by decide +kernel) ⟨Nat.le_of_ble_eq_true rfl, Nat.le_of_ble_eq_true rfl⟩) (zPreV (B := fun H => va_P V.1 vwCl (zqW V g n pd (a + 1) kd (mSg pd n a - 48) mo) H) hP hE (zq_rr hE hP)) rfl rfl hl.1 rfl (lv_room (Nat.le_of_ble_eq_true rfl)) dX4_readNumber_40 ⟨Nat.le_of_ble_eq_true rfl, Nat.le_of_ble_eq_true rfl⟩) hS (fun _ h => h) (fun _ h => h) (fun r_ H locs hQ_ _ _ hS => ?_)
        obtain ⟨hr_, hP⟩ := hQ_
        subst hr_
        refine lv_iadd hx hb dX4_readNumber_43 ?_
        refine zo_put (p0 := 2) 3 (.int (((mSg pd n a - 48) * 10) + (mSg pd n (a + 1) - 48))) .int hx hb hts (fun x h => List.mem_cons_of_mem _ (hU_X4 x h)) tyX4 tyX4_ok nmX4 hown hE hP (zD hJ) hS (zq_c2 V g n pd (a + 2) kd (mSg pd n a - 48) mo) (show vwCl[4]? = some (RX4, TX4, 5) from rfl) (by decide) (Nat.le_of_ble_eq_true rfl) rfl (by decide +kernel) rfl rfl (hts _ (List.mem_cons_of_mem _ uC_207)) (fun _ h9 => h9) dX4_readNumber_44 (fun H locs hP hS => ?_)
        have hP : va_P V.1 vwCl (zqW V g n pd (a + 2) kd (((mSg pd n a - 48) * 10) + (mSg pd n (a + 1) - 48)) mo) H := (zq_s2 (V := V) (g := g) (a + 2) kd (((mSg pd n a - 48) * 10) + (mSg pd n (a + 1) - 48)) mo) ▸ hP
        refine lv_iconst (v := 1) hx hb dX4_readNumber_47 (by decide +kernel) ?_
        exact zr_z hx hb hr hlocks hS (by first | exact Or.inl rfl | exact Or.inr rfl | exact z_ite01 | assumption) (⟨(if_pos c_4).symm, by rw [show rNum pd n a nu = (a + 2, (mSg pd n a - 48) * 10 + (mSg pd n (a + 1) - 48)) from (if_pos c_4).trans (if_pos ⟨c_21, c_28⟩)]; exact hP⟩) dX4_readNumber_48
  · refine lv_iconst (v := 0) hx hb dX4_readNumber_7 (by decide +kernel) ?_
    exact zr_z hx hb hr hlocks hS (by first | exact Or.inl rfl | exact Or.inr rfl | exact z_ite01 | assumption) (⟨(if_neg c_4).symm, by rw [show rNum pd n a nu = (a, nu) from if_neg c_4]; exact hP⟩) dX4_readNumber_8
set_option maxHeartbeats 4000000 in
set_option maxRecDepth 100000 in
theorem c_X4_readMore (l : Launch) (V : zV) (g : Nat → Nat) (n : Nat) (pd : Nat → Int32) (a : Nat) (kd nu mo : Int32) (hJ : zInj 3 g) (h80 : n ≤ 80) (ha : a ≤ 97) : Met l yX4_readMore wsX4_readMore (zR 3 0 0) (zPc V [.ref (g 2)] (fun H => va_P V.1 vwCl (zqW V g n pd a kd nu mo) H)) (zQi (fun r H => r = (if rDig pd n (a + 1) then 1 else 0) ∧ (va_P V.1 vwCl (zqW V g n pd (if rDig pd n (a + 1) then a + 2 else a + 1) kd nu (if rDig pd n (a + 1) then mSg pd n (a + 1) - 48 else mo)) H)) (zIn 3 g)) 0 0 (zIn 3 g) := by
  refine Met.ofW (cc := cX4_readMore) (maxL := 1) (ret := (some .boolean)) (by decide) rfl ?_
  intro p e s m args below meth c s₁ B hml hv
  obtain ⟨rfl, hP, hE⟩ := hv
  have hx := B.exec
  have hb := B.bytes
  have hr := B.returns
  have hts := atoms_spec (ws := wsX4_readMore) B.pre
  have hown : s.vm.findClass RX4 = some m.cls := findClass_of_methodNamed B.named
  have hlocks := B.notSynchronized
  have hl := lv_entry ([.ref (g 2)]) (n := 1) (Nat.le_of_ble_eq_true rfl)
  rw [lg_entry_eq]
  generalize (lg_sl ([.ref (g 2)]) ++ List.replicate (1 - (lg_sl ([.ref (g 2)])).length) Slot.unset).toArray = ls at hl ⊢
  have hl : lv_has ls 1 [(0, .ref (g 2))] := hl
  have hS : va_S (zIn 3 g) s.heap s.heap [] := va_S.rf
  refine lv_aload_n hx hb dX4_readMore_0 rfl (lv_at hl 0 rfl) ?_
  refine lv_dup hx hb dX4_readMore_1 rfl ?_
  refine zo_get 1 (.int (nI a)) hx hb hts (fun x h => List.mem_cons_of_mem _ (hU_X4 x h)) hown hE (zq_r hP) (show vwCl[4]? = some (RX4, TX4, 5) from rfl) (by decide) rfl (hts _ (List.mem_cons_of_mem _ uC_201)) (fun _ h9 => h9) dX4_readMore_2 ?_
  refine lv_iconst (v := 1) hx hb dX4_readMore_5 (by decide +kernel) ?_
  refine lv_iadd hx hb dX4_readMore_6 ?_
  refine zt_i (z_add (a := a) (b := 1) (by first | rfl | omega)) ?_
  refine zo_put (p0 := 2) 1 (.int (nI (a + 1))) .int hx hb hts (fun x h => List.mem_cons_of_mem _ (hU_X4 x h)) tyX4 tyX4_ok nmX4 hown hE hP (zD hJ) hS (zq_c2 V g n pd a kd nu mo) (show vwCl[4]? = some (RX4, TX4, 5) from rfl) (by decide) (Nat.le_of_ble_eq_true rfl) rfl (by decide +kernel) rfl rfl (hts _ (List.mem_cons_of_mem _ uC_201)) (fun _ h9 => h9) dX4_readMore_7 (fun H locs hP hS => ?_)
  have hP : va_P V.1 vwCl (zqW V g n pd (a + 1) kd nu mo) H := (zq_s2 (V := V) (g := g) (a + 1) kd nu mo) ▸ hP
  refine lv_aload_n hx hb dX4_readMore_10 rfl (lv_at hl 0 rfl) ?_
  refine zc_se (va_runV (As := []) (rest := []) ⟨hx, hb, hml, hown, hts⟩ (c_X4_isDigitNext l V g n pd (a + 1) kd nu mo (by omega) (by omega)) (cwV 0 hts (zgV_ wsC_all uC_202 uC_208 uC_209 uC_210 uC_211) rfl rfl rfl (by decide +kernel) ⟨Nat.le_of_ble_eq_true rfl, Nat.le_of_ble_eq_true rfl⟩) (zPreV (B := fun H => va_P V.1 vwCl (zqW V g n pd (a + 1) kd nu mo) H) hP hE (zq_rr hE hP)) rfl rfl hl.1 rfl (lv_room (Nat.le_of_ble_eq_true rfl)) dX4_readMore_11 ⟨Nat.le_of_ble_eq_true rfl, Nat.le_of_ble_eq_true rfl⟩) ?_
  refine zbp_ne (P := rDig pd n (a + 1)) (tgt := 19) hx hb dX4_readMore_14 (by decide) (fun c_14 => ?_) (fun c_14 => ?_)
  · refine lv_aload_n hx hb dX4_readMore_19 rfl (lv_at hl 0 rfl) ?_
    refine lv_aload_n hx hb dX4_readMore_20 rfl (lv_at hl 0 rfl) ?_
    refine zc_i (va_runV (As := []) (rest := [.ref (g 2)]) ⟨hx, hb, hml, hown, hts⟩ (c_X4_takeDigit l V g n pd (a + 1) kd nu mo hJ (by omega) (by omega)) (cwV 0 hts (zgV_ wsC_all uC_205 uC_212 uC_213 uC_214 uC_211) rfl rfl rfl (by decide +kernel) ⟨Nat.le_of_ble_eq_true rfl, Nat.le_of_ble_eq_true rfl⟩) (zPreV (B := fun H => va_P V.1 vwCl (zqW V g n pd (a + 1) kd nu mo) H) hP hE (zq_rr hE hP)) rfl rfl hl.1 rfl (lv_room (Nat.le_of_ble_eq_true rfl)) dX4_readMore_21 ⟨Nat.le_of_ble_eq_true rfl, Nat.le_of_ble_eq_true rfl⟩) hS (fun _ h => h) (fun _ h => h) (fun r_ H locs hQ_ _ _ hS => ?_)
    obtain ⟨hr_, hP⟩ := hQ_
    subst hr_
    refine zo_put (p0 := 2) 4 (.int (mSg pd n (a + 1) - 48)) .int hx hb hts (fun x h => List.mem_cons_of_mem _ (hU_X4 x h)) tyX4 tyX4_ok nmX4 hown hE hP (zD hJ) hS (zq_c2 V g n pd (a + 2) kd nu mo) (show vwCl[4]? = some (RX4, TX4, 5) from rfl) (by decide) (Nat.le_of_ble_eq_true rfl) rfl (by decide +kernel) rfl rfl (hts _ (List.mem_cons_of_mem _ uC_216)) (fun _ h9 => h9) dX4_readMore_24 (fun H locs hP hS => ?_)
    have hP : va_P V.1 vwCl (zqW V g n pd (a + 2) kd nu (mSg pd n (a + 1) - 48)) H := (zq_s2 (V := V) (g := g) (a + 2) kd nu (mSg pd n (a + 1) - 48)) ▸ hP
    refine lv_iconst (v := 1) hx hb dX4_readMore_27 (by decide +kernel) ?_
    exact zr_z hx hb hr hlocks hS (by first | exact Or.inl rfl | exact Or.inr rfl | exact z_ite01 | assumption) (⟨(if_pos c_14).symm, by rw [if_pos c_14, if_pos c_14]; exact hP⟩) dX4_readMore_28
  · refine lv_iconst (v := 0) hx hb dX4_readMore_17 (by decide +kernel) ?_
    exact zr_z hx hb hr hlocks hS (by first | exact Or.inl rfl | exact Or.inr rfl | exact z_ite01 | assumption) (⟨(if_neg c_14).symm, by rw [if_neg c_14, if_neg c_14]; exact hP⟩) dX4_readMore_18
theorem rNum_le {pd : Nat → Int32} {n a : Nat} {nu : Int32} : (rNum pd n a nu).1 ≤ a + 2 := by
  unfold rNum
  split
  · split
    · exact Nat.le_refl _
    · exact Nat.le_succ _
  · exact Nat.le_add_right _ 2
set_option maxHeartbeats 4000000 in
set_option maxRecDepth 100000 in
theorem c_X4_readOrder (l : Launch) (V : zV) (g : Nat → Nat) (n : Nat) (pd : Nat → Int32) (a : Nat) (kd nu mo : Int32) (hJ : zInj 3 g) (h80 : n ≤ 80) (ha : a ≤ 90) : Met l yX4_readOrder wsX4_readOrder (zR 4 0 0) (zPc V [.ref (g 2)] (fun H => va_P V.1 vwCl (zqW V g n pd a kd nu mo) H)) (zQi (fun r H => r = (if (rTok pd n a nu).1 = true then 1 else 0) ∧ (va_P V.1 vwCl (zqW V g n pd ((rTok pd n a nu).2.1) (mSg pd n a) ((rTok pd n a nu).2.2.1) ((rTok pd n a nu).2.2.2)) H)) (zIn 3 g)) 0 0 (zIn 3 g) := by
  refine Met.ofW (cc := cX4_readOrder) (maxL := 2) (ret := (some .boolean)) (by decide) rfl ?_
  intro p e s m args below meth c s₁ B hml hv
  obtain ⟨rfl, hP, hE⟩ := hv
  have hx := B.exec
  have hb := B.bytes
  have hr := B.returns
  have hts := atoms_spec (ws := wsX4_readOrder) B.pre
  have hown : s.vm.findClass RX4 = some m.cls := findClass_of_methodNamed B.named
  have hlocks := B.notSynchronized
  have hl := lv_entry ([.ref (g 2)]) (n := 2) (Nat.le_of_ble_eq_true rfl)
  rw [lg_entry_eq]
  generalize (lg_sl ([.ref (g 2)]) ++ List.replicate (2 - (lg_sl ([.ref (g 2)])).length) Slot.unset).toArray = ls at hl ⊢
  have hl : lv_has ls 2 [(0, .ref (g 2))] := hl
  have hS : va_S (zIn 3 g) s.heap s.heap [] := va_S.rf
  refine lv_aload_n hx hb dX4_readOrder_0 rfl (lv_at hl 0 rfl) ?_
  refine lv_aload_n hx hb dX4_readOrder_1 rfl (lv_at hl 0 rfl) ?_
  refine zo_get 0 (.ref (g 0)) hx hb hts (fun x h => List.mem_cons_of_mem _ (hU_X4 x h)) hown hE (zq_r hP) (show vwCl[4]? = some (RX4, TX4, 5) from rfl) (by decide) rfl (hts _ (List.mem_cons_of_mem _ uC_199)) (fun _ h9 => h9) dX4_readOrder_2 ?_
  refine lv_aload_n hx hb dX4_readOrder_5 rfl (lv_at hl 0 rfl) ?_
  refine zo_get 1 (.int (nI a)) hx hb hts (fun x h => List.mem_cons_of_mem _ (hU_X4 x h)) hown hE (zq_r hP) (show vwCl[4]? = some (RX4, TX4, 5) from rfl) (by decide) rfl (hts _ (List.mem_cons_of_mem _ uC_201)) (fun _ h9 => h9) dX4_readOrder_6 ?_
  refine zc_se (va_runVN (As := [.int (nI a)]) (rest := [.ref (g 2)]) ⟨hx, hb, hml, hown, hts⟩ (c_X3_signAt l V g n pd a kd nu mo a (by omega) (by omega)) ⟨va_cnB 1 hts (zgB_ wsC_all uC_185) rfl rfl rfl (hE.2 (.methodLinkNest RX4 28 yX3_signAt "DrawerSlips") (List.mem_of_getElem? (i := 78) rfl)) (hts _ (List.mem_cons_of_mem _ uC_192)) (by decide +kernel) ⟨Nat.le_of_ble_eq_true rfl, Nat.le_of_ble_eq_true rfl⟩, (hts _ (List.mem_cons_of_mem _ uC_203)), (hts _ (List.mem_cons_of_mem _ uC_204))⟩ (zPreV (B := fun H => va_P V.1 vwCl (zqW V g n pd a kd nu mo) H) hP hE (zq_rp hE hP)) rfl rfl hl.1 rfl (lv_room (Nat.le_of_ble_eq_true rfl)) dX4_readOrder_9 ⟨Nat.le_of_ble_eq_true rfl, Nat.le_of_ble_eq_true rfl⟩) ?_
  refine zo_put (p0 := 2) 2 (.int (mSg pd n a)) .int hx hb hts (fun x h => List.mem_cons_of_mem _ (hU_X4 x h)) tyX4 tyX4_ok nmX4 hown hE hP (zD hJ) hS (zq_c2 V g n pd a kd nu mo) (show vwCl[4]? = some (RX4, TX4, 5) from rfl) (by decide) (Nat.le_of_ble_eq_true rfl) rfl (by decide +kernel) rfl rfl (hts _ (List.mem_cons_of_mem _ uC_218)) (fun _ h9 => h9) dX4_readOrder_12 (fun H locs hP hS => ?_)
  have hP : va_P V.1 vwCl (zqW V g n pd a (mSg pd n a) nu mo) H := (zq_s2 (V := V) (g := g) a (mSg pd n a) nu mo) ▸ hP
  refine lv_aload_n hx hb dX4_readOrder_15 rfl (lv_at hl 0 rfl) ?_
  refine lv_iconst (v := 0) hx hb dX4_readOrder_16 (by decide +kernel) ?_
  refine zo_put (p0 := 2) 4 (.int 0) .int hx hb hts (fun x h => List.mem_cons_of_mem _ (hU_X4 x h)) tyX4 tyX4_ok nmX4 hown hE hP (zD hJ) hS (zq_c2 V g n pd a (mSg pd n a) nu mo) (show vwCl[4]? = some (RX4, TX4, 5) from rfl) (by decide) (Nat.le_of_ble_eq_true rfl) rfl (by decide +kernel) rfl rfl (hts _ (List.mem_cons_of_mem _ uC_216)) (fun _ h9 => h9) dX4_readOrder_17 (fun H locs hP hS => ?_)
  have hP : va_P V.1 vwCl (zqW V g n pd a (mSg pd n a) nu 0) H := (zq_s2 (V := V) (g := g) a (mSg pd n a) nu 0) ▸ hP
  refine lv_aload_n hx hb dX4_readOrder_20 rfl (lv_at hl 0 rfl) ?_
  refine zo_get 2 (.int (mSg pd n a)) hx hb hts (fun x h => List.mem_cons_of_mem _ (hU_X4 x h)) hown hE (zq_r hP) (show vwCl[4]? = some (RX4, TX4, 5) from rfl) (by decide) rfl (hts _ (List.mem_cons_of_mem _ uC_218)) (fun _ h9 => h9) dX4_readOrder_21 ?_
  refine lv_bipush (v := 114) hx hb dX4_readOrder_24 (by decide +kernel) ?_
  refine lv_icmp_eq (tgt := 38) hx hb dX4_readOrder_26 (by decide) (fun c_26 => ?_) (fun c_26 => ?_)
  · refine lv_iconst (v := 1) hx hb dX4_readOrder_38 (by decide +kernel) ?_
    refine lv_goto (tgt := 43) hx hb dX4_readOrder_39 (by decide) ?_
    refine lv_istore_n (lv' := [(1, .int 1), (0, .ref (g 2))]) hx hb dX4_readOrder_43 rfl hl (by decide) rfl (fun ls hl => ?_)
    refine lv_iload_n hx hb dX4_readOrder_44 rfl (lv_at hl 0 rfl) ?_
    refine lv_if_ne (tgt := 68) hx hb dX4_readOrder_45 (by decide) (fun c_45 => ?_) (fun c_45 => ?_)
    rotate_left
    · exact absurd c_45 (by decide +kernel)
    refine lv_aload_n hx hb dX4_readOrder_68 rfl (lv_at hl 1 rfl) ?_
    refine lv_dup hx hb dX4_readOrder_69 rfl ?_
    refine zo_get 1 (.int (nI a)) hx hb hts (fun x h => List.mem_cons_of_mem _ (hU_X4 x h)) hown hE (zq_r hP) (show vwCl[4]? = some (RX4, TX4, 5) from rfl) (by decide) rfl (hts _ (List.mem_cons_of_mem _ uC_201)) (fun _ h9 => h9) dX4_readOrder_70 ?_
    refine lv_iconst (v := 1) hx hb dX4_readOrder_73 (by decide +kernel) ?_
    refine lv_iadd hx hb dX4_readOrder_74 ?_
    refine zt_i (z_add (a := a) (b := 1) (by first | rfl | omega)) ?_
    refine zo_put (p0 := 2) 1 (.int (nI (a + 1))) .int hx hb hts (fun x h => List.mem_cons_of_mem _ (hU_X4 x h)) tyX4 tyX4_ok nmX4 hown hE hP (zD hJ) hS (zq_c2 V g n pd a (mSg pd n a) nu 0) (show vwCl[4]? = some (RX4, TX4, 5) from rfl) (by decide) (Nat.le_of_ble_eq_true rfl) rfl (by decide +kernel) rfl rfl (hts _ (List.mem_cons_of_mem _ uC_201)) (fun _ h9 => h9) dX4_readOrder_75 (fun H locs hP hS => ?_)
    have hP : va_P V.1 vwCl (zqW V g n pd (a + 1) (mSg pd n a) nu 0) H := (zq_s2 (V := V) (g := g) (a + 1) (mSg pd n a) nu 0) ▸ hP
    refine lv_aload_n hx hb dX4_readOrder_78 rfl (lv_at hl 1 rfl) ?_
    refine zc_i (va_runV (As := []) (rest := []) ⟨hx, hb, hml, hown, hts⟩ (c_X4_readNumber l V g n pd (a + 1) (mSg pd n a) nu 0 hJ (by omega) (by omega)) (cwV 0 hts (zgV_ wsC_all uC_206 uC_219 uC_220 uC_221 uC_211) rfl rfl rfl (by decide +kernel) ⟨Nat.le_of_ble_eq_true rfl, Nat.le_of_ble_eq_true rfl⟩) (zPreV (B := fun H => va_P V.1 vwCl (zqW V g n pd (a + 1) (mSg pd n a) nu 0) H) hP hE (zq_rr hE hP)) rfl rfl hl.1 rfl (lv_room (Nat.le_of_ble_eq_true rfl)) dX4_readOrder_79 ⟨Nat.le_of_ble_eq_true rfl, Nat.le_of_ble_eq_true rfl⟩) hS (fun _ h => h) (fun _ h => h) (fun r_ H locs hQ_ _ _ hS => ?_)
    obtain ⟨hr_, hP⟩ := hQ_
    subst hr_
    refine zbp_ne (P := rDig pd n (a + 1)) (tgt := 87) hx hb dX4_readOrder_82 (by decide) (fun c_82 => ?_) (fun c_82 => ?_)
    · have hrl_ := rNum_le (pd := pd) (n := n) (a := a + 1) (nu := nu)
      refine lv_iload_n hx hb dX4_readOrder_87 rfl (lv_at hl 0 rfl) ?_
      refine lv_if_eq (tgt := 114) hx hb dX4_readOrder_88 (by decide) (fun c_88 => ?_) (fun c_88 => ?_)
      · exact absurd c_88 (by decide +kernel)
      refine lv_aload_n hx hb dX4_readOrder_91 rfl (lv_at hl 1 rfl) ?_
      refine zo_get 0 (.ref (g 0)) hx hb hts (fun x h => List.mem_cons_of_mem _ (hU_X4 x h)) hown hE (zq_r hP) (show vwCl[4]? = some (RX4, TX4, 5) from rfl) (by decide) rfl (hts _ (List.mem_cons_of_mem _ uC_199)) (fun _ h9 => h9) dX4_readOrder_92 ?_
      refine lv_aload_n hx hb dX4_readOrder_95 rfl (lv_at hl 1 rfl) ?_
      refine zo_get 1 (.int (nI ((rNum pd n (a + 1) nu).1))) hx hb hts (fun x h => List.mem_cons_of_mem _ (hU_X4 x h)) hown hE (zq_r hP) (show vwCl[4]? = some (RX4, TX4, 5) from rfl) (by decide) rfl (hts _ (List.mem_cons_of_mem _ uC_201)) (fun _ h9 => h9) dX4_readOrder_96 ?_
      refine zc_se (va_runVN (As := [.int (nI ((rNum pd n (a + 1) nu).1))]) (rest := []) ⟨hx, hb, hml, hown, hts⟩ (c_X3_signAt l V g n pd ((rNum pd n (a + 1) nu).1) (mSg pd n a) ((rNum pd n (a + 1) nu).2) 0 ((rNum pd n (a + 1) nu).1) (by omega) (by omega)) ⟨va_cnB 1 hts (zgB_ wsC_all uC_185) rfl rfl rfl (hE.2 (.methodLinkNest RX4 28 yX3_signAt "DrawerSlips") (List.mem_of_getElem? (i := 78) rfl)) (hts _ (List.mem_cons_of_mem _ uC_192)) (by decide +kernel) ⟨Nat.le_of_ble_eq_true rfl, Nat.le_of_ble_eq_true rfl⟩, (hts _ (List.mem_cons_of_mem _ uC_203)), (hts _ (List.mem_cons_of_mem _ uC_204))⟩ (zPreV (B := fun H => va_P V.1 vwCl (zqW V g n pd ((rNum pd n (a + 1) nu).1) (mSg pd n a) ((rNum pd n (a + 1) nu).2) 0) H) hP hE (zq_rp hE hP)) rfl rfl hl.1 rfl (lv_room (Nat.le_of_ble_eq_true rfl)) dX4_readOrder_99 ⟨Nat.le_of_ble_eq_true rfl, Nat.le_of_ble_eq_true rfl⟩) ?_
      refine lv_bipush (v := 43) hx hb dX4_readOrder_102 (by decide +kernel) ?_
      refine lv_icmp_ne (tgt := 114) hx hb dX4_readOrder_104 (by decide) (fun c_104 => ?_) (fun c_104 => ?_)
      · refine lv_iconst (v := 1) hx hb dX4_readOrder_114 (by decide +kernel) ?_
        refine lv_goto (tgt := 119) hx hb dX4_readOrder_115 (by decide) ?_
        have htk_ : rTok pd n a nu = (true, (rNum pd n (a + 1) nu).1, (rNum pd n (a + 1) nu).2, 0) := (if_pos (show rSign pd n a from Or.inl c_26)).trans ((if_pos c_82).trans (if_neg (fun h => c_104 h.2)))
        exact zr_z hx hb hr hlocks hS (by first | exact Or.inl rfl | exact Or.inr rfl | exact z_ite01 | assumption) (⟨by rw [htk_]; rfl, by rw [htk_]; exact hP⟩) dX4_readOrder_119
      · refine lv_aload_n hx hb dX4_readOrder_107 rfl (lv_at hl 1 rfl) ?_
        refine zc_i (va_runV (As := []) (rest := []) ⟨hx, hb, hml, hown, hts⟩ (c_X4_readMore l V g n pd ((rNum pd n (a + 1) nu).1) (mSg pd n a) ((rNum pd n (a + 1) nu).2) 0 hJ (by omega) (by omega)) (cwV 0 hts (zgV_ wsC_all uC_215 uC_222 uC_223 uC_224 uC_211) rfl rfl rfl (by decide +kernel) ⟨Nat.le_of_ble_eq_true rfl, Nat.le_of_ble_eq_true rfl⟩) (zPreV (B := fun H => va_P V.1 vwCl (zqW V g n pd ((rNum pd n (a + 1) nu).1) (mSg pd n a) ((rNum pd n (a + 1) nu).2) 0) H) hP hE (zq_rr hE hP)) rfl rfl hl.1 rfl (lv_room (Nat.le_of_ble_eq_true rfl)) dX4_readOrder_108 ⟨Nat.le_of_ble_eq_true rfl, Nat.le_of_ble_eq_true rfl⟩) hS (fun _ h => h) (fun _ h => h) (fun r_ H locs hQ_ _ _ hS => ?_)
        obtain ⟨hr_, hP⟩ := hQ_
        subst hr_
        refine zbp_eq (P := rDig pd n ((rNum pd n (a + 1) nu).1 + 1)) (tgt := 118) hx hb dX4_readOrder_111 (by decide) (fun c_111 => ?_) (fun c_111 => ?_)
        · refine lv_iconst (v := 0) hx hb dX4_readOrder_118 (by decide +kernel) ?_
          have htk_ : rTok pd n a nu = (false, (rNum pd n (a + 1) nu).1 + 1, (rNum pd n (a + 1) nu).2, 0) := (if_pos (show rSign pd n a from Or.inl c_26)).trans ((if_pos c_82).trans ((if_pos ⟨Or.inl c_26, c_104⟩).trans (if_neg c_111)))
          exact zr_z hx hb hr hlocks hS (by first | exact Or.inl rfl | exact Or.inr rfl | exact z_ite01 | assumption) (⟨by rw [htk_]; rfl, by rw [htk_]; first | exact hP | (rw [if_pos c_111, if_pos c_111] at hP; exact hP) | (rw [if_neg c_111, if_neg c_111] at hP; exact hP)⟩) dX4_readOrder_119
        · refine lv_iconst (v := 1) hx hb dX4_readOrder_114 (by decide +kernel) ?_
          refine lv_goto (tgt := 119) hx hb dX4_readOrder_115 (by decide) ?_
          have htk_ : rTok pd n a nu = (true, (rNum pd n (a + 1) nu).1 + 2, (rNum pd n (a + 1) nu).2, mSg pd n ((rNum pd n (a + 1) nu).1 + 1) - 48) := (if_pos (show rSign pd n a from Or.inl c_26)).trans ((if_pos c_82).trans ((if_pos ⟨Or.inl c_26, c_104⟩).trans (if_pos c_111)))
          exact zr_z hx hb hr hlocks hS (by first | exact Or.inl rfl | exact Or.inr rfl | exact z_ite01 | assumption) (⟨by rw [htk_]; rfl, by rw [htk_]; first | exact hP | (rw [if_pos c_111, if_pos c_111] at hP; exact hP) | (rw [if_neg c_111, if_neg c_111] at hP; exact hP)⟩) dX4_readOrder_119
    · refine lv_iconst (v := 0) hx hb dX4_readOrder_85 (by decide +kernel) ?_
      have htk_ : rTok pd n a nu = (false, a + 1, nu, 0) := (if_pos (show rSign pd n a from Or.inl c_26)).trans (if_neg c_82)
      rw [show rNum pd n (a + 1) nu = (a + 1, nu) from if_neg c_82] at hP
      exact zr_z hx hb hr hlocks hS (by first | exact Or.inl rfl | exact Or.inr rfl | exact z_ite01 | assumption) (⟨by rw [htk_]; rfl, by rw [htk_]; exact hP⟩) dX4_readOrder_86
  · refine lv_aload_n hx hb dX4_readOrder_29 rfl (lv_at hl 0 rfl) ?_
    refine zo_get 2 (.int (mSg pd n a)) hx hb hts (fun x h => List.mem_cons_of_mem _ (hU_X4 x h)) hown hE (zq_r hP) (show vwCl[4]? = some (RX4, TX4, 5) from rfl) (by decide) rfl (hts _ (List.mem_cons_of_mem _ uC_218)) (fun _ h9 => h9) dX4_readOrder_30 ?_
    refine lv_bipush (v := 119) hx hb dX4_readOrder_33 (by decide +kernel) ?_
    refine lv_icmp_ne (tgt := 42) hx hb dX4_readOrder_35 (by decide) (fun c_35 => ?_) (fun c_35 => ?_)
    · refine lv_iconst (v := 0) hx hb dX4_readOrder_42 (by decide +kernel) ?_
      refine lv_istore_n (lv' := [(1, .int 0), (0, .ref (g 2))]) hx hb dX4_readOrder_43 rfl hl (by decide) rfl (fun ls hl => ?_)
      refine lv_iload_n hx hb dX4_readOrder_44 rfl (lv_at hl 0 rfl) ?_
      refine lv_if_ne (tgt := 68) hx hb dX4_readOrder_45 (by decide) (fun c_45 => ?_) (fun c_45 => ?_)
      · exact absurd c_45 (by decide +kernel)
      refine lv_aload_n hx hb dX4_readOrder_48 rfl (lv_at hl 1 rfl) ?_
      refine zo_get 2 (.int (mSg pd n a)) hx hb hts (fun x h => List.mem_cons_of_mem _ (hU_X4 x h)) hown hE (zq_r hP) (show vwCl[4]? = some (RX4, TX4, 5) from rfl) (by decide) rfl (hts _ (List.mem_cons_of_mem _ uC_218)) (fun _ h9 => h9) dX4_readOrder_49 ?_
      refine lv_bipush (v := 115) hx hb dX4_readOrder_52 (by decide +kernel) ?_
      refine lv_icmp_eq (tgt := 68) hx hb dX4_readOrder_54 (by decide) (fun c_54 => ?_) (fun c_54 => ?_)
      · refine lv_aload_n hx hb dX4_readOrder_68 rfl (lv_at hl 1 rfl) ?_
        refine lv_dup hx hb dX4_readOrder_69 rfl ?_
        refine zo_get 1 (.int (nI a)) hx hb hts (fun x h => List.mem_cons_of_mem _ (hU_X4 x h)) hown hE (zq_r hP) (show vwCl[4]? = some (RX4, TX4, 5) from rfl) (by decide) rfl (hts _ (List.mem_cons_of_mem _ uC_201)) (fun _ h9 => h9) dX4_readOrder_70 ?_
        refine lv_iconst (v := 1) hx hb dX4_readOrder_73 (by decide +kernel) ?_
        refine lv_iadd hx hb dX4_readOrder_74 ?_
        refine zt_i (z_add (a := a) (b := 1) (by first | rfl | omega)) ?_
        refine zo_put (p0 := 2) 1 (.int (nI (a + 1))) .int hx hb hts (fun x h => List.mem_cons_of_mem _ (hU_X4 x h)) tyX4 tyX4_ok nmX4 hown hE hP (zD hJ) hS (zq_c2 V g n pd a (mSg pd n a) nu 0) (show vwCl[4]? = some (RX4, TX4, 5) from rfl) (by decide) (Nat.le_of_ble_eq_true rfl) rfl (by decide +kernel) rfl rfl (hts _ (List.mem_cons_of_mem _ uC_201)) (fun _ h9 => h9) dX4_readOrder_75 (fun H locs hP hS => ?_)
        have hP : va_P V.1 vwCl (zqW V g n pd (a + 1) (mSg pd n a) nu 0) H := (zq_s2 (V := V) (g := g) (a + 1) (mSg pd n a) nu 0) ▸ hP
        refine lv_aload_n hx hb dX4_readOrder_78 rfl (lv_at hl 1 rfl) ?_
        refine zc_i (va_runV (As := []) (rest := []) ⟨hx, hb, hml, hown, hts⟩ (c_X4_readNumber l V g n pd (a + 1) (mSg pd n a) nu 0 hJ (by omega) (by omega)) (cwV 0 hts (zgV_ wsC_all uC_206 uC_219 uC_220 uC_221 uC_211) rfl rfl rfl (by decide +kernel) ⟨Nat.le_of_ble_eq_true rfl, Nat.le_of_ble_eq_true rfl⟩) (zPreV (B := fun H => va_P V.1 vwCl (zqW V g n pd (a + 1) (mSg pd n a) nu 0) H) hP hE (zq_rr hE hP)) rfl rfl hl.1 rfl (lv_room (Nat.le_of_ble_eq_true rfl)) dX4_readOrder_79 ⟨Nat.le_of_ble_eq_true rfl, Nat.le_of_ble_eq_true rfl⟩) hS (fun _ h => h) (fun _ h => h) (fun r_ H locs hQ_ _ _ hS => ?_)
        obtain ⟨hr_, hP⟩ := hQ_
        subst hr_
        refine zbp_ne (P := rDig pd n (a + 1)) (tgt := 87) hx hb dX4_readOrder_82 (by decide) (fun c_82 => ?_) (fun c_82 => ?_)
        · have hrl_ := rNum_le (pd := pd) (n := n) (a := a + 1) (nu := nu)
          refine lv_iload_n hx hb dX4_readOrder_87 rfl (lv_at hl 0 rfl) ?_
          refine lv_if_eq (tgt := 114) hx hb dX4_readOrder_88 (by decide) (fun c_88 => ?_) (fun c_88 => ?_)
          rotate_left
          · exact absurd c_88 (by decide +kernel)
          refine lv_iconst (v := 1) hx hb dX4_readOrder_114 (by decide +kernel) ?_
          refine lv_goto (tgt := 119) hx hb dX4_readOrder_115 (by decide) ?_
          have htk_ : rTok pd n a nu = (true, (rNum pd n (a + 1) nu).1, (rNum pd n (a + 1) nu).2, 0) := (if_pos (show rSign pd n a from Or.inr (Or.inr (Or.inl c_54)))).trans ((if_pos c_82).trans (if_neg (fun h => h.1.elim c_26 c_35)))
          exact zr_z hx hb hr hlocks hS (by first | exact Or.inl rfl | exact Or.inr rfl | exact z_ite01 | assumption) (⟨by rw [htk_]; rfl, by rw [htk_]; exact hP⟩) dX4_readOrder_119
        · refine lv_iconst (v := 0) hx hb dX4_readOrder_85 (by decide +kernel) ?_
          have htk_ : rTok pd n a nu = (false, a + 1, nu, 0) := (if_pos (show rSign pd n a from Or.inr (Or.inr (Or.inl c_54)))).trans (if_neg c_82)
          rw [show rNum pd n (a + 1) nu = (a + 1, nu) from if_neg c_82] at hP
          exact zr_z hx hb hr hlocks hS (by first | exact Or.inl rfl | exact Or.inr rfl | exact z_ite01 | assumption) (⟨by rw [htk_]; rfl, by rw [htk_]; exact hP⟩) dX4_readOrder_86
      · refine lv_aload_n hx hb dX4_readOrder_57 rfl (lv_at hl 1 rfl) ?_
        refine zo_get 2 (.int (mSg pd n a)) hx hb hts (fun x h => List.mem_cons_of_mem _ (hU_X4 x h)) hown hE (zq_r hP) (show vwCl[4]? = some (RX4, TX4, 5) from rfl) (by decide) rfl (hts _ (List.mem_cons_of_mem _ uC_218)) (fun _ h9 => h9) dX4_readOrder_58 ?_
        refine lv_bipush (v := 116) hx hb dX4_readOrder_61 (by decide +kernel) ?_
        refine lv_icmp_eq (tgt := 68) hx hb dX4_readOrder_63 (by decide) (fun c_63 => ?_) (fun c_63 => ?_)
        · refine lv_aload_n hx hb dX4_readOrder_68 rfl (lv_at hl 1 rfl) ?_
          refine lv_dup hx hb dX4_readOrder_69 rfl ?_
          refine zo_get 1 (.int (nI a)) hx hb hts (fun x h => List.mem_cons_of_mem _ (hU_X4 x h)) hown hE (zq_r hP) (show vwCl[4]? = some (RX4, TX4, 5) from rfl) (by decide) rfl (hts _ (List.mem_cons_of_mem _ uC_201)) (fun _ h9 => h9) dX4_readOrder_70 ?_
          refine lv_iconst (v := 1) hx hb dX4_readOrder_73 (by decide +kernel) ?_
          refine lv_iadd hx hb dX4_readOrder_74 ?_
          refine zt_i (z_add (a := a) (b := 1) (by first | rfl | omega)) ?_
          refine zo_put (p0 := 2) 1 (.int (nI (a + 1))) .int hx hb hts (fun x h => List.mem_cons_of_mem _ (hU_X4 x h)) tyX4 tyX4_ok nmX4 hown hE hP (zD hJ) hS (zq_c2 V g n pd a (mSg pd n a) nu 0) (show vwCl[4]? = some (RX4, TX4, 5) from rfl) (by decide) (Nat.le_of_ble_eq_true rfl) rfl (by decide +kernel) rfl rfl (hts _ (List.mem_cons_of_mem _ uC_201)) (fun _ h9 => h9) dX4_readOrder_75 (fun H locs hP hS => ?_)
          have hP : va_P V.1 vwCl (zqW V g n pd (a + 1) (mSg pd n a) nu 0) H := (zq_s2 (V := V) (g := g) (a + 1) (mSg pd n a) nu 0) ▸ hP
          refine lv_aload_n hx hb dX4_readOrder_78 rfl (lv_at hl 1 rfl) ?_
          refine zc_i (va_runV (As := []) (rest := []) ⟨hx, hb, hml, hown, hts⟩ (c_X4_readNumber l V g n pd (a + 1) (mSg pd n a) nu 0 hJ (by omega) (by omega)) (cwV 0 hts (zgV_ wsC_all uC_206 uC_219 uC_220 uC_221 uC_211) rfl rfl rfl (by decide +kernel) ⟨Nat.le_of_ble_eq_true rfl, Nat.le_of_ble_eq_true rfl⟩) (zPreV (B := fun H => va_P V.1 vwCl (zqW V g n pd (a + 1) (mSg pd n a) nu 0) H) hP hE (zq_rr hE hP)) rfl rfl hl.1 rfl (lv_room (Nat.le_of_ble_eq_true rfl)) dX4_readOrder_79 ⟨Nat.le_of_ble_eq_true rfl, Nat.le_of_ble_eq_true rfl⟩) hS (fun _ h => h) (fun _ h => h) (fun r_ H locs hQ_ _ _ hS => ?_)
          obtain ⟨hr_, hP⟩ := hQ_
          subst hr_
          refine zbp_ne (P := rDig pd n (a + 1)) (tgt := 87) hx hb dX4_readOrder_82 (by decide) (fun c_82 => ?_) (fun c_82 => ?_)
          · have hrl_ := rNum_le (pd := pd) (n := n) (a := a + 1) (nu := nu)
            refine lv_iload_n hx hb dX4_readOrder_87 rfl (lv_at hl 0 rfl) ?_
            refine lv_if_eq (tgt := 114) hx hb dX4_readOrder_88 (by decide) (fun c_88 => ?_) (fun c_88 => ?_)
            rotate_left
            · exact absurd c_88 (by decide +kernel)
            refine lv_iconst (v := 1) hx hb dX4_readOrder_114 (by decide +kernel) ?_
            refine lv_goto (tgt := 119) hx hb dX4_readOrder_115 (by decide) ?_
            have htk_ : rTok pd n a nu = (true, (rNum pd n (a + 1) nu).1, (rNum pd n (a + 1) nu).2, 0) := (if_pos (show rSign pd n a from Or.inr (Or.inr (Or.inr c_63)))).trans ((if_pos c_82).trans (if_neg (fun h => h.1.elim c_26 c_35)))
            exact zr_z hx hb hr hlocks hS (by first | exact Or.inl rfl | exact Or.inr rfl | exact z_ite01 | assumption) (⟨by rw [htk_]; rfl, by rw [htk_]; exact hP⟩) dX4_readOrder_119
          · refine lv_iconst (v := 0) hx hb dX4_readOrder_85 (by decide +kernel) ?_
            have htk_ : rTok pd n a nu = (false, a + 1, nu, 0) := (if_pos (show rSign pd n a from Or.inr (Or.inr (Or.inr c_63)))).trans (if_neg c_82)
            rw [show rNum pd n (a + 1) nu = (a + 1, nu) from if_neg c_82] at hP
            exact zr_z hx hb hr hlocks hS (by first | exact Or.inl rfl | exact Or.inr rfl | exact z_ite01 | assumption) (⟨by rw [htk_]; rfl, by rw [htk_]; exact hP⟩) dX4_readOrder_86
        · refine lv_iconst (v := 0) hx hb dX4_readOrder_66 (by decide +kernel) ?_
          have htk_ : rTok pd n a nu = (false, a, nu, 0) := if_neg (fun h => h.elim c_26 (fun h => h.elim c_35 (fun h => h.elim c_54 c_63)))
          exact zr_z hx hb hr hlocks hS (by first | exact Or.inl rfl | exact Or.inr rfl | exact z_ite01 | assumption) (⟨by rw [htk_]; rfl, by rw [htk_]; exact hP⟩) dX4_readOrder_67
    · refine lv_iconst (v := 1) hx hb dX4_readOrder_38 (by decide +kernel) ?_
      refine lv_goto (tgt := 43) hx hb dX4_readOrder_39 (by decide) ?_
      refine lv_istore_n (lv' := [(1, .int 1), (0, .ref (g 2))]) hx hb dX4_readOrder_43 rfl hl (by decide) rfl (fun ls hl => ?_)
      refine lv_iload_n hx hb dX4_readOrder_44 rfl (lv_at hl 0 rfl) ?_
      refine lv_if_ne (tgt := 68) hx hb dX4_readOrder_45 (by decide) (fun c_45 => ?_) (fun c_45 => ?_)
      rotate_left
      · exact absurd c_45 (by decide +kernel)
      refine lv_aload_n hx hb dX4_readOrder_68 rfl (lv_at hl 1 rfl) ?_
      refine lv_dup hx hb dX4_readOrder_69 rfl ?_
      refine zo_get 1 (.int (nI a)) hx hb hts (fun x h => List.mem_cons_of_mem _ (hU_X4 x h)) hown hE (zq_r hP) (show vwCl[4]? = some (RX4, TX4, 5) from rfl) (by decide) rfl (hts _ (List.mem_cons_of_mem _ uC_201)) (fun _ h9 => h9) dX4_readOrder_70 ?_
      refine lv_iconst (v := 1) hx hb dX4_readOrder_73 (by decide +kernel) ?_
      refine lv_iadd hx hb dX4_readOrder_74 ?_
      refine zt_i (z_add (a := a) (b := 1) (by first | rfl | omega)) ?_
      refine zo_put (p0 := 2) 1 (.int (nI (a + 1))) .int hx hb hts (fun x h => List.mem_cons_of_mem _ (hU_X4 x h)) tyX4 tyX4_ok nmX4 hown hE hP (zD hJ) hS (zq_c2 V g n pd a (mSg pd n a) nu 0) (show vwCl[4]? = some (RX4, TX4, 5) from rfl) (by decide) (Nat.le_of_ble_eq_true rfl) rfl (by decide +kernel) rfl rfl (hts _ (List.mem_cons_of_mem _ uC_201)) (fun _ h9 => h9) dX4_readOrder_75 (fun H locs hP hS => ?_)
      have hP : va_P V.1 vwCl (zqW V g n pd (a + 1) (mSg pd n a) nu 0) H := (zq_s2 (V := V) (g := g) (a + 1) (mSg pd n a) nu 0) ▸ hP
      refine lv_aload_n hx hb dX4_readOrder_78 rfl (lv_at hl 1 rfl) ?_
      refine zc_i (va_runV (As := []) (rest := []) ⟨hx, hb, hml, hown, hts⟩ (c_X4_readNumber l V g n pd (a + 1) (mSg pd n a) nu 0 hJ (by omega) (by omega)) (cwV 0 hts (zgV_ wsC_all uC_206 uC_219 uC_220 uC_221 uC_211) rfl rfl rfl (by decide +kernel) ⟨Nat.le_of_ble_eq_true rfl, Nat.le_of_ble_eq_true rfl⟩) (zPreV (B := fun H => va_P V.1 vwCl (zqW V g n pd (a + 1) (mSg pd n a) nu 0) H) hP hE (zq_rr hE hP)) rfl rfl hl.1 rfl (lv_room (Nat.le_of_ble_eq_true rfl)) dX4_readOrder_79 ⟨Nat.le_of_ble_eq_true rfl, Nat.le_of_ble_eq_true rfl⟩) hS (fun _ h => h) (fun _ h => h) (fun r_ H locs hQ_ _ _ hS => ?_)
      obtain ⟨hr_, hP⟩ := hQ_
      subst hr_
      refine zbp_ne (P := rDig pd n (a + 1)) (tgt := 87) hx hb dX4_readOrder_82 (by decide) (fun c_82 => ?_) (fun c_82 => ?_)
      · have hrl_ := rNum_le (pd := pd) (n := n) (a := a + 1) (nu := nu)
        refine lv_iload_n hx hb dX4_readOrder_87 rfl (lv_at hl 0 rfl) ?_
        refine lv_if_eq (tgt := 114) hx hb dX4_readOrder_88 (by decide) (fun c_88 => ?_) (fun c_88 => ?_)
        · exact absurd c_88 (by decide +kernel)
        refine lv_aload_n hx hb dX4_readOrder_91 rfl (lv_at hl 1 rfl) ?_
        refine zo_get 0 (.ref (g 0)) hx hb hts (fun x h => List.mem_cons_of_mem _ (hU_X4 x h)) hown hE (zq_r hP) (show vwCl[4]? = some (RX4, TX4, 5) from rfl) (by decide) rfl (hts _ (List.mem_cons_of_mem _ uC_199)) (fun _ h9 => h9) dX4_readOrder_92 ?_
        refine lv_aload_n hx hb dX4_readOrder_95 rfl (lv_at hl 1 rfl) ?_
        refine zo_get 1 (.int (nI ((rNum pd n (a + 1) nu).1))) hx hb hts (fun x h => List.mem_cons_of_mem _ (hU_X4 x h)) hown hE (zq_r hP) (show vwCl[4]? = some (RX4, TX4, 5) from rfl) (by decide) rfl (hts _ (List.mem_cons_of_mem _ uC_201)) (fun _ h9 => h9) dX4_readOrder_96 ?_
        refine zc_se (va_runVN (As := [.int (nI ((rNum pd n (a + 1) nu).1))]) (rest := []) ⟨hx, hb, hml, hown, hts⟩ (c_X3_signAt l V g n pd ((rNum pd n (a + 1) nu).1) (mSg pd n a) ((rNum pd n (a + 1) nu).2) 0 ((rNum pd n (a + 1) nu).1) (by omega) (by omega)) ⟨va_cnB 1 hts (zgB_ wsC_all uC_185) rfl rfl rfl (hE.2 (.methodLinkNest RX4 28 yX3_signAt "DrawerSlips") (List.mem_of_getElem? (i := 78) rfl)) (hts _ (List.mem_cons_of_mem _ uC_192)) (by decide +kernel) ⟨Nat.le_of_ble_eq_true rfl, Nat.le_of_ble_eq_true rfl⟩, (hts _ (List.mem_cons_of_mem _ uC_203)), (hts _ (List.mem_cons_of_mem _ uC_204))⟩ (zPreV (B := fun H => va_P V.1 vwCl (zqW V g n pd ((rNum pd n (a + 1) nu).1) (mSg pd n a) ((rNum pd n (a + 1) nu).2) 0) H) hP hE (zq_rp hE hP)) rfl rfl hl.1 rfl (lv_room (Nat.le_of_ble_eq_true rfl)) dX4_readOrder_99 ⟨Nat.le_of_ble_eq_true rfl, Nat.le_of_ble_eq_true rfl⟩) ?_
        refine lv_bipush (v := 43) hx hb dX4_readOrder_102 (by decide +kernel) ?_
        refine lv_icmp_ne (tgt := 114) hx hb dX4_readOrder_104 (by decide) (fun c_104 => ?_) (fun c_104 => ?_)
        · refine lv_iconst (v := 1) hx hb dX4_readOrder_114 (by decide +kernel) ?_
          refine lv_goto (tgt := 119) hx hb dX4_readOrder_115 (by decide) ?_
          have htk_ : rTok pd n a nu = (true, (rNum pd n (a + 1) nu).1, (rNum pd n (a + 1) nu).2, 0) := (if_pos (show rSign pd n a from Or.inr (Or.inl c_35))).trans ((if_pos c_82).trans (if_neg (fun h => c_104 h.2)))
          exact zr_z hx hb hr hlocks hS (by first | exact Or.inl rfl | exact Or.inr rfl | exact z_ite01 | assumption) (⟨by rw [htk_]; rfl, by rw [htk_]; exact hP⟩) dX4_readOrder_119
        · refine lv_aload_n hx hb dX4_readOrder_107 rfl (lv_at hl 1 rfl) ?_
          refine zc_i (va_runV (As := []) (rest := []) ⟨hx, hb, hml, hown, hts⟩ (c_X4_readMore l V g n pd ((rNum pd n (a + 1) nu).1) (mSg pd n a) ((rNum pd n (a + 1) nu).2) 0 hJ (by omega) (by omega)) (cwV 0 hts (zgV_ wsC_all uC_215 uC_222 uC_223 uC_224 uC_211) rfl rfl rfl (by decide +kernel) ⟨Nat.le_of_ble_eq_true rfl, Nat.le_of_ble_eq_true rfl⟩) (zPreV (B := fun H => va_P V.1 vwCl (zqW V g n pd ((rNum pd n (a + 1) nu).1) (mSg pd n a) ((rNum pd n (a + 1) nu).2) 0) H) hP hE (zq_rr hE hP)) rfl rfl hl.1 rfl (lv_room (Nat.le_of_ble_eq_true rfl)) dX4_readOrder_108 ⟨Nat.le_of_ble_eq_true rfl, Nat.le_of_ble_eq_true rfl⟩) hS (fun _ h => h) (fun _ h => h) (fun r_ H locs hQ_ _ _ hS => ?_)
          obtain ⟨hr_, hP⟩ := hQ_
          subst hr_
          refine zbp_eq (P := rDig pd n ((rNum pd n (a + 1) nu).1 + 1)) (tgt := 118) hx hb dX4_readOrder_111 (by decide) (fun c_111 => ?_) (fun c_111 => ?_)
          · refine lv_iconst (v := 0) hx hb dX4_readOrder_118 (by decide +kernel) ?_
            have htk_ : rTok pd n a nu = (false, (rNum pd n (a + 1) nu).1 + 1, (rNum pd n (a + 1) nu).2, 0) := (if_pos (show rSign pd n a from Or.inr (Or.inl c_35))).trans ((if_pos c_82).trans ((if_pos ⟨Or.inr c_35, c_104⟩).trans (if_neg c_111)))
            exact zr_z hx hb hr hlocks hS (by first | exact Or.inl rfl | exact Or.inr rfl | exact z_ite01 | assumption) (⟨by rw [htk_]; rfl, by rw [htk_]; first | exact hP | (rw [if_pos c_111, if_pos c_111] at hP; exact hP) | (rw [if_neg c_111, if_neg c_111] at hP; exact hP)⟩) dX4_readOrder_119
          · refine lv_iconst (v := 1) hx hb dX4_readOrder_114 (by decide +kernel) ?_
            refine lv_goto (tgt := 119) hx hb dX4_readOrder_115 (by decide) ?_
            have htk_ : rTok pd n a nu = (true, (rNum pd n (a + 1) nu).1 + 2, (rNum pd n (a + 1) nu).2, mSg pd n ((rNum pd n (a + 1) nu).1 + 1) - 48) := (if_pos (show rSign pd n a from Or.inr (Or.inl c_35))).trans ((if_pos c_82).trans ((if_pos ⟨Or.inr c_35, c_104⟩).trans (if_pos c_111)))
            exact zr_z hx hb hr hlocks hS (by first | exact Or.inl rfl | exact Or.inr rfl | exact z_ite01 | assumption) (⟨by rw [htk_]; rfl, by rw [htk_]; first | exact hP | (rw [if_pos c_111, if_pos c_111] at hP; exact hP) | (rw [if_neg c_111, if_neg c_111] at hP; exact hP)⟩) dX4_readOrder_119
      · refine lv_iconst (v := 0) hx hb dX4_readOrder_85 (by decide +kernel) ?_
        have htk_ : rTok pd n a nu = (false, a + 1, nu, 0) := (if_pos (show rSign pd n a from Or.inr (Or.inl c_35))).trans (if_neg c_82)
        rw [show rNum pd n (a + 1) nu = (a + 1, nu) from if_neg c_82] at hP
        exact zr_z hx hb hr hlocks hS (by first | exact Or.inl rfl | exact Or.inr rfl | exact z_ite01 | assumption) (⟨by rw [htk_]; rfl, by rw [htk_]; exact hP⟩) dX4_readOrder_86
theorem z_x10 (x y : Int32) : x * 10 + (y - 48) = 10 * x + y - 48 := by
  rw [Int32.mul_comm x 10, Int32.sub_eq_add_neg, Int32.sub_eq_add_neg, Int32.add_assoc]
theorem z_dig0 {x : Int32} (h : 48 ≤ x ∧ x ≤ 57) : ¬ x - 48 = 0 ↔ 0 < x - 48 := by
  obtain ⟨j, rfl, h1, h2⟩ := z_ix (na := 48) (nb := 57) rfl rfl (by decide) (by decide) h
  rw [show nI j - 48 = nI j - nI 48 from rfl, pk_sub h1, show (0 : Int32) = nI 0 from rfl, nI_ltI (by decide) (by omega), nI_eq (by omega) (by decide)]
  omega
theorem rNum_m {pd : Nat → Int32} {n a : Nat} {nu : Int32} (h : rDig pd n a) : (rNum pd n a nu).1 = (mNum pd n a).2 ∧ (rNum pd n a nu).2 = (mNum pd n a).1 := by
  have h1 := mSg_dig.mp h
  have e : mSg pd n a = pd a := if_pos h1.1
  have hz : ¬ pd a - 48 = 0 ↔ 0 < pd a - 48 := z_dig0 h1.2
  rw [rNum, if_pos h, e]
  unfold mNum
  by_cases q : 0 < pd a - 48 ∧ (a + 1 < n ∧ (48 ≤ pd (a + 1) ∧ pd (a + 1) ≤ 57))
  · have e2 : mSg pd n (a + 1) = pd (a + 1) := if_pos q.2.1
    rw [if_pos q, if_pos (show ¬ pd a - 48 = 0 ∧ rDig pd n (a + 1) from ⟨hz.mpr q.1, mSg_dig.mpr q.2⟩), e2]
    exact ⟨rfl, z_x10 _ _⟩
  · rw [if_neg q, if_neg (show ¬ (¬ pd a - 48 = 0 ∧ rDig pd n (a + 1)) from fun z => q ⟨hz.mp z.1, mSg_dig.mp z.2⟩)]
    exact ⟨rfl, rfl⟩
theorem rTok_m (pd : Nat → Int32) (n a : Nat) (nu : Int32) : (rTok pd n a nu).1 = (mTok pd n a).1 ∧ (rTok pd n a nu).2.1 = (mTok pd n a).2.1 ∧ (mTok pd n a).2.2.1 = mSg pd n a ∧ ((mTok pd n a).1 = true → (rTok pd n a nu).2.2.1 = (mTok pd n a).2.2.2.1 ∧ (rTok pd n a nu).2.2.2 = (mTok pd n a).2.2.2.2) := by
  by_cases h0 : rSign pd n a
  · by_cases h1 : rDig pd n (a + 1)
    · have h1' := mSg_dig.mp h1
      obtain ⟨e1, e2⟩ := rNum_m (nu := nu) h1
      by_cases h2 : rSort pd n a ∧ mSg pd n (mNum pd n (a + 1)).2 = 43
      · have h2' := (mSg_is (by decide)).mp h2.2
        by_cases h3 : rDig pd n ((mNum pd n (a + 1)).2 + 1)
        · have h3' := mSg_dig.mp h3
          rw [show rTok pd n a nu = (true, (mNum pd n (a + 1)).2 + 2, (mNum pd n (a + 1)).1, mSg pd n ((mNum pd n (a + 1)).2 + 1) - 48) by rw [rTok, if_pos h0, if_pos h1, e1, e2, if_pos h2, if_pos h3], show mTok pd n a = (true, (mNum pd n (a + 1)).2 + 2, mSg pd n a, (mNum pd n (a + 1)).1, pd ((mNum pd n (a + 1)).2 + 1) - 48) by rw [mTok, if_pos h0, if_pos h1', if_pos ⟨h2.1, h2'⟩, if_pos h3'], show mSg pd n ((mNum pd n (a + 1)).2 + 1) = pd ((mNum pd n (a + 1)).2 + 1) from if_pos h3'.1]
          exact ⟨rfl, rfl, rfl, fun _ => ⟨rfl, rfl⟩⟩
        · have h3' : ¬ ((mNum pd n (a + 1)).2 + 1 < n ∧ (48 ≤ pd ((mNum pd n (a + 1)).2 + 1) ∧ pd ((mNum pd n (a + 1)).2 + 1) ≤ 57)) := fun z => h3 (mSg_dig.mpr z)
          rw [show rTok pd n a nu = (false, (mNum pd n (a + 1)).2 + 1, (mNum pd n (a + 1)).1, 0) by rw [rTok, if_pos h0, if_pos h1, e1, e2, if_pos h2, if_neg h3], show mTok pd n a = (false, (mNum pd n (a + 1)).2 + 1, mSg pd n a, 0, 0) by rw [mTok, if_pos h0, if_pos h1', if_pos ⟨h2.1, h2'⟩, if_neg h3']]
          exact ⟨rfl, rfl, rfl, fun z => by cases z⟩
      · have h2' : ¬ ((mSg pd n a = 114 ∨ mSg pd n a = 119) ∧ ((mNum pd n (a + 1)).2 < n ∧ (43 ≤ pd (mNum pd n (a + 1)).2 ∧ pd (mNum pd n (a + 1)).2 ≤ 43))) := fun z => h2 ⟨z.1, (mSg_is (by decide)).mpr z.2⟩
        rw [show rTok pd n a nu = (true, (mNum pd n (a + 1)).2, (mNum pd n (a + 1)).1, 0) by rw [rTok, if_pos h0, if_pos h1, e1, e2, if_neg h2], show mTok pd n a = (true, (mNum pd n (a + 1)).2, mSg pd n a, (mNum pd n (a + 1)).1, 0) by rw [mTok, if_pos h0, if_pos h1', if_neg h2']]
        exact ⟨rfl, rfl, rfl, fun _ => ⟨rfl, rfl⟩⟩
    · have h1' : ¬ (a + 1 < n ∧ (48 ≤ pd (a + 1) ∧ pd (a + 1) ≤ 57)) := fun z => h1 (mSg_dig.mpr z)
      rw [show rTok pd n a nu = (false, a + 1, nu, 0) by rw [rTok, if_pos h0, if_neg h1], show mTok pd n a = (false, a + 1, mSg pd n a, 0, 0) by rw [mTok, if_pos h0, if_neg h1']]
      exact ⟨rfl, rfl, rfl, fun z => by cases z⟩
  · rw [show rTok pd n a nu = (false, a, nu, 0) by rw [rTok, if_neg h0], show mTok pd n a = (false, a, mSg pd n a, 0, 0) by rw [mTok, if_neg h0]]
    exact ⟨rfl, rfl, rfl, fun z => by cases z⟩
