def zLe (j : Nat) : Int32 := if j = 4 then 0 else 1
def zMo (j : Nat) : Int32 := if j < 2 then 999 else if j = 2 then 16 else if j = 5 then 20 else 9
def zFi (j : Nat) : Int32 := if j = 0 then 50 else if j = 1 then 200 else if j = 2 then 4 else if j = 3 then 2 else if j = 4 then 1 else 2
-- the class's three tables, which nobody writes
def zSt (nm : String) (f : Nat → Int32) (A : Nat → Prop) (U : State) (H : Heap) : Prop := ∃ t : Nat, va_Z RX7 nm "[I" (.ref t) A U H ∧ va_T .int t 6 (fun j => .int (f j)) A U H
def zST (A : Nat → Prop) (U : State) (H : Heap) : Prop := zSt "LEAST_VALUES" zLe A U H ∧ zSt "MOST_VALUES" zMo A U H ∧ zSt "FIRST_VALUES" zFi A U H
theorem zSt.moved {nm : String} {f : Nat → Int32} {A : Nat → Prop} {u U : State} {H : Heap} (hvm : u.vm.Alike U.vm) (h : zSt nm f A u H) : zSt nm f A U H := by
  obtain ⟨t, h1, h2⟩ := h
  exact ⟨t, va_Z.moved hvm h1, va_T.moved hvm h2⟩
theorem zSt.kept {nm : String} {f : Nat → Int32} {A : Nat → Prop} {U : State} {H H1 : Heap} (h : zSt nm f A U H) (hq : ∀ a : Nat, a < H.size → ¬ A a → H1[a]? = H[a]?) : zSt nm f A U H1 := by
  obtain ⟨t, h1, h2⟩ := h
  exact ⟨t, va_Z.kept h1 hq, va_T.kept h2 hq⟩
theorem zSt.narrow {nm : String} {f : Nat → Int32} {A B : Nat → Prop} {U : State} {H : Heap} (h : zSt nm f A U H) (hAB : ∀ q, B q → A q) : zSt nm f B U H := by
  obtain ⟨t, h1, h2⟩ := h
  exact ⟨t, va_Z.narrow h1 hAB, va_T.narrow h2 hAB⟩
theorem zST.moved {A : Nat → Prop} {u U : State} {H : Heap} (hvm : u.vm.Alike U.vm) (h : zST A u H) : zST A U H := ⟨h.1.moved hvm, h.2.1.moved hvm, h.2.2.moved hvm⟩
theorem zST.kept {A : Nat → Prop} {U : State} {H H1 : Heap} (h : zST A U H) (hq : ∀ a : Nat, a < H.size → ¬ A a → H1[a]? = H[a]?) : zST A U H1 := ⟨h.1.kept hq, h.2.1.kept hq, h.2.2.kept hq⟩
theorem zST.narrow {A B : Nat → Prop} {U : State} {H : Heap} (h : zST A U H) (hAB : ∀ q, B q → A q) : zST B U H := ⟨h.1.narrow hAB, h.2.1.narrow hAB, h.2.2.narrow hAB⟩
theorem zST.calling {A : Nat → Prop} {U : State} {g : JFrame} {mk : MethodId} {v : Array Value} (h : zST A U U.heap) : zST A (U.calling g mk v) (U.calling g mk v).heap := zST.moved (u := U) (U := U.calling g mk v) (Vm.Alike.refl U.vm) h
theorem zRd_T {A : Nat → Prop} {U : State} {H : Heap} {t : Nat} {f : Nat → Int32} (h : va_T .int t 6 (fun j => .int (f j)) A U H) : zRd U H t 6 f := by
  obtain ⟨cell, h1, h2, h3, h4, h5, h6, h7⟩ := h
  exact ⟨cell, h1, h2, h3, h4, h5, h6⟩
def kAdjR (T : Nat → Int32) (x v : Int32) : Int32 := if (0 ≤ x ∧ x < nI 6) ∧ zLe x.toNatClampNeg ≤ v ∧ v ≤ zMo x.toNatClampNeg then T x.toNatClampNeg else -2
def kAdjT (T : Nat → Int32) (x v : Int32) : Nat → Int32 := if (0 ≤ x ∧ x < nI 6) ∧ zLe x.toNatClampNeg ≤ v ∧ v ≤ zMo x.toNatClampNeg then upd T x.toNatClampNeg v else T
set_option maxHeartbeats 4000000 in
set_option maxRecDepth 100000 in
theorem c_X0_adjust (l : Launch) (V : zV) (h : Nat → Nat) (F T : Nat → Int32) (lv : Int32) (Ga Gb Gc : Nat → Int32) (P : Nat → Nat → Int32) (x v_ : Int32) (hJ : zInj 36 h) : Met l yX0_adjust wsX0_adjust (zR 1 0 0) (zPs V [.ref (h 0), .int x, .int v_] (fun U => va_P V.1 vwCl (zaW V h F T lv Ga Gb Gc P) U.heap ∧ zST (zIn 36 h) U U.heap)) (zQi (fun r H => r = (kAdjR T x v_) ∧ va_P V.1 vwCl (zaW V h F (kAdjT T x v_) lv Ga Gb Gc P) H) (zIn 36 h)) 0 0 (zIn 36 h) := by
  refine Met.ofW (cc := cX0_adjust) (maxL := 4) (ret := (some .int)) (by decide) rfl ?_
  intro p e s m args below meth c s₁ B hml hv
  obtain ⟨rfl, hP, hE⟩ := hv
  have hx := B.exec
  have hb := B.bytes
  have hr := B.returns
  have hts := atoms_spec (ws := wsX0_adjust) B.pre
  have hown : s.vm.findClass RX0 = some m.cls := findClass_of_methodNamed B.named
  have hlocks := B.notSynchronized
  have hl := lv_entry ([.ref (h 0), .int x, .int v_]) (n := 4) (Nat.le_of_ble_eq_true rfl)
  rw [lg_entry_eq]
  generalize (lg_sl ([.ref (h 0), .int x, .int v_]) ++ List.replicate (4 - (lg_sl ([.ref (h 0), .int x, .int v_])).length) Slot.unset).toArray = ls at hl ⊢
  have hl : lv_has ls 4 [(0, .ref (h 0)), (1, .int x), (2, .int v_)] := hl
  obtain ⟨hP, hX⟩ := hP
  have hS : va_S (zIn 36 h) s.heap s.heap [] := va_S.rf
  obtain ⟨⟨t0, hZ0, hT0⟩, ⟨t1, hZ1, hT1⟩, -⟩ := hX
  refine lv_aload_n hx hb dX0_adjust_0 rfl (lv_at hl 0 rfl) ?_
  refine zo_get 0 (.ref (h 1)) hx hb hts (fun x h => List.mem_cons_of_mem _ (hU_X0 x h)) hown hE (za_o hP) (show vwCl[0]? = some (RX0, TX0, 14) from rfl) (by decide) rfl (hts _ (List.mem_cons_of_mem _ uC_14)) (fun _ h9 => h9) dX0_adjust_1 ?_
  refine lv_iload_n hx hb dX0_adjust_4 rfl (lv_at hl 1 rfl) ?_
  refine zc_se (va_runSN (As := [.ref (h 1), .int x]) (rest := []) ⟨hx, hb, hml, hown, hts⟩ (c_X7_isIndexOf l V (h 1) 6 T x (by first | decide | omega)) ⟨va_cnB 2 hts (zgB_ wsC_all uC_53) rfl rfl rfl (hE.2 (.methodLinkNest RX0 81 yX7_isIndexOf "DrawerSlips") (List.mem_of_getElem? (i := 44) rfl)) (hts _ (List.mem_cons_of_mem _ uC_25)) (by decide +kernel) ⟨Nat.le_of_ble_eq_true rfl, Nat.le_of_ble_eq_true rfl⟩, (hts _ (List.mem_cons_of_mem _ uC_56)), trivial⟩ (zPsS (B := fun U => zRd U U.heap (h 1) 6 T) (fun _ _ _ _ h => zRd_calling h) (fun U hU hvm => by rw [hU]; exact zRd.moved hvm (zRd_of hE (za_t hP))) hE) rfl rfl hl.1 rfl (lv_room (Nat.le_of_ble_eq_true rfl)) dX0_adjust_5 ⟨Nat.le_of_ble_eq_true rfl, Nat.le_of_ble_eq_true rfl⟩) ?_
  refine zbp_ne (P := 0 ≤ x ∧ x < nI 6) (tgt := 14) hx hb dX0_adjust_8 (by decide) (fun c_8 => ?_) (fun c_8 => ?_)
  · obtain ⟨j, rfl, hj⟩ := z_gap (by decide) (z_le' c_8.1) (z_lt' c_8.2)
    refine lv_iload_n hx hb dX0_adjust_14 rfl (lv_at hl 2 rfl) ?_
    refine va_getsN hx hb (hZ0) (hS) hown (va_Nw.use rfl (hE.2 _ (List.mem_of_getElem? (i := 26) rfl))) (fun _ h9 => h9) dX0_adjust_15 ?_
    refine lv_iload_n hx hb dX0_adjust_18 rfl (lv_at hl 1 rfl) ?_
    refine zc_se (va_runSN (As := [.ref t0, .int (nI j)]) (rest := [.int v_]) ⟨hx, hb, hml, hown, hts⟩ (c_X7_valueAt l V t0 6 zLe (nI j) (by first | decide | omega)) ⟨va_cnB 2 hts (zgB_ wsC_all uC_54) rfl rfl rfl (hE.2 (.methodLinkNest RX0 88 yX7_valueAt "DrawerSlips") (List.mem_of_getElem? (i := 45) rfl)) (hts _ (List.mem_cons_of_mem _ uC_25)) (by decide +kernel) ⟨Nat.le_of_ble_eq_true rfl, Nat.le_of_ble_eq_true rfl⟩, (hts _ (List.mem_cons_of_mem _ uC_57)), trivial⟩ (zPsS (B := fun U => zRd U U.heap t0 6 zLe) (fun _ _ _ _ h => zRd_calling h) (fun U hU hvm => by rw [hU]; exact zRd.moved hvm (zRd_T (va_T.kept hT0 (fun a h1 h2 => hS.2.1 a h1 h2)))) hE) rfl rfl hl.1 rfl (lv_room (Nat.le_of_ble_eq_true rfl)) dX0_adjust_19 ⟨Nat.le_of_ble_eq_true rfl, Nat.le_of_ble_eq_true rfl⟩) ?_
    refine zt_i (z_vat (f := zLe) (k := j) (n := 6) (by omega) (by first | decide | omega)) ?_
    refine lv_icmp_lt (tgt := 36) hx hb dX0_adjust_22 (by decide) (fun c_22 => ?_) (fun c_22 => ?_)
    · refine lv_bipush (v := (-2)) hx hb dX0_adjust_36 (by decide +kernel) ?_
      exact zr_i hx hb hr hlocks hS (⟨(if_neg (fun h => z_lt' c_22 (by have h2 := h.2.1; rw [nI_clamp (by omega)] at h2; exact h2))).symm, by rw [show kAdjT T (nI j) v_ = T from if_neg (fun h => z_lt' c_22 (by have h2 := h.2.1; rw [nI_clamp (by omega)] at h2; exact h2))]; exact hP⟩) dX0_adjust_38
    · refine lv_iload_n hx hb dX0_adjust_25 rfl (lv_at hl 2 rfl) ?_
      refine va_getsN hx hb (hZ1) (hS) hown (va_Nw.use rfl (hE.2 _ (List.mem_of_getElem? (i := 27) rfl))) (fun _ h9 => h9) dX0_adjust_26 ?_
      refine lv_iload_n hx hb dX0_adjust_29 rfl (lv_at hl 1 rfl) ?_
      refine zc_se (va_runSN (As := [.ref t1, .int (nI j)]) (rest := [.int v_]) ⟨hx, hb, hml, hown, hts⟩ (c_X7_valueAt l V t1 6 zMo (nI j) (by first | decide | omega)) ⟨va_cnB 2 hts (zgB_ wsC_all uC_54) rfl rfl rfl (hE.2 (.methodLinkNest RX0 88 yX7_valueAt "DrawerSlips") (List.mem_of_getElem? (i := 45) rfl)) (hts _ (List.mem_cons_of_mem _ uC_25)) (by decide +kernel) ⟨Nat.le_of_ble_eq_true rfl, Nat.le_of_ble_eq_true rfl⟩, (hts _ (List.mem_cons_of_mem _ uC_57)), trivial⟩ (zPsS (B := fun U => zRd U U.heap t1 6 zMo) (fun _ _ _ _ h => zRd_calling h) (fun U hU hvm => by rw [hU]; exact zRd.moved hvm (zRd_T (va_T.kept hT1 (fun a h1 h2 => hS.2.1 a h1 h2)))) hE) rfl rfl hl.1 rfl (lv_room (Nat.le_of_ble_eq_true rfl)) dX0_adjust_30 ⟨Nat.le_of_ble_eq_true rfl, Nat.le_of_ble_eq_true rfl⟩) ?_
      refine zt_i (z_vat (f := zMo) (k := j) (n := 6) (by omega) (by first | decide | omega)) ?_
      refine lv_icmp_le (tgt := 39) hx hb dX0_adjust_33 (by decide) (fun c_33 => ?_) (fun c_33 => ?_)
      · refine lv_aload_n hx hb dX0_adjust_39 rfl (lv_at hl 0 rfl) ?_
        refine zo_get 0 (.ref (h 1)) hx hb hts (fun x h => List.mem_cons_of_mem _ (hU_X0 x h)) hown hE (za_o hP) (show vwCl[0]? = some (RX0, TX0, 14) from rfl) (by decide) rfl (hts _ (List.mem_cons_of_mem _ uC_14)) (fun _ h9 => h9) dX0_adjust_40 ?_
        refine lv_iload_n hx hb dX0_adjust_43 rfl (lv_at hl 1 rfl) ?_
        refine zo_iald (k := j) hx hb hE (za_t hP) (by omega) (by first | decide | omega) dX0_adjust_44 ?_
        refine lv_istore_n (lv' := [(3, .int (T j)), (0, .ref (h 0)), (1, .int (nI j)), (2, .int v_)]) hx hb dX0_adjust_45 rfl hl (by decide) rfl (fun ls hl => ?_)
        refine lv_aload_n hx hb dX0_adjust_46 rfl (lv_at hl 1 rfl) ?_
        refine zo_get 0 (.ref (h 1)) hx hb hts (fun x h => List.mem_cons_of_mem _ (hU_X0 x h)) hown hE (za_o hP) (show vwCl[0]? = some (RX0, TX0, 14) from rfl) (by decide) rfl (hts _ (List.mem_cons_of_mem _ uC_14)) (fun _ h9 => h9) dX0_adjust_47 ?_
        refine lv_iload_n hx hb dX0_adjust_50 rfl (lv_at hl 2 rfl) ?_
        refine lv_iload_n hx hb dX0_adjust_51 rfl (lv_at hl 3 rfl) ?_
        refine za_putT (k := j) (x := v_) hx hb hE hP hJ hS (by omega) dX0_adjust_52 (fun H locs hP hS => ?_)
        refine lv_iload_n hx hb dX0_adjust_53 rfl (lv_at hl 0 rfl) ?_
        exact zr_i hx hb hr hlocks hS (⟨(by rw [show kAdjR T (nI j) v_ = T (nI j).toNatClampNeg from if_pos ⟨c_8, by rw [nI_clamp (by omega)]; exact z_nlt c_22, by rw [nI_clamp (by omega)]; exact c_33⟩, nI_clamp (by omega)]), by rw [show kAdjT T (nI j) v_ = upd T (nI j).toNatClampNeg v_ from if_pos ⟨c_8, by rw [nI_clamp (by omega)]; exact z_nlt c_22, by rw [nI_clamp (by omega)]; exact c_33⟩, nI_clamp (by omega)]; exact hP⟩) dX0_adjust_54
      · refine lv_bipush (v := (-2)) hx hb dX0_adjust_36 (by decide +kernel) ?_
        exact zr_i hx hb hr hlocks hS (⟨(if_neg (fun h => c_33 (by have h2 := h.2.2; rw [nI_clamp (by omega)] at h2; exact h2))).symm, by rw [show kAdjT T (nI j) v_ = T from if_neg (fun h => c_33 (by have h2 := h.2.2; rw [nI_clamp (by omega)] at h2; exact h2))]; exact hP⟩) dX0_adjust_38
  · refine lv_bipush (v := (-2)) hx hb dX0_adjust_11 (by decide +kernel) ?_
    exact zr_i hx hb hr hlocks hS (⟨(if_neg (fun h => c_8 h.1)).symm, by rw [show kAdjT T x v_ = T from if_neg (fun h => c_8 h.1)]; exact hP⟩) dX0_adjust_13
def kSv3 (F T : Nat → Int32) (P : Nat → Nat → Int32) (k : Nat) : Nat → Int32 := upd (upd F 12 (F 12 + 1)) 6 (F 6 + kMin (upd F 12 (F 12 + 1)) T P k)
def kSv4 (F T : Nat → Int32) (P : Nat → Nat → Int32) (k : Nat) : Nat → Int32 := upd (kSv3 F T P k) 9 (F 9 + kFar (kSv3 F T P k) P k)
def kSv5 (F T : Nat → Int32) (P : Nat → Nat → Int32) (k : Nat) : Nat → Int32 := upd (kSv4 F T P k) 7 (if 99 < P k 4 + P k 5 - 1 + 1 then 99 else P k 4 + P k 5 - 1 + 1)
def kSv6 (F T : Nat → Int32) (P : Nat → Nat → Int32) (k : Nat) : Nat → Int32 := kCount (kSv5 F T P k) (P k 3) (-1)
def kSvF (F T : Nat → Int32) (P : Nat → Nat → Int32) (k : Nat) : Nat → Int32 := upd (kSv6 F T P k) 8 (if kSv6 F T P k 8 < kSv6 F T P k 6 - P k 6 then kSv6 F T P k 6 - P k 6 else kSv6 F T P k 8)
def kGo (F T : Nat → Int32) (P : Nat → Nat → Int32) (k : Nat) : Nat → Int32 := if kWhy F T P = 0 then F else kBegin F (P k 3)
def kSelN (F T : Nat → Int32) (P : Nat → Nat → Int32) : Option Nat := kSel F T P (kWhy F T P)
def kNxF (F T : Nat → Int32) (P : Nat → Nat → Int32) : Nat → Int32 := kOn (kSelN F T P) F (fun k => kSvF (kGo F T P k) T P k)
def kNxP (F T : Nat → Int32) (P : Nat → Nat → Int32) : Nat → Nat → Int32 := kOn (kSelN F T P) P (fun k => va_up P k (upd (P k) 1 0))
def kNxS (F T : Nat → Int32) (P : Nat → Nat → Int32) (sv : Nat) : Nat := kOn (kSelN F T P) sv (fun _ => sv + 1)
def kNxA (F T : Nat → Int32) (P : Nat → Nat → Int32) (Ga : Nat → Int32) (sv : Nat) : Nat → Int32 := kOn (kSelN F T P) Ga (fun k => upd Ga (sv % 20) (P k 2))
def kNxB (F T : Nat → Int32) (P : Nat → Nat → Int32) (Gb : Nat → Int32) (sv : Nat) : Nat → Int32 := kOn (kSelN F T P) Gb (fun k => upd Gb (sv % 20) (kSvF (kGo F T P k) T P k 6 - P k 6))
def kNxC (F T : Nat → Int32) (P : Nat → Nat → Int32) (Gc : Nat → Int32) (sv : Nat) : Nat → Int32 := kOn (kSelN F T P) Gc (fun k => upd Gc (sv % 20) (P k 3))
section ZS
variable {V : zV} {h : Nat → Nat} {F T : Nat → Int32} {lv : Int32} {Ga Gb Gc : Nat → Int32} {P : Nat → Nat → Int32} {H H1 : Heap}
theorem za_toL (hP : va_P V.1 vwCl (zaW V h F T lv Ga Gb Gc P) H) : va_P V.1 vwCl (zlW V (fun p => h (p + 2)) lv Ga Gb Gc) H := zP_sub hP (fun p => p + 2) (fun p hp => ⟨by omega, rfl, by
  match p, hp with
  | 0, _ => rfl
  | 1, _ => rfl
  | 2, _ => rfl
  | 3, _ => rfl
  | p + 4, hp => exact absurd hp (by omega)⟩)
theorem za_JL (hJ : zInj 36 h) : zInj 4 (fun p => h (p + 2)) := fun i j hi hj e => by have := hJ (i + 2) (j + 2) (by omega) (by omega) e; omega
theorem za_inL {q : Nat} (hq : zIn 4 (fun p => h (p + 2)) q) : zIn 36 h q := by obtain ⟨p, hp, e⟩ := hq; exact ⟨p + 2, by omega, e⟩
theorem za_joinL {lv' : Int32} {Ga' Gb' Gc' : Nat → Int32} (hP : va_P V.1 vwCl (zaW V h F T lv Ga Gb Gc P) H) (hJ : zInj 36 h) (hk : ∀ q : Nat, q < H.size → ¬ zIn 4 (fun p => h (p + 2)) q → H1[q]? = H[q]?) (hn : va_P V.1 vwCl (zlW V (fun p => h (p + 2)) lv' Ga' Gb' Gc') H1) : va_P V.1 vwCl (zaW V h F T lv' Ga' Gb' Gc' P) H1 := by
  have no : ∀ c, c < 36 → (∀ p, p < 4 → p + 2 ≠ c) → ¬ zIn 4 (fun p => h (p + 2)) (h c) := fun c hc hne hz => by
    obtain ⟨p, hp, e⟩ := hz
    exact hne p hp (hJ c (p + 2) hc (by omega) e).symm
  refine zP_join hP hk (fun p hp => ?_)
  match p, hp with
  | 0, _ => exact Or.inr ⟨rfl, no 0 (by decide) (fun p hp => by omega)⟩
  | 1, _ => exact Or.inr ⟨rfl, no 1 (by decide) (fun p hp => by omega)⟩
  | 2, _ => exact Or.inl (zP_at hn (p := 0) (by decide))
  | 3, _ => exact Or.inl (zP_at hn (p := 1) (by decide))
  | 4, _ => exact Or.inl (zP_at hn (p := 2) (by decide))
  | 5, _ => exact Or.inl (zP_at hn (p := 3) (by decide))
  | i + 6, hp => exact Or.inr ⟨rfl, no (i + 6) hp (fun p hp => by omega)⟩
theorem za_jT {T' : Nat → Int32} (hP : va_P V.1 vwCl (zaW V h F T lv Ga Gb Gc P) H) (hJ : zInj 36 h) (hk : ∀ q : Nat, q < H.size → ¬ q = h 1 → H1[q]? = H[q]?) (hn : va_P V.1 vwCl [(h 1, .inl (V.2.1, 6, .inl T'))] H1) : va_P V.1 vwCl (zaW V h F T' lv Ga Gb Gc P) H1 := zP_one hP hJ (c := 1) (by decide) hk (zP1_at hn) (fun p _ hne => by
    match p, hne with
    | 0, _ => rfl
    | 1, h => exact absurd rfl h
    | 2, _ => rfl
    | 3, _ => rfl
    | 4, _ => rfl
    | 5, _ => rfl
    | p + 6, _ => rfl)
theorem za_jS {i : Nat} {f : Nat → Int32} (hi : i < 30) (hP : va_P V.1 vwCl (zaW V h F T lv Ga Gb Gc P) H) (hJ : zInj 36 h) (hk : ∀ q : Nat, q < H.size → ¬ q = h (i + 6) → H1[q]? = H[q]?) (hn : va_P V.1 vwCl [(h (i + 6), .inr (5, zsO (zch h (i + 1)) f))] H1) : va_P V.1 vwCl (zaW V h F T lv Ga Gb Gc (va_up P i f)) H1 := zP_one hP hJ (c := i + 6) (by omega) hk (by
    show va_at V.1 vwCl (h (i + 6), .inr (5, zsO (zch h (i + 1)) (va_up P i f i))) H1
    rw [zUp_s]
    exact zP1_at hn) (fun p _ hne => by
    match p, hne with
    | 0, _ => rfl
    | 1, _ => rfl
    | 2, _ => rfl
    | 3, _ => rfl
    | 4, _ => rfl
    | 5, _ => rfl
    | p + 6, hne =>
      show (Sum.inr (5, zsO (zch h (p + 1)) (va_up P i f p)) : va_E) = Sum.inr (5, zsO (zch h (p + 1)) (P p))
      rw [zUp_n _ _ (show p ≠ i by omega)])
end ZS
set_option maxHeartbeats 4000000 in
set_option maxRecDepth 100000 in
theorem c_X0_serveNext (l : Launch) (V : zV) (h : Nat → Nat) (F T : Nat → Int32) (lv : Int32) (Ga Gb Gc : Nat → Int32) (P : Nat → Nat → Int32) (sv : Nat) (hJ : zInj 36 h) (hsv : lv = nI sv) (hb31 : sv + 1 < 2 ^ 31) : Met l yX0_serveNext wsX0_serveNext (zR 3 0 0) (zPc V [.ref (h 0)] (fun H => va_P V.1 vwCl (zaW V h F T lv Ga Gb Gc P) H)) (zQv (fun H => va_P V.1 vwCl (zaW V h (kNxF F T P) T (nI (kNxS F T P sv)) (kNxA F T P Ga sv) (kNxB F T P Gb sv) (kNxC F T P Gc sv) (kNxP F T P)) H) (zIn 36 h)) 0 0 (zIn 36 h) := by
  refine Met.ofW (cc := cX0_serveNext) (maxL := 3) (ret := none) (by decide) rfl ?_
  intro p e s m args below meth c s₁ B hml hv
  obtain ⟨rfl, hP, hE⟩ := hv
  have hx := B.exec
  have hb := B.bytes
  have hr := B.returns
  have hts := atoms_spec (ws := wsX0_serveNext) B.pre
  have hown : s.vm.findClass RX0 = some m.cls := findClass_of_methodNamed B.named
  have hlocks := B.notSynchronized
  have hl := lv_entry ([.ref (h 0)]) (n := 3) (Nat.le_of_ble_eq_true rfl)
  rw [lg_entry_eq]
  generalize (lg_sl ([.ref (h 0)]) ++ List.replicate (3 - (lg_sl ([.ref (h 0)])).length) Slot.unset).toArray = ls at hl ⊢
  have hl : lv_has ls 3 [(0, .ref (h 0))] := hl
  have hS : va_S (zIn 36 h) s.heap s.heap [] := va_S.rf
  refine lv_aload_n hx hb dX0_serveNext_0 rfl (lv_at hl 0 rfl) ?_
  refine zc_se (va_runV (As := []) (rest := []) ⟨hx, hb, hml, hown, hts⟩ (c_X0_reason l V h F T lv Ga Gb Gc P) (cwV 0 hts (zgV_ wsC_all uC_109 uC_141 uC_142 uC_143 uC_73) rfl rfl rfl (by decide +kernel) ⟨Nat.le_of_ble_eq_true rfl, Nat.le_of_ble_eq_true rfl⟩) (zPreV (B := fun H => va_P V.1 vwCl (zaW V h F T lv Ga Gb Gc P) H) hP hE (za_ro hE hP)) rfl rfl hl.1 rfl (lv_room (Nat.le_of_ble_eq_true rfl)) dX0_serveNext_1 ⟨Nat.le_of_ble_eq_true rfl, Nat.le_of_ble_eq_true rfl⟩) ?_
  refine lv_istore_n (lv' := [(1, .int (kWhy F T P)), (0, .ref (h 0))]) hx hb dX0_serveNext_4 rfl hl (by decide) rfl (fun ls hl => ?_)
  refine lv_aload_n hx hb dX0_serveNext_5 rfl (lv_at hl 1 rfl) ?_
  refine lv_iload_n hx hb dX0_serveNext_6 rfl (lv_at hl 0 rfl) ?_
  refine zc_sqe (va_runV (As := [.int (kWhy F T P)]) (rest := []) ⟨hx, hb, hml, hown, hts⟩ (c_X0_chosen l V h F T lv Ga Gb Gc P (kWhy F T P)) (cwV 1 hts (zgV_ wsC_all uC_122 uC_144 uC_145 uC_146 uC_73) rfl rfl rfl (by decide +kernel) ⟨Nat.le_of_ble_eq_true rfl, Nat.le_of_ble_eq_true rfl⟩) (zPreV (B := fun H => va_P V.1 vwCl (zaW V h F T lv Ga Gb Gc P) H) hP hE (za_ro hE hP)) rfl rfl hl.1 rfl (lv_room (Nat.le_of_ble_eq_true rfl)) dX0_serveNext_7 ⟨Nat.le_of_ble_eq_true rfl, Nat.le_of_ble_eq_true rfl⟩) ?_
  refine zo_astore_n (r := zad h (kSel F T P (kWhy F T P))) (lv' := [(2, va_rf (zad h (kSel F T P (kWhy F T P)))), (1, .int (kWhy F T P)), (0, .ref (h 0))]) hx hb dX0_serveNext_10 rfl hl (by decide) rfl (fun ls hl => ?_)
  refine zo_aload_n (r := zad h (kSel F T P (kWhy F T P))) hx hb dX0_serveNext_11 rfl (lv_at hl 0 rfl) ?_
  rcases hq_12 : kSel F T P (kWhy F T P) with _ | k_12
  · refine zt_v (y := .null) (by first | rfl | (rw [hq_12]; rfl)) ?_
    rw [hq_12] at hl
    have hl : lv_has ls 3 [(2, .null), (1, .int (kWhy F T P)), (0, .ref (h 0))] := hl
    refine lv_ifnonnullN hx hb dX0_serveNext_12 ?_
    exact zr_v hx hb hr hlocks hS (by rw [show kNxF F T P = F from kOn_n hq_12, show kNxS F T P sv = sv from kOn_n hq_12, show kNxP F T P = P from kOn_n hq_12, show kNxA F T P Ga sv = Ga from kOn_n hq_12, show kNxB F T P Gb sv = Gb from kOn_n hq_12, show kNxC F T P Gc sv = Gc from kOn_n hq_12, ← hsv]; exact hP) dX0_serveNext_15
  · refine zt_v (y := .ref (h (k_12 + 6))) (by first | rfl | (rw [hq_12]; rfl)) ?_
    rw [hq_12] at hl
    have hl : lv_has ls 3 [(2, .ref (h (k_12 + 6))), (1, .int (kWhy F T P)), (0, .ref (h 0))] := hl
    have hb_12 : k_12 < 30 := by first | exact (zFirst_lt hq_12).1 | exact (zBest_lt hq_12).1 | exact kSel_lt hq_12 | (have h_ := (zBest_lt hq_12).1; omega)
    refine lv_ifnonnull (tgt := 16) hx hb dX0_serveNext_12 (by decide) ?_
    have J_28 : ∀ (F1 : Nat → Int32) (H : Heap) (locs : List Loc) (ls : Array Slot), True → (F1 = kGo F T P k_12) → va_P V.1 vwCl (zaW V h F1 T lv Ga Gb Gc P) H → va_S (zIn 36 h) s.heap H locs → lv_has ls 3 [(2, .ref (h (k_12 + 6))), (0, .ref (h 0))] → W p l e (headSpec wsX0_serveNext (zR 3 0 0)).room s m (List.toArray [.ref (h 0)]) below meth c H locs 0 0 (MQ below (zQv (fun H => va_P V.1 vwCl (zaW V h (kNxF F T P) T (nI (kNxS F T P sv)) (kNxA F T P Ga sv) (kNxB F T P Gb sv) (kNxC F T P Gc sv) (kNxP F T P)) H) (zIn 36 h)) (List.toArray [.ref (h 0)]) s 0 0 (zIn 36 h)) (F0 m 28 ls []) := by
      intro F1 H locs ls _ eF1 hP hS hl
      refine lv_aload_n hx hb dX0_serveNext_28 rfl (lv_at hl 1 rfl) ?_
      refine lv_dup hx hb dX0_serveNext_29 rfl ?_
      refine zo_get 12 (.int (F1 12)) hx hb hts (fun x h => List.mem_cons_of_mem _ (hU_X0 x h)) hown hE (za_o hP) (show vwCl[0]? = some (RX0, TX0, 14) from rfl) (by decide) rfl (hts _ (List.mem_cons_of_mem _ uC_47)) (fun _ h9 => h9) dX0_serveNext_30 ?_
      refine lv_iconst (v := 1) hx hb dX0_serveNext_33 (by decide +kernel) ?_
      refine lv_iadd hx hb dX0_serveNext_34 ?_
      refine za_put 12 ((F1 12) + 1) hx hb hts (fun x h => List.mem_cons_of_mem _ (hU_X0 x h)) hown hE hP hJ hS (by decide) rfl rfl (by decide +kernel) (hts _ (List.mem_cons_of_mem _ uC_47)) (fun _ h9 => h9) dX0_serveNext_35 (fun H locs hP hS => ?_)
      refine lv_aload_n hx hb dX0_serveNext_38 rfl (lv_at hl 1 rfl) ?_
      refine lv_dup hx hb dX0_serveNext_39 rfl ?_
      refine zo_get 6 (.int (F1 6)) hx hb hts (fun x h => List.mem_cons_of_mem _ (hU_X0 x h)) hown hE (za_o hP) (show vwCl[0]? = some (RX0, TX0, 14) from rfl) (by decide) rfl (hts _ (List.mem_cons_of_mem _ uC_41)) (fun _ h9 => h9) dX0_serveNext_40 ?_
      refine lv_aload_n hx hb dX0_serveNext_43 rfl (lv_at hl 1 rfl) ?_
      refine lv_aload_n hx hb dX0_serveNext_44 rfl (lv_at hl 0 rfl) ?_
      refine zc_se (va_runV (As := [.ref (h (k_12 + 6))]) (rest := [.int (F1 6), .ref (h 0)]) ⟨hx, hb, hml, hown, hts⟩ (c_X0_minutesFor l V h (upd F1 12 ((F1 12) + 1)) T lv Ga Gb Gc P k_12 (by omega)) (cwV 1 hts (zgV_ wsC_all uC_128 uC_150 uC_151 uC_152 uC_73) rfl rfl rfl (by decide +kernel) ⟨Nat.le_of_ble_eq_true rfl, Nat.le_of_ble_eq_true rfl⟩) (zPreV (B := fun H => va_P V.1 vwCl (zaW V h (upd F1 12 ((F1 12) + 1)) T lv Ga Gb Gc P) H) hP hE (za_ro hE hP)) rfl rfl hl.1 rfl (lv_room (Nat.le_of_ble_eq_true rfl)) dX0_serveNext_45 ⟨Nat.le_of_ble_eq_true rfl, Nat.le_of_ble_eq_true rfl⟩) ?_
      refine lv_iadd hx hb dX0_serveNext_48 ?_
      refine za_put 6 ((F1 6) + (kMin (upd F1 12 ((F1 12) + 1)) T P k_12)) hx hb hts (fun x h => List.mem_cons_of_mem _ (hU_X0 x h)) hown hE hP hJ hS (by decide) rfl rfl (by decide +kernel) (hts _ (List.mem_cons_of_mem _ uC_41)) (fun _ h9 => h9) dX0_serveNext_49 (fun H locs hP hS => ?_)
      refine lv_aload_n hx hb dX0_serveNext_52 rfl (lv_at hl 1 rfl) ?_
      refine lv_dup hx hb dX0_serveNext_53 rfl ?_
      refine zo_get 9 (.int (F1 9)) hx hb hts (fun x h => List.mem_cons_of_mem _ (hU_X0 x h)) hown hE (za_o hP) (show vwCl[0]? = some (RX0, TX0, 14) from rfl) (by decide) rfl (hts _ (List.mem_cons_of_mem _ uC_44)) (fun _ h9 => h9) dX0_serveNext_54 ?_
      refine lv_aload_n hx hb dX0_serveNext_57 rfl (lv_at hl 1 rfl) ?_
      refine lv_aload_n hx hb dX0_serveNext_58 rfl (lv_at hl 0 rfl) ?_
      refine zc_se (va_runV (As := [.ref (h (k_12 + 6))]) (rest := [.int (F1 9), .ref (h 0)]) ⟨hx, hb, hml, hown, hts⟩ (c_X0_drawersTo l V h (upd (upd F1 12 ((F1 12) + 1)) 6 ((F1 6) + (kMin (upd F1 12 ((F1 12) + 1)) T P k_12))) T lv Ga Gb Gc P k_12 (by omega)) (cwV 1 hts (zgV_ wsC_all uC_123 uC_129 uC_130 uC_131 uC_73) rfl rfl rfl (by decide +kernel) ⟨Nat.le_of_ble_eq_true rfl, Nat.le_of_ble_eq_true rfl⟩) (zPreV (B := fun H => va_P V.1 vwCl (zaW V h (upd (upd F1 12 ((F1 12) + 1)) 6 ((F1 6) + (kMin (upd F1 12 ((F1 12) + 1)) T P k_12))) T lv Ga Gb Gc P) H) hP hE (za_ro hE hP)) rfl rfl hl.1 rfl (lv_room (Nat.le_of_ble_eq_true rfl)) dX0_serveNext_59 ⟨Nat.le_of_ble_eq_true rfl, Nat.le_of_ble_eq_true rfl⟩) ?_
      refine lv_iadd hx hb dX0_serveNext_62 ?_
      refine za_put 9 ((F1 9) + (kFar (upd (upd F1 12 ((F1 12) + 1)) 6 ((F1 6) + (kMin (upd F1 12 ((F1 12) + 1)) T P k_12))) P k_12)) hx hb hts (fun x h => List.mem_cons_of_mem _ (hU_X0 x h)) hown hE hP hJ hS (by decide) rfl rfl (by decide +kernel) (hts _ (List.mem_cons_of_mem _ uC_44)) (fun _ h9 => h9) dX0_serveNext_63 (fun H locs hP hS => ?_)
      refine lv_aload_n hx hb dX0_serveNext_66 rfl (lv_at hl 1 rfl) ?_
      refine lv_aload_n hx hb dX0_serveNext_67 rfl (lv_at hl 0 rfl) ?_
      refine zc_se (va_runVN (As := []) (rest := [.ref (h 0)]) ⟨hx, hb, hml, hown, hts⟩ (c_X5_last l V (h (k_12 + 6)) (zch h (k_12 + 1)) (P k_12)) ⟨va_cnB 0 hts (zgB_ wsC_all uC_60) rfl rfl rfl (hE.2 (.methodLinkNest RX0 149 yX5_last "DrawerSlips") (List.mem_of_getElem? (i := 50) rfl)) (hts _ (List.mem_cons_of_mem _ uC_21)) (by decide +kernel) ⟨Nat.le_of_ble_eq_true rfl, Nat.le_of_ble_eq_true rfl⟩, (hts _ (List.mem_cons_of_mem _ uC_64)), (hts _ (List.mem_cons_of_mem _ uC_65))⟩ (zPreV (B := fun H => va_at V.1 vwCl (h (k_12 + 6), .inr (5, zsO (zch h (k_12 + 1)) (P k_12))) H) (za_slip hP (i := k_12) (by omega)) hE (za_rs hE hP (i := k_12) (by omega))) rfl rfl hl.1 rfl (lv_room (Nat.le_of_ble_eq_true rfl)) dX0_serveNext_68 ⟨Nat.le_of_ble_eq_true rfl, Nat.le_of_ble_eq_true rfl⟩) ?_
      refine lv_iconst (v := 1) hx hb dX0_serveNext_71 (by decide +kernel) ?_
      refine lv_iadd hx hb dX0_serveNext_72 ?_
      refine lv_bipush (v := 99) hx hb dX0_serveNext_73 (by decide +kernel) ?_
      refine va_mmin hx hb (hml.trans hl.1.symm) hown (hts _ (List.mem_cons_of_mem _ uC_135)) (hts _ (List.mem_cons_of_mem _ uC_136)) (hts _ (List.mem_cons_of_mem _ uC_126)) (hts _ (List.mem_cons_of_mem _ uC_137)) (Nat.le_of_ble_eq_true rfl) (Nat.le_of_ble_eq_true rfl) (Nat.le_of_ble_eq_true rfl) (Nat.le_of_ble_eq_true rfl) dX0_serveNext_75 ?_
      refine za_put 7 (if 99 < ((P k_12) 4 + (P k_12) 5 - 1) + 1 then 99 else ((P k_12) 4 + (P k_12) 5 - 1) + 1) hx hb hts (fun x h => List.mem_cons_of_mem _ (hU_X0 x h)) hown hE hP hJ hS (by decide) rfl rfl (by decide +kernel) (hts _ (List.mem_cons_of_mem _ uC_42)) (fun _ h9 => h9) dX0_serveNext_78 (fun H locs hP hS => ?_)
      refine lv_aload_n hx hb dX0_serveNext_81 rfl (lv_at hl 1 rfl) ?_
      refine lv_aload_n hx hb dX0_serveNext_82 rfl (lv_at hl 0 rfl) ?_
      refine zc_v (va_runV (As := [.ref (h (k_12 + 6))]) (rest := []) ⟨hx, hb, hml, hown, hts⟩ (c_X0_remove l V h (upd (upd (upd (upd F1 12 ((F1 12) + 1)) 6 ((F1 6) + (kMin (upd F1 12 ((F1 12) + 1)) T P k_12))) 9 ((F1 9) + (kFar (upd (upd F1 12 ((F1 12) + 1)) 6 ((F1 6) + (kMin (upd F1 12 ((F1 12) + 1)) T P k_12))) P k_12))) 7 (if 99 < ((P k_12) 4 + (P k_12) 5 - 1) + 1 then 99 else ((P k_12) 4 + (P k_12) 5 - 1) + 1)) T lv Ga Gb Gc P k_12 hJ (by omega)) (cwV 1 hts (zgV_ wsC_all uC_81 uC_87 uC_88 uC_89 uC_73) rfl rfl rfl (by decide +kernel) ⟨Nat.le_of_ble_eq_true rfl, Nat.le_of_ble_eq_true rfl⟩) (zPreV (B := fun H => va_P V.1 vwCl (zaW V h (upd (upd (upd (upd F1 12 ((F1 12) + 1)) 6 ((F1 6) + (kMin (upd F1 12 ((F1 12) + 1)) T P k_12))) 9 ((F1 9) + (kFar (upd (upd F1 12 ((F1 12) + 1)) 6 ((F1 6) + (kMin (upd F1 12 ((F1 12) + 1)) T P k_12))) P k_12))) 7 (if 99 < ((P k_12) 4 + (P k_12) 5 - 1) + 1 then 99 else ((P k_12) 4 + (P k_12) 5 - 1) + 1)) T lv Ga Gb Gc P) H) hP hE (za_ro hE hP)) rfl rfl hl.1 rfl (lv_room (Nat.le_of_ble_eq_true rfl)) dX0_serveNext_83 ⟨Nat.le_of_ble_eq_true rfl, Nat.le_of_ble_eq_true rfl⟩) hS (fun _ h => h) (fun _ h => h) (fun H locs hP _ _ hS => ?_)
      refine lv_aload_n hx hb dX0_serveNext_86 rfl (lv_at hl 1 rfl) ?_
      refine lv_aload_n hx hb dX0_serveNext_87 rfl (lv_at hl 1 rfl) ?_
      refine zo_get 8 (.int ((kCount (upd (upd (upd (upd F1 12 ((F1 12) + 1)) 6 ((F1 6) + (kMin (upd F1 12 ((F1 12) + 1)) T P k_12))) 9 ((F1 9) + (kFar (upd (upd F1 12 ((F1 12) + 1)) 6 ((F1 6) + (kMin (upd F1 12 ((F1 12) + 1)) T P k_12))) P k_12))) 7 (if 99 < ((P k_12) 4 + (P k_12) 5 - 1) + 1 then 99 else ((P k_12) 4 + (P k_12) 5 - 1) + 1)) ((P k_12) 3) (-1)) 8)) hx hb hts (fun x h => List.mem_cons_of_mem _ (hU_X0 x h)) hown hE (za_o hP) (show vwCl[0]? = some (RX0, TX0, 14) from rfl) (by decide) rfl (hts _ (List.mem_cons_of_mem _ uC_43)) (fun _ h9 => h9) dX0_serveNext_88 ?_
      refine lv_aload_n hx hb dX0_serveNext_91 rfl (lv_at hl 1 rfl) ?_
      refine lv_aload_n hx hb dX0_serveNext_92 rfl (lv_at hl 0 rfl) ?_
      refine zc_se (va_runV (As := [.ref (h (k_12 + 6))]) (rest := [.int ((kCount (upd (upd (upd (upd F1 12 ((F1 12) + 1)) 6 ((F1 6) + (kMin (upd F1 12 ((F1 12) + 1)) T P k_12))) 9 ((F1 9) + (kFar (upd (upd F1 12 ((F1 12) + 1)) 6 ((F1 6) + (kMin (upd F1 12 ((F1 12) + 1)) T P k_12))) P k_12))) 7 (if 99 < ((P k_12) 4 + (P k_12) 5 - 1) + 1 then 99 else ((P k_12) 4 + (P k_12) 5 - 1) + 1)) ((P k_12) 3) (-1)) 8), .ref (h 0)]) ⟨hx, hb, hml, hown, hts⟩ (c_X0_age l V h (kCount (upd (upd (upd (upd F1 12 ((F1 12) + 1)) 6 ((F1 6) + (kMin (upd F1 12 ((F1 12) + 1)) T P k_12))) 9 ((F1 9) + (kFar (upd (upd F1 12 ((F1 12) + 1)) 6 ((F1 6) + (kMin (upd F1 12 ((F1 12) + 1)) T P k_12))) P k_12))) 7 (if 99 < ((P k_12) 4 + (P k_12) 5 - 1) + 1 then 99 else ((P k_12) 4 + (P k_12) 5 - 1) + 1)) ((P k_12) 3) (-1)) T lv Ga Gb Gc (va_up P k_12 (upd (P k_12) 1 0)) k_12 (by omega)) (cwV 1 hts (zgV_ wsC_all uC_82 uC_90 uC_91 uC_92 uC_73) rfl rfl rfl (by decide +kernel) ⟨Nat.le_of_ble_eq_true rfl, Nat.le_of_ble_eq_true rfl⟩) (zPreV (B := fun H => va_P V.1 vwCl (zaW V h (kCount (upd (upd (upd (upd F1 12 ((F1 12) + 1)) 6 ((F1 6) + (kMin (upd F1 12 ((F1 12) + 1)) T P k_12))) 9 ((F1 9) + (kFar (upd (upd F1 12 ((F1 12) + 1)) 6 ((F1 6) + (kMin (upd F1 12 ((F1 12) + 1)) T P k_12))) P k_12))) 7 (if 99 < ((P k_12) 4 + (P k_12) 5 - 1) + 1 then 99 else ((P k_12) 4 + (P k_12) 5 - 1) + 1)) ((P k_12) 3) (-1)) T lv Ga Gb Gc (va_up P k_12 (upd (P k_12) 1 0))) H) hP hE (za_ro hE hP)) rfl rfl hl.1 rfl (lv_room (Nat.le_of_ble_eq_true rfl)) dX0_serveNext_93 ⟨Nat.le_of_ble_eq_true rfl, Nat.le_of_ble_eq_true rfl⟩) ?_
      refine zt_i (y := (kCount (upd (upd (upd (upd F1 12 ((F1 12) + 1)) 6 ((F1 6) + (kMin (upd F1 12 ((F1 12) + 1)) T P k_12))) 9 ((F1 9) + (kFar (upd (upd F1 12 ((F1 12) + 1)) 6 ((F1 6) + (kMin (upd F1 12 ((F1 12) + 1)) T P k_12))) P k_12))) 7 (if 99 < ((P k_12) 4 + (P k_12) 5 - 1) + 1 then 99 else ((P k_12) 4 + (P k_12) 5 - 1) + 1)) ((P k_12) 3) (-1)) 6 - P k_12 6) (by rw [zUp_s]; rfl) ?_
      refine va_mmax hx hb (hml.trans hl.1.symm) hown (hts _ (List.mem_cons_of_mem _ uC_138)) (hts _ (List.mem_cons_of_mem _ uC_139)) (hts _ (List.mem_cons_of_mem _ uC_126)) (hts _ (List.mem_cons_of_mem _ uC_140)) (Nat.le_of_ble_eq_true rfl) (Nat.le_of_ble_eq_true rfl) (Nat.le_of_ble_eq_true rfl) (Nat.le_of_ble_eq_true rfl) dX0_serveNext_96 ?_
      refine za_put 8 (if (kCount (upd (upd (upd (upd F1 12 ((F1 12) + 1)) 6 ((F1 6) + (kMin (upd F1 12 ((F1 12) + 1)) T P k_12))) 9 ((F1 9) + (kFar (upd (upd F1 12 ((F1 12) + 1)) 6 ((F1 6) + (kMin (upd F1 12 ((F1 12) + 1)) T P k_12))) P k_12))) 7 (if 99 < ((P k_12) 4 + (P k_12) 5 - 1) + 1 then 99 else ((P k_12) 4 + (P k_12) 5 - 1) + 1)) ((P k_12) 3) (-1)) 8 < (kCount (upd (upd (upd (upd F1 12 ((F1 12) + 1)) 6 ((F1 6) + (kMin (upd F1 12 ((F1 12) + 1)) T P k_12))) 9 ((F1 9) + (kFar (upd (upd F1 12 ((F1 12) + 1)) 6 ((F1 6) + (kMin (upd F1 12 ((F1 12) + 1)) T P k_12))) P k_12))) 7 (if 99 < ((P k_12) 4 + (P k_12) 5 - 1) + 1 then 99 else ((P k_12) 4 + (P k_12) 5 - 1) + 1)) ((P k_12) 3) (-1)) 6 - P k_12 6 then (kCount (upd (upd (upd (upd F1 12 ((F1 12) + 1)) 6 ((F1 6) + (kMin (upd F1 12 ((F1 12) + 1)) T P k_12))) 9 ((F1 9) + (kFar (upd (upd F1 12 ((F1 12) + 1)) 6 ((F1 6) + (kMin (upd F1 12 ((F1 12) + 1)) T P k_12))) P k_12))) 7 (if 99 < ((P k_12) 4 + (P k_12) 5 - 1) + 1 then 99 else ((P k_12) 4 + (P k_12) 5 - 1) + 1)) ((P k_12) 3) (-1)) 6 - P k_12 6 else (kCount (upd (upd (upd (upd F1 12 ((F1 12) + 1)) 6 ((F1 6) + (kMin (upd F1 12 ((F1 12) + 1)) T P k_12))) 9 ((F1 9) + (kFar (upd (upd F1 12 ((F1 12) + 1)) 6 ((F1 6) + (kMin (upd F1 12 ((F1 12) + 1)) T P k_12))) P k_12))) 7 (if 99 < ((P k_12) 4 + (P k_12) 5 - 1) + 1 then 99 else ((P k_12) 4 + (P k_12) 5 - 1) + 1)) ((P k_12) 3) (-1)) 8) hx hb hts (fun x h => List.mem_cons_of_mem _ (hU_X0 x h)) hown hE hP hJ hS (by decide) rfl rfl (by decide +kernel) (hts _ (List.mem_cons_of_mem _ uC_43)) (fun _ h9 => h9) dX0_serveNext_99 (fun H locs hP hS => ?_)
      refine lv_aload_n hx hb dX0_serveNext_102 rfl (lv_at hl 1 rfl) ?_
      refine zo_get 2 (.ref (h 2)) hx hb hts (fun x h => List.mem_cons_of_mem _ (hU_X0 x h)) hown hE (za_o hP) (show vwCl[0]? = some (RX0, TX0, 14) from rfl) (by decide) rfl (hts _ (List.mem_cons_of_mem _ uC_18)) (fun _ h9 => h9) dX0_serveNext_103 ?_
      refine lv_aload_n hx hb dX0_serveNext_106 rfl (lv_at hl 0 rfl) ?_
      refine zo_getN 2 (.int ((upd (P k_12) 1 0) 2)) hx hb hts (fun x h => List.mem_cons_of_mem _ (hU_X5 x h)) hown hE (za_slip2 (i := k_12) hP (by omega)) (show vwCl[5]? = some (RX5, TX5, 8) from rfl) (by decide) rfl (List.mem_of_getElem? (i := 4) rfl) (fun _ h9 => h9) dX0_serveNext_107 ?_
      refine lv_aload_n hx hb dX0_serveNext_110 rfl (lv_at hl 1 rfl) ?_
      refine lv_aload_n hx hb dX0_serveNext_111 rfl (lv_at hl 0 rfl) ?_
      refine zc_se (va_runV (As := [.ref (h (k_12 + 6))]) (rest := [.int ((upd (P k_12) 1 0) 2), .ref (h 2)]) ⟨hx, hb, hml, hown, hts⟩ (c_X0_age l V h (upd (kCount (upd (upd (upd (upd F1 12 ((F1 12) + 1)) 6 ((F1 6) + (kMin (upd F1 12 ((F1 12) + 1)) T P k_12))) 9 ((F1 9) + (kFar (upd (upd F1 12 ((F1 12) + 1)) 6 ((F1 6) + (kMin (upd F1 12 ((F1 12) + 1)) T P k_12))) P k_12))) 7 (if 99 < ((P k_12) 4 + (P k_12) 5 - 1) + 1 then 99 else ((P k_12) 4 + (P k_12) 5 - 1) + 1)) ((P k_12) 3) (-1)) 8 (if (kCount (upd (upd (upd (upd F1 12 ((F1 12) + 1)) 6 ((F1 6) + (kMin (upd F1 12 ((F1 12) + 1)) T P k_12))) 9 ((F1 9) + (kFar (upd (upd F1 12 ((F1 12) + 1)) 6 ((F1 6) + (kMin (upd F1 12 ((F1 12) + 1)) T P k_12))) P k_12))) 7 (if 99 < ((P k_12) 4 + (P k_12) 5 - 1) + 1 then 99 else ((P k_12) 4 + (P k_12) 5 - 1) + 1)) ((P k_12) 3) (-1)) 8 < (kCount (upd (upd (upd (upd F1 12 ((F1 12) + 1)) 6 ((F1 6) + (kMin (upd F1 12 ((F1 12) + 1)) T P k_12))) 9 ((F1 9) + (kFar (upd (upd F1 12 ((F1 12) + 1)) 6 ((F1 6) + (kMin (upd F1 12 ((F1 12) + 1)) T P k_12))) P k_12))) 7 (if 99 < ((P k_12) 4 + (P k_12) 5 - 1) + 1 then 99 else ((P k_12) 4 + (P k_12) 5 - 1) + 1)) ((P k_12) 3) (-1)) 6 - P k_12 6 then (kCount (upd (upd (upd (upd F1 12 ((F1 12) + 1)) 6 ((F1 6) + (kMin (upd F1 12 ((F1 12) + 1)) T P k_12))) 9 ((F1 9) + (kFar (upd (upd F1 12 ((F1 12) + 1)) 6 ((F1 6) + (kMin (upd F1 12 ((F1 12) + 1)) T P k_12))) P k_12))) 7 (if 99 < ((P k_12) 4 + (P k_12) 5 - 1) + 1 then 99 else ((P k_12) 4 + (P k_12) 5 - 1) + 1)) ((P k_12) 3) (-1)) 6 - P k_12 6 else (kCount (upd (upd (upd (upd F1 12 ((F1 12) + 1)) 6 ((F1 6) + (kMin (upd F1 12 ((F1 12) + 1)) T P k_12))) 9 ((F1 9) + (kFar (upd (upd F1 12 ((F1 12) + 1)) 6 ((F1 6) + (kMin (upd F1 12 ((F1 12) + 1)) T P k_12))) P k_12))) 7 (if 99 < ((P k_12) 4 + (P k_12) 5 - 1) + 1 then 99 else ((P k_12) 4 + (P k_12) 5 - 1) + 1)) ((P k_12) 3) (-1)) 8)) T lv Ga Gb Gc (va_up P k_12 (upd (P k_12) 1 0)) k_12 (by omega)) (cwV 1 hts (zgV_ wsC_all uC_82 uC_90 uC_91 uC_92 uC_73) rfl rfl rfl (by decide +kernel) ⟨Nat.le_of_ble_eq_true rfl, Nat.le_of_ble_eq_true rfl⟩) (zPreV (B := fun H => va_P V.1 vwCl (zaW V h (upd (kCount (upd (upd (upd (upd F1 12 ((F1 12) + 1)) 6 ((F1 6) + (kMin (upd F1 12 ((F1 12) + 1)) T P k_12))) 9 ((F1 9) + (kFar (upd (upd F1 12 ((F1 12) + 1)) 6 ((F1 6) + (kMin (upd F1 12 ((F1 12) + 1)) T P k_12))) P k_12))) 7 (if 99 < ((P k_12) 4 + (P k_12) 5 - 1) + 1 then 99 else ((P k_12) 4 + (P k_12) 5 - 1) + 1)) ((P k_12) 3) (-1)) 8 (if (kCount (upd (upd (upd (upd F1 12 ((F1 12) + 1)) 6 ((F1 6) + (kMin (upd F1 12 ((F1 12) + 1)) T P k_12))) 9 ((F1 9) + (kFar (upd (upd F1 12 ((F1 12) + 1)) 6 ((F1 6) + (kMin (upd F1 12 ((F1 12) + 1)) T P k_12))) P k_12))) 7 (if 99 < ((P k_12) 4 + (P k_12) 5 - 1) + 1 then 99 else ((P k_12) 4 + (P k_12) 5 - 1) + 1)) ((P k_12) 3) (-1)) 8 < (kCount (upd (upd (upd (upd F1 12 ((F1 12) + 1)) 6 ((F1 6) + (kMin (upd F1 12 ((F1 12) + 1)) T P k_12))) 9 ((F1 9) + (kFar (upd (upd F1 12 ((F1 12) + 1)) 6 ((F1 6) + (kMin (upd F1 12 ((F1 12) + 1)) T P k_12))) P k_12))) 7 (if 99 < ((P k_12) 4 + (P k_12) 5 - 1) + 1 then 99 else ((P k_12) 4 + (P k_12) 5 - 1) + 1)) ((P k_12) 3) (-1)) 6 - P k_12 6 then (kCount (upd (upd (upd (upd F1 12 ((F1 12) + 1)) 6 ((F1 6) + (kMin (upd F1 12 ((F1 12) + 1)) T P k_12))) 9 ((F1 9) + (kFar (upd (upd F1 12 ((F1 12) + 1)) 6 ((F1 6) + (kMin (upd F1 12 ((F1 12) + 1)) T P k_12))) P k_12))) 7 (if 99 < ((P k_12) 4 + (P k_12) 5 - 1) + 1 then 99 else ((P k_12) 4 + (P k_12) 5 - 1) + 1)) ((P k_12) 3) (-1)) 6 - P k_12 6 else (kCount (upd (upd (upd (upd F1 12 ((F1 12) + 1)) 6 ((F1 6) + (kMin (upd F1 12 ((F1 12) + 1)) T P k_12))) 9 ((F1 9) + (kFar (upd (upd F1 12 ((F1 12) + 1)) 6 ((F1 6) + (kMin (upd F1 12 ((F1 12) + 1)) T P k_12))) P k_12))) 7 (if 99 < ((P k_12) 4 + (P k_12) 5 - 1) + 1 then 99 else ((P k_12) 4 + (P k_12) 5 - 1) + 1)) ((P k_12) 3) (-1)) 8)) T lv Ga Gb Gc (va_up P k_12 (upd (P k_12) 1 0))) H) hP hE (za_ro hE hP)) rfl rfl hl.1 rfl (lv_room (Nat.le_of_ble_eq_true rfl)) dX0_serveNext_112 ⟨Nat.le_of_ble_eq_true rfl, Nat.le_of_ble_eq_true rfl⟩) ?_
      refine zt_i (y := (upd (kCount (upd (upd (upd (upd F1 12 ((F1 12) + 1)) 6 ((F1 6) + (kMin (upd F1 12 ((F1 12) + 1)) T P k_12))) 9 ((F1 9) + (kFar (upd (upd F1 12 ((F1 12) + 1)) 6 ((F1 6) + (kMin (upd F1 12 ((F1 12) + 1)) T P k_12))) P k_12))) 7 (if 99 < ((P k_12) 4 + (P k_12) 5 - 1) + 1 then 99 else ((P k_12) 4 + (P k_12) 5 - 1) + 1)) ((P k_12) 3) (-1)) 8 (if (kCount (upd (upd (upd (upd F1 12 ((F1 12) + 1)) 6 ((F1 6) + (kMin (upd F1 12 ((F1 12) + 1)) T P k_12))) 9 ((F1 9) + (kFar (upd (upd F1 12 ((F1 12) + 1)) 6 ((F1 6) + (kMin (upd F1 12 ((F1 12) + 1)) T P k_12))) P k_12))) 7 (if 99 < ((P k_12) 4 + (P k_12) 5 - 1) + 1 then 99 else ((P k_12) 4 + (P k_12) 5 - 1) + 1)) ((P k_12) 3) (-1)) 8 < (kCount (upd (upd (upd (upd F1 12 ((F1 12) + 1)) 6 ((F1 6) + (kMin (upd F1 12 ((F1 12) + 1)) T P k_12))) 9 ((F1 9) + (kFar (upd (upd F1 12 ((F1 12) + 1)) 6 ((F1 6) + (kMin (upd F1 12 ((F1 12) + 1)) T P k_12))) P k_12))) 7 (if 99 < ((P k_12) 4 + (P k_12) 5 - 1) + 1 then 99 else ((P k_12) 4 + (P k_12) 5 - 1) + 1)) ((P k_12) 3) (-1)) 6 - P k_12 6 then (kCount (upd (upd (upd (upd F1 12 ((F1 12) + 1)) 6 ((F1 6) + (kMin (upd F1 12 ((F1 12) + 1)) T P k_12))) 9 ((F1 9) + (kFar (upd (upd F1 12 ((F1 12) + 1)) 6 ((F1 6) + (kMin (upd F1 12 ((F1 12) + 1)) T P k_12))) P k_12))) 7 (if 99 < ((P k_12) 4 + (P k_12) 5 - 1) + 1 then 99 else ((P k_12) 4 + (P k_12) 5 - 1) + 1)) ((P k_12) 3) (-1)) 6 - P k_12 6 else (kCount (upd (upd (upd (upd F1 12 ((F1 12) + 1)) 6 ((F1 6) + (kMin (upd F1 12 ((F1 12) + 1)) T P k_12))) 9 ((F1 9) + (kFar (upd (upd F1 12 ((F1 12) + 1)) 6 ((F1 6) + (kMin (upd F1 12 ((F1 12) + 1)) T P k_12))) P k_12))) 7 (if 99 < ((P k_12) 4 + (P k_12) 5 - 1) + 1 then 99 else ((P k_12) 4 + (P k_12) 5 - 1) + 1)) ((P k_12) 3) (-1)) 8)) 6 - P k_12 6) (by rw [zUp_s]; rfl) ?_
      refine lv_aload_n hx hb dX0_serveNext_115 rfl (lv_at hl 0 rfl) ?_
      refine zo_getN 3 (.int ((upd (P k_12) 1 0) 3)) hx hb hts (fun x h => List.mem_cons_of_mem _ (hU_X5 x h)) hown hE (za_slip2 (i := k_12) hP (by omega)) (show vwCl[5]? = some (RX5, TX5, 8) from rfl) (by decide) rfl (List.mem_of_getElem? (i := 6) rfl) (fun _ h9 => h9) dX0_serveNext_116 ?_
      refine zc_v (va_runVN (As := [.int ((upd (P k_12) 1 0) 2), .int ((upd (kCount (upd (upd (upd (upd F1 12 ((F1 12) + 1)) 6 ((F1 6) + (kMin (upd F1 12 ((F1 12) + 1)) T P k_12))) 9 ((F1 9) + (kFar (upd (upd F1 12 ((F1 12) + 1)) 6 ((F1 6) + (kMin (upd F1 12 ((F1 12) + 1)) T P k_12))) P k_12))) 7 (if 99 < ((P k_12) 4 + (P k_12) 5 - 1) + 1 then 99 else ((P k_12) 4 + (P k_12) 5 - 1) + 1)) ((P k_12) 3) (-1)) 8 (if (kCount (upd (upd (upd (upd F1 12 ((F1 12) + 1)) 6 ((F1 6) + (kMin (upd F1 12 ((F1 12) + 1)) T P k_12))) 9 ((F1 9) + (kFar (upd (upd F1 12 ((F1 12) + 1)) 6 ((F1 6) + (kMin (upd F1 12 ((F1 12) + 1)) T P k_12))) P k_12))) 7 (if 99 < ((P k_12) 4 + (P k_12) 5 - 1) + 1 then 99 else ((P k_12) 4 + (P k_12) 5 - 1) + 1)) ((P k_12) 3) (-1)) 8 < (kCount (upd (upd (upd (upd F1 12 ((F1 12) + 1)) 6 ((F1 6) + (kMin (upd F1 12 ((F1 12) + 1)) T P k_12))) 9 ((F1 9) + (kFar (upd (upd F1 12 ((F1 12) + 1)) 6 ((F1 6) + (kMin (upd F1 12 ((F1 12) + 1)) T P k_12))) P k_12))) 7 (if 99 < ((P k_12) 4 + (P k_12) 5 - 1) + 1 then 99 else ((P k_12) 4 + (P k_12) 5 - 1) + 1)) ((P k_12) 3) (-1)) 6 - P k_12 6 then (kCount (upd (upd (upd (upd F1 12 ((F1 12) + 1)) 6 ((F1 6) + (kMin (upd F1 12 ((F1 12) + 1)) T P k_12))) 9 ((F1 9) + (kFar (upd (upd F1 12 ((F1 12) + 1)) 6 ((F1 6) + (kMin (upd F1 12 ((F1 12) + 1)) T P k_12))) P k_12))) 7 (if 99 < ((P k_12) 4 + (P k_12) 5 - 1) + 1 then 99 else ((P k_12) 4 + (P k_12) 5 - 1) + 1)) ((P k_12) 3) (-1)) 6 - P k_12 6 else (kCount (upd (upd (upd (upd F1 12 ((F1 12) + 1)) 6 ((F1 6) + (kMin (upd F1 12 ((F1 12) + 1)) T P k_12))) 9 ((F1 9) + (kFar (upd (upd F1 12 ((F1 12) + 1)) 6 ((F1 6) + (kMin (upd F1 12 ((F1 12) + 1)) T P k_12))) P k_12))) 7 (if 99 < ((P k_12) 4 + (P k_12) 5 - 1) + 1 then 99 else ((P k_12) 4 + (P k_12) 5 - 1) + 1)) ((P k_12) 3) (-1)) 8)) 6 - P k_12 6), .int ((upd (P k_12) 1 0) 3)]) (rest := []) ⟨hx, hb, hml, hown, hts⟩ (c_X2_append l V (fun p => h (p + 2)) lv Ga Gb Gc sv ((upd (P k_12) 1 0) 2) ((upd (kCount (upd (upd (upd (upd F1 12 ((F1 12) + 1)) 6 ((F1 6) + (kMin (upd F1 12 ((F1 12) + 1)) T P k_12))) 9 ((F1 9) + (kFar (upd (upd F1 12 ((F1 12) + 1)) 6 ((F1 6) + (kMin (upd F1 12 ((F1 12) + 1)) T P k_12))) P k_12))) 7 (if 99 < ((P k_12) 4 + (P k_12) 5 - 1) + 1 then 99 else ((P k_12) 4 + (P k_12) 5 - 1) + 1)) ((P k_12) 3) (-1)) 8 (if (kCount (upd (upd (upd (upd F1 12 ((F1 12) + 1)) 6 ((F1 6) + (kMin (upd F1 12 ((F1 12) + 1)) T P k_12))) 9 ((F1 9) + (kFar (upd (upd F1 12 ((F1 12) + 1)) 6 ((F1 6) + (kMin (upd F1 12 ((F1 12) + 1)) T P k_12))) P k_12))) 7 (if 99 < ((P k_12) 4 + (P k_12) 5 - 1) + 1 then 99 else ((P k_12) 4 + (P k_12) 5 - 1) + 1)) ((P k_12) 3) (-1)) 8 < (kCount (upd (upd (upd (upd F1 12 ((F1 12) + 1)) 6 ((F1 6) + (kMin (upd F1 12 ((F1 12) + 1)) T P k_12))) 9 ((F1 9) + (kFar (upd (upd F1 12 ((F1 12) + 1)) 6 ((F1 6) + (kMin (upd F1 12 ((F1 12) + 1)) T P k_12))) P k_12))) 7 (if 99 < ((P k_12) 4 + (P k_12) 5 - 1) + 1 then 99 else ((P k_12) 4 + (P k_12) 5 - 1) + 1)) ((P k_12) 3) (-1)) 6 - P k_12 6 then (kCount (upd (upd (upd (upd F1 12 ((F1 12) + 1)) 6 ((F1 6) + (kMin (upd F1 12 ((F1 12) + 1)) T P k_12))) 9 ((F1 9) + (kFar (upd (upd F1 12 ((F1 12) + 1)) 6 ((F1 6) + (kMin (upd F1 12 ((F1 12) + 1)) T P k_12))) P k_12))) 7 (if 99 < ((P k_12) 4 + (P k_12) 5 - 1) + 1 then 99 else ((P k_12) 4 + (P k_12) 5 - 1) + 1)) ((P k_12) 3) (-1)) 6 - P k_12 6 else (kCount (upd (upd (upd (upd F1 12 ((F1 12) + 1)) 6 ((F1 6) + (kMin (upd F1 12 ((F1 12) + 1)) T P k_12))) 9 ((F1 9) + (kFar (upd (upd F1 12 ((F1 12) + 1)) 6 ((F1 6) + (kMin (upd F1 12 ((F1 12) + 1)) T P k_12))) P k_12))) 7 (if 99 < ((P k_12) 4 + (P k_12) 5 - 1) + 1 then 99 else ((P k_12) 4 + (P k_12) 5 - 1) + 1)) ((P k_12) 3) (-1)) 8)) 6 - P k_12 6) ((upd (P k_12) 1 0) 3) (za_JL hJ) hsv (by omega)) ⟨va_cnB 3 hts (zgB_ wsC_all uC_133) rfl rfl rfl (hE.2 (.methodLinkNest RX0 205 yX2_append "DrawerSlips") (List.mem_of_getElem? (i := 56) rfl)) (hts _ (List.mem_cons_of_mem _ uC_17)) (by decide +kernel) ⟨Nat.le_of_ble_eq_true rfl, Nat.le_of_ble_eq_true rfl⟩, (hts _ (List.mem_cons_of_mem _ uC_153)), (hts _ (List.mem_cons_of_mem _ uC_154))⟩ (zPreV (B := fun H => va_P V.1 vwCl (zlW V (fun p => h (p + 2)) lv Ga Gb Gc) H) (za_toL hP) hE (zl_ro hE (za_toL hP))) rfl rfl hl.1 rfl (lv_room (Nat.le_of_ble_eq_true rfl)) dX0_serveNext_119 ⟨Nat.le_of_ble_eq_true rfl, Nat.le_of_ble_eq_true rfl⟩) hS (fun q h => za_inL h) (fun q h => za_inL h) (fun H locs hQ_ _ hk_ hS => ?_)
      have hP := za_joinL hP hJ hk_ hQ_
      exact zr_v hx hb hr hlocks hS (by subst eF1; rw [show kNxF F T P = kSvF (kGo F T P k_12) T P k_12 from kOn_s hq_12, show kNxS F T P sv = sv + 1 from kOn_s hq_12, show kNxP F T P = va_up P k_12 (upd (P k_12) 1 0) from kOn_s hq_12, show kNxA F T P Ga sv = upd Ga (sv % 20) (P k_12 2) from kOn_s hq_12, show kNxB F T P Gb sv = upd Gb (sv % 20) (kSvF (kGo F T P k_12) T P k_12 6 - P k_12 6) from kOn_s hq_12, show kNxC F T P Gc sv = upd Gc (sv % 20) (P k_12 3) from kOn_s hq_12]; exact hP) dX0_serveNext_122
    refine lv_iload_n hx hb dX0_serveNext_16 rfl (lv_at hl 1 rfl) ?_
    refine lv_if_eq (tgt := 28) hx hb dX0_serveNext_17 (by decide) (fun c_17 => ?_) (fun c_17 => ?_)
    · exact J_28 F s.heap [] ls trivial (by rw [kGo, if_pos c_17]) hP hS (lv_sub hl [0, 2] rfl)
    · refine lv_aload_n hx hb dX0_serveNext_20 rfl (lv_at hl 2 rfl) ?_
      refine lv_aload_n hx hb dX0_serveNext_21 rfl (lv_at hl 0 rfl) ?_
      refine zo_getN 3 (.int ((P k_12) 3)) hx hb hts (fun x h => List.mem_cons_of_mem _ (hU_X5 x h)) hown hE (za_slip hP (i := k_12) (by omega)) (show vwCl[5]? = some (RX5, TX5, 8) from rfl) (by decide) rfl (List.mem_of_getElem? (i := 6) rfl) (fun _ h9 => h9) dX0_serveNext_22 ?_
      refine zc_v (va_runV (As := [.int ((P k_12) 3)]) (rest := []) ⟨hx, hb, hml, hown, hts⟩ (c_X0_beginBatch l V h F T lv Ga Gb Gc P ((P k_12) 3) hJ) (cwV 1 hts (zgV_ wsC_all uC_132 uC_147 uC_148 uC_149 uC_73) rfl rfl rfl (by decide +kernel) ⟨Nat.le_of_ble_eq_true rfl, Nat.le_of_ble_eq_true rfl⟩) (zPreV (B := fun H => va_P V.1 vwCl (zaW V h F T lv Ga Gb Gc P) H) hP hE (za_ro hE hP)) rfl rfl hl.1 rfl (lv_room (Nat.le_of_ble_eq_true rfl)) dX0_serveNext_25 ⟨Nat.le_of_ble_eq_true rfl, Nat.le_of_ble_eq_true rfl⟩) hS (fun _ h => h) (fun _ h => h) (fun H locs hP _ _ hS => ?_)
      exact J_28 (kBegin F ((P k_12) 3)) H locs ls trivial (by rw [kGo, if_neg c_17]) hP hS (lv_sub hl [0, 2] rfl)
set_option maxHeartbeats 4000000 in
set_option maxRecDepth 100000 in
theorem c_X0_copyFrom (l : Launch) (V : zV) (h h2 : Nat → Nat) (F T : Nat → Int32) (lv : Int32) (Ga Gb Gc : Nat → Int32) (P : Nat → Nat → Int32) (F2 T2 : Nat → Int32) (lv2 : Int32) (Ga2 Gb2 Gc2 : Nat → Int32) (P2 : Nat → Nat → Int32) (hJ : zInj 36 h) (hd2 : ∀ p, p < 36 → ¬ zIn 36 h (h2 p)) (hw2 : ∀ i, i < 30 → P2 i 1 = 0 ∨ P2 i 1 = 1) : Met l yX0_copyFrom wsX0_copyFrom (zR 2 0 0) (zPc V [.ref (h 0), .ref (h2 0)] (fun H => va_P V.1 vwCl (zaW V h F T lv Ga Gb Gc P) H ∧ va_P V.1 vwCl (zaW V h2 F2 T2 lv2 Ga2 Gb2 Gc2 P2) H)) (zQv (fun H => va_P V.1 vwCl (zaW V h F2 T2 lv2 Ga2 Gb2 Gc2 P2) H) (zIn 36 h)) 0 0 (zIn 36 h) := by
  refine Met.ofW (cc := cX0_copyFrom) (maxL := 4) (ret := none) (by decide) rfl ?_
  intro p e s m args below meth c s₁ B hml hv
  obtain ⟨rfl, hP, hE⟩ := hv
  have hx := B.exec
  have hb := B.bytes
  have hr := B.returns
  have hts := atoms_spec (ws := wsX0_copyFrom) B.pre
  have hown : s.vm.findClass RX0 = some m.cls := findClass_of_methodNamed B.named
  have hlocks := B.notSynchronized
  have hl := lv_entry ([.ref (h 0), .ref (h2 0)]) (n := 4) (Nat.le_of_ble_eq_true rfl)
  rw [lg_entry_eq]
  generalize (lg_sl ([.ref (h 0), .ref (h2 0)]) ++ List.replicate (4 - (lg_sl ([.ref (h 0), .ref (h2 0)])).length) Slot.unset).toArray = ls at hl ⊢
  have hl : lv_has ls 4 [(0, .ref (h 0)), (1, .ref (h2 0))] := hl
  obtain ⟨hP, hP2⟩ := hP
  have hS : va_S (zIn 36 h) s.heap s.heap [] := va_S.rf
  refine lv_aload_n hx hb dX0_copyFrom_0 rfl (lv_at hl 1 rfl) ?_
  refine zo_get 0 (.ref (h2 1)) hx hb hts (fun x h => List.mem_cons_of_mem _ (hU_X0 x h)) hown hE (za_o (zP_other hP2 hS hd2)) (show vwCl[0]? = some (RX0, TX0, 14) from rfl) (by decide) rfl (hts _ (List.mem_cons_of_mem _ uC_14)) (fun _ h9 => h9) dX0_copyFrom_1 ?_
  refine lv_aload_n hx hb dX0_copyFrom_4 rfl (lv_at hl 0 rfl) ?_
  refine zo_get 0 (.ref (h 1)) hx hb hts (fun x h => List.mem_cons_of_mem _ (hU_X0 x h)) hown hE (za_o hP) (show vwCl[0]? = some (RX0, TX0, 14) from rfl) (by decide) rfl (hts _ (List.mem_cons_of_mem _ uC_14)) (fun _ h9 => h9) dX0_copyFrom_5 ?_
  refine zc_v (va_runSN (As := [.ref (h2 1), .ref (h 1)]) (rest := []) ⟨hx, hb, hml, hown, hts⟩ (c_X7_copyRow l V (h2 1) (h 1) 6 6 T2 T (by decide) (by decide) (fun z => hd2 1 (by decide) ⟨1, by decide, z⟩)) ⟨va_cnB 2 hts (zgB_ wsC_all uC_8) rfl rfl rfl (hE.2 (.methodLinkNest RX0 25 yX7_copyRow "DrawerSlips") (List.mem_of_getElem? (i := 30) rfl)) (hts _ (List.mem_cons_of_mem _ uC_25)) (by decide +kernel) ⟨Nat.le_of_ble_eq_true rfl, Nat.le_of_ble_eq_true rfl⟩, (hts _ (List.mem_cons_of_mem _ uC_24)), trivial⟩ (zPsS (B := fun U => zRd U U.heap (h2 1) 6 T2 ∧ va_P V.1 vwCl [(h 1, .inl (V.2.1, 6, .inl T))] U.heap) (fun _ _ _ _ h => ⟨zRd_calling h.1, h.2⟩) (fun U hU hvm => by rw [hU]; exact ⟨zRd.moved hvm (zRd_of hE (za_t (zP_other hP2 hS hd2))), zP1 (za_t hP)⟩) hE) rfl rfl hl.1 rfl (lv_room (Nat.le_of_ble_eq_true rfl)) dX0_copyFrom_8 ⟨Nat.le_of_ble_eq_true rfl, Nat.le_of_ble_eq_true rfl⟩) hS (fun q h => ⟨1, by decide, h⟩) (fun q h => ⟨1, by decide, h⟩) (fun H locs hQ_ _ hk_ hS => ?_)
  have hP := za_jT (T' := fun j => if j < 6 ∧ j < 6 then T2 j else T j) hP hJ hk_ hQ_
  refine lv_aload_n hx hb dX0_copyFrom_11 rfl (lv_at hl 1 rfl) ?_
  refine zo_get 1 (.ref (h2 6)) hx hb hts (fun x h => List.mem_cons_of_mem _ (hU_X0 x h)) hown hE (za_o (zP_other hP2 hS hd2)) (show vwCl[0]? = some (RX0, TX0, 14) from rfl) (by decide) rfl (hts _ (List.mem_cons_of_mem _ uC_22)) (fun _ h9 => h9) dX0_copyFrom_12 ?_
  refine lv_astore_n (lv' := [(2, .ref (h2 6)), (0, .ref (h 0)), (1, .ref (h2 0))]) hx hb dX0_copyFrom_15 rfl hl (by decide) rfl (fun ls hl => ?_)
  refine lv_aload_n hx hb dX0_copyFrom_16 rfl (lv_at hl 1 rfl) ?_
  refine zo_get 1 (.ref (h 6)) hx hb hts (fun x h => List.mem_cons_of_mem _ (hU_X0 x h)) hown hE (za_o hP) (show vwCl[0]? = some (RX0, TX0, 14) from rfl) (by decide) rfl (hts _ (List.mem_cons_of_mem _ uC_22)) (fun _ h9 => h9) dX0_copyFrom_17 ?_
  refine lv_astore_n (lv' := [(3, .ref (h 6)), (2, .ref (h2 6)), (0, .ref (h 0)), (1, .ref (h2 0))]) hx hb dX0_copyFrom_20 rfl hl (by decide) rfl (fun ls hl => ?_)
  have L_21 : ∀ (n_ i : Nat) (q_ : Nat → Nat → Int32) (H : Heap) (locs : List Loc) (ls : Array Slot), i ≤ 30 → 30 + 1 ≤ i + n_ → (q_ = fun j => if j < i then P2 j else P j) → va_P V.1 vwCl (zaW V h F (fun j => if j < 6 ∧ j < 6 then T2 j else T j) lv Ga Gb Gc q_) H → va_S (zIn 36 h) s.heap H locs → lv_has ls 4 [(3, va_rf (zch h i)), (2, va_rf (zch h2 i)), (0, .ref (h 0)), (1, .ref (h2 0))] → W p l e (headSpec wsX0_copyFrom (zR 2 0 0)).room s m (List.toArray [.ref (h 0), .ref (h2 0)]) below meth c H locs 0 0 (MQ below (zQv (fun H => va_P V.1 vwCl (zaW V h F2 T2 lv2 Ga2 Gb2 Gc2 P2) H) (zIn 36 h)) (List.toArray [.ref (h 0), .ref (h2 0)]) s 0 0 (zIn 36 h)) (F0 m 21 ls []) := by
    intro n_
    induction n_ with
    | zero => intro i q_ H locs ls hi_ hn_; exact absurd hn_ (by omega)
    | succ n_ ih =>
      intro i q_ H locs ls hi_ hn_ eq_ hP hS hl
      rcases Nat.lt_or_ge i 30 with hi3_ | hi3_
      · rw [zch_lt hi3_, zch_lt hi3_] at hl
        have hl : lv_has ls 4 [(3, .ref (h (i + 6))), (2, .ref (h2 (i + 6))), (0, .ref (h 0)), (1, .ref (h2 0))] := hl
        refine lv_aload_n hx hb dX0_copyFrom_21 rfl (lv_at hl 0 rfl) ?_
        refine lv_ifnull hx hb dX0_copyFrom_22 ?_
        refine lv_aload_n hx hb dX0_copyFrom_25 rfl (lv_at hl 1 rfl) ?_
        refine lv_ifnull hx hb dX0_copyFrom_26 ?_
        refine lv_aload_n hx hb dX0_copyFrom_29 rfl (lv_at hl 0 rfl) ?_
        refine lv_aload_n hx hb dX0_copyFrom_30 rfl (lv_at hl 1 rfl) ?_
        refine zc_v (va_runVN (As := [.ref (h2 (i + 6))]) (rest := []) ⟨hx, hb, hml, hown, hts⟩ (c_X5_copyFrom l V (h (i + 6)) (h2 (i + 6)) (zch h (i + 1)) (zch h2 (i + 1)) (q_ i) (P2 i) (fun z => hd2 (i + 6) (by omega) ⟨i + 6, by omega, z⟩) (hw2 i (by omega))) ⟨va_cnB 1 hts (zgB_ wsC_all uC_27) rfl rfl rfl (hE.2 (.methodLinkNest RX0 38 yX5_copyFrom "DrawerSlips") (List.mem_of_getElem? (i := 40) rfl)) (hts _ (List.mem_cons_of_mem _ uC_21)) (by decide +kernel) ⟨Nat.le_of_ble_eq_true rfl, Nat.le_of_ble_eq_true rfl⟩, (hts _ (List.mem_cons_of_mem _ uC_49)), (hts _ (List.mem_cons_of_mem _ uC_50))⟩ (zPreV (B := fun H => va_P V.1 vwCl [(h (i + 6), .inr (5, zsO (zch h (i + 1)) (q_ i)))] H ∧ va_at V.1 vwCl (h2 (i + 6), .inr (5, zsO (zch h2 (i + 1)) (P2 i))) H) ⟨zP1 (za_slip hP (i := i) (by omega)), za_slip (zP_other hP2 hS hd2) (i := i) (by omega)⟩ hE (za_rs hE hP (i := i) (by omega))) rfl rfl hl.1 rfl (lv_room (Nat.le_of_ble_eq_true rfl)) dX0_copyFrom_31 ⟨Nat.le_of_ble_eq_true rfl, Nat.le_of_ble_eq_true rfl⟩) hS (fun q h => ⟨i + 6, by omega, h⟩) (fun q h => ⟨i + 6, by omega, h⟩) (fun H locs hQ_ _ hk_ hS => ?_)
        have hP := za_jS (i := i) (by omega) hP hJ hk_ hQ_
        refine lv_aload_n hx hb dX0_copyFrom_34 rfl (lv_at hl 1 rfl) ?_
        refine zo_getN 0 (va_rf (zch h2 (i + 1))) hx hb hts (fun x h => List.mem_cons_of_mem _ (hU_X5 x h)) hown hE (za_slip (zP_other hP2 hS hd2) (i := i) (by omega)) (show vwCl[5]? = some (RX5, TX5, 8) from rfl) (by decide) rfl (List.mem_of_getElem? (i := 2) rfl) (fun _ h9 => h9) dX0_copyFrom_35 ?_
        refine zo_astore_n (r := zch h2 (i + 1)) (lv' := [(2, va_rf (zch h2 (i + 1))), (3, .ref (h (i + 6))), (0, .ref (h 0)), (1, .ref (h2 0))]) hx hb dX0_copyFrom_38 rfl hl (by decide) rfl (fun ls hl => ?_)
        refine lv_aload_n hx hb dX0_copyFrom_39 rfl (lv_at hl 1 rfl) ?_
        refine zo_getN 0 (va_rf (zch h (i + 1))) hx hb hts (fun x h => List.mem_cons_of_mem _ (hU_X5 x h)) hown hE (za_slip hP (i := i) (by omega)) (show vwCl[5]? = some (RX5, TX5, 8) from rfl) (by decide) rfl (List.mem_of_getElem? (i := 2) rfl) (fun _ h9 => h9) dX0_copyFrom_40 ?_
        refine zo_astore_n (r := zch h (i + 1)) (lv' := [(3, va_rf (zch h (i + 1))), (2, va_rf (zch h2 (i + 1))), (0, .ref (h 0)), (1, .ref (h2 0))]) hx hb dX0_copyFrom_43 rfl hl (by decide) (by generalize zch h2 (i + 1) = r_; cases r_ <;> rfl) (fun ls hl => ?_)
        refine lv_goto (tgt := 21) hx hb dX0_copyFrom_44 (by decide) ?_
        have e_ : va_up q_ i (P2 i) = fun j => if j < i + 1 then P2 j else P j := by
          funext j; by_cases h1 : j = i
          · subst h1; rw [zUp_s, if_pos (by omega)]
          · rw [zUp_n _ _ h1, eq_]; show (if j < i then P2 j else P j) = if j < i + 1 then P2 j else P j; by_cases h2 : j < i
            · rw [if_pos h2, if_pos (by omega)]
            · rw [if_neg h2, if_neg (by omega)]
        exact ih (i + 1) (va_up q_ i (P2 i)) H locs ls (by omega) (by omega) e_ hP hS (lv_sub hl [0, 1, 2, 3] rfl)
      · rw [zch_end hi3_, zch_end hi3_] at hl
        have hl : lv_has ls 4 [(3, .null), (2, .null), (0, .ref (h 0)), (1, .ref (h2 0))] := hl
        have hi30_ : i = 30 := by omega
        refine lv_aload_nN hx hb dX0_copyFrom_21 rfl (lv_at hl 0 rfl) ?_
        refine lv_ifnullN (tgt := 47) hx hb dX0_copyFrom_22 (by decide) ?_
        refine lv_aload_n hx hb dX0_copyFrom_47 rfl (lv_at hl 2 rfl) ?_
        refine zo_get 2 (.ref (h 2)) hx hb hts (fun x h => List.mem_cons_of_mem _ (hU_X0 x h)) hown hE (za_o hP) (show vwCl[0]? = some (RX0, TX0, 14) from rfl) (by decide) rfl (hts _ (List.mem_cons_of_mem _ uC_18)) (fun _ h9 => h9) dX0_copyFrom_48 ?_
        refine lv_aload_n hx hb dX0_copyFrom_51 rfl (lv_at hl 3 rfl) ?_
        refine zo_get 2 (.ref (h2 2)) hx hb hts (fun x h => List.mem_cons_of_mem _ (hU_X0 x h)) hown hE (za_o (zP_other hP2 hS hd2)) (show vwCl[0]? = some (RX0, TX0, 14) from rfl) (by decide) rfl (hts _ (List.mem_cons_of_mem _ uC_18)) (fun _ h9 => h9) dX0_copyFrom_52 ?_
        refine zc_v (va_runVN (As := [.ref (h2 2)]) (rest := []) ⟨hx, hb, hml, hown, hts⟩ (c_X2_copyFrom l V (fun p => h (p + 2)) lv Ga Gb Gc (fun p => h2 (p + 2)) lv2 Ga2 Gb2 Gc2 (za_JL hJ) (fun p hp hz => hd2 (p + 2) (by omega) (za_inL hz))) ⟨va_cnB 1 hts (zgB_ wsC_all uC_35) rfl rfl rfl (hE.2 (.methodLinkNest RX0 44 yX2_copyFrom "DrawerSlips") (List.mem_of_getElem? (i := 41) rfl)) (hts _ (List.mem_cons_of_mem _ uC_17)) (by decide +kernel) ⟨Nat.le_of_ble_eq_true rfl, Nat.le_of_ble_eq_true rfl⟩, (hts _ (List.mem_cons_of_mem _ uC_51)), (hts _ (List.mem_cons_of_mem _ uC_52))⟩ (zPreV (B := fun H => va_P V.1 vwCl (zlW V (fun p => h (p + 2)) lv Ga Gb Gc) H ∧ va_P V.1 vwCl (zlW V (fun p => h2 (p + 2)) lv2 Ga2 Gb2 Gc2) H) ⟨za_toL hP, za_toL (zP_other hP2 hS hd2)⟩ hE (zl_ro hE (za_toL hP))) rfl rfl hl.1 rfl (lv_room (Nat.le_of_ble_eq_true rfl)) dX0_copyFrom_55 ⟨Nat.le_of_ble_eq_true rfl, Nat.le_of_ble_eq_true rfl⟩) hS (fun q h => za_inL h) (fun q h => za_inL h) (fun H locs hQ_ _ hk_ hS => ?_)
        have hP := za_joinL hP hJ hk_ hQ_
        refine lv_aload_n hx hb dX0_copyFrom_58 rfl (lv_at hl 2 rfl) ?_
        refine lv_aload_n hx hb dX0_copyFrom_59 rfl (lv_at hl 3 rfl) ?_
        refine zo_get 3 (.int (F2 3)) hx hb hts (fun x h => List.mem_cons_of_mem _ (hU_X0 x h)) hown hE (za_o (zP_other hP2 hS hd2)) (show vwCl[0]? = some (RX0, TX0, 14) from rfl) (by decide) rfl (hts _ (List.mem_cons_of_mem _ uC_38)) (fun _ h9 => h9) dX0_copyFrom_60 ?_
        refine za_put 3 (F2 3) hx hb hts (fun x h => List.mem_cons_of_mem _ (hU_X0 x h)) hown hE hP hJ hS (by decide) rfl rfl (by decide +kernel) (hts _ (List.mem_cons_of_mem _ uC_38)) (fun _ h9 => h9) dX0_copyFrom_63 (fun H locs hP hS => ?_)
        refine lv_aload_n hx hb dX0_copyFrom_66 rfl (lv_at hl 2 rfl) ?_
        refine lv_aload_n hx hb dX0_copyFrom_67 rfl (lv_at hl 3 rfl) ?_
        refine zo_get 4 (.int (F2 4)) hx hb hts (fun x h => List.mem_cons_of_mem _ (hU_X0 x h)) hown hE (za_o (zP_other hP2 hS hd2)) (show vwCl[0]? = some (RX0, TX0, 14) from rfl) (by decide) rfl (hts _ (List.mem_cons_of_mem _ uC_39)) (fun _ h9 => h9) dX0_copyFrom_68 ?_
        refine za_put 4 (F2 4) hx hb hts (fun x h => List.mem_cons_of_mem _ (hU_X0 x h)) hown hE hP hJ hS (by decide) rfl rfl (by decide +kernel) (hts _ (List.mem_cons_of_mem _ uC_39)) (fun _ h9 => h9) dX0_copyFrom_71 (fun H locs hP hS => ?_)
        refine lv_aload_n hx hb dX0_copyFrom_74 rfl (lv_at hl 2 rfl) ?_
        refine lv_aload_n hx hb dX0_copyFrom_75 rfl (lv_at hl 3 rfl) ?_
        refine zo_get 5 (.int (F2 5)) hx hb hts (fun x h => List.mem_cons_of_mem _ (hU_X0 x h)) hown hE (za_o (zP_other hP2 hS hd2)) (show vwCl[0]? = some (RX0, TX0, 14) from rfl) (by decide) rfl (hts _ (List.mem_cons_of_mem _ uC_40)) (fun _ h9 => h9) dX0_copyFrom_76 ?_
        refine za_put 5 (F2 5) hx hb hts (fun x h => List.mem_cons_of_mem _ (hU_X0 x h)) hown hE hP hJ hS (by decide) rfl rfl (by decide +kernel) (hts _ (List.mem_cons_of_mem _ uC_40)) (fun _ h9 => h9) dX0_copyFrom_79 (fun H locs hP hS => ?_)
        refine lv_aload_n hx hb dX0_copyFrom_82 rfl (lv_at hl 2 rfl) ?_
        refine lv_aload_n hx hb dX0_copyFrom_83 rfl (lv_at hl 3 rfl) ?_
        refine zo_get 6 (.int (F2 6)) hx hb hts (fun x h => List.mem_cons_of_mem _ (hU_X0 x h)) hown hE (za_o (zP_other hP2 hS hd2)) (show vwCl[0]? = some (RX0, TX0, 14) from rfl) (by decide) rfl (hts _ (List.mem_cons_of_mem _ uC_41)) (fun _ h9 => h9) dX0_copyFrom_84 ?_
        refine za_put 6 (F2 6) hx hb hts (fun x h => List.mem_cons_of_mem _ (hU_X0 x h)) hown hE hP hJ hS (by decide) rfl rfl (by decide +kernel) (hts _ (List.mem_cons_of_mem _ uC_41)) (fun _ h9 => h9) dX0_copyFrom_87 (fun H locs hP hS => ?_)
        refine lv_aload_n hx hb dX0_copyFrom_90 rfl (lv_at hl 2 rfl) ?_
        refine lv_aload_n hx hb dX0_copyFrom_91 rfl (lv_at hl 3 rfl) ?_
        refine zo_get 7 (.int (F2 7)) hx hb hts (fun x h => List.mem_cons_of_mem _ (hU_X0 x h)) hown hE (za_o (zP_other hP2 hS hd2)) (show vwCl[0]? = some (RX0, TX0, 14) from rfl) (by decide) rfl (hts _ (List.mem_cons_of_mem _ uC_42)) (fun _ h9 => h9) dX0_copyFrom_92 ?_
        refine za_put 7 (F2 7) hx hb hts (fun x h => List.mem_cons_of_mem _ (hU_X0 x h)) hown hE hP hJ hS (by decide) rfl rfl (by decide +kernel) (hts _ (List.mem_cons_of_mem _ uC_42)) (fun _ h9 => h9) dX0_copyFrom_95 (fun H locs hP hS => ?_)
        refine lv_aload_n hx hb dX0_copyFrom_98 rfl (lv_at hl 2 rfl) ?_
        refine lv_aload_n hx hb dX0_copyFrom_99 rfl (lv_at hl 3 rfl) ?_
        refine zo_get 8 (.int (F2 8)) hx hb hts (fun x h => List.mem_cons_of_mem _ (hU_X0 x h)) hown hE (za_o (zP_other hP2 hS hd2)) (show vwCl[0]? = some (RX0, TX0, 14) from rfl) (by decide) rfl (hts _ (List.mem_cons_of_mem _ uC_43)) (fun _ h9 => h9) dX0_copyFrom_100 ?_
        refine za_put 8 (F2 8) hx hb hts (fun x h => List.mem_cons_of_mem _ (hU_X0 x h)) hown hE hP hJ hS (by decide) rfl rfl (by decide +kernel) (hts _ (List.mem_cons_of_mem _ uC_43)) (fun _ h9 => h9) dX0_copyFrom_103 (fun H locs hP hS => ?_)
        refine lv_aload_n hx hb dX0_copyFrom_106 rfl (lv_at hl 2 rfl) ?_
        refine lv_aload_n hx hb dX0_copyFrom_107 rfl (lv_at hl 3 rfl) ?_
        refine zo_get 9 (.int (F2 9)) hx hb hts (fun x h => List.mem_cons_of_mem _ (hU_X0 x h)) hown hE (za_o (zP_other hP2 hS hd2)) (show vwCl[0]? = some (RX0, TX0, 14) from rfl) (by decide) rfl (hts _ (List.mem_cons_of_mem _ uC_44)) (fun _ h9 => h9) dX0_copyFrom_108 ?_
        refine za_put 9 (F2 9) hx hb hts (fun x h => List.mem_cons_of_mem _ (hU_X0 x h)) hown hE hP hJ hS (by decide) rfl rfl (by decide +kernel) (hts _ (List.mem_cons_of_mem _ uC_44)) (fun _ h9 => h9) dX0_copyFrom_111 (fun H locs hP hS => ?_)
        refine lv_aload_n hx hb dX0_copyFrom_114 rfl (lv_at hl 2 rfl) ?_
        refine lv_aload_n hx hb dX0_copyFrom_115 rfl (lv_at hl 3 rfl) ?_
        refine zo_get 10 (.int (F2 10)) hx hb hts (fun x h => List.mem_cons_of_mem _ (hU_X0 x h)) hown hE (za_o (zP_other hP2 hS hd2)) (show vwCl[0]? = some (RX0, TX0, 14) from rfl) (by decide) rfl (hts _ (List.mem_cons_of_mem _ uC_45)) (fun _ h9 => h9) dX0_copyFrom_116 ?_
        refine za_put 10 (F2 10) hx hb hts (fun x h => List.mem_cons_of_mem _ (hU_X0 x h)) hown hE hP hJ hS (by decide) rfl rfl (by decide +kernel) (hts _ (List.mem_cons_of_mem _ uC_45)) (fun _ h9 => h9) dX0_copyFrom_119 (fun H locs hP hS => ?_)
        refine lv_aload_n hx hb dX0_copyFrom_122 rfl (lv_at hl 2 rfl) ?_
        refine lv_aload_n hx hb dX0_copyFrom_123 rfl (lv_at hl 3 rfl) ?_
        refine zo_get 11 (.int (F2 11)) hx hb hts (fun x h => List.mem_cons_of_mem _ (hU_X0 x h)) hown hE (za_o (zP_other hP2 hS hd2)) (show vwCl[0]? = some (RX0, TX0, 14) from rfl) (by decide) rfl (hts _ (List.mem_cons_of_mem _ uC_46)) (fun _ h9 => h9) dX0_copyFrom_124 ?_
        refine za_put 11 (F2 11) hx hb hts (fun x h => List.mem_cons_of_mem _ (hU_X0 x h)) hown hE hP hJ hS (by decide) rfl rfl (by decide +kernel) (hts _ (List.mem_cons_of_mem _ uC_46)) (fun _ h9 => h9) dX0_copyFrom_127 (fun H locs hP hS => ?_)
        refine lv_aload_n hx hb dX0_copyFrom_130 rfl (lv_at hl 2 rfl) ?_
        refine lv_aload_n hx hb dX0_copyFrom_131 rfl (lv_at hl 3 rfl) ?_
        refine zo_get 12 (.int (F2 12)) hx hb hts (fun x h => List.mem_cons_of_mem _ (hU_X0 x h)) hown hE (za_o (zP_other hP2 hS hd2)) (show vwCl[0]? = some (RX0, TX0, 14) from rfl) (by decide) rfl (hts _ (List.mem_cons_of_mem _ uC_47)) (fun _ h9 => h9) dX0_copyFrom_132 ?_
        refine za_put 12 (F2 12) hx hb hts (fun x h => List.mem_cons_of_mem _ (hU_X0 x h)) hown hE hP hJ hS (by decide) rfl rfl (by decide +kernel) (hts _ (List.mem_cons_of_mem _ uC_47)) (fun _ h9 => h9) dX0_copyFrom_135 (fun H locs hP hS => ?_)
        refine lv_aload_n hx hb dX0_copyFrom_138 rfl (lv_at hl 2 rfl) ?_
        refine lv_aload_n hx hb dX0_copyFrom_139 rfl (lv_at hl 3 rfl) ?_
        refine zo_get 13 (.int (F2 13)) hx hb hts (fun x h => List.mem_cons_of_mem _ (hU_X0 x h)) hown hE (za_o (zP_other hP2 hS hd2)) (show vwCl[0]? = some (RX0, TX0, 14) from rfl) (by decide) rfl (hts _ (List.mem_cons_of_mem _ uC_48)) (fun _ h9 => h9) dX0_copyFrom_140 ?_
        refine za_put 13 (F2 13) hx hb hts (fun x h => List.mem_cons_of_mem _ (hU_X0 x h)) hown hE hP hJ hS (by decide) rfl rfl (by decide +kernel) (hts _ (List.mem_cons_of_mem _ uC_48)) (fun _ h9 => h9) dX0_copyFrom_143 (fun H locs hP hS => ?_)
        exact zr_v hx hb hr hlocks hS (za_x F2 T2 lv2 Ga2 Gb2 Gc2 P2 (fun j h3 h14 => by rcases (show j = 3 ∨ j = 4 ∨ j = 5 ∨ j = 6 ∨ j = 7 ∨ j = 8 ∨ j = 9 ∨ j = 10 ∨ j = 11 ∨ j = 12 ∨ j = 13 by omega) with rfl | rfl | rfl | rfl | rfl | rfl | rfl | rfl | rfl | rfl | rfl <;> rfl) (fun j hj => if_pos ⟨hj, hj⟩) rfl (fun _ _ => rfl) (fun _ _ => rfl) (fun _ _ => rfl) (fun j hj _ _ _ => by rw [eq_]; exact congrFun (if_pos (by omega)) _) hP) dX0_copyFrom_146
  exact L_21 (30 + 1) 0 P H locs ls (by omega) (by omega) (by funext j; rw [if_neg (by omega)]) hP hS (lv_sub hl [0, 1, 2, 3] rfl)
