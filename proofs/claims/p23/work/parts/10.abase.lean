/-! the class's cells: slips, the latest ones, an archive; rows that read and write them -/
def zRd (U : State) (H : Heap) (a n : Nat) (f : Nat → Int32) : Prop := ∃ cell : Cell, H[a]? = some cell ∧ U.isArrayOf cell .int ∧ cell.vm ≠ .unknown ∧ n ≤ cell.slots.size ∧ cell.slots.size.toInt32 = Int32.ofNat n ∧ ∀ j : Nat, j < n → cell.slots[j]? = some (.int (f j))
theorem zRd.moved {u U : State} {H : Heap} {a n : Nat} {f : Nat → Int32} (hvm : u.vm.Alike U.vm) (h : zRd u H a n f) : zRd U H a n f := by
  obtain ⟨cell, h1, h2, h3⟩ := h
  exact ⟨cell, h1, State.isArrayOf_alike hvm h2, h3⟩
theorem zRd.kept {U : State} {H H1 : Heap} {a n : Nat} {f : Nat → Int32} (h : zRd U H a n f) (hq : H1[a]? = H[a]?) : zRd U H1 a n f := by
  obtain ⟨cell, h1, h2⟩ := h
  exact ⟨cell, by rw [hq]; exact h1, h2⟩
theorem zRd.lt {U : State} {H : Heap} {a n : Nat} {f : Nat → Int32} (h : zRd U H a n f) : a < H.size := by
  obtain ⟨cell, h1, -⟩ := h
  exact (Array.getElem?_eq_some_iff.mp h1).1
theorem zRd_of {V : zV} {U : State} {H : Heap} {a n : Nat} {f : Nat → Int32} (hE : zE V U) (h : va_at V.1 vwCl (a, .inl (V.2.1, n, .inl f)) H) : zRd U H a n f := by
  have h0 : H[a]? = some (vp_cell V.2.1 (n, .inl f)) := h
  have h1 := (hE.1.2 0 (V.2.1, .int) rfl).1 n (fun j => .int (f j))
  refine ⟨_, h0, h1, (fun q => by cases q), ?_, ?_, fun j hj => ?_⟩
  · rw [vp_cell_i, arrV_size]; exact Nat.le_refl n
  · rw [vp_cell_i, arrV_size]
  · rw [vp_cell_i, arrV_read _ _ hj]
-- a start that speaks of the state: what it says must not look at the frames
def zPs (V : zV) (av : List Value) (B : State → Prop) : Array Value → State → Prop := va_Pc av (fun U => B U ∧ zE V U)
theorem zPs_blind {V : zV} {av : List Value} {B : State → Prop} (hB : ∀ (a : Array Value) (U : State) (g : JFrame) (mk : MethodId), B U → B (U.calling g mk a)) : FrameBlind (zPs V av B) := fun a U g mk q => ⟨q.1, hB a U g mk q.2.1, q.2.2.calling⟩
theorem zPsS {V : zV} {s : State} {H : Heap} {As : List Value} {B : State → Prop} (hb : ∀ (a : Array Value) (U : State) (g : JFrame) (mk : MethodId), B U → B (U.calling g mk a)) (hB : ∀ U : State, U.heap = H → s.vm.Alike U.vm → B U) (hE : zE V s) : PreS s H (zPs V As B) As :=
  ⟨zPs_blind hb, fun U hU hW => ⟨rfl, hB U hU hW.alike, hE.moved hW⟩⟩
theorem zRd_calling {U : State} {g : JFrame} {mk : MethodId} {v : Array Value} {a n : Nat} {f : Nat → Int32} (h : zRd U U.heap a n f) : zRd (U.calling g mk v) (U.calling g mk v).heap a n f := zRd.moved (u := U) (U := U.calling g mk v) (Vm.Alike.refl U.vm) h
theorem zD1 {A : Nat → Prop} {a : Nat} {x : va_E} (h : A a) : va_D A [(a, x)] := by
  refine ⟨fun i j p q hi hj _ => ?_, fun k q hk => ?_⟩
  · have h1 := (List.getElem?_eq_some_iff.mp hi).1
    have h2 := (List.getElem?_eq_some_iff.mp hj).1
    simp at h1 h2
    omega
  · match k, hk with
    | 0, hk => cases hk; exact h
    | k + 1, hk => simp at hk
theorem zP1 {D : va_G} {cl : List vw_C} {a : Nat} {x : va_E} {H : Heap} (h : va_at D cl (a, x) H) : va_P D cl [(a, x)] H := by
  intro k q hk
  match k, hk with
  | 0, hk => cases hk; exact h
  | k + 1, hk => simp at hk
theorem zP1_at {D : va_G} {cl : List vw_C} {a : Nat} {x : va_E} {H : Heap} (h : va_P D cl [(a, x)] H) : va_at D cl (a, x) H := h 0 _ rfl
section ZO
variable {p : Program} {l : Launch} {e : Env} {R : Room} {s : State} {m : MethodId} {args : Array Value} {below : List Frame} {meth : Method} {c : Code} {H : Heap} {locs : List Loc} {cells slots : Nat} {Q : State → Prop}
variable {pc : Nat} {ls : Array Slot} {rest : List Value} {cc : ByteArray} {A : Nat → Prop} {H0 : Heap}
theorem zt_v {x y : Value} (h : x = y) (k : W p l e R s m args below meth c H locs cells slots Q (F0 m pc ls (y :: rest))) : W p l e R s m args below meth c H locs cells slots Q (F0 m pc ls (x :: rest)) := by rw [h]; exact k
theorem zo_get {V : zV} {a ci N : Nat} {C : String} {T : u_T} {fs : List Value} (k : Nat) (v : Value) {own ref : String} {index : Nat} {Ts : List Cond} (hx : p.tables.exec = Jvm.exec) (hb : c.code = cc) (hts : ∀ w ∈ Ts, w.before args s = true) (hin : ∀ w ∈ u_ws C T N, w ∈ Ts) (hown : s.vm.findClass own = some m.cls) (hE : zE V s) (hat : va_at V.1 vwCl (a, .inr (ci, fs)) H) (hc : vwCl[ci]? = some (C, T, N)) (hk : k < N) (hv : fs[k]? = some v) (hlink : (Cond.fieldLink own index ref (T k).2.1 (T k).2.2.1).before args s = true) (hsame : ∀ x, s.fieldFound? (T k).1 (T k).2.1 (T k).2.2.1 = some x → s.fieldFound? ref (T k).2.1 (T k).2.2.1 = some x) (hdg : decode cc pc = .ok (.getfield index, 3))
    (kk : W p l e R s m args below meth c H locs cells slots Q (F0 m (pc + 3) ls (v :: rest))) : W p l e R s m args below meth c H locs cells slots Q (F0 m pc ls (.ref a :: rest)) :=
  va_get (D := V.1) hx hb hts hin hown hE.1 (zP1 hat) 0 rfl hc k hk hlink hsame hv hdg kk
theorem zo_getN {V : zV} {a ci N : Nat} {C : String} {T : u_T} {fs : List Value} (k : Nat) (v : Value) {own ref host : String} {index : Nat} {Ts : List Cond} (hx : p.tables.exec = Jvm.exec) (hb : c.code = cc) (hts : ∀ w ∈ Ts, w.before args s = true) (hin : ∀ w ∈ u_ws C T N, w ∈ Ts) (hown : s.vm.findClass own = some m.cls) (hE : zE V s) (hat : va_at V.1 vwCl (a, .inr (ci, fs)) H) (hc : vwCl[ci]? = some (C, T, N)) (hk : k < N) (hv : fs[k]? = some v) (hlink : Cond.fieldLinkNest own index ref (T k).2.1 (T k).2.2.1 host ∈ zNW) (hsame : ∀ x, s.fieldFound? (T k).1 (T k).2.1 (T k).2.2.1 = some x → s.fieldFound? ref (T k).2.1 (T k).2.2.1 = some x) (hdg : decode cc pc = .ok (.getfield index, 3))
    (kk : W p l e R s m args below meth c H locs cells slots Q (F0 m (pc + 3) ls (v :: rest))) : W p l e R s m args below meth c H locs cells slots Q (F0 m pc ls (.ref a :: rest)) :=
  va_getN (D := V.1) hx hb hts hin hown hE.1 (zP1 hat) 0 rfl hc k hk (va_Nw.use rfl (hE.2 _ hlink)) hsame hv hdg kk
theorem zo_put {V : zV} {a ci N p0 : Nat} {C : String} {T : u_T} {ws : va_W} {fs : List Value} (k : Nat) (v : Value) (ty : FieldType) {own ref : String} {index : Nat} {Ts : List Cond} (hx : p.tables.exec = Jvm.exec) (hb : c.code = cc) (hts : ∀ w ∈ Ts, w.before args s = true) (hin : ∀ w ∈ u_ws C T N, w ∈ Ts) (ty0 : Nat → FieldType) (hty : ∀ k, k < N → parseFieldDescriptor (T k).2.2.1 = some (ty0 k)) (hnm : ∀ a, a < N → ∀ b, b < N → a ≠ b → (T a).2.1 ≠ (T b).2.1) (hown : s.vm.findClass own = some m.cls) (hE : zE V s) (hP : va_P V.1 vwCl ws H) (hD : va_D A ws) (hS : va_S A H0 H locs) (he : ws[p0]? = some (a, .inr (ci, fs))) (hc : vwCl[ci]? = some (C, T, N)) (hk : k < N) (hl : k < fs.length) (hfin : (T k).2.2.2 = false) (hd : parseFieldDescriptor (T k).2.2.1 = some ty) (hn : narrow ty v = v) (hfit : fits ty v = true) (hlink : (Cond.fieldLink own index ref (T k).2.1 (T k).2.2.1).before args s = true) (hsame : ∀ x, s.fieldFound? (T k).1 (T k).2.1 (T k).2.2.1 = some x → s.fieldFound? ref (T k).2.1 (T k).2.2.1 = some x) (hdg : decode cc pc = .ok (.putfield index, 3))
    (kk : ∀ (H1 : Heap) (locs1 : List Loc), va_P V.1 vwCl (ws.set p0 (a, .inr (ci, fs.set k v))) H1 → va_S A H0 H1 locs1 → W p l e R s m args below meth c H1 locs1 cells slots Q (F0 m (pc + 3) ls rest)) : W p l e R s m args below meth c H locs cells slots Q (F0 m pc ls (v :: .ref a :: rest)) :=
  va_put (D := V.1) hx hb hts hin ty0 hty hnm hown hE.1 hP hD hS p0 he hc k hk hlink hsame hfin hd hn hfit hl hdg (fun H1 locs1 h1 _ h3 => kk H1 locs1 h1 h3)
theorem zo_putN {V : zV} {a ci N p0 : Nat} {C : String} {T : u_T} {ws : va_W} {fs : List Value} (k : Nat) (v : Value) (ty : FieldType) {own ref host : String} {index : Nat} {Ts : List Cond} (hx : p.tables.exec = Jvm.exec) (hb : c.code = cc) (hts : ∀ w ∈ Ts, w.before args s = true) (hin : ∀ w ∈ u_ws C T N, w ∈ Ts) (ty0 : Nat → FieldType) (hty : ∀ k, k < N → parseFieldDescriptor (T k).2.2.1 = some (ty0 k)) (hnm : ∀ a, a < N → ∀ b, b < N → a ≠ b → (T a).2.1 ≠ (T b).2.1) (hown : s.vm.findClass own = some m.cls) (hE : zE V s) (hP : va_P V.1 vwCl ws H) (hD : va_D A ws) (hS : va_S A H0 H locs) (he : ws[p0]? = some (a, .inr (ci, fs))) (hc : vwCl[ci]? = some (C, T, N)) (hk : k < N) (hl : k < fs.length) (hfin : (T k).2.2.2 = false) (hd : parseFieldDescriptor (T k).2.2.1 = some ty) (hn : narrow ty v = v) (hfit : fits ty v = true) (hlink : Cond.fieldLinkNest own index ref (T k).2.1 (T k).2.2.1 host ∈ zNW) (hsame : ∀ x, s.fieldFound? (T k).1 (T k).2.1 (T k).2.2.1 = some x → s.fieldFound? ref (T k).2.1 (T k).2.2.1 = some x) (hdg : decode cc pc = .ok (.putfield index, 3))
    (kk : ∀ (H1 : Heap) (locs1 : List Loc), va_P V.1 vwCl (ws.set p0 (a, .inr (ci, fs.set k v))) H1 → va_S A H0 H1 locs1 → W p l e R s m args below meth c H1 locs1 cells slots Q (F0 m (pc + 3) ls rest)) : W p l e R s m args below meth c H locs cells slots Q (F0 m pc ls (v :: .ref a :: rest)) :=
  va_putN (D := V.1) hx hb hts hin ty0 hty hnm hown hE.1 hP hD hS p0 he hc k hk (va_Nw.use rfl (hE.2 _ hlink)) hsame hfin hd hn hfit hl hdg (fun H1 locs1 h1 _ h3 => kk H1 locs1 h1 h3)
theorem zo_iald {V : zV} {a n k : Nat} {f : Nat → Int32} (hx : p.tables.exec = Jvm.exec) (hb : c.code = cc) (hE : zE V s) (hat : va_at V.1 vwCl (a, .inl (V.2.1, n, .inl f)) H) (hk : k < n) (hn : n < 2 ^ 31) (hdg : decode cc pc = .ok (.iaload, 1))
    (kk : W p l e R s m args below meth c H locs cells slots Q (F0 m (pc + 1) ls (.int (f k) :: rest))) : W p l e R s m args below meth c H locs cells slots Q (F0 m pc ls (.int (nI k) :: .ref a :: rest)) :=
  z_iald hx hb hE (zP1 hat) 0 rfl hk hn hdg kk
theorem zo_len {a n : Nat} {f : Nat → Int32} (hx : p.tables.exec = Jvm.exec) (hb : c.code = cc) (hR : zRd s H a n f) (hdg : decode cc pc = .ok (.arraylength, 1))
    (kk : W p l e R s m args below meth c H locs cells slots Q (F0 m (pc + 1) ls (.int (nI n) :: rest))) : W p l e R s m args below meth c H locs cells slots Q (F0 m pc ls (.ref a :: rest)) := by
  obtain ⟨cell, h1, h2, h3, h4, h5, h6⟩ := hR
  exact W.alen hx hb h1 h2 h5 rfl rfl hdg kk
theorem zo_rald {a n k : Nat} {f : Nat → Int32} (hx : p.tables.exec = Jvm.exec) (hb : c.code = cc) (hR : zRd s H a n f) (hk : k < n) (hn : n < 2 ^ 31) (hdg : decode cc pc = .ok (.iaload, 1))
    (kk : W p l e R s m args below meth c H locs cells slots Q (F0 m (pc + 1) ls (.int (f k) :: rest))) : W p l e R s m args below meth c H locs cells slots Q (F0 m pc ls (.int (nI k) :: .ref a :: rest)) := by
  obtain ⟨cell, h1, h2, h3, h4, h5, h6⟩ := hR
  have hkc : (nI k).toNatClampNeg = k := nI_clamp (Nat.lt_trans hk hn)
  refine W.iald (v := .int (f k)) hx hb h1 h2 h3 ?_ ?_ rfl rfl hdg kk
  · rw [hkc]
    exact fun q => q.elim (nI_pos (Nat.lt_trans hk hn)) (fun q => by omega)
  · rw [hkc]
    exact h6 k hk
-- references that may be null
theorem zo_aload_n {k : Fin 4} {i : Nat} {r : Option Nat} (hx : p.tables.exec = Jvm.exec) (hb : c.code = cc) (hdg : decode cc pc = .ok (.aload_n k, 1)) (hi : (k : Nat) = i) (hl : ls[i]? = some (.val (va_rf r)))
    (kk : W p l e R s m args below meth c H locs cells slots Q (F0 m (pc + 1) ls (va_rf r :: rest))) : W p l e R s m args below meth c H locs cells slots Q (F0 m pc ls rest) := by
  cases r with
  | none => exact lv_aload_nN hx hb hdg hi hl kk
  | some a => exact lv_aload_n hx hb hdg hi hl kk
theorem zo_aload {i : Nat} {r : Option Nat} (hx : p.tables.exec = Jvm.exec) (hb : c.code = cc) (hdg : decode cc pc = .ok (.aload i, 2)) (hl : ls[i]? = some (.val (va_rf r)))
    (kk : W p l e R s m args below meth c H locs cells slots Q (F0 m (pc + 2) ls (va_rf r :: rest))) : W p l e R s m args below meth c H locs cells slots Q (F0 m pc ls rest) := by
  cases r with
  | none => exact lv_aloadN hx hb hdg hl kk
  | some a => exact lv_aload hx hb hdg hl kk
theorem zo_astore_n {k : Fin 4} {i nL : Nat} {r : Option Nat} {lv lv' : List (Nat × Value)} (hx : p.tables.exec = Jvm.exec) (hb : c.code = cc) (hdg : decode cc pc = .ok (.astore_n k, 1)) (hi : (k : Nat) = i) (h : lv_has ls nL lv) (hn : i < nL) (hl : (i, va_rf r) :: lv.filter (fun q => !(q.1 == i) && !(q.1 + 1 == i && q.2.category == 2)) = lv')
    (kk : ∀ ls' : Array Slot, lv_has ls' nL lv' → W p l e R s m args below meth c H locs cells slots Q (F0 m (pc + 1) ls' rest)) : W p l e R s m args below meth c H locs cells slots Q (F0 m pc ls (va_rf r :: rest)) := by
  cases r with
  | none => exact lv_astore_nN hx hb hdg hi h hn hl kk
  | some a => exact lv_astore_n hx hb hdg hi h hn hl kk
theorem zo_astore {i nL : Nat} {r : Option Nat} {lv lv' : List (Nat × Value)} (hx : p.tables.exec = Jvm.exec) (hb : c.code = cc) (hdg : decode cc pc = .ok (.astore i, 2)) (h : lv_has ls nL lv) (hn : i < nL) (hl : (i, va_rf r) :: lv.filter (fun q => !(q.1 == i) && !(q.1 + 1 == i && q.2.category == 2)) = lv')
    (kk : ∀ ls' : Array Slot, lv_has ls' nL lv' → W p l e R s m args below meth c H locs cells slots Q (F0 m (pc + 2) ls' rest)) : W p l e R s m args below meth c H locs cells slots Q (F0 m pc ls (va_rf r :: rest)) := by
  cases r with
  | none => exact lv_astoreN hx hb hdg h hn hl kk
  | some a => exact lv_astore hx hb hdg h hn hl kk
end ZO
-- slips
def zsO (nx : Option Nat) (f : Nat → Int32) : List Value := [va_rf nx, .int (f 1), .int (f 2), .int (f 3), .int (f 4), .int (f 5), .int (f 6), .int (f 7)]
-- an archive's 36 cells: its object, the settings, the latest ones and their three rows, thirty slips in a chain
def zch (h : Nat → Nat) (i : Nat) : Option Nat := if i < 30 then some (h (i + 6)) else none
def zad (h : Nat → Nat) (r : Option Nat) : Option Nat := r.map (fun p => h (p + 6))
def zaO (h : Nat → Nat) (F : Nat → Int32) : List Value := [.ref (h 1), .ref (h 6), .ref (h 2), .int (F 3), .int (F 4), .int (F 5), .int (F 6), .int (F 7), .int (F 8), .int (F 9), .int (F 10), .int (F 11), .int (F 12), .int (F 13)]
def zlO (h : Nat → Nat) (lv : Int32) : List Value := [.ref (h 3), .ref (h 4), .ref (h 5), .int lv]
def zaE (V : zV) (h : Nat → Nat) (F T : Nat → Int32) (lv : Int32) (Ga Gb Gc : Nat → Int32) (P : Nat → Nat → Int32) : Nat → va_E
  | 0 => .inr (0, zaO h F)
  | 1 => .inl (V.2.1, 6, .inl T)
  | 2 => .inr (2, zlO h lv)
  | 3 => .inl (V.2.1, 20, .inl Ga)
  | 4 => .inl (V.2.1, 20, .inl Gb)
  | 5 => .inl (V.2.1, 20, .inl Gc)
  | i + 6 => .inr (5, zsO (zch h (i + 1)) (P i))
def zaW (V : zV) (h : Nat → Nat) (F T : Nat → Int32) (lv : Int32) (Ga Gb Gc : Nat → Int32) (P : Nat → Nat → Int32) : va_W := zWd 36 h (zaE V h F T lv Ga Gb Gc P)
theorem zch_lt {h : Nat → Nat} {i : Nat} (hi : i < 30) : zch h i = some (h (i + 6)) := if_pos hi
theorem zch_end {h : Nat → Nat} {i : Nat} (hi : 30 ≤ i) : zch h i = none := if_neg (Nat.not_lt.mpr hi)
theorem za_at {V : zV} {h : Nat → Nat} {F T : Nat → Int32} {lv : Int32} {Ga Gb Gc : Nat → Int32} {P : Nat → Nat → Int32} {H : Heap} (hP : va_P V.1 vwCl (zaW V h F T lv Ga Gb Gc P) H) {i : Nat} (hi : i < 36) : va_at V.1 vwCl (h i, zaE V h F T lv Ga Gb Gc P i) H := zP_at hP hi
theorem za_slip {V : zV} {h : Nat → Nat} {F T : Nat → Int32} {lv : Int32} {Ga Gb Gc : Nat → Int32} {P : Nat → Nat → Int32} {H : Heap} (hP : va_P V.1 vwCl (zaW V h F T lv Ga Gb Gc P) H) {i : Nat} (hi : i < 30) : va_at V.1 vwCl (h (i + 6), .inr (5, zsO (zch h (i + 1)) (P i))) H := zP_at hP (p := i + 6) (by omega)
theorem za_s0 (V : zV) (h : Nat → Nat) (F T : Nat → Int32) (lv : Int32) (Ga Gb Gc : Nat → Int32) (P : Nat → Nat → Int32) (F' : Nat → Int32) : (zaW V h F T lv Ga Gb Gc P).set 0 (h 0, .inr (0, zaO h F')) = zaW V h F' T lv Ga Gb Gc P :=
  zWd_set (by decide) rfl (fun q _ hne => by
    match q, hne with
    | 0, h => exact absurd rfl h
    | 1, _ => rfl
    | 2, _ => rfl
    | 3, _ => rfl
    | 4, _ => rfl
    | 5, _ => rfl
    | q + 6, _ => rfl)
theorem za_s1 (V : zV) (h : Nat → Nat) (F T : Nat → Int32) (lv : Int32) (Ga Gb Gc : Nat → Int32) (P : Nat → Nat → Int32) (T' : Nat → Int32) : (zaW V h F T lv Ga Gb Gc P).set 1 (h 1, .inl (V.2.1, 6, .inl T')) = zaW V h F T' lv Ga Gb Gc P :=
  zWd_set (by decide) rfl (fun q _ hne => by
    match q, hne with
    | 0, _ => rfl
    | 1, h => exact absurd rfl h
    | 2, _ => rfl
    | 3, _ => rfl
    | 4, _ => rfl
    | 5, _ => rfl
    | q + 6, _ => rfl)
theorem za_ss (V : zV) (h : Nat → Nat) (F T : Nat → Int32) (lv : Int32) (Ga Gb Gc : Nat → Int32) (P : Nat → Nat → Int32) {i : Nat} (hi : i < 30) (f : Nat → Int32) : (zaW V h F T lv Ga Gb Gc P).set (i + 6) (h (i + 6), .inr (5, zsO (zch h (i + 1)) f)) = zaW V h F T lv Ga Gb Gc (va_up P i f) :=
  zWd_set (by omega) (by show (Sum.inr (5, zsO (zch h (i + 1)) (va_up P i f i)) : va_E) = _; rw [zUp_s]) (fun q _ hne => by
    match q, hne with
    | 0, _ => rfl
    | 1, _ => rfl
    | 2, _ => rfl
    | 3, _ => rfl
    | 4, _ => rfl
    | 5, _ => rfl
    | q + 6, hne =>
      show (Sum.inr (5, zsO (zch h (q + 1)) (va_up P i f q)) : va_E) = Sum.inr (5, zsO (zch h (q + 1)) (P q))
      rw [zUp_n _ _ (show q ≠ i by omega)])
