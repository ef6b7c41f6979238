/-! the model (DrawerSlipsModel): its nine cells; rows that read and write them -/
def zmO (g : Nat → Nat) (st le ap pl wy : Int32) : List Value := [.ref (g 1), .ref (g 2), .ref (g 3), .ref (g 4), .ref (g 5), .ref (g 6), .int st, .ref (g 7), .int le, .int ap, .ref (g 8), .int pl, .int wy]
def zmE (V : zV) (g : Nat → Nat) (w pa be av sl sv pd cd : Nat → Int32) (st le ap pl wy : Int32) : Nat → va_E
  | 0 => .inr (8, zmO g st le ap pl wy)
  | 1 => .inl (V.2.1, 258, .inl w)
  | 2 => .inl (V.2.1, 1548, .inl pa)
  | 3 => .inl (V.2.1, 258, .inl be)
  | 4 => .inl (V.2.1, 258, .inl av)
  | 5 => .inl (V.2.1, 516, .inl sl)
  | 6 => .inl (V.2.2.1, 2, .inl sv)
  | 7 => .inl (V.2.1, 80, .inl pd)
  | _ => .inl (V.2.1, 8, .inl cd)
def zmW (V : zV) (g : Nat → Nat) (w pa be av sl sv pd cd : Nat → Int32) (st le ap pl wy : Int32) : va_W := zWd 9 g (zmE V g w pa be av sl sv pd cd st le ap pl wy)
theorem zm_c0 (V : zV) (g : Nat → Nat) (w pa be av sl sv pd cd : Nat → Int32) (st le ap pl wy : Int32) : (zmW V g w pa be av sl sv pd cd st le ap pl wy)[0]? = some (g 0, .inr (8, zmO g st le ap pl wy)) := zWd_at (by decide)
theorem zm_c1 (V : zV) (g : Nat → Nat) (w pa be av sl sv pd cd : Nat → Int32) (st le ap pl wy : Int32) : (zmW V g w pa be av sl sv pd cd st le ap pl wy)[1]? = some (g 1, .inl (V.2.1, 258, .inl w)) := zWd_at (by decide)
theorem zm_c2 (V : zV) (g : Nat → Nat) (w pa be av sl sv pd cd : Nat → Int32) (st le ap pl wy : Int32) : (zmW V g w pa be av sl sv pd cd st le ap pl wy)[2]? = some (g 2, .inl (V.2.1, 1548, .inl pa)) := zWd_at (by decide)
theorem zm_c3 (V : zV) (g : Nat → Nat) (w pa be av sl sv pd cd : Nat → Int32) (st le ap pl wy : Int32) : (zmW V g w pa be av sl sv pd cd st le ap pl wy)[3]? = some (g 3, .inl (V.2.1, 258, .inl be)) := zWd_at (by decide)
theorem zm_c4 (V : zV) (g : Nat → Nat) (w pa be av sl sv pd cd : Nat → Int32) (st le ap pl wy : Int32) : (zmW V g w pa be av sl sv pd cd st le ap pl wy)[4]? = some (g 4, .inl (V.2.1, 258, .inl av)) := zWd_at (by decide)
theorem zm_c5 (V : zV) (g : Nat → Nat) (w pa be av sl sv pd cd : Nat → Int32) (st le ap pl wy : Int32) : (zmW V g w pa be av sl sv pd cd st le ap pl wy)[5]? = some (g 5, .inl (V.2.1, 516, .inl sl)) := zWd_at (by decide)
theorem zm_c6 (V : zV) (g : Nat → Nat) (w pa be av sl sv pd cd : Nat → Int32) (st le ap pl wy : Int32) : (zmW V g w pa be av sl sv pd cd st le ap pl wy)[6]? = some (g 6, .inl (V.2.2.1, 2, .inl sv)) := zWd_at (by decide)
theorem zm_c7 (V : zV) (g : Nat → Nat) (w pa be av sl sv pd cd : Nat → Int32) (st le ap pl wy : Int32) : (zmW V g w pa be av sl sv pd cd st le ap pl wy)[7]? = some (g 7, .inl (V.2.1, 80, .inl pd)) := zWd_at (by decide)
theorem zm_c8 (V : zV) (g : Nat → Nat) (w pa be av sl sv pd cd : Nat → Int32) (st le ap pl wy : Int32) : (zmW V g w pa be av sl sv pd cd st le ap pl wy)[8]? = some (g 8, .inl (V.2.1, 8, .inl cd)) := zWd_at (by decide)
theorem zm_s0 (V : zV) (g : Nat → Nat) (w pa be av sl sv pd cd : Nat → Int32) (st le ap pl wy : Int32) (st' le' ap' pl' wy' : Int32) : (zmW V g w pa be av sl sv pd cd st le ap pl wy).set 0 (g 0, .inr (8, zmO g st' le' ap' pl' wy')) = zmW V g w pa be av sl sv pd cd st' le' ap' pl' wy' :=
  zWd_set (by decide) rfl (fun q hq hne => by
    match q, hq, hne with
    | 0, _, h => exact absurd rfl h
    | 1, _, _ => rfl
    | 2, _, _ => rfl
    | 3, _, _ => rfl
    | 4, _, _ => rfl
    | 5, _, _ => rfl
    | 6, _, _ => rfl
    | 7, _, _ => rfl
    | 8, _, _ => rfl
    | k + 9, h, _ => exact absurd h (by omega))
theorem zm_s1 (V : zV) (g : Nat → Nat) (w pa be av sl sv pd cd : Nat → Int32) (st le ap pl wy : Int32) (f' : Nat → Int32) : (zmW V g w pa be av sl sv pd cd st le ap pl wy).set 1 (g 1, .inl (V.2.1, 258, .inl f')) = zmW V g f' pa be av sl sv pd cd st le ap pl wy :=
  zWd_set (by decide) rfl (fun q hq hne => by
    match q, hq, hne with
    | 0, _, _ => rfl
    | 1, _, h => exact absurd rfl h
    | 2, _, _ => rfl
    | 3, _, _ => rfl
    | 4, _, _ => rfl
    | 5, _, _ => rfl
    | 6, _, _ => rfl
    | 7, _, _ => rfl
    | 8, _, _ => rfl
    | k + 9, h, _ => exact absurd h (by omega))
theorem zm_s2 (V : zV) (g : Nat → Nat) (w pa be av sl sv pd cd : Nat → Int32) (st le ap pl wy : Int32) (f' : Nat → Int32) : (zmW V g w pa be av sl sv pd cd st le ap pl wy).set 2 (g 2, .inl (V.2.1, 1548, .inl f')) = zmW V g w f' be av sl sv pd cd st le ap pl wy :=
  zWd_set (by decide) rfl (fun q hq hne => by
    match q, hq, hne with
    | 0, _, _ => rfl
    | 1, _, _ => rfl
    | 2, _, h => exact absurd rfl h
    | 3, _, _ => rfl
    | 4, _, _ => rfl
    | 5, _, _ => rfl
    | 6, _, _ => rfl
    | 7, _, _ => rfl
    | 8, _, _ => rfl
    | k + 9, h, _ => exact absurd h (by omega))
theorem zm_s3 (V : zV) (g : Nat → Nat) (w pa be av sl sv pd cd : Nat → Int32) (st le ap pl wy : Int32) (f' : Nat → Int32) : (zmW V g w pa be av sl sv pd cd st le ap pl wy).set 3 (g 3, .inl (V.2.1, 258, .inl f')) = zmW V g w pa f' av sl sv pd cd st le ap pl wy :=
  zWd_set (by decide) rfl (fun q hq hne => by
    match q, hq, hne with
    | 0, _, _ => rfl
    | 1, _, _ => rfl
    | 2, _, _ => rfl
    | 3, _, h => exact absurd rfl h
    | 4, _, _ => rfl
    | 5, _, _ => rfl
    | 6, _, _ => rfl
    | 7, _, _ => rfl
    | 8, _, _ => rfl
    | k + 9, h, _ => exact absurd h (by omega))
theorem zm_s4 (V : zV) (g : Nat → Nat) (w pa be av sl sv pd cd : Nat → Int32) (st le ap pl wy : Int32) (f' : Nat → Int32) : (zmW V g w pa be av sl sv pd cd st le ap pl wy).set 4 (g 4, .inl (V.2.1, 258, .inl f')) = zmW V g w pa be f' sl sv pd cd st le ap pl wy :=
  zWd_set (by decide) rfl (fun q hq hne => by
    match q, hq, hne with
    | 0, _, _ => rfl
    | 1, _, _ => rfl
    | 2, _, _ => rfl
    | 3, _, _ => rfl
    | 4, _, h => exact absurd rfl h
    | 5, _, _ => rfl
    | 6, _, _ => rfl
    | 7, _, _ => rfl
    | 8, _, _ => rfl
    | k + 9, h, _ => exact absurd h (by omega))
theorem zm_s5 (V : zV) (g : Nat → Nat) (w pa be av sl sv pd cd : Nat → Int32) (st le ap pl wy : Int32) (f' : Nat → Int32) : (zmW V g w pa be av sl sv pd cd st le ap pl wy).set 5 (g 5, .inl (V.2.1, 516, .inl f')) = zmW V g w pa be av f' sv pd cd st le ap pl wy :=
  zWd_set (by decide) rfl (fun q hq hne => by
    match q, hq, hne with
    | 0, _, _ => rfl
    | 1, _, _ => rfl
    | 2, _, _ => rfl
    | 3, _, _ => rfl
    | 4, _, _ => rfl
    | 5, _, h => exact absurd rfl h
    | 6, _, _ => rfl
    | 7, _, _ => rfl
    | 8, _, _ => rfl
    | k + 9, h, _ => exact absurd h (by omega))
theorem zm_s6 (V : zV) (g : Nat → Nat) (w pa be av sl sv pd cd : Nat → Int32) (st le ap pl wy : Int32) (f' : Nat → Int32) : (zmW V g w pa be av sl sv pd cd st le ap pl wy).set 6 (g 6, .inl (V.2.2.1, 2, .inl f')) = zmW V g w pa be av sl f' pd cd st le ap pl wy :=
  zWd_set (by decide) rfl (fun q hq hne => by
    match q, hq, hne with
    | 0, _, _ => rfl
    | 1, _, _ => rfl
    | 2, _, _ => rfl
    | 3, _, _ => rfl
    | 4, _, _ => rfl
    | 5, _, _ => rfl
    | 6, _, h => exact absurd rfl h
    | 7, _, _ => rfl
    | 8, _, _ => rfl
    | k + 9, h, _ => exact absurd h (by omega))
theorem zm_s7 (V : zV) (g : Nat → Nat) (w pa be av sl sv pd cd : Nat → Int32) (st le ap pl wy : Int32) (f' : Nat → Int32) : (zmW V g w pa be av sl sv pd cd st le ap pl wy).set 7 (g 7, .inl (V.2.1, 80, .inl f')) = zmW V g w pa be av sl sv f' cd st le ap pl wy :=
  zWd_set (by decide) rfl (fun q hq hne => by
    match q, hq, hne with
    | 0, _, _ => rfl
    | 1, _, _ => rfl
    | 2, _, _ => rfl
    | 3, _, _ => rfl
    | 4, _, _ => rfl
    | 5, _, _ => rfl
    | 6, _, _ => rfl
    | 7, _, h => exact absurd rfl h
    | 8, _, _ => rfl
    | k + 9, h, _ => exact absurd h (by omega))
theorem zm_s8 (V : zV) (g : Nat → Nat) (w pa be av sl sv pd cd : Nat → Int32) (st le ap pl wy : Int32) (f' : Nat → Int32) : (zmW V g w pa be av sl sv pd cd st le ap pl wy).set 8 (g 8, .inl (V.2.1, 8, .inl f')) = zmW V g w pa be av sl sv pd f' st le ap pl wy :=
  zWd_set (by decide) rfl (fun q hq hne => by
    match q, hq, hne with
    | 0, _, _ => rfl
    | 1, _, _ => rfl
    | 2, _, _ => rfl
    | 3, _, _ => rfl
    | 4, _, _ => rfl
    | 5, _, _ => rfl
    | 6, _, _ => rfl
    | 7, _, _ => rfl
    | 8, _, h => exact absurd rfl h
    | k + 9, h, _ => exact absurd h (by omega))
theorem zm_x1 {V : zV} {g : Nat → Nat} {w pa be av sl sv pd cd : Nat → Int32} {st le ap pl wy : Int32} {H : Heap} (f' : Nat → Int32) (hf : ∀ j, j < 258 → w j = f' j) (h : va_P V.1 vwCl (zmW V g w pa be av sl sv pd cd st le ap pl wy) H) : va_P V.1 vwCl (zmW V g f' pa be av sl sv pd cd st le ap pl wy) H :=
  zP_mk (fun q hq => by
    have h1 := zP_at h hq
    match q, hq, h1 with
    | 0, _, h1 => exact h1
    | 1, _, h1 => exact z_atx h1 hf
    | 2, _, h1 => exact h1
    | 3, _, h1 => exact h1
    | 4, _, h1 => exact h1
    | 5, _, h1 => exact h1
    | 6, _, h1 => exact h1
    | 7, _, h1 => exact h1
    | 8, _, h1 => exact h1
    | k + 9, h, _ => exact absurd h (by omega))
theorem zm_x2 {V : zV} {g : Nat → Nat} {w pa be av sl sv pd cd : Nat → Int32} {st le ap pl wy : Int32} {H : Heap} (f' : Nat → Int32) (hf : ∀ j, j < 1548 → pa j = f' j) (h : va_P V.1 vwCl (zmW V g w pa be av sl sv pd cd st le ap pl wy) H) : va_P V.1 vwCl (zmW V g w f' be av sl sv pd cd st le ap pl wy) H :=
  zP_mk (fun q hq => by
    have h1 := zP_at h hq
    match q, hq, h1 with
    | 0, _, h1 => exact h1
    | 1, _, h1 => exact h1
    | 2, _, h1 => exact z_atx h1 hf
    | 3, _, h1 => exact h1
    | 4, _, h1 => exact h1
    | 5, _, h1 => exact h1
    | 6, _, h1 => exact h1
    | 7, _, h1 => exact h1
    | 8, _, h1 => exact h1
    | k + 9, h, _ => exact absurd h (by omega))
theorem zm_x3 {V : zV} {g : Nat → Nat} {w pa be av sl sv pd cd : Nat → Int32} {st le ap pl wy : Int32} {H : Heap} (f' : Nat → Int32) (hf : ∀ j, j < 258 → be j = f' j) (h : va_P V.1 vwCl (zmW V g w pa be av sl sv pd cd st le ap pl wy) H) : va_P V.1 vwCl (zmW V g w pa f' av sl sv pd cd st le ap pl wy) H :=
  zP_mk (fun q hq => by
    have h1 := zP_at h hq
    match q, hq, h1 with
    | 0, _, h1 => exact h1
    | 1, _, h1 => exact h1
    | 2, _, h1 => exact h1
    | 3, _, h1 => exact z_atx h1 hf
    | 4, _, h1 => exact h1
    | 5, _, h1 => exact h1
    | 6, _, h1 => exact h1
    | 7, _, h1 => exact h1
    | 8, _, h1 => exact h1
    | k + 9, h, _ => exact absurd h (by omega))
theorem zm_x4 {V : zV} {g : Nat → Nat} {w pa be av sl sv pd cd : Nat → Int32} {st le ap pl wy : Int32} {H : Heap} (f' : Nat → Int32) (hf : ∀ j, j < 258 → av j = f' j) (h : va_P V.1 vwCl (zmW V g w pa be av sl sv pd cd st le ap pl wy) H) : va_P V.1 vwCl (zmW V g w pa be f' sl sv pd cd st le ap pl wy) H :=
  zP_mk (fun q hq => by
    have h1 := zP_at h hq
    match q, hq, h1 with
    | 0, _, h1 => exact h1
    | 1, _, h1 => exact h1
    | 2, _, h1 => exact h1
    | 3, _, h1 => exact h1
    | 4, _, h1 => exact z_atx h1 hf
    | 5, _, h1 => exact h1
    | 6, _, h1 => exact h1
    | 7, _, h1 => exact h1
    | 8, _, h1 => exact h1
    | k + 9, h, _ => exact absurd h (by omega))
theorem zm_x5 {V : zV} {g : Nat → Nat} {w pa be av sl sv pd cd : Nat → Int32} {st le ap pl wy : Int32} {H : Heap} (f' : Nat → Int32) (hf : ∀ j, j < 516 → sl j = f' j) (h : va_P V.1 vwCl (zmW V g w pa be av sl sv pd cd st le ap pl wy) H) : va_P V.1 vwCl (zmW V g w pa be av f' sv pd cd st le ap pl wy) H :=
  zP_mk (fun q hq => by
    have h1 := zP_at h hq
    match q, hq, h1 with
    | 0, _, h1 => exact h1
    | 1, _, h1 => exact h1
    | 2, _, h1 => exact h1
    | 3, _, h1 => exact h1
    | 4, _, h1 => exact h1
    | 5, _, h1 => exact z_atx h1 hf
    | 6, _, h1 => exact h1
    | 7, _, h1 => exact h1
    | 8, _, h1 => exact h1
    | k + 9, h, _ => exact absurd h (by omega))
theorem zm_x6 {V : zV} {g : Nat → Nat} {w pa be av sl sv pd cd : Nat → Int32} {st le ap pl wy : Int32} {H : Heap} (f' : Nat → Int32) (hf : ∀ j, j < 2 → sv j = f' j) (h : va_P V.1 vwCl (zmW V g w pa be av sl sv pd cd st le ap pl wy) H) : va_P V.1 vwCl (zmW V g w pa be av sl f' pd cd st le ap pl wy) H :=
  zP_mk (fun q hq => by
    have h1 := zP_at h hq
    match q, hq, h1 with
    | 0, _, h1 => exact h1
    | 1, _, h1 => exact h1
    | 2, _, h1 => exact h1
    | 3, _, h1 => exact h1
    | 4, _, h1 => exact h1
    | 5, _, h1 => exact h1
    | 6, _, h1 => exact z_atx h1 hf
    | 7, _, h1 => exact h1
    | 8, _, h1 => exact h1
    | k + 9, h, _ => exact absurd h (by omega))
theorem zm_x7 {V : zV} {g : Nat → Nat} {w pa be av sl sv pd cd : Nat → Int32} {st le ap pl wy : Int32} {H : Heap} (f' : Nat → Int32) (hf : ∀ j, j < 80 → pd j = f' j) (h : va_P V.1 vwCl (zmW V g w pa be av sl sv pd cd st le ap pl wy) H) : va_P V.1 vwCl (zmW V g w pa be av sl sv f' cd st le ap pl wy) H :=
  zP_mk (fun q hq => by
    have h1 := zP_at h hq
    match q, hq, h1 with
    | 0, _, h1 => exact h1
    | 1, _, h1 => exact h1
    | 2, _, h1 => exact h1
    | 3, _, h1 => exact h1
    | 4, _, h1 => exact h1
    | 5, _, h1 => exact h1
    | 6, _, h1 => exact h1
    | 7, _, h1 => exact z_atx h1 hf
    | 8, _, h1 => exact h1
    | k + 9, h, _ => exact absurd h (by omega))
theorem zm_x8 {V : zV} {g : Nat → Nat} {w pa be av sl sv pd cd : Nat → Int32} {st le ap pl wy : Int32} {H : Heap} (f' : Nat → Int32) (hf : ∀ j, j < 8 → cd j = f' j) (h : va_P V.1 vwCl (zmW V g w pa be av sl sv pd cd st le ap pl wy) H) : va_P V.1 vwCl (zmW V g w pa be av sl sv pd f' st le ap pl wy) H :=
  zP_mk (fun q hq => by
    have h1 := zP_at h hq
    match q, hq, h1 with
    | 0, _, h1 => exact h1
    | 1, _, h1 => exact h1
    | 2, _, h1 => exact h1
    | 3, _, h1 => exact h1
    | 4, _, h1 => exact h1
    | 5, _, h1 => exact h1
    | 6, _, h1 => exact h1
    | 7, _, h1 => exact h1
    | 8, _, h1 => exact z_atx h1 hf
    | k + 9, h, _ => exact absurd h (by omega))
section ZM
variable {p : Program} {l : Launch} {e : Env} {R : Room} {s : State} {m : MethodId} {args : Array Value} {below : List Frame} {meth : Method} {c : Code} {H : Heap} {locs : List Loc} {cells slots : Nat} {Q : State → Prop}
variable {pc : Nat} {ls : Array Slot} {rest : List Value} {cc : ByteArray} {H0 : Heap}
theorem zm_get {V : zV} {g : Nat → Nat} {w pa be av sl sv pd cd : Nat → Int32} {st le ap pl wy : Int32} (k : Nat) (v : Value) {own ref : String} {index : Nat} {Ts : List Cond} (hx : p.tables.exec = Jvm.exec) (hb : c.code = cc) (hts : ∀ w ∈ Ts, w.before args s = true) (hin : ∀ w ∈ wsX80, w ∈ Ts) (hown : s.vm.findClass own = some m.cls) (hE : zE V s) (hP : va_P V.1 vwCl (zmW V g w pa be av sl sv pd cd st le ap pl wy) H) (hk : k < 13) (hv : (zmO g st le ap pl wy)[k]? = some v) (hlink : (Cond.fieldLink own index ref (TX8 k).2.1 (TX8 k).2.2.1).before args s = true) (hsame : ∀ x, s.fieldFound? (TX8 k).1 (TX8 k).2.1 (TX8 k).2.2.1 = some x → s.fieldFound? ref (TX8 k).2.1 (TX8 k).2.2.1 = some x) (hdg : decode cc pc = .ok (.getfield index, 3))
    (kk : W p l e R s m args below meth c H locs cells slots Q (F0 m (pc + 3) ls (v :: rest))) : W p l e R s m args below meth c H locs cells slots Q (F0 m pc ls (.ref (g 0) :: rest)) :=
  va_get (D := V.1) (ci := 8) (v := v) (C := RX8) (T := TX8) (N := 13) hx hb hts hin hown hE.1 hP 0 (zm_c0 V g w pa be av sl sv pd cd st le ap pl wy) rfl k hk hlink hsame hv hdg kk
theorem zm_put {V : zV} {g : Nat → Nat} {w pa be av sl sv pd cd : Nat → Int32} {st le ap pl wy st' le' ap' pl' wy' : Int32} (k : Nat) (x : Int32) {own ref : String} {index : Nat} {Ts : List Cond} (hx : p.tables.exec = Jvm.exec) (hb : c.code = cc) (hts : ∀ w ∈ Ts, w.before args s = true) (hin : ∀ w ∈ wsX80, w ∈ Ts) (hown : s.vm.findClass own = some m.cls) (hE : zE V s) (hP : va_P V.1 vwCl (zmW V g w pa be av sl sv pd cd st le ap pl wy) H) (hJ : zInj 9 g) (hS : va_S (zIn 9 g) H0 H locs) (hk : k < 13) (hset : (zmO g st le ap pl wy).set k (.int x) = zmO g st' le' ap' pl' wy') (hfin : (TX8 k).2.2.2 = false) (hd : parseFieldDescriptor (TX8 k).2.2.1 = some .int) (hlink : (Cond.fieldLink own index ref (TX8 k).2.1 (TX8 k).2.2.1).before args s = true) (hsame : ∀ x, s.fieldFound? (TX8 k).1 (TX8 k).2.1 (TX8 k).2.2.1 = some x → s.fieldFound? ref (TX8 k).2.1 (TX8 k).2.2.1 = some x) (hdg : decode cc pc = .ok (.putfield index, 3))
    (kk : ∀ (H1 : Heap) (locs1 : List Loc), va_P V.1 vwCl (zmW V g w pa be av sl sv pd cd st' le' ap' pl' wy') H1 → va_S (zIn 9 g) H0 H1 locs1 → W p l e R s m args below meth c H1 locs1 cells slots Q (F0 m (pc + 3) ls rest)) : W p l e R s m args below meth c H locs cells slots Q (F0 m pc ls (.int x :: .ref (g 0) :: rest)) :=
  va_put (D := V.1) (ci := 8) (v := .int x) (ty := .int) (C := RX8) (T := TX8) (N := 13) hx hb hts hin tyX8 tyX8_ok nmX8 hown hE.1 hP (zD hJ) hS 0 (zm_c0 V g w pa be av sl sv pd cd st le ap pl wy) rfl k hk hlink hsame hfin hd rfl rfl hk hdg
    (fun H1 locs1 h1 _ h3 => kk H1 locs1 (by rw [hset, zm_s0] at h1; exact h1) h3)
theorem zm_a1 {V : zV} {g : Nat → Nat} {w pa be av sl sv pd cd : Nat → Int32} {st le ap pl wy : Int32} (k : Nat) (x : Int32) (hx : p.tables.exec = Jvm.exec) (hb : c.code = cc) (hE : zE V s) (hP : va_P V.1 vwCl (zmW V g w pa be av sl sv pd cd st le ap pl wy) H) (hJ : zInj 9 g) (hS : va_S (zIn 9 g) H0 H locs) (hk : k < 258) (hdg : decode cc pc = .ok (.iastore, 1))
    (kk : ∀ (H1 : Heap) (locs1 : List Loc), va_P V.1 vwCl (zmW V g (upd w k x) pa be av sl sv pd cd st le ap pl wy) H1 → va_S (zIn 9 g) H0 H1 locs1 → W p l e R s m args below meth c H1 locs1 cells slots Q (F0 m (pc + 1) ls rest)) : W p l e R s m args below meth c H locs cells slots Q (F0 m pc ls (.int x :: .int (nI k) :: .ref (g 1) :: rest)) :=
  z_iast hx hb hE hP (zD hJ) hS 1 (zm_c1 V g w pa be av sl sv pd cd st le ap pl wy) hk (by decide) hdg (fun H1 locs1 h1 h3 => kk H1 locs1 (by rw [zm_s1] at h1; exact h1) h3)
theorem zm_a2 {V : zV} {g : Nat → Nat} {w pa be av sl sv pd cd : Nat → Int32} {st le ap pl wy : Int32} (k : Nat) (x : Int32) (hx : p.tables.exec = Jvm.exec) (hb : c.code = cc) (hE : zE V s) (hP : va_P V.1 vwCl (zmW V g w pa be av sl sv pd cd st le ap pl wy) H) (hJ : zInj 9 g) (hS : va_S (zIn 9 g) H0 H locs) (hk : k < 1548) (hdg : decode cc pc = .ok (.iastore, 1))
    (kk : ∀ (H1 : Heap) (locs1 : List Loc), va_P V.1 vwCl (zmW V g w (upd pa k x) be av sl sv pd cd st le ap pl wy) H1 → va_S (zIn 9 g) H0 H1 locs1 → W p l e R s m args below meth c H1 locs1 cells slots Q (F0 m (pc + 1) ls rest)) : W p l e R s m args below meth c H locs cells slots Q (F0 m pc ls (.int x :: .int (nI k) :: .ref (g 2) :: rest)) :=
  z_iast hx hb hE hP (zD hJ) hS 2 (zm_c2 V g w pa be av sl sv pd cd st le ap pl wy) hk (by decide) hdg (fun H1 locs1 h1 h3 => kk H1 locs1 (by rw [zm_s2] at h1; exact h1) h3)
theorem zm_a3 {V : zV} {g : Nat → Nat} {w pa be av sl sv pd cd : Nat → Int32} {st le ap pl wy : Int32} (k : Nat) (x : Int32) (hx : p.tables.exec = Jvm.exec) (hb : c.code = cc) (hE : zE V s) (hP : va_P V.1 vwCl (zmW V g w pa be av sl sv pd cd st le ap pl wy) H) (hJ : zInj 9 g) (hS : va_S (zIn 9 g) H0 H locs) (hk : k < 258) (hdg : decode cc pc = .ok (.iastore, 1))
    (kk : ∀ (H1 : Heap) (locs1 : List Loc), va_P V.1 vwCl (zmW V g w pa (upd be k x) av sl sv pd cd st le ap pl wy) H1 → va_S (zIn 9 g) H0 H1 locs1 → W p l e R s m args below meth c H1 locs1 cells slots Q (F0 m (pc + 1) ls rest)) : W p l e R s m args below meth c H locs cells slots Q (F0 m pc ls (.int x :: .int (nI k) :: .ref (g 3) :: rest)) :=
  z_iast hx hb hE hP (zD hJ) hS 3 (zm_c3 V g w pa be av sl sv pd cd st le ap pl wy) hk (by decide) hdg (fun H1 locs1 h1 h3 => kk H1 locs1 (by rw [zm_s3] at h1; exact h1) h3)
theorem zm_a4 {V : zV} {g : Nat → Nat} {w pa be av sl sv pd cd : Nat → Int32} {st le ap pl wy : Int32} (k : Nat) (x : Int32) (hx : p.tables.exec = Jvm.exec) (hb : c.code = cc) (hE : zE V s) (hP : va_P V.1 vwCl (zmW V g w pa be av sl sv pd cd st le ap pl wy) H) (hJ : zInj 9 g) (hS : va_S (zIn 9 g) H0 H locs) (hk : k < 258) (hdg : decode cc pc = .ok (.iastore, 1))
    (kk : ∀ (H1 : Heap) (locs1 : List Loc), va_P V.1 vwCl (zmW V g w pa be (upd av k x) sl sv pd cd st le ap pl wy) H1 → va_S (zIn 9 g) H0 H1 locs1 → W p l e R s m args below meth c H1 locs1 cells slots Q (F0 m (pc + 1) ls rest)) : W p l e R s m args below meth c H locs cells slots Q (F0 m pc ls (.int x :: .int (nI k) :: .ref (g 4) :: rest)) :=
  z_iast hx hb hE hP (zD hJ) hS 4 (zm_c4 V g w pa be av sl sv pd cd st le ap pl wy) hk (by decide) hdg (fun H1 locs1 h1 h3 => kk H1 locs1 (by rw [zm_s4] at h1; exact h1) h3)
theorem zm_a5 {V : zV} {g : Nat → Nat} {w pa be av sl sv pd cd : Nat → Int32} {st le ap pl wy : Int32} (k : Nat) (x : Int32) (hx : p.tables.exec = Jvm.exec) (hb : c.code = cc) (hE : zE V s) (hP : va_P V.1 vwCl (zmW V g w pa be av sl sv pd cd st le ap pl wy) H) (hJ : zInj 9 g) (hS : va_S (zIn 9 g) H0 H locs) (hk : k < 516) (hdg : decode cc pc = .ok (.iastore, 1))
    (kk : ∀ (H1 : Heap) (locs1 : List Loc), va_P V.1 vwCl (zmW V g w pa be av (upd sl k x) sv pd cd st le ap pl wy) H1 → va_S (zIn 9 g) H0 H1 locs1 → W p l e R s m args below meth c H1 locs1 cells slots Q (F0 m (pc + 1) ls rest)) : W p l e R s m args below meth c H locs cells slots Q (F0 m pc ls (.int x :: .int (nI k) :: .ref (g 5) :: rest)) :=
  z_iast hx hb hE hP (zD hJ) hS 5 (zm_c5 V g w pa be av sl sv pd cd st le ap pl wy) hk (by decide) hdg (fun H1 locs1 h1 h3 => kk H1 locs1 (by rw [zm_s5] at h1; exact h1) h3)
theorem zm_a6 {V : zV} {g : Nat → Nat} {w pa be av sl sv pd cd : Nat → Int32} {st le ap pl wy : Int32} (k : Nat) (x : Int32) (hx : p.tables.exec = Jvm.exec) (hb : c.code = cc) (hE : zE V s) (hP : va_P V.1 vwCl (zmW V g w pa be av sl sv pd cd st le ap pl wy) H) (hJ : zInj 9 g) (hS : va_S (zIn 9 g) H0 H locs) (hz : vp_nar .boolean x = x) (hk : k < 2) (hdg : decode cc pc = .ok (.bastore, 1))
    (kk : ∀ (H1 : Heap) (locs1 : List Loc), va_P V.1 vwCl (zmW V g w pa be av sl (upd sv k x) pd cd st le ap pl wy) H1 → va_S (zIn 9 g) H0 H1 locs1 → W p l e R s m args below meth c H1 locs1 cells slots Q (F0 m (pc + 1) ls rest)) : W p l e R s m args below meth c H locs cells slots Q (F0 m pc ls (.int x :: .int (nI k) :: .ref (g 6) :: rest)) :=
  z_zast hx hb hE hP (zD hJ) hS 6 (zm_c6 V g w pa be av sl sv pd cd st le ap pl wy) hz hk (by decide) hdg (fun H1 locs1 h1 h3 => kk H1 locs1 (by rw [zm_s6] at h1; exact h1) h3)
theorem zm_a7 {V : zV} {g : Nat → Nat} {w pa be av sl sv pd cd : Nat → Int32} {st le ap pl wy : Int32} (k : Nat) (x : Int32) (hx : p.tables.exec = Jvm.exec) (hb : c.code = cc) (hE : zE V s) (hP : va_P V.1 vwCl (zmW V g w pa be av sl sv pd cd st le ap pl wy) H) (hJ : zInj 9 g) (hS : va_S (zIn 9 g) H0 H locs) (hk : k < 80) (hdg : decode cc pc = .ok (.iastore, 1))
    (kk : ∀ (H1 : Heap) (locs1 : List Loc), va_P V.1 vwCl (zmW V g w pa be av sl sv (upd pd k x) cd st le ap pl wy) H1 → va_S (zIn 9 g) H0 H1 locs1 → W p l e R s m args below meth c H1 locs1 cells slots Q (F0 m (pc + 1) ls rest)) : W p l e R s m args below meth c H locs cells slots Q (F0 m pc ls (.int x :: .int (nI k) :: .ref (g 7) :: rest)) :=
  z_iast hx hb hE hP (zD hJ) hS 7 (zm_c7 V g w pa be av sl sv pd cd st le ap pl wy) hk (by decide) hdg (fun H1 locs1 h1 h3 => kk H1 locs1 (by rw [zm_s7] at h1; exact h1) h3)
theorem zm_a8 {V : zV} {g : Nat → Nat} {w pa be av sl sv pd cd : Nat → Int32} {st le ap pl wy : Int32} (k : Nat) (x : Int32) (hx : p.tables.exec = Jvm.exec) (hb : c.code = cc) (hE : zE V s) (hP : va_P V.1 vwCl (zmW V g w pa be av sl sv pd cd st le ap pl wy) H) (hJ : zInj 9 g) (hS : va_S (zIn 9 g) H0 H locs) (hk : k < 8) (hdg : decode cc pc = .ok (.iastore, 1))
    (kk : ∀ (H1 : Heap) (locs1 : List Loc), va_P V.1 vwCl (zmW V g w pa be av sl sv pd (upd cd k x) st le ap pl wy) H1 → va_S (zIn 9 g) H0 H1 locs1 → W p l e R s m args below meth c H1 locs1 cells slots Q (F0 m (pc + 1) ls rest)) : W p l e R s m args below meth c H locs cells slots Q (F0 m pc ls (.int x :: .int (nI k) :: .ref (g 8) :: rest)) :=
  z_iast hx hb hE hP (zD hJ) hS 8 (zm_c8 V g w pa be av sl sv pd cd st le ap pl wy) hk (by decide) hdg (fun H1 locs1 h1 h3 => kk H1 locs1 (by rw [zm_s8] at h1; exact h1) h3)
end ZM
-- what the model computes, as functions of its row
def zF (w : Nat → Int32) (k f : Nat) : Int32 := w (78 + 6 * k + f)
def zoI : Option Nat → Int32
  | none => -6
  | some k => nI k
def zFirst (p : Nat → Bool) : Nat → Option Nat
  | 0 => none
  | n + 1 => match zFirst p n with
    | some k => some k
    | none => if p n then some n else none
def zCnt (p : Nat → Bool) : Nat → Nat
  | 0 => 0
  | n + 1 => zCnt p n + (if p n then 1 else 0)
def zBest (can : Nat → Bool) (lt : Nat → Nat → Bool) : Nat → Option Nat
  | 0 => none
  | n + 1 => match zBest can lt n with
    | none => if can n then some n else none
    | some b => if can n && lt n b then some n else some b
theorem zFirst_no {p : Nat → Bool} {i : Nat} (h : zFirst p i = none) (hp : p i = false) : zFirst p (i + 1) = none := by simp [zFirst, h, hp]
theorem zFirst_hit {p : Nat → Bool} {i : Nat} (h : zFirst p i = none) (hp : p i = true) {n : Nat} (hn : i < n) : zFirst p n = some i := by
  induction n with
  | zero => omega
  | succ n ih =>
    rcases Nat.lt_or_ge i n with q | q
    · simp [zFirst, ih q]
    · have : i = n := by omega
      subst this
      simp [zFirst, h, hp]
theorem zFirst_lt {p : Nat → Bool} {n k : Nat} (h : zFirst p n = some k) : k < n ∧ p k = true ∧ ∀ j, j < k → p j = false := by
  induction n with
  | zero => simp [zFirst] at h
  | succ n ih =>
    cases hz : zFirst p n with
    | some j =>
      simp only [zFirst, hz] at h
      obtain ⟨h1, h2⟩ := ih (hz.trans h)
      exact ⟨Nat.lt_succ_of_lt h1, h2⟩
    | none =>
      have hno : ∀ (i : Nat), zFirst p i = none → ∀ j, j < i → p j = false := by
        intro i
        induction i with
        | zero => intro _ j hj; omega
        | succ i ih2 =>
          intro hi j hj
          cases hzi : zFirst p i with
          | some q => simp [zFirst, hzi] at hi
          | none =>
            have hpi : p i = false := by
              cases hpi : p i with
              | true => simp [zFirst, hzi, hpi] at hi
              | false => rfl
            rcases Nat.lt_or_ge j i with q | q
            · exact ih2 hzi j q
            · have : j = i := by omega
              rw [this]; exact hpi
      simp only [zFirst, hz] at h
      cases hp : p n with
      | true =>
        simp only [hp, if_true] at h
        have e := Option.some.inj h
        rw [← e]
        exact ⟨Nat.lt_succ_self _, hp, hno n hz⟩
      | false => simp [hp] at h
theorem zFirst_none {p : Nat → Bool} {n : Nat} : zFirst p n = none ↔ ∀ j, j < n → p j = false := by
  induction n with
  | zero => simp [zFirst]
  | succ n ih =>
    constructor
    · intro h j hj
      cases hz : zFirst p n with
      | some q => simp [zFirst, hz] at h
      | none =>
        have hpn : p n = false := by
          cases hpn : p n with
          | true => simp [zFirst, hz, hpn] at h
          | false => rfl
        rcases Nat.lt_or_ge j n with q | q
        · exact ih.mp hz j q
        · have : j = n := by omega
          rw [this]; exact hpn
    · intro h
      exact zFirst_no (ih.mpr (fun j hj => h j (by omega))) (h n (by omega))
theorem zCnt_le (p : Nat → Bool) (n : Nat) : zCnt p n ≤ n := by
  induction n with
  | zero => exact Nat.le_refl 0
  | succ n ih => simp only [zCnt]; split <;> omega
theorem zBest_lt {can : Nat → Bool} {lt : Nat → Nat → Bool} {n k : Nat} (h : zBest can lt n = some k) : k < n ∧ can k = true := by
  induction n generalizing k with
  | zero => simp [zBest] at h
  | succ n ih =>
    cases hz : zBest can lt n with
    | none =>
      simp only [zBest, hz] at h
      split at h
      · have e := Option.some.inj h
        rw [← e]
        exact ⟨Nat.lt_succ_self _, by assumption⟩
      · cases h
    | some b =>
      simp only [zBest, hz] at h
      split at h
      · rename_i hc
        have e := Option.some.inj h
        rw [← e]
        rw [Bool.and_eq_true] at hc
        exact ⟨Nat.lt_succ_self _, hc.1⟩
      · have e := Option.some.inj h
        rw [← e]
        exact ⟨Nat.lt_succ_of_lt (ih hz).1, (ih hz).2⟩
theorem zBest_none {can : Nat → Bool} {lt : Nat → Nat → Bool} {n : Nat} : zBest can lt n = none ↔ ∀ j, j < n → can j = false := by
  induction n with
  | zero => simp [zBest]
  | succ n ih =>
    constructor
    · intro h j hj
      cases hz : zBest can lt n with
      | some b =>
        simp only [zBest, hz] at h
        split at h <;> cases h
      | none =>
        have hcn : can n = false := by
          cases hcn : can n with
          | true => simp [zBest, hz, hcn] at h
          | false => rfl
        rcases Nat.lt_or_ge j n with q | q
        · exact ih.mp hz j q
        · have : j = n := by omega
          rw [this]; exact hcn
    · intro h
      have h1 := ih.mpr (fun j hj => h j (by omega))
      simp [zBest, h1, h n (by omega)]
def mFind (w : Nat → Int32) (n : Nat) (x : Int32) : Option Nat := zFirst (fun k => decide (zF w k 0 = x)) n
def mMany (w : Nat → Int32) (n : Nat) (x : Int32) : Nat := zCnt (fun k => decide (zF w k 1 = x)) n
def mLow (w : Nat → Int32) (n : Nat) (wr fr : Int32) : Option Nat := zBest (fun k => decide (zF w k 1 = wr ∧ fr ≤ zF w k 2)) (fun a b => decide (zF w a 2 < zF w b 2)) n
def mOld (w : Nat → Int32) (n : Nat) (wr : Int32) : Option Nat := zBest (fun k => decide (zF w k 1 = wr)) (fun a b => decide (zF w a 4 < zF w b 4)) n
def mLast (w : Nat → Int32) (k : Nat) : Int32 := zF w k 2 + zF w k 3 - 1
def mFar (a b : Int32) : Int32 := if a < b then b - a else a - b
def mPart (w : Nat → Int32) (n : Nat) (wr d m : Int32) : Option Nat := zFirst (fun k => decide (zF w k 1 = wr ∧ mLast w k = d - 1 ∧ zF w k 3 + m ≤ 9)) n
def mIsOld (w : Nat → Int32) (k : Nat) : Prop := w (zF w k 1).toNatClampNeg ≤ w 6 - zF w k 4
def mNext (w : Nat → Int32) (n : Nat) : Int32 := if mMany w n 1 = n then 1 else if mMany w n 1 = 0 then 0 else if w 3 ≤ w 15 then 1 else 0
def mMinute (w : Nat → Int32) (k : Nat) : Int32 := w 6 + w 4 * mFar (zF w k 2) (w 9) + w 5 * zF w k 3
def mRank (w : Nat → Int32) (n k : Nat) : Nat := zCnt (fun x => decide (zF w x 1 = zF w k 1 ∧ (zF w x 2 < zF w k 2 ∨ (zF w x 2 = zF w k 2 ∧ x < k)))) n
abbrev mIn (x a b : Int32) : Prop := a ≤ x ∧ x ≤ b
abbrev mSlip (a d m : Int32) : Prop := (0 ≤ a ∧ a ≤ 1) ∧ (0 ≤ d ∧ d ≤ 99) ∧ (1 ≤ m ∧ m ≤ 9) ∧ d + m ≤ 100
