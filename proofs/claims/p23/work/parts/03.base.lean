/-! my own base: the classes' table and the links of nest mates, carried as one; worlds that are a function of a place; call rows; array rows at a place that is a number -/
abbrev zV : Type := va_G × ClassId × ClassId × ClassId
def zTY (V : zV) : List (ClassId × FieldType) := [(V.2.1, .int), (V.2.1, .int), (V.2.2.2, .object "DrawerSlips$Archive")]
def zNb : Cond → Bool
  | .methodLinkNest _ _ _ _ => true
  | .fieldLinkNest _ _ _ _ _ _ => true
  | _ => false
def zNW : List Cond := [.fieldLinkNest RX0 9 "DrawerSlips" "FIRST_VALUES" "[I" "DrawerSlips",
  .fieldLinkNest RX0 160 "DrawerSlips$Lately" "served" "I" "DrawerSlips",
  .fieldLinkNest RX0 41 "DrawerSlips$Slip" "rest" "LDrawerSlips$Slip;" "DrawerSlips",
  .fieldLinkNest RX0 116 "DrawerSlips$Slip" "waits" "Z" "DrawerSlips",
  .fieldLinkNest RX0 109 "DrawerSlips$Slip" "number" "I" "DrawerSlips",
  .fieldLinkNest RX7 130 "DrawerSlips$Slip" "number" "I" "DrawerSlips",
  .fieldLinkNest RX0 120 "DrawerSlips$Slip" "writes" "I" "DrawerSlips",
  .fieldLinkNest RX7 104 "DrawerSlips$Slip" "writes" "I" "DrawerSlips",
  .fieldLinkNest RX0 123 "DrawerSlips$Slip" "first" "I" "DrawerSlips",
  .fieldLinkNest RX7 109 "DrawerSlips$Slip" "first" "I" "DrawerSlips",
  .fieldLinkNest RX0 103 "DrawerSlips$Slip" "many" "I" "DrawerSlips",
  .fieldLinkNest RX0 126 "DrawerSlips$Slip" "came" "I" "DrawerSlips",
  .fieldLinkNest RX0 106 "DrawerSlips$Slip" "joins" "I" "DrawerSlips",
  .fieldLinkNest RX7 123 "DrawerSlips$Slip" "joins" "I" "DrawerSlips",
  .fieldLinkNest RX7 133 "DrawerSlips$Archive" "lately" "LDrawerSlips$Lately;" "DrawerSlips",
  .fieldLinkNest RX7 95 "DrawerSlips$Archive" "now" "I" "DrawerSlips",
  .fieldLinkNest RX7 170 "DrawerSlips$Archive" "longestWait" "I" "DrawerSlips",
  .fieldLinkNest RX7 173 "DrawerSlips$Archive" "drawersGone" "I" "DrawerSlips",
  .fieldLinkNest RX7 155 "DrawerSlips$History" "kept" "I" "DrawerSlips",
  .fieldLinkNest RX0 9 "DrawerSlips" "FIRST_VALUES" "[I" "DrawerSlips",
  .fieldLinkNest RX0 9 "DrawerSlips" "FIRST_VALUES" "[I" "DrawerSlips",
  .fieldLinkNest RX0 9 "DrawerSlips" "FIRST_VALUES" "[I" "DrawerSlips",
  .fieldLinkNest RX7 152 "DrawerSlips$Pad" "length" "I" "DrawerSlips",
  .fieldLinkNest RX0 9 "DrawerSlips" "FIRST_VALUES" "[I" "DrawerSlips",
  .fieldLinkNest RX0 9 "DrawerSlips" "FIRST_VALUES" "[I" "DrawerSlips",
  .fieldLinkNest RX0 9 "DrawerSlips" "FIRST_VALUES" "[I" "DrawerSlips",
  .fieldLinkNest RX0 85 "DrawerSlips" "LEAST_VALUES" "[I" "DrawerSlips",
  .fieldLinkNest RX0 92 "DrawerSlips" "MOST_VALUES" "[I" "DrawerSlips",
  .methodLinkNest RX7 9 yX0_init "DrawerSlips",
  .methodLinkNest RX0 20 yX2_init "DrawerSlips",
  .methodLinkNest RX0 25 yX7_copyRow "DrawerSlips",
  .methodLinkNest RX0 31 yX5_init "DrawerSlips",
  .methodLinkNest RX7 21 yX1_init "DrawerSlips",
  .methodLinkNest RX1 15 yX0_init "DrawerSlips",
  .methodLinkNest RX7 28 yX6_init "DrawerSlips",
  .methodLinkNest RX6 9 yX0_init "DrawerSlips",
  .methodLinkNest RX7 38 yX3_init "DrawerSlips",
  .methodLinkNest RX7 45 yX4_init "DrawerSlips",
  .methodLinkNest RX7 52 yX1_prepare "DrawerSlips",
  .methodLinkNest RX1 24 yX0_copyFrom "DrawerSlips",
  .methodLinkNest RX0 38 yX5_copyFrom "DrawerSlips",
  .methodLinkNest RX0 44 yX2_copyFrom "DrawerSlips",
  .methodLinkNest RX2 19 yX7_copyRow "DrawerSlips",
  .methodLinkNest RX7 56 yX0_adjust "DrawerSlips",
  .methodLinkNest RX0 81 yX7_isIndexOf "DrawerSlips",
  .methodLinkNest RX0 88 yX7_valueAt "DrawerSlips",
  .methodLinkNest RX7 77 yX1_keep "DrawerSlips",
  .methodLinkNest RX7 64 yX0_accept "DrawerSlips",
  .methodLinkNest RX0 95 yX7_isSlip "DrawerSlips",
  .methodLinkNest RX0 145 yX5_isOfSort "DrawerSlips",
  .methodLinkNest RX0 149 yX5_last "DrawerSlips",
  .methodLinkNest RX7 68 yX0_tearUp "DrawerSlips",
  .methodLinkNest RX7 80 yX0_slipsThatWait "DrawerSlips",
  .methodLinkNest RX7 89 yX0_copyFrom "DrawerSlips",
  .methodLinkNest RX7 92 yX0_serveNext "DrawerSlips",
  .methodLinkNest RX0 156 yX5_isAheadOf "DrawerSlips",
  .methodLinkNest RX0 205 yX2_append "DrawerSlips",
  .methodLinkNest RX2 29 yX7_isIndexOf "DrawerSlips",
  .methodLinkNest RX7 74 yX0_stand "DrawerSlips",
  .methodLinkNest RX7 100 yX0_find "DrawerSlips",
  .methodLinkNest RX7 112 yX5_last "DrawerSlips",
  .methodLinkNest RX7 115 yX0_age "DrawerSlips",
  .methodLinkNest RX7 119 yX0_isTooOld "DrawerSlips",
  .methodLinkNest RX7 126 yX0_ranked "DrawerSlips",
  .methodLinkNest RX7 137 yX2_has "DrawerSlips",
  .methodLinkNest RX7 143 yX2_numberOf "DrawerSlips",
  .methodLinkNest RX2 37 yX7_valueAt "DrawerSlips",
  .methodLinkNest RX7 146 yX2_waitOf "DrawerSlips",
  .methodLinkNest RX7 149 yX2_sortOf "DrawerSlips",
  .methodLinkNest RX7 158 yX0_amount "DrawerSlips",
  .methodLinkNest RX7 161 yX0_reason "DrawerSlips",
  .methodLinkNest RX7 164 yX0_chosen "DrawerSlips",
  .methodLinkNest RX7 167 yX0_minutesFor "DrawerSlips",
  .methodLinkNest RX7 180 yX0_hostFor "DrawerSlips",
  .fieldLinkNest RX0 9 "DrawerSlips" "FIRST_VALUES" "[I" "DrawerSlips",
  .fieldLinkNest RX0 9 "DrawerSlips" "FIRST_VALUES" "[I" "DrawerSlips",
  .fieldLinkNest RX0 9 "DrawerSlips" "FIRST_VALUES" "[I" "DrawerSlips",
  .fieldLinkNest RX0 9 "DrawerSlips" "FIRST_VALUES" "[I" "DrawerSlips",
  .fieldLinkNest RX0 9 "DrawerSlips" "FIRST_VALUES" "[I" "DrawerSlips",
  .fieldLinkNest RX0 9 "DrawerSlips" "FIRST_VALUES" "[I" "DrawerSlips",
  .fieldLinkNest RX0 9 "DrawerSlips" "FIRST_VALUES" "[I" "DrawerSlips",
  .fieldLinkNest RX0 9 "DrawerSlips" "FIRST_VALUES" "[I" "DrawerSlips",
  .fieldLinkNest RX0 9 "DrawerSlips" "FIRST_VALUES" "[I" "DrawerSlips",
  .fieldLinkNest RX0 9 "DrawerSlips" "FIRST_VALUES" "[I" "DrawerSlips"]
theorem zNW_all : zNW.all zNb = true := rfl
theorem zNb_tables {w : Cond} (h : zNb w = true) : w.onTables = true := by
  cases w <;> first | rfl | (simp [zNb] at h)
theorem zNb_moved {s U : State} (hW : s.WarmedH U.vm) {w : Cond} (hb : zNb w = true) (h : va_Nw w s) : va_Nw w U := by
  cases w <;> first | (exact va_Nw.warmM hW h) | (exact va_Nw.warmF hW h) | (simp [zNb] at hb)
def zE (V : zV) (U : State) : Prop := va_K V.1 vwCl (zTY V) U ∧ ∀ w ∈ zNW, va_Nw w U
theorem zE.moved {V : zV} {s U : State} (hW : s.WarmedH U.vm) (h : zE V s) : zE V U := ⟨va_K.moved hW.alike h.1, fun w hw => zNb_moved hW (List.all_eq_true.mp zNW_all w hw) (h.2 w hw)⟩
theorem zE.calling {V : zV} {U : State} {g : JFrame} {mk : MethodId} {a : Array Value} (h : zE V U) : zE V (U.calling g mk a) := ⟨va_K.moved (u := U) (U := U.calling g mk a) (Vm.Alike.refl U.vm) h.1, fun w hw => va_Nw.same (u := U) (U := U.calling g mk a) (zNb_tables (List.all_eq_true.mp zNW_all w hw)) rfl (h.2 w hw)⟩
def zR (d mc ms : Nat) : Room := { frames := d, cells := mc, slots := ms, locals := 40 * d }
-- a start: the arguments, what the heap holds, the tables
def zPc (V : zV) (av : List Value) (B : Heap → Prop) : Array Value → State → Prop := va_Pc av (fun U => B U.heap ∧ zE V U)
theorem zPc_blind {V : zV} {av : List Value} {B : Heap → Prop} : FrameBlind (zPc V av B) := fun _ _ _ _ q => ⟨q.1, q.2.1, q.2.2.calling⟩
theorem zPreV {V : zV} {s : State} {H : Heap} {C : String} {b : Nat} {As : List Value} {B : Heap → Prop} (hB : B H) (hE : zE V s) (hr : ∃ cell : Cell, H[b]? = some cell ∧ cell.vm.isStatics = false ∧ s.vm.findClass C = some cell.cls) : PreV s H C b (zPc V (.ref b :: As) B) As :=
  ⟨zPc_blind, hr, fun _ hU hW => ⟨rfl, by rw [hU]; exact hB, hE.moved hW⟩⟩
theorem zPreS {V : zV} {s : State} {H : Heap} {As : List Value} {B : Heap → Prop} (hB : B H) (hE : zE V s) : PreS s H (zPc V As B) As :=
  ⟨zPc_blind, fun _ hU hW => ⟨rfl, by rw [hU]; exact hB, hE.moved hW⟩⟩
-- an end: the answer and what the heap holds; nothing outside A has changed
def zQi (post : Int32 → Heap → Prop) (A : Nat → Prop) : Array Value → State → Outcome → State → Prop := fun _ st oc t => (∃ r : Int32, oc = .returned (some (.int r)) ∧ post r t.heap) ∧ va_F A st t
def zQv (post : Heap → Prop) (A : Nat → Prop) : Array Value → State → Outcome → State → Prop := fun _ st oc t => (oc = .returned none ∧ post t.heap) ∧ va_F A st t
section ZC
variable {p : Program} {l : Launch} {e : Env} {R : Room} {s : State} {m : MethodId} {args : Array Value} {below : List Frame} {meth : Method} {c : Code} {H : Heap} {locs : List Loc} {cells slots : Nat} {Q : State → Prop}
variable {pc : Nat} {ls : Array Slot} {rest st0 : List Value} {a : Array Value} {A0 A1 : Nat → Prop} {H0 : Heap} {mc ms : Nat} {free : Addr → Prop}
theorem zc_i {post : Int32 → Heap → Prop} (hr : va_Run p l e R s m args below meth c H locs cells slots mc ms (F0 m pc ls st0) rest (zQi post A1 a) free) (hS : va_S A0 H0 H locs) (hA : ∀ q, A1 q → A0 q) (hf : ∀ q, free q → A0 q)
    (kk : ∀ (r : Int32) (H1 : Heap) (locs1 : List Loc), post r H1 → H.size ≤ H1.size → (∀ q : Nat, q < H.size → ¬ A1 q → H1[q]? = H[q]?) → va_S A0 H0 H1 locs1 → W p l e R s m args below meth c H1 locs1 (cells + mc) (slots + ms) Q (F0 m (pc + 3) ls (.int r :: rest))) : W p l e R s m args below meth c H locs cells slots Q (F0 m pc ls st0) := by
  intro T hT X
  obtain ⟨v, st₀, t, T', L, h0, X', hL, e1, e2, ⟨⟨r, hv, hp⟩, hz, hk⟩, st⟩ := hr T hT X
  cases hv
  rw [h0] at hz hk
  obtain ⟨t2, a1, b1⟩ := kk r T'.heap (locs ++ L) (by rw [e1]; exact hp) (by rw [e1]; exact hz) (fun q h1 h2 => by rw [e1]; exact hk q h1 h2)
    ⟨Nat.le_trans hS.1 (by rw [e1]; exact hz), fun q h1 h2 => by rw [e1, hk q (Nat.lt_of_lt_of_le h1 hS.1) (fun z => h2 (hA q z))]; exact hS.2.1 q h1 h2, fun q hq => by
      rcases List.mem_append.mp hq with h | h
      · exact hS.2.2 q h
      · exact hf _ (hL q h)⟩ T' rfl X'
  exact ⟨t2, st t2 a1, b1⟩
theorem zc_v {post : Heap → Prop} (hr : va_Run p l e R s m args below meth c H locs cells slots mc ms (F0 m pc ls st0) rest (zQv post A1 a) free) (hS : va_S A0 H0 H locs) (hA : ∀ q, A1 q → A0 q) (hf : ∀ q, free q → A0 q)
    (kk : ∀ (H1 : Heap) (locs1 : List Loc), post H1 → H.size ≤ H1.size → (∀ q : Nat, q < H.size → ¬ A1 q → H1[q]? = H[q]?) → va_S A0 H0 H1 locs1 → W p l e R s m args below meth c H1 locs1 (cells + mc) (slots + ms) Q (F0 m (pc + 3) ls rest)) : W p l e R s m args below meth c H locs cells slots Q (F0 m pc ls st0) := by
  intro T hT X
  obtain ⟨v, st₀, t, T', L, h0, X', hL, e1, e2, ⟨⟨hv, hp⟩, hz, hk⟩, st⟩ := hr T hT X
  cases hv
  rw [h0] at hz hk
  obtain ⟨t2, a1, b1⟩ := kk T'.heap (locs ++ L) (by rw [e1]; exact hp) (by rw [e1]; exact hz) (fun q h1 h2 => by rw [e1]; exact hk q h1 h2)
    ⟨Nat.le_trans hS.1 (by rw [e1]; exact hz), fun q h1 h2 => by rw [e1, hk q (Nat.lt_of_lt_of_le h1 hS.1) (fun z => h2 (hA q z))]; exact hS.2.1 q h1 h2, fun q hq => by
      rcases List.mem_append.mp hq with h | h
      · exact hS.2.2 q h
      · exact hf _ (hL q h)⟩ T' rfl X'
  exact ⟨t2, st t2 a1, b1⟩
theorem zc_si {post : Int32 → Prop} (hr : va_Run p l e R s m args below meth c H locs cells slots 0 0 (F0 m pc ls st0) rest (vp_Si post a) (fun _ => False))
    (kk : ∀ r : Int32, post r → W p l e R s m args below meth c H locs cells slots Q (F0 m (pc + 3) ls (.int r :: rest))) : W p l e R s m args below meth c H locs cells slots Q (F0 m pc ls st0) := by
  intro T hT X
  obtain ⟨v, st₀, t, T', L, h0, X', hL, e1, e2, ⟨r, hv, hp, hh⟩, st⟩ := hr T hT X
  cases hv
  obtain ⟨t2, a1, b1⟩ := kk r hp T' (by rw [e1, hh, h0]) (Stand.forget X' (fun q h => (hL q h).elim))
  exact ⟨t2, st t2 a1, b1⟩
/-- a reading call whose answer is known -/
theorem zc_se {v : Int32} (hr : va_Run p l e R s m args below meth c H locs cells slots 0 0 (F0 m pc ls st0) rest (vp_Si (fun r => r = v) a) (fun _ => False))
    (kk : W p l e R s m args below meth c H locs cells slots Q (F0 m (pc + 3) ls (.int v :: rest))) : W p l e R s m args below meth c H locs cells slots Q (F0 m pc ls st0) :=
  zc_si hr (fun r h => by rw [h]; exact kk)
theorem zc_sq {post : Option Nat → Prop} (hr : va_Run p l e R s m args below meth c H locs cells slots 0 0 (F0 m pc ls st0) rest (va_Sq post a) (fun _ => False))
    (kk : ∀ r : Option Nat, post r → W p l e R s m args below meth c H locs cells slots Q (F0 m (pc + 3) ls (va_rf r :: rest))) : W p l e R s m args below meth c H locs cells slots Q (F0 m pc ls st0) := by
  intro T hT X
  obtain ⟨v, st₀, t, T', L, h0, X', hL, e1, e2, ⟨r, hv, hp, hh⟩, st⟩ := hr T hT X
  cases hv
  obtain ⟨t2, a1, b1⟩ := kk r hp T' (by rw [e1, hh, h0]) (Stand.forget X' (fun q h => (hL q h).elim))
  exact ⟨t2, st t2 a1, b1⟩
theorem zt_i {x y : Int32} (h : x = y) (k : W p l e R s m args below meth c H locs cells slots Q (F0 m pc ls (.int y :: rest))) : W p l e R s m args below meth c H locs cells slots Q (F0 m pc ls (.int x :: rest)) := by rw [h]; exact k
variable {cc : ByteArray} {D : va_G} {cl : List vw_C} {A : Nat → Prop} {q : Nat} {tys : List (ClassId × FieldType)} {ws : va_W}
-- returns
theorem zr_i {post : Int32 → Heap → Prop} {v : Int32} (hexec : p.tables.exec = Jvm.exec) (hb : c.code = cc) (hr : meth.sig.returnType = some .int) (hlocks : meth.locks = false) (hS : va_S A s.heap H locs) (h : post v H) (hdg : decode cc pc = .ok (.ireturn, 1)) : W p l e R s m args below meth c H locs cells slots (MQ below (zQi post A) args s cells slots A) (F0 m pc ls [.int v]) :=
  W.iret hexec hb hr (fun t ht _ => ⟨⟨v, rfl, by rw [ht]; exact h⟩, hS.F ht⟩) hS.2.2 hdg hlocks
theorem zr_v {post : Heap → Prop} (hexec : p.tables.exec = Jvm.exec) (hb : c.code = cc) (hr : meth.sig.returnType = none) (hlocks : meth.locks = false) (hS : va_S A s.heap H locs) (h : post H) (hdg : decode cc pc = .ok (.return_, 1)) : W p l e R s m args below meth c H locs cells slots (MQ below (zQv post A) args s cells slots A) (F0 m pc ls []) :=
  W.vret hexec hb hr (fun t ht _ => ⟨⟨rfl, by rw [ht]; exact h⟩, hS.F ht⟩) hS.2.2 hdg hlocks
theorem zr_si {post : Int32 → Prop} {v : Int32} (hexec : p.tables.exec = Jvm.exec) (hb : c.code = cc) (hr : meth.sig.returnType = some .int) (hlocks : meth.locks = false) (h : post v) (hdg : decode cc pc = .ok (.ireturn, 1)) : W p l e R s m args below meth c s.heap [] cells slots (MQ below (vp_Si post) args s cells slots (fun _ => False)) (F0 m pc ls [.int v]) :=
  W.iret hexec hb hr (fun t ht _ => ⟨v, rfl, h, ht⟩) (fun _ h => by cases h) hdg hlocks
theorem zr_sz {post : Int32 → Prop} {v : Int32} (hexec : p.tables.exec = Jvm.exec) (hb : c.code = cc) (hr : meth.sig.returnType = some .boolean) (hlocks : meth.locks = false) (hn : v = 0 ∨ v = 1) (h : post v) (hdg : decode cc pc = .ok (.ireturn, 1)) : W p l e R s m args below meth c s.heap [] cells slots (MQ below (vp_Si post) args s cells slots (fun _ => False)) (F0 m pc ls [.int v]) :=
  W.zret hexec hb hr (by rcases hn with rfl | rfl <;> rfl) (fun t ht _ => ⟨v, rfl, h, ht⟩) (fun _ h => by cases h) hdg hlocks
theorem zr_sq {post : Option Nat → Prop} {r : Option Nat} {C : String} (hexec : p.tables.exec = Jvm.exec) (hb : c.code = cc) (hr : meth.sig.returnType = some (.object C)) (hlocks : meth.locks = false) (h : post r) (hdg : decode cc pc = .ok (.areturn, 1)) : W p l e R s m args below meth c s.heap [] cells slots (MQ below (va_Sq post) args s cells slots (fun _ => False)) (F0 m pc ls [va_rf r]) :=
  W.aret hexec hb hr (Or.inl ⟨C, rfl⟩) (va_rf_or r) (fun t ht _ => ⟨r, rfl, h, ht⟩) (fun _ h => by cases h) hdg hlocks
-- arrays at a place that is a number
theorem z_iald {V : zV} (hexec : p.tables.exec = Jvm.exec) (hb : c.code = cc) (hE : zE V s) (hP : va_P V.1 vwCl ws H) (q0 : Nat) {n : Nat} {f : Nat → Int32} (ha : ws[q0]? = some (q, .inl (V.2.1, n, .inl f))) {k : Nat} (hk : k < n) (hn : n < 2 ^ 31) (hdg : decode cc pc = .ok (.iaload, 1))
    (kk : W p l e R s m args below meth c H locs cells slots Q (F0 m (pc + 1) ls (.int (f k) :: rest))) : W p l e R s m args below meth c H locs cells slots Q (F0 m pc ls (.int (nI k) :: .ref q :: rest)) := by
  refine va_iald hexec hb hE.1 hP q0 0 ha rfl (vp_in_nI hk hn) hdg ?_
  rw [nI_clamp (Nat.lt_trans hk hn)]
  exact kk
theorem z_aald {V : zV} (hexec : p.tables.exec = Jvm.exec) (hb : c.code = cc) (hE : zE V s) (hP : va_P V.1 vwCl ws H) (q0 : Nat) {n : Nat} {f : Nat → Option Nat} (ha : ws[q0]? = some (q, .inl (V.2.2.2, n, .inr (.inr (.inr (.inr f)))))) {k : Nat} (hk : k < n) (hn : n < 2 ^ 31) (hdg : decode cc pc = .ok (.aaload, 1))
    (kk : W p l e R s m args below meth c H locs cells slots Q (F0 m (pc + 1) ls (va_rf (f k) :: rest))) : W p l e R s m args below meth c H locs cells slots Q (F0 m pc ls (.int (nI k) :: .ref q :: rest)) := by
  refine va_aldq hexec hb hE.1 hP q0 2 ha rfl (vp_in_nI hk hn) hdg ?_
  rw [nI_clamp (Nat.lt_trans hk hn)]
  exact kk
theorem z_iast {V : zV} (hexec : p.tables.exec = Jvm.exec) (hb : c.code = cc) (hE : zE V s) (hP : va_P V.1 vwCl ws H) (hD : va_D A ws) (hS : va_S A H0 H locs) (q0 : Nat) {n : Nat} {f : Nat → Int32} (ha : ws[q0]? = some (q, .inl (V.2.1, n, .inl f))) {k : Nat} {x : Int32} (hk : k < n) (hn : n < 2 ^ 31) (hdg : decode cc pc = .ok (.iastore, 1))
    (kk : ∀ (H1 : Heap) (locs1 : List Loc), va_P V.1 vwCl (ws.set q0 (q, .inl (V.2.1, n, .inl (upd f k x)))) H1 → va_S A H0 H1 locs1 → W p l e R s m args below meth c H1 locs1 cells slots Q (F0 m (pc + 1) ls rest)) : W p l e R s m args below meth c H locs cells slots Q (F0 m pc ls (.int x :: .int (nI k) :: .ref q :: rest)) := by
  refine va_iast hexec hb hE.1 hP hD hS q0 0 ha rfl (vp_in_nI hk hn) hdg (fun H1 locs1 h1 _ h3 => ?_)
  rw [nI_clamp (Nat.lt_trans hk hn)] at h1
  exact kk H1 locs1 h1 h3
end ZC
-- worlds by places
def zWd (N : Nat) (g : Nat → Nat) (E : Nat → va_E) : va_W := (List.range N).map (fun p => (g p, E p))
def zIn (N : Nat) (g : Nat → Nat) : Nat → Prop := fun q => ∃ p, p < N ∧ q = g p
def zInj (N : Nat) (g : Nat → Nat) : Prop := ∀ i j, i < N → j < N → g i = g j → i = j
theorem zWd_at {N p : Nat} {g : Nat → Nat} {E : Nat → va_E} (hp : p < N) : (zWd N g E)[p]? = some (g p, E p) := by
  simp [zWd, List.getElem?_map, List.getElem?_range hp]
theorem zWd_of {N k : Nat} {g : Nat → Nat} {E : Nat → va_E} {q : Nat × va_E} (h : (zWd N g E)[k]? = some q) : k < N ∧ q = (g k, E k) := by
  have hl : k < (zWd N g E).length := (List.getElem?_eq_some_iff.mp h).1
  have hk : k < N := by simpa [zWd] using hl
  refine ⟨hk, ?_⟩
  rw [zWd_at hk] at h
  exact (Option.some.inj h).symm
theorem zWd_set {N p : Nat} {g : Nat → Nat} {E E' : Nat → va_E} {x : va_E} (hp : p < N) (he : E' p = x) (ho : ∀ q, q < N → q ≠ p → E' q = E q) : (zWd N g E).set p (g p, x) = zWd N g E' := by
  refine List.ext_getElem? (fun k => ?_)
  by_cases hk : k < N
  · rw [zWd_at hk]
    by_cases h : k = p
    · subst h
      rw [List.getElem?_set_self (by simpa [zWd] using hk), he]
    · rw [List.getElem?_set_ne (Ne.symm h), zWd_at hk, ho k hk h]
  · rw [List.getElem?_eq_none (by simpa [zWd] using hk), List.getElem?_eq_none (by simpa [zWd] using hk)]
theorem zD {N : Nat} {g : Nat → Nat} {E : Nat → va_E} (h : zInj N g) : va_D (zIn N g) (zWd N g E) := by
  refine ⟨fun i j x y hi hj hxy => ?_, fun k q hk => ?_⟩
  · obtain ⟨h1, rfl⟩ := zWd_of hi
    obtain ⟨h2, rfl⟩ := zWd_of hj
    exact h i j h1 h2 hxy
  · obtain ⟨h1, rfl⟩ := zWd_of hk
    exact ⟨k, h1, rfl⟩
theorem zP_mk {D : va_G} {cl : List vw_C} {N : Nat} {g : Nat → Nat} {E : Nat → va_E} {H : Heap} (h : ∀ p, p < N → va_at D cl (g p, E p) H) : va_P D cl (zWd N g E) H := by
  intro k q hk
  obtain ⟨h1, rfl⟩ := zWd_of hk
  exact h k h1
theorem zP_at {D : va_G} {cl : List vw_C} {N p : Nat} {g : Nat → Nat} {E : Nat → va_E} {H : Heap} (h : va_P D cl (zWd N g E) H) (hp : p < N) : va_at D cl (g p, E p) H := h p _ (zWd_at hp)
/-- a part of a world, by places -/
theorem zP_sub {D : va_G} {cl : List vw_C} {N M : Nat} {g g' : Nat → Nat} {E E' : Nat → va_E} {H : Heap} (h : va_P D cl (zWd N g E) H) (f : Nat → Nat) (hf : ∀ p, p < M → f p < N ∧ g' p = g (f p) ∧ E' p = E (f p)) : va_P D cl (zWd M g' E') H :=
  zP_mk (fun p hp => by obtain ⟨h1, h2, h3⟩ := hf p hp; rw [h2, h3]; exact zP_at h h1)
/-- a world behind a call: its own places changed as the callee says, the others stay -/
theorem zP_join {D : va_G} {cl : List vw_C} {N : Nat} {g : Nat → Nat} {E E' : Nat → va_E} {A1 : Nat → Prop} {H H1 : Heap} (h : va_P D cl (zWd N g E) H) (hk : ∀ q : Nat, q < H.size → ¬ A1 q → H1[q]? = H[q]?) (hn : ∀ p, p < N → va_at D cl (g p, E' p) H1 ∨ (E' p = E p ∧ ¬ A1 (g p))) : va_P D cl (zWd N g E') H1 :=
  zP_mk (fun p hp => by
    rcases hn p hp with h1 | ⟨h1, h2⟩
    · exact h1
    · have h3 := zP_at h hp
      rw [h1]
      exact h3.kept (hk _ h3.lt h2))
theorem z_arr {cA : ClassId} {n : Nat} {f f' : Nat → Int32} (h : ∀ j, j < n → f j = f' j) : vp_cell cA (n, .inl f) = vp_cell cA (n, .inl f') := by
  rw [vp_cell_i, vp_cell_i]
  unfold arrV
  congr 2
  funext j
  exact congrArg Value.int (h j.val j.isLt)
theorem z_atx {D : va_G} {cl : List vw_C} {a : Nat} {cA : ClassId} {n : Nat} {f f' : Nat → Int32} {H : Heap} (h : va_at D cl (a, .inl (cA, n, .inl f)) H) (hf : ∀ j, j < n → f j = f' j) : va_at D cl (a, .inl (cA, n, .inl f')) H := by
  show H[a]? = some (vp_cell cA (n, .inl f'))
  rw [← z_arr hf]
  exact h
theorem zUp_s {α : Type} (f : Nat → α) (k : Nat) (v : α) : va_up f k v k = v := if_pos rfl
theorem zUp_n {α : Type} (f : Nat → α) {k j : Nat} (v : α) (h : j ≠ k) : va_up f k v j = f j := if_neg h
section ZB
variable {p : Program} {l : Launch} {e : Env} {R : Room} {s : State} {m : MethodId} {args : Array Value} {below : List Frame} {meth : Method} {c : Code} {H : Heap} {locs : List Loc} {cells slots : Nat} {Q : State → Prop}
variable {pc : Nat} {ls : Array Slot} {rest : List Value} {cc : ByteArray}
theorem zb_ge (hexec : p.tables.exec = Jvm.exec) (hb : c.code = cc) {x y : Nat} {off : Int} {tgt : Nat} (hdg : decode cc pc = .ok (.if_icmp .ge off, 3)) (ht : (pc : Int) + off = (tgt : Int)) (hx : x < 2 ^ 31) (hy : y < 2 ^ 31) (kt : y ≤ x → W p l e R s m args below meth c H locs cells slots Q (F0 m tgt ls rest)) (kf : x < y → W p l e R s m args below meth c H locs cells slots Q (F0 m (pc + 3) ls rest)) : W p l e R s m args below meth c H locs cells slots Q (F0 m pc ls (.int (nI y) :: .int (nI x) :: rest)) :=
  lv_icmp_ge hexec hb hdg ht (fun h => kt ((nI_leI hy hx).mp h)) (fun h => kf (Nat.not_le.mp (fun z => h (nI_le z hx))))
theorem zb0_ne (hexec : p.tables.exec = Jvm.exec) (hb : c.code = cc) {x : Nat} {off : Int} {tgt : Nat} (hdg : decode cc pc = .ok (.ifCond .ne off, 3)) (ht : (pc : Int) + off = (tgt : Int)) (hx : x < 2 ^ 31) (kt : x ≠ 0 → W p l e R s m args below meth c H locs cells slots Q (F0 m tgt ls rest)) (kf : x = 0 → W p l e R s m args below meth c H locs cells slots Q (F0 m (pc + 3) ls rest)) : W p l e R s m args below meth c H locs cells slots Q (F0 m pc ls (.int (nI x) :: rest)) :=
  lv_if_ne hexec hb hdg ht (fun h => kt (fun z => h (by rw [z]; rfl))) (fun h => kf ((nI_eq hx (by decide)).mp h))
theorem zb0_lt (hexec : p.tables.exec = Jvm.exec) (hb : c.code = cc) {x : Nat} {off : Int} {tgt : Nat} (hdg : decode cc pc = .ok (.ifCond .lt off, 3)) (ht : (pc : Int) + off = (tgt : Int)) (hx : x < 2 ^ 31) (kt : False → W p l e R s m args below meth c H locs cells slots Q (F0 m tgt ls rest)) (kf : True → W p l e R s m args below meth c H locs cells slots Q (F0 m (pc + 3) ls rest)) : W p l e R s m args below meth c H locs cells slots Q (F0 m pc ls (.int (nI x) :: rest)) :=
  lv_if_lt hexec hb hdg ht (fun h => kt (nI_pos hx h)) (fun h => kf trivial)
theorem zbp_eq {P : Prop} [Decidable P] (hexec : p.tables.exec = Jvm.exec) (hb : c.code = cc) {off : Int} {tgt : Nat} (hdg : decode cc pc = .ok (.ifCond .eq off, 3)) (ht : (pc : Int) + off = (tgt : Int)) (kt : ¬ P → W p l e R s m args below meth c H locs cells slots Q (F0 m tgt ls rest)) (kf : P → W p l e R s m args below meth c H locs cells slots Q (F0 m (pc + 3) ls rest)) : W p l e R s m args below meth c H locs cells slots Q (F0 m pc ls (.int (if P then 1 else 0) :: rest)) := by
  by_cases h : P
  · rw [if_pos h]
    exact lv_if_eq hexec hb hdg ht (fun q => by first | exact absurd q (by decide) | exact kt h) (fun q => by first | exact kf h | exact absurd q (by decide))
  · rw [if_neg h]
    exact lv_if_eq hexec hb hdg ht (fun q => by first | exact kt h | exact absurd q (by decide)) (fun q => by first | exact absurd q (by decide) | exact kf h)
theorem zbp_ne {P : Prop} [Decidable P] (hexec : p.tables.exec = Jvm.exec) (hb : c.code = cc) {off : Int} {tgt : Nat} (hdg : decode cc pc = .ok (.ifCond .ne off, 3)) (ht : (pc : Int) + off = (tgt : Int)) (kt : P → W p l e R s m args below meth c H locs cells slots Q (F0 m tgt ls rest)) (kf : ¬ P → W p l e R s m args below meth c H locs cells slots Q (F0 m (pc + 3) ls rest)) : W p l e R s m args below meth c H locs cells slots Q (F0 m pc ls (.int (if P then 1 else 0) :: rest)) := by
  by_cases h : P
  · rw [if_pos h]
    exact lv_if_ne hexec hb hdg ht (fun q => by first | exact absurd q (by decide) | exact kt h) (fun q => by first | exact kf h | exact absurd q (by decide))
  · rw [if_neg h]
    exact lv_if_ne hexec hb hdg ht (fun q => by first | exact kt h | exact absurd q (by decide)) (fun q => by first | exact absurd q (by decide) | exact kf h)
theorem z_add {a b c : Nat} (h : a + b = c) : nI a + nI b = nI c := by rw [nI_add, h]
theorem z_sub {a b c : Nat} (h : b ≤ a) (h2 : a - b = c) : nI a - nI b = nI c := by rw [pk_sub h, h2]
theorem z_rng (x : Int32) (n : Nat) (hn : n < 2 ^ 31) : (∃ k, k < n ∧ x = nI k) ∨ (x.toInt < 0 ∨ (n : Int) - 1 < x.toInt) := by
  by_cases h : vp_in x n
  · obtain ⟨j, h1, h2⟩ := vp_in_of h hn
    exact Or.inl ⟨j, h1, h2⟩
  · rw [vp_in_iff] at h
    refine Or.inr ?_
    omega
theorem z_ite01 {P : Prop} [Decidable P] : (if P then (1 : Int32) else 0) = 0 ∨ (if P then (1 : Int32) else 0) = 1 := by by_cases h : P <;> simp [h]
theorem z_inc1 (a : Nat) : nI a + Int32.ofInt 1 = nI (a + 1) := nI_1 a
end ZB
