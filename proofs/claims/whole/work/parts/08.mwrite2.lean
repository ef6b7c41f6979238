def mNextQ (w : Nat → Int32) (n : Nat) (what : Int32) : Int32 := if 0 ≤ what ∧ what ≤ 2 then (if n = 0 then -6 else if what = 0 then zF w (((mLook w n).2).getD 0) 0 else if what = 1 then (mLook w n).1 else mMinute w (((mLook w n).2).getD 0)) else -2
def mGone (w : Nat → Int32) (n : Nat) (x : Int32) : Nat := (zFirst (fun j => decide (mFind (mRun w n j) (n - j) x = none)) (n + 1)).getD 0
def mServedIn (w : Nat → Int32) (n : Nat) (x : Int32) : Int32 := if mFind w n x = none then -1 else mRun w n (mGone w n x) 6 - w 6
def mAll (w : Nat → Int32) (n : Nat) (what : Int32) : Int32 := if 0 ≤ what ∧ what ≤ 2 then (if n = 0 then -6 else if what = 0 then mRun (upd w 11 0) n n 6 - w 6 else if what = 1 then mRun (upd w 11 0) n n 12 - w 12 else mRun (upd w 11 0) n n 11) else -2
theorem mOK_11 {w : Nat → Int32} {n : Nat} (h : mOK w n) (x : Int32) : mOK (upd w 11 x) n := by
  obtain ⟨h1, h2, h3, h4⟩ := h
  have e : ∀ k f, zF (upd w 11 x) k f = zF w k f := fun k f => by unfold zF upd; exact if_neg (by omega)
  exact ⟨h1, h2, fun k hk => by rw [e]; exact h3 k hk, fun k hk => by rw [e]; exact h4 k hk⟩
set_option maxHeartbeats 4000000 in
set_option maxRecDepth 100000 in
theorem c_X8_next (l : Launch) (V : zV) (g : Nat → Nat) (w pa be av sl sv pd cd : Nat → Int32) (st le ap pl wy : Int32) (n : Nat) (what : Int32) (hJ : zInj 9 g) (hok : mOK w n) : Met l yX8_next wsX8_next (zR 4 0 0) (zPc V [.ref (g 0), .int what] (fun H => va_P V.1 vwCl (zmW V g w pa be av sl sv pd cd st le ap pl wy) H)) (zQi (fun r H => r = (mNextQ w n what) ∧ (∃ pl' : Int32, ∃ wy' : Int32, va_P V.1 vwCl (zmW V g w pa be av sl sv pd cd st le ap pl' wy') H)) (zIn 9 g)) 0 0 (zIn 9 g) := by
  refine Met.ofW (cc := cX8_next) (maxL := 2) (ret := (some .int)) (by decide) rfl ?_
  intro p e s m args below meth c s₁ B hml hv
  obtain ⟨rfl, hP, hE⟩ := hv
  have hx := B.exec
  have hb := B.bytes
  have hr := B.returns
  have hts := atoms_spec (ws := wsX8_next) B.pre
  have hown : s.vm.findClass RX8 = some m.cls := findClass_of_methodNamed B.named
  have hlocks := B.notSynchronized
  have hl := lv_entry ([.ref (g 0), .int what]) (n := 2) (Nat.le_of_ble_eq_true rfl)
  rw [lg_entry_eq]
  generalize (lg_sl ([.ref (g 0), .int what]) ++ List.replicate (2 - (lg_sl ([.ref (g 0), .int what])).length) Slot.unset).toArray = ls at hl ⊢
  have hl : lv_has ls 2 [(0, .ref (g 0)), (1, .int what)] := hl
  have hS : va_S (zIn 9 g) s.heap s.heap [] := va_S.rf
  have hok0 : mOK w n := hok
  obtain ⟨hn, h30, hwr, hfd⟩ := hok
  refine lv_iload_n hx hb dX8_next_0 rfl (lv_at hl 1 rfl) ?_
  refine lv_i2l (v := what.toInt64) hx hb dX8_next_1 rfl ?_
  refine lv_iconst (v := 0) hx hb dX8_next_2 (by decide +kernel) ?_
  refine lv_iconst (v := 2) hx hb dX8_next_3 (by decide +kernel) ?_
  refine zc_se (va_runS (As := [.long what.toInt64, .int 0, .int 2]) (rest := []) ⟨hx, hb, hml, hown, hts⟩ (c_X8_in l V what 0 2) (va_cwS 3 hts (zgS_ wsM_all uM_14 uM_29 uM_30 uM_21) rfl rfl rfl (by decide +kernel) ⟨Nat.le_of_ble_eq_true rfl, Nat.le_of_ble_eq_true rfl⟩) (zPreS (B := fun _ => True) trivial hE) rfl rfl hl.1 rfl (lv_room (Nat.le_of_ble_eq_true rfl)) dX8_next_4 ⟨Nat.le_of_ble_eq_true rfl, Nat.le_of_ble_eq_true rfl⟩) ?_
  refine zbp_ne (P := 0 ≤ what ∧ what ≤ 2) (tgt := 13) hx hb dX8_next_7 (by decide) (fun c_7 => ?_) (fun c_7 => ?_)
  · refine lv_aload_n hx hb dX8_next_13 rfl (lv_at hl 0 rfl) ?_
    refine zm_get 0 (.ref (g 1)) hx hb hts (fun x h => List.mem_cons_of_mem _ (hU_X8 x h)) hown hE hP (by decide) rfl (hts _ (List.mem_cons_of_mem _ uM_5)) (fun _ h9 => h9) dX8_next_14 ?_
    refine lv_bipush (v := 7) hx hb dX8_next_17 (by decide +kernel) ?_
    refine z_iald (k := 7) hx hb hE hP 1 (zm_c1 V g w pa be av sl sv pd cd st le ap pl wy) (by omega) (by decide) dX8_next_19 ?_
    refine zt_i hn ?_
    refine zb0_ne (x := n) (tgt := 26) hx hb dX8_next_20 (by decide) (by omega) (fun c_20 => ?_) (fun c_20 => ?_)
    · have hpos : 0 < n := by omega
      obtain ⟨k, hkn, hlk⟩ := mLook_some hpos hok0
      refine lv_aload_n hx hb dX8_next_26 rfl (lv_at hl 0 rfl) ?_
      refine zc_v (va_runV (As := []) (rest := []) ⟨hx, hb, hml, hown, hts⟩ (c_X8_look l V g w pa be av sl sv pd cd st le ap pl wy  n hJ hok0 hpos) (cwV 0 hts (zgV_ wsM_all uM_47 uM_68 uM_69 uM_70 uM_21) rfl rfl rfl (by decide +kernel) ⟨Nat.le_of_ble_eq_true rfl, Nat.le_of_ble_eq_true rfl⟩) (zPreV (B := fun H => va_P V.1 vwCl (zmW V g w pa be av sl sv pd cd st le ap pl wy) H) hP hE (va_recv hE.1 hP (ci := 8) (q0 := 0) (q := (RX8, TX8, 13)) rfl (zm_c0 V g w pa be av sl sv pd cd st le ap pl wy))) rfl rfl hl.1 rfl (lv_room (Nat.le_of_ble_eq_true rfl)) dX8_next_27 ⟨Nat.le_of_ble_eq_true rfl, Nat.le_of_ble_eq_true rfl⟩) hS (fun _ h => h) (fun _ h => h) (fun H locs hQ_ _ _ hS => ?_)
      have hP := hQ_
      have hP : va_P V.1 vwCl (zmW V g w pa be av sl sv pd cd st le ap (nI k) ((mLook w n).1)) H := by rw [hlk] at hP; exact hP
      refine lv_iload_n hx hb dX8_next_30 rfl (lv_at hl 1 rfl) ?_
      refine lv_if_ne (tgt := 46) hx hb dX8_next_31 (by decide) (fun c_31 => ?_) (fun c_31 => ?_)
      · refine lv_iload_n hx hb dX8_next_46 rfl (lv_at hl 1 rfl) ?_
        refine lv_iconst (v := 1) hx hb dX8_next_47 (by decide +kernel) ?_
        refine lv_icmp_ne (tgt := 58) hx hb dX8_next_48 (by decide) (fun c_48 => ?_) (fun c_48 => ?_)
        · refine lv_aload_n hx hb dX8_next_58 rfl (lv_at hl 0 rfl) ?_
          refine zc_se (va_runV (As := []) (rest := []) ⟨hx, hb, hml, hown, hts⟩ (c_X8_minute l V g w pa be av sl sv pd cd st le ap (nI k) ((mLook w n).1) k (by omega) rfl) (cwV 0 hts (zgV_ wsM_all uM_62 uM_71 uM_72 uM_73 uM_21) rfl rfl rfl (by decide +kernel) ⟨Nat.le_of_ble_eq_true rfl, Nat.le_of_ble_eq_true rfl⟩) (zPreV (B := fun H => va_P V.1 vwCl (zmW V g w pa be av sl sv pd cd st le ap (nI k) ((mLook w n).1)) H) hP hE (va_recv hE.1 hP (ci := 8) (q0 := 0) (q := (RX8, TX8, 13)) rfl (zm_c0 V g w pa be av sl sv pd cd st le ap (nI k) ((mLook w n).1)))) rfl rfl hl.1 rfl (lv_room (Nat.le_of_ble_eq_true rfl)) dX8_next_59 ⟨Nat.le_of_ble_eq_true rfl, Nat.le_of_ble_eq_true rfl⟩) ?_
          exact zr_i hx hb hr hlocks hS (⟨by rw [mNextQ, if_pos c_7, if_neg c_20]; first | (rw [hlk, if_pos c_31]; rfl) | (rw [if_neg c_31, if_pos c_48]) | (rw [hlk, if_neg c_31, if_neg c_48]; rfl), _, _, hP⟩) dX8_next_62
        · refine lv_aload_n hx hb dX8_next_51 rfl (lv_at hl 0 rfl) ?_
          refine zm_get 12 (.int ((mLook w n).1)) hx hb hts (fun x h => List.mem_cons_of_mem _ (hU_X8 x h)) hown hE hP (by decide) rfl (hts _ (List.mem_cons_of_mem _ uM_49)) (fun _ h9 => h9) dX8_next_52 ?_
          refine lv_goto (tgt := 62) hx hb dX8_next_55 (by decide) ?_
          exact zr_i hx hb hr hlocks hS (⟨by rw [mNextQ, if_pos c_7, if_neg c_20]; first | (rw [hlk, if_pos c_31]; rfl) | (rw [if_neg c_31, if_pos c_48]) | (rw [hlk, if_neg c_31, if_neg c_48]; rfl), _, _, hP⟩) dX8_next_62
      · refine lv_aload_n hx hb dX8_next_34 rfl (lv_at hl 0 rfl) ?_
        refine lv_aload_n hx hb dX8_next_35 rfl (lv_at hl 0 rfl) ?_
        refine zm_get 11 (.int (nI k)) hx hb hts (fun x h => List.mem_cons_of_mem _ (hU_X8 x h)) hown hE hP (by decide) rfl (hts _ (List.mem_cons_of_mem _ uM_48)) (fun _ h9 => h9) dX8_next_36 ?_
        refine lv_iconst (v := 0) hx hb dX8_next_39 (by decide +kernel) ?_
        refine zc_se (va_runV (As := [.int (nI k), .int 0]) (rest := []) ⟨hx, hb, hml, hown, hts⟩ (c_X8_its l V g w pa be av sl sv pd cd st le ap (nI k) ((mLook w n).1) k 0 (by omega)) (cwV 2 hts (zgV_ wsM_all uM_16 uM_18 uM_19 uM_20 uM_21) rfl rfl rfl (by decide +kernel) ⟨Nat.le_of_ble_eq_true rfl, Nat.le_of_ble_eq_true rfl⟩) (zPreV (B := fun H => va_P V.1 vwCl (zmW V g w pa be av sl sv pd cd st le ap (nI k) ((mLook w n).1)) H) hP hE (va_recv hE.1 hP (ci := 8) (q0 := 0) (q := (RX8, TX8, 13)) rfl (zm_c0 V g w pa be av sl sv pd cd st le ap (nI k) ((mLook w n).1)))) rfl rfl hl.1 rfl (lv_room (Nat.le_of_ble_eq_true rfl)) dX8_next_40 ⟨Nat.le_of_ble_eq_true rfl, Nat.le_of_ble_eq_true rfl⟩) ?_
        refine lv_goto (tgt := 62) hx hb dX8_next_43 (by decide) ?_
        exact zr_i hx hb hr hlocks hS (⟨by rw [mNextQ, if_pos c_7, if_neg c_20]; first | (rw [hlk, if_pos c_31]; rfl) | (rw [if_neg c_31, if_pos c_48]) | (rw [hlk, if_neg c_31, if_neg c_48]; rfl), _, _, hP⟩) dX8_next_62
    · refine lv_bipush (v := (-6)) hx hb dX8_next_23 (by decide +kernel) ?_
      exact zr_i hx hb hr hlocks hS (⟨by rw [mNextQ, if_pos c_7, if_pos c_20], _, _, hP⟩) dX8_next_25
  · refine lv_bipush (v := (-2)) hx hb dX8_next_10 (by decide +kernel) ?_
    exact zr_i hx hb hr hlocks hS (⟨by rw [mNextQ, if_neg c_7], _, _, hP⟩) dX8_next_12
set_option maxHeartbeats 4000000 in
set_option maxRecDepth 100000 in
theorem c_X8_servedIn (l : Launch) (V : zV) (g : Nat → Nat) (w pa be av sl sv pd cd : Nat → Int32) (st le ap pl wy : Int32) (n : Nat) (x : Int32) (hJ : zInj 9 g) (hok : mOK w n) : Met l yX8_servedIn wsX8_servedIn (zR 5 0 0) (zPc V [.ref (g 0), .int x] (fun H => va_P V.1 vwCl (zmW V g w pa be av sl sv pd cd st le ap pl wy) H)) (zQi (fun r H => r = (mServedIn w n x) ∧ (∃ av' : Nat → Int32, ∃ pl' : Int32, ∃ wy' : Int32, va_P V.1 vwCl (zmW V g w pa be av' sl sv pd cd st le ap pl' wy') H)) (zIn 9 g)) 0 0 (zIn 9 g) := by
  refine Met.ofW (cc := cX8_servedIn) (maxL := 4) (ret := (some .int)) (by decide) rfl ?_
  intro p e s m args below meth c s₁ B hml hv
  obtain ⟨rfl, hP, hE⟩ := hv
  have hx := B.exec
  have hb := B.bytes
  have hr := B.returns
  have hts := atoms_spec (ws := wsX8_servedIn) B.pre
  have hown : s.vm.findClass RX8 = some m.cls := findClass_of_methodNamed B.named
  have hlocks := B.notSynchronized
  have hl := lv_entry ([.ref (g 0), .int x]) (n := 4) (Nat.le_of_ble_eq_true rfl)
  rw [lg_entry_eq]
  generalize (lg_sl ([.ref (g 0), .int x]) ++ List.replicate (4 - (lg_sl ([.ref (g 0), .int x])).length) Slot.unset).toArray = ls at hl ⊢
  have hl : lv_has ls 4 [(0, .ref (g 0)), (1, .int x)] := hl
  have hS : va_S (zIn 9 g) s.heap s.heap [] := va_S.rf
  have hok0 : mOK w n := hok
  obtain ⟨hn, h30, hwr, hfd⟩ := hok
  refine lv_aload_n hx hb dX8_servedIn_0 rfl (lv_at hl 0 rfl) ?_
  refine lv_iload_n hx hb dX8_servedIn_1 rfl (lv_at hl 1 rfl) ?_
  refine zc_se (va_runV (As := [.int x]) (rest := []) ⟨hx, hb, hml, hown, hts⟩ (c_X8_find l V g w pa be av sl sv pd cd st le ap pl wy n x hn h30) (cwV 1 hts (zgV_ wsM_all uM_22 uM_115 uM_116 uM_117 uM_21) rfl rfl rfl (by decide +kernel) ⟨Nat.le_of_ble_eq_true rfl, Nat.le_of_ble_eq_true rfl⟩) (zPreV (B := fun H => va_P V.1 vwCl (zmW V g w pa be av sl sv pd cd st le ap pl wy) H) hP hE (va_recv hE.1 hP (ci := 8) (q0 := 0) (q := (RX8, TX8, 13)) rfl (zm_c0 V g w pa be av sl sv pd cd st le ap pl wy))) rfl rfl hl.1 rfl (lv_room (Nat.le_of_ble_eq_true rfl)) dX8_servedIn_2 ⟨Nat.le_of_ble_eq_true rfl, Nat.le_of_ble_eq_true rfl⟩) ?_
  rcases hq0 : mFind w n x with _ | j0
  · refine zt_i (y := (-6)) (by first | rfl | exact congrArg zoI hq0) ?_
    refine lv_bipush (v := (-6)) hx hb dX8_servedIn_5 (by decide +kernel) ?_
    refine lv_icmp_ne (tgt := 12) hx hb dX8_servedIn_7 (by decide) (fun c_7 => ?_) (fun c_7 => ?_)
    · exact absurd rfl c_7
    · refine lv_iconst (v := (-1)) hx hb dX8_servedIn_10 (by decide +kernel) ?_
      exact zr_i hx hb hr hlocks hS (⟨by rw [mServedIn, if_pos hq0], _, _, _, hP⟩) dX8_servedIn_11
  · refine zt_i (y := nI j0) (by first | rfl | exact congrArg zoI hq0) ?_
    have hj0 : j0 < n := (zFirst_lt hq0).1
    refine lv_bipush (v := (-6)) hx hb dX8_servedIn_5 (by decide +kernel) ?_
    refine lv_icmp_ne (tgt := 12) hx hb dX8_servedIn_7 (by decide) (fun c_7 => ?_) (fun c_7 => ?_)
    · refine lv_aload_n hx hb dX8_servedIn_12 rfl (lv_at hl 0 rfl) ?_
      refine zc_v (va_runV (As := []) (rest := []) ⟨hx, hb, hml, hown, hts⟩ (c_X8_layAside l V g w pa be av sl sv pd cd st le ap pl wy  hJ) (cwV 0 hts (zgV_ wsM_all uM_38 uM_93 uM_94 uM_95 uM_21) rfl rfl rfl (by decide +kernel) ⟨Nat.le_of_ble_eq_true rfl, Nat.le_of_ble_eq_true rfl⟩) (zPreV (B := fun H => va_P V.1 vwCl (zmW V g w pa be av sl sv pd cd st le ap pl wy) H) hP hE (va_recv hE.1 hP (ci := 8) (q0 := 0) (q := (RX8, TX8, 13)) rfl (zm_c0 V g w pa be av sl sv pd cd st le ap pl wy))) rfl rfl hl.1 rfl (lv_room (Nat.le_of_ble_eq_true rfl)) dX8_servedIn_13 ⟨Nat.le_of_ble_eq_true rfl, Nat.le_of_ble_eq_true rfl⟩) hS (fun _ h => h) (fun _ h => h) (fun H locs hQ_ _ _ hS => ?_)
      have hP := hQ_
      refine lv_aload_n hx hb dX8_servedIn_16 rfl (lv_at hl 0 rfl) ?_
      refine zm_get 0 (.ref (g 1)) hx hb hts (fun x h => List.mem_cons_of_mem _ (hU_X8 x h)) hown hE hP (by decide) rfl (hts _ (List.mem_cons_of_mem _ uM_5)) (fun _ h9 => h9) dX8_servedIn_17 ?_
      refine lv_bipush (v := 6) hx hb dX8_servedIn_20 (by decide +kernel) ?_
      refine z_iald (k := 6) hx hb hE hP 1 (zm_c1 V g w pa be w sl sv pd cd st le ap pl wy) (by omega) (by decide) dX8_servedIn_22 ?_
      refine lv_istore_n (lv' := [(2, .int (w 6)), (0, .ref (g 0)), (1, .int x)]) hx hb dX8_servedIn_23 rfl hl (by decide) rfl (fun ls hl => ?_)
      have L_24 : ∀ (n_ i : Nat) (pl_ : Int32) (wy_ : Int32) (H : Heap) (locs : List Loc) (ls : Array Slot), i ≤ n → n + 1 ≤ i + n_ → (zFirst (fun j => decide (mFind (mRun w n j) (n - j) x = none)) i = none) → va_P V.1 vwCl (zmW V g (mRun w n i) pa be w sl sv pd cd st le ap pl_ wy_) H → va_S (zIn 9 g) s.heap H locs → lv_has ls 4 [(0, .ref (g 0)), (1, .int x), (2, .int (w 6))] → W p l e (headSpec wsX8_servedIn (zR 5 0 0)).room s m (List.toArray [.ref (g 0), .int x]) below meth c H locs 0 0 (MQ below (zQi (fun r H => r = (mServedIn w n x) ∧ (∃ av' : Nat → Int32, ∃ pl' : Int32, ∃ wy' : Int32, va_P V.1 vwCl (zmW V g w pa be av' sl sv pd cd st le ap pl' wy') H)) (zIn 9 g)) (List.toArray [.ref (g 0), .int x]) s 0 0 (zIn 9 g)) (F0 m 24 ls []) := by
        intro n_
        induction n_ with
        | zero => intro i pl_ wy_ H locs ls hi_ hn_; exact absurd hn_ (by omega)
        | succ n_ ih =>
          intro i pl_ wy_ H locs ls hi_ hn_ hno hP hS hl
          refine lv_aload_n hx hb dX8_servedIn_24 rfl (lv_at hl 0 rfl) ?_
          refine lv_iload_n hx hb dX8_servedIn_25 rfl (lv_at hl 1 rfl) ?_
          refine zc_se (va_runV (As := [.int x]) (rest := []) ⟨hx, hb, hml, hown, hts⟩ (c_X8_find l V g (mRun w n i) pa be w sl sv pd cd st le ap pl_ wy_ (n - i) x ((mRun_ok hok0 (show i ≤ n by omega)).1) (by omega)) (cwV 1 hts (zgV_ wsM_all uM_22 uM_115 uM_116 uM_117 uM_21) rfl rfl rfl (by decide +kernel) ⟨Nat.le_of_ble_eq_true rfl, Nat.le_of_ble_eq_true rfl⟩) (zPreV (B := fun H => va_P V.1 vwCl (zmW V g (mRun w n i) pa be w sl sv pd cd st le ap pl_ wy_) H) hP hE (va_recv hE.1 hP (ci := 8) (q0 := 0) (q := (RX8, TX8, 13)) rfl (zm_c0 V g (mRun w n i) pa be w sl sv pd cd st le ap pl_ wy_))) rfl rfl hl.1 rfl (lv_room (Nat.le_of_ble_eq_true rfl)) dX8_servedIn_26 ⟨Nat.le_of_ble_eq_true rfl, Nat.le_of_ble_eq_true rfl⟩) ?_
          rcases hq : mFind (mRun w n i) (n - i) x with _ | j
          · refine zt_i (y := (-6)) (by first | rfl | exact congrArg zoI hq) ?_
            refine lv_bipush (v := (-6)) hx hb dX8_servedIn_29 (by decide +kernel) ?_
            refine lv_icmp_eq (tgt := 41) hx hb dX8_servedIn_31 (by decide) (fun c_31 => ?_) (fun c_31 => ?_)
            · refine lv_aload_n hx hb dX8_servedIn_41 rfl (lv_at hl 0 rfl) ?_
              refine zm_get 0 (.ref (g 1)) hx hb hts (fun x h => List.mem_cons_of_mem _ (hU_X8 x h)) hown hE hP (by decide) rfl (hts _ (List.mem_cons_of_mem _ uM_5)) (fun _ h9 => h9) dX8_servedIn_42 ?_
              refine lv_bipush (v := 6) hx hb dX8_servedIn_45 (by decide +kernel) ?_
              refine z_iald (k := 6) hx hb hE hP 1 (zm_c1 V g (mRun w n i) pa be w sl sv pd cd st le ap pl_ wy_) (by omega) (by decide) dX8_servedIn_47 ?_
              refine lv_iload_n hx hb dX8_servedIn_48 rfl (lv_at hl 2 rfl) ?_
              refine lv_isub hx hb dX8_servedIn_49 ?_
              refine lv_istore_n (lv' := [(3, .int (((mRun w n i) 6) - (w 6))), (0, .ref (g 0)), (1, .int x), (2, .int (w 6))]) hx hb dX8_servedIn_50 rfl hl (by decide) rfl (fun ls hl => ?_)
              refine lv_aload_n hx hb dX8_servedIn_51 rfl (lv_at hl 1 rfl) ?_
              refine zc_v (va_runV (As := []) (rest := []) ⟨hx, hb, hml, hown, hts⟩ (c_X8_putBack l V g (mRun w n i) pa be w sl sv pd cd st le ap pl_ wy_  hJ) (cwV 0 hts (zgV_ wsM_all uM_39 uM_99 uM_100 uM_101 uM_21) rfl rfl rfl (by decide +kernel) ⟨Nat.le_of_ble_eq_true rfl, Nat.le_of_ble_eq_true rfl⟩) (zPreV (B := fun H => va_P V.1 vwCl (zmW V g (mRun w n i) pa be w sl sv pd cd st le ap pl_ wy_) H) hP hE (va_recv hE.1 hP (ci := 8) (q0 := 0) (q := (RX8, TX8, 13)) rfl (zm_c0 V g (mRun w n i) pa be w sl sv pd cd st le ap pl_ wy_))) rfl rfl hl.1 rfl (lv_room (Nat.le_of_ble_eq_true rfl)) dX8_servedIn_52 ⟨Nat.le_of_ble_eq_true rfl, Nat.le_of_ble_eq_true rfl⟩) hS (fun _ h => h) (fun _ h => h) (fun H locs hQ_ _ _ hS => ?_)
              have hP := hQ_
              refine lv_iload_n hx hb dX8_servedIn_55 rfl (lv_at hl 0 rfl) ?_
              exact zr_i hx hb hr hlocks hS (⟨by rw [mServedIn, if_neg (fun h => absurd (hq0.symm.trans h) (by simp)), show mGone w n x = i by rw [mGone, zFirst_hit hno (decide_eq_true hq) (by omega)]; rfl], _, _, _, hP⟩) dX8_servedIn_56
            · exact absurd rfl c_31
          · refine zt_i (y := nI j) (by first | rfl | exact congrArg zoI hq) ?_
            have hjn : j < n - i := (zFirst_lt hq).1
            refine lv_bipush (v := (-6)) hx hb dX8_servedIn_29 (by decide +kernel) ?_
            refine lv_icmp_eq (tgt := 41) hx hb dX8_servedIn_31 (by decide) (fun c_31 => ?_) (fun c_31 => ?_)
            · exact absurd c_31 (z_n6 (by omega))
            · refine lv_aload_n hx hb dX8_servedIn_34 rfl (lv_at hl 0 rfl) ?_
              refine zc_v (va_runV (As := []) (rest := []) ⟨hx, hb, hml, hown, hts⟩ (c_X8_serveOne l V g (mRun w n i) pa be w sl sv pd cd st le ap pl_ wy_  (n - i) hJ (mRun_ok hok0 (show i ≤ n by omega)) (by omega)) (cwV 0 hts (zgV_ wsM_all uM_67 uM_96 uM_97 uM_98 uM_21) rfl rfl rfl (by decide +kernel) ⟨Nat.le_of_ble_eq_true rfl, Nat.le_of_ble_eq_true rfl⟩) (zPreV (B := fun H => va_P V.1 vwCl (zmW V g (mRun w n i) pa be w sl sv pd cd st le ap pl_ wy_) H) hP hE (va_recv hE.1 hP (ci := 8) (q0 := 0) (q := (RX8, TX8, 13)) rfl (zm_c0 V g (mRun w n i) pa be w sl sv pd cd st le ap pl_ wy_))) rfl rfl hl.1 rfl (lv_room (Nat.le_of_ble_eq_true rfl)) dX8_servedIn_35 ⟨Nat.le_of_ble_eq_true rfl, Nat.le_of_ble_eq_true rfl⟩) hS (fun _ h => h) (fun _ h => h) (fun H locs hQ_ _ _ hS => ?_)
              obtain ⟨pl'_1, wy'_2, hP⟩ := hQ_
              refine lv_goto (tgt := 24) hx hb dX8_servedIn_38 (by decide) ?_
              exact ih (i + 1) pl'_1 wy'_2 H locs ls (by omega) (by omega) (zFirst_no hno (decide_eq_false (fun h => absurd (hq.symm.trans h) (by simp)))) hP hS (lv_sub hl [0, 1, 2] rfl)
      exact L_24 (n + 1) 0 pl wy H locs ls (by omega) (by omega) rfl hP hS (lv_sub hl [1, 2, 0] rfl)
    · exact absurd c_7 (z_n6 (by omega))
set_option maxHeartbeats 4000000 in
set_option maxRecDepth 100000 in
theorem c_X8_all (l : Launch) (V : zV) (g : Nat → Nat) (w pa be av sl sv pd cd : Nat → Int32) (st le ap pl wy : Int32) (n : Nat) (what : Int32) (hJ : zInj 9 g) (hok : mOK w n) : Met l yX8_all wsX8_all (zR 5 0 0) (zPc V [.ref (g 0), .int what] (fun H => va_P V.1 vwCl (zmW V g w pa be av sl sv pd cd st le ap pl wy) H)) (zQi (fun r H => r = (mAll w n what) ∧ (∃ av' : Nat → Int32, ∃ pl' : Int32, ∃ wy' : Int32, va_P V.1 vwCl (zmW V g w pa be av' sl sv pd cd st le ap pl' wy') H)) (zIn 9 g)) 0 0 (zIn 9 g) := by
  refine Met.ofW (cc := cX8_all) (maxL := 5) (ret := (some .int)) (by decide) rfl ?_
  intro p e s m args below meth c s₁ B hml hv
  obtain ⟨rfl, hP, hE⟩ := hv
  have hx := B.exec
  have hb := B.bytes
  have hr := B.returns
  have hts := atoms_spec (ws := wsX8_all) B.pre
  have hown : s.vm.findClass RX8 = some m.cls := findClass_of_methodNamed B.named
  have hlocks := B.notSynchronized
  have hl := lv_entry ([.ref (g 0), .int what]) (n := 5) (Nat.le_of_ble_eq_true rfl)
  rw [lg_entry_eq]
  generalize (lg_sl ([.ref (g 0), .int what]) ++ List.replicate (5 - (lg_sl ([.ref (g 0), .int what])).length) Slot.unset).toArray = ls at hl ⊢
  have hl : lv_has ls 5 [(0, .ref (g 0)), (1, .int what)] := hl
  have hS : va_S (zIn 9 g) s.heap s.heap [] := va_S.rf
  have hok0 : mOK w n := hok
  obtain ⟨hn, h30, hwr, hfd⟩ := hok
  refine lv_iload_n hx hb dX8_all_0 rfl (lv_at hl 1 rfl) ?_
  refine lv_i2l (v := what.toInt64) hx hb dX8_all_1 rfl ?_
  refine lv_iconst (v := 0) hx hb dX8_all_2 (by decide +kernel) ?_
  refine lv_iconst (v := 2) hx hb dX8_all_3 (by decide +kernel) ?_
  refine zc_se (va_runS (As := [.long what.toInt64, .int 0, .int 2]) (rest := []) ⟨hx, hb, hml, hown, hts⟩ (c_X8_in l V what 0 2) (va_cwS 3 hts (zgS_ wsM_all uM_14 uM_29 uM_30 uM_21) rfl rfl rfl (by decide +kernel) ⟨Nat.le_of_ble_eq_true rfl, Nat.le_of_ble_eq_true rfl⟩) (zPreS (B := fun _ => True) trivial hE) rfl rfl hl.1 rfl (lv_room (Nat.le_of_ble_eq_true rfl)) dX8_all_4 ⟨Nat.le_of_ble_eq_true rfl, Nat.le_of_ble_eq_true rfl⟩) ?_
  refine zbp_ne (P := 0 ≤ what ∧ what ≤ 2) (tgt := 13) hx hb dX8_all_7 (by decide) (fun c_7 => ?_) (fun c_7 => ?_)
  · refine lv_aload_n hx hb dX8_all_13 rfl (lv_at hl 0 rfl) ?_
    refine zm_get 0 (.ref (g 1)) hx hb hts (fun x h => List.mem_cons_of_mem _ (hU_X8 x h)) hown hE hP (by decide) rfl (hts _ (List.mem_cons_of_mem _ uM_5)) (fun _ h9 => h9) dX8_all_14 ?_
    refine lv_bipush (v := 7) hx hb dX8_all_17 (by decide +kernel) ?_
    refine z_iald (k := 7) hx hb hE hP 1 (zm_c1 V g w pa be av sl sv pd cd st le ap pl wy) (by omega) (by decide) dX8_all_19 ?_
    refine zt_i hn ?_
    refine zb0_ne (x := n) (tgt := 26) hx hb dX8_all_20 (by decide) (by omega) (fun c_20 => ?_) (fun c_20 => ?_)
    · refine lv_aload_n hx hb dX8_all_26 rfl (lv_at hl 0 rfl) ?_
      refine zc_v (va_runV (As := []) (rest := []) ⟨hx, hb, hml, hown, hts⟩ (c_X8_layAside l V g w pa be av sl sv pd cd st le ap pl wy  hJ) (cwV 0 hts (zgV_ wsM_all uM_38 uM_93 uM_94 uM_95 uM_21) rfl rfl rfl (by decide +kernel) ⟨Nat.le_of_ble_eq_true rfl, Nat.le_of_ble_eq_true rfl⟩) (zPreV (B := fun H => va_P V.1 vwCl (zmW V g w pa be av sl sv pd cd st le ap pl wy) H) hP hE (va_recv hE.1 hP (ci := 8) (q0 := 0) (q := (RX8, TX8, 13)) rfl (zm_c0 V g w pa be av sl sv pd cd st le ap pl wy))) rfl rfl hl.1 rfl (lv_room (Nat.le_of_ble_eq_true rfl)) dX8_all_27 ⟨Nat.le_of_ble_eq_true rfl, Nat.le_of_ble_eq_true rfl⟩) hS (fun _ h => h) (fun _ h => h) (fun H locs hQ_ _ _ hS => ?_)
      have hP := hQ_
      refine lv_aload_n hx hb dX8_all_30 rfl (lv_at hl 0 rfl) ?_
      refine zm_get 0 (.ref (g 1)) hx hb hts (fun x h => List.mem_cons_of_mem _ (hU_X8 x h)) hown hE hP (by decide) rfl (hts _ (List.mem_cons_of_mem _ uM_5)) (fun _ h9 => h9) dX8_all_31 ?_
      refine lv_bipush (v := 6) hx hb dX8_all_34 (by decide +kernel) ?_
      refine z_iald (k := 6) hx hb hE hP 1 (zm_c1 V g w pa be w sl sv pd cd st le ap pl wy) (by omega) (by decide) dX8_all_36 ?_
      refine lv_istore_n (lv' := [(2, .int (w 6)), (0, .ref (g 0)), (1, .int what)]) hx hb dX8_all_37 rfl hl (by decide) rfl (fun ls hl => ?_)
      refine lv_aload_n hx hb dX8_all_38 rfl (lv_at hl 1 rfl) ?_
      refine zm_get 0 (.ref (g 1)) hx hb hts (fun x h => List.mem_cons_of_mem _ (hU_X8 x h)) hown hE hP (by decide) rfl (hts _ (List.mem_cons_of_mem _ uM_5)) (fun _ h9 => h9) dX8_all_39 ?_
      refine lv_bipush (v := 12) hx hb dX8_all_42 (by decide +kernel) ?_
      refine z_iald (k := 12) hx hb hE hP 1 (zm_c1 V g w pa be w sl sv pd cd st le ap pl wy) (by omega) (by decide) dX8_all_44 ?_
      refine lv_istore_n (lv' := [(3, .int (w 12)), (2, .int (w 6)), (0, .ref (g 0)), (1, .int what)]) hx hb dX8_all_45 rfl hl (by decide) rfl (fun ls hl => ?_)
      refine lv_aload_n hx hb dX8_all_46 rfl (lv_at hl 2 rfl) ?_
      refine zm_get 0 (.ref (g 1)) hx hb hts (fun x h => List.mem_cons_of_mem _ (hU_X8 x h)) hown hE hP (by decide) rfl (hts _ (List.mem_cons_of_mem _ uM_5)) (fun _ h9 => h9) dX8_all_47 ?_
      refine lv_bipush (v := 11) hx hb dX8_all_50 (by decide +kernel) ?_
      refine lv_iconst (v := 0) hx hb dX8_all_52 (by decide +kernel) ?_
      refine zm_a1 11 0 hx hb hE hP hJ hS (by omega) dX8_all_53 (fun H locs hP hS => ?_)
      obtain ⟨w_1, ew_1⟩ : ∃ z, z = upd w 11 0 := ⟨_, rfl⟩
      rw [← ew_1] at hP
      have hk_2 : w_1 7 = nI n := by rw [ew_1]; exact (if_neg (by omega)).trans hn
      have hok1 : mOK w_1 n := by rw [ew_1]; exact mOK_11 hok0 0
      have L_54 : ∀ (n_ i : Nat) (pl_ : Int32) (wy_ : Int32) (H : Heap) (locs : List Loc) (ls : Array Slot), i ≤ n → n + 1 ≤ i + n_ → va_P V.1 vwCl (zmW V g (mRun w_1 n i) pa be w sl sv pd cd st le ap pl_ wy_) H → va_S (zIn 9 g) s.heap H locs → lv_has ls 5 [(0, .ref (g 0)), (1, .int what), (2, .int (w 6)), (3, .int (w 12))] → W p l e (headSpec wsX8_all (zR 5 0 0)).room s m (List.toArray [.ref (g 0), .int what]) below meth c H locs 0 0 (MQ below (zQi (fun r H => r = (mAll w n what) ∧ (∃ av' : Nat → Int32, ∃ pl' : Int32, ∃ wy' : Int32, va_P V.1 vwCl (zmW V g w pa be av' sl sv pd cd st le ap pl' wy') H)) (zIn 9 g)) (List.toArray [.ref (g 0), .int what]) s 0 0 (zIn 9 g)) (F0 m 54 ls []) := by
        intro n_
        induction n_ with
        | zero => intro i pl_ wy_ H locs ls hi_ hn_; exact absurd hn_ (by omega)
        | succ n_ ih =>
          intro i pl_ wy_ H locs ls hi_ hn_  hP hS hl
          refine lv_aload_n hx hb dX8_all_54 rfl (lv_at hl 0 rfl) ?_
          refine zm_get 0 (.ref (g 1)) hx hb hts (fun x h => List.mem_cons_of_mem _ (hU_X8 x h)) hown hE hP (by decide) rfl (hts _ (List.mem_cons_of_mem _ uM_5)) (fun _ h9 => h9) dX8_all_55 ?_
          refine lv_bipush (v := 7) hx hb dX8_all_58 (by decide +kernel) ?_
          refine z_iald (k := 7) hx hb hE hP 1 (zm_c1 V g (mRun w_1 n i) pa be w sl sv pd cd st le ap pl_ wy_) (by omega) (by decide) dX8_all_60 ?_
          refine zt_i (mRun_ok hok1 (show i ≤ n by omega)).1 ?_
          refine zb0_le (x := n - i) (tgt := 71) hx hb dX8_all_61 (by decide) (by omega) (fun c_61 => ?_) (fun c_61 => ?_)
          · refine lv_iload_n hx hb dX8_all_71 rfl (lv_at hl 1 rfl) ?_
            refine lv_if_ne (tgt := 87) hx hb dX8_all_72 (by decide) (fun c_72 => ?_) (fun c_72 => ?_)
            · refine lv_iload_n hx hb dX8_all_87 rfl (lv_at hl 1 rfl) ?_
              refine lv_iconst (v := 1) hx hb dX8_all_88 (by decide +kernel) ?_
              refine lv_icmp_ne (tgt := 104) hx hb dX8_all_89 (by decide) (fun c_89 => ?_) (fun c_89 => ?_)
              · refine lv_aload_n hx hb dX8_all_104 rfl (lv_at hl 0 rfl) ?_
                refine zm_get 0 (.ref (g 1)) hx hb hts (fun x h => List.mem_cons_of_mem _ (hU_X8 x h)) hown hE hP (by decide) rfl (hts _ (List.mem_cons_of_mem _ uM_5)) (fun _ h9 => h9) dX8_all_105 ?_
                refine lv_bipush (v := 11) hx hb dX8_all_108 (by decide +kernel) ?_
                refine z_iald (k := 11) hx hb hE hP 1 (zm_c1 V g (mRun w_1 n i) pa be w sl sv pd cd st le ap pl_ wy_) (by omega) (by decide) dX8_all_110 ?_
                refine lv_istore (lv' := [(4, .int ((mRun w_1 n i) 11)), (0, .ref (g 0)), (1, .int what), (2, .int (w 6)), (3, .int (w 12))]) hx hb dX8_all_111 hl (by decide) rfl (fun ls hl => ?_)
                refine lv_aload_n hx hb dX8_all_113 rfl (lv_at hl 1 rfl) ?_
                refine zc_v (va_runV (As := []) (rest := []) ⟨hx, hb, hml, hown, hts⟩ (c_X8_putBack l V g (mRun w_1 n i) pa be w sl sv pd cd st le ap pl_ wy_  hJ) (cwV 0 hts (zgV_ wsM_all uM_39 uM_99 uM_100 uM_101 uM_21) rfl rfl rfl (by decide +kernel) ⟨Nat.le_of_ble_eq_true rfl, Nat.le_of_ble_eq_true rfl⟩) (zPreV (B := fun H => va_P V.1 vwCl (zmW V g (mRun w_1 n i) pa be w sl sv pd cd st le ap pl_ wy_) H) hP hE (va_recv hE.1 hP (ci := 8) (q0 := 0) (q := (RX8, TX8, 13)) rfl (zm_c0 V g (mRun w_1 n i) pa be w sl sv pd cd st le ap pl_ wy_))) rfl rfl hl.1 rfl (lv_room (Nat.le_of_ble_eq_true rfl)) dX8_all_114 ⟨Nat.le_of_ble_eq_true rfl, Nat.le_of_ble_eq_true rfl⟩) hS (fun _ h => h) (fun _ h => h) (fun H locs hQ_ _ _ hS => ?_)
                have hP := hQ_
                refine lv_iload hx hb dX8_all_117 (lv_at hl 0 rfl) ?_
                exact zr_i hx hb hr hlocks hS (⟨by rw [mAll, if_pos c_7, if_neg c_20, ← ew_1, show mRun w_1 n n = mRun w_1 n i by rw [show i = n by omega]]; first | (rw [if_pos c_72]) | (rw [if_neg c_72, if_pos c_89]) | (rw [if_neg c_72, if_neg c_89]), _, _, _, hP⟩) dX8_all_119
              · refine lv_aload_n hx hb dX8_all_92 rfl (lv_at hl 0 rfl) ?_
                refine zm_get 0 (.ref (g 1)) hx hb hts (fun x h => List.mem_cons_of_mem _ (hU_X8 x h)) hown hE hP (by decide) rfl (hts _ (List.mem_cons_of_mem _ uM_5)) (fun _ h9 => h9) dX8_all_93 ?_
                refine lv_bipush (v := 12) hx hb dX8_all_96 (by decide +kernel) ?_
                refine z_iald (k := 12) hx hb hE hP 1 (zm_c1 V g (mRun w_1 n i) pa be w sl sv pd cd st le ap pl_ wy_) (by omega) (by decide) dX8_all_98 ?_
                refine lv_iload_n hx hb dX8_all_99 rfl (lv_at hl 3 rfl) ?_
                refine lv_isub hx hb dX8_all_100 ?_
                refine lv_goto (tgt := 111) hx hb dX8_all_101 (by decide) ?_
                refine lv_istore (lv' := [(4, .int (((mRun w_1 n i) 12) - (w 12))), (0, .ref (g 0)), (1, .int what), (2, .int (w 6)), (3, .int (w 12))]) hx hb dX8_all_111 hl (by decide) rfl (fun ls hl => ?_)
                refine lv_aload_n hx hb dX8_all_113 rfl (lv_at hl 1 rfl) ?_
                refine zc_v (va_runV (As := []) (rest := []) ⟨hx, hb, hml, hown, hts⟩ (c_X8_putBack l V g (mRun w_1 n i) pa be w sl sv pd cd st le ap pl_ wy_  hJ) (cwV 0 hts (zgV_ wsM_all uM_39 uM_99 uM_100 uM_101 uM_21) rfl rfl rfl (by decide +kernel) ⟨Nat.le_of_ble_eq_true rfl, Nat.le_of_ble_eq_true rfl⟩) (zPreV (B := fun H => va_P V.1 vwCl (zmW V g (mRun w_1 n i) pa be w sl sv pd cd st le ap pl_ wy_) H) hP hE (va_recv hE.1 hP (ci := 8) (q0 := 0) (q := (RX8, TX8, 13)) rfl (zm_c0 V g (mRun w_1 n i) pa be w sl sv pd cd st le ap pl_ wy_))) rfl rfl hl.1 rfl (lv_room (Nat.le_of_ble_eq_true rfl)) dX8_all_114 ⟨Nat.le_of_ble_eq_true rfl, Nat.le_of_ble_eq_true rfl⟩) hS (fun _ h => h) (fun _ h => h) (fun H locs hQ_ _ _ hS => ?_)
                have hP := hQ_
                refine lv_iload hx hb dX8_all_117 (lv_at hl 0 rfl) ?_
                exact zr_i hx hb hr hlocks hS (⟨by rw [mAll, if_pos c_7, if_neg c_20, ← ew_1, show mRun w_1 n n = mRun w_1 n i by rw [show i = n by omega]]; first | (rw [if_pos c_72]) | (rw [if_neg c_72, if_pos c_89]) | (rw [if_neg c_72, if_neg c_89]), _, _, _, hP⟩) dX8_all_119
            · refine lv_aload_n hx hb dX8_all_75 rfl (lv_at hl 0 rfl) ?_
              refine zm_get 0 (.ref (g 1)) hx hb hts (fun x h => List.mem_cons_of_mem _ (hU_X8 x h)) hown hE hP (by decide) rfl (hts _ (List.mem_cons_of_mem _ uM_5)) (fun _ h9 => h9) dX8_all_76 ?_
              refine lv_bipush (v := 6) hx hb dX8_all_79 (by decide +kernel) ?_
              refine z_iald (k := 6) hx hb hE hP 1 (zm_c1 V g (mRun w_1 n i) pa be w sl sv pd cd st le ap pl_ wy_) (by omega) (by decide) dX8_all_81 ?_
              refine lv_iload_n hx hb dX8_all_82 rfl (lv_at hl 2 rfl) ?_
              refine lv_isub hx hb dX8_all_83 ?_
              refine lv_goto (tgt := 111) hx hb dX8_all_84 (by decide) ?_
              refine lv_istore (lv' := [(4, .int (((mRun w_1 n i) 6) - (w 6))), (0, .ref (g 0)), (1, .int what), (2, .int (w 6)), (3, .int (w 12))]) hx hb dX8_all_111 hl (by decide) rfl (fun ls hl => ?_)
              refine lv_aload_n hx hb dX8_all_113 rfl (lv_at hl 1 rfl) ?_
              refine zc_v (va_runV (As := []) (rest := []) ⟨hx, hb, hml, hown, hts⟩ (c_X8_putBack l V g (mRun w_1 n i) pa be w sl sv pd cd st le ap pl_ wy_  hJ) (cwV 0 hts (zgV_ wsM_all uM_39 uM_99 uM_100 uM_101 uM_21) rfl rfl rfl (by decide +kernel) ⟨Nat.le_of_ble_eq_true rfl, Nat.le_of_ble_eq_true rfl⟩) (zPreV (B := fun H => va_P V.1 vwCl (zmW V g (mRun w_1 n i) pa be w sl sv pd cd st le ap pl_ wy_) H) hP hE (va_recv hE.1 hP (ci := 8) (q0 := 0) (q := (RX8, TX8, 13)) rfl (zm_c0 V g (mRun w_1 n i) pa be w sl sv pd cd st le ap pl_ wy_))) rfl rfl hl.1 rfl (lv_room (Nat.le_of_ble_eq_true rfl)) dX8_all_114 ⟨Nat.le_of_ble_eq_true rfl, Nat.le_of_ble_eq_true rfl⟩) hS (fun _ h => h) (fun _ h => h) (fun H locs hQ_ _ _ hS => ?_)
              have hP := hQ_
              refine lv_iload hx hb dX8_all_117 (lv_at hl 0 rfl) ?_
              exact zr_i hx hb hr hlocks hS (⟨by rw [mAll, if_pos c_7, if_neg c_20, ← ew_1, show mRun w_1 n n = mRun w_1 n i by rw [show i = n by omega]]; first | (rw [if_pos c_72]) | (rw [if_neg c_72, if_pos c_89]) | (rw [if_neg c_72, if_neg c_89]), _, _, _, hP⟩) dX8_all_119
          · refine lv_aload_n hx hb dX8_all_64 rfl (lv_at hl 0 rfl) ?_
            refine zc_v (va_runV (As := []) (rest := []) ⟨hx, hb, hml, hown, hts⟩ (c_X8_serveOne l V g (mRun w_1 n i) pa be w sl sv pd cd st le ap pl_ wy_  (n - i) hJ (mRun_ok hok1 (show i ≤ n by omega)) c_61) (cwV 0 hts (zgV_ wsM_all uM_67 uM_96 uM_97 uM_98 uM_21) rfl rfl rfl (by decide +kernel) ⟨Nat.le_of_ble_eq_true rfl, Nat.le_of_ble_eq_true rfl⟩) (zPreV (B := fun H => va_P V.1 vwCl (zmW V g (mRun w_1 n i) pa be w sl sv pd cd st le ap pl_ wy_) H) hP hE (va_recv hE.1 hP (ci := 8) (q0 := 0) (q := (RX8, TX8, 13)) rfl (zm_c0 V g (mRun w_1 n i) pa be w sl sv pd cd st le ap pl_ wy_))) rfl rfl hl.1 rfl (lv_room (Nat.le_of_ble_eq_true rfl)) dX8_all_65 ⟨Nat.le_of_ble_eq_true rfl, Nat.le_of_ble_eq_true rfl⟩) hS (fun _ h => h) (fun _ h => h) (fun H locs hQ_ _ _ hS => ?_)
            obtain ⟨pl'_3, wy'_4, hP⟩ := hQ_
            refine lv_goto (tgt := 54) hx hb dX8_all_68 (by decide) ?_
            exact ih (i + 1) pl'_3 wy'_4 H locs ls (by omega) (by omega) hP hS (lv_sub hl [0, 1, 2, 3] rfl)
      exact L_54 (n + 1) 0 pl wy H locs ls (by omega) (by omega) hP hS (lv_sub hl [2, 3, 1, 0] rfl)
    · refine lv_bipush (v := (-6)) hx hb dX8_all_23 (by decide +kernel) ?_
      exact zr_i hx hb hr hlocks hS (⟨by rw [mAll, if_pos c_7, if_pos c_20], _, _, _, hP⟩) dX8_all_25
  · refine lv_bipush (v := (-2)) hx hb dX8_all_10 (by decide +kernel) ?_
    exact zr_i hx hb hr hlocks hS (⟨by rw [mAll, if_neg c_7], _, _, _, hP⟩) dX8_all_12
set_option maxHeartbeats 4000000 in
set_option maxRecDepth 100000 in
theorem c_X8_wipe (l : Launch) (V : zV) (g : Nat → Nat) (w pa be av sl sv pd cd : Nat → Int32) (st le ap pl wy : Int32)  (hJ : zInj 9 g) : Met l yX8_wipe wsX8_wipe (zR 0 0 0) (zPc V [.ref (g 0)] (fun H => va_P V.1 vwCl (zmW V g w pa be av sl sv pd cd st le ap pl wy) H)) (zQi (fun r H => r = (le) ∧ va_P V.1 vwCl (zmW V g w pa be av sl sv pd cd st 0 ap pl wy) H) (zIn 9 g)) 0 0 (zIn 9 g) := by
  refine Met.ofW (cc := cX8_wipe) (maxL := 2) (ret := (some .int)) (by decide) rfl ?_
  intro p e s m args below meth c s₁ B hml hv
  obtain ⟨rfl, hP, hE⟩ := hv
  have hx := B.exec
  have hb := B.bytes
  have hr := B.returns
  have hts := atoms_spec (ws := wsX8_wipe) B.pre
  have hown : s.vm.findClass RX8 = some m.cls := findClass_of_methodNamed B.named
  have hlocks := B.notSynchronized
  have hl := lv_entry ([.ref (g 0)]) (n := 2) (Nat.le_of_ble_eq_true rfl)
  rw [lg_entry_eq]
  generalize (lg_sl ([.ref (g 0)]) ++ List.replicate (2 - (lg_sl ([.ref (g 0)])).length) Slot.unset).toArray = ls at hl ⊢
  have hl : lv_has ls 2 [(0, .ref (g 0))] := hl
  have hS : va_S (zIn 9 g) s.heap s.heap [] := va_S.rf
  refine lv_aload_n hx hb dX8_wipe_0 rfl (lv_at hl 0 rfl) ?_
  refine zm_get 8 (.int le) hx hb hts (fun x h => List.mem_cons_of_mem _ (hU_X8 x h)) hown hE hP (by decide) rfl (hts _ (List.mem_cons_of_mem _ uM_134)) (fun _ h9 => h9) dX8_wipe_1 ?_
  refine lv_istore_n (lv' := [(1, .int le), (0, .ref (g 0))]) hx hb dX8_wipe_4 rfl hl (by decide) rfl (fun ls hl => ?_)
  refine lv_aload_n hx hb dX8_wipe_5 rfl (lv_at hl 1 rfl) ?_
  refine lv_iconst (v := 0) hx hb dX8_wipe_6 (by decide +kernel) ?_
  refine zm_put (st' := st) (le' := 0) (ap' := ap) (pl' := pl) (wy' := wy) 8 0 hx hb hts (fun x h => List.mem_cons_of_mem _ (hU_X8 x h)) hown hE hP hJ hS (by decide) rfl rfl (by decide +kernel) (hts _ (List.mem_cons_of_mem _ uM_134)) (fun _ h9 => h9) dX8_wipe_7 (fun H locs hP hS => ?_)
  refine lv_iload_n hx hb dX8_wipe_10 rfl (lv_at hl 0 rfl) ?_
  exact zr_i hx hb hr hlocks hS (⟨rfl, hP⟩) dX8_wipe_11
def mLeft (c : Int64) : Nat → Int64
  | 0 => c
  | i + 1 => ((mLeft c i).toUInt64 >>> ((8 : Int32).toInt64.toUInt64 &&& Int64.toUInt64 63)).toInt64
def mCode (c : Int64) (i : Nat) : Int32 := (mLeft c i &&& 255).toInt32
def mPn (c : Int64) : Nat := (zFirst (fun i => decide (i = 8 ∨ mLeft c i = 0 ∨ ¬ (33 ≤ mCode c i ∧ mCode c i ≤ 126))) 9).getD 0
def mPut (pd : Nat → Int32) (a : Nat) (c : Int64) : Int32 × (Nat → Int32) × Nat :=
  if mPn c < 8 ∧ ¬ mLeft c (mPn c) = 0 then (-2, pd, a) else if mPn c = 0 then (-2, pd, a) else if 80 < a + mPn c then (-4, pd, a) else (nI (a + mPn c), (fun j => if a ≤ j ∧ j < a + mPn c then mCode c (mPn c - 1 - (j - a)) else pd j), a + mPn c)
theorem z_lc0 {x y : Int64} : lg_cmp x y = 0 ↔ x = y := by
  unfold lg_cmp
  by_cases h1 : x > y
  · rw [if_pos h1]
    refine ⟨fun h => absurd h (by decide), fun h => ?_⟩
    rw [h] at h1
    have h2 : y < y := h1
    rw [Int64.lt_iff_toInt_lt] at h2
    omega
  · rw [if_neg h1]
    by_cases h2 : x = y
    · rw [if_pos h2]; exact ⟨fun _ => h2, fun _ => rfl⟩
    · rw [if_neg h2]; exact ⟨fun h => absurd h (by decide), fun h => absurd h h2⟩
set_option maxHeartbeats 4000000 in
set_option maxRecDepth 100000 in
theorem c_X8_put (l : Launch) (V : zV) (g : Nat → Nat) (w pa be av sl sv pd cd : Nat → Int32) (st le ap pl wy : Int32) (a : Nat) (c_ : Int64) (hJ : zInj 9 g) (hle : le = nI a) (ha80 : a ≤ 80) : Met l yX8_put wsX8_put (zR 1 0 0) (zPc V [.ref (g 0), .long c_] (fun H => va_P V.1 vwCl (zmW V g w pa be av sl sv pd cd st le ap pl wy) H)) (zQi (fun r H => r = ((mPut pd a c_).1) ∧ (∃ cd' : Nat → Int32, va_P V.1 vwCl (zmW V g w pa be av sl sv ((mPut pd a c_).2.1) cd' st (nI (mPut pd a c_).2.2) ap pl wy) H)) (zIn 9 g)) 0 0 (zIn 9 g) := by
  refine Met.ofW (cc := cX8_put) (maxL := 7) (ret := (some .int)) (by decide) rfl ?_
  intro p e s m args below meth c s₁ B hml hv
  obtain ⟨rfl, hP, hE⟩ := hv
  have hx := B.exec
  have hb := B.bytes
  have hr := B.returns
  have hts := atoms_spec (ws := wsX8_put) B.pre
  have hown : s.vm.findClass RX8 = some m.cls := findClass_of_methodNamed B.named
  have hlocks := B.notSynchronized
  have hl := lv_entry ([.ref (g 0), .long c_]) (n := 7) (Nat.le_of_ble_eq_true rfl)
  rw [lg_entry_eq]
  generalize (lg_sl ([.ref (g 0), .long c_]) ++ List.replicate (7 - (lg_sl ([.ref (g 0), .long c_])).length) Slot.unset).toArray = ls at hl ⊢
  have hl : lv_has ls 7 [(0, .ref (g 0)), (1, .long c_)] := hl
  have hS : va_S (zIn 9 g) s.heap s.heap [] := va_S.rf
  subst hle
  refine lv_lload_n hx hb dX8_put_0 rfl (lv_at hl 1 rfl) ?_
  refine lv_lstore_n (lv' := [(3, .long c_), (0, .ref (g 0)), (1, .long c_)]) hx hb dX8_put_1 rfl hl (by decide) rfl (fun ls hl => ?_)
  refine lv_iconst (v := 0) hx hb dX8_put_2 (by decide +kernel) ?_
  refine lv_istore (lv' := [(5, .int 0), (3, .long c_), (0, .ref (g 0)), (1, .long c_)]) hx hb dX8_put_3 hl (by decide) rfl (fun ls hl => ?_)
  have L_5 : ∀ (n_ i : Nat) (f_ : Nat → Int32) (H : Heap) (locs : List Loc) (ls : Array Slot), i ≤ 8 → 8 + 1 ≤ i + n_ → (∀ j, j < i → f_ j = mCode c_ j) → (zFirst (fun i => decide (i = 8 ∨ mLeft c_ i = 0 ∨ ¬ (33 ≤ mCode c_ i ∧ mCode c_ i ≤ 126))) i = none) → va_P V.1 vwCl (zmW V g w pa be av sl sv pd f_ st (nI a) ap pl wy) H → va_S (zIn 9 g) s.heap H locs → lv_has ls 7 [(5, .int (nI i)), (3, .long (mLeft c_ i)), (0, .ref (g 0)), (1, .long c_)] → W p l e (headSpec wsX8_put (zR 1 0 0)).room s m (List.toArray [.ref (g 0), .long c_]) below meth c H locs 0 0 (MQ below (zQi (fun r H => r = ((mPut pd a c_).1) ∧ (∃ cd' : Nat → Int32, va_P V.1 vwCl (zmW V g w pa be av sl sv ((mPut pd a c_).2.1) cd' st (nI (mPut pd a c_).2.2) ap pl wy) H)) (zIn 9 g)) (List.toArray [.ref (g 0), .long c_]) s 0 0 (zIn 9 g)) (F0 m 5 ls []) := by
    intro n_
    induction n_ with
    | zero => intro i f_ H locs ls hi_ hn_; exact absurd hn_ (by omega)
    | succ n_ ih =>
      intro i f_ H locs ls hi_ hn_ ef_ hno hP hS hl
      refine lv_lload_n hx hb dX8_put_5 rfl (lv_at hl 1 rfl) ?_
      refine lv_lconst (v := 0) hx hb dX8_put_6 (by decide +kernel) ?_
      refine W.lcmp hx hb dX8_put_7 ?_
      refine lv_if_eq (tgt := 63) hx hb dX8_put_8 (by decide) (fun c_8 => ?_) (fun c_8 => ?_)
      · have hpn : mPn c_ = i := by
          rw [mPn, zFirst_hit hno (decide_eq_true (by first | exact Or.inr (Or.inl (z_lc0.mp c_8)) | exact Or.inl (by omega))) (by omega)]; rfl
        have hst1 : ¬ (mPn c_ < 8 ∧ ¬ mLeft c_ (mPn c_) = 0) := by
          rw [hpn]; first | exact fun h => h.2 (z_lc0.mp c_8) | exact fun h => absurd h.1 (by omega)
        refine lv_iload hx hb dX8_put_63 (lv_at hl 0 rfl) ?_
        refine zb0_ne (x := i) (tgt := 71) hx hb dX8_put_65 (by decide) (by omega) (fun c_65 => ?_) (fun c_65 => ?_)
        · refine lv_aload_n hx hb dX8_put_71 rfl (lv_at hl 2 rfl) ?_
          refine zm_get 8 (.int (nI a)) hx hb hts (fun x h => List.mem_cons_of_mem _ (hU_X8 x h)) hown hE hP (by decide) rfl (hts _ (List.mem_cons_of_mem _ uM_134)) (fun _ h9 => h9) dX8_put_72 ?_
          refine lv_iload hx hb dX8_put_75 (lv_at hl 0 rfl) ?_
          refine lv_iadd hx hb dX8_put_77 ?_
          refine zt_i (z_add (a := a) (b := i) (by first | rfl | omega)) ?_
          refine lv_bipush (v := 80) hx hb dX8_put_78 (by decide +kernel) ?_
          refine zb_le (x := a + i) (y := 80) (tgt := 86) hx hb dX8_put_80 (by decide) (by omega) (by omega) (fun c_80 => ?_) (fun c_80 => ?_)
          · refine lv_iload hx hb dX8_put_86 (lv_at hl 0 rfl) ?_
            refine lv_iconst (v := 1) hx hb dX8_put_88 (by decide +kernel) ?_
            refine lv_isub hx hb dX8_put_89 ?_
            refine zt_i (z_sub (a := i) (b := 1) (by omega) (by first | rfl | omega)) ?_
            refine lv_istore (lv' := [(6, .int (nI (i - 1))), (5, .int (nI i)), (3, .long (mLeft c_ i)), (0, .ref (g 0)), (1, .long c_)]) hx hb dX8_put_90 hl (by decide) rfl (fun ls hl => ?_)
            rw [show nI (i - 1) = nI (i - 0) + (-1) by rw [show i - 0 = (i - 1) + 1 by omega]; exact (pk_m1 _).symm] at hl
            have L_92 : ∀ (n_ t : Nat) (g_ : Nat → Int32) (H : Heap) (locs : List Loc) (ls : Array Slot), t ≤ i → i + 1 ≤ t + n_ → (g_ = fun j => if a ≤ j ∧ j < a + t then mCode c_ (i - 1 - (j - a)) else pd j) → va_P V.1 vwCl (zmW V g w pa be av sl sv g_ f_ st (nI (a + t)) ap pl wy) H → va_S (zIn 9 g) s.heap H locs → lv_has ls 7 [(6, .int (nI (i - t) + (-1))), (0, .ref (g 0))] → W p l e (headSpec wsX8_put (zR 1 0 0)).room s m (List.toArray [.ref (g 0), .long c_]) below meth c H locs 0 0 (MQ below (zQi (fun r H => r = ((mPut pd a c_).1) ∧ (∃ cd' : Nat → Int32, va_P V.1 vwCl (zmW V g w pa be av sl sv ((mPut pd a c_).2.1) cd' st (nI (mPut pd a c_).2.2) ap pl wy) H)) (zIn 9 g)) (List.toArray [.ref (g 0), .long c_]) s 0 0 (zIn 9 g)) (F0 m 92 ls []) := by
              intro n_
              induction n_ with
              | zero => intro t g_ H locs ls hi_ hn_; exact absurd hn_ (by omega)
              | succ n_ ih =>
                intro t g_ H locs ls hi_ hn_ hg_ hP hS hl
                refine lv_iload hx hb dX8_put_92 (lv_at hl 0 rfl) ?_
                rcases Nat.lt_or_ge t i with ht | ht
                · have e1 : nI (i - t) + (-1) = nI (i - 1 - t) := by rw [show i - t = (i - 1 - t) + 1 by omega]; exact pk_m1 _
                  rw [e1] at hl
                  refine zt_i e1 ?_
                  refine zb0_lt (x := i - 1 - t) (tgt := 129) hx hb dX8_put_94 (by decide) (by omega) (fun c_94 => ?_) (fun c_94 => ?_)
                  · exact c_94.elim
                  · refine lv_aload_n hx hb dX8_put_97 rfl (lv_at hl 1 rfl) ?_
                    refine zm_get 7 (.ref (g 7)) hx hb hts (fun x h => List.mem_cons_of_mem _ (hU_X8 x h)) hown hE hP (by decide) rfl (hts _ (List.mem_cons_of_mem _ uM_12)) (fun _ h9 => h9) dX8_put_98 ?_
                    refine lv_aload_n hx hb dX8_put_101 rfl (lv_at hl 1 rfl) ?_
                    refine zm_get 8 (.int (nI (a + t))) hx hb hts (fun x h => List.mem_cons_of_mem _ (hU_X8 x h)) hown hE hP (by decide) rfl (hts _ (List.mem_cons_of_mem _ uM_134)) (fun _ h9 => h9) dX8_put_102 ?_
                    refine lv_aload_n hx hb dX8_put_105 rfl (lv_at hl 1 rfl) ?_
                    refine zm_get 10 (.ref (g 8)) hx hb hts (fun x h => List.mem_cons_of_mem _ (hU_X8 x h)) hown hE hP (by decide) rfl (hts _ (List.mem_cons_of_mem _ uM_13)) (fun _ h9 => h9) dX8_put_106 ?_
                    refine lv_iload hx hb dX8_put_109 (lv_at hl 0 rfl) ?_
                    refine z_iald (k := i - 1 - t) hx hb hE hP 8 (zm_c8 V g w pa be av sl sv g_ f_ st (nI (a + t)) ap pl wy) (by omega) (by decide) dX8_put_111 ?_
                    refine zm_a7 (a + t) (f_ (i - 1 - t)) hx hb hE hP hJ hS (by omega) dX8_put_112 (fun H locs hP hS => ?_)
                    obtain ⟨pd_1, epd_1⟩ : ∃ z, z = upd g_ (a + t) (f_ (i - 1 - t)) := ⟨_, rfl⟩
                    rw [← epd_1] at hP
                    refine lv_aload_n hx hb dX8_put_113 rfl (lv_at hl 1 rfl) ?_
                    refine lv_dup hx hb dX8_put_114 rfl ?_
                    refine zm_get 8 (.int (nI (a + t))) hx hb hts (fun x h => List.mem_cons_of_mem _ (hU_X8 x h)) hown hE hP (by decide) rfl (hts _ (List.mem_cons_of_mem _ uM_134)) (fun _ h9 => h9) dX8_put_115 ?_
                    refine lv_iconst (v := 1) hx hb dX8_put_118 (by decide +kernel) ?_
                    refine lv_iadd hx hb dX8_put_119 ?_
                    refine zt_i (z_add (a := a + t) (b := 1) (by first | rfl | omega)) ?_
                    refine zm_put (st' := st) (le' := nI (a + t + 1)) (ap' := ap) (pl' := pl) (wy' := wy) 8 (nI (a + t + 1)) hx hb hts (fun x h => List.mem_cons_of_mem _ (hU_X8 x h)) hown hE hP hJ hS (by decide) rfl rfl (by decide +kernel) (hts _ (List.mem_cons_of_mem _ uM_134)) (fun _ h9 => h9) dX8_put_120 (fun H locs hP hS => ?_)
                    refine lv_iinc (v := (nI (i - 1 - t)) + -1) (lv' := [(6, .int ((nI (i - 1 - t)) + -1)), (0, .ref (g 0))]) hx hb dX8_put_123 hl (k := 0) rfl rfl (by decide) rfl (fun ls hl => ?_)
                    refine lv_goto (tgt := 92) hx hb dX8_put_126 (by decide) ?_
                    have e_ : pd_1 = fun j => if a ≤ j ∧ j < a + (t + 1) then mCode c_ (i - 1 - (j - a)) else pd j := by
                      rw [epd_1, hg_]; funext j; simp only [upd]; by_cases h1 : j = a + t
                      · rw [if_pos h1, if_pos (by omega), h1, show a + t - a = t by omega]; exact ef_ _ (by omega)
                      · rw [if_neg h1]; by_cases h2 : a ≤ j ∧ j < a + t
                        · rw [if_pos h2, if_pos (by omega)]
                        · rw [if_neg h2, if_neg (by omega)]
                    rw [show nI (i - 1 - t) + -1 = nI (i - (t + 1)) + (-1) by rw [show i - 1 - t = i - (t + 1) by omega]] at hl
                    exact ih (t + 1) pd_1 H locs ls (by omega) (by omega) e_ hP hS (lv_sub hl [0, 1] rfl)
                · have e1 : nI (i - t) + (-1) = -1 := by rw [show i - t = 0 by omega]; rfl
                  refine zt_i e1 ?_
                  refine lv_if_lt (tgt := 129) hx hb dX8_put_94 (by decide) (fun c_94 => ?_) (fun c_94 => ?_)
                  · refine lv_aload_n hx hb dX8_put_129 rfl (lv_at hl 1 rfl) ?_
                    refine zm_get 8 (.int (nI (a + t))) hx hb hts (fun x h => List.mem_cons_of_mem _ (hU_X8 x h)) hown hE hP (by decide) rfl (hts _ (List.mem_cons_of_mem _ uM_134)) (fun _ h9 => h9) dX8_put_130 ?_
                    exact zr_i hx hb hr hlocks hS (⟨by rw [mPut, if_neg hst1, if_neg (by omega), if_neg (by omega), hpn, show a + i = a + t by omega], _, by rw [mPut, if_neg hst1, if_neg (by omega), if_neg (by omega), hpn]; rw [show t = i by omega] at hP; rw [hg_, show t = i by omega] at hP; exact hP⟩) dX8_put_133
                  · exact absurd (show (-1 : Int32) < 0 by decide) c_94
            exact L_92 (i + 1) 0 pd H locs ls (by omega) (by omega) (by funext j; rw [if_neg (by omega)]) hP hS (lv_sub hl [0, 3] rfl)
          · refine lv_bipush (v := (-4)) hx hb dX8_put_83 (by decide +kernel) ?_
            exact zr_i hx hb hr hlocks hS (⟨by rw [mPut, if_neg hst1, if_neg (by omega), if_pos (by omega)], _, by rw [mPut, if_neg hst1, if_neg (by omega), if_pos (by omega)]; exact hP⟩) dX8_put_85
        · refine lv_bipush (v := (-2)) hx hb dX8_put_68 (by decide +kernel) ?_
          exact zr_i hx hb hr hlocks hS (⟨by rw [mPut, if_neg hst1, if_pos (by omega)], _, by rw [mPut, if_neg hst1, if_pos (by omega)]; exact hP⟩) dX8_put_70
      · refine lv_iload hx hb dX8_put_11 (lv_at hl 0 rfl) ?_
        refine lv_bipush (v := 8) hx hb dX8_put_13 (by decide +kernel) ?_
        refine zb_ge (x := i) (y := 8) (tgt := 63) hx hb dX8_put_15 (by decide) (by omega) (by omega) (fun c_15 => ?_) (fun c_15 => ?_)
        · have hpn : mPn c_ = i := by
            rw [mPn, zFirst_hit hno (decide_eq_true (by first | exact Or.inr (Or.inl (z_lc0.mp c_8)) | exact Or.inl (by omega))) (by omega)]; rfl
          have hst1 : ¬ (mPn c_ < 8 ∧ ¬ mLeft c_ (mPn c_) = 0) := by
            rw [hpn]; first | exact fun h => h.2 (z_lc0.mp c_8) | exact fun h => absurd h.1 (by omega)
          refine lv_iload hx hb dX8_put_63 (lv_at hl 0 rfl) ?_
          refine zb0_ne (x := i) (tgt := 71) hx hb dX8_put_65 (by decide) (by omega) (fun c_65 => ?_) (fun c_65 => ?_)
          · refine lv_aload_n hx hb dX8_put_71 rfl (lv_at hl 2 rfl) ?_
            refine zm_get 8 (.int (nI a)) hx hb hts (fun x h => List.mem_cons_of_mem _ (hU_X8 x h)) hown hE hP (by decide) rfl (hts _ (List.mem_cons_of_mem _ uM_134)) (fun _ h9 => h9) dX8_put_72 ?_
            refine lv_iload hx hb dX8_put_75 (lv_at hl 0 rfl) ?_
            refine lv_iadd hx hb dX8_put_77 ?_
            refine zt_i (z_add (a := a) (b := i) (by first | rfl | omega)) ?_
            refine lv_bipush (v := 80) hx hb dX8_put_78 (by decide +kernel) ?_
            refine zb_le (x := a + i) (y := 80) (tgt := 86) hx hb dX8_put_80 (by decide) (by omega) (by omega) (fun c_80 => ?_) (fun c_80 => ?_)
            · refine lv_iload hx hb dX8_put_86 (lv_at hl 0 rfl) ?_
              refine lv_iconst (v := 1) hx hb dX8_put_88 (by decide +kernel) ?_
              refine lv_isub hx hb dX8_put_89 ?_
              refine zt_i (z_sub (a := i) (b := 1) (by omega) (by first | rfl | omega)) ?_
              refine lv_istore (lv' := [(6, .int (nI (i - 1))), (5, .int (nI i)), (3, .long (mLeft c_ i)), (0, .ref (g 0)), (1, .long c_)]) hx hb dX8_put_90 hl (by decide) rfl (fun ls hl => ?_)
              rw [show nI (i - 1) = nI (i - 0) + (-1) by rw [show i - 0 = (i - 1) + 1 by omega]; exact (pk_m1 _).symm] at hl
              have L_92 : ∀ (n_ t : Nat) (g_ : Nat → Int32) (H : Heap) (locs : List Loc) (ls : Array Slot), t ≤ i → i + 1 ≤ t + n_ → (g_ = fun j => if a ≤ j ∧ j < a + t then mCode c_ (i - 1 - (j - a)) else pd j) → va_P V.1 vwCl (zmW V g w pa be av sl sv g_ f_ st (nI (a + t)) ap pl wy) H → va_S (zIn 9 g) s.heap H locs → lv_has ls 7 [(6, .int (nI (i - t) + (-1))), (0, .ref (g 0))] → W p l e (headSpec wsX8_put (zR 1 0 0)).room s m (List.toArray [.ref (g 0), .long c_]) below meth c H locs 0 0 (MQ below (zQi (fun r H => r = ((mPut pd a c_).1) ∧ (∃ cd' : Nat → Int32, va_P V.1 vwCl (zmW V g w pa be av sl sv ((mPut pd a c_).2.1) cd' st (nI (mPut pd a c_).2.2) ap pl wy) H)) (zIn 9 g)) (List.toArray [.ref (g 0), .long c_]) s 0 0 (zIn 9 g)) (F0 m 92 ls []) := by
                intro n_
                induction n_ with
                | zero => intro t g_ H locs ls hi_ hn_; exact absurd hn_ (by omega)
                | succ n_ ih =>
                  intro t g_ H locs ls hi_ hn_ hg_ hP hS hl
                  refine lv_iload hx hb dX8_put_92 (lv_at hl 0 rfl) ?_
                  rcases Nat.lt_or_ge t i with ht | ht
                  · have e1 : nI (i - t) + (-1) = nI (i - 1 - t) := by rw [show i - t = (i - 1 - t) + 1 by omega]; exact pk_m1 _
                    rw [e1] at hl
                    refine zt_i e1 ?_
                    refine zb0_lt (x := i - 1 - t) (tgt := 129) hx hb dX8_put_94 (by decide) (by omega) (fun c_94 => ?_) (fun c_94 => ?_)
                    · exact c_94.elim
                    · refine lv_aload_n hx hb dX8_put_97 rfl (lv_at hl 1 rfl) ?_
                      refine zm_get 7 (.ref (g 7)) hx hb hts (fun x h => List.mem_cons_of_mem _ (hU_X8 x h)) hown hE hP (by decide) rfl (hts _ (List.mem_cons_of_mem _ uM_12)) (fun _ h9 => h9) dX8_put_98 ?_
                      refine lv_aload_n hx hb dX8_put_101 rfl (lv_at hl 1 rfl) ?_
                      refine zm_get 8 (.int (nI (a + t))) hx hb hts (fun x h => List.mem_cons_of_mem _ (hU_X8 x h)) hown hE hP (by decide) rfl (hts _ (List.mem_cons_of_mem _ uM_134)) (fun _ h9 => h9) dX8_put_102 ?_
                      refine lv_aload_n hx hb dX8_put_105 rfl (lv_at hl 1 rfl) ?_
                      refine zm_get 10 (.ref (g 8)) hx hb hts (fun x h => List.mem_cons_of_mem _ (hU_X8 x h)) hown hE hP (by decide) rfl (hts _ (List.mem_cons_of_mem _ uM_13)) (fun _ h9 => h9) dX8_put_106 ?_
                      refine lv_iload hx hb dX8_put_109 (lv_at hl 0 rfl) ?_
                      refine z_iald (k := i - 1 - t) hx hb hE hP 8 (zm_c8 V g w pa be av sl sv g_ f_ st (nI (a + t)) ap pl wy) (by omega) (by decide) dX8_put_111 ?_
                      refine zm_a7 (a + t) (f_ (i - 1 - t)) hx hb hE hP hJ hS (by omega) dX8_put_112 (fun H locs hP hS => ?_)
                      obtain ⟨pd_2, epd_2⟩ : ∃ z, z = upd g_ (a + t) (f_ (i - 1 - t)) := ⟨_, rfl⟩
                      rw [← epd_2] at hP
                      refine lv_aload_n hx hb dX8_put_113 rfl (lv_at hl 1 rfl) ?_
                      refine lv_dup hx hb dX8_put_114 rfl ?_
                      refine zm_get 8 (.int (nI (a + t))) hx hb hts (fun x h => List.mem_cons_of_mem _ (hU_X8 x h)) hown hE hP (by decide) rfl (hts _ (List.mem_cons_of_mem _ uM_134)) (fun _ h9 => h9) dX8_put_115 ?_
                      refine lv_iconst (v := 1) hx hb dX8_put_118 (by decide +kernel) ?_
                      refine lv_iadd hx hb dX8_put_119 ?_
                      refine zt_i (z_add (a := a + t) (b := 1) (by first | rfl | omega)) ?_
                      refine zm_put (st' := st) (le' := nI (a + t + 1)) (ap' := ap) (pl' := pl) (wy' := wy) 8 (nI (a + t + 1)) hx hb hts (fun x h => List.mem_cons_of_mem _ (hU_X8 x h)) hown hE hP hJ hS (by decide) rfl rfl (by decide +kernel) (hts _ (List.mem_cons_of_mem _ uM_134)) (fun _ h9 => h9) dX8_put_120 (fun H locs hP hS => ?_)
                      refine lv_iinc (v := (nI (i - 1 - t)) + -1) (lv' := [(6, .int ((nI (i - 1 - t)) + -1)), (0, .ref (g 0))]) hx hb dX8_put_123 hl (k := 0) rfl rfl (by decide) rfl (fun ls hl => ?_)
                      refine lv_goto (tgt := 92) hx hb dX8_put_126 (by decide) ?_
                      have e_ : pd_2 = fun j => if a ≤ j ∧ j < a + (t + 1) then mCode c_ (i - 1 - (j - a)) else pd j := by
                        rw [epd_2, hg_]; funext j; simp only [upd]; by_cases h1 : j = a + t
                        · rw [if_pos h1, if_pos (by omega), h1, show a + t - a = t by omega]; exact ef_ _ (by omega)
                        · rw [if_neg h1]; by_cases h2 : a ≤ j ∧ j < a + t
                          · rw [if_pos h2, if_pos (by omega)]
                          · rw [if_neg h2, if_neg (by omega)]
                      rw [show nI (i - 1 - t) + -1 = nI (i - (t + 1)) + (-1) by rw [show i - 1 - t = i - (t + 1) by omega]] at hl
                      exact ih (t + 1) pd_2 H locs ls (by omega) (by omega) e_ hP hS (lv_sub hl [0, 1] rfl)
                  · have e1 : nI (i - t) + (-1) = -1 := by rw [show i - t = 0 by omega]; rfl
                    refine zt_i e1 ?_
                    refine lv_if_lt (tgt := 129) hx hb dX8_put_94 (by decide) (fun c_94 => ?_) (fun c_94 => ?_)
                    · refine lv_aload_n hx hb dX8_put_129 rfl (lv_at hl 1 rfl) ?_
                      refine zm_get 8 (.int (nI (a + t))) hx hb hts (fun x h => List.mem_cons_of_mem _ (hU_X8 x h)) hown hE hP (by decide) rfl (hts _ (List.mem_cons_of_mem _ uM_134)) (fun _ h9 => h9) dX8_put_130 ?_
                      exact zr_i hx hb hr hlocks hS (⟨by rw [mPut, if_neg hst1, if_neg (by omega), if_neg (by omega), hpn, show a + i = a + t by omega], _, by rw [mPut, if_neg hst1, if_neg (by omega), if_neg (by omega), hpn]; rw [show t = i by omega] at hP; rw [hg_, show t = i by omega] at hP; exact hP⟩) dX8_put_133
                    · exact absurd (show (-1 : Int32) < 0 by decide) c_94
              exact L_92 (i + 1) 0 pd H locs ls (by omega) (by omega) (by funext j; rw [if_neg (by omega)]) hP hS (lv_sub hl [0, 3] rfl)
            · refine lv_bipush (v := (-4)) hx hb dX8_put_83 (by decide +kernel) ?_
              exact zr_i hx hb hr hlocks hS (⟨by rw [mPut, if_neg hst1, if_neg (by omega), if_pos (by omega)], _, by rw [mPut, if_neg hst1, if_neg (by omega), if_pos (by omega)]; exact hP⟩) dX8_put_85
          · refine lv_bipush (v := (-2)) hx hb dX8_put_68 (by decide +kernel) ?_
            exact zr_i hx hb hr hlocks hS (⟨by rw [mPut, if_neg hst1, if_pos (by omega)], _, by rw [mPut, if_neg hst1, if_pos (by omega)]; exact hP⟩) dX8_put_70
        · refine lv_aload_n hx hb dX8_put_18 rfl (lv_at hl 2 rfl) ?_
          refine zm_get 10 (.ref (g 8)) hx hb hts (fun x h => List.mem_cons_of_mem _ (hU_X8 x h)) hown hE hP (by decide) rfl (hts _ (List.mem_cons_of_mem _ uM_13)) (fun _ h9 => h9) dX8_put_19 ?_
          refine lv_iload hx hb dX8_put_22 (lv_at hl 0 rfl) ?_
          refine lv_lload_n hx hb dX8_put_24 rfl (lv_at hl 1 rfl) ?_
          refine lv_ldc2 (v := (255)) hx hb hown (hts _ (List.mem_cons_of_mem _ uM_140)) dX8_put_25 ?_
          refine lv_land hx hb dX8_put_28 ?_
          refine lv_l2i (v := ((mLeft c_ i) &&& (255)).toInt32) hx hb dX8_put_29 rfl ?_
          refine zm_a8 i (((mLeft c_ i) &&& (255)).toInt32) hx hb hE hP hJ hS (by omega) dX8_put_30 (fun H locs hP hS => ?_)
          obtain ⟨cd_3, ecd_3⟩ : ∃ z, z = upd f_ i (((mLeft c_ i) &&& (255)).toInt32) := ⟨_, rfl⟩
          rw [← ecd_3] at hP
          refine lv_aload_n hx hb dX8_put_31 rfl (lv_at hl 2 rfl) ?_
          refine zm_get 10 (.ref (g 8)) hx hb hts (fun x h => List.mem_cons_of_mem _ (hU_X8 x h)) hown hE hP (by decide) rfl (hts _ (List.mem_cons_of_mem _ uM_13)) (fun _ h9 => h9) dX8_put_32 ?_
          refine lv_iload hx hb dX8_put_35 (lv_at hl 0 rfl) ?_
          refine z_iald (k := i) hx hb hE hP 8 (zm_c8 V g w pa be av sl sv pd cd_3 st (nI a) ap pl wy) (by omega) (by decide) dX8_put_37 ?_
          refine zt_i (y := mCode c_ i) (by rw [ecd_3]; exact if_pos rfl) ?_
          refine lv_i2l (v := (mCode c_ i).toInt64) hx hb dX8_put_38 rfl ?_
          refine lv_bipush (v := 33) hx hb dX8_put_39 (by decide +kernel) ?_
          refine lv_bipush (v := 126) hx hb dX8_put_41 (by decide +kernel) ?_
          refine zc_se (va_runS (As := [.long ((mCode c_ i).toInt64), .int 33, .int 126]) (rest := []) ⟨hx, hb, hml, hown, hts⟩ (c_X8_in l V (mCode c_ i) 33 126) (va_cwS 3 hts (zgS_ wsM_all uM_14 uM_29 uM_30 uM_21) rfl rfl rfl (by decide +kernel) ⟨Nat.le_of_ble_eq_true rfl, Nat.le_of_ble_eq_true rfl⟩) (zPreS (B := fun _ => True) trivial hE) rfl rfl hl.1 rfl (lv_room (Nat.le_of_ble_eq_true rfl)) dX8_put_43 ⟨Nat.le_of_ble_eq_true rfl, Nat.le_of_ble_eq_true rfl⟩) ?_
          refine zbp_ne (P := 33 ≤ mCode c_ i ∧ mCode c_ i ≤ 126) (tgt := 52) hx hb dX8_put_46 (by decide) (fun c_46 => ?_) (fun c_46 => ?_)
          · refine lv_lload_n hx hb dX8_put_52 rfl (lv_at hl 1 rfl) ?_
            refine lv_bipush (v := 8) hx hb dX8_put_53 (by decide +kernel) ?_
            refine lv_lushr (v := ((mLeft c_ i).toUInt64 >>> ((8 : Int32).toInt64.toUInt64 &&& Int64.toUInt64 63)).toInt64) hx hb dX8_put_55 rfl ?_
            refine lv_lstore_n (lv' := [(3, .long (((mLeft c_ i).toUInt64 >>> ((8 : Int32).toInt64.toUInt64 &&& Int64.toUInt64 63)).toInt64)), (5, .int (nI i)), (0, .ref (g 0)), (1, .long c_)]) hx hb dX8_put_56 rfl hl (by decide) rfl (fun ls hl => ?_)
            refine lv_iinc (v := nI (i + 1)) (lv' := [(5, .int (nI (i + 1))), (3, .long (((mLeft c_ i).toUInt64 >>> ((8 : Int32).toInt64.toUInt64 &&& Int64.toUInt64 63)).toInt64)), (0, .ref (g 0)), (1, .long c_)]) hx hb dX8_put_57 hl (k := 1) rfl (z_inc1 i) (by decide) rfl (fun ls hl => ?_)
            refine lv_goto (tgt := 5) hx hb dX8_put_60 (by decide) ?_
            have e_ : ∀ j, j < i + 1 → cd_3 j = mCode c_ j := by
              intro j hj; rw [ecd_3]; simp only [upd]; by_cases h1 : j = i
              · rw [if_pos h1, h1]; rfl
              · rw [if_neg h1]; exact ef_ j (by omega)
            exact ih (i + 1) cd_3 H locs ls (by omega) (by omega) e_ (zFirst_no hno (decide_eq_false (fun h => h.elim (fun q => by omega) (fun h => h.elim (fun q => c_8 (z_lc0.mpr q)) (fun q => q c_46))))) hP hS (lv_sub hl [0, 1, 2, 3] rfl)
          · have hpn : mPn c_ = i := by rw [mPn, zFirst_hit hno (decide_eq_true (Or.inr (Or.inr c_46))) (by omega)]; rfl
            refine lv_bipush (v := (-2)) hx hb dX8_put_49 (by decide +kernel) ?_
            exact zr_i hx hb hr hlocks hS (⟨by rw [mPut, if_pos ⟨by rw [hpn]; omega, by rw [hpn]; exact fun q => c_8 (z_lc0.mpr q)⟩], _, by rw [mPut, if_pos ⟨by rw [hpn]; omega, by rw [hpn]; exact fun q => c_8 (z_lc0.mpr q)⟩]; exact hP⟩) dX8_put_51
  exact L_5 (8 + 1) 0 cd s.heap [] ls (by omega) (by omega) (fun j hj => absurd hj (by omega)) rfl hP hS (lv_sub hl [0, 1, 2, 3] rfl)
