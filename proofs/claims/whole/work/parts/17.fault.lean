set_option maxHeartbeats 4000000 in
set_option maxRecDepth 100000 in
theorem c_X4_findFault (l : Launch) (V : zV) (g : Nat → Nat) (n : Nat) (pd : Nat → Int32) (a : Nat) (kd nu mo : Int32) (hJ : zInj 3 g) (h80 : n ≤ 80) : Met l yX4_findFault wsX4_findFault (zR 5 0 0) (zPc V [.ref (g 2)] (fun H => va_P V.1 vwCl (zqW V g n pd a kd nu mo) H)) (zQi (fun r H => r = (if (mWell pd n).1 = true then -6 else nI (mWell pd n).2) ∧ (∃ a' : Nat, ∃ kd' : Int32, ∃ nu' : Int32, ∃ mo' : Int32, va_P V.1 vwCl (zqW V g n pd a' kd' nu' mo') H)) (zIn 3 g)) 0 0 (zIn 3 g) := by
  refine Met.ofW (cc := cX4_findFault) (maxL := 3) (ret := (some .int)) (by decide) rfl ?_
  intro p e s m args below meth c s₁ B hml hv
  obtain ⟨rfl, hP, hE⟩ := hv
  have hx := B.exec
  have hb := B.bytes
  have hr := B.returns
  have hts := atoms_spec (ws := wsX4_findFault) B.pre
  have hown : s.vm.findClass RX4 = some m.cls := findClass_of_methodNamed B.named
  have hlocks := B.notSynchronized
  have hl := lv_entry ([.ref (g 2)]) (n := 3) (Nat.le_of_ble_eq_true rfl)
  rw [lg_entry_eq]
  generalize (lg_sl ([.ref (g 2)]) ++ List.replicate (3 - (lg_sl ([.ref (g 2)])).length) Slot.unset).toArray = ls at hl ⊢
  have hl : lv_has ls 3 [(0, .ref (g 2))] := hl
  have hS : va_S (zIn 3 g) s.heap s.heap [] := va_S.rf
  refine lv_aload_n hx hb dX4_findFault_0 rfl (lv_at hl 0 rfl) ?_
  refine zc_v (va_runV (As := []) (rest := []) ⟨hx, hb, hml, hown, hts⟩ (c_X4_begin l V g n pd a kd nu mo hJ) (cwV 0 hts (zgV_ wsC_all uC_200 uC_227 uC_228 uC_229 uC_211) rfl rfl rfl (by decide +kernel) ⟨Nat.le_of_ble_eq_true rfl, Nat.le_of_ble_eq_true rfl⟩) (zPreV (B := fun H => va_P V.1 vwCl (zqW V g n pd a kd nu mo) H) hP hE (zq_rr hE hP)) rfl rfl hl.1 rfl (lv_room (Nat.le_of_ble_eq_true rfl)) dX4_findFault_1 ⟨Nat.le_of_ble_eq_true rfl, Nat.le_of_ble_eq_true rfl⟩) hS (fun _ h => h) (fun _ h => h) (fun H locs hQ_ _ _ hS => ?_)
  have hP := hQ_
  refine lv_aload_n hx hb dX4_findFault_4 rfl (lv_at hl 0 rfl) ?_
  refine zc_i (va_runV (As := []) (rest := []) ⟨hx, hb, hml, hown, hts⟩ (c_X4_readOrder l V g n pd 0 kd nu mo hJ (by omega) (by omega)) (cwV 0 hts (zgV_ wsC_all uC_217 uC_230 uC_231 uC_232 uC_211) rfl rfl rfl (by decide +kernel) ⟨Nat.le_of_ble_eq_true rfl, Nat.le_of_ble_eq_true rfl⟩) (zPreV (B := fun H => va_P V.1 vwCl (zqW V g n pd 0 kd nu mo) H) hP hE (zq_rr hE hP)) rfl rfl hl.1 rfl (lv_room (Nat.le_of_ble_eq_true rfl)) dX4_findFault_5 ⟨Nat.le_of_ble_eq_true rfl, Nat.le_of_ble_eq_true rfl⟩) hS (fun _ h => h) (fun _ h => h) (fun r_ H locs hQ_ _ _ hS => ?_)
  obtain ⟨hr_, hP⟩ := hQ_
  subst hr_
  refine lv_istore_n (lv' := [(1, .int (if (rTok pd n 0 nu).1 = true then 1 else 0)), (0, .ref (g 2))]) hx hb dX4_findFault_8 rfl hl (by decide) rfl (fun ls hl => ?_)
  refine lv_iconst (v := 1) hx hb dX4_findFault_9 (by decide +kernel) ?_
  refine lv_istore_n (lv' := [(2, .int 1), (1, .int (if (rTok pd n 0 nu).1 = true then 1 else 0)), (0, .ref (g 2))]) hx hb dX4_findFault_10 rfl hl (by decide) rfl (fun ls hl => ?_)
  have L_11 : ∀ (n_ i : Nat) (b : Bool) (a_ : Nat) (kd_ : Int32) (nu_ : Int32) (mo_ : Int32) (H : Heap) (locs : List Loc) (ls : Array Slot), i ≤ (n + 2) → (n + 2) + 1 ≤ i + n_ → (mWl pd n (n + 2 - i) (b, a_) = mWell pd n) → (b = true → 2 * i ≤ a_ + 1) → (a_ ≤ n) → va_P V.1 vwCl (zqW V g n pd a_ kd_ nu_ mo_) H → va_S (zIn 3 g) s.heap H locs → lv_has ls 3 [(2, .int (nI i)), (1, .int (if b = true then 1 else 0)), (0, .ref (g 2))] → W p l e (headSpec wsX4_findFault (zR 5 0 0)).room s m (List.toArray [.ref (g 2)]) below meth c H locs 0 0 (MQ below (zQi (fun r H => r = (if (mWell pd n).1 = true then -6 else nI (mWell pd n).2) ∧ (∃ a' : Nat, ∃ kd' : Int32, ∃ nu' : Int32, ∃ mo' : Int32, va_P V.1 vwCl (zqW V g n pd a' kd' nu' mo') H)) (zIn 3 g)) (List.toArray [.ref (g 2)]) s 0 0 (zIn 3 g)) (F0 m 11 ls []) := by
    intro n_
    induction n_ with
    | zero => intro i b a_ kd_ nu_ mo_ H locs ls hi_ hn_; exact absurd hn_ (by omega)
    | succ n_ ih =>
      intro i b a_ kd_ nu_ mo_ H locs ls hi_ hn_ hwl hia han hP hS hl
      refine lv_iload_n hx hb dX4_findFault_11 rfl (lv_at hl 0 rfl) ?_
      refine lv_bipush (v := 80) hx hb dX4_findFault_12 (by decide +kernel) ?_
      refine zb_ge (x := i) (y := 80) (tgt := 52) hx hb dX4_findFault_14 (by decide) (by omega) (by omega) (fun c_14 => ?_) (fun c_14 => ?_)
      · refine lv_iload_n hx hb dX4_findFault_52 rfl (lv_at hl 1 rfl) ?_
        refine zbp_eq (P := b = true) (tgt := 75) hx hb dX4_findFault_53 (by decide) (fun c_53 => ?_) (fun c_53 => ?_)
        · refine lv_aload_n hx hb dX4_findFault_75 rfl (lv_at hl 2 rfl) ?_
          refine zo_get 1 (.int (nI a_)) hx hb hts (fun x h => List.mem_cons_of_mem _ (hU_X4 x h)) hown hE (zq_r hP) (show vwCl[4]? = some (RX4, TX4, 5) from rfl) (by decide) rfl (hts _ (List.mem_cons_of_mem _ uC_201)) (fun _ h9 => h9) dX4_findFault_76 ?_
          have hst_ : mWell pd n = (b, a_) := by rw [← hwl]; exact mWl_stop pd n (s := (b, a_)) (fun h => c_53 h.1) _
          exact zr_i hx hb hr hlocks hS (⟨by rw [hst_, if_neg (show ¬ b = true from c_53)], _, _, _, _, hP⟩) dX4_findFault_79
        · exact absurd (hia c_53) (by omega)
      · refine lv_iload_n hx hb dX4_findFault_17 rfl (lv_at hl 1 rfl) ?_
        refine zbp_eq (P := b = true) (tgt := 52) hx hb dX4_findFault_18 (by decide) (fun c_18 => ?_) (fun c_18 => ?_)
        · refine lv_iload_n hx hb dX4_findFault_52 rfl (lv_at hl 1 rfl) ?_
          refine zbp_eq (P := b = true) (tgt := 75) hx hb dX4_findFault_53 (by decide) (fun c_53 => ?_) (fun c_53 => ?_)
          · refine lv_aload_n hx hb dX4_findFault_75 rfl (lv_at hl 2 rfl) ?_
            refine zo_get 1 (.int (nI a_)) hx hb hts (fun x h => List.mem_cons_of_mem _ (hU_X4 x h)) hown hE (zq_r hP) (show vwCl[4]? = some (RX4, TX4, 5) from rfl) (by decide) rfl (hts _ (List.mem_cons_of_mem _ uC_201)) (fun _ h9 => h9) dX4_findFault_76 ?_
            have hst_ : mWell pd n = (b, a_) := by rw [← hwl]; exact mWl_stop pd n (s := (b, a_)) (fun h => c_53 h.1) _
            exact zr_i hx hb hr hlocks hS (⟨by rw [hst_, if_neg (show ¬ b = true from c_53)], _, _, _, _, hP⟩) dX4_findFault_79
          · exact absurd c_53 c_18
        · have hia_ := hia c_18
          refine lv_aload_n hx hb dX4_findFault_21 rfl (lv_at hl 2 rfl) ?_
          refine zo_get 0 (.ref (g 0)) hx hb hts (fun x h => List.mem_cons_of_mem _ (hU_X4 x h)) hown hE (zq_r hP) (show vwCl[4]? = some (RX4, TX4, 5) from rfl) (by decide) rfl (hts _ (List.mem_cons_of_mem _ uC_199)) (fun _ h9 => h9) dX4_findFault_22 ?_
          refine lv_aload_n hx hb dX4_findFault_25 rfl (lv_at hl 2 rfl) ?_
          refine zo_get 1 (.int (nI a_)) hx hb hts (fun x h => List.mem_cons_of_mem _ (hU_X4 x h)) hown hE (zq_r hP) (show vwCl[4]? = some (RX4, TX4, 5) from rfl) (by decide) rfl (hts _ (List.mem_cons_of_mem _ uC_201)) (fun _ h9 => h9) dX4_findFault_26 ?_
          refine zc_se (va_runVN (As := [.int (nI a_)]) (rest := []) ⟨hx, hb, hml, hown, hts⟩ (c_X3_signAt l V g n pd a_ kd_ nu_ mo_ a_ (by omega) (by omega)) ⟨va_cnB 1 hts (zgB_ wsC_all uC_185) rfl rfl rfl (hE.2 (.methodLinkNest RX4 28 yX3_signAt "DrawerSlips") (List.mem_of_getElem? (i := 78) rfl)) (hts _ (List.mem_cons_of_mem _ uC_192)) (by decide +kernel) ⟨Nat.le_of_ble_eq_true rfl, Nat.le_of_ble_eq_true rfl⟩, (hts _ (List.mem_cons_of_mem _ uC_203)), (hts _ (List.mem_cons_of_mem _ uC_204))⟩ (zPreV (B := fun H => va_P V.1 vwCl (zqW V g n pd a_ kd_ nu_ mo_) H) hP hE (zq_rp hE hP)) rfl rfl hl.1 rfl (lv_room (Nat.le_of_ble_eq_true rfl)) dX4_findFault_29 ⟨Nat.le_of_ble_eq_true rfl, Nat.le_of_ble_eq_true rfl⟩) ?_
          refine lv_bipush (v := 59) hx hb dX4_findFault_32 (by decide +kernel) ?_
          refine lv_icmp_ne (tgt := 52) hx hb dX4_findFault_34 (by decide) (fun c_34 => ?_) (fun c_34 => ?_)
          · refine lv_iload_n hx hb dX4_findFault_52 rfl (lv_at hl 1 rfl) ?_
            refine zbp_eq (P := b = true) (tgt := 75) hx hb dX4_findFault_53 (by decide) (fun c_53 => ?_) (fun c_53 => ?_)
            · exact absurd c_18 c_53
            · refine lv_aload_n hx hb dX4_findFault_56 rfl (lv_at hl 2 rfl) ?_
              refine zo_get 1 (.int (nI a_)) hx hb hts (fun x h => List.mem_cons_of_mem _ (hU_X4 x h)) hown hE (zq_r hP) (show vwCl[4]? = some (RX4, TX4, 5) from rfl) (by decide) rfl (hts _ (List.mem_cons_of_mem _ uC_201)) (fun _ h9 => h9) dX4_findFault_57 ?_
              refine lv_aload_n hx hb dX4_findFault_60 rfl (lv_at hl 2 rfl) ?_
              refine zo_get 0 (.ref (g 0)) hx hb hts (fun x h => List.mem_cons_of_mem _ (hU_X4 x h)) hown hE (zq_r hP) (show vwCl[4]? = some (RX4, TX4, 5) from rfl) (by decide) rfl (hts _ (List.mem_cons_of_mem _ uC_199)) (fun _ h9 => h9) dX4_findFault_61 ?_
              refine zo_getN 1 (.int (nI n)) hx hb hts (fun x h => List.mem_cons_of_mem _ (hU_X3 x h)) hown hE (zq_p hP) (show vwCl[3]? = some (RX3, TX3, 2) from rfl) (by decide) rfl (List.mem_of_getElem? (i := 21) rfl) (fun _ h9 => h9) dX4_findFault_64 ?_
              refine zb_ne (x := a_) (y := n) (tgt := 75) hx hb dX4_findFault_67 (by decide) (by omega) (by omega) (fun c_67 => ?_) (fun c_67 => ?_)
              · refine lv_aload_n hx hb dX4_findFault_75 rfl (lv_at hl 2 rfl) ?_
                refine zo_get 1 (.int (nI a_)) hx hb hts (fun x h => List.mem_cons_of_mem _ (hU_X4 x h)) hown hE (zq_r hP) (show vwCl[4]? = some (RX4, TX4, 5) from rfl) (by decide) rfl (hts _ (List.mem_cons_of_mem _ uC_201)) (fun _ h9 => h9) dX4_findFault_76 ?_
                have hlt_ : a_ < n := by omega
                have hst_ : mWell pd n = (false, a_) := by
                  rw [← hwl, show n + 2 - i = (n + 2 - (i + 1)) + 1 by omega]
                  exact (if_pos (show b = true ∧ a_ < n from ⟨c_18, hlt_⟩)).trans (if_neg (fun h => c_34 ((mSg_is (by decide)).mpr ⟨hlt_, h⟩)))
                exact zr_i hx hb hr hlocks hS (⟨by rw [hst_, if_neg (show ¬ false = true from Bool.noConfusion)], _, _, _, _, hP⟩) dX4_findFault_79
              · refine lv_bipush (v := (-6)) hx hb dX4_findFault_70 (by decide +kernel) ?_
                refine lv_goto (tgt := 79) hx hb dX4_findFault_72 (by decide) ?_
                have hst_ : mWell pd n = (b, a_) := by rw [← hwl]; exact mWl_stop pd n (s := (b, a_)) (fun h => absurd (show a_ < n from h.2) (by omega)) _
                exact zr_i hx hb hr hlocks hS (⟨by rw [hst_, if_pos (show b = true from c_18)], _, _, _, _, hP⟩) dX4_findFault_79
          · refine lv_aload_n hx hb dX4_findFault_37 rfl (lv_at hl 2 rfl) ?_
            refine zc_v (va_runV (As := []) (rest := []) ⟨hx, hb, hml, hown, hts⟩ (c_X4_skipSemicolon l V g n pd a_ kd_ nu_ mo_ hJ) (cwV 0 hts (zgV_ wsC_all uC_225 uC_233 uC_234 uC_235 uC_211) rfl rfl rfl (by decide +kernel) ⟨Nat.le_of_ble_eq_true rfl, Nat.le_of_ble_eq_true rfl⟩) (zPreV (B := fun H => va_P V.1 vwCl (zqW V g n pd a_ kd_ nu_ mo_) H) hP hE (zq_rr hE hP)) rfl rfl hl.1 rfl (lv_room (Nat.le_of_ble_eq_true rfl)) dX4_findFault_38 ⟨Nat.le_of_ble_eq_true rfl, Nat.le_of_ble_eq_true rfl⟩) hS (fun _ h => h) (fun _ h => h) (fun H locs hQ_ _ _ hS => ?_)
            have hP := hQ_
            refine lv_aload_n hx hb dX4_findFault_41 rfl (lv_at hl 2 rfl) ?_
            refine zc_i (va_runV (As := []) (rest := []) ⟨hx, hb, hml, hown, hts⟩ (c_X4_readOrder l V g n pd (a_ + 1) kd_ nu_ mo_ hJ (by omega) (by omega)) (cwV 0 hts (zgV_ wsC_all uC_217 uC_230 uC_231 uC_232 uC_211) rfl rfl rfl (by decide +kernel) ⟨Nat.le_of_ble_eq_true rfl, Nat.le_of_ble_eq_true rfl⟩) (zPreV (B := fun H => va_P V.1 vwCl (zqW V g n pd (a_ + 1) kd_ nu_ mo_) H) hP hE (zq_rr hE hP)) rfl rfl hl.1 rfl (lv_room (Nat.le_of_ble_eq_true rfl)) dX4_findFault_42 ⟨Nat.le_of_ble_eq_true rfl, Nat.le_of_ble_eq_true rfl⟩) hS (fun _ h => h) (fun _ h => h) (fun r_ H locs hQ_ _ _ hS => ?_)
            obtain ⟨hr_, hP⟩ := hQ_
            subst hr_
            refine lv_istore_n (lv' := [(1, .int (if (rTok pd n (a_ + 1) nu_).1 = true then 1 else 0)), (2, .int (nI i)), (0, .ref (g 2))]) hx hb dX4_findFault_45 rfl hl (by decide) rfl (fun ls hl => ?_)
            refine lv_iinc (v := nI (i + 1)) (lv' := [(2, .int (nI (i + 1))), (1, .int (if (rTok pd n (a_ + 1) nu_).1 = true then 1 else 0)), (0, .ref (g 2))]) hx hb dX4_findFault_46 hl (k := 1) rfl (z_inc1 i) (by decide) rfl (fun ls hl => ?_)
            refine lv_goto (tgt := 11) hx hb dX4_findFault_49 (by decide) ?_
            have h59_ := (mSg_is (by decide)).mp c_34
            have h59a_ := h59_.1
            obtain ⟨r1_, r2_, -, -⟩ := rTok_m pd n (a_ + 1) nu_
            have hle1_ := mTok_le pd (n := n) (a := a_ + 1) (by omega)
            have hw1_ : mWl pd n (n + 2 - (i + 1)) ((rTok pd n (a_ + 1) nu_).1, (rTok pd n (a_ + 1) nu_).2.1) = mWell pd n := by
              rw [← hwl, show n + 2 - i = (n + 2 - (i + 1)) + 1 by omega, r1_, r2_]
              exact ((if_pos (show b = true ∧ a_ < n from ⟨c_18, h59a_⟩)).trans (if_pos h59_.2)).symm
            exact ih (i + 1) ((rTok pd n (a_ + 1) nu_).1) ((rTok pd n (a_ + 1) nu_).2.1) (mSg pd n (a_ + 1)) ((rTok pd n (a_ + 1) nu_).2.2.1) ((rTok pd n (a_ + 1) nu_).2.2.2) H locs ls (by omega) (by omega) hw1_ (fun q => by rw [r1_] at q; rw [r2_]; have := hle1_.2.2 q; omega) (by rw [r2_]; exact hle1_.2.1) hP hS (lv_sub hl [0, 1, 2] rfl)
  obtain ⟨r1_, r2_, -, -⟩ := rTok_m pd n 0 nu
  have hle0_ := mTok_le pd (n := n) (a := 0) (Nat.zero_le n)
  exact L_11 ((n + 2) + 1) 1 ((rTok pd n 0 nu).1) ((rTok pd n 0 nu).2.1) (mSg pd n 0) ((rTok pd n 0 nu).2.2.1) ((rTok pd n 0 nu).2.2.2) H locs ls (by omega) (by omega) (by rw [r1_, r2_]; rfl) (fun q => by rw [r1_] at q; rw [r2_]; have := hle0_.2.2 q; omega) (by rw [r2_]; exact hle0_.2.1) hP hS (lv_sub hl [0, 1, 2] rfl)
