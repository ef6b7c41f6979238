theorem z_sl {d mm : Int32} (h1 : 0 ≤ d ∧ d ≤ 99) (h2 : 1 ≤ mm ∧ mm ≤ 9) : d + mm - 1 ≤ 99 ↔ d + mm ≤ 100 := by
  obtain ⟨j, rfl, -, hj⟩ := z_ix (na := 0) (nb := 99) rfl rfl (by decide) (by decide) h1
  obtain ⟨q, rfl, hq1, hq⟩ := z_ix (na := 1) (nb := 9) rfl rfl (by decide) (by decide) h2
  rw [nI_add, show nI (j + q) - 1 = nI (j + q) - nI 1 from rfl, pk_sub (by omega), show (99 : Int32) = nI 99 from rfl, show (100 : Int32) = nI 100 from rfl, nI_leI (by omega) (by omega), nI_leI (by omega) (by omega)]
  omega
theorem z_vat {f : Nat → Int32} {k n : Nat} (hk : k < n) (hn : n < 2 ^ 31) : (if 0 ≤ nI k ∧ nI k < nI n then f (nI k).toNatClampNeg else 0) = f k := by
  rw [if_pos ⟨nI_pos' (by omega), nI_lt hk hn⟩, nI_clamp (by omega)]
theorem z_gap {x : Int32} {n : Nat} (hn : n < 2 ^ 31) (h1 : ¬ x < 0) (h2 : ¬ nI n ≤ x) : ∃ j : Nat, x = nI j ∧ j < n := by
  obtain ⟨j, hj, rfl⟩ := nI_of h1
  refine ⟨j, rfl, ?_⟩
  rcases Nat.lt_or_ge j n with q | q
  · exact q
  · exact absurd (nI_le q hj) h2
theorem z_sl0 {a : Int32} : (0 ≤ a ∧ a ≤ 1) ↔ (a = 0 ∨ a = 1) := by
  constructor
  · intro h
    obtain ⟨q, rfl, -, hq⟩ := z_ix (na := 0) (nb := 1) rfl rfl (by decide) (by decide) h
    rcases (show q = 0 ∨ q = 1 by omega) with rfl | rfl
    · exact Or.inl rfl
    · exact Or.inr rfl
  · intro h
    rcases h with rfl | rfl <;> decide
set_option maxHeartbeats 4000000 in
set_option maxRecDepth 100000 in
theorem c_X7_isIndexOf (l : Launch) (V : zV) (a n : Nat) (f : Nat → Int32) (x : Int32) (hn : n < 2 ^ 31) : Met l yX7_isIndexOf wsX7_isIndexOf (zR 0 0 0) (zPs V [.ref a, .int x] (fun U => zRd U U.heap a n f)) (vp_Si (fun r => r = (if 0 ≤ x ∧ x < nI n then 1 else 0))) 0 0 (fun _ => False) := by
  refine Met.ofW (cc := cX7_isIndexOf) (maxL := 2) (ret := (some .boolean)) (by decide) rfl ?_
  intro p e s m args below meth c s₁ B hml hv
  obtain ⟨rfl, hP, hE⟩ := hv
  have hx := B.exec
  have hb := B.bytes
  have hr := B.returns
  have hts := atoms_spec (ws := wsX7_isIndexOf) B.pre
  have hown : s.vm.findClass RX7 = some m.cls := findClass_of_methodNamed B.named
  have hlocks := B.notSynchronized
  have hl := lv_entry ([.ref a, .int x]) (n := 2) (Nat.le_of_ble_eq_true rfl)
  rw [lg_entry_eq]
  generalize (lg_sl ([.ref a, .int x]) ++ List.replicate (2 - (lg_sl ([.ref a, .int x])).length) Slot.unset).toArray = ls at hl ⊢
  have hl : lv_has ls 2 [(0, .ref a), (1, .int x)] := hl
  refine lv_iload_n hx hb dX7_isIndexOf_0 rfl (lv_at hl 1 rfl) ?_
  refine lv_if_lt (tgt := 14) hx hb dX7_isIndexOf_1 (by decide) (fun c_1 => ?_) (fun c_1 => ?_)
  · refine lv_iconst (v := 0) hx hb dX7_isIndexOf_14 (by decide +kernel) ?_
    exact zr_sz hx hb hr hlocks (by first | exact Or.inl rfl | exact Or.inr rfl | exact z_ite01 | assumption) ((if_neg (fun h => z_lt' c_1 h.1)).symm) dX7_isIndexOf_15
  · refine lv_iload_n hx hb dX7_isIndexOf_4 rfl (lv_at hl 1 rfl) ?_
    refine lv_aload_n hx hb dX7_isIndexOf_5 rfl (lv_at hl 0 rfl) ?_
    refine zo_len (n := n) hx hb hP dX7_isIndexOf_6 ?_
    refine lv_icmp_ge (tgt := 14) hx hb dX7_isIndexOf_7 (by decide) (fun c_7 => ?_) (fun c_7 => ?_)
    · refine lv_iconst (v := 0) hx hb dX7_isIndexOf_14 (by decide +kernel) ?_
      exact zr_sz hx hb hr hlocks (by first | exact Or.inl rfl | exact Or.inr rfl | exact z_ite01 | assumption) ((if_neg (fun h => z_lt' h.2 c_7)).symm) dX7_isIndexOf_15
    · refine lv_iconst (v := 1) hx hb dX7_isIndexOf_10 (by decide +kernel) ?_
      refine lv_goto (tgt := 15) hx hb dX7_isIndexOf_11 (by decide) ?_
      exact zr_sz hx hb hr hlocks (by first | exact Or.inl rfl | exact Or.inr rfl | exact z_ite01 | assumption) ((if_pos ⟨z_nlt c_1, z_nle c_7⟩).symm) dX7_isIndexOf_15
set_option maxHeartbeats 4000000 in
set_option maxRecDepth 100000 in
theorem c_X7_valueAt (l : Launch) (V : zV) (a n : Nat) (f : Nat → Int32) (x : Int32) (hn : n < 2 ^ 31) : Met l yX7_valueAt wsX7_valueAt (zR 0 0 0) (zPs V [.ref a, .int x] (fun U => zRd U U.heap a n f)) (vp_Si (fun r => r = (if 0 ≤ x ∧ x < nI n then f x.toNatClampNeg else 0))) 0 0 (fun _ => False) := by
  refine Met.ofW (cc := cX7_valueAt) (maxL := 2) (ret := (some .int)) (by decide) rfl ?_
  intro p e s m args below meth c s₁ B hml hv
  obtain ⟨rfl, hP, hE⟩ := hv
  have hx := B.exec
  have hb := B.bytes
  have hr := B.returns
  have hts := atoms_spec (ws := wsX7_valueAt) B.pre
  have hown : s.vm.findClass RX7 = some m.cls := findClass_of_methodNamed B.named
  have hlocks := B.notSynchronized
  have hl := lv_entry ([.ref a, .int x]) (n := 2) (Nat.le_of_ble_eq_true rfl)
  rw [lg_entry_eq]
  generalize (lg_sl ([.ref a, .int x]) ++ List.replicate (2 - (lg_sl ([.ref a, .int x])).length) Slot.unset).toArray = ls at hl ⊢
  have hl : lv_has ls 2 [(0, .ref a), (1, .int x)] := hl
  refine lv_iload_n hx hb dX7_valueAt_0 rfl (lv_at hl 1 rfl) ?_
  refine lv_if_lt (tgt := 16) hx hb dX7_valueAt_1 (by decide) (fun c_1 => ?_) (fun c_1 => ?_)
  · refine lv_iconst (v := 0) hx hb dX7_valueAt_16 (by decide +kernel) ?_
    exact zr_si hx hb hr hlocks ((if_neg (fun h => z_lt' c_1 h.1)).symm) dX7_valueAt_17
  · refine lv_iload_n hx hb dX7_valueAt_4 rfl (lv_at hl 1 rfl) ?_
    refine lv_aload_n hx hb dX7_valueAt_5 rfl (lv_at hl 0 rfl) ?_
    refine zo_len (n := n) hx hb hP dX7_valueAt_6 ?_
    refine lv_icmp_ge (tgt := 16) hx hb dX7_valueAt_7 (by decide) (fun c_7 => ?_) (fun c_7 => ?_)
    · refine lv_iconst (v := 0) hx hb dX7_valueAt_16 (by decide +kernel) ?_
      exact zr_si hx hb hr hlocks ((if_neg (fun h => z_lt' h.2 c_7)).symm) dX7_valueAt_17
    · obtain ⟨j, rfl, hj⟩ := z_gap hn c_1 c_7
      refine lv_aload_n hx hb dX7_valueAt_10 rfl (lv_at hl 0 rfl) ?_
      refine lv_iload_n hx hb dX7_valueAt_11 rfl (lv_at hl 1 rfl) ?_
      refine zo_rald (k := j) hx hb hP (by omega) (by first | decide | omega) dX7_valueAt_12 ?_
      refine lv_goto (tgt := 17) hx hb dX7_valueAt_13 (by decide) ?_
      exact zr_si hx hb hr hlocks (by rw [if_pos ⟨by first | exact nI_pos' (by omega) | exact z_nlt c_1, nI_lt hj hn⟩, nI_clamp (by omega)]) dX7_valueAt_17
set_option maxHeartbeats 4000000 in
set_option maxRecDepth 100000 in
theorem c_X7_isSlip (l : Launch) (V : zV) (a_ d mm : Int32) : Met l yX7_isSlip wsX7_isSlip (zR 0 0 0) (zPc V [.int a_, .int d, .int mm] (fun H => True)) (vp_Si (fun r => r = (if mSlip a_ d mm then 1 else 0))) 0 0 (fun _ => False) := by
  refine Met.ofW (cc := cX7_isSlip) (maxL := 3) (ret := (some .boolean)) (by decide) rfl ?_
  intro p e s m args below meth c s₁ B hml hv
  obtain ⟨rfl, hP, hE⟩ := hv
  have hx := B.exec
  have hb := B.bytes
  have hr := B.returns
  have hts := atoms_spec (ws := wsX7_isSlip) B.pre
  have hown : s.vm.findClass RX7 = some m.cls := findClass_of_methodNamed B.named
  have hlocks := B.notSynchronized
  have hl := lv_entry ([.int a_, .int d, .int mm]) (n := 3) (Nat.le_of_ble_eq_true rfl)
  rw [lg_entry_eq]
  generalize (lg_sl ([.int a_, .int d, .int mm]) ++ List.replicate (3 - (lg_sl ([.int a_, .int d, .int mm])).length) Slot.unset).toArray = ls at hl ⊢
  have hl : lv_has ls 3 [(0, .int a_), (1, .int d), (2, .int mm)] := hl
  refine lv_iload_n hx hb dX7_isSlip_0 rfl (lv_at hl 0 rfl) ?_
  refine lv_if_eq (tgt := 9) hx hb dX7_isSlip_1 (by decide) (fun c_1 => ?_) (fun c_1 => ?_)
  · refine lv_iload_n hx hb dX7_isSlip_9 rfl (lv_at hl 1 rfl) ?_
    refine lv_if_lt (tgt := 44) hx hb dX7_isSlip_10 (by decide) (fun c_10 => ?_) (fun c_10 => ?_)
    · refine lv_iconst (v := 0) hx hb dX7_isSlip_44 (by decide +kernel) ?_
      exact zr_sz hx hb hr hlocks (by first | exact Or.inl rfl | exact Or.inr rfl | exact z_ite01 | assumption) ((if_neg (fun h => z_lt' c_10 h.2.1.1)).symm) dX7_isSlip_45
    · refine lv_iload_n hx hb dX7_isSlip_13 rfl (lv_at hl 1 rfl) ?_
      refine lv_bipush (v := 99) hx hb dX7_isSlip_14 (by decide +kernel) ?_
      refine lv_icmp_gt (tgt := 44) hx hb dX7_isSlip_16 (by decide) (fun c_16 => ?_) (fun c_16 => ?_)
      · refine lv_iconst (v := 0) hx hb dX7_isSlip_44 (by decide +kernel) ?_
        exact zr_sz hx hb hr hlocks (by first | exact Or.inl rfl | exact Or.inr rfl | exact z_ite01 | assumption) ((if_neg (fun h => z_lt' c_16 h.2.1.2)).symm) dX7_isSlip_45
      · refine lv_iload_n hx hb dX7_isSlip_19 rfl (lv_at hl 2 rfl) ?_
        refine lv_iconst (v := 1) hx hb dX7_isSlip_20 (by decide +kernel) ?_
        refine lv_icmp_lt (tgt := 44) hx hb dX7_isSlip_21 (by decide) (fun c_21 => ?_) (fun c_21 => ?_)
        · refine lv_iconst (v := 0) hx hb dX7_isSlip_44 (by decide +kernel) ?_
          exact zr_sz hx hb hr hlocks (by first | exact Or.inl rfl | exact Or.inr rfl | exact z_ite01 | assumption) ((if_neg (fun h => z_lt' c_21 h.2.2.1.1)).symm) dX7_isSlip_45
        · refine lv_iload_n hx hb dX7_isSlip_24 rfl (lv_at hl 2 rfl) ?_
          refine lv_bipush (v := 9) hx hb dX7_isSlip_25 (by decide +kernel) ?_
          refine lv_icmp_gt (tgt := 44) hx hb dX7_isSlip_27 (by decide) (fun c_27 => ?_) (fun c_27 => ?_)
          · refine lv_iconst (v := 0) hx hb dX7_isSlip_44 (by decide +kernel) ?_
            exact zr_sz hx hb hr hlocks (by first | exact Or.inl rfl | exact Or.inr rfl | exact z_ite01 | assumption) ((if_neg (fun h => z_lt' c_27 h.2.2.1.2)).symm) dX7_isSlip_45
          · refine lv_iload_n hx hb dX7_isSlip_30 rfl (lv_at hl 1 rfl) ?_
            refine lv_iload_n hx hb dX7_isSlip_31 rfl (lv_at hl 2 rfl) ?_
            refine lv_iadd hx hb dX7_isSlip_32 ?_
            refine lv_iconst (v := 1) hx hb dX7_isSlip_33 (by decide +kernel) ?_
            refine lv_isub hx hb dX7_isSlip_34 ?_
            refine lv_bipush (v := 99) hx hb dX7_isSlip_35 (by decide +kernel) ?_
            refine lv_icmp_gt (tgt := 44) hx hb dX7_isSlip_37 (by decide) (fun c_37 => ?_) (fun c_37 => ?_)
            · refine lv_iconst (v := 0) hx hb dX7_isSlip_44 (by decide +kernel) ?_
              exact zr_sz hx hb hr hlocks (by first | exact Or.inl rfl | exact Or.inr rfl | exact z_ite01 | assumption) ((if_neg (fun h => z_lt' c_37 ((z_sl h.2.1 h.2.2.1).mpr h.2.2.2))).symm) dX7_isSlip_45
            · refine lv_iconst (v := 1) hx hb dX7_isSlip_40 (by decide +kernel) ?_
              refine lv_goto (tgt := 45) hx hb dX7_isSlip_41 (by decide) ?_
              exact zr_sz hx hb hr hlocks (by first | exact Or.inl rfl | exact Or.inr rfl | exact z_ite01 | assumption) ((if_pos ⟨(z_sl0.mpr (Or.inl c_1)), ⟨z_nlt c_10, z_nlt c_16⟩, ⟨z_nlt c_21, z_nlt c_27⟩, (z_sl ⟨z_nlt c_10, z_nlt c_16⟩ ⟨z_nlt c_21, z_nlt c_27⟩).mp (z_nlt c_37)⟩).symm) dX7_isSlip_45
  · refine lv_iload_n hx hb dX7_isSlip_4 rfl (lv_at hl 0 rfl) ?_
    refine lv_iconst (v := 1) hx hb dX7_isSlip_5 (by decide +kernel) ?_
    refine lv_icmp_ne (tgt := 44) hx hb dX7_isSlip_6 (by decide) (fun c_6 => ?_) (fun c_6 => ?_)
    · refine lv_iconst (v := 0) hx hb dX7_isSlip_44 (by decide +kernel) ?_
      exact zr_sz hx hb hr hlocks (by first | exact Or.inl rfl | exact Or.inr rfl | exact z_ite01 | assumption) ((if_neg (fun h => (z_sl0.mp h.1).elim c_1 c_6)).symm) dX7_isSlip_45
    · refine lv_iload_n hx hb dX7_isSlip_9 rfl (lv_at hl 1 rfl) ?_
      refine lv_if_lt (tgt := 44) hx hb dX7_isSlip_10 (by decide) (fun c_10 => ?_) (fun c_10 => ?_)
      · refine lv_iconst (v := 0) hx hb dX7_isSlip_44 (by decide +kernel) ?_
        exact zr_sz hx hb hr hlocks (by first | exact Or.inl rfl | exact Or.inr rfl | exact z_ite01 | assumption) ((if_neg (fun h => z_lt' c_10 h.2.1.1)).symm) dX7_isSlip_45
      · refine lv_iload_n hx hb dX7_isSlip_13 rfl (lv_at hl 1 rfl) ?_
        refine lv_bipush (v := 99) hx hb dX7_isSlip_14 (by decide +kernel) ?_
        refine lv_icmp_gt (tgt := 44) hx hb dX7_isSlip_16 (by decide) (fun c_16 => ?_) (fun c_16 => ?_)
        · refine lv_iconst (v := 0) hx hb dX7_isSlip_44 (by decide +kernel) ?_
          exact zr_sz hx hb hr hlocks (by first | exact Or.inl rfl | exact Or.inr rfl | exact z_ite01 | assumption) ((if_neg (fun h => z_lt' c_16 h.2.1.2)).symm) dX7_isSlip_45
        · refine lv_iload_n hx hb dX7_isSlip_19 rfl (lv_at hl 2 rfl) ?_
          refine lv_iconst (v := 1) hx hb dX7_isSlip_20 (by decide +kernel) ?_
          refine lv_icmp_lt (tgt := 44) hx hb dX7_isSlip_21 (by decide) (fun c_21 => ?_) (fun c_21 => ?_)
          · refine lv_iconst (v := 0) hx hb dX7_isSlip_44 (by decide +kernel) ?_
            exact zr_sz hx hb hr hlocks (by first | exact Or.inl rfl | exact Or.inr rfl | exact z_ite01 | assumption) ((if_neg (fun h => z_lt' c_21 h.2.2.1.1)).symm) dX7_isSlip_45
          · refine lv_iload_n hx hb dX7_isSlip_24 rfl (lv_at hl 2 rfl) ?_
            refine lv_bipush (v := 9) hx hb dX7_isSlip_25 (by decide +kernel) ?_
            refine lv_icmp_gt (tgt := 44) hx hb dX7_isSlip_27 (by decide) (fun c_27 => ?_) (fun c_27 => ?_)
            · refine lv_iconst (v := 0) hx hb dX7_isSlip_44 (by decide +kernel) ?_
              exact zr_sz hx hb hr hlocks (by first | exact Or.inl rfl | exact Or.inr rfl | exact z_ite01 | assumption) ((if_neg (fun h => z_lt' c_27 h.2.2.1.2)).symm) dX7_isSlip_45
            · refine lv_iload_n hx hb dX7_isSlip_30 rfl (lv_at hl 1 rfl) ?_
              refine lv_iload_n hx hb dX7_isSlip_31 rfl (lv_at hl 2 rfl) ?_
              refine lv_iadd hx hb dX7_isSlip_32 ?_
              refine lv_iconst (v := 1) hx hb dX7_isSlip_33 (by decide +kernel) ?_
              refine lv_isub hx hb dX7_isSlip_34 ?_
              refine lv_bipush (v := 99) hx hb dX7_isSlip_35 (by decide +kernel) ?_
              refine lv_icmp_gt (tgt := 44) hx hb dX7_isSlip_37 (by decide) (fun c_37 => ?_) (fun c_37 => ?_)
              · refine lv_iconst (v := 0) hx hb dX7_isSlip_44 (by decide +kernel) ?_
                exact zr_sz hx hb hr hlocks (by first | exact Or.inl rfl | exact Or.inr rfl | exact z_ite01 | assumption) ((if_neg (fun h => z_lt' c_37 ((z_sl h.2.1 h.2.2.1).mpr h.2.2.2))).symm) dX7_isSlip_45
              · refine lv_iconst (v := 1) hx hb dX7_isSlip_40 (by decide +kernel) ?_
                refine lv_goto (tgt := 45) hx hb dX7_isSlip_41 (by decide) ?_
                exact zr_sz hx hb hr hlocks (by first | exact Or.inl rfl | exact Or.inr rfl | exact z_ite01 | assumption) ((if_pos ⟨(z_sl0.mpr (Or.inr c_6)), ⟨z_nlt c_10, z_nlt c_16⟩, ⟨z_nlt c_21, z_nlt c_27⟩, (z_sl ⟨z_nlt c_10, z_nlt c_16⟩ ⟨z_nlt c_21, z_nlt c_27⟩).mp (z_nlt c_37)⟩).symm) dX7_isSlip_45
set_option maxHeartbeats 4000000 in
set_option maxRecDepth 100000 in
theorem c_X7_copyRow (l : Launch) (V : zV) (a b n k : Nat) (f g_ : Nat → Int32) (hn : n < 2 ^ 31) (hk : k < 2 ^ 31) (hab : a ≠ b) : Met l yX7_copyRow wsX7_copyRow (zR 0 0 0) (zPs V [.ref a, .ref b] (fun U => zRd U U.heap a n f ∧ va_P V.1 vwCl [(b, .inl (V.2.1, k, .inl g_))] U.heap)) (zQv (fun H => va_P V.1 vwCl [(b, .inl (V.2.1, k, .inl (fun j => if j < n ∧ j < k then f j else g_ j)))] H) (fun q => q = b)) 0 0 (fun q => q = b) := by
  refine Met.ofW (cc := cX7_copyRow) (maxL := 3) (ret := none) (by decide) rfl ?_
  intro p e s m args below meth c s₁ B hml hv
  obtain ⟨rfl, hP, hE⟩ := hv
  have hx := B.exec
  have hb := B.bytes
  have hr := B.returns
  have hts := atoms_spec (ws := wsX7_copyRow) B.pre
  have hown : s.vm.findClass RX7 = some m.cls := findClass_of_methodNamed B.named
  have hlocks := B.notSynchronized
  have hl := lv_entry ([.ref a, .ref b]) (n := 3) (Nat.le_of_ble_eq_true rfl)
  rw [lg_entry_eq]
  generalize (lg_sl ([.ref a, .ref b]) ++ List.replicate (3 - (lg_sl ([.ref a, .ref b])).length) Slot.unset).toArray = ls at hl ⊢
  have hl : lv_has ls 3 [(0, .ref a), (1, .ref b)] := hl
  obtain ⟨hR0, hP⟩ := hP
  have hS : va_S (fun q => q = b) s.heap s.heap [] := va_S.rf
  refine lv_iconst (v := 0) hx hb dX7_copyRow_0 (by decide +kernel) ?_
  refine lv_istore_n (lv' := [(2, .int 0), (0, .ref a), (1, .ref b)]) hx hb dX7_copyRow_1 rfl hl (by decide) rfl (fun ls hl => ?_)
  have L_2 : ∀ (n_ i : Nat) (q_ : Nat → Int32) (H : Heap) (locs : List Loc) (ls : Array Slot), i ≤ (min n k) → (min n k) + 1 ≤ i + n_ → (q_ = fun j => if j < i then f j else g_ j) → va_P V.1 vwCl ([(b, .inl (V.2.1, k, .inl q_))]) H → va_S (fun q => q = b) s.heap H locs → lv_has ls 3 [(2, .int (nI i)), (0, .ref a), (1, .ref b)] → W p l e (headSpec wsX7_copyRow (zR 0 0 0)).room s m (List.toArray [.ref a, .ref b]) below meth c H locs 0 0 (MQ below (zQv (fun H => va_P V.1 vwCl [(b, .inl (V.2.1, k, .inl (fun j => if j < n ∧ j < k then f j else g_ j)))] H) (fun q => q = b)) (List.toArray [.ref a, .ref b]) s 0 0 (fun q => q = b)) (F0 m 2 ls []) := by
    intro n_
    induction n_ with
    | zero => intro i q_ H locs ls hi_ hn_; exact absurd hn_ (by omega)
    | succ n_ ih =>
      intro i q_ H locs ls hi_ hn_ eq_ hP hS hl
      refine lv_iload_n hx hb dX7_copyRow_2 rfl (lv_at hl 0 rfl) ?_
      refine lv_aload_n hx hb dX7_copyRow_3 rfl (lv_at hl 1 rfl) ?_
      refine zo_len (n := n) hx hb (hR0.kept (hS.2.1 a hR0.lt hab)) dX7_copyRow_4 ?_
      refine zb_ge (x := i) (y := n) (tgt := 26) hx hb dX7_copyRow_5 (by decide) (by omega) (by omega) (fun c_5 => ?_) (fun c_5 => ?_)
      · have hq_ : (fun j => if j < n ∧ j < k then f j else g_ j) = q_ := by
          rw [eq_]; funext j; by_cases h : j < i
          · rw [if_pos h, if_pos (by omega)]
          · rw [if_neg h, if_neg (by omega)]
        exact zr_v hx hb hr hlocks hS (by rw [hq_]; exact hP) dX7_copyRow_26
      · refine lv_iload_n hx hb dX7_copyRow_8 rfl (lv_at hl 0 rfl) ?_
        refine lv_aload_n hx hb dX7_copyRow_9 rfl (lv_at hl 2 rfl) ?_
        refine zo_len (n := k) hx hb (zRd_of hE (zP1_at hP)) dX7_copyRow_10 ?_
        refine zb_ge (x := i) (y := k) (tgt := 26) hx hb dX7_copyRow_11 (by decide) (by omega) (by omega) (fun c_11 => ?_) (fun c_11 => ?_)
        · have hq_ : (fun j => if j < n ∧ j < k then f j else g_ j) = q_ := by
            rw [eq_]; funext j; by_cases h : j < i
            · rw [if_pos h, if_pos (by omega)]
            · rw [if_neg h, if_neg (by omega)]
          exact zr_v hx hb hr hlocks hS (by rw [hq_]; exact hP) dX7_copyRow_26
        · refine lv_aload_n hx hb dX7_copyRow_14 rfl (lv_at hl 2 rfl) ?_
          refine lv_iload_n hx hb dX7_copyRow_15 rfl (lv_at hl 0 rfl) ?_
          refine lv_aload_n hx hb dX7_copyRow_16 rfl (lv_at hl 1 rfl) ?_
          refine lv_iload_n hx hb dX7_copyRow_17 rfl (lv_at hl 0 rfl) ?_
          refine zo_rald (k := i) hx hb (hR0.kept (hS.2.1 a hR0.lt hab)) (by omega) (by first | decide | omega) dX7_copyRow_18 ?_
          refine z_iast (k := i) hx hb hE hP (zD1 (by exact rfl)) hS 0 rfl (by omega) (by omega) dX7_copyRow_19 (fun H locs hP hS => ?_)
          obtain ⟨q2_, eq2_⟩ : ∃ z, z = upd q_ i (f i) := ⟨_, rfl⟩
          have hP : va_P V.1 vwCl [(b, .inl (V.2.1, k, .inl q2_))] H := by rw [eq2_]; exact hP
          have e_ : q2_ = fun j => if j < i + 1 then f j else g_ j := by
            rw [eq2_, eq_]; funext j; simp only [upd]; by_cases h1 : j = i
            · subst h1; rw [if_pos rfl, if_pos (by omega)]
            · rw [if_neg h1]; by_cases h2 : j < i
              · rw [if_pos h2, if_pos (by omega)]
              · rw [if_neg h2, if_neg (by omega)]
          refine lv_iinc (v := nI (i + 1)) (lv' := [(2, .int (nI (i + 1))), (0, .ref a), (1, .ref b)]) hx hb dX7_copyRow_20 hl (k := 0) rfl (z_inc1 i) (by decide) rfl (fun ls hl => ?_)
          refine lv_goto (tgt := 2) hx hb dX7_copyRow_23 (by decide) ?_
          exact ih (i + 1) q2_ H locs ls (by omega) (by omega) e_ hP hS (lv_sub hl [0, 1, 2] rfl)
  exact L_2 ((min n k) + 1) 0 g_ s.heap [] ls (by omega) (by omega) (by funext j; rw [if_neg (by omega)]) hP hS (lv_sub hl [0, 1, 2] rfl)
set_option maxHeartbeats 4000000 in
set_option maxRecDepth 100000 in
theorem c_X5_last (l : Launch) (V : zV) (a : Nat) (nx : Option Nat) (f : Nat → Int32) : Met l yX5_last wsX5_last (zR 0 0 0) (zPc V [.ref a] (fun H => va_at V.1 vwCl (a, .inr (5, zsO nx f)) H)) (vp_Si (fun r => r = (f 4 + f 5 - 1))) 0 0 (fun _ => False) := by
  refine Met.ofW (cc := cX5_last) (maxL := 1) (ret := (some .int)) (by decide) rfl ?_
  intro p e s m args below meth c s₁ B hml hv
  obtain ⟨rfl, hP, hE⟩ := hv
  have hx := B.exec
  have hb := B.bytes
  have hr := B.returns
  have hts := atoms_spec (ws := wsX5_last) B.pre
  have hown : s.vm.findClass RX5 = some m.cls := findClass_of_methodNamed B.named
  have hlocks := B.notSynchronized
  have hl := lv_entry ([.ref a]) (n := 1) (Nat.le_of_ble_eq_true rfl)
  rw [lg_entry_eq]
  generalize (lg_sl ([.ref a]) ++ List.replicate (1 - (lg_sl ([.ref a])).length) Slot.unset).toArray = ls at hl ⊢
  have hl : lv_has ls 1 [(0, .ref a)] := hl
  refine lv_aload_n hx hb dX5_last_0 rfl (lv_at hl 0 rfl) ?_
  refine zo_get 4 (.int (f 4)) hx hb hts (fun x h => List.mem_cons_of_mem _ (hU_X5 x h)) hown hE hP (show vwCl[5]? = some (RX5, TX5, 8) from rfl) (by decide) rfl (hts _ (List.mem_cons_of_mem _ uC_31)) (fun _ h9 => h9) dX5_last_1 ?_
  refine lv_aload_n hx hb dX5_last_4 rfl (lv_at hl 0 rfl) ?_
  refine zo_get 5 (.int (f 5)) hx hb hts (fun x h => List.mem_cons_of_mem _ (hU_X5 x h)) hown hE hP (show vwCl[5]? = some (RX5, TX5, 8) from rfl) (by decide) rfl (hts _ (List.mem_cons_of_mem _ uC_32)) (fun _ h9 => h9) dX5_last_5 ?_
  refine lv_iadd hx hb dX5_last_8 ?_
  refine lv_iconst (v := 1) hx hb dX5_last_9 (by decide +kernel) ?_
  refine lv_isub hx hb dX5_last_10 ?_
  exact zr_si hx hb hr hlocks rfl dX5_last_11
set_option maxHeartbeats 4000000 in
set_option maxRecDepth 100000 in
theorem c_X5_isOfSort (l : Launch) (V : zV) (a : Nat) (nx : Option Nat) (f : Nat → Int32) (x : Int32) : Met l yX5_isOfSort wsX5_isOfSort (zR 0 0 0) (zPc V [.ref a, .int x] (fun H => va_at V.1 vwCl (a, .inr (5, zsO nx f)) H)) (vp_Si (fun r => r = (if ¬ f 1 = 0 ∧ f 3 = x then 1 else 0))) 0 0 (fun _ => False) := by
  refine Met.ofW (cc := cX5_isOfSort) (maxL := 2) (ret := (some .boolean)) (by decide) rfl ?_
  intro p e s m args below meth c s₁ B hml hv
  obtain ⟨rfl, hP, hE⟩ := hv
  have hx := B.exec
  have hb := B.bytes
  have hr := B.returns
  have hts := atoms_spec (ws := wsX5_isOfSort) B.pre
  have hown : s.vm.findClass RX5 = some m.cls := findClass_of_methodNamed B.named
  have hlocks := B.notSynchronized
  have hl := lv_entry ([.ref a, .int x]) (n := 2) (Nat.le_of_ble_eq_true rfl)
  rw [lg_entry_eq]
  generalize (lg_sl ([.ref a, .int x]) ++ List.replicate (2 - (lg_sl ([.ref a, .int x])).length) Slot.unset).toArray = ls at hl ⊢
  have hl : lv_has ls 2 [(0, .ref a), (1, .int x)] := hl
  refine lv_aload_n hx hb dX5_isOfSort_0 rfl (lv_at hl 0 rfl) ?_
  refine zo_get 1 (.int (f 1)) hx hb hts (fun x h => List.mem_cons_of_mem _ (hU_X5 x h)) hown hE hP (show vwCl[5]? = some (RX5, TX5, 8) from rfl) (by decide) rfl (hts _ (List.mem_cons_of_mem _ uC_28)) (fun _ h9 => h9) dX5_isOfSort_1 ?_
  refine lv_if_eq (tgt := 19) hx hb dX5_isOfSort_4 (by decide) (fun c_4 => ?_) (fun c_4 => ?_)
  · refine lv_iconst (v := 0) hx hb dX5_isOfSort_19 (by decide +kernel) ?_
    exact zr_sz hx hb hr hlocks (by first | exact Or.inl rfl | exact Or.inr rfl | exact z_ite01 | assumption) ((if_neg (fun h => h.1 c_4)).symm) dX5_isOfSort_20
  · refine lv_aload_n hx hb dX5_isOfSort_7 rfl (lv_at hl 0 rfl) ?_
    refine zo_get 3 (.int (f 3)) hx hb hts (fun x h => List.mem_cons_of_mem _ (hU_X5 x h)) hown hE hP (show vwCl[5]? = some (RX5, TX5, 8) from rfl) (by decide) rfl (hts _ (List.mem_cons_of_mem _ uC_30)) (fun _ h9 => h9) dX5_isOfSort_8 ?_
    refine lv_iload_n hx hb dX5_isOfSort_11 rfl (lv_at hl 1 rfl) ?_
    refine lv_icmp_ne (tgt := 19) hx hb dX5_isOfSort_12 (by decide) (fun c_12 => ?_) (fun c_12 => ?_)
    · refine lv_iconst (v := 0) hx hb dX5_isOfSort_19 (by decide +kernel) ?_
      exact zr_sz hx hb hr hlocks (by first | exact Or.inl rfl | exact Or.inr rfl | exact z_ite01 | assumption) ((if_neg (fun h => c_12 h.2)).symm) dX5_isOfSort_20
    · refine lv_iconst (v := 1) hx hb dX5_isOfSort_15 (by decide +kernel) ?_
      refine lv_goto (tgt := 20) hx hb dX5_isOfSort_16 (by decide) ?_
      exact zr_sz hx hb hr hlocks (by first | exact Or.inl rfl | exact Or.inr rfl | exact z_ite01 | assumption) ((if_pos ⟨c_4, c_12⟩).symm) dX5_isOfSort_20
set_option maxHeartbeats 4000000 in
set_option maxRecDepth 100000 in
theorem c_X5_isAheadOf (l : Launch) (V : zV) (a b : Nat) (nx nx2 : Option Nat) (f f2 : Nat → Int32) : Met l yX5_isAheadOf wsX5_isAheadOf (zR 0 0 0) (zPc V [.ref a, .ref b] (fun H => va_at V.1 vwCl (a, .inr (5, zsO nx f)) H ∧ va_at V.1 vwCl (b, .inr (5, zsO nx2 f2)) H)) (vp_Si (fun r => r = (if f 4 < f2 4 ∨ (f 4 = f2 4 ∧ f 2 < f2 2) then 1 else 0))) 0 0 (fun _ => False) := by
  refine Met.ofW (cc := cX5_isAheadOf) (maxL := 2) (ret := (some .boolean)) (by decide) rfl ?_
  intro p e s m args below meth c s₁ B hml hv
  obtain ⟨rfl, hP, hE⟩ := hv
  have hx := B.exec
  have hb := B.bytes
  have hr := B.returns
  have hts := atoms_spec (ws := wsX5_isAheadOf) B.pre
  have hown : s.vm.findClass RX5 = some m.cls := findClass_of_methodNamed B.named
  have hlocks := B.notSynchronized
  have hl := lv_entry ([.ref a, .ref b]) (n := 2) (Nat.le_of_ble_eq_true rfl)
  rw [lg_entry_eq]
  generalize (lg_sl ([.ref a, .ref b]) ++ List.replicate (2 - (lg_sl ([.ref a, .ref b])).length) Slot.unset).toArray = ls at hl ⊢
  have hl : lv_has ls 2 [(0, .ref a), (1, .ref b)] := hl
  refine lv_aload_n hx hb dX5_isAheadOf_0 rfl (lv_at hl 0 rfl) ?_
  refine zo_get 4 (.int (f 4)) hx hb hts (fun x h => List.mem_cons_of_mem _ (hU_X5 x h)) hown hE hP.1 (show vwCl[5]? = some (RX5, TX5, 8) from rfl) (by decide) rfl (hts _ (List.mem_cons_of_mem _ uC_31)) (fun _ h9 => h9) dX5_isAheadOf_1 ?_
  refine lv_aload_n hx hb dX5_isAheadOf_4 rfl (lv_at hl 1 rfl) ?_
  refine zo_get 4 (.int (f2 4)) hx hb hts (fun x h => List.mem_cons_of_mem _ (hU_X5 x h)) hown hE hP.2 (show vwCl[5]? = some (RX5, TX5, 8) from rfl) (by decide) rfl (hts _ (List.mem_cons_of_mem _ uC_31)) (fun _ h9 => h9) dX5_isAheadOf_5 ?_
  refine lv_icmp_lt (tgt := 33) hx hb dX5_isAheadOf_8 (by decide) (fun c_8 => ?_) (fun c_8 => ?_)
  · refine lv_iconst (v := 1) hx hb dX5_isAheadOf_33 (by decide +kernel) ?_
    refine lv_goto (tgt := 38) hx hb dX5_isAheadOf_34 (by decide) ?_
    exact zr_sz hx hb hr hlocks (by first | exact Or.inl rfl | exact Or.inr rfl | exact z_ite01 | assumption) ((if_pos (Or.inl c_8)).symm) dX5_isAheadOf_38
  · refine lv_aload_n hx hb dX5_isAheadOf_11 rfl (lv_at hl 0 rfl) ?_
    refine zo_get 4 (.int (f 4)) hx hb hts (fun x h => List.mem_cons_of_mem _ (hU_X5 x h)) hown hE hP.1 (show vwCl[5]? = some (RX5, TX5, 8) from rfl) (by decide) rfl (hts _ (List.mem_cons_of_mem _ uC_31)) (fun _ h9 => h9) dX5_isAheadOf_12 ?_
    refine lv_aload_n hx hb dX5_isAheadOf_15 rfl (lv_at hl 1 rfl) ?_
    refine zo_get 4 (.int (f2 4)) hx hb hts (fun x h => List.mem_cons_of_mem _ (hU_X5 x h)) hown hE hP.2 (show vwCl[5]? = some (RX5, TX5, 8) from rfl) (by decide) rfl (hts _ (List.mem_cons_of_mem _ uC_31)) (fun _ h9 => h9) dX5_isAheadOf_16 ?_
    refine lv_icmp_ne (tgt := 37) hx hb dX5_isAheadOf_19 (by decide) (fun c_19 => ?_) (fun c_19 => ?_)
    · refine lv_iconst (v := 0) hx hb dX5_isAheadOf_37 (by decide +kernel) ?_
      exact zr_sz hx hb hr hlocks (by first | exact Or.inl rfl | exact Or.inr rfl | exact z_ite01 | assumption) ((if_neg (fun h => h.elim c_8 (fun q => c_19 q.1))).symm) dX5_isAheadOf_38
    · refine lv_aload_n hx hb dX5_isAheadOf_22 rfl (lv_at hl 0 rfl) ?_
      refine zo_get 2 (.int (f 2)) hx hb hts (fun x h => List.mem_cons_of_mem _ (hU_X5 x h)) hown hE hP.1 (show vwCl[5]? = some (RX5, TX5, 8) from rfl) (by decide) rfl (hts _ (List.mem_cons_of_mem _ uC_29)) (fun _ h9 => h9) dX5_isAheadOf_23 ?_
      refine lv_aload_n hx hb dX5_isAheadOf_26 rfl (lv_at hl 1 rfl) ?_
      refine zo_get 2 (.int (f2 2)) hx hb hts (fun x h => List.mem_cons_of_mem _ (hU_X5 x h)) hown hE hP.2 (show vwCl[5]? = some (RX5, TX5, 8) from rfl) (by decide) rfl (hts _ (List.mem_cons_of_mem _ uC_29)) (fun _ h9 => h9) dX5_isAheadOf_27 ?_
      refine lv_icmp_ge (tgt := 37) hx hb dX5_isAheadOf_30 (by decide) (fun c_30 => ?_) (fun c_30 => ?_)
      · refine lv_iconst (v := 0) hx hb dX5_isAheadOf_37 (by decide +kernel) ?_
        exact zr_sz hx hb hr hlocks (by first | exact Or.inl rfl | exact Or.inr rfl | exact z_ite01 | assumption) ((if_neg (fun h => h.elim c_8 (fun q => z_lt' q.2 c_30))).symm) dX5_isAheadOf_38
      · refine lv_iconst (v := 1) hx hb dX5_isAheadOf_33 (by decide +kernel) ?_
        refine lv_goto (tgt := 38) hx hb dX5_isAheadOf_34 (by decide) ?_
        exact zr_sz hx hb hr hlocks (by first | exact Or.inl rfl | exact Or.inr rfl | exact z_ite01 | assumption) ((if_pos (Or.inr ⟨c_19, z_nle c_30⟩)).symm) dX5_isAheadOf_38
set_option maxHeartbeats 4000000 in
set_option maxRecDepth 100000 in
theorem c_X5_copyFrom (l : Launch) (V : zV) (a b : Nat) (nx nx2 : Option Nat) (f f2 : Nat → Int32) (hab : b ≠ a) (hw1 : f2 1 = 0 ∨ f2 1 = 1) : Met l yX5_copyFrom wsX5_copyFrom (zR 0 0 0) (zPc V [.ref a, .ref b] (fun H => va_P V.1 vwCl [(a, .inr (5, zsO nx f))] H ∧ va_at V.1 vwCl (b, .inr (5, zsO nx2 f2)) H)) (zQv (fun H => va_P V.1 vwCl [(a, .inr (5, zsO nx f2))] H) (fun q => q = a)) 0 0 (fun q => q = a) := by
  refine Met.ofW (cc := cX5_copyFrom) (maxL := 2) (ret := none) (by decide) rfl ?_
  intro p e s m args below meth c s₁ B hml hv
  obtain ⟨rfl, hP, hE⟩ := hv
  have hx := B.exec
  have hb := B.bytes
  have hr := B.returns
  have hts := atoms_spec (ws := wsX5_copyFrom) B.pre
  have hown : s.vm.findClass RX5 = some m.cls := findClass_of_methodNamed B.named
  have hlocks := B.notSynchronized
  have hl := lv_entry ([.ref a, .ref b]) (n := 2) (Nat.le_of_ble_eq_true rfl)
  rw [lg_entry_eq]
  generalize (lg_sl ([.ref a, .ref b]) ++ List.replicate (2 - (lg_sl ([.ref a, .ref b])).length) Slot.unset).toArray = ls at hl ⊢
  have hl : lv_has ls 2 [(0, .ref a), (1, .ref b)] := hl
  obtain ⟨hP, hB0⟩ := hP
  have hS : va_S (fun q => q = a) s.heap s.heap [] := va_S.rf
  have hbl : b < s.heap.size := hB0.lt
  have hbool : narrow .boolean (.int (f2 1)) = .int (f2 1) := by rcases hw1 with e_ | e_ <;> rw [e_] <;> rfl
  have hfitb : fits .boolean (.int (f2 1)) = true := by rcases hw1 with e_ | e_ <;> rw [e_] <;> rfl
  refine lv_aload_n hx hb dX5_copyFrom_0 rfl (lv_at hl 0 rfl) ?_
  refine lv_aload_n hx hb dX5_copyFrom_1 rfl (lv_at hl 1 rfl) ?_
  refine zo_get 1 (.int (f2 1)) hx hb hts (fun x h => List.mem_cons_of_mem _ (hU_X5 x h)) hown hE (hB0.kept (hS.2.1 b hbl hab)) (show vwCl[5]? = some (RX5, TX5, 8) from rfl) (by decide) rfl (hts _ (List.mem_cons_of_mem _ uC_28)) (fun _ h9 => h9) dX5_copyFrom_2 ?_
  refine zo_put (p0 := 0) 1 (.int (f2 1)) .boolean hx hb hts (fun x h => List.mem_cons_of_mem _ (hU_X5 x h)) tyX5 tyX5_ok nmX5 hown hE hP (zD1 (by exact rfl)) hS rfl (show vwCl[5]? = some (RX5, TX5, 8) from rfl) (by decide) (Nat.le_of_ble_eq_true rfl) rfl (by decide +kernel) hbool hfitb (hts _ (List.mem_cons_of_mem _ uC_28)) (fun _ h9 => h9) dX5_copyFrom_5 (fun H locs hP hS => ?_)
  have hP : va_P V.1 vwCl [(a, .inr (5, zsO nx (upd f 1 (f2 1))))] H := hP
  refine lv_aload_n hx hb dX5_copyFrom_8 rfl (lv_at hl 0 rfl) ?_
  refine lv_aload_n hx hb dX5_copyFrom_9 rfl (lv_at hl 1 rfl) ?_
  refine zo_get 2 (.int (f2 2)) hx hb hts (fun x h => List.mem_cons_of_mem _ (hU_X5 x h)) hown hE (hB0.kept (hS.2.1 b hbl hab)) (show vwCl[5]? = some (RX5, TX5, 8) from rfl) (by decide) rfl (hts _ (List.mem_cons_of_mem _ uC_29)) (fun _ h9 => h9) dX5_copyFrom_10 ?_
  refine zo_put (p0 := 0) 2 (.int (f2 2)) .int hx hb hts (fun x h => List.mem_cons_of_mem _ (hU_X5 x h)) tyX5 tyX5_ok nmX5 hown hE hP (zD1 (by exact rfl)) hS rfl (show vwCl[5]? = some (RX5, TX5, 8) from rfl) (by decide) (Nat.le_of_ble_eq_true rfl) rfl (by decide +kernel) rfl rfl (hts _ (List.mem_cons_of_mem _ uC_29)) (fun _ h9 => h9) dX5_copyFrom_13 (fun H locs hP hS => ?_)
  have hP : va_P V.1 vwCl [(a, .inr (5, zsO nx (upd (upd f 1 (f2 1)) 2 (f2 2))))] H := hP
  refine lv_aload_n hx hb dX5_copyFrom_16 rfl (lv_at hl 0 rfl) ?_
  refine lv_aload_n hx hb dX5_copyFrom_17 rfl (lv_at hl 1 rfl) ?_
  refine zo_get 3 (.int (f2 3)) hx hb hts (fun x h => List.mem_cons_of_mem _ (hU_X5 x h)) hown hE (hB0.kept (hS.2.1 b hbl hab)) (show vwCl[5]? = some (RX5, TX5, 8) from rfl) (by decide) rfl (hts _ (List.mem_cons_of_mem _ uC_30)) (fun _ h9 => h9) dX5_copyFrom_18 ?_
  refine zo_put (p0 := 0) 3 (.int (f2 3)) .int hx hb hts (fun x h => List.mem_cons_of_mem _ (hU_X5 x h)) tyX5 tyX5_ok nmX5 hown hE hP (zD1 (by exact rfl)) hS rfl (show vwCl[5]? = some (RX5, TX5, 8) from rfl) (by decide) (Nat.le_of_ble_eq_true rfl) rfl (by decide +kernel) rfl rfl (hts _ (List.mem_cons_of_mem _ uC_30)) (fun _ h9 => h9) dX5_copyFrom_21 (fun H locs hP hS => ?_)
  have hP : va_P V.1 vwCl [(a, .inr (5, zsO nx (upd (upd (upd f 1 (f2 1)) 2 (f2 2)) 3 (f2 3))))] H := hP
  refine lv_aload_n hx hb dX5_copyFrom_24 rfl (lv_at hl 0 rfl) ?_
  refine lv_aload_n hx hb dX5_copyFrom_25 rfl (lv_at hl 1 rfl) ?_
  refine zo_get 4 (.int (f2 4)) hx hb hts (fun x h => List.mem_cons_of_mem _ (hU_X5 x h)) hown hE (hB0.kept (hS.2.1 b hbl hab)) (show vwCl[5]? = some (RX5, TX5, 8) from rfl) (by decide) rfl (hts _ (List.mem_cons_of_mem _ uC_31)) (fun _ h9 => h9) dX5_copyFrom_26 ?_
  refine zo_put (p0 := 0) 4 (.int (f2 4)) .int hx hb hts (fun x h => List.mem_cons_of_mem _ (hU_X5 x h)) tyX5 tyX5_ok nmX5 hown hE hP (zD1 (by exact rfl)) hS rfl (show vwCl[5]? = some (RX5, TX5, 8) from rfl) (by decide) (Nat.le_of_ble_eq_true rfl) rfl (by decide +kernel) rfl rfl (hts _ (List.mem_cons_of_mem _ uC_31)) (fun _ h9 => h9) dX5_copyFrom_29 (fun H locs hP hS => ?_)
  have hP : va_P V.1 vwCl [(a, .inr (5, zsO nx (upd (upd (upd (upd f 1 (f2 1)) 2 (f2 2)) 3 (f2 3)) 4 (f2 4))))] H := hP
  refine lv_aload_n hx hb dX5_copyFrom_32 rfl (lv_at hl 0 rfl) ?_
  refine lv_aload_n hx hb dX5_copyFrom_33 rfl (lv_at hl 1 rfl) ?_
  refine zo_get 5 (.int (f2 5)) hx hb hts (fun x h => List.mem_cons_of_mem _ (hU_X5 x h)) hown hE (hB0.kept (hS.2.1 b hbl hab)) (show vwCl[5]? = some (RX5, TX5, 8) from rfl) (by decide) rfl (hts _ (List.mem_cons_of_mem _ uC_32)) (fun _ h9 => h9) dX5_copyFrom_34 ?_
  refine zo_put (p0 := 0) 5 (.int (f2 5)) .int hx hb hts (fun x h => List.mem_cons_of_mem _ (hU_X5 x h)) tyX5 tyX5_ok nmX5 hown hE hP (zD1 (by exact rfl)) hS rfl (show vwCl[5]? = some (RX5, TX5, 8) from rfl) (by decide) (Nat.le_of_ble_eq_true rfl) rfl (by decide +kernel) rfl rfl (hts _ (List.mem_cons_of_mem _ uC_32)) (fun _ h9 => h9) dX5_copyFrom_37 (fun H locs hP hS => ?_)
  have hP : va_P V.1 vwCl [(a, .inr (5, zsO nx (upd (upd (upd (upd (upd f 1 (f2 1)) 2 (f2 2)) 3 (f2 3)) 4 (f2 4)) 5 (f2 5))))] H := hP
  refine lv_aload_n hx hb dX5_copyFrom_40 rfl (lv_at hl 0 rfl) ?_
  refine lv_aload_n hx hb dX5_copyFrom_41 rfl (lv_at hl 1 rfl) ?_
  refine zo_get 6 (.int (f2 6)) hx hb hts (fun x h => List.mem_cons_of_mem _ (hU_X5 x h)) hown hE (hB0.kept (hS.2.1 b hbl hab)) (show vwCl[5]? = some (RX5, TX5, 8) from rfl) (by decide) rfl (hts _ (List.mem_cons_of_mem _ uC_33)) (fun _ h9 => h9) dX5_copyFrom_42 ?_
  refine zo_put (p0 := 0) 6 (.int (f2 6)) .int hx hb hts (fun x h => List.mem_cons_of_mem _ (hU_X5 x h)) tyX5 tyX5_ok nmX5 hown hE hP (zD1 (by exact rfl)) hS rfl (show vwCl[5]? = some (RX5, TX5, 8) from rfl) (by decide) (Nat.le_of_ble_eq_true rfl) rfl (by decide +kernel) rfl rfl (hts _ (List.mem_cons_of_mem _ uC_33)) (fun _ h9 => h9) dX5_copyFrom_45 (fun H locs hP hS => ?_)
  have hP : va_P V.1 vwCl [(a, .inr (5, zsO nx (upd (upd (upd (upd (upd (upd f 1 (f2 1)) 2 (f2 2)) 3 (f2 3)) 4 (f2 4)) 5 (f2 5)) 6 (f2 6))))] H := hP
  refine lv_aload_n hx hb dX5_copyFrom_48 rfl (lv_at hl 0 rfl) ?_
  refine lv_aload_n hx hb dX5_copyFrom_49 rfl (lv_at hl 1 rfl) ?_
  refine zo_get 7 (.int (f2 7)) hx hb hts (fun x h => List.mem_cons_of_mem _ (hU_X5 x h)) hown hE (hB0.kept (hS.2.1 b hbl hab)) (show vwCl[5]? = some (RX5, TX5, 8) from rfl) (by decide) rfl (hts _ (List.mem_cons_of_mem _ uC_34)) (fun _ h9 => h9) dX5_copyFrom_50 ?_
  refine zo_put (p0 := 0) 7 (.int (f2 7)) .int hx hb hts (fun x h => List.mem_cons_of_mem _ (hU_X5 x h)) tyX5 tyX5_ok nmX5 hown hE hP (zD1 (by exact rfl)) hS rfl (show vwCl[5]? = some (RX5, TX5, 8) from rfl) (by decide) (Nat.le_of_ble_eq_true rfl) rfl (by decide +kernel) rfl rfl (hts _ (List.mem_cons_of_mem _ uC_34)) (fun _ h9 => h9) dX5_copyFrom_53 (fun H locs hP hS => ?_)
  have hP : va_P V.1 vwCl [(a, .inr (5, zsO nx (upd (upd (upd (upd (upd (upd (upd f 1 (f2 1)) 2 (f2 2)) 3 (f2 3)) 4 (f2 4)) 5 (f2 5)) 6 (f2 6)) 7 (f2 7))))] H := hP
  exact zr_v hx hb hr hlocks hS (by show va_P V.1 vwCl [(a, .inr (5, [va_rf nx, .int (f2 1), .int (f2 2), .int (f2 3), .int (f2 4), .int (f2 5), .int (f2 6), .int (f2 7)]))] _; exact hP) dX5_copyFrom_56
