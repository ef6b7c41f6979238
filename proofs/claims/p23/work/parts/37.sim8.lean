section RQ
variable {A : zA} {w : Nat → Int32} {n N t : Nat}
theorem qOf (hR : Rep A w n N t) (x wh : Int32) : uOf A x wh = mOf w n x wh := by
  obtain ⟨σ, ar, B, hP, hW, hI, hO, hE, hL, hwf⟩ := hR
  have hf := rFind hP hO x
  unfold uOf mOf
  rcases hq : mFind w n x with _ | k
  · rw [hf, hq]; rfl
  · rw [hf, hq]
    show uOfK A wh (σ k) = (if wh = 0 then zF w k 1 else if wh = 1 then zF w k 2 else if wh = 2 then mLast w k else if wh = 3 then w 6 - zF w k 4 else if wh = 4 then (if w (zF w k 1).toNatClampNeg ≤ w 6 - zF w k 4 then 1 else 0) else if wh = 5 then zF w k 5 else -2)
    obtain ⟨hk, -, -⟩ := zFirst_lt hq
    have ho := rOldI hP hE hI hk
    obtain ⟨p0, p1, p2, p3, p4, p5⟩ := rPl_f hP hk
    obtain ⟨hT, e6, e5, e7, e8, e9, e10, e12, e13, e11, e3, e4⟩ := hE
    unfold uOfK
    by_cases h0 : wh = 0
    · rw [if_pos h0, if_pos h0]; exact p1
    · rw [if_neg h0, if_neg h0]
      by_cases h1 : wh = 1
      · rw [if_pos h1, if_pos h1]; exact p2
      · rw [if_neg h1, if_neg h1]
        by_cases h2 : wh = 2
        · rw [if_pos h2, if_pos h2, p2, p3]; rfl
        · rw [if_neg h2, if_neg h2]
          by_cases h3 : wh = 3
          · rw [if_pos h3, if_pos h3, e6, p4]
          · rw [if_neg h3, if_neg h3]
            by_cases h4 : wh = 4
            · rw [if_pos h4, if_pos h4]
              by_cases h5 : w (zF w k 1).toNatClampNeg ≤ w 6 - zF w k 4
              · rw [if_pos (ho.mpr h5), if_pos h5]
              · rw [if_neg (fun z => h5 (ho.mp z)), if_neg h5]
            · rw [if_neg h4, if_neg h4, p5]
theorem z_wr (wr : Int32) : (wr = 0 ∨ wr = 1) ↔ (0 ≤ wr ∧ wr ≤ 1) := by
  constructor
  · intro h
    rcases h with rfl | rfl <;> decide
  · intro h
    obtain ⟨j, rfl, -, h⟩ := z_ix (na := 0) (nb := 1) rfl rfl (by decide) (by decide) h
    rcases (show j = 0 ∨ j = 1 by omega) with rfl | rfl
    · exact Or.inl rfl
    · exact Or.inr rfl
theorem qWait (hR : Rep A w n N t) (wr rk : Int32) : uWait A wr rk = mWait w n wr rk := by
  obtain ⟨σ, ar, B, hP, hW, hI, hO, hE, hL, hwf⟩ := hR
  have hf := rRank hP hO hW.2.1 wr rk
  unfold uWait mWait
  by_cases h : wr = 0 ∨ wr = 1
  · rw [if_pos h, if_pos ((z_wr wr).mp h), hf]
    rcases hq : zFirst (fun k => decide (zF w k 1 = wr ∧ nI (mRank w n k) = rk)) n with _ | k
    · rfl
    · exact (rPl_f hP (zFirst_lt hq).1).1
  · rw [if_neg h, if_neg (fun z => h ((z_wr wr).mpr z))]
theorem qJoined (hR : Rep A w n N t) (wr d mm : Int32) : uJoined A wr d mm = mJoined w n wr d mm := by
  obtain ⟨σ, ar, B, hP, hW, hI, hO, hE, hL, hwf⟩ := hR
  have hf := rHost hP hO wr d mm
  unfold uJoined mJoined
  by_cases h : mSlip wr d mm
  · rw [if_pos h, if_pos h, hf]
    rcases hq : mPart w n wr d mm with _ | k
    · rfl
    · exact (rPl_f hP (zFirst_lt hq).1).1
  · rw [if_neg h, if_neg h]
theorem qLog (hR : Rep A w n N t) (ago wh : Int32) : uLog A ago wh = mLog w ago wh := by
  obtain ⟨σ, ar, B, hP, hW, hI, hO, hE, hL, hwf⟩ := hR
  obtain ⟨h7, h30, h8, hSN, hN, h6, ht, h9, har, h10, h13, hBS, h17, hso, ha4, hb5⟩ := hW
  unfold uLog mLog
  have hc : (0 ≤ ago ∧ ago < 20 ∧ ago < nI (aS A)) ↔ (0 ≤ ago ∧ ago ≤ w 17 - 1) := by
    rw [h17]
    have e20 : (20 : Int32).toInt = 20 := by decide
    have eS : (nI (aS A)).toInt = (aS A : Int) := nI_toInt (by omega)
    have em : (nI (min (aS A) 20) - 1).toInt = ((min (aS A) 20 : Nat) : Int) - 1 := pk_sub_toInt (b := 1) (by omega) (by decide)
    rw [zi_le, zi_lt, zi_lt, zi_le, e20, eS, em]
    constructor
    · intro h; exact ⟨h.1, by omega⟩
    · intro h
      have h1 := h.1
      have h2 := h.2
      exact ⟨h1, by omega, by omega⟩
  by_cases h : 0 ≤ ago ∧ ago ≤ w 17 - 1
  · rw [if_pos (hc.mpr h), if_pos h]
    obtain ⟨h1, h2, h3⟩ := hc.mpr h
    obtain ⟨j, rfl, hj⟩ := z_gap (n := 20) (by decide) (z_le' h1) (z_lt' h2)
    have hjS : j < aS A := (nI_ltI (by omega) (by omega)).mp h3
    rw [nI_clamp (by omega)]
    obtain ⟨l0, l1, l2⟩ := hL j hj hjS
    unfold uLogJ
    by_cases hw : 0 ≤ wh ∧ wh ≤ 2
    · rw [if_pos hw]
      obtain ⟨q, rfl, -, hq⟩ := z_ix (na := 0) (nb := 2) rfl rfl (by decide) (by decide) hw
      rcases (show q = 0 ∨ q = 1 ∨ q = 2 by omega) with rfl | rfl | rfl
      · exact l0
      · exact l1
      · exact l2
    · rw [if_neg hw, if_neg (fun e => hw (by rw [e]; decide)), if_neg (fun e => hw (by rw [e]; decide)), if_neg (fun e => hw (by rw [e]; decide))]
  · rw [if_neg (fun z => h (hc.mp z)), if_neg h]
theorem qNext (hR : Rep A w n N t) (wh : Int32) : uNext A wh = mNextQ w n wh := by
  have hok := rOK hR
  obtain ⟨σ, ar, B, hP, hW, hI, hO, hE, hL, hwf⟩ := hR
  unfold uNext mNextQ
  by_cases h : 0 ≤ wh ∧ wh ≤ 2
  · rw [if_pos h, if_pos h]
    by_cases hn : n = 0
    · subst hn
      rw [rSel0 hP, if_pos rfl]; rfl
    · rw [if_neg hn]
      obtain ⟨hwhy, hsel⟩ := rSel hP hO hI hE hW (by omega)
      obtain ⟨k, hk, hlk⟩ := mLook_some (by omega) hok
      rw [hsel, hlk]
      show uNextK A wh (σ k) = (if wh = 0 then zF w k 0 else if wh = 1 then (mLook w n).1 else mMinute w k)
      unfold uNextK
      rw [(rPl_f hP hk).1, hwhy, (rMin hP hI hE hW hk).1]
  · rw [if_neg h, if_neg h]
theorem qSI (hR : Rep A w n N t) (x : Int32) : kSIR A x = mServedIn w n x := by
  have key : ∀ j, j ≤ n → (kFind (aP (kRun A j)) x 30 = none ↔ mFind (mRun w n j) (n - j) x = none) := fun j hj => by
    obtain ⟨t', -, σ, ar, B, hP, hW, hI, hO, hE, hL, hwf⟩ := rRun hR j hj
    rw [rFind hP hO x]
    rcases mFind (mRun w n j) (n - j) x with _ | k
    · exact ⟨fun _ => rfl, fun _ => rfl⟩
    · exact ⟨fun z => (Option.some_ne_none (σ k) z).elim, fun z => (Option.some_ne_none k z).elim⟩
  have h30 := (rRep_cells hR).2.1
  rcases hq : zFirst (fun j => decide (mFind (mRun w n j) (n - j) x = none)) (n + 1) with _ | g
  · have h1 := of_decide_eq_false (p := mFind (mRun w n n) (n - n) x = none) (zFirst_none.mp hq n (by omega))
    rw [Nat.sub_self] at h1
    exact absurd rfl h1
  · obtain ⟨hg, hc, hb⟩ := zFirst_lt hq
    have hc : mFind (mRun w n g) (n - g) x = none := of_decide_eq_true hc
    have e1 : mGone w n x = g := by unfold mGone; rw [hq]; rfl
    have e2 : kGone A x = g := by
      have e3 : zFirst (fun j => decide (j = 30 ∨ kFind (aP (kRun A j)) x 30 = none)) 31 = some g := zFirst_at (by omega) (decide_eq_true (Or.inr ((key g (by omega)).mpr hc))) (fun j hj => decide_eq_false (fun z => by
        rcases z with z | z
        · omega
        · exact of_decide_eq_false (p := mFind (mRun w n j) (n - j) x = none) (hb j hj) ((key j (by omega)).mp z)))
      unfold kGone
      rw [e3]
      rfl
    obtain ⟨t', -, σ', ar', B', -, -, -, -, hE', -, -⟩ := rRun hR g (by omega)
    obtain ⟨σ, ar, B, hP, hW, hI, hO, hE, hL, hwf⟩ := hR
    unfold kSIR mServedIn
    rw [rFind hP hO x, e1, e2, hE'.2.1, hE.2.1]
    rcases hm : mFind w n x with _ | k
    · rw [if_pos rfl]; rfl
    · rw [if_neg (fun z => by cases z)]; rfl
theorem rLg0 (hR : Rep A w n N t) : Rep (kLg0 A) (upd w 11 0) n N t := by
  obtain ⟨σ, ar, B, hP, hW, hI, hO, hE, hL, hwf⟩ := hR
  obtain ⟨hT, e6, e5, e7, e8, e9, e10, e12, e13, e11, e3, e4⟩ := hE
  have clo : ∀ i, i ≠ 11 → upd w 11 0 i = w i := fun i hi => pk_un hi
  have hF : ∀ k f, zF (upd w 11 0) k f = zF w k f := fun k f => zF_u (by decide)
  refine ⟨σ, ar, B, ⟨hP.1, hP.2.1, hP.2.2.1, fun k hk f hf => (hP.2.2.2 k hk f hf).trans (hF k f).symm⟩, ?_, ?_, ?_, ?_, ?_, hwf⟩
  · show rW (upd w 11 0) n N t ar B (aS A)
    unfold rW at hW ⊢
    rw [clo 7 (by decide), clo 8 (by decide), clo 6 (by decide), clo 9 (by decide), clo 10 (by decide), clo 13 (by decide), clo 17 (by decide), clo 16 (by decide), clo 4 (by decide), clo 5 (by decide)]
    exact hW
  · intro k hk
    rw [hF k 0, hF k 1, hF k 2, hF k 3, hF k 4, clo 8 (by decide), clo 6 (by decide)]
    exact hI k hk
  · intro a b hab hb
    rw [hF a 0, hF a 4, hF b 0, hF b 4]
    exact hO a b hab hb
  · have hM : ∀ x, mMany (upd w 11 0) n x = mMany w n x := fun x => zCnt_congr (fun i hi => by rw [hF i 1])
    show (∀ i, i < 6 → aT A i = upd w 11 0 i) ∧ upd (aF A) 8 0 6 = upd w 11 0 6 ∧ upd (aF A) 8 0 5 = upd w 11 0 8 ∧ upd (aF A) 8 0 7 = upd w 11 0 9 ∧ upd (aF A) 8 0 8 = upd w 11 0 11 ∧ upd (aF A) 8 0 9 = upd w 11 0 12 ∧ upd (aF A) 8 0 10 = upd w 11 0 13 ∧ upd (aF A) 8 0 12 = upd w 11 0 14 ∧ upd (aF A) 8 0 13 = upd w 11 0 15 ∧ (0 < B → upd (aF A) 8 0 11 = upd w 11 0 16) ∧ upd (aF A) 8 0 3 = nI (mMany (upd w 11 0) n 0) ∧ upd (aF A) 8 0 4 = nI (mMany (upd w 11 0) n 1)
    rw [hM 0, hM 1]
    exact ⟨fun i hi => (hT i hi).trans (clo i (by omega)).symm, e6, e5, e7, rfl, e9, e10, e12, e13, e11, e3, e4⟩
  · intro i hi hiS
    rw [clo (18 + 3 * i + 0) (by omega), clo (18 + 3 * i + 1) (by omega), clo (18 + 3 * i + 2) (by omega)]
    exact hL i hi hiS
theorem qAll (hR : Rep A w n N t) (wh : Int32) : kAlR A wh = mAll w n wh := by
  have hn := rNw hR
  unfold kAlR mAll
  rw [hn]
  obtain ⟨t', -, σ', ar', B', -, -, -, -, hE', -, -⟩ := rRun (rLg0 hR) n (Nat.le_refl _)
  obtain ⟨σ, ar, B, hP, hW, hI, hO, hE, hL, hwf⟩ := hR
  rw [hE'.2.1, hE'.2.2.2.2.2.1, hE'.2.2.2.2.1, hE.2.1, hE.2.2.2.2.2.1]
theorem qCount (hR : Rep A w n N t) (np hk : Nat) (x : Int32) : uCount A np hk x = mCount w n (nI np) (nI hk) x := by
  obtain ⟨σ, ar, B, hP, hW, hI, hO, hE, hL, hwf⟩ := hR
  obtain ⟨hT, e6, e5, e7, e8, e9, e10, e12, e13, e11, e3, e4⟩ := hE
  have h10 : w 10 = nI (aS A) := hW.2.2.2.2.2.2.2.2.2.1
  by_cases h : 10 ≤ x ∧ x ≤ 15
  · obtain ⟨j, rfl, hj, hj2⟩ := z_ix (na := 10) (nb := 15) rfl rfl (by decide) (by decide) h
    rcases (show j = 10 ∨ j = 11 ∨ j = 12 ∨ j = 13 ∨ j = 14 ∨ j = 15 by omega) with rfl | rfl | rfl | rfl | rfl | rfl
    · exact hT 0 (by decide)
    · exact hT 1 (by decide)
    · exact hT 2 (by decide)
    · exact hT 3 (by decide)
    · exact hT 4 (by decide)
    · exact hT 5 (by decide)
  · by_cases h0 : x = 0
    · subst h0; exact e6
    · skip
      by_cases h1 : x = 1
      · subst h1; exact e3
      · skip
        by_cases h2 : x = 2
        · subst h2; exact e4
        · skip
          by_cases h3 : x = 3
          · subst h3; exact e7
          · skip
            by_cases h4 : x = 4
            · subst h4; exact h10.symm
            · skip
              by_cases h5 : x = 5
              · subst h5; exact e8
              · skip
                by_cases h6 : x = 6
                · subst h6; exact e9
                · skip
                  by_cases h7 : x = 7
                  · subst h7; exact e10
                  · skip
                    by_cases h8 : x = 8
                    · subst h8; exact e12
                    · skip
                      by_cases h9 : x = 9
                      · subst h9; exact e13
                      · skip
                        by_cases h16 : x = 16
                        · subst h16; exact rfl
                        · skip
                          by_cases h17 : x = 17
                          · subst h17; exact rfl
                          · skip
                            have hz : ¬ (0 ≤ x - 10 ∧ x - 10 < nI 6) := fun z => by
                              obtain ⟨j, e, hj⟩ := z_gap (n := 6) (by decide) (z_le' z.1) (z_lt' z.2)
                              have e2 : x = nI (j + 10) := by rw [← nI_add, ← e]; exact (Int32.sub_add_cancel _ _).symm
                              exact h (by rw [e2]; exact ⟨nI_le (a := 10) (by omega) (by omega), nI_le (b := 15) (by omega) (by decide)⟩)
                            unfold uCount mCount kAmount
                            rw [if_neg h16, if_neg h17, if_neg h0, if_neg h1, if_neg h2, if_neg h3, if_neg h4, if_neg h5, if_neg h6, if_neg h7, if_neg h8, if_neg h9, if_neg hz, if_neg h, if_neg h0, if_neg h1, if_neg h2, if_neg h3, if_neg h4, if_neg h5, if_neg h6, if_neg h7, if_neg h8, if_neg h9, if_neg h16, if_neg h17]
end RQ
