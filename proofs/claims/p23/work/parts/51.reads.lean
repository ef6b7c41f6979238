/-! what the class's readings answer, over the row -/
section LR
variable {A : zA} {w : Nat → Int32} {n N t : Nat}
theorem lRep_I (hR : Rep A w n N t) : rI w n := by
  obtain ⟨σ, ar, B, hP, hW, hI, hO, hE, hL, hwf⟩ := hR
  exact hI
theorem lRep_O (hR : Rep A w n N t) : rO w n := by
  obtain ⟨σ, ar, B, hP, hW, hI, hO, hE, hL, hwf⟩ := hR
  exact hO
/-- the cells of the row that are numbers -/
theorem lRep_c (hR : Rep A w n N t) : w 7 = nI n ∧ n ≤ 30 ∧ w 8 = nI N ∧ aS A + n ≤ N ∧ N < 2 ^ 30 ∧ w 6 = nI t ∧ t + 1071 * n ≤ 132129 ∧ w 10 = nI (aS A) ∧ w 17 = nI (min (aS A) 20) ∧ (w 16 = 2 ∨ w 16 = 0 ∨ w 16 = 1) := by
  obtain ⟨σ, ar, B, hP, ⟨h7, h30, h8, hSN, hN, h6, ht, h9, har, h10, h13, hBS, h17, hso, ha4, hb5⟩, hI, hO, hE, hL, hwf⟩ := hR
  exact ⟨h7, h30, h8, hSN, hN, h6, ht, h10, h17, hso.elim (fun z => Or.inl z.2) (fun z => Or.inr z.2)⟩
theorem lRep_ar (hR : Rep A w n N t) : ∃ ar : Nat, ar ≤ 99 ∧ w 9 = nI ar := by
  obtain ⟨σ, ar, B, hP, ⟨h7, h30, h8, hSN, hN, h6, ht, h9, har, h10, h13, hBS, h17, hso, ha4, hb5⟩, hI, hO, hE, hL, hwf⟩ := hR
  exact ⟨ar, har, h9⟩
theorem lRep_wr (hR : Rep A w n N t) {k : Nat} (hk : k < n) : zF w k 1 = 0 ∨ zF w k 1 = 1 := (lRep_I hR k hk).1
theorem lRep_dm (hR : Rep A w n N t) {k : Nat} (hk : k < n) : ∃ d m : Nat, zF w k 2 = nI d ∧ zF w k 3 = nI m ∧ 1 ≤ m ∧ m ≤ 9 ∧ d + m ≤ 100 ∧ mLast w k = nI (d + m - 1) := by
  obtain ⟨d, m, h1, h2, h3, h4, h5⟩ := (lRep_I hR k hk).2.1
  refine ⟨d, m, h1, h2, h3, h4, h5, ?_⟩
  unfold mLast
  rw [h1, h2, nI_add]
  exact pk_sub (a := d + m) (b := 1) (by omega)
theorem lc_0 (hR : Rep A w n N t) (np hk : Nat) : uCount A np hk 0 = w 6 := (qCount hR np hk 0).trans (show mCount w n (nI np) (nI hk) 0 = w 6 from ((if_neg (by decide)).trans (if_pos rfl)))
theorem lc_1 (hR : Rep A w n N t) (np hk : Nat) : uCount A np hk 1 = nI (mMany w n 0) := (qCount hR np hk 1).trans (show mCount w n (nI np) (nI hk) 1 = nI (mMany w n 0) from ((if_neg (by decide)).trans ((if_neg (by decide)).trans (if_pos rfl))))
theorem lc_2 (hR : Rep A w n N t) (np hk : Nat) : uCount A np hk 2 = nI (mMany w n 1) := (qCount hR np hk 2).trans (show mCount w n (nI np) (nI hk) 2 = nI (mMany w n 1) from ((if_neg (by decide)).trans ((if_neg (by decide)).trans ((if_neg (by decide)).trans (if_pos rfl)))))
theorem lc_3 (hR : Rep A w n N t) (np hk : Nat) : uCount A np hk 3 = w 9 := (qCount hR np hk 3).trans (show mCount w n (nI np) (nI hk) 3 = w 9 from ((if_neg (by decide)).trans ((if_neg (by decide)).trans ((if_neg (by decide)).trans ((if_neg (by decide)).trans (if_pos rfl))))))
theorem lc_4 (hR : Rep A w n N t) (np hk : Nat) : uCount A np hk 4 = w 10 := (qCount hR np hk 4).trans (show mCount w n (nI np) (nI hk) 4 = w 10 from ((if_neg (by decide)).trans ((if_neg (by decide)).trans ((if_neg (by decide)).trans ((if_neg (by decide)).trans ((if_neg (by decide)).trans (if_pos rfl)))))))
theorem lc_5 (hR : Rep A w n N t) (np hk : Nat) : uCount A np hk 5 = w 11 := (qCount hR np hk 5).trans (show mCount w n (nI np) (nI hk) 5 = w 11 from ((if_neg (by decide)).trans ((if_neg (by decide)).trans ((if_neg (by decide)).trans ((if_neg (by decide)).trans ((if_neg (by decide)).trans ((if_neg (by decide)).trans (if_pos rfl))))))))
theorem lc_6 (hR : Rep A w n N t) (np hk : Nat) : uCount A np hk 6 = w 12 := (qCount hR np hk 6).trans (show mCount w n (nI np) (nI hk) 6 = w 12 from ((if_neg (by decide)).trans ((if_neg (by decide)).trans ((if_neg (by decide)).trans ((if_neg (by decide)).trans ((if_neg (by decide)).trans ((if_neg (by decide)).trans ((if_neg (by decide)).trans (if_pos rfl)))))))))
theorem lc_7 (hR : Rep A w n N t) (np hk : Nat) : uCount A np hk 7 = w 13 := (qCount hR np hk 7).trans (show mCount w n (nI np) (nI hk) 7 = w 13 from ((if_neg (by decide)).trans ((if_neg (by decide)).trans ((if_neg (by decide)).trans ((if_neg (by decide)).trans ((if_neg (by decide)).trans ((if_neg (by decide)).trans ((if_neg (by decide)).trans ((if_neg (by decide)).trans (if_pos rfl))))))))))
theorem lc_8 (hR : Rep A w n N t) (np hk : Nat) : uCount A np hk 8 = w 14 := (qCount hR np hk 8).trans (show mCount w n (nI np) (nI hk) 8 = w 14 from ((if_neg (by decide)).trans ((if_neg (by decide)).trans ((if_neg (by decide)).trans ((if_neg (by decide)).trans ((if_neg (by decide)).trans ((if_neg (by decide)).trans ((if_neg (by decide)).trans ((if_neg (by decide)).trans ((if_neg (by decide)).trans (if_pos rfl)))))))))))
theorem lc_9 (hR : Rep A w n N t) (np hk : Nat) : uCount A np hk 9 = w 15 := (qCount hR np hk 9).trans (show mCount w n (nI np) (nI hk) 9 = w 15 from ((if_neg (by decide)).trans ((if_neg (by decide)).trans ((if_neg (by decide)).trans ((if_neg (by decide)).trans ((if_neg (by decide)).trans ((if_neg (by decide)).trans ((if_neg (by decide)).trans ((if_neg (by decide)).trans ((if_neg (by decide)).trans ((if_neg (by decide)).trans (if_pos rfl))))))))))))
theorem lc_10 (hR : Rep A w n N t) (np hk : Nat) : uCount A np hk 10 = w 0 := (qCount hR np hk 10).trans (show mCount w n (nI np) (nI hk) 10 = w 0 from (if_pos (by decide)).trans (congrArg w (by decide)))
theorem lc_11 (hR : Rep A w n N t) (np hk : Nat) : uCount A np hk 11 = w 1 := (qCount hR np hk 11).trans (show mCount w n (nI np) (nI hk) 11 = w 1 from (if_pos (by decide)).trans (congrArg w (by decide)))
theorem lc_12 (hR : Rep A w n N t) (np hk : Nat) : uCount A np hk 12 = w 2 := (qCount hR np hk 12).trans (show mCount w n (nI np) (nI hk) 12 = w 2 from (if_pos (by decide)).trans (congrArg w (by decide)))
theorem lc_13 (hR : Rep A w n N t) (np hk : Nat) : uCount A np hk 13 = w 3 := (qCount hR np hk 13).trans (show mCount w n (nI np) (nI hk) 13 = w 3 from (if_pos (by decide)).trans (congrArg w (by decide)))
theorem lc_14 (hR : Rep A w n N t) (np hk : Nat) : uCount A np hk 14 = w 4 := (qCount hR np hk 14).trans (show mCount w n (nI np) (nI hk) 14 = w 4 from (if_pos (by decide)).trans (congrArg w (by decide)))
theorem lc_15 (hR : Rep A w n N t) (np hk : Nat) : uCount A np hk 15 = w 5 := (qCount hR np hk 15).trans (show mCount w n (nI np) (nI hk) 15 = w 5 from (if_pos (by decide)).trans (congrArg w (by decide)))
theorem lc_s (hR : Rep A w n N t) (np hk : Nat) {wr : Int32} (h : wr = 0 ∨ wr = 1) : uCount A np hk (1 + wr) = nI (mMany w n wr) := by
  rcases h with rfl | rfl
  · exact lc_1 hR np hk
  · exact lc_2 hR np hk
theorem lc_t (hR : Rep A w n N t) (np hk : Nat) {wr : Int32} (h : wr = 0 ∨ wr = 1) : uCount A np hk (10 + wr) = w wr.toNatClampNeg := by
  rcases h with rfl | rfl
  · exact lc_10 hR np hk
  · exact lc_11 hR np hk
theorem lOf_s {x : Int32} {k : Nat} (hq : mFind w n x = some k) (wh : Int32) : mOf w n x wh = (if wh = 0 then zF w k 1 else if wh = 1 then zF w k 2 else if wh = 2 then mLast w k else if wh = 3 then w 6 - zF w k 4 else if wh = 4 then (if w (zF w k 1).toNatClampNeg ≤ w 6 - zF w k 4 then 1 else 0) else if wh = 5 then zF w k 5 else -2) := by
  unfold mOf
  rw [hq]
theorem lOf_n (hR : Rep A w n N t) {x : Int32} (hq : mFind w n x = none) (wh : Int32) : uOf A x wh = -1 := by
  rw [qOf hR]
  unfold mOf
  rw [hq]
theorem lo_0 (hR : Rep A w n N t) {k : Nat} (hk : k < n) : uOf A (zF w k 0) 0 = zF w k 1 := (qOf hR _ _).trans ((lOf_s (lFind (lRep_O hR) hk) 0).trans (if_pos rfl))
theorem lo_1 (hR : Rep A w n N t) {k : Nat} (hk : k < n) : uOf A (zF w k 0) 1 = zF w k 2 := (qOf hR _ _).trans ((lOf_s (lFind (lRep_O hR) hk) 1).trans ((if_neg (by decide)).trans (if_pos rfl)))
theorem lo_2 (hR : Rep A w n N t) {k : Nat} (hk : k < n) : uOf A (zF w k 0) 2 = mLast w k := (qOf hR _ _).trans ((lOf_s (lFind (lRep_O hR) hk) 2).trans ((if_neg (by decide)).trans ((if_neg (by decide)).trans (if_pos rfl))))
theorem lo_3 (hR : Rep A w n N t) {k : Nat} (hk : k < n) : uOf A (zF w k 0) 3 = w 6 - zF w k 4 := (qOf hR _ _).trans ((lOf_s (lFind (lRep_O hR) hk) 3).trans ((if_neg (by decide)).trans ((if_neg (by decide)).trans ((if_neg (by decide)).trans (if_pos rfl)))))
theorem lo_4 (hR : Rep A w n N t) {k : Nat} (hk : k < n) : uOf A (zF w k 0) 4 = (if w (zF w k 1).toNatClampNeg ≤ w 6 - zF w k 4 then 1 else 0) := (qOf hR _ _).trans ((lOf_s (lFind (lRep_O hR) hk) 4).trans ((if_neg (by decide)).trans ((if_neg (by decide)).trans ((if_neg (by decide)).trans ((if_neg (by decide)).trans (if_pos rfl))))))
theorem lo_5 (hR : Rep A w n N t) {k : Nat} (hk : k < n) : uOf A (zF w k 0) 5 = zF w k 5 := (qOf hR _ _).trans ((lOf_s (lFind (lRep_O hR) hk) 5).trans ((if_neg (by decide)).trans ((if_neg (by decide)).trans ((if_neg (by decide)).trans ((if_neg (by decide)).trans ((if_neg (by decide)).trans (if_pos rfl)))))))
theorem lw_ (hR : Rep A w n N t) {wr : Int32} (hwr : wr = 0 ∨ wr = 1) {k : Nat} (hk : k < n) (hs : zF w k 1 = wr) : uWait A wr (nI (mRank w n k)) = zF w k 0 := (qWait hR _ _).trans (lWait (lRep_c hR).2.1 hwr hk hs)
theorem lw_end (hR : Rep A w n N t) {wr : Int32} (hwr : wr = 0 ∨ wr = 1) : uWait A wr (nI (mMany w n wr)) = -1 := (qWait hR _ _).trans (lWait_end (lRep_c hR).2.1 hwr)
theorem lw_neg (hR : Rep A w n N t) {wr : Int32} (hwr : wr = 0 ∨ wr = 1) : uWait A wr (-1) = -1 := (qWait hR _ _).trans (lWait_neg (lRep_c hR).2.1 hwr)
/-- the next slip -/
def lk (w : Nat → Int32) (n : Nat) : Nat := ((mLook w n).2).getD 0
theorem lk_some (hR : Rep A w n N t) (hn : 0 < n) : (mLook w n).2 = some (lk w n) ∧ lk w n < n := by
  obtain ⟨k, h1, h2⟩ := mLook_some hn (rOK hR)
  unfold lk
  rw [h2]
  exact ⟨rfl, h1⟩
theorem ln_e (hR : Rep A w n N t) (hn : n = 0) : uNext A 0 = -6 := (qNext hR 0).trans (show mNextQ w n 0 = -6 from (if_pos (by decide)).trans (if_pos hn))
theorem ln_0 (hR : Rep A w n N t) (hn : 0 < n) : uNext A 0 = zF w (lk w n) 0 := (qNext hR 0).trans (show mNextQ w n 0 = zF w (lk w n) 0 from (if_pos (by decide)).trans ((if_neg (by omega)).trans (if_pos rfl)))
theorem ln_1 (hR : Rep A w n N t) (hn : 0 < n) : uNext A 1 = (mLook w n).1 := (qNext hR 1).trans (show mNextQ w n 1 = (mLook w n).1 from (if_pos (by decide)).trans ((if_neg (by omega)).trans ((if_neg (by decide)).trans (if_pos rfl))))
theorem ln_2 (hR : Rep A w n N t) (hn : 0 < n) : uNext A 2 = mMinute w (lk w n) := (qNext hR 2).trans (show mNextQ w n 2 = mMinute w (lk w n) from (if_pos (by decide)).trans ((if_neg (by omega)).trans ((if_neg (by decide)).trans (if_neg (by decide)))))
theorem ln_3 (hR : Rep A w n N t) : uNext A 3 = -2 := (qNext hR 3).trans (show mNextQ w n 3 = -2 from if_neg (by decide))
theorem ll_0 (hR : Rep A w n N t) (hS : 0 < aS A) : uLog A 0 0 = w 18 := (qLog hR 0 0).trans (show mLog w 0 0 = w 18 from (if_pos ⟨by decide, by
  obtain ⟨-, -, -, hSN, hN, -, -, -, h17, -⟩ := lRep_c hR
  rw [h17, show (1 : Int32) = nI 1 from rfl, pk_sub (by omega)]
  exact nI_leI (a := 0) (by decide) (by omega) |>.mpr (Nat.zero_le _)⟩).trans ((if_pos (by decide)).trans (congrArg w (by decide))))
theorem ll_1 (hR : Rep A w n N t) (hS : 0 < aS A) : uLog A 0 1 = w 19 := (qLog hR 0 1).trans (show mLog w 0 1 = w 19 from (if_pos ⟨by decide, by
  obtain ⟨-, -, -, hSN, hN, -, -, -, h17, -⟩ := lRep_c hR
  rw [h17, show (1 : Int32) = nI 1 from rfl, pk_sub (by omega)]
  exact nI_leI (a := 0) (by decide) (by omega) |>.mpr (Nat.zero_le _)⟩).trans ((if_pos (by decide)).trans (congrArg w (by decide))))
theorem ll_2 (hR : Rep A w n N t) (hS : 0 < aS A) : uLog A 0 2 = w 20 := (qLog hR 0 2).trans (show mLog w 0 2 = w 20 from (if_pos ⟨by decide, by
  obtain ⟨-, -, -, hSN, hN, -, -, -, h17, -⟩ := lRep_c hR
  rw [h17, show (1 : Int32) = nI 1 from rfl, pk_sub (by omega)]
  exact nI_leI (a := 0) (by decide) (by omega) |>.mpr (Nat.zero_le _)⟩).trans ((if_pos (by decide)).trans (congrArg w (by decide))))
/-- the minutes until the next one is served -/
theorem lDrop_none (hR : Rep A w n N t) (hn : 0 < n) : mFind (mServe w n) (n - 1) (zF w (lk w n) 0) = none := by
  obtain ⟨hlk, hk⟩ := lk_some hR hn
  refine zFirst_none.mpr (fun j hj => decide_eq_false (fun z => ?_))
  rw [mServe_F hlk hk hj (by decide)] at z
  have h1 : (if j < lk w n then j else j + 1) < n := by split <;> omega
  have h2 := rNum_ne (lRep_O hR) h1 hk z
  split at h2 <;> omega
theorem lsi (hR : Rep A w n N t) (hn : 0 < n) : kSIR A (zF w (lk w n) 0) = mMinute w (lk w n) - w 6 := by
  obtain ⟨hlk, hk⟩ := lk_some hR hn
  have hf := lFind (lRep_O hR) hk
  rw [qSI hR]
  unfold mServedIn
  rw [if_neg (by rw [hf]; exact fun z => by cases z)]
  have hg : mGone w n (zF w (lk w n) 0) = 1 := by
    unfold mGone
    rw [zFirst_at (g := 1) (by omega) (decide_eq_true (show mFind (mRun w n 1) (n - 1) (zF w (lk w n) 0) = none from lDrop_none hR hn)) (fun j hj => by
      have e : j = 0 := by omega
      subst e
      exact decide_eq_false (fun z => by
        have z : mFind w n (zF w (lk w n) 0) = none := z
        rw [hf] at z; cases z))]
    rfl
  rw [hg]
  show mServe w n 6 - w 6 = _
  rw [(mServe_c hlk).2.1]
end LR
