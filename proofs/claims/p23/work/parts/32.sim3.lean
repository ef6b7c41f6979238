theorem zF_u {w : Nat → Int32} {j k f : Nat} {x : Int32} (h : j < 78) : zF (upd w j x) k f = zF w k f := pk_un (by omega)
theorem mMin_u {w : Nat → Int32} {k : Nat} {x : Int32} : mMinute (upd w 14 x) k = mMinute w k := by
  unfold mMinute
  rw [zF_u (by decide), zF_u (by decide)]
  rfl
theorem mLast_u {w : Nat → Int32} {j k : Nat} {x : Int32} (h : j < 78) : mLast (upd w j x) k = mLast w k := by
  unfold mLast
  rw [zF_u h, zF_u h]
theorem mDrop_lo {w : Nat → Int32} {n k j : Nat} (hj : j < 78) (h7 : j ≠ 7) : mDrop w n k j = w j := by
  unfold mDrop
  rw [if_neg (by omega), if_neg (by omega), if_neg h7]
theorem mEnd_lo {w : Nat → Int32} {k j : Nat} {so : Int32} (hj : j < 17) (h : j ≠ 6 ∧ j ≠ 9 ∧ j ≠ 10 ∧ j ≠ 11 ∧ j ≠ 12 ∧ j ≠ 14) : mEnd w k so j = w j := by
  refine (mNote_lo _ _ _ _ hj).trans ?_
  simp only [upd]
  rw [if_neg h.2.2.2.1, if_neg h.2.2.1, if_neg h.1, if_neg h.2.1, if_neg h.2.2.2.2.1, if_neg h.2.2.2.2.2]
theorem mEnd_6 {w : Nat → Int32} {k : Nat} {so : Int32} : mEnd w k so 6 = mMinute w k := (mNote_lo _ _ _ _ (by decide)).trans (mMin_u (w := w) (k := k) (x := w 14 + 1))
theorem mEnd_12 {w : Nat → Int32} {k : Nat} {so : Int32} : mEnd w k so 12 = w 12 + mFar (zF w k 2) (w 9) := by
  refine (mNote_lo _ _ _ _ (by decide)).trans ?_
  show w 12 + mFar (zF (upd w 14 (w 14 + 1)) k 2) (w 9) = _
  rw [zF_u (by decide)]
theorem mEnd_9 {w : Nat → Int32} {k : Nat} {so : Int32} : mEnd w k so 9 = if mLast w k < 99 then mLast w k + 1 else 99 := by
  refine (mNote_lo _ _ _ _ (by decide)).trans ?_
  show (if mLast (upd (upd w 14 _) 12 _) k < 99 then mLast (upd (upd w 14 _) 12 _) k + 1 else 99) = _
  rw [mLast_u (by decide), mLast_u (by decide)]
theorem mEnd_10 {w : Nat → Int32} {k : Nat} {so : Int32} : mEnd w k so 10 = w 10 + 1 := (mNote_lo _ _ _ _ (by decide)).trans rfl
theorem mEnd_14 {w : Nat → Int32} {k : Nat} {so : Int32} : mEnd w k so 14 = w 14 + 1 := (mNote_lo _ _ _ _ (by decide)).trans rfl
theorem mEnd_11 {w : Nat → Int32} {k : Nat} {so : Int32} : mEnd w k so 11 = if w 11 < mMinute w k - zF w k 4 then mMinute w k - zF w k 4 else w 11 := by
  refine (mNote_lo _ _ _ _ (by decide)).trans ?_
  show (if w 11 < mMinute (upd w 14 (w 14 + 1)) k - zF (upd w 14 (w 14 + 1)) k 4 then mMinute (upd w 14 (w 14 + 1)) k - zF (upd w 14 (w 14 + 1)) k 4 else w 11) = _
  rw [mMin_u, zF_u (by decide)]
theorem mEnd_17 {w : Nat → Int32} {k : Nat} {so : Int32} : mEnd w k so 17 = w 17 + (if w 17 < 20 then 1 else 0) := rfl
theorem mNote_log (w : Nat → Int32) (a b c : Int32) {j : Nat} (hj : j < 20) : mNote w a b c (18 + 3 * j + 0) = (if j = 0 then a else w (18 + 3 * (j - 1) + 0)) ∧ mNote w a b c (18 + 3 * j + 1) = (if j = 0 then b else w (18 + 3 * (j - 1) + 1)) ∧ mNote w a b c (18 + 3 * j + 2) = (if j = 0 then c else w (18 + 3 * (j - 1) + 2)) := by
  by_cases h : j = 0
  · subst h
    exact ⟨rfl, rfl, rfl⟩
  · rw [if_neg h, if_neg h, if_neg h]
    have gen : ∀ f, f < 3 → mNote w a b c (18 + 3 * j + f) = w (18 + 3 * (j - 1) + f) := fun f hf => by
      unfold mNote mShift
      simp only [upd]
      rw [if_neg (by omega), if_neg (by omega), if_neg (by omega), if_neg (by omega), if_pos ⟨by omega, by omega⟩]
      congr 1
      omega
    exact ⟨gen 0 (by decide), gen 1 (by decide), gen 2 (by decide)⟩
theorem mEnd_n (w : Nat → Int32) (k : Nat) (so : Int32) : ∃ w6 : Nat → Int32, mEnd w k so = mNote w6 (zF w6 k 0) (mMinute (upd w 14 (w 14 + 1)) k - zF (upd w 14 (w 14 + 1)) k 4) so ∧ ∀ j, 17 < j → w6 j = w j :=
  ⟨_, rfl, fun j hj => by
    simp only [upd]
    rw [if_neg (by omega), if_neg (by omega), if_neg (by omega), if_neg (by omega), if_neg (by omega), if_neg (by omega)]⟩
theorem mEnd_log {w : Nat → Int32} {k : Nat} {so : Int32} {j : Nat} (hj : j < 20) : mEnd w k so (18 + 3 * j + 0) = (if j = 0 then zF w k 0 else w (18 + 3 * (j - 1) + 0)) ∧ mEnd w k so (18 + 3 * j + 1) = (if j = 0 then mMinute w k - zF w k 4 else w (18 + 3 * (j - 1) + 1)) ∧ mEnd w k so (18 + 3 * j + 2) = (if j = 0 then so else w (18 + 3 * (j - 1) + 2)) := by
  obtain ⟨w6, e, h6⟩ := mEnd_n w k so
  have h := mNote_log w6 (zF w6 k 0) (mMinute (upd w 14 (w 14 + 1)) k - zF (upd w 14 (w 14 + 1)) k 4) so hj
  rw [← e, mMin_u, zF_u (by decide), h6 (18 + 3 * (j - 1) + 0) (by omega), h6 (18 + 3 * (j - 1) + 1) (by omega), h6 (18 + 3 * (j - 1) + 2) (by omega), show zF w6 k 0 = zF w k 0 from h6 _ (by omega)] at h
  exact h
theorem mBegin_lo {w : Nat → Int32} {n : Nat} {a b : Int32} {j : Nat} (h : j ≠ 13 ∧ j ≠ 14 ∧ j ≠ 15 ∧ j ≠ 16) : mBegin w n a b j = w j := by
  unfold mBegin
  split
  · rfl
  · simp only [upd]
    rw [if_neg h.2.2.2, if_neg h.2.1, if_neg h.1, if_neg h.2.2.1]
theorem mBegin_F {w : Nat → Int32} {n : Nat} {a b : Int32} {k f : Nat} : zF (mBegin w n a b) k f = zF w k f := mBegin_hi w n a b (by omega)
theorem mBegin_M {w : Nat → Int32} {n : Nat} {a b : Int32} {k : Nat} : mMinute (mBegin w n a b) k = mMinute w k := by
  unfold mMinute
  rw [mBegin_F, mBegin_F, mBegin_lo (by decide), mBegin_lo (by decide), mBegin_lo (by decide), mBegin_lo (by decide)]
theorem mBegin_L {w : Nat → Int32} {n : Nat} {a b : Int32} {k : Nat} : mLast (mBegin w n a b) k = mLast w k := by
  unfold mLast
  rw [mBegin_F, mBegin_F]
theorem mServe_e {w : Nat → Int32} {n k : Nat} (hlk : (mLook w n).2 = some k) : mServe w n = mDrop (mEnd (mBegin w n (mLook w n).1 (zF w k 1)) k (zF w k 1)) n k := by
  unfold mServe
  simp only [hlk, Option.getD_some]
/-- what serving leaves in the row -/
theorem mServe_c {w : Nat → Int32} {n k : Nat} (hlk : (mLook w n).2 = some k) :
    (∀ j, j < 6 → mServe w n j = w j) ∧ mServe w n 6 = mMinute w k ∧ mServe w n 8 = w 8 ∧ mServe w n 9 = (if mLast w k < 99 then mLast w k + 1 else 99) ∧ mServe w n 10 = w 10 + 1 ∧ mServe w n 11 = (if w 11 < mMinute w k - zF w k 4 then mMinute w k - zF w k 4 else w 11) ∧ mServe w n 12 = w 12 + mFar (zF w k 2) (w 9) ∧ mServe w n 13 = mBegin w n (mLook w n).1 (zF w k 1) 13 ∧ mServe w n 14 = mBegin w n (mLook w n).1 (zF w k 1) 14 + 1 ∧ mServe w n 15 = mBegin w n (mLook w n).1 (zF w k 1) 15 ∧ mServe w n 16 = mBegin w n (mLook w n).1 (zF w k 1) 16 ∧ mServe w n 17 = w 17 + (if w 17 < 20 then 1 else 0) := by
  rw [mServe_e hlk]
  refine ⟨fun j hj => ?_, ?_, ?_, ?_, ?_, ?_, ?_, ?_, ?_, ?_, ?_, ?_⟩
  · rw [mDrop_lo (by omega) (by omega), mEnd_lo (by omega) (by omega), mBegin_lo (by omega)]
  · rw [mDrop_lo (by decide) (by decide), mEnd_6, mBegin_M]
  · rw [mDrop_lo (by decide) (by decide), mEnd_lo (by decide) (by decide), mBegin_lo (by decide)]
  · rw [mDrop_lo (by decide) (by decide), mEnd_9, mBegin_L]
  · rw [mDrop_lo (by decide) (by decide), mEnd_10, mBegin_lo (by decide)]
  · rw [mDrop_lo (by decide) (by decide), mEnd_11, mBegin_M, mBegin_F, mBegin_lo (by decide)]
  · rw [mDrop_lo (by decide) (by decide), mEnd_12, mBegin_F, mBegin_lo (by decide), mBegin_lo (by decide)]
  · rw [mDrop_lo (by decide) (by decide), mEnd_lo (by decide) (by decide)]
  · rw [mDrop_lo (by decide) (by decide), mEnd_14]
  · rw [mDrop_lo (by decide) (by decide), mEnd_lo (by decide) (by decide)]
  · rw [mDrop_lo (by decide) (by decide), mEnd_lo (by decide) (by decide)]
  · rw [mDrop_lo (by decide) (by decide), mEnd_17, mBegin_lo (by decide)]
theorem mServe_log {w : Nat → Int32} {n k : Nat} (hlk : (mLook w n).2 = some k) {j : Nat} (hj : j < 20) : mServe w n (18 + 3 * j + 0) = (if j = 0 then zF w k 0 else w (18 + 3 * (j - 1) + 0)) ∧ mServe w n (18 + 3 * j + 1) = (if j = 0 then mMinute w k - zF w k 4 else w (18 + 3 * (j - 1) + 1)) ∧ mServe w n (18 + 3 * j + 2) = (if j = 0 then zF w k 1 else w (18 + 3 * (j - 1) + 2)) := by
  rw [mServe_e hlk, mDrop_lo (by omega) (by omega), mDrop_lo (by omega) (by omega), mDrop_lo (by omega) (by omega)]
  have h := mEnd_log (w := mBegin w n (mLook w n).1 (zF w k 1)) (k := k) (so := zF w k 1) hj
  rw [mBegin_F, mBegin_F, mBegin_M, mBegin_lo (by omega), mBegin_lo (by omega), mBegin_lo (by omega)] at h
  exact h
/-- what serving leaves in the archive -/
theorem kSvF_c (G T : Nat → Int32) (P : Nat → Nat → Int32) (i : Nat) :
    kSvF G T P i 3 = (if P i 3 = 1 then G 3 else G 3 + -1) ∧ kSvF G T P i 4 = (if P i 3 = 1 then G 4 + -1 else G 4) ∧ kSvF G T P i 5 = G 5 ∧ kSvF G T P i 6 = G 6 + kMin G T P i ∧ kSvF G T P i 7 = (if 99 < P i 4 + P i 5 - 1 + 1 then 99 else P i 4 + P i 5 - 1 + 1) ∧ kSvF G T P i 8 = (if G 8 < G 6 + kMin G T P i - P i 6 then G 6 + kMin G T P i - P i 6 else G 8) ∧ kSvF G T P i 9 = G 9 + kFar G P i ∧ kSvF G T P i 10 = G 10 ∧ kSvF G T P i 11 = G 11 ∧ kSvF G T P i 12 = G 12 + 1 ∧ kSvF G T P i 13 = G 13 := by
  unfold kSvF kSv6 kCount
  by_cases h : P i 3 = 1
  · rw [if_pos h, if_pos h, if_pos h]
    exact ⟨rfl, rfl, rfl, rfl, rfl, rfl, rfl, rfl, rfl, rfl, rfl⟩
  · rw [if_neg h, if_neg h, if_neg h]
    exact ⟨rfl, rfl, rfl, rfl, rfl, rfl, rfl, rfl, rfl, rfl, rfl⟩
