def mDrop (w : Nat → Int32) (n k : Nat) : Nat → Int32 := fun j => if 78 + 6 * (n - 1) ≤ j ∧ j < 78 + 6 * (n - 1) + 6 then 0 else if 78 + 6 * k ≤ j ∧ j < 78 + 6 * (n - 1) then w (j + 6) else if j = 7 then nI (n - 1) else w j
def mShift (w : Nat → Int32) : Nat → Int32 := fun j => if 20 < j ∧ j ≤ 77 then w (j - 3) else w j
def mNote (w : Nat → Int32) (a b c : Int32) : Nat → Int32 := upd (upd (upd (upd (mShift w) 18 a) 19 b) 20 c) 17 (upd (upd (upd (mShift w) 18 a) 19 b) 20 c 17 + (if upd (upd (upd (mShift w) 18 a) 19 b) 20 c 17 < 20 then 1 else 0))
def mLook (w : Nat → Int32) (n : Nat) : Int32 × Option Nat :=
  match (if ¬ w 16 = 2 ∧ w 14 < w 2 then mLow w n (w 16) (w 9) else none) with
  | some k => (0, some k)
  | none => match mOld w n (mNext w n) with
    | none => (3, none)
    | some k => if w (zF w k 1).toNatClampNeg ≤ w 6 - zF w k 4 then (1, some k) else
      match mLow w n (mNext w n) (w 9) with
      | some j => (2, some j)
      | none => (3, mLow w n (mNext w n) 0)
def mOK (w : Nat → Int32) (n : Nat) : Prop := w 7 = nI n ∧ n ≤ 30 ∧ (∀ k, k < n → zF w k 1 = 0 ∨ zF w k 1 = 1) ∧ (∀ k, k < n → 0 ≤ zF w k 2)
theorem zCnt_pos {p : Nat → Bool} {n : Nat} (h : 0 < zCnt p n) : ∃ k, k < n ∧ p k = true := by
  induction n with
  | zero => simp [zCnt] at h
  | succ n ih =>
    cases hp : p n with
    | true => exact ⟨n, Nat.lt_succ_self _, hp⟩
    | false =>
      simp only [zCnt, hp] at h
      obtain ⟨k, h1, h2⟩ := ih (by simpa using h)
      exact ⟨k, Nat.lt_succ_of_lt h1, h2⟩
theorem zCnt_zero {p : Nat → Bool} {n : Nat} (h : zCnt p n = 0) : ∀ k, k < n → p k = false := by
  induction n with
  | zero => intro k hk; omega
  | succ n ih =>
    simp only [zCnt] at h
    intro k hk
    have h1 : zCnt p n = 0 := by omega
    rcases Nat.lt_or_ge k n with q | q
    · exact ih h1 k q
    · have : k = n := by omega
      subst this
      cases hp : p k with
      | true => simp [hp] at h
      | false => rfl
theorem zCnt_all {p : Nat → Bool} {n : Nat} (h : zCnt p n = n) : ∀ k, k < n → p k = true := by
  induction n with
  | zero => intro k hk; omega
  | succ n ih =>
    simp only [zCnt] at h
    have h0 := zCnt_le p n
    intro k hk
    cases hp : p n with
    | false => simp [hp] at h; omega
    | true =>
      have h1 : zCnt p n = n := by simp [hp] at h; omega
      rcases Nat.lt_or_ge k n with q | q
      · exact ih h1 k q
      · have : k = n := by omega
        rw [this]; exact hp
theorem zBest_some {can : Nat → Bool} {lt : Nat → Nat → Bool} {n j : Nat} (hj : j < n) (hc : can j = true) : ∃ k, k < n ∧ can k = true ∧ zBest can lt n = some k := by
  cases h : zBest can lt n with
  | none => exact absurd (zBest_none.mp h j hj) (by rw [hc]; decide)
  | some k => exact ⟨k, (zBest_lt h).1, (zBest_lt h).2, rfl⟩
theorem mOld_some {w : Nat → Int32} {n : Nat} (hpos : 0 < n) (hwr : ∀ k, k < n → zF w k 1 = 0 ∨ zF w k 1 = 1) : ∃ k, k < n ∧ zF w k 1 = mNext w n ∧ mOld w n (mNext w n) = some k := by
  have key : ∃ j, j < n ∧ zF w j 1 = mNext w n := by
    unfold mNext
    by_cases h1 : mMany w n 1 = n
    · rw [if_pos h1]
      exact ⟨0, hpos, of_decide_eq_true (zCnt_all h1 0 hpos)⟩
    · rw [if_neg h1]
      by_cases h2 : mMany w n 1 = 0
      · rw [if_pos h2]
        refine ⟨0, hpos, ?_⟩
        rcases hwr 0 hpos with h | h
        · exact h
        · exact absurd h (of_decide_eq_false (zCnt_zero h2 0 hpos))
      · rw [if_neg h2]
        split
        · obtain ⟨k, hk, hp⟩ := zCnt_pos (Nat.pos_of_ne_zero h2)
          exact ⟨k, hk, of_decide_eq_true hp⟩
        · apply Classical.byContradiction
          intro hno
          apply h1
          have hall : ∀ k, k < n → zF w k 1 = 1 := fun k hk => (hwr k hk).resolve_left (fun z => hno ⟨k, hk, z⟩)
          have gen : ∀ m, m ≤ n → zCnt (fun k => decide (zF w k 1 = 1)) m = m := by
            intro m
            induction m with
            | zero => intro _; rfl
            | succ m ih =>
              intro hm
              simp only [zCnt, hall m (by omega), ih (by omega)]
              simp
          exact gen n (Nat.le_refl n)
  obtain ⟨j, hj, he⟩ := key
  obtain ⟨k, h1, h2, h3⟩ := zBest_some (can := fun k => decide (zF w k 1 = mNext w n)) (lt := fun a b => decide (zF w a 4 < zF w b 4)) hj (decide_eq_true he)
  exact ⟨k, h1, of_decide_eq_true h2, h3⟩
theorem mLook_some {w : Nat → Int32} {n : Nat} (hpos : 0 < n) (hok : mOK w n) : ∃ k, k < n ∧ (mLook w n).2 = some k := by
  obtain ⟨-, -, hwr, hfd⟩ := hok
  unfold mLook
  cases h0 : (if ¬ w 16 = 2 ∧ w 14 < w 2 then mLow w n (w 16) (w 9) else none) with
  | some k =>
    refine ⟨k, ?_, rfl⟩
    split at h0
    · exact (zBest_lt h0).1
    · cases h0
  | none =>
    obtain ⟨k, h1, h1', h2⟩ := mOld_some hpos hwr
    simp only [h2]
    split
    · exact ⟨k, h1, rfl⟩
    · cases h3 : mLow w n (mNext w n) (w 9) with
      | some j => exact ⟨j, (zBest_lt h3).1, rfl⟩
      | none =>
        obtain ⟨j, h4, -, h5⟩ := zBest_some (can := fun k => decide (zF w k 1 = mNext w n ∧ 0 ≤ zF w k 2)) (lt := fun a b => decide (zF w a 2 < zF w b 2)) h1 (decide_eq_true ⟨h1', hfd k h1⟩)
        exact ⟨j, h4, h5⟩
def mBegin (w : Nat → Int32) (n : Nat) (why so : Int32) : Nat → Int32 := if why ≤ 0 then w else upd (upd (upd (upd w 15 (if so = 1 then 0 else w 15 + (if 0 < mMany w n 1 then 1 else 0))) 13 (upd w 15 (if so = 1 then 0 else w 15 + (if 0 < mMany w n 1 then 1 else 0)) 13 + 1)) 14 0) 16 so
def mEnd (w : Nat → Int32) (k : Nat) (so : Int32) : Nat → Int32 :=
  let w1 := upd w 14 (w 14 + 1)
  let w2 := upd w1 12 (w1 12 + mFar (zF w1 k 2) (w1 9))
  let w3 := upd w2 9 (if mLast w2 k < 99 then mLast w2 k + 1 else 99)
  let w4 := upd w3 6 (mMinute w1 k)
  let w5 := upd w4 10 (w4 10 + 1)
  let w6 := upd w5 11 (if w5 11 < mMinute w1 k - zF w1 k 4 then mMinute w1 k - zF w1 k 4 else w5 11)
  mNote w6 (zF w6 k 0) (mMinute w1 k - zF w1 k 4) so
def mServe (w : Nat → Int32) (n : Nat) : Nat → Int32 :=
  let k := ((mLook w n).2).getD 0
  mDrop (mEnd (mBegin w n (mLook w n).1 (zF w k 1)) k (zF w k 1)) n k
theorem mNote_lo (w : Nat → Int32) (a b c : Int32) {j : Nat} (h : j < 17) : mNote w a b c j = w j := by
  unfold mNote mShift
  simp only [upd]
  rw [if_neg (by omega), if_neg (by omega), if_neg (by omega), if_neg (by omega), if_neg (by omega)]
theorem mNote_hi (w : Nat → Int32) (a b c : Int32) {j : Nat} (h : 78 ≤ j) : mNote w a b c j = w j := by
  unfold mNote mShift
  simp only [upd]
  rw [if_neg (by omega), if_neg (by omega), if_neg (by omega), if_neg (by omega), if_neg (by omega)]
def mComes (w : Nat → Int32) (n : Nat) (wr d m : Int32) : Int32 × (Nat → Int32) :=
  if mSlip wr d m then (match mPart w n wr d m with
    | some k =>
      let w1 := upd w (78 + 6 * k + 3) (w (78 + 6 * k + 3) + m)
      let w2 := upd w1 (78 + 6 * k + 5) (w1 (78 + 6 * k + 5) + 1)
      (zF w2 k 0, w2)
    | none => if n = 30 then (-4, w) else
      let w1 := upd w (78 + 6 * n) (w 8)
      let w2 := upd w1 (78 + 6 * n + 1) wr
      let w3 := upd w2 (78 + 6 * n + 2) d
      let w4 := upd w3 (78 + 6 * n + 3) m
      let w5 := upd w4 (78 + 6 * n + 4) (w4 6)
      let w6 := upd w5 (78 + 6 * n + 5) 0
      let w7 := upd w6 7 (nI (n + 1))
      let w8 := upd w7 8 (w7 8 + 1)
      (w8 8 - 1, w8)) else (-2, w)
theorem mBegin_hi (w : Nat → Int32) (n : Nat) (a b : Int32) {j : Nat} (h : 78 ≤ j) : mBegin w n a b j = w j := by
  unfold mBegin
  split
  · rfl
  · simp only [upd]
    rw [if_neg (by omega), if_neg (by omega), if_neg (by omega), if_neg (by omega)]
theorem mEnd_hi (w : Nat → Int32) (k : Nat) (so : Int32) {j : Nat} (h : 78 ≤ j) : mEnd w k so j = w j := by
  unfold mEnd
  try dsimp only
  rw [mNote_hi _ _ _ _ h]
  simp only [upd]
  rw [if_neg (by omega), if_neg (by omega), if_neg (by omega), if_neg (by omega), if_neg (by omega), if_neg (by omega)]
theorem mDrop_F (w : Nat → Int32) {n k j f : Nat} (hk : k < n) (hj : j < n - 1) (hf : f < 6) : zF (mDrop w n k) j f = zF w (if j < k then j else j + 1) f := by
  unfold zF mDrop
  try dsimp only
  rw [if_neg (by omega)]
  by_cases h : j < k
  · rw [if_neg (by omega), if_neg (by omega), if_pos h]
  · rw [if_pos (by omega), if_neg h]
    congr 1
    omega
theorem mDrop_7 (w : Nat → Int32) (n k : Nat) : mDrop w n k 7 = nI (n - 1) := by
  unfold mDrop
  rw [if_neg (by omega), if_neg (by omega), if_pos rfl]
theorem mServe_F {w : Nat → Int32} {n k j f : Nat} (hlk : (mLook w n).2 = some k) (hk : k < n) (hj : j < n - 1) (hf : f < 6) : zF (mServe w n) j f = zF w (if j < k then j else j + 1) f := by
  unfold mServe
  simp only [hlk, Option.getD_some]
  rw [mDrop_F _ hk hj hf]
  unfold zF
  rw [mEnd_hi _ _ _ (by omega), mBegin_hi _ _ _ _ (by omega)]
theorem mServe_7 (w : Nat → Int32) (n : Nat) : mServe w n 7 = nI (n - 1) := mDrop_7 _ _ _
def mRun (w : Nat → Int32) (n : Nat) : Nat → (Nat → Int32)
  | 0 => w
  | j + 1 => mServe (mRun w n j) (n - j)
def mServes (w : Nat → Int32) (n : Nat) (many : Int32) : Int32 × (Nat → Int32) :=
  if 1 ≤ many ∧ many ≤ 30 then (if n = 0 then (-5, w) else if 99999 < mRun w n (min many.toNatClampNeg n) 6 then (-5, w) else (nI (min many.toNatClampNeg n), mRun w n (min many.toNatClampNeg n))) else (-2, w)
def mWaits (w : Nat → Int32) (mi : Int32) : Int32 × (Nat → Int32) :=
  if 1 ≤ mi ∧ mi ≤ 999 then (if 99999 < w 6 + mi then (-5, w) else (w 6 + mi, upd w 6 (w 6 + mi))) else (-2, w)
