theorem z_nlt {a b : Int32} (h : ¬ a < b) : b ≤ a := by rw [Int32.lt_iff_toInt_lt] at h; rw [Int32.le_iff_toInt_le]; omega
theorem z_nle {a b : Int32} (h : ¬ a ≤ b) : b < a := by rw [Int32.le_iff_toInt_le] at h; rw [Int32.lt_iff_toInt_lt]; omega
theorem z_lt' {a b : Int32} (h : a < b) : ¬ b ≤ a := by rw [Int32.lt_iff_toInt_lt] at h; rw [Int32.le_iff_toInt_le]; omega
theorem z_le' {a b : Int32} (h : a ≤ b) : ¬ b < a := by rw [Int32.le_iff_toInt_le] at h; rw [Int32.lt_iff_toInt_lt]; omega
theorem zBest_skip {can : Nat → Bool} {lt : Nat → Nat → Bool} {n : Nat} (h : can n = false) : zBest can lt (n + 1) = zBest can lt n := by
  cases hz : zBest can lt n with
  | none => simp [zBest, hz, h]
  | some b => simp [zBest, hz, h]
theorem zBest_first {can : Nat → Bool} {lt : Nat → Nat → Bool} {n : Nat} (hz : zBest can lt n = none) (h : can n = true) : zBest can lt (n + 1) = some n := by simp [zBest, hz, h]
theorem zBest_less {can : Nat → Bool} {lt : Nat → Nat → Bool} {n b : Nat} (hz : zBest can lt n = some b) (h : can n = true) (h2 : lt n b = true) : zBest can lt (n + 1) = some n := by simp [zBest, hz, h, h2]
theorem zBest_keep {can : Nat → Bool} {lt : Nat → Nat → Bool} {n b : Nat} (hz : zBest can lt n = some b) (h2 : lt n b = false) : zBest can lt (n + 1) = some b := by simp [zBest, hz, h2]
theorem zCnt_y {p : Nat → Bool} {n : Nat} (h : p n = true) : zCnt p n + 1 = zCnt p (n + 1) := by simp [zCnt, h]
theorem zCnt_n {p : Nat → Bool} {n : Nat} (h : p n = false) : zCnt p n = zCnt p (n + 1) := by simp [zCnt, h]
def mOf (w : Nat → Int32) (n : Nat) (x what : Int32) : Int32 := match mFind w n x with
  | none => -1
  | some k => if what = 0 then zF w k 1 else if what = 1 then zF w k 2 else if what = 2 then mLast w k else if what = 3 then w 6 - zF w k 4 else if what = 4 then (if w (zF w k 1).toNatClampNeg ≤ w 6 - zF w k 4 then 1 else 0) else if what = 5 then zF w k 5 else -2
def mWait (w : Nat → Int32) (n : Nat) (wr rk : Int32) : Int32 := if 0 ≤ wr ∧ wr ≤ 1 then (match zFirst (fun k => decide (zF w k 1 = wr ∧ nI (mRank w n k) = rk)) n with
  | none => -1
  | some k => zF w k 0) else -2
def mLog (w : Nat → Int32) (ago what : Int32) : Int32 := if 0 ≤ ago ∧ ago ≤ w 17 - 1 then (if 0 ≤ what ∧ what ≤ 2 then w (18 + 3 * ago.toNatClampNeg + what.toNatClampNeg) else -2) else -1
def mCount (w : Nat → Int32) (n : Nat) (le st what : Int32) : Int32 := if 10 ≤ what ∧ what ≤ 15 then w (what.toNatClampNeg - 10) else if what = 0 then w 6 else if what = 1 then nI (mMany w n 0) else if what = 2 then nI (mMany w n 1) else if what = 3 then w 9 else if what = 4 then w 10 else if what = 5 then w 11 else if what = 6 then w 12 else if what = 7 then w 13 else if what = 8 then w 14 else if what = 9 then w 15 else if what = 16 then le else if what = 17 then st else -2
def mJoined (w : Nat → Int32) (n : Nat) (wr d m : Int32) : Int32 := if mSlip wr d m then (match mPart w n wr d m with
  | none => -6
  | some k => zF w k 0) else -2
theorem z_ix {x a b : Int32} {na nb : Nat} (ha : a = nI na) (hb : b = nI nb) (hla : na < 2 ^ 31) (hlb : nb < 2 ^ 31) (h : a ≤ x ∧ x ≤ b) : ∃ j : Nat, x = nI j ∧ na ≤ j ∧ j ≤ nb := by
  have h1 := h.1
  have h2 := h.2
  rw [ha, Int32.le_iff_toInt_le, nI_toInt hla] at h1
  rw [hb, Int32.le_iff_toInt_le, nI_toInt hlb] at h2
  obtain ⟨j, hj, rfl⟩ := nI_of (x := x) (fun z => by rw [Int32.lt_iff_toInt_lt] at z; have : (0 : Int32).toInt = 0 := by decide
                                                     omega)
  rw [nI_toInt hj] at h1 h2
  exact ⟨j, rfl, by omega, by omega⟩
def mLeast (x : Int32) : Int32 := if x = 4 then 0 else 1
def mMost (x : Int32) : Int32 := if x < 2 then 999 else if x = 2 then 16 else if x = 5 then 20 else 9
