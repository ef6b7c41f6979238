def mNextQ (w : Nat → Int32) (n : Nat) (what : Int32) : Int32 := if 0 ≤ what ∧ what ≤ 2 then (if n = 0 then -6 else if what = 0 then zF w (((mLook w n).2).getD 0) 0 else if what = 1 then (mLook w n).1 else mMinute w (((mLook w n).2).getD 0)) else -2
def mGone (w : Nat → Int32) (n : Nat) (x : Int32) : Nat := (zFirst (fun j => decide (mFind (mRun w n j) (n - j) x = none)) (n + 1)).getD 0
def mServedIn (w : Nat → Int32) (n : Nat) (x : Int32) : Int32 := if mFind w n x = none then -1 else mRun w n (mGone w n x) 6 - w 6
def mAll (w : Nat → Int32) (n : Nat) (what : Int32) : Int32 := if 0 ≤ what ∧ what ≤ 2 then (if n = 0 then -6 else if what = 0 then mRun (upd w 11 0) n n 6 - w 6 else if what = 1 then mRun (upd w 11 0) n n 12 - w 12 else mRun (upd w 11 0) n n 11) else -2
