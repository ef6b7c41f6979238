section ZM
variable {p : Program} {l : Launch} {e : Env} {R : Room} {s : State} {m : MethodId} {args : Array Value} {below : List Frame} {meth : Method} {c : Code} {H : Heap} {locs : List Loc} {cells slots : Nat} {Q : State → Prop}
variable {pc : Nat} {ls : Array Slot} {rest : List Value} {cc : ByteArray} {H0 : Heap}
end ZM
-- what the model computes, as functions of its row
def zF (w : Nat → Int32) (k f : Nat) : Int32 := w (78 + 6 * k + f)
def zFirst (p : Nat → Bool) : Nat → Option Nat
  | 0 => none
  | n + 1 => match zFirst p n with
    | some k => some k
    | none => if p n then some n else none
def zCnt (p : Nat → Bool) : Nat → Nat
  | 0 => 0
  | n + 1 => zCnt p n + (if p n then 1 else 0)
def zBest (can : Nat → Bool) (lt : Nat → Nat → Bool) : Nat → Option Nat
  | 0 => none
  | n + 1 => match zBest can lt n with
    | none => if can n then some n else none
    | some b => if can n && lt n b then some n else some b
theorem zFirst_no {p : Nat → Bool} {i : Nat} (h : zFirst p i = none) (hp : p i = false) : zFirst p (i + 1) = none := by simp [zFirst, h, hp]
theorem zFirst_hit {p : Nat → Bool} {i : Nat} (h : zFirst p i = none) (hp : p i = true) {n : Nat} (hn : i < n) : zFirst p n = some i := by
  induction n with
  | zero => omega
  | succ n ih =>
    rcases Nat.lt_or_ge i n with q | q
    · simp [zFirst, ih q]
    · have : i = n := by omega
      subst this
      simp [zFirst, h, hp]
theorem zFirst_lt {p : Nat → Bool} {n k : Nat} (h : zFirst p n = some k) : k < n ∧ p k = true ∧ ∀ j, j < k → p j = false := by
  induction n with
  | zero => simp [zFirst] at h
  | succ n ih =>
    cases hz : zFirst p n with
    | some j =>
      simp only [zFirst, hz] at h
      obtain ⟨h1, h2⟩ := ih (hz.trans h)
      exact ⟨Nat.lt_succ_of_lt h1, h2⟩
    | none =>
      have hno : ∀ (i : Nat), zFirst p i = none → ∀ j, j < i → p j = false := by
        intro i
        induction i with
        | zero => intro _ j hj; omega
        | succ i ih2 =>
          intro hi j hj
          cases hzi : zFirst p i with
          | some q => simp [zFirst, hzi] at hi
          | none =>
            have hpi : p i = false := by
              cases hpi : p i with
              | true => simp [zFirst, hzi, hpi] at hi
              | false => rfl
            rcases Nat.lt_or_ge j i with q | q
            · exact ih2 hzi j q
            · have : j = i := by omega
              rw [this]; exact hpi
      simp only [zFirst, hz] at h
      cases hp : p n with
      | true =>
        simp only [hp, if_true] at h
        have e := Option.some.inj h
        rw [← e]
        exact ⟨Nat.lt_succ_self _, hp, hno n hz⟩
      | false => simp [hp] at h
theorem zFirst_none {p : Nat → Bool} {n : Nat} : zFirst p n = none ↔ ∀ j, j < n → p j = false := by
  induction n with
  | zero => simp [zFirst]
  | succ n ih =>
    constructor
    · intro h j hj
      cases hz : zFirst p n with
      | some q => simp [zFirst, hz] at h
      | none =>
        have hpn : p n = false := by
          cases hpn : p n with
          | true => simp [zFirst, hz, hpn] at h
          | false => rfl
        rcases Nat.lt_or_ge j n with q | q
        · exact ih.mp hz j q
        · have : j = n := by omega
          rw [this]; exact hpn
    · intro h
      exact zFirst_no (ih.mpr (fun j hj => h j (by omega))) (h n (by omega))
theorem zCnt_le (p : Nat → Bool) (n : Nat) : zCnt p n ≤ n := by
  induction n with
  | zero => exact Nat.le_refl 0
  | succ n ih => simp only [zCnt]; split <;> omega
theorem zBest_lt {can : Nat → Bool} {lt : Nat → Nat → Bool} {n k : Nat} (h : zBest can lt n = some k) : k < n ∧ can k = true := by
  induction n generalizing k with
  | zero => simp [zBest] at h
  | succ n ih =>
    cases hz : zBest can lt n with
    | none =>
      simp only [zBest, hz] at h
      split at h
      · have e := Option.some.inj h
        rw [← e]
        exact ⟨Nat.lt_succ_self _, by assumption⟩
      · cases h
    | some b =>
      simp only [zBest, hz] at h
      split at h
      · rename_i hc
        have e := Option.some.inj h
        rw [← e]
        rw [Bool.and_eq_true] at hc
        exact ⟨Nat.lt_succ_self _, hc.1⟩
      · have e := Option.some.inj h
        rw [← e]
        exact ⟨Nat.lt_succ_of_lt (ih hz).1, (ih hz).2⟩
theorem zBest_none {can : Nat → Bool} {lt : Nat → Nat → Bool} {n : Nat} : zBest can lt n = none ↔ ∀ j, j < n → can j = false := by
  induction n with
  | zero => simp [zBest]
  | succ n ih =>
    constructor
    · intro h j hj
      cases hz : zBest can lt n with
      | some b =>
        simp only [zBest, hz] at h
        split at h <;> cases h
      | none =>
        have hcn : can n = false := by
          cases hcn : can n with
          | true => simp [zBest, hz, hcn] at h
          | false => rfl
        rcases Nat.lt_or_ge j n with q | q
        · exact ih.mp hz j q
        · have : j = n := by omega
          rw [this]; exact hcn
    · intro h
      have h1 := ih.mpr (fun j hj => h j (by omega))
      simp [zBest, h1, h n (by omega)]
def mFind (w : Nat → Int32) (n : Nat) (x : Int32) : Option Nat := zFirst (fun k => decide (zF w k 0 = x)) n
def mMany (w : Nat → Int32) (n : Nat) (x : Int32) : Nat := zCnt (fun k => decide (zF w k 1 = x)) n
def mLow (w : Nat → Int32) (n : Nat) (wr fr : Int32) : Option Nat := zBest (fun k => decide (zF w k 1 = wr ∧ fr ≤ zF w k 2)) (fun a b => decide (zF w a 2 < zF w b 2)) n
def mOld (w : Nat → Int32) (n : Nat) (wr : Int32) : Option Nat := zBest (fun k => decide (zF w k 1 = wr)) (fun a b => decide (zF w a 4 < zF w b 4)) n
def mLast (w : Nat → Int32) (k : Nat) : Int32 := zF w k 2 + zF w k 3 - 1
def mFar (a b : Int32) : Int32 := if a < b then b - a else a - b
def mPart (w : Nat → Int32) (n : Nat) (wr d m : Int32) : Option Nat := zFirst (fun k => decide (zF w k 1 = wr ∧ mLast w k = d - 1 ∧ zF w k 3 + m ≤ 9)) n
def mNext (w : Nat → Int32) (n : Nat) : Int32 := if mMany w n 1 = n then 1 else if mMany w n 1 = 0 then 0 else if w 3 ≤ w 15 then 1 else 0
def mMinute (w : Nat → Int32) (k : Nat) : Int32 := w 6 + w 4 * mFar (zF w k 2) (w 9) + w 5 * zF w k 3
def mRank (w : Nat → Int32) (n k : Nat) : Nat := zCnt (fun x => decide (zF w x 1 = zF w k 1 ∧ (zF w x 2 < zF w k 2 ∨ (zF w x 2 = zF w k 2 ∧ x < k)))) n
abbrev mSlip (a d m : Int32) : Prop := (0 ≤ a ∧ a ≤ 1) ∧ (0 ≤ d ∧ d ≤ 99) ∧ (1 ≤ m ∧ m ≤ 9) ∧ d + m ≤ 100
