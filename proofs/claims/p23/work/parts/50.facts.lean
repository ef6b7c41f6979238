/-! what the law finds, over the row: ranks, the lowest, the oldest, the partner -/
section LF
variable {w : Nat → Int32} {n N t : Nat}
theorem lPig0 {p q : Nat → Bool} {f : Nat → Nat} {n m : Nat} (hf : ∀ k, k < n → p k = true → f k < m ∧ q (f k) = true) (hi : ∀ k, k < n → ∀ j, j < n → p k = true → p j = true → f k = f j → k = j) : zCnt p n ≤ zCnt q m := by
  induction n generalizing q with
  | zero => exact Nat.zero_le _
  | succ n ih =>
    cases hp : p n with
    | false =>
      rw [← zCnt_n hp]
      exact ih (fun k hk => hf k (by omega)) (fun k hk j hj => hi k (by omega) j (by omega))
    | true =>
      obtain ⟨h1, h2⟩ := hf n (by omega) hp
      have h3 := zCnt_erase (q := q) h1
      rw [if_pos h2] at h3
      have h4 := ih (q := fun j => q j && !decide (j = f n)) (fun k hk hpk => ⟨(hf k (by omega) hpk).1, by
        have hne : ¬ f k = f n := fun e => by have := hi k (by omega) n (by omega) hpk hp e; omega
        show (q (f k) && !decide (f k = f n)) = true
        rw [(hf k (by omega) hpk).2, decide_eq_false hne]; rfl⟩) (fun k hk j hj => hi k (by omega) j (by omega))
      rw [← zCnt_y hp]
      omega
theorem lPig {p : Nat → Bool} {f : Nat → Nat} {n m : Nat} (hf : ∀ k, k < n → p k = true → f k < m) (hi : ∀ k, k < n → ∀ j, j < n → p k = true → p j = true → f k = f j → k = j) (hm : zCnt p n = m) {r : Nat} (hr : r < m) : ∃ k, k < n ∧ p k = true ∧ f k = r := by
  apply Classical.byContradiction
  intro hno
  have h1 := lPig0 (p := p) (q := fun i => true && !decide (i = r)) (f := f) (n := n) (m := m) (fun k hk hp => ⟨hf k hk hp, by
    have hne : ¬ f k = r := fun e => hno ⟨k, hk, hp, e⟩
    show (true && !decide (f k = r)) = true
    rw [decide_eq_false hne]; rfl⟩) hi
  have h2 := zCnt_erase (q := fun _ => true) hr
  rw [if_pos rfl, zCnt_true] at h2
  omega
/-- ahead: by the drawer, then by the place -/
abbrev lAh (w : Nat → Int32) (a b : Nat) : Prop := zF w a 2 < zF w b 2 ∨ (zF w a 2 = zF w b 2 ∧ a < b)
theorem lAh_tot {a b : Nat} (h : a ≠ b) : lAh w a b ∨ lAh w b a := by
  by_cases h1 : zF w a 2 < zF w b 2
  · exact Or.inl (Or.inl h1)
  · by_cases h2 : zF w b 2 < zF w a 2
    · exact Or.inr (Or.inl h2)
    · have e : zF w a 2 = zF w b 2 := by rw [zi_lt] at h1 h2; rw [zi_eq]; omega
      rcases Nat.lt_or_ge a b with g | g
      · exact Or.inl (Or.inr ⟨e, g⟩)
      · exact Or.inr (Or.inr ⟨e.symm, by omega⟩)
theorem lRank_mono {a b : Nat} (ha : a < n) (hs : zF w a 1 = zF w b 1) (hl : lAh w a b) : mRank w n a < mRank w n b := by
  refine zCnt_less (i := a) (fun j hj hc => ?_) ha ?_ (decide_eq_true ⟨hs, hl⟩)
  · have hc := of_decide_eq_true hc
    refine decide_eq_true ⟨hc.1.trans hs, ?_⟩
    rcases hc.2 with q | ⟨q1, q2⟩
    · rcases hl with g | ⟨g1, g2⟩
      · exact Or.inl (by rw [zi_lt] at q g ⊢; omega)
      · exact Or.inl (by rw [← g1]; exact q)
    · rcases hl with g | ⟨g1, g2⟩
      · exact Or.inl (by rw [q1]; exact g)
      · exact Or.inr ⟨q1.trans g1, by omega⟩
  · refine decide_eq_false (fun z => ?_)
    rcases z.2 with g | ⟨-, g⟩
    · rw [zi_lt] at g; omega
    · omega
theorem lRank_lt {k : Nat} (hk : k < n) {wr : Int32} (hs : zF w k 1 = wr) : mRank w n k < mMany w n wr := by
  refine zCnt_less (i := k) (fun j hj hc => ?_) hk ?_ (decide_eq_true hs)
  · exact decide_eq_true ((of_decide_eq_true hc).1.trans hs)
  · refine decide_eq_false (fun z => ?_)
    rcases z.2 with g | ⟨-, g⟩
    · rw [zi_lt] at g; omega
    · omega
/-- of two of a sort: the one with the lower rank is ahead -/
theorem lRank_ah {a b : Nat} (ha : a < n) (hb : b < n) (hs : zF w a 1 = zF w b 1) (h : mRank w n a < mRank w n b) : lAh w a b := by
  have hne : a ≠ b := fun e => by rw [e] at h; omega
  rcases lAh_tot (w := w) hne with g | g
  · exact g
  · have := lRank_mono hb hs.symm g; omega
theorem lAt {wr : Int32} {r : Nat} (hr : r < mMany w n wr) : ∃ k, k < n ∧ zF w k 1 = wr ∧ mRank w n k = r := by
  obtain ⟨k, h1, h2, h3⟩ := lPig (p := fun k => decide (zF w k 1 = wr)) (f := mRank w n) (n := n) (m := mMany w n wr) (fun k hk hp => lRank_lt hk (of_decide_eq_true hp)) (fun k hk j hj hp hq e => mRank_ne hk hj ((of_decide_eq_true hp).trans (of_decide_eq_true hq).symm) e) rfl hr
  exact ⟨k, h1, of_decide_eq_true h2, h3⟩
theorem lMany_le (w : Nat → Int32) (n : Nat) (wr : Int32) : mMany w n wr ≤ n := zCnt_le _ _
theorem lRank_le (w : Nat → Int32) (n k : Nat) : mRank w n k ≤ n := zCnt_le _ _
theorem lWait {wr : Int32} {k : Nat} (h30 : n ≤ 30) (hwr : wr = 0 ∨ wr = 1) (hk : k < n) (hs : zF w k 1 = wr) : mWait w n wr (nI (mRank w n k)) = zF w k 0 := by
  unfold mWait
  rw [if_pos ((z_wr wr).mp hwr)]
  have h1 : zFirst (fun j => decide (zF w j 1 = wr ∧ nI (mRank w n j) = nI (mRank w n k))) n = some k := zFirst_uniq hk (decide_eq_true ⟨hs, rfl⟩) (fun j hj hc => by
    have hc := of_decide_eq_true hc
    have h1 := lRank_le w n j
    have h2 := lRank_le w n k
    exact mRank_ne hj hk (hc.1.trans hs.symm) ((nI_eq (by omega) (by omega)).mp hc.2))
  rw [h1]
theorem lWait_no {wr rk : Int32} (hwr : wr = 0 ∨ wr = 1) (hno : ∀ k, k < n → zF w k 1 = wr → ¬ nI (mRank w n k) = rk) : mWait w n wr rk = -1 := by
  unfold mWait
  rw [if_pos ((z_wr wr).mp hwr)]
  have h1 : zFirst (fun j => decide (zF w j 1 = wr ∧ nI (mRank w n j) = rk)) n = none := zFirst_none.mpr (fun j hj => decide_eq_false (fun z => hno j hj z.1 z.2))
  rw [h1]
theorem lWait_end {wr : Int32} (h30 : n ≤ 30) (hwr : wr = 0 ∨ wr = 1) : mWait w n wr (nI (mMany w n wr)) = -1 := lWait_no hwr (fun k hk hs e => by
  have h1 := lRank_lt hk hs
  have h2 := lMany_le w n wr
  have h3 := (nI_eq (by omega) (by omega)).mp e
  omega)
theorem lWait_neg {wr : Int32} (h30 : n ≤ 30) (hwr : wr = 0 ∨ wr = 1) : mWait w n wr (-1) = -1 := lWait_no hwr (fun k hk hs e => by
  have h2 := lRank_le w n k
  exact nI_pos (n := mRank w n k) (by omega) (by rw [e]; decide))
theorem lFind (hO : rO w n) {k : Nat} (hk : k < n) : mFind w n (zF w k 0) = some k := zFirst_uniq hk (decide_eq_true rfl) (fun j hj hc => rNum_ne hO hj hk (of_decide_eq_true hc))
theorem zBest_is {can : Nat → Bool} {f : Nat → Int32} {n k : Nat} (hk : k < n) (hc : can k = true) (hm : ∀ j, j < n → can j = true → f k ≤ f j ∧ (j < k → f k < f j)) : zBest can (fun a b => decide (f a < f b)) n = some k := by
  obtain ⟨b, hb, hcb, he⟩ := zBest_some (can := can) (lt := fun a b => decide (f a < f b)) hk hc
  rw [he]
  have h1 := zBest_key he k hk hc
  have h2 := hm b hb hcb
  rcases Nat.lt_trichotomy b k with g | g | g
  · have h3 := h2.2 g
    have h4 := h1.1
    rw [zi_le] at h4; rw [zi_lt] at h3; omega
  · rw [g]
  · have h3 := h1.2 g
    have h4 := h2.1
    rw [zi_le] at h4; rw [zi_lt] at h3; omega
/-- the lowest of a sort from a drawer on, when none of the lower ranks is there -/
theorem lLow {wr fr : Int32} {k : Nat} (hk : k < n) (hs : zF w k 1 = wr) (hf : ¬ zF w k 2 < fr) (hlow : ∀ j, j < n → zF w j 1 = wr → mRank w n j < mRank w n k → zF w j 2 < fr) : mLow w n wr fr = some k := by
  refine zBest_is hk (decide_eq_true ⟨hs, z_nlt hf⟩) (fun j hj hc => ?_)
  have hc := of_decide_eq_true hc
  by_cases e : j = k
  · rw [e]; exact ⟨zi_le.mpr (Int.le_refl _), fun q => absurd q (Nat.lt_irrefl _)⟩
  · have hr : ¬ mRank w n j < mRank w n k := fun z => z_lt' (hlow j hj hc.1 z) hc.2
    have hr2 : mRank w n k < mRank w n j := by
      have : mRank w n j ≠ mRank w n k := fun z => e (mRank_ne hj hk (hc.1.trans hs.symm) z)
      omega
    rcases lRank_ah hk hj (hs.trans hc.1.symm) hr2 with g | ⟨g1, g2⟩
    · exact ⟨by rw [zi_lt] at g; rw [zi_le]; omega, fun _ => g⟩
    · exact ⟨by rw [g1]; exact zi_le.mpr (Int.le_refl _), fun q => absurd q (by omega)⟩
theorem lLow_no {wr fr : Int32} (hno : ∀ j, j < n → zF w j 1 = wr → zF w j 2 < fr) : mLow w n wr fr = none := zBest_none.mpr (fun j hj => decide_eq_false (fun z => z_lt' (hno j hj z.1) z.2))
theorem lOld (hO : rO w n) {wr : Int32} {k : Nat} (hk : k < n) (hs : zF w k 1 = wr) (hm : ∀ j, j < n → zF w j 1 = wr → k ≤ j) : mOld w n wr = some k := by
  refine zBest_is hk (decide_eq_true hs) (fun j hj hc => ?_)
  have h1 := hm j hj (of_decide_eq_true hc)
  refine ⟨?_, fun q => absurd q (by omega)⟩
  rcases Nat.lt_or_ge k j with g | g
  · exact (hO k j g hj).2
  · rw [show j = k by omega]; exact zi_le.mpr (Int.le_refl _)
theorem lOld_no {wr : Int32} (hno : ∀ j, j < n → ¬ zF w j 1 = wr) : mOld w n wr = none := zBest_none.mpr (fun j hj => decide_eq_false (hno j hj))
theorem lPart {wr d m : Int32} {k : Nat} (hk : k < n) (hc : zF w k 1 = wr ∧ mLast w k = d - 1 ∧ zF w k 3 + m ≤ 9) (hm : ∀ j, j < n → (zF w j 1 = wr ∧ mLast w j = d - 1 ∧ zF w j 3 + m ≤ 9) → k ≤ j) : mPart w n wr d m = some k := zFirst_at hk (decide_eq_true hc) (fun j hj => decide_eq_false (fun z => by have := hm j (by omega) z; omega))
theorem lPart_no {wr d m : Int32} (hno : ∀ j, j < n → ¬ (zF w j 1 = wr ∧ mLast w j = d - 1 ∧ zF w j 3 + m ≤ 9)) : mPart w n wr d m = none := zFirst_none.mpr (fun j hj => decide_eq_false (hno j hj))
/-- what holds besides: numbers and minutes of coming are no less than 0; few minutes for a drawer -/
def lX (w : Nat → Int32) (n : Nat) : Prop := (∀ k, k < n → 0 ≤ zF w k 0 ∧ 0 ≤ zF w k 4) ∧ (∃ a : Nat, a ≤ 3 ∧ w 4 = nI a) ∧ (∃ b : Nat, b ≤ 4 ∧ w 5 = nI b)
/-- ages, as whole numbers -/
theorem lAge (hI : rI w n) (hX : lX w n) (h6 : w 6 = nI t) (ht : t < 2 ^ 31) {k : Nat} (hk : k < n) : (w 6 - zF w k 4).toInt = (t : Int) - (zF w k 4).toInt ∧ 0 ≤ (zF w k 4).toInt ∧ (zF w k 4).toInt ≤ t := by
  obtain ⟨-, h4⟩ := hX.1 k hk
  obtain ⟨j, hj, e⟩ := nI_of (x := zF w k 4) (fun z => z_lt' z h4)
  have h5 := (hI k hk).2.2.2
  rw [h6, e] at h5
  have h6' := (nI_leI (by omega) ht).mp h5
  rw [h6, e, nI_toInt hj, pk_sub h6', nI_toInt (by omega)]
  omega
theorem lOlder (hI : rI w n) (hO : rO w n) (hX : lX w n) (h6 : w 6 = nI t) (ht : t < 2 ^ 31) {j b : Nat} (hj : j < n) (hb : b < n) (hne : j ≠ b) : (j < b → w 6 - zF w b 4 < w 6 - zF w j 4 ∨ (w 6 - zF w j 4 = w 6 - zF w b 4 ∧ zF w j 0 < zF w b 0)) ∧ (¬ j < b → ¬ (w 6 - zF w b 4 < w 6 - zF w j 4) ∧ (w 6 - zF w j 4 = w 6 - zF w b 4 → ¬ zF w j 0 < zF w b 0)) := by
  obtain ⟨a1, a2, a3⟩ := lAge hI hX h6 ht hj
  obtain ⟨b1, b2, b3⟩ := lAge hI hX h6 ht hb
  constructor
  · intro h
    obtain ⟨o1, o2⟩ := hO j b h hb
    rw [zi_le] at o2
    by_cases e : (zF w j 4).toInt < (zF w b 4).toInt
    · exact Or.inl (by rw [zi_lt, a1, b1]; omega)
    · exact Or.inr ⟨by rw [zi_eq, a1, b1]; omega, o1⟩
  · intro h
    obtain ⟨o1, o2⟩ := hO b j (by omega) hj
    rw [zi_le] at o2
    exact ⟨by rw [zi_lt, a1, b1]; omega, fun _ z => by rw [zi_lt] at o1 z; omega⟩
end LF
