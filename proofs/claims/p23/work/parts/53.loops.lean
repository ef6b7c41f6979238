/-! what the law's own loops carry, over the row -/
def lNo (w : Nat → Int32) (o : Option Nat) : Int32 := kOn o (-6) (fun k => zF w k 0)
theorem lNo_n (w : Nat → Int32) : lNo w none = -6 := rfl
theorem lNo_s (w : Nat → Int32) (k : Nat) : lNo w (some k) = zF w k 0 := rfl
/-- the oldest among the ranks below r -/
def lOi (w : Nat → Int32) (n : Nat) (wr : Int32) (r : Nat) (x : Int32) : Prop :=
  (x = -6 ∧ r = 0) ∨ ∃ b, b < n ∧ zF w b 1 = wr ∧ x = zF w b 0 ∧ mRank w n b < r ∧ ∀ j, j < n → zF w j 1 = wr → mRank w n j < r → b ≤ j
abbrev lCan (w : Nat → Int32) (wr d m : Int32) (j : Nat) : Prop := zF w j 1 = wr ∧ mLast w j = d - 1 ∧ zF w j 3 + m ≤ 9
/-- the partner among the ranks below r -/
def lPi (w : Nat → Int32) (n : Nat) (wr d m : Int32) (r : Nat) (x : Int32) : Prop :=
  (x = -6 ∧ ∀ j, j < n → lCan w wr d m j → ¬ mRank w n j < r) ∨ ∃ b, b < n ∧ lCan w wr d m b ∧ x = zF w b 0 ∧ mRank w n b < r ∧ ∀ j, j < n → lCan w wr d m j → mRank w n j < r → b ≤ j
section LL
variable {w : Nat → Int32} {n N t k b r : Nat} {wr d m x : Int32}
theorem lOi_0 : lOi w n wr 0 (-6) := Or.inl ⟨rfl, rfl⟩
theorem lOi_none (hk : k < n) (hs : zF w k 1 = wr) (hr : mRank w n k = r) (h0 : r = 0) : lOi w n wr (r + 1) (zF w k 0) :=
  Or.inr ⟨k, hk, hs, rfl, by omega, fun j hj hsj hrj => Nat.le_of_eq (mRank_ne hk hj (hs.trans hsj.symm) (by omega))⟩
theorem lOi_new (hk : k < n) (hs : zF w k 1 = wr) (hr : mRank w n k = r) (hm : ∀ j, j < n → zF w j 1 = wr → mRank w n j < r → b ≤ j) (hkb : k < b) : lOi w n wr (r + 1) (zF w k 0) :=
  Or.inr ⟨k, hk, hs, rfl, by omega, fun j hj hsj hrj => by
    rcases Nat.lt_or_ge (mRank w n j) r with g | g
    · have := hm j hj hsj g; omega
    · exact Nat.le_of_eq (mRank_ne hk hj (hs.trans hsj.symm) (by omega))⟩
theorem lOi_keep (hk : k < n) (hs : zF w k 1 = wr) (hr : mRank w n k = r) (hb : b < n) (hsb : zF w b 1 = wr) (hrb : mRank w n b < r) (hm : ∀ j, j < n → zF w j 1 = wr → mRank w n j < r → b ≤ j) (hkb : ¬ k < b) : lOi w n wr (r + 1) (zF w b 0) :=
  Or.inr ⟨b, hb, hsb, rfl, by omega, fun j hj hsj hrj => by
    rcases Nat.lt_or_ge (mRank w n j) r with g | g
    · exact hm j hj hsj g
    · have := mRank_ne hk hj (hs.trans hsj.symm) (by omega); omega⟩
theorem lOi_end (hO : rO w n) (hr : mMany w n wr ≤ r) (h : lOi w n wr r x) : x = lNo w (mOld w n wr) := by
  rcases h with ⟨e, h0⟩ | ⟨b, hb, hsb, e, hrb, hm⟩
  · rw [e, lOld_no (fun j hj hs => by have := lRank_lt hj hs; omega)]; rfl
  · rw [e, lOld hO hb hsb (fun j hj hs => hm j hj hs (Nat.lt_of_lt_of_le (lRank_lt hj hs) hr))]; rfl
theorem lPi_0 : lPi w n wr d m 0 (-6) := Or.inl ⟨rfl, fun _ _ _ h => absurd h (Nat.not_lt_zero _)⟩
/-- one that can't be joined -/
theorem lPi_skip (hk : k < n) (hs : zF w k 1 = wr) (hr : mRank w n k = r) (hc : ¬ lCan w wr d m k) (h : lPi w n wr d m r x) : lPi w n wr d m (r + 1) x := by
  have key : ∀ j, j < n → lCan w wr d m j → mRank w n j < r + 1 → mRank w n j < r := fun j hj hcj hrj => by
    rcases Nat.lt_or_ge (mRank w n j) r with g | g
    · exact g
    · have e := mRank_ne hk hj (hs.trans hcj.1.symm) (by omega)
      rw [← e] at hcj
      exact absurd hcj hc
  rcases h with ⟨e, h1⟩ | ⟨b, hb, hcb, e, hrb, hm⟩
  · exact Or.inl ⟨e, fun j hj hcj hrj => h1 j hj hcj (key j hj hcj hrj)⟩
  · exact Or.inr ⟨b, hb, hcb, e, by omega, fun j hj hcj hrj => hm j hj hcj (key j hj hcj hrj)⟩
theorem lPi_first (hk : k < n) (hr : mRank w n k = r) (hc : lCan w wr d m k) (h1 : ∀ j, j < n → lCan w wr d m j → ¬ mRank w n j < r) : lPi w n wr d m (r + 1) (zF w k 0) :=
  Or.inr ⟨k, hk, hc, rfl, by omega, fun j hj hcj hrj => by
    have h2 := h1 j hj hcj
    exact Nat.le_of_eq (mRank_ne hk hj (hc.1.trans hcj.1.symm) (by omega))⟩
theorem lPi_new (hk : k < n) (hr : mRank w n k = r) (hc : lCan w wr d m k) (hm : ∀ j, j < n → lCan w wr d m j → mRank w n j < r → b ≤ j) (hkb : k < b) : lPi w n wr d m (r + 1) (zF w k 0) :=
  Or.inr ⟨k, hk, hc, rfl, by omega, fun j hj hcj hrj => by
    rcases Nat.lt_or_ge (mRank w n j) r with g | g
    · have := hm j hj hcj g; omega
    · exact Nat.le_of_eq (mRank_ne hk hj (hc.1.trans hcj.1.symm) (by omega))⟩
theorem lPi_keep (hk : k < n) (hr : mRank w n k = r) (hc : lCan w wr d m k) (hb : b < n) (hcb : lCan w wr d m b) (hrb : mRank w n b < r) (hm : ∀ j, j < n → lCan w wr d m j → mRank w n j < r → b ≤ j) (hkb : ¬ k < b) : lPi w n wr d m (r + 1) (zF w b 0) :=
  Or.inr ⟨b, hb, hcb, rfl, by omega, fun j hj hcj hrj => by
    rcases Nat.lt_or_ge (mRank w n j) r with g | g
    · exact hm j hj hcj g
    · have := mRank_ne hk hj (hc.1.trans hcj.1.symm) (by omega); omega⟩
theorem lPi_end (hr : mMany w n wr ≤ r) (h : lPi w n wr d m r x) : x = lNo w (mPart w n wr d m) := by
  rcases h with ⟨e, h1⟩ | ⟨b, hb, hcb, e, hrb, hm⟩
  · rw [e, lPart_no (fun j hj hc => h1 j hj hc (Nat.lt_of_lt_of_le (lRank_lt hj hc.1) hr))]; rfl
  · rw [e, lPart hb hcb (fun j hj hc => hm j hj hc (Nat.lt_of_lt_of_le (lRank_lt hj hc.1) hr))]; rfl
/-- the law's own sum for the drawers of one that ends just ahead -/
theorem lMore (h : mLast w k = d - 1) : d - zF w k 2 = zF w k 3 := by
  unfold mLast at h
  have h2 : zF w k 2 + zF w k 3 = d := by
    have := congrArg (fun z => z + 1) h
    simp only [Int32.sub_add_cancel] at this
    exact this
  rw [← h2, Int32.add_comm]
  exact Int32.add_sub_cancel _ _
/-- the one with which the batch goes on -/
def lOn1 (w : Nat → Int32) (n : Nat) : Option Nat := if ¬ w 16 = 2 ∧ w 14 < w 2 then mLow w n (w 16) (w 9) else none
def lNext (w : Nat → Int32) (n : Nat) : Int32 := if n = 0 then -6 else zF w (lk w n) 0
theorem lNext_of {y : Int32} (hn : 0 < n) (hl : mLook w n = (y, some k)) : lNext w n = zF w k 0 := by
  unfold lNext lk
  rw [if_neg (by omega), hl]
  rfl
theorem lLook_on (ho : lOn1 w n = some k) : mLook w n = (0, some k) := by
  unfold lOn1 at ho
  unfold mLook
  rw [ho]
theorem lLook_old (ho : lOn1 w n = none) (h1 : mOld w n (mNext w n) = some k) (hp : w (zF w k 1).toNatClampNeg ≤ w 6 - zF w k 4) : mLook w n = (1, some k) := by
  unfold lOn1 at ho
  unfold mLook
  rw [ho]
  simp only [h1]
  exact if_pos hp
theorem lLook_low {j : Nat} (ho : lOn1 w n = none) (h1 : mOld w n (mNext w n) = some k) (hp : ¬ w (zF w k 1).toNatClampNeg ≤ w 6 - zF w k 4) (h2 : mLow w n (mNext w n) (w 9) = some j) : mLook w n = (2, some j) := by
  unfold lOn1 at ho
  unfold mLook
  rw [ho]
  simp only [h1]
  rw [if_neg hp, h2]
theorem lLook_3 (ho : lOn1 w n = none) (h1 : mOld w n (mNext w n) = some k) (hp : ¬ w (zF w k 1).toNatClampNeg ≤ w 6 - zF w k 4) (h2 : mLow w n (mNext w n) (w 9) = none) : mLook w n = (3, mLow w n (mNext w n) 0) := by
  unfold lOn1 at ho
  unfold mLook
  rw [ho]
  simp only [h1]
  rw [if_neg hp, h2]
theorem lNx01 : mNext w n = 0 ∨ mNext w n = 1 := by
  unfold mNext
  split
  · exact Or.inr rfl
  · split
    · exact Or.inl rfl
    · split
      · exact Or.inr rfl
      · exact Or.inl rfl
theorem lNx_r (hn : 0 < n) (h1 : mMany w n 1 = 0) : (0 : Int32) = mNext w n := by
  unfold mNext
  rw [if_neg (by omega), if_pos h1]
theorem lNx_w (hs : mMany w n 0 + mMany w n 1 = n) (h0 : mMany w n 0 = 0) : (1 : Int32) = mNext w n := by
  unfold mNext
  rw [if_pos (by omega)]
theorem lNx_s (hs : mMany w n 0 + mMany w n 1 = n) (h0 : mMany w n 0 ≠ 0) (h1 : mMany w n 1 ≠ 0) (h : ¬ w 15 < w 3) : (1 : Int32) = mNext w n := by
  unfold mNext
  rw [if_neg (by omega), if_neg h1, if_pos (z_nlt h)]
theorem lNx_n (hs : mMany w n 0 + mMany w n 1 = n) (h0 : mMany w n 0 ≠ 0) (h1 : mMany w n 1 ≠ 0) (h : w 15 < w 3) : (0 : Int32) = mNext w n := by
  unfold mNext
  rw [if_neg (by omega), if_neg h1, if_neg (z_lt' h)]
end LL
-- what the law's own small methods answer
def lMod (v : Int32) (m : Nat) : Int32 := (v &&& 2147483647) - (v &&& 2147483647) / nI m * nI m
theorem lAnd (v : Int32) : ∃ j, j < 2 ^ 31 ∧ v &&& 2147483647 = nI j := ⟨(v.toBitVec &&& 2147483647#32).toNat, by rw [BitVec.toNat_and]; exact Nat.lt_of_le_of_lt Nat.and_le_right (by decide), Int32.toBitVec_inj.mp (by
  rw [Int32.toBitVec_and]
  show _ = BitVec.ofNat 32 _
  rw [BitVec.ofNat_toNat, BitVec.setWidth_eq]
  rfl)⟩
theorem lMod_lt (v : Int32) {m : Nat} (h0 : 0 < m) (h : m < 2 ^ 31) : ∃ k, k < m ∧ lMod v m = nI k := by
  obtain ⟨j, hj, e⟩ := lAnd v
  unfold lMod
  rw [e]
  exact ⟨j % m, Nat.mod_lt _ h0, pk_rem hj h0 h⟩
theorem lX_rd {s : State} {H0 H : Heap} {b L : Nat} {xs : Nat → Int32} {A : Nat → Prop} {locs : List Loc} (hX : va_X b L xs s H0) (hbl : b < H0.size) (hbA : ¬ A b) (hS : va_S A H0 H locs) : zRd s H b L xs := by
  obtain ⟨scr, h1, h2, h3, h4, h5⟩ := hX
  exact ⟨scr, (hS.2.1 b hbl hbA).trans h1, h2, h3, Nat.le_of_eq h4.symm, by rw [h4], h5⟩
