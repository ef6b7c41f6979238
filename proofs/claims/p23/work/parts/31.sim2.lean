def rPl (P : Nat → Nat → Int32) (w : Nat → Int32) (n : Nat) (σ : Nat → Nat) : Prop :=
  (∀ k, k < n → σ k < 30) ∧ (∀ k, k < n → ∀ j, j < n → σ k = σ j → k = j) ∧ (∀ i, i < 30 → (¬ P i 1 = 0 ↔ ∃ k, k < n ∧ σ k = i)) ∧ (∀ k, k < n → ∀ f, f < 6 → P (σ k) (f + 2) = zF w k f)
def rI (w : Nat → Int32) (n : Nat) : Prop := ∀ k, k < n → (zF w k 1 = 0 ∨ zF w k 1 = 1) ∧ (∃ d m : Nat, zF w k 2 = nI d ∧ zF w k 3 = nI m ∧ 1 ≤ m ∧ m ≤ 9 ∧ d + m ≤ 100) ∧ zF w k 0 < w 8 ∧ zF w k 4 ≤ w 6
def rO (w : Nat → Int32) (n : Nat) : Prop := ∀ k j, k < j → j < n → zF w k 0 < zF w j 0 ∧ zF w k 4 ≤ zF w j 4
def rW (w : Nat → Int32) (n N t ar B S : Nat) : Prop :=
  w 7 = nI n ∧ n ≤ 30 ∧ w 8 = nI N ∧ S + n ≤ N ∧ N < 2 ^ 30 ∧ w 6 = nI t ∧ t + 1071 * n ≤ 132129 ∧ w 9 = nI ar ∧ ar ≤ 99 ∧ w 10 = nI S ∧ w 13 = nI B ∧ B ≤ S ∧ w 17 = nI (min S 20) ∧ ((B = 0 ∧ w 16 = 2) ∨ (0 < B ∧ (w 16 = 0 ∨ w 16 = 1))) ∧ (∃ a : Nat, a ≤ 9 ∧ w 4 = nI a) ∧ (∃ b : Nat, b ≤ 20 ∧ w 5 = nI b)
def rE (A : zA) (w : Nat → Int32) (n B : Nat) : Prop :=
  (∀ j, j < 6 → aT A j = w j) ∧ aF A 6 = w 6 ∧ aF A 5 = w 8 ∧ aF A 7 = w 9 ∧ aF A 8 = w 11 ∧ aF A 9 = w 12 ∧ aF A 10 = w 13 ∧ aF A 12 = w 14 ∧ aF A 13 = w 15 ∧ (0 < B → aF A 11 = w 16) ∧ aF A 3 = nI (mMany w n 0) ∧ aF A 4 = nI (mMany w n 1)
def rL (A : zA) (w : Nat → Int32) : Prop := ∀ j, j < 20 → j < aS A → aU A ((aS A - 1 - j) % 20) = w (18 + 3 * j + 0) ∧ aV A ((aS A - 1 - j) % 20) = w (18 + 3 * j + 1) ∧ aX A ((aS A - 1 - j) % 20) = w (18 + 3 * j + 2)
def Rep (A : zA) (w : Nat → Int32) (n N t : Nat) : Prop := ∃ (σ : Nat → Nat) (ar B : Nat), rPl (aP A) w n σ ∧ rW w n N t ar B (aS A) ∧ rI w n ∧ rO w n ∧ rE A w n B ∧ rL A w ∧ zWfA A
section RP
variable {P : Nat → Nat → Int32} {w : Nat → Int32} {n : Nat} {σ : Nat → Nat}
theorem rPl_f (h : rPl P w n σ) {k : Nat} (hk : k < n) : P (σ k) 2 = zF w k 0 ∧ P (σ k) 3 = zF w k 1 ∧ P (σ k) 4 = zF w k 2 ∧ P (σ k) 5 = zF w k 3 ∧ P (σ k) 6 = zF w k 4 ∧ P (σ k) 7 = zF w k 5 :=
  ⟨h.2.2.2 k hk 0 (by decide), h.2.2.2 k hk 1 (by decide), h.2.2.2 k hk 2 (by decide), h.2.2.2 k hk 3 (by decide), h.2.2.2 k hk 4 (by decide), h.2.2.2 k hk 5 (by decide)⟩
theorem rPl_w (h : rPl P w n σ) {k : Nat} (hk : k < n) : ¬ P (σ k) 1 = 0 := (h.2.2.1 (σ k) (h.1 k hk)).mpr ⟨k, hk, rfl⟩
theorem rKs (h : rPl P w n σ) {k : Nat} (hk : k < n) {x : Int32} : kS P x (σ k) ↔ zF w k 1 = x :=
  ⟨fun z => (rPl_f h hk).2.1.symm.trans z.2, fun z => ⟨rPl_w h hk, (rPl_f h hk).2.1.trans z⟩⟩
theorem rNum_ne (hO : rO w n) {k j : Nat} (hk : k < n) (hj : j < n) (e : zF w k 0 = zF w j 0) : k = j := by
  rcases Nat.lt_trichotomy k j with q | q | q
  · have := (hO k j q hj).1; rw [e, zi_lt] at this; omega
  · exact q
  · have := (hO j k q hk).1; rw [e, zi_lt] at this; omega
/-- of two that wait, the one that is ahead by its drawer, then by its number -/
theorem rAh (h : rPl P w n σ) (hO : rO w n) {k j : Nat} (hk : k < n) (hj : j < n) : kAh P (σ k) (σ j) ↔ (zF w k 2 < zF w j 2 ∨ (zF w k 2 = zF w j 2 ∧ k < j)) := by
  obtain ⟨a0, -, a2, -, -, -⟩ := rPl_f h hk
  obtain ⟨b0, -, b2, -, -, -⟩ := rPl_f h hj
  have hn : zF w k 0 < zF w j 0 ↔ k < j := by
    constructor
    · intro z
      rcases Nat.lt_trichotomy k j with q | q | q
      · exact q
      · subst q; rw [zi_lt] at z; omega
      · have := (hO j k q hk).1; rw [zi_lt] at this z; omega
    · intro z; exact (hO k j z hj).1
  show (P (σ k) 4 < P (σ j) 4 ∨ (P (σ k) 4 = P (σ j) 4 ∧ P (σ k) 2 < P (σ j) 2)) ↔ _
  rw [a0, a2, b0, b2, hn]
theorem rLow (h : rPl P w n σ) (hO : rO w n) (x d : Int32) : kLow P x d 30 = (mLow w n x d).map σ := by
  rcases hq : mLow w n x d with _ | k
  · refine zBest_none.mpr (fun i hi => decide_eq_false (fun hc => ?_))
    obtain ⟨k, hk, e⟩ := (h.2.2.1 i hi).mp hc.1.1
    subst e
    refine of_decide_eq_false (p := zF w k 1 = x ∧ d ≤ zF w k 2) (zBest_none.mp hq k hk) ⟨(rKs h hk).mp hc.1, ?_⟩
    rw [← (rPl_f h hk).2.2.1]; exact hc.2
  · obtain ⟨hk, hc⟩ := zBest_lt hq
    have hc : zF w k 1 = x ∧ d ≤ zF w k 2 := of_decide_eq_true hc
    have hkey := zBest_key (f := fun k => zF w k 2) hq
    refine zBest_min (h.1 k hk) (decide_eq_true ⟨(rKs h hk).mpr hc.1, by rw [(rPl_f h hk).2.2.1]; exact hc.2⟩) (fun i hi hci hne => ?_)
    have hci := of_decide_eq_true hci
    obtain ⟨j, hj, e⟩ := (h.2.2.1 i hi).mp hci.1.1
    subst e
    have hjk : ¬ j = k := fun z => hne (by rw [z])
    have h1 := hkey j hj (decide_eq_true ⟨(rKs h hj).mp hci.1, by rw [← (rPl_f h hj).2.2.1]; exact hci.2⟩)
    have h2 : zF w k 2 ≤ zF w j 2 := h1.1
    have h3 : j < k → zF w k 2 < zF w j 2 := h1.2
    refine ⟨decide_eq_true ((rAh h hO hk hj).mpr ?_), decide_eq_false (fun z => ?_)⟩
    · by_cases g : zF w k 2 < zF w j 2
      · exact Or.inl g
      · refine Or.inr ⟨?_, ?_⟩
        · rw [zi_le] at h2; rw [zi_lt] at g; rw [zi_eq]; omega
        · rcases Nat.lt_trichotomy k j with q | q | q
          · exact q
          · exact absurd q.symm hjk
          · exact absurd (h3 q) g
    · rcases (rAh h hO hj hk).mp z with g | ⟨g1, g2⟩
      · rw [zi_lt] at g; rw [zi_le] at h2; omega
      · have := h3 g2; rw [g1, zi_lt] at this; omega
theorem rOld (h : rPl P w n σ) (hO : rO w n) (x : Int32) : kOld P x 30 = (mOld w n x).map σ := by
  rcases hq : mOld w n x with _ | k
  · refine zBest_none.mpr (fun i hi => decide_eq_false (fun hc => ?_))
    obtain ⟨k, hk, e⟩ := (h.2.2.1 i hi).mp hc.1
    subst e
    exact of_decide_eq_false (p := zF w k 1 = x) (zBest_none.mp hq k hk) ((rKs h hk).mp hc)
  · obtain ⟨hk, hc⟩ := zBest_lt hq
    have hc : zF w k 1 = x := of_decide_eq_true hc
    have hkey := zBest_key (f := fun k => zF w k 4) hq
    refine zBest_min (h.1 k hk) (decide_eq_true ((rKs h hk).mpr hc)) (fun i hi hci hne => ?_)
    have hci := of_decide_eq_true hci
    obtain ⟨j, hj, e⟩ := (h.2.2.1 i hi).mp hci.1
    subst e
    have hjk : ¬ j = k := fun z => hne (by rw [z])
    have h1 := hkey j hj (decide_eq_true ((rKs h hj).mp hci))
    have hkj : k < j := by
      rcases Nat.lt_trichotomy k j with q | q | q
      · exact q
      · exact absurd q.symm hjk
      · have a1 := h1.2 q
        have a2 := (hO j k q hk).2
        have a1 : zF w k 4 < zF w j 4 := a1
        rw [zi_lt] at a1; rw [zi_le] at a2; omega
    have h2 := (hO k j hkj hj).1
    refine ⟨decide_eq_true ?_, decide_eq_false (fun z => ?_)⟩
    · rw [(rPl_f h hk).1, (rPl_f h hj).1]; exact h2
    · rw [(rPl_f h hk).1, (rPl_f h hj).1] at z
      rw [zi_lt] at z h2; omega
theorem z_s1 (a b : Int32) : a - 1 + 1 = b ↔ a - 1 = b - 1 := by
  constructor
  · intro h; rw [← h]; exact (Int32.add_sub_cancel _ _).symm
  · intro h; rw [h]; exact Int32.sub_add_cancel _ _
theorem rHost (h : rPl P w n σ) (hO : rO w n) (x d mm : Int32) : kHost P x d mm 30 = (mPart w n x d mm).map σ := by
  have tr : ∀ k, k < n → ((kS P x (σ k) ∧ P (σ k) 4 + P (σ k) 5 - 1 + 1 = d ∧ P (σ k) 5 + mm ≤ 9) ↔ (zF w k 1 = x ∧ mLast w k = d - 1 ∧ zF w k 3 + mm ≤ 9)) := fun k hk => by
    obtain ⟨-, -, a2, a3, -, -⟩ := rPl_f h hk
    rw [rKs h hk, a2, a3, z_s1]
    exact Iff.rfl
  rcases hq : mPart w n x d mm with _ | k
  · refine zBest_none.mpr (fun i hi => decide_eq_false (fun hc => ?_))
    obtain ⟨k, hk, e⟩ := (h.2.2.1 i hi).mp hc.1.1
    subst e
    exact of_decide_eq_false (p := zF w k 1 = x ∧ mLast w k = d - 1 ∧ zF w k 3 + mm ≤ 9) (zFirst_none.mp hq k hk) ((tr k hk).mp hc)
  · obtain ⟨hk, hc, hb⟩ := zFirst_lt hq
    have hc : zF w k 1 = x ∧ mLast w k = d - 1 ∧ zF w k 3 + mm ≤ 9 := of_decide_eq_true hc
    refine zBest_min (h.1 k hk) (decide_eq_true ((tr k hk).mpr hc)) (fun i hi hci hne => ?_)
    have hci := of_decide_eq_true hci
    obtain ⟨j, hj, e⟩ := (h.2.2.1 i hi).mp hci.1.1
    subst e
    have hjk : ¬ j = k := fun z => hne (by rw [z])
    have hkj : k < j := by
      rcases Nat.lt_trichotomy k j with q | q | q
      · exact q
      · exact absurd q.symm hjk
      · exact absurd ((tr j hj).mp hci) (of_decide_eq_false (p := zF w j 1 = x ∧ mLast w j = d - 1 ∧ zF w j 3 + mm ≤ 9) (hb j q))
    have h2 := (hO k j hkj hj).1
    refine ⟨decide_eq_true ?_, decide_eq_false (fun z => ?_)⟩
    · rw [(rPl_f h hk).1, (rPl_f h hj).1]; exact h2
    · rw [(rPl_f h hk).1, (rPl_f h hj).1] at z
      rw [zi_lt] at z h2; omega
theorem rFind (h : rPl P w n σ) (hO : rO w n) (x : Int32) : kFind P x 30 = (mFind w n x).map σ := by
  rcases hq : mFind w n x with _ | k
  · refine zFirst_none.mpr (fun i hi => decide_eq_false (fun hc => ?_))
    obtain ⟨k, hk, e⟩ := (h.2.2.1 i hi).mp hc.1
    subst e
    exact of_decide_eq_false (p := zF w k 0 = x) (zFirst_none.mp hq k hk) ((rPl_f h hk).1.symm.trans hc.2)
  · obtain ⟨hk, hc, -⟩ := zFirst_lt hq
    have hc : zF w k 0 = x := of_decide_eq_true hc
    refine zFirst_uniq (h.1 k hk) (decide_eq_true ⟨rPl_w h hk, (rPl_f h hk).1.trans hc⟩) (fun i hi hci => ?_)
    have hci := of_decide_eq_true hci
    obtain ⟨j, hj, e⟩ := (h.2.2.1 i hi).mp hci.1
    subst e
    rw [rNum_ne hO hj hk ((rPl_f h hj).1.symm.trans (hci.2.trans hc.symm))]
theorem rCnt (h : rPl P w n σ) : zCnt (fun i => decide (¬ P i 1 = 0)) 30 = n := by
  have h1 := zCnt_map (p := fun _ => true) (q := fun i => decide (¬ P i 1 = 0)) h.1 h.2.1 (fun k hk => (decide_eq_true (rPl_w h hk)).symm) (fun i hi hq => (h.2.2.1 i hi).mp (of_decide_eq_true hq))
  rw [← h1, zCnt_true]
theorem rFree (h : rPl P w n σ) (hn : n < 30) : ∃ i, i < 30 ∧ P i 1 = 0 ∧ kFree P 30 = some i := by
  rcases hq : kFree P 30 with _ | i
  · exfalso
    have hall := zFirst_none.mp hq
    have h1 : zCnt (fun i => decide (¬ P i 1 = 0)) 30 = zCnt (fun _ => true) 30 := zCnt_congr (fun i hi => decide_eq_true (of_decide_eq_false (p := P i 1 = 0) (hall i hi)))
    rw [rCnt h, zCnt_true] at h1
    omega
  · obtain ⟨hi, hc, -⟩ := zFirst_lt hq
    exact ⟨i, hi, of_decide_eq_true (p := P i 1 = 0) hc, rfl⟩
theorem rFull (h : rPl P w n σ) (hn : n = 30) : kFree P 30 = none := by
  have h1 := rCnt h
  rw [hn] at h1
  exact zFirst_none.mpr (fun i hi => decide_eq_false (of_decide_eq_true (p := ¬ P i 1 = 0) (zCnt_all h1 i hi)))
theorem rAhead (h : rPl P w n σ) (hO : rO w n) {k : Nat} (hk : k < n) : kAhead P (σ k) 30 = mRank w n k := by
  unfold kAhead mRank
  refine (zCnt_map (σ := σ) h.1 h.2.1 (fun j hj => ?_) (fun i hi hq => (h.2.2.1 i hi).mp (of_decide_eq_true hq).1.1)).symm
  refine decide_eq_decide.mpr ?_
  rw [rKs h hj, rAh h hO hj hk, (rPl_f h hk).2.1]
theorem mRank_ne {k j : Nat} (hk : k < n) (hj : j < n) (hs : zF w k 1 = zF w j 1) (e : mRank w n k = mRank w n j) : k = j := by
  have key : ∀ a b, a < n → b < n → zF w a 1 = zF w b 1 → (zF w a 2 < zF w b 2 ∨ (zF w a 2 = zF w b 2 ∧ a < b)) → mRank w n a < mRank w n b := fun a b ha hb hab hl => by
    refine zCnt_less (i := a) (fun j hj hc => ?_) ha ?_ (decide_eq_true ⟨hab, hl⟩)
    · have hc := of_decide_eq_true hc
      refine decide_eq_true ⟨hc.1.trans hab, ?_⟩
      rcases hc.2 with q | ⟨q1, q2⟩
      · rcases hl with g | ⟨g1, g2⟩
        · exact Or.inl (by rw [zi_lt] at q g ⊢; omega)
        · exact Or.inl (by rw [← g1]; exact q)
      · rcases hl with g | ⟨g1, g2⟩
        · exact Or.inl (by rw [q1]; exact g)
        · exact Or.inr ⟨q1.trans g1, by omega⟩
    · refine decide_eq_false (fun z => ?_)
      rcases z.2 with g | ⟨-, g⟩
      · rw [zi_lt] at g; omega
      · omega
  rcases Nat.lt_trichotomy k j with q | q | q
  · by_cases g : zF w j 2 < zF w k 2
    · have := key j k hj hk hs.symm (Or.inl g); omega
    · have := key k j hk hj hs (by
        by_cases g2 : zF w k 2 < zF w j 2
        · exact Or.inl g2
        · exact Or.inr ⟨by rw [zi_lt] at g g2; rw [zi_eq]; omega, q⟩)
      omega
  · exact q
  · by_cases g : zF w k 2 < zF w j 2
    · have := key k j hk hj hs (Or.inl g); omega
    · have := key j k hj hk hs.symm (by
        by_cases g2 : zF w j 2 < zF w k 2
        · exact Or.inl g2
        · exact Or.inr ⟨by rw [zi_lt] at g g2; rw [zi_eq]; omega, q⟩)
      omega
theorem rRank (h : rPl P w n σ) (hO : rO w n) (hn : n ≤ 30) (x rk : Int32) : kRank P x rk 30 = (zFirst (fun k => decide (zF w k 1 = x ∧ nI (mRank w n k) = rk)) n).map σ := by
  rcases hq : zFirst (fun k => decide (zF w k 1 = x ∧ nI (mRank w n k) = rk)) n with _ | k
  · refine zFirst_none.mpr (fun i hi => decide_eq_false (fun hc => ?_))
    obtain ⟨k, hk, e⟩ := (h.2.2.1 i hi).mp hc.1.1
    subst e
    exact of_decide_eq_false (p := zF w k 1 = x ∧ nI (mRank w n k) = rk) (zFirst_none.mp hq k hk) ⟨(rKs h hk).mp hc.1, by rw [← rAhead h hO hk]; exact hc.2⟩
  · obtain ⟨hk, hc, -⟩ := zFirst_lt hq
    have hc : zF w k 1 = x ∧ nI (mRank w n k) = rk := of_decide_eq_true hc
    refine zFirst_uniq (h.1 k hk) (decide_eq_true ⟨(rKs h hk).mpr hc.1, by rw [rAhead h hO hk]; exact hc.2⟩) (fun i hi hci => ?_)
    have hci := of_decide_eq_true hci
    obtain ⟨j, hj, e⟩ := (h.2.2.1 i hi).mp hci.1.1
    subst e
    have hle : ∀ a, mRank w n a ≤ 30 := fun a => Nat.le_trans (zCnt_le _ _) hn
    have e1 : mRank w n j = mRank w n k := (nI_eq (by have := hle j; omega) (by have := hle k; omega)).mp (by rw [← rAhead h hO hj]; exact hci.2.trans hc.2.symm)
    rw [mRank_ne hj hk (((rKs h hj).mp hci.1).trans hc.1.symm) e1]
theorem rMany (hI : rI w n) : mMany w n 0 + mMany w n 1 = n := by
  unfold mMany
  have gen : ∀ m, m ≤ n → zCnt (fun k => decide (zF w k 1 = 0)) m + zCnt (fun k => decide (zF w k 1 = 1)) m = m := by
    intro m
    induction m with
    | zero => intro _; rfl
    | succ m ih =>
      intro hm
      have h1 := ih (by omega)
      simp only [zCnt]
      rcases (hI m (by omega)).1 with e | e
      · rw [if_pos (decide_eq_true e), if_neg (show ¬ decide (zF w m 1 = 1) = true from fun z => absurd ((of_decide_eq_true z).symm.trans e) (by decide))]; omega
      · rw [if_pos (decide_eq_true e), if_neg (show ¬ decide (zF w m 1 = 0) = true from fun z => absurd ((of_decide_eq_true z).symm.trans e) (by decide))]; omega
  exact gen n (Nat.le_refl n)
end RP
