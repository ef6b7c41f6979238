theorem mLook_w (w : Nat → Int32) (n : Nat) : (mLook w n).1 = 0 ∨ (mLook w n).1 = 1 ∨ (mLook w n).1 = 2 ∨ (mLook w n).1 = 3 := by
  unfold mLook
  split
  · exact Or.inl rfl
  · split
    · exact Or.inr (Or.inr (Or.inr rfl))
    · split
      · exact Or.inr (Or.inl rfl)
      · split
        · exact Or.inr (Or.inr (Or.inl rfl))
        · exact Or.inr (Or.inr (Or.inr rfl))
theorem kFar_m {G : Nat → Int32} {P : Nat → Nat → Int32} {i d ar : Nat} (h4 : P i 4 = nI d) (h7 : G 7 = nI ar) (hd : d ≤ 99) (ha : ar ≤ 99) : kFar G P i = nI (if d < ar then ar - d else d - ar) ∧ mFar (nI d) (nI ar) = nI (if d < ar then ar - d else d - ar) := by
  show (if 0 ≤ P i 4 - G 7 then P i 4 - G 7 else 0 - (P i 4 - G 7)) = _ ∧ (if nI d < nI ar then nI ar - nI d else nI d - nI ar) = _
  rw [h4, h7]
  by_cases h : d < ar
  · rw [if_neg (z_lt' (pk_sneg (by omega) h)), if_pos (nI_lt h (by omega)), if_pos h, Int32.zero_sub, Int32.neg_sub, pk_sub (by omega)]
    exact ⟨rfl, rfl⟩
  · rw [pk_sub (by omega), if_pos (nI_pos' (by omega)), if_neg (nI_nlt (by omega) (by omega)), if_neg h]
    exact ⟨rfl, rfl⟩
section RS
variable {A : zA} {w : Nat → Int32} {n N t ar B S : Nat} {σ : Nat → Nat}
theorem rNew (hE : rE A w n B) (hI : rI w n) (hpos : 0 < n) (h30 : n ≤ 30) : kNew (aF A) (aT A) = mNext w n := by
  obtain ⟨hT, e6, e5, e7, e8, e9, e10, e12, e13, e11, e3, e4⟩ := hE
  have hm := rMany hI
  unfold kNew mNext
  rw [e4, e3, hT 3 (by decide), e13]
  by_cases h1 : mMany w n 1 = 0
  · rw [if_pos (by rw [h1]; exact nI_0), if_neg (by omega), if_pos h1]
  · rw [if_neg (nI_ne0 (by omega) (by omega))]
    by_cases h2 : mMany w n 1 = n
    · rw [if_pos (by rw [show mMany w n 0 = 0 by omega]; exact nI_0), if_pos h2]
    · rw [if_neg (nI_ne0 (by omega) (by omega)), if_neg h2, if_neg h1]
theorem rBt (hW : rW w n N t ar B S) : 0 < nI B ↔ ¬ w 16 = 2 := by
  obtain ⟨h7, h30, h8, hSN, hN, h6, ht, h9, har, h10, h13, hBS, h17, hso, ha4, hb5⟩ := hW
  rcases hso with ⟨b0, s2⟩ | ⟨bp, s01⟩
  · rw [b0]
    exact ⟨fun z => absurd z (by decide), fun z => absurd s2 z⟩
  · refine ⟨fun _ z => ?_, fun _ => nI_lt (a := 0) bp (by omega)⟩
    rcases s01 with e | e <;> (rw [e] at z; revert z; decide)
theorem rOldI (hP : rPl (aP A) w n σ) (hE : rE A w n B) (hI : rI w n) {k : Nat} (hk : k < n) : kOldP (aF A) (aT A) (aP A) (σ k) ↔ w (zF w k 1).toNatClampNeg ≤ w 6 - zF w k 4 := by
  obtain ⟨hT, e6, -, -, -, -, -, -, -, -, -, -⟩ := hE
  obtain ⟨-, f1, -, -, f4, -⟩ := rPl_f hP hk
  show aT A (if aP A (σ k) 3 = 1 then 1 else 0) ≤ aF A 6 - aP A (σ k) 6 ↔ _
  rw [f1, f4, e6]
  rcases (hI k hk).1 with e | e
  · rw [e, if_neg (by decide), hT 0 (by decide)]
    exact Iff.rfl
  · rw [e, if_pos rfl, hT 1 (by decide)]
    exact Iff.rfl
theorem rSel (hP : rPl (aP A) w n σ) (hO : rO w n) (hI : rI w n) (hE : rE A w n B) (hW : rW w n N t ar B S) (hpos : 0 < n) :
    kWhy (aF A) (aT A) (aP A) = (mLook w n).1 ∧ kSelN (aF A) (aT A) (aP A) = (mLook w n).2.map σ := by
  have hnew := rNew hE hI hpos hW.2.1
  have hbt := rBt hW
  have holdI := fun k hk => rOldI hP hE hI (k := k) hk
  obtain ⟨hT, e6, e5, e7, e8, e9, e10, e12, e13, e11, e3, e4⟩ := hE
  obtain ⟨h7, h30, h8, hSN, hN, h6, ht, h9, har, h10, h13, hBS, h17, hso, ha4, hb5⟩ := hW
  have hroom : kRoom (aF A) (aT A) ↔ (¬ w 16 = 2 ∧ w 14 < w 2) := by
    show (0 < aF A 10 ∧ aF A 12 < aT A 2) ↔ _
    rw [e10, e12, hT 2 (by decide), h13, hbt]
  have hlow : ∀ x d, kLow (aP A) x d 30 = (mLow w n x d).map σ := rLow hP hO
  have hold : ∀ x, kOld (aP A) x 30 = (mOld w n x).map σ := rOld hP hO
  have h11 : ¬ w 16 = 2 → aF A 11 = w 16 := fun z => e11 (by
    rcases hso with ⟨b0, s2⟩ | ⟨bp, _⟩
    · exact absurd s2 z
    · exact bp)
  rcases hq : (if ¬ w 16 = 2 ∧ w 14 < w 2 then mLow w n (w 16) (w 9) else none) with _ | k
  · have hw2 : kWhy (aF A) (aT A) (aP A) = kWhy2 (aF A) (aT A) (aP A) := by
      by_cases hr : ¬ w 16 = 2 ∧ w 14 < w 2
      · rw [if_pos hr] at hq
        exact kWhy_l (by rw [h11 hr.1, e7, hlow, hq]; rfl)
      · exact kWhy_r (fun z => hr (hroom.mp z))
    obtain ⟨k, hk, hks, hko⟩ := mOld_some hpos (fun k hk => (hI k hk).1)
    have hko' : kOld (aP A) (kNew (aF A) (aT A)) 30 = some (σ k) := by rw [hnew, hold, hko]; rfl
    have hlook : mLook w n = (if w (zF w k 1).toNatClampNeg ≤ w 6 - zF w k 4 then ((1 : Int32), some k) else match mLow w n (mNext w n) (w 9) with | some j => (2, some j) | none => (3, mLow w n (mNext w n) 0)) := by
      unfold mLook
      rw [hq]
      simp only [hko]
      rfl
    by_cases ho : w (zF w k 1).toNatClampNeg ≤ w 6 - zF w k 4
    · rw [if_pos ho] at hlook
      have hy : kWhy (aF A) (aT A) (aP A) = 1 := hw2.trans (kWhy2_y hko' ((holdI k hk).mpr ho))
      rw [hlook]
      refine ⟨hy, ?_⟩
      unfold kSelN
      rw [hy]
      exact (if_neg (by decide)).trans ((if_pos rfl).trans hko')
    · rw [if_neg ho] at hlook
      have hy3 : kWhy (aF A) (aT A) (aP A) = kWhy3 (aF A) (aT A) (aP A) := hw2.trans (kWhy2_o hko' (fun z => ho ((holdI k hk).mp z)))
      rcases hl : mLow w n (mNext w n) (w 9) with _ | j
      · rw [hl] at hlook
        have hn' : kLow (aP A) (kNew (aF A) (aT A)) (aF A 7) 30 = none := by rw [hnew, e7, hlow, hl]; rfl
        have hy : kWhy (aF A) (aT A) (aP A) = 3 := hy3.trans (kWhy3_n hn')
        rw [hlook]
        refine ⟨hy, ?_⟩
        unfold kSelN
        rw [hy]
        refine (if_neg (by decide)).trans ((if_neg (by decide)).trans ((if_neg (by decide)).trans ?_))
        rw [hnew, hlow]
      · rw [hl] at hlook
        have hn' : kLow (aP A) (kNew (aF A) (aT A)) (aF A 7) 30 = some (σ j) := by rw [hnew, e7, hlow, hl]; rfl
        have hy : kWhy (aF A) (aT A) (aP A) = 2 := hy3.trans (kWhy3_s hn')
        rw [hlook]
        refine ⟨hy, ?_⟩
        unfold kSelN
        rw [hy]
        exact (if_neg (by decide)).trans ((if_neg (by decide)).trans ((if_pos rfl).trans hn'))
  · have hr : ¬ w 16 = 2 ∧ w 14 < w 2 := by
      by_cases hr : ¬ w 16 = 2 ∧ w 14 < w 2
      · exact hr
      · rw [if_neg hr] at hq; cases hq
    have hlook : mLook w n = (0, some k) := by
      unfold mLook
      rw [hq]
    rw [if_pos hr] at hq
    have hl' : kLow (aP A) (aF A 11) (aF A 7) 30 = some (σ k) := by rw [h11 hr.1, e7, hlow, hq]; rfl
    have hy : kWhy (aF A) (aT A) (aP A) = 0 := kWhy_0 (hroom.mpr hr) hl'
    rw [hlook]
    refine ⟨hy, ?_⟩
    unfold kSelN
    rw [hy]
    exact (if_pos rfl).trans hl'
theorem rSel0 (hP : rPl (aP A) w 0 σ) : kSelN (aF A) (aT A) (aP A) = none := by
  have no : ∀ i, i < 30 → ¬ ¬ aP A i 1 = 0 := fun i hi z => by
    obtain ⟨k, hk, -⟩ := (hP.2.2.1 i hi).mp z
    omega
  have hl : ∀ x d, kLow (aP A) x d 30 = none := fun x d => zBest_none.mpr (fun i hi => decide_eq_false (fun z => no i hi z.1.1))
  have ho : ∀ x, kOld (aP A) x 30 = none := fun x => zBest_none.mpr (fun i hi => decide_eq_false (fun z => no i hi z.1))
  unfold kSelN kSel
  split
  · exact hl _ _
  · split
    · exact ho _
    · split <;> exact hl _ _
theorem rMin (hP : rPl (aP A) w n σ) (hI : rI w n) (hE : rE A w n B) (hW : rW w n N t ar B S) {k : Nat} (hk : k < n) :
    aF A 6 + kMin (aF A) (aT A) (aP A) (σ k) = mMinute w k ∧ kFar (aF A) (aP A) (σ k) = mFar (zF w k 2) (w 9) ∧ ∃ t' : Nat, mMinute w k = nI t' ∧ t ≤ t' ∧ t' ≤ t + 1071 := by
  obtain ⟨hT, e6, e5, e7, e8, e9, e10, e12, e13, e11, e3, e4⟩ := hE
  obtain ⟨h7, h30, h8, hSN, hN, h6, ht, h9, har, h10, h13, hBS, h17, hso, ⟨a, ha, ha4⟩, ⟨b, hb, hb5⟩⟩ := hW
  obtain ⟨-, f1, f2, f3, f4, -⟩ := rPl_f hP hk
  obtain ⟨-, ⟨d, m, hd, hm, hm1, hm9, hdm⟩, -, -⟩ := hI k hk
  obtain ⟨x1, x2⟩ := kFar_m (G := aF A) (P := aP A) (i := σ k) (f2.trans hd) (e7.trans h9) (by omega) har
  have hfar : kFar (aF A) (aP A) (σ k) = mFar (zF w k 2) (w 9) := by rw [x1, hd, h9, x2]
  refine ⟨?_, hfar, t + a * (if d < ar then ar - d else d - ar) + b * m, ?_, by omega, ?_⟩
  · show aF A 6 + (kFar (aF A) (aP A) (σ k) * aT A 4 + aP A (σ k) 5 * aT A 5) = w 6 + w 4 * mFar (zF w k 2) (w 9) + w 5 * zF w k 3
    rw [hfar, e6, hT 4 (by decide), hT 5 (by decide), f3, Int32.mul_comm (mFar (zF w k 2) (w 9)) (w 4), Int32.mul_comm (zF w k 3) (w 5), Int32.add_assoc]
  · unfold mMinute
    rw [h6, ha4, hd, h9, x2, hb5, hm, pk_mul, pk_mul, nI_add, nI_add]
  · have h1 : a * (if d < ar then ar - d else d - ar) ≤ 9 * 99 := Nat.mul_le_mul ha (by split <;> omega)
    have h2 : b * m ≤ 20 * 9 := Nat.mul_le_mul hb hm9
    omega
end RS
