/-! the law's state: what holds of all of it, and each change of it -/
/-- the class's archives, its history's place, the row, slips that wait, numbers given, the minute, and acts so far -/
def lJ (Y : Nat → zA) (hp hk : Nat) (w : Nat → Int32) (n N t a : Nat) : Prop :=
  hp < 7 ∧ hk ≤ 6 ∧ (∀ j, j < 11 → zWfA (Y j)) ∧ Rep (Y 0) w n N t ∧ lX w n ∧ t ≤ 340 * a ∧ N ≤ a ∧ a ≤ 44
section LJ
variable {Y : Nat → zA} {hp hk : Nat} {w w' : Nat → Int32} {n N t a n' N' t' a' : Nat}
theorem lJ.R (h : lJ Y hp hk w n N t a) : Rep (Y 0) w n N t := h.2.2.2.1
theorem lJ.X (h : lJ Y hp hk w n N t a) : lX w n := h.2.2.2.2.1
theorem lJ.wf (h : lJ Y hp hk w n N t a) : ∀ j, j < 11 → zWfA (Y j) := h.2.2.1
theorem lJ_up3 {T A' : zA} (h : lJ Y hp hk w n N t a) (hT : zWfA T) (hR : Rep A' w' n' N' t') (hX : lX w' n') (ht : t' ≤ 340 * a') (hN : N' ≤ a') (ha : a' ≤ 44) (r : Int32) : lJ (va_up (va_up (va_up Y (hp + 2) (Y 0)) 1 T) 0 A') (if 0 ≤ r then (hp + 1) % 7 else hp) (if 0 ≤ r then min (hk + 1) 6 else hk) w' n' N' t' a' := by
  obtain ⟨h1, h2, h3, h4, h5, h6, h7, h8⟩ := h
  refine ⟨by split <;> omega, by split <;> omega, fun j hj => ?_, ?_, hX, ht, hN, ha⟩
  · by_cases e0 : j = 0
    · rw [e0, zUp_s]; exact rWf hR
    · rw [zUp_n _ _ e0]
      by_cases e1 : j = 1
      · rw [e1, zUp_s]; exact hT
      · rw [zUp_n _ _ e1]
        by_cases e2 : j = hp + 2
        · rw [e2, zUp_s]; exact h3 0 (by decide)
        · rw [zUp_n _ _ e2]; exact h3 j hj
  · rw [zUp_s]; exact hR
theorem lJ_up {A' : zA} (h : lJ Y hp hk w n N t a) (hR : Rep A' w' n' N' t') (hX : lX w' n') (ht : t' ≤ 340 * a') (hN : N' ≤ a') (ha : a' ≤ 44) (r : Int32) : lJ (va_up (va_up Y (hp + 2) (Y 0)) 0 A') (if 0 ≤ r then (hp + 1) % 7 else hp) (if 0 ≤ r then min (hk + 1) 6 else hk) w' n' N' t' a' := by
  obtain ⟨h1, h2, h3, h4, h5, h6, h7, h8⟩ := h
  refine ⟨by split <;> omega, by split <;> omega, fun j hj => ?_, ?_, hX, ht, hN, ha⟩
  · by_cases e0 : j = 0
    · rw [e0, zUp_s]; exact rWf hR
    · rw [zUp_n _ _ e0]
      by_cases e2 : j = hp + 2
      · rw [e2, zUp_s]; exact h3 0 (by decide)
      · rw [zUp_n _ _ e2]; exact h3 j hj
  · rw [zUp_s]; exact hR
theorem lJ_trial {T : zA} (h : lJ Y hp hk w n N t a) (hT : zWfA T) : lJ (va_up Y 1 T) hp hk w n N t a := by
  obtain ⟨h1, h2, h3, h4, h5, h6, h7, h8⟩ := h
  refine ⟨h1, h2, fun j hj => ?_, ?_, h5, h6, h7, h8⟩
  · by_cases e1 : j = 1
    · rw [e1, zUp_s]; exact hT
    · rw [zUp_n _ _ e1]; exact h3 j hj
  · rw [zUp_n _ _ (by decide)]; exact h4
theorem lJ.mono (h : lJ Y hp hk w n N t a) (h1 : a ≤ a') (h2 : a' ≤ 44) : lJ Y hp hk w n N t a' := by
  obtain ⟨q1, q2, q3, q4, q5, q6, q7, q8⟩ := h
  exact ⟨q1, q2, q3, q4, q5, by omega, by omega, h2⟩
end LJ
section LC
variable {A : zA} {w w' : Nat → Int32} {n N t n' N' t' k : Nat} {wr d m : Int32}
theorem lC_some (hs : mSlip wr d m) (hq : mPart w n wr d m = some k) : ∃ w2, mComes w n wr d m = (zF w k 0, w2) ∧ (∀ j, j < 78 → w2 j = w j) ∧ (∀ j f, f < 6 → (j ≠ k ∨ (f ≠ 3 ∧ f ≠ 5)) → zF w2 j f = zF w j f) ∧ zF w2 k 3 = zF w k 3 + m ∧ zF w2 k 5 = zF w k 5 + 1 := by
  obtain ⟨w2, ew⟩ : ∃ z, z = upd (upd w (78 + 6 * k + 3) (w (78 + 6 * k + 3) + m)) (78 + 6 * k + 5) (w (78 + 6 * k + 5) + 1) := ⟨_, rfl⟩
  have em : mComes w n wr d m = (zF w2 k 0, w2) := by
    unfold mComes
    rw [if_pos hs, hq]
    show (zF (upd (upd w (78 + 6 * k + 3) (w (78 + 6 * k + 3) + m)) (78 + 6 * k + 5) (upd w (78 + 6 * k + 3) (w (78 + 6 * k + 3) + m) (78 + 6 * k + 5) + 1)) k 0, upd (upd w (78 + 6 * k + 3) (w (78 + 6 * k + 3) + m)) (78 + 6 * k + 5) (upd w (78 + 6 * k + 3) (w (78 + 6 * k + 3) + m) (78 + 6 * k + 5) + 1)) = _
    rw [pk_un (f := w) (show 78 + 6 * k + 5 ≠ 78 + 6 * k + 3 by omega), ← ew]
  have clo : ∀ j, j ≠ 78 + 6 * k + 3 → j ≠ 78 + 6 * k + 5 → w2 j = w j := fun j h1 h2 => by rw [ew, pk_un h2, pk_un h1]
  have cF : ∀ j f, f < 6 → (j ≠ k ∨ (f ≠ 3 ∧ f ≠ 5)) → zF w2 j f = zF w j f := fun j f hf h => clo _ (by omega) (by omega)
  refine ⟨w2, ?_, fun j hj => clo j (by omega) (by omega), cF, ?_, ?_⟩
  · rw [em, cF k 0 (by decide) (Or.inr ⟨by decide, by decide⟩)]
  · show w2 (78 + 6 * k + 3) = _; rw [ew, pk_un (by omega), pk_us]; rfl
  · show w2 (78 + 6 * k + 5) = _; rw [ew, pk_us]; rfl
theorem lC_none (hs : mSlip wr d m) (hq : mPart w n wr d m = none) (hn : ¬ n = 30) : ∃ w8, mComes w n wr d m = (w 8, w8) ∧ w8 7 = nI (n + 1) ∧ w8 8 = w 8 + 1 ∧ (∀ j, j < 78 + 6 * n → j ≠ 7 → j ≠ 8 → w8 j = w j) ∧ zF w8 n 0 = w 8 ∧ zF w8 n 1 = wr ∧ zF w8 n 2 = d ∧ zF w8 n 3 = m ∧ zF w8 n 4 = w 6 ∧ zF w8 n 5 = 0 := by
  obtain ⟨w8, ew⟩ : ∃ z, z = (mComes w n wr d m).2 := ⟨_, rfl⟩
  have em : mComes w n wr d m = (upd (upd (upd (upd (upd (upd (upd (upd w (78 + 6 * n) (w 8)) (78 + 6 * n + 1) wr) (78 + 6 * n + 2) d) (78 + 6 * n + 3) m) (78 + 6 * n + 4) (upd (upd (upd (upd w (78 + 6 * n) (w 8)) (78 + 6 * n + 1) wr) (78 + 6 * n + 2) d) (78 + 6 * n + 3) m 6)) (78 + 6 * n + 5) 0) 7 (nI (n + 1))) 8 (upd (upd (upd (upd (upd (upd (upd w (78 + 6 * n) (w 8)) (78 + 6 * n + 1) wr) (78 + 6 * n + 2) d) (78 + 6 * n + 3) m) (78 + 6 * n + 4) (upd (upd (upd (upd w (78 + 6 * n) (w 8)) (78 + 6 * n + 1) wr) (78 + 6 * n + 2) d) (78 + 6 * n + 3) m 6)) (78 + 6 * n + 5) 0) 7 (nI (n + 1)) 8 + 1) 8 - 1, upd (upd (upd (upd (upd (upd (upd (upd w (78 + 6 * n) (w 8)) (78 + 6 * n + 1) wr) (78 + 6 * n + 2) d) (78 + 6 * n + 3) m) (78 + 6 * n + 4) (upd (upd (upd (upd w (78 + 6 * n) (w 8)) (78 + 6 * n + 1) wr) (78 + 6 * n + 2) d) (78 + 6 * n + 3) m 6)) (78 + 6 * n + 5) 0) 7 (nI (n + 1))) 8 (upd (upd (upd (upd (upd (upd (upd w (78 + 6 * n) (w 8)) (78 + 6 * n + 1) wr) (78 + 6 * n + 2) d) (78 + 6 * n + 3) m) (78 + 6 * n + 4) (upd (upd (upd (upd w (78 + 6 * n) (w 8)) (78 + 6 * n + 1) wr) (78 + 6 * n + 2) d) (78 + 6 * n + 3) m 6)) (78 + 6 * n + 5) 0) 7 (nI (n + 1)) 8 + 1)) := by
    unfold mComes
    rw [if_pos hs, hq]
    exact if_neg hn
  have x8 : upd (upd (upd (upd (upd (upd (upd w (78 + 6 * n) (w 8)) (78 + 6 * n + 1) wr) (78 + 6 * n + 2) d) (78 + 6 * n + 3) m) (78 + 6 * n + 4) (upd (upd (upd (upd w (78 + 6 * n) (w 8)) (78 + 6 * n + 1) wr) (78 + 6 * n + 2) d) (78 + 6 * n + 3) m 6)) (78 + 6 * n + 5) 0) 7 (nI (n + 1)) 8 = w 8 := by
    rw [pk_un (by omega), pk_un (by omega), pk_un (by omega), pk_un (by omega), pk_un (by omega), pk_un (by omega), pk_un (by omega)]
  have x6 : upd (upd (upd (upd w (78 + 6 * n) (w 8)) (78 + 6 * n + 1) wr) (78 + 6 * n + 2) d) (78 + 6 * n + 3) m 6 = w 6 := by
    rw [pk_un (by omega), pk_un (by omega), pk_un (by omega), pk_un (by omega)]
  rw [x8, x6] at em
  have hr : (mComes w n wr d m).1 = w 8 := by
    rw [em]
    show upd _ 8 (w 8 + 1) 8 - 1 = w 8
    rw [pk_us]
    exact Int32.add_sub_cancel _ _
  have em2 : mComes w n wr d m = (w 8, w8) := Prod.ext hr ew.symm
  rw [em] at ew
  have ew : w8 = upd (upd (upd (upd (upd (upd (upd (upd w (78 + 6 * n) (w 8)) (78 + 6 * n + 1) wr) (78 + 6 * n + 2) d) (78 + 6 * n + 3) m) (78 + 6 * n + 4) (w 6)) (78 + 6 * n + 5) 0) 7 (nI (n + 1))) 8 (w 8 + 1) := ew
  refine ⟨w8, em2, ?_, ?_, fun j hj h1 h2 => ?_, ?_, ?_, ?_, ?_, ?_, ?_⟩
  · rw [ew, pk_un (by omega), pk_us]
  · rw [ew, pk_us]
  · rw [ew, pk_un h2, pk_un h1, pk_un (by omega), pk_un (by omega), pk_un (by omega), pk_un (by omega), pk_un (by omega), pk_un (by omega)]
  · show w8 (78 + 6 * n) = _; rw [ew, pk_un (by omega), pk_un (by omega), pk_un (by omega), pk_un (by omega), pk_un (by omega), pk_un (by omega), pk_un (by omega), pk_us]
  · show w8 (78 + 6 * n + 1) = _; rw [ew, pk_un (by omega), pk_un (by omega), pk_un (by omega), pk_un (by omega), pk_un (by omega), pk_un (by omega), pk_us]
  · show w8 (78 + 6 * n + 2) = _; rw [ew, pk_un (by omega), pk_un (by omega), pk_un (by omega), pk_un (by omega), pk_un (by omega), pk_us]
  · show w8 (78 + 6 * n + 3) = _; rw [ew, pk_un (by omega), pk_un (by omega), pk_un (by omega), pk_un (by omega), pk_us]
  · show w8 (78 + 6 * n + 4) = _; rw [ew, pk_un (by omega), pk_un (by omega), pk_un (by omega), pk_us]
  · show w8 (78 + 6 * n + 5) = _; rw [ew, pk_un (by omega), pk_un (by omega), pk_us]
/-- of two that show one row with the same counts -/
theorem lRep_n (h : Rep A w n N t) (h7 : w 7 = nI n') (hn : n' ≤ 31) : n = n' := by
  have h1 := lRep_c h
  exact (nI_eq (by omega) (by omega)).mp (h1.1.symm.trans h7)
theorem lRep_N (h : Rep A w n N t) (h8 : w 8 = nI N') (hN : N' < 2 ^ 31) : N = N' := by
  obtain ⟨-, -, h1, -, h2, -⟩ := lRep_c h
  exact (nI_eq (by omega) hN).mp (h1.symm.trans h8)
theorem lX_u (hX : lX w n) (h4 : w' 4 = w 4) (h5 : w' 5 = w 5) (hF : ∀ k, k < n' → 0 ≤ zF w' k 0 ∧ 0 ≤ zF w' k 4) : lX w' n' := ⟨hF, by rw [h4]; exact hX.2.1, by rw [h5]; exact hX.2.2⟩
/-- a slip comes: it is joined -/
theorem lC_join (hR : Rep A w n N t) (hX : lX w n) (ht : t ≤ 99999) (hN1 : N + 1 < 2 ^ 30) (hs : mSlip wr d m) (hq : mPart w n wr d m = some k) : kAccR (aF A) (aP A) wr d m = zF w k 0 ∧ ∃ w2, Rep (kAcc A wr d m) w2 n N t ∧ lX w2 n ∧ k < n ∧ zF w2 k 0 = zF w k 0 ∧ mLast w2 k = d + m - 1 ∧ zF w2 k 5 = zF w k 5 + 1 ∧ w2 16 = w 16 := by
  obtain ⟨hr, n', N', hR', -⟩ := rAcc hR ht hN1 wr d m
  obtain ⟨w2, em, clo, cF, c3, c5⟩ := lC_some hs hq
  rw [em] at hr hR'
  have hc := lRep_c hR
  have en : n' = n := lRep_n hR' ((clo 7 (by decide)).trans hc.1) (by omega)
  have eN : N' = N := lRep_N hR' ((clo 8 (by decide)).trans hc.2.2.1) (by omega)
  subst en
  subst eN
  obtain ⟨hk, hcan, -⟩ := zFirst_lt hq
  have hcan : zF w k 1 = wr ∧ mLast w k = d - 1 ∧ zF w k 3 + m ≤ 9 := of_decide_eq_true hcan
  refine ⟨hr, w2, hR', lX_u hX (clo 4 (by decide)) (clo 5 (by decide)) (fun j hj => ?_), hk, cF k 0 (by decide) (Or.inr ⟨by decide, by decide⟩), ?_, c5, clo 16 (by decide)⟩
  · rw [cF j 0 (by decide) (Or.inr ⟨by decide, by decide⟩), cF j 4 (by decide) (Or.inr ⟨by decide, by decide⟩)]
    exact hX.1 j hj
  · have h1 := hcan.2.1
    unfold mLast at h1 ⊢
    rw [cF k 2 (by decide) (Or.inr ⟨by decide, by decide⟩), c3]
    have h2 : zF w k 2 + zF w k 3 = d := by
      have := congrArg (fun z => z + 1) h1
      simp only [Int32.sub_add_cancel] at this
      exact this
    rw [← h2, Int32.add_assoc]
/-- a slip comes: a new one -/
theorem lC_new (hR : Rep A w n N t) (hX : lX w n) (ht : t ≤ 99999) (hN1 : N + 1 < 2 ^ 30) (hs : mSlip wr d m) (hq : mPart w n wr d m = none) (hn : ¬ n = 30) : kAccR (aF A) (aP A) wr d m = w 8 ∧ ∃ w8, Rep (kAcc A wr d m) w8 (n + 1) (N + 1) t ∧ lX w8 (n + 1) ∧ zF w8 n 0 = w 8 ∧ zF w8 n 1 = wr ∧ zF w8 n 2 = d ∧ mLast w8 n = d + m - 1 ∧ w8 6 - zF w8 n 4 = 0 ∧ zF w8 n 5 = 0 ∧ w8 16 = w 16 := by
  obtain ⟨hr, n', N', hR', -⟩ := rAcc hR ht hN1 wr d m
  obtain ⟨w8, em, c7, c8, clo, f0, f1, f2, f3, f4, f5⟩ := lC_none hs hq hn
  rw [em] at hr hR'
  have hc := lRep_c hR
  obtain ⟨e7, e30, e8, eS, eN, e6, -⟩ := hc
  have en : n' = n + 1 := lRep_n hR' c7 (by omega)
  have eN : N' = N + 1 := lRep_N hR' (c8.trans (by rw [e8]; exact nI_1 N)) (by omega)
  subst en
  subst eN
  refine ⟨hr, w8, hR', lX_u hX (clo 4 (by omega) (by decide) (by decide)) (clo 5 (by omega) (by decide) (by decide)) (fun j hj => ?_), f0, f1, f2, ?_, ?_, f5, clo 16 (by omega) (by decide) (by decide)⟩
  · by_cases e : j = n
    · rw [e, f0, f4, e8, e6]
      exact ⟨nI_pos' (by omega), nI_pos' (by omega)⟩
    · have h0 : zF w8 j 0 = zF w j 0 := clo _ (by omega) (by omega) (by omega)
      have h4 : zF w8 j 4 = zF w j 4 := clo _ (by omega) (by omega) (by omega)
      rw [h0, h4]
      exact hX.1 j (by omega)
  · unfold mLast
    rw [f2, f3]
  · rw [f4, clo 6 (by omega) (by decide) (by decide)]
    exact Int32.sub_self _
/-- a slip comes, and is refused -/
theorem lC_no (hR : Rep A w n N t) (ht : t ≤ 99999) (hN1 : N + 1 < 2 ^ 30) {r : Int32} (em : mComes w n wr d m = (r, w)) : kAccR (aF A) (aP A) wr d m = r ∧ Rep (kAcc A wr d m) w n N t := by
  obtain ⟨hr, n', N', hR', -⟩ := rAcc hR ht hN1 wr d m
  rw [em] at hr hR'
  have hc := lRep_c hR
  have en : n' = n := lRep_n hR' hc.1 (by omega)
  have eN : N' = N := lRep_N hR' hc.2.2.1 (by omega)
  subst en
  subst eN
  exact ⟨hr, hR'⟩
theorem lC_bad (hs : ¬ mSlip wr d m) : mComes w n wr d m = (-2, w) := if_neg hs
theorem lC_full (hs : mSlip wr d m) (hq : mPart w n wr d m = none) (hn : n = 30) : mComes w n wr d m = (-4, w) := by
  unfold mComes
  rw [if_pos hs, hq]
  exact if_pos hn
/-- one is served -/
theorem lServe_min (hR : Rep A w n N t) (hX : lX w n) (hk : k < n) : ∃ t' : Nat, mMinute w k = nI t' ∧ t ≤ t' ∧ t' ≤ t + 333 := by
  obtain ⟨d, m, hd, hm, hm1, hm9, hdm, -⟩ := lRep_dm hR hk
  obtain ⟨-, -, -, -, -, h6, ht, -⟩ := lRep_c hR
  obtain ⟨ar, har, h9⟩ := lRep_ar hR
  obtain ⟨-, ⟨a, ha, ha4⟩, ⟨b, hb, hb5⟩⟩ := hX
  refine ⟨t + a * (if d < ar then ar - d else d - ar) + b * m, ?_, by omega, ?_⟩
  · unfold mMinute
    rw [h6, ha4, hd, h9, (show mFar (nI d) (nI ar) = nI (if d < ar then ar - d else d - ar) from (kFar_m (G := fun _ => nI ar) (P := fun _ _ => nI d) (i := 0) rfl rfl (by omega) har).2), hb5, hm, pk_mul, pk_mul, nI_add, nI_add]
  · have h1 : a * (if d < ar then ar - d else d - ar) ≤ 3 * 99 := Nat.mul_le_mul ha (by split <;> omega)
    have h2 : b * m ≤ 4 * 9 := Nat.mul_le_mul hb hm9
    omega
theorem lServe (hR : Rep A w n N t) (hX : lX w n) (hn : 0 < n) (ht : t ≤ 90000) : kSrvR A 1 = 1 ∧ ∃ t', Rep (kSrvA A 1) (mServe w n) (n - 1) N t' ∧ lX (mServe w n) (n - 1) ∧ t' ≤ t + 333 ∧ aS (kSrvA A 1) = aS A + 1 := by
  obtain ⟨hlk, hk⟩ := lk_some hR hn
  obtain ⟨t', htt, hR'⟩ := rNx hR hn
  obtain ⟨t2, hm, h1, h2⟩ := lServe_min hR hX hk
  obtain ⟨c05, c6, -⟩ := mServe_c hlk
  have hc' := lRep_c hR'
  have hc := lRep_c hR
  have e2 : t' = t2 := (nI_eq (by have := hc'.2.2.2.2.2.2.1; omega) (by omega)).mp (hc'.2.2.2.2.2.1.symm.trans (c6.trans hm))
  have hw := rNw hR
  have e1 : (1 : Int32).toNatClampNeg = 1 := by decide
  have hmn : kMn A 1 = 1 := by unfold kMn; rw [hw, e1]; omega
  have h6 : aF (kRun A 1) 6 = nI t' := by
    obtain ⟨σ, ar, B, hP, hW, hI, hO, hE, hL, hwf⟩ := hR'
    exact hE.2.1.trans hW.2.2.2.2.2.1
  have hno : ¬ 99999 < aF (kRun A 1) 6 := by rw [h6]; exact nI_nlt (a := 99999) (by omega) (by omega)
  have ea : kSrvA A 1 = kNx A := by
    unfold kSrvA
    rw [if_pos (by decide), if_neg (by omega), hmn, if_neg hno]
    rfl
  refine ⟨?_, t', ?_, ?_, by omega, ?_⟩
  · unfold kSrvR
    rw [if_pos (by decide), if_neg (by omega), hmn, if_neg hno]
    rfl
  · rw [ea]; exact hR'
  · refine lX_u hX (c05 4 (by decide)) (c05 5 (by decide)) (fun j hj => ?_)
    rw [mServe_F hlk hk hj (by decide), mServe_F hlk hk hj (by decide)]
    exact hX.1 _ (by split <;> omega)
  · obtain ⟨-, -, -, hS, hN, -, -, h10, -⟩ := hc
    obtain ⟨-, -, -, hS', hN', -, -, h10', -⟩ := hc'
    obtain ⟨-, -, -, -, c10, -⟩ := mServe_c hlk
    rw [ea]
    refine (nI_eq (by omega) (by omega)).mp ?_
    rw [← h10', c10, h10]
    exact nI_1 _
theorem lServe_no (hR : Rep A w n N t) (hn : n = 0) : kSrvR A 1 = -5 ∧ kSrvA A 1 = A := by
  have hw := rNw hR
  exact ⟨(if_pos (by decide)).trans (if_pos (by omega)), (if_pos (by decide)).trans (if_pos (by omega))⟩
theorem lServe_bad {x : Int32} (h : ¬ (1 ≤ x ∧ x ≤ 30)) : kSrvR A x = -2 ∧ kSrvA A x = A := ⟨if_neg h, if_neg h⟩
theorem lPass (hR : Rep A w n N t) (hX : lX w n) (ht : t ≤ 90000) {j : Nat} (h1 : 1 ≤ j) (h2 : j ≤ 60) : kStandR (aF A) (nI j) = w 6 + nI j ∧ Rep (kStand A (nI j)) (upd w 6 (w 6 + nI j)) n N (t + j) ∧ lX (upd w 6 (w 6 + nI j)) n := by
  obtain ⟨hr, t', hR', -⟩ := rStand hR (by omega) (nI j)
  have hc := lRep_c hR
  have h6 := hc.2.2.2.2.2.1
  have e1 : mWaits w (nI j) = (w 6 + nI j, upd w 6 (w 6 + nI j)) := (if_pos ⟨nI_le (a := 1) h1 (by omega), nI_le (b := 999) (by omega) (by decide)⟩).trans (if_neg (by rw [h6, nI_add]; exact nI_nlt (a := 99999) (by omega) (by omega)))
  rw [e1] at hr hR'
  have hR' : Rep (kStand A (nI j)) (upd w 6 (w 6 + nI j)) n N t' := hR'
  have hc' := lRep_c hR'
  have e2 : t' = t + j := (nI_eq (by have := hc'.2.2.2.2.2.2.1; omega) (by omega)).mp (hc'.2.2.2.2.2.1.symm.trans (by rw [pk_us, h6, nI_add]))
  refine ⟨hr, by rw [← e2]; exact hR', lX_u hX (pk_un (by decide)) (pk_un (by decide)) (fun k hk => ?_)⟩
  rw [zF_u (by decide), zF_u (by decide)]
  exact hX.1 k hk
/-- a setting, in its range -/
theorem lSet (hR : Rep A w n N t) (hX : lX w n) {j v : Nat} (hj : j ≤ 5) (h1 : (if j = 4 then 0 else 1) ≤ v) (h2 : v ≤ (if j < 2 then 999 else if j = 2 then 16 else if j = 3 then 9 else if j = 4 then 3 else 4)) : Rep (kAdj A (nI j) (nI v)) (upd w j (nI v)) n N t ∧ lX (upd w j (nI v)) n := by
  have hcl : (nI j).toNatClampNeg = j := nI_clamp (by omega)
  have hc : (0 ≤ nI j ∧ nI j ≤ 5) ∧ (mLeast (nI j) ≤ nI v ∧ nI v ≤ mMost (nI j)) := by
    rcases (show j = 0 ∨ j = 1 ∨ j = 2 ∨ j = 3 ∨ j = 4 ∨ j = 5 by omega) with rfl | rfl | rfl | rfl | rfl | rfl
    · have g1 : 1 ≤ v := by simpa using h1
      have g2 : v ≤ 999 := by simpa using h2
      exact ⟨by decide, nI_le (a := 1) g1 (by omega), nI_le (b := 999) (by omega) (by decide)⟩
    · have g1 : 1 ≤ v := by simpa using h1
      have g2 : v ≤ 999 := by simpa using h2
      exact ⟨by decide, nI_le (a := 1) g1 (by omega), nI_le (b := 999) (by omega) (by decide)⟩
    · have g1 : 1 ≤ v := by simpa using h1
      have g2 : v ≤ 16 := by simpa using h2
      exact ⟨by decide, nI_le (a := 1) g1 (by omega), nI_le (b := 16) (by omega) (by decide)⟩
    · have g1 : 1 ≤ v := by simpa using h1
      have g2 : v ≤ 9 := by simpa using h2
      exact ⟨by decide, nI_le (a := 1) g1 (by omega), nI_le (b := 9) (by omega) (by decide)⟩
    · have g1 : 0 ≤ v := by simpa using h1
      have g2 : v ≤ 3 := by simpa using h2
      exact ⟨by decide, nI_le (a := 0) g1 (by omega), nI_le (b := 9) (by omega) (by decide)⟩
    · have g1 : 1 ≤ v := by simpa using h1
      have g2 : v ≤ 4 := by simpa using h2
      exact ⟨by decide, nI_le (a := 1) g1 (by omega), nI_le (b := 20) (by omega) (by decide)⟩
  rcases rAdj hR (nI j) (nI v) with ⟨q, -, -⟩ | ⟨-, -, hR'⟩
  · exact absurd hc q
  · rw [hcl] at hR'
    refine ⟨hR', fun k hk => ?_, ?_, ?_⟩
    · rw [zF_u (by omega), zF_u (by omega)]; exact hX.1 k hk
    · by_cases e : j = 4
      · subst e; exact ⟨v, by simpa using h2, pk_us⟩
      · rw [pk_un (fun z => e z.symm)]; exact hX.2.1
    · by_cases e : j = 5
      · subst e; exact ⟨v, by simpa using h2, pk_us⟩
      · rw [pk_un (fun z => e z.symm)]; exact hX.2.2
/-- numbers of the slips that wait are below those given -/
theorem lTear_no (hR : Rep A w n N t) {x : Nat} (hx : N ≤ x) (hx2 : x < 2 ^ 31) : kTearR (aF A) (aP A) (nI x) = -1 ∧ kTear A (nI x) = A := by
  have hc := lRep_c hR
  rcases rTear hR (nI x) with ⟨-, h, h2⟩ | ⟨k, hq, hk, -, -⟩
  · exact ⟨h, h2⟩
  · obtain ⟨-, h1, -⟩ := zFirst_lt hq
    have h1 : zF w k 0 = nI x := of_decide_eq_true h1
    have h2 := (lRep_I hR k hk).2.2.1
    rw [h1, hc.2.2.1] at h2
    have := (nI_ltI hx2 (by have := hc.2.2.2.2.1; omega)).mp h2
    omega
theorem lSo0 (hR : Rep A w n N t) : 0 ≤ w 16 := by
  rcases (lRep_c hR).2.2.2.2.2.2.2.2.2 with e | e | e <;> (rw [e]; decide)
theorem lEver (S a b : Nat) : nI (S + a) + (nI b - nI a) = nI (S + b) := by
  rw [← nI_add, ← nI_add, Int32.add_assoc, Int32.add_comm (nI a), Int32.sub_add_cancel]
end LC
