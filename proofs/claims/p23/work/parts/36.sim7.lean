theorem rRep_cells {A : zA} {w : Nat → Int32} {n N t : Nat} (hR : Rep A w n N t) : w 7 = nI n ∧ n ≤ 30 ∧ w 8 = nI N ∧ N < 2 ^ 30 ∧ w 6 = nI t ∧ aS A + n ≤ N := by
  obtain ⟨σ, ar, B, hP, hW, hI, hO, hE, hL, hwf⟩ := hR
  exact ⟨hW.1, hW.2.1, hW.2.2.1, hW.2.2.2.2.1, hW.2.2.2.2.2.1, hW.2.2.2.1⟩
theorem rRep_sum {A : zA} {w : Nat → Int32} {n N t : Nat} (hR : Rep A w n N t) : aF A 3 + aF A 4 = nI n := by
  obtain ⟨σ, ar, B, hP, hW, hI, hO, hE, hL, hwf⟩ := hR
  obtain ⟨hT, e6, e5, e7, e8, e9, e10, e12, e13, e11, e3, e4⟩ := hE
  rw [e3, e4, nI_add, rMany hI]
theorem rNw {A : zA} {w : Nat → Int32} {n N t : Nat} (hR : Rep A w n N t) : nwA A = n := by
  unfold nwA
  rw [rRep_sum hR]
  exact nI_clamp (by have := (rRep_cells hR).2.1; omega)
theorem rGood {A : zA} {w : Nat → Int32} {n N t : Nat} (hR : Rep A w n N t) : kGood A := by
  obtain ⟨h7, h30, h8, hN, h6, hS⟩ := rRep_cells hR
  have hn := rNw hR
  exact ⟨by rw [hn]; exact rRep_sum hR, by omega, by omega⟩
theorem rOK {A : zA} {w : Nat → Int32} {n N t : Nat} (hR : Rep A w n N t) : mOK w n := by
  obtain ⟨σ, ar, B, hP, hW, hI, hO, hE, hL, hwf⟩ := hR
  exact ⟨hW.1, hW.2.1, fun k hk => (hI k hk).1, fun k hk => by
    obtain ⟨-, ⟨d, m, hd, -, -, -, hdm⟩, -, -⟩ := hI k hk
    rw [hd]; exact nI_pos' (by omega)⟩
theorem rWf {A : zA} {w : Nat → Int32} {n N t : Nat} (hR : Rep A w n N t) : zWfA A := by
  obtain ⟨σ, ar, B, hP, hW, hI, hO, hE, hL, hwf⟩ := hR
  exact hwf
/-- a slip is torn up -/
theorem rTear {A : zA} {w : Nat → Int32} {n N t : Nat} (hR : Rep A w n N t) (x : Int32) : (mFind w n x = none ∧ kTearR (aF A) (aP A) x = -1 ∧ kTear A x = A) ∨ ∃ k, mFind w n x = some k ∧ k < n ∧ kTearR (aF A) (aP A) x = w 6 - zF w k 4 ∧ Rep (kTear A x) (mDrop w n k) (n - 1) N t := by
  obtain ⟨σ, ar, B, hP, hW, hI, hO, hE, hL, hwf⟩ := hR
  have hf := rFind hP hO x
  rcases hq : mFind w n x with _ | k
  · rw [hq] at hf
    have hf : kFind (aP A) x 30 = none := hf
    refine Or.inl ⟨rfl, ?_, ?_⟩
    · unfold kTearR; rw [hf]; rfl
    · show (kTearF (aF A) (aP A) x, aT A, aS A, aU A, aV A, aX A, kTearP (aP A) x) = A
      rw [show kTearF (aF A) (aP A) x = aF A by unfold kTearF; rw [hf]; rfl, show kTearP (aP A) x = aP A by unfold kTearP; rw [hf]; rfl]
  · rw [hq] at hf
    have hf : kFind (aP A) x 30 = some (σ k) := hf
    obtain ⟨hk, -, -⟩ := zFirst_lt hq
    obtain ⟨p0, p1, p2, p3, p4, p5⟩ := rPl_f hP hk
    have hF : ∀ j, j < n - 1 → ∀ f, f < 6 → zF (mDrop w n k) j f = zF w (if j < k then j else j + 1) f := fun j hj f hf => mDrop_F w hk hj hf
    have clo : ∀ j, j < 78 → j ≠ 7 → mDrop w n k j = w j := fun j hj h7 => mDrop_lo hj h7
    obtain ⟨hI', hO'⟩ := rIO_drop (t := t) (t' := t) hI hO hk hF (clo 8 (by decide) (by decide)) (by rw [clo 6 (by decide) (by decide), zi_le]; exact Int.le_refl _)
    have hmany0 := mMany_drop hk hF 0
    have hmany1 := mMany_drop hk hF 1
    obtain ⟨hs01, -, -, -⟩ := hI k hk
    obtain ⟨h7, h30, h8, hSN, hN, h6, ht, h9, har, h10, h13, hBS, h17, hso, ha4, hb5⟩ := hW
    obtain ⟨hT, e6, e5, e7, e8, e9, e10, e12, e13, e11, e3, e4⟩ := hE
    have eF : aF (kTear A x) = kCount (aF A) (zF w k 1) (-1) := by
      show kTearF (aF A) (aP A) x = _
      unfold kTearF; rw [hf, ← p1]; rfl
    have eP : aP (kTear A x) = va_up (aP A) (σ k) (upd (aP A (σ k)) 1 0) := by
      show kTearP (aP A) x = _
      unfold kTearP; rw [hf]; rfl
    refine Or.inr ⟨k, rfl, hk, ?_, fun j => σ (if j < k then j else j + 1), ar, B, ?_, ?_, hI', hO', ?_, ?_, kTear_wf hwf⟩
    · unfold kTearR; rw [hf, ← e6, ← p4]; rfl
    · rw [eP]; exact rPl_drop hP hk hF
    · show rW (mDrop w n k) (n - 1) N t ar B (aS A)
      unfold rW
      rw [clo 8 (by decide) (by decide), clo 6 (by decide) (by decide), clo 9 (by decide) (by decide), clo 10 (by decide) (by decide), clo 13 (by decide) (by decide), clo 17 (by decide) (by decide), clo 16 (by decide) (by decide), clo 4 (by decide) (by decide), clo 5 (by decide) (by decide)]
      exact ⟨mDrop_7 w n k, by omega, h8, by omega, hN, h6, by omega, h9, har, h10, h13, hBS, h17, hso, ha4, hb5⟩
    · rw [rE, eF]
      have kc : ∀ j, j ≠ 3 → j ≠ 4 → kCount (aF A) (zF w k 1) (-1) j = aF A j := fun j h1 h2 => by
        unfold kCount
        split
        · exact pk_un h2
        · exact pk_un h1
      rw [kc 6 (by decide) (by decide), kc 5 (by decide) (by decide), kc 7 (by decide) (by decide), kc 8 (by decide) (by decide), kc 9 (by decide) (by decide), kc 10 (by decide) (by decide), kc 11 (by decide) (by decide), kc 12 (by decide) (by decide), kc 13 (by decide) (by decide), clo 6 (by decide) (by decide), clo 8 (by decide) (by decide), clo 9 (by decide) (by decide), clo 11 (by decide) (by decide), clo 12 (by decide) (by decide), clo 13 (by decide) (by decide), clo 14 (by decide) (by decide), clo 15 (by decide) (by decide), clo 16 (by decide) (by decide)]
      refine ⟨fun j hj => (hT j hj).trans (clo j (by omega) (by omega)).symm, e6, e5, e7, e8, e9, e10, e12, e13, e11, ?_, ?_⟩
      · unfold kCount
        rcases hs01 with e | e
        · rw [e, if_neg (by decide), pk_us, e3]
          rw [if_pos e] at hmany0
          exact z_m1 (c := 1) hmany0
        · rw [e, if_pos rfl, pk_un (by decide), e3]
          rw [if_neg (show ¬ zF w k 1 = 0 by rw [e]; decide)] at hmany0
          congr 1; omega
      · unfold kCount
        rcases hs01 with e | e
        · rw [e, if_neg (by decide), pk_un (by decide), e4]
          rw [if_neg (show ¬ zF w k 1 = 1 by rw [e]; decide)] at hmany1
          congr 1; omega
        · rw [e, if_pos rfl, pk_us, e4]
          rw [if_pos e] at hmany1
          exact z_m1 (c := 1) hmany1
    · intro j hj hjS
      rw [clo (18 + 3 * j + 0) (by omega) (by omega), clo (18 + 3 * j + 1) (by omega) (by omega), clo (18 + 3 * j + 2) (by omega) (by omega)]
      exact hL j hj hjS
/-- minutes pass -/
theorem rStand {A : zA} {w : Nat → Int32} {n N t : Nat} (hR : Rep A w n N t) (ht9 : t ≤ 99999) (mi : Int32) : kStandR (aF A) mi = (mWaits w mi).1 ∧ ∃ t', Rep (kStand A mi) (mWaits w mi).2 n N t' ∧ t' ≤ 99999 := by
  have hR0 := hR
  obtain ⟨σ, ar, B, hP, hW, hI, hO, hE, hL, hwf⟩ := hR
  obtain ⟨hT, e6, e5, e7, e8, e9, e10, e12, e13, e11, e3, e4⟩ := hE
  have same : kStandF (aF A) mi = aF A → kStand A mi = A := fun h => by
    show (kStandF (aF A) mi, aT A, aS A, aU A, aV A, aX A, aP A) = A
    rw [h]
  by_cases h1 : 1 ≤ mi ∧ mi ≤ 999
  · by_cases h2 : 99999 < w 6 + mi
    · have e1 : mWaits w mi = (-5, w) := (if_pos h1).trans (if_pos h2)
      rw [e1, same ((if_pos h1).trans (if_pos (by rw [e6]; exact h2)))]
      exact ⟨(if_pos h1).trans (if_pos (by rw [e6]; exact h2)), t, hR0, ht9⟩
    · have e1 : mWaits w mi = (w 6 + mi, upd w 6 (w 6 + mi)) := (if_pos h1).trans (if_neg h2)
      have eF : aF (kStand A mi) = upd (aF A) 6 (aF A 6 + mi) := (if_pos h1).trans (if_neg (by rw [e6]; exact h2))
      obtain ⟨j, rfl, hj1, hj9⟩ := z_ix (na := 1) (nb := 999) rfl rfl (by decide) (by decide) h1
      obtain ⟨h7, h30, h8, hSN, hN, h6, ht, h9, har, h10, h13, hBS, h17, hso, ha4, hb5⟩ := hW
      have h6' : w 6 + nI j = nI (t + j) := by rw [h6, nI_add]
      rw [h6'] at h2
      have htj : t + j ≤ 99999 := by
        rcases Nat.lt_or_ge 99999 (t + j) with g | g
        · exact absurd (nI_lt (a := 99999) g (by omega)) h2
        · exact g
      have clo : ∀ i, i ≠ 6 → upd w 6 (w 6 + nI j) i = w i := fun i hi => pk_un hi
      have c6 : upd w 6 (w 6 + nI j) 6 = nI (t + j) := pk_us.trans h6'
      have hF : ∀ k f, zF (upd w 6 (w 6 + nI j)) k f = zF w k f := fun k f => zF_u (by decide)
      rw [e1]
      refine ⟨(if_pos h1).trans ((if_neg (by rw [e6, h6']; exact h2)).trans (by rw [e6])), t + j, ?_, htj⟩
      show Rep (kStand A (nI j)) (upd w 6 (w 6 + nI j)) n N (t + j)
      refine ⟨σ, ar, B, ⟨hP.1, hP.2.1, hP.2.2.1, fun k hk f hf => (hP.2.2.2 k hk f hf).trans (hF k f).symm⟩, ?_, ?_, ?_, ?_, ?_, hwf⟩
      · unfold rW
        rw [clo 7 (by decide), clo 8 (by decide), c6, clo 9 (by decide), clo 10 (by decide), clo 13 (by decide), clo 17 (by decide), clo 16 (by decide), clo 4 (by decide), clo 5 (by decide)]
        exact ⟨h7, h30, h8, hSN, hN, rfl, by omega, h9, har, h10, h13, hBS, h17, hso, ha4, hb5⟩
      · intro k hk
        rw [hF k 0, hF k 1, hF k 2, hF k 3, hF k 4, clo 8 (by decide), c6]
        have h := hI k hk
        refine ⟨h.1, h.2.1, h.2.2.1, ?_⟩
        have g := h.2.2.2
        have g2 : nI t ≤ nI (t + j) := nI_le (by omega) (by omega)
        rw [h6] at g
        rw [zi_le] at g g2 ⊢
        omega
      · intro a b hab hb
        rw [hF a 0, hF a 4, hF b 0, hF b 4]
        exact hO a b hab hb
      · rw [rE, eF]
        have hM : ∀ x, mMany (upd w 6 (w 6 + nI j)) n x = mMany w n x := fun x => zCnt_congr (fun i hi => by rw [hF i 1])
        rw [hM 0, hM 1, clo 8 (by decide), clo 9 (by decide), clo 11 (by decide), clo 12 (by decide), clo 13 (by decide), clo 14 (by decide), clo 15 (by decide), clo 16 (by decide)]
        exact ⟨fun i hi => (hT i hi).trans (clo i (by omega)).symm, by rw [pk_us, pk_us, e6], (pk_un (by decide)).trans e5, (pk_un (by decide)).trans e7, (pk_un (by decide)).trans e8, (pk_un (by decide)).trans e9, (pk_un (by decide)).trans e10, (pk_un (by decide)).trans e12, (pk_un (by decide)).trans e13, fun hb => (pk_un (by decide)).trans (e11 hb), (pk_un (by decide)).trans e3, (pk_un (by decide)).trans e4⟩
      · intro i hi hiS
        rw [clo (18 + 3 * i + 0) (by omega), clo (18 + 3 * i + 1) (by omega), clo (18 + 3 * i + 2) (by omega)]
        exact hL i hi hiS
  · have e1 : mWaits w mi = (-2, w) := if_neg h1
    rw [e1, same (if_neg h1)]
    exact ⟨if_neg h1, t, hR0, ht9⟩
/-- a setting is changed -/
theorem rAdjB (x v : Int32) : ((0 ≤ x ∧ x < nI 6) ∧ zLe x.toNatClampNeg ≤ v ∧ v ≤ zMo x.toNatClampNeg) ↔ ((0 ≤ x ∧ x ≤ 5) ∧ (mLeast x ≤ v ∧ v ≤ mMost x)) := by
  have hx : (0 ≤ x ∧ x < nI 6) ↔ (0 ≤ x ∧ x ≤ 5) := by
    have h6 : (nI 6).toInt = 6 := by decide
    have h5 : (5 : Int32).toInt = 5 := by decide
    rw [zi_le, zi_lt, zi_le, h6, h5]
    constructor
    · intro h; exact ⟨h.1, by omega⟩
    · intro h; exact ⟨h.1, by omega⟩
  constructor
  · intro h
    obtain ⟨j, rfl, -, hj⟩ := z_ix (na := 0) (nb := 5) rfl rfl (by decide) (by decide) (hx.mp h.1)
    refine ⟨hx.mp h.1, ?_⟩
    have h2 := h.2
    rcases (show j = 0 ∨ j = 1 ∨ j = 2 ∨ j = 3 ∨ j = 4 ∨ j = 5 by omega) with rfl | rfl | rfl | rfl | rfl | rfl <;> exact h2
  · intro h
    obtain ⟨j, rfl, -, hj⟩ := z_ix (na := 0) (nb := 5) rfl rfl (by decide) (by decide) h.1
    refine ⟨hx.mpr h.1, ?_⟩
    have h2 := h.2
    rcases (show j = 0 ∨ j = 1 ∨ j = 2 ∨ j = 3 ∨ j = 4 ∨ j = 5 by omega) with rfl | rfl | rfl | rfl | rfl | rfl <;> exact h2
theorem rAdj {A : zA} {w : Nat → Int32} {n N t : Nat} (hR : Rep A w n N t) (x v : Int32) : (¬ ((0 ≤ x ∧ x ≤ 5) ∧ (mLeast x ≤ v ∧ v ≤ mMost x)) ∧ kAdjR (aT A) x v = -2 ∧ kAdj A x v = A) ∨ (((0 ≤ x ∧ x ≤ 5) ∧ (mLeast x ≤ v ∧ v ≤ mMost x)) ∧ kAdjR (aT A) x v = w x.toNatClampNeg ∧ Rep (kAdj A x v) (upd w x.toNatClampNeg v) n N t) := by
  by_cases hc : (0 ≤ x ∧ x ≤ 5) ∧ (mLeast x ≤ v ∧ v ≤ mMost x)
  · have hk := (rAdjB x v).mpr hc
    obtain ⟨j, rfl, -, hj⟩ := z_ix (na := 0) (nb := 5) rfl rfl (by decide) (by decide) hc.1
    have hcl : (nI j).toNatClampNeg = j := nI_clamp (by omega)
    obtain ⟨σ, ar, B, hP, hW, hI, hO, hE, hL, hwf⟩ := hR
    obtain ⟨hT, e6, e5, e7, e8, e9, e10, e12, e13, e11, e3, e4⟩ := hE
    obtain ⟨h7, h30, h8, hSN, hN, h6, ht, h9, har, h10, h13, hBS, h17, hso, ha4, hb5⟩ := hW
    have eT : aT (kAdj A (nI j) v) = upd (aT A) j v := by
      show kAdjT (aT A) (nI j) v = _
      rw [show kAdjT (aT A) (nI j) v = upd (aT A) (nI j).toNatClampNeg v from if_pos hk, hcl]
    refine Or.inr ⟨hc, ?_, ?_⟩
    · rw [show kAdjR (aT A) (nI j) v = aT A (nI j).toNatClampNeg from if_pos hk, hcl]
      exact hT j (by omega)
    · rw [hcl]
      have clo : ∀ i, 6 ≤ i → upd w j v i = w i := fun i hi => pk_un (by omega)
      have hF : ∀ k f, zF (upd w j v) k f = zF w k f := fun k f => zF_u (by omega)
      refine ⟨σ, ar, B, ⟨hP.1, hP.2.1, hP.2.2.1, fun k hk f hf => (hP.2.2.2 k hk f hf).trans (hF k f).symm⟩, ?_, ?_, ?_, ?_, ?_, hwf⟩
      · show rW (upd w j v) n N t ar B (aS A)
        unfold rW
        rw [clo 7 (by decide), clo 8 (by decide), clo 6 (by decide), clo 9 (by decide), clo 10 (by decide), clo 13 (by decide), clo 17 (by decide), clo 16 (by decide)]
        refine ⟨h7, h30, h8, hSN, hN, h6, ht, h9, har, h10, h13, hBS, h17, hso, ?_, ?_⟩
        · by_cases e : j = 4
          · subst e
            obtain ⟨a, e2, -, ha⟩ := z_ix (na := 0) (nb := 9) rfl rfl (by decide) (by decide) (show (0 : Int32) ≤ v ∧ v ≤ 9 from hc.2)
            exact ⟨a, ha, pk_us.trans e2⟩
          · rw [pk_un (fun z => e z.symm)]; exact ha4
        · by_cases e : j = 5
          · subst e
            obtain ⟨a, e2, -, ha⟩ := z_ix (na := 1) (nb := 20) rfl rfl (by decide) (by decide) (show (1 : Int32) ≤ v ∧ v ≤ 20 from hc.2)
            exact ⟨a, ha, pk_us.trans e2⟩
          · rw [pk_un (fun z => e z.symm)]; exact hb5
      · intro k hk
        rw [hF k 0, hF k 1, hF k 2, hF k 3, hF k 4, clo 8 (by decide), clo 6 (by decide)]
        exact hI k hk
      · intro a b hab hb
        rw [hF a 0, hF a 4, hF b 0, hF b 4]
        exact hO a b hab hb
      · have hM : ∀ x, mMany (upd w j v) n x = mMany w n x := fun x => zCnt_congr (fun i hi => by rw [hF i 1])
        show (∀ i, i < 6 → aT (kAdj A (nI j) v) i = upd w j v i) ∧ aF A 6 = upd w j v 6 ∧ aF A 5 = upd w j v 8 ∧ aF A 7 = upd w j v 9 ∧ aF A 8 = upd w j v 11 ∧ aF A 9 = upd w j v 12 ∧ aF A 10 = upd w j v 13 ∧ aF A 12 = upd w j v 14 ∧ aF A 13 = upd w j v 15 ∧ (0 < B → aF A 11 = upd w j v 16) ∧ aF A 3 = nI (mMany (upd w j v) n 0) ∧ aF A 4 = nI (mMany (upd w j v) n 1)
        rw [hM 0, hM 1, eT, clo 6 (by decide), clo 8 (by decide), clo 9 (by decide), clo 11 (by decide), clo 12 (by decide), clo 13 (by decide), clo 14 (by decide), clo 15 (by decide), clo 16 (by decide)]
        refine ⟨fun i hi => ?_, e6, e5, e7, e8, e9, e10, e12, e13, e11, e3, e4⟩
        by_cases e : i = j
        · subst e; rw [pk_us, pk_us]
        · rw [pk_un e, pk_un e]; exact hT i hi
      · intro i hi hiS
        rw [clo (18 + 3 * i + 0) (by omega), clo (18 + 3 * i + 1) (by omega), clo (18 + 3 * i + 2) (by omega)]
        exact hL i hi hiS
  · have hk : ¬ ((0 ≤ x ∧ x < nI 6) ∧ zLe x.toNatClampNeg ≤ v ∧ v ≤ zMo x.toNatClampNeg) := fun z => hc ((rAdjB x v).mp z)
    refine Or.inl ⟨hc, if_neg hk, ?_⟩
    show (aF A, kAdjT (aT A) x v, aS A, aU A, aV A, aX A, aP A) = A
    rw [show kAdjT (aT A) x v = aT A from if_neg hk]
/-- several are served -/
theorem rSrv {A : zA} {w : Nat → Int32} {n N t : Nat} (hR : Rep A w n N t) (ht9 : t ≤ 99999) (mn : Int32) : kSrvR A mn = (mServes w n mn).1 ∧ ∃ n' t', Rep (kSrvA A mn) (mServes w n mn).2 n' N t' ∧ t' ≤ 99999 := by
  have hn := rNw hR
  unfold kSrvR kSrvA mServes kMn
  rw [hn]
  by_cases h1 : 1 ≤ mn ∧ mn ≤ 30
  · rw [if_pos h1, if_pos h1, if_pos h1]
    by_cases h2 : n = 0
    · rw [if_pos h2, if_pos h2, if_pos h2]
      exact ⟨rfl, n, t, hR, ht9⟩
    · rw [if_neg h2, if_neg h2, if_neg h2]
      obtain ⟨t', htt, hR'⟩ := rRun hR (min mn.toNatClampNeg n) (Nat.min_le_right _ _)
      obtain ⟨σ, ar, B, hP, hW, hI, hO, hE, hL, hwf⟩ := hR'
      have hR' : Rep (kRun A (min mn.toNatClampNeg n)) (mRun w n (min mn.toNatClampNeg n)) (n - min mn.toNatClampNeg n) N t' := ⟨σ, ar, B, hP, hW, hI, hO, hE, hL, hwf⟩
      have e6 : aF (kRun A (min mn.toNatClampNeg n)) 6 = mRun w n (min mn.toNatClampNeg n) 6 := hE.2.1
      have h6 : mRun w n (min mn.toNatClampNeg n) 6 = nI t' := (rRep_cells hR').2.2.2.2.1
      have ht2 : t' ≤ 132129 := by have := hW.2.2.2.2.2.2.1; omega
      rw [e6]
      by_cases h3 : 99999 < mRun w n (min mn.toNatClampNeg n) 6
      · rw [if_pos h3, if_pos h3, if_pos h3]
        exact ⟨rfl, n, t, hR, ht9⟩
      · rw [if_neg h3, if_neg h3, if_neg h3]
        refine ⟨rfl, _, t', hR', ?_⟩
        rcases Nat.lt_or_ge 99999 t' with g | g
        · exact absurd (by rw [h6]; exact nI_lt (a := 99999) g (by omega)) h3
        · exact g
  · rw [if_neg h1, if_neg h1, if_neg h1]
    exact ⟨rfl, n, t, hR, ht9⟩
