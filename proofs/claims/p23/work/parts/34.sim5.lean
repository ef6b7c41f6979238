theorem n_lt99 {a : Nat} (h : a < 99) : nI a < 99 := nI_lt (b := 99) h (by decide)
theorem n_nlt99 {a : Nat} (h : 99 ≤ a) (h2 : a < 2 ^ 31) : ¬ nI a < 99 := nI_nlt (b := 99) h h2
theorem n_99lt {a : Nat} (h : 99 < a) (h2 : a < 2 ^ 31) : 99 < nI a := nI_lt (a := 99) h h2
theorem n_99nlt {a : Nat} (h : a ≤ 99) : ¬ 99 < nI a := nI_nlt (a := 99) h (by decide)
theorem n_lt20 {a : Nat} (h : a < 20) : nI a < 20 := nI_lt (b := 20) h (by decide)
theorem n_nlt20 {a : Nat} (h : 20 ≤ a) (h2 : a < 2 ^ 31) : ¬ nI a < 20 := nI_nlt (b := 20) h h2
/-- the cells of the batch -/
theorem rGo {A : zA} {w : Nat → Int32} {n N t ar B S k : Nat} {σ : Nat → Nat} (hP : rPl (aP A) w n σ) (hO : rO w n) (hI : rI w n) (hE : rE A w n B) (hW : rW w n N t ar B S) (hk : k < n) (hS1 : S < 2 ^ 30) :
    ∃ B', (∀ j, j < 10 → kGo (aF A) (aT A) (aP A) (σ k) j = aF A j) ∧ kGo (aF A) (aT A) (aP A) (σ k) 10 = mBegin w n (mLook w n).1 (zF w k 1) 13 ∧ kGo (aF A) (aT A) (aP A) (σ k) 12 = mBegin w n (mLook w n).1 (zF w k 1) 14 ∧ kGo (aF A) (aT A) (aP A) (σ k) 13 = mBegin w n (mLook w n).1 (zF w k 1) 15 ∧ mBegin w n (mLook w n).1 (zF w k 1) 13 = nI B' ∧ B' ≤ S + 1 ∧ (0 < B' → kGo (aF A) (aT A) (aP A) (σ k) 11 = mBegin w n (mLook w n).1 (zF w k 1) 16) ∧ ((B' = 0 ∧ mBegin w n (mLook w n).1 (zF w k 1) 16 = 2) ∨ (0 < B' ∧ (mBegin w n (mLook w n).1 (zF w k 1) 16 = 0 ∨ mBegin w n (mLook w n).1 (zF w k 1) 16 = 1))) := by
  have hwhy := (rSel hP hO hI hE hW (by omega)).1
  obtain ⟨hT, e6, e5, e7, e8, e9, e10, e12, e13, e11, e3, e4⟩ := hE
  obtain ⟨h7, h30, h8, hSN, hN, h6, ht, h9, har, h10, h13, hBS, h17, hso, -, -⟩ := hW
  have f1 : aP A (σ k) 3 = zF w k 1 := (rPl_f hP hk).2.1
  by_cases h0 : (mLook w n).1 = 0
  · have hg : kGo (aF A) (aT A) (aP A) (σ k) = aF A := if_pos (hwhy.trans h0)
    have hb : mBegin w n (mLook w n).1 (zF w k 1) = w := if_pos (by rw [h0]; decide)
    rw [hg, hb]
    exact ⟨B, fun _ _ => rfl, e10, e12, e13, h13, by omega, e11, hso⟩
  · have hg : kGo (aF A) (aT A) (aP A) (σ k) = kBegin (aF A) (zF w k 1) := (if_neg (by rw [hwhy]; exact h0)).trans (by rw [f1])
    have hnp : ¬ (mLook w n).1 ≤ 0 := by
      rcases mLook_w w n with e | e | e | e
      · exact absurd e h0
      · rw [e]; decide
      · rw [e]; decide
      · rw [e]; decide
    have hb : mBegin w n (mLook w n).1 (zF w k 1) = upd (upd (upd (upd w 15 (if zF w k 1 = 1 then 0 else w 15 + (if 0 < mMany w n 1 then 1 else 0))) 13 (w 13 + 1)) 14 0) 16 (zF w k 1) := if_neg hnp
    rw [hg, hb]
    have hs01 : zF w k 1 = 0 ∨ zF w k 1 = 1 := (hI k hk).1
    refine ⟨B + 1, ?_, ?_, ?_, ?_, ?_, by omega, fun _ => ?_, Or.inr ⟨by omega, hs01⟩⟩
    · intro j hj
      unfold kBegin
      split
      · simp only [upd]
        rw [if_neg (by omega), if_neg (by omega), if_neg (by omega), if_neg (by omega)]
      · split
        · simp only [upd]
          rw [if_neg (by omega), if_neg (by omega), if_neg (by omega), if_neg (by omega)]
        · simp only [upd]
          rw [if_neg (by omega), if_neg (by omega), if_neg (by omega)]
    · show kBegin (aF A) (zF w k 1) 10 = w 13 + 1
      rw [← e10]
      unfold kBegin
      split
      · rfl
      · split <;> rfl
    · show kBegin (aF A) (zF w k 1) 12 = 0
      unfold kBegin
      split
      · rfl
      · split <;> rfl
    · show kBegin (aF A) (zF w k 1) 13 = (if zF w k 1 = 1 then 0 else w 15 + (if 0 < mMany w n 1 then 1 else 0))
      rw [← e13]
      unfold kBegin
      by_cases hs : zF w k 1 = 1
      · rw [if_pos hs, if_pos hs]; rfl
      · rw [if_neg hs, if_neg hs, e4]
        have hmn : mMany w n 1 ≤ n := zCnt_le _ _
        by_cases hm : 0 < mMany w n 1
        · rw [if_pos (show (0 : Int32) < nI (mMany w n 1) from nI_lt (a := 0) hm (by omega)), if_pos hm]; rfl
        · rw [if_neg (show ¬ (0 : Int32) < nI (mMany w n 1) by rw [show mMany w n 1 = 0 by omega]; decide), if_neg hm]
          exact (Int32.add_zero _).symm
    · show w 13 + 1 = nI (B + 1)
      rw [h13]; exact nI_1 B
    · show kBegin (aF A) (zF w k 1) 11 = zF w k 1
      unfold kBegin
      split
      · rfl
      · split <;> rfl
theorem z_phi {k a b n : Nat} (h : (if a < k then a else a + 1) = (if b < k then b else b + 1)) : a = b := by
  by_cases h1 : a < k
  · rw [if_pos h1] at h
    by_cases h2 : b < k
    · rw [if_pos h2] at h; exact h
    · rw [if_neg h2] at h; omega
  · rw [if_neg h1] at h
    by_cases h2 : b < k
    · rw [if_pos h2] at h; omega
    · rw [if_neg h2] at h; omega
/-- a slip goes: the places -/
theorem rPl_drop {P : Nat → Nat → Int32} {w w' : Nat → Int32} {n k : Nat} {σ : Nat → Nat} (hP : rPl P w n σ) (hk : k < n) (hF : ∀ j, j < n - 1 → ∀ f, f < 6 → zF w' j f = zF w (if j < k then j else j + 1) f) : rPl (va_up P (σ k) (upd (P (σ k)) 1 0)) w' (n - 1) (fun j => σ (if j < k then j else j + 1)) := by
  have hph : ∀ j, j < n - 1 → (if j < k then j else j + 1) < n ∧ (if j < k then j else j + 1) ≠ k := fun j hj => by split <;> exact ⟨by omega, by omega⟩
  have hne : ∀ j, j < n - 1 → σ (if j < k then j else j + 1) ≠ σ k := fun j hj e => (hph j hj).2 (hP.2.1 _ (hph j hj).1 _ hk e)
  refine ⟨fun j hj => hP.1 _ (hph j hj).1, fun a ha b hb e => z_phi (n := n) (hP.2.1 _ (hph a ha).1 _ (hph b hb).1 e), fun i hi => ?_, fun j hj f hf => ?_⟩
  · by_cases e : i = σ k
    · subst e
      rw [zUp_s]
      exact ⟨fun z => absurd rfl z, fun ⟨j, hj, z⟩ => absurd z (hne j hj)⟩
    · rw [zUp_n _ _ e]
      refine (hP.2.2.1 i hi).trans ⟨fun ⟨j, hj, z⟩ => ?_, fun ⟨j, hj, z⟩ => ⟨_, (hph j hj).1, z⟩⟩
      have hjk : j ≠ k := fun q => e (by rw [← z, q])
      rcases Nat.lt_or_ge j k with q | q
      · exact ⟨j, by omega, by show σ (if j < k then j else j + 1) = i; rw [if_pos q]; exact z⟩
      · exact ⟨j - 1, by omega, by show σ (if j - 1 < k then j - 1 else j - 1 + 1) = i; rw [if_neg (by omega), show j - 1 + 1 = j by omega]; exact z⟩
  · show va_up P (σ k) (upd (P (σ k)) 1 0) (σ (if j < k then j else j + 1)) (f + 2) = _
    rw [zUp_n _ _ (hne j hj), hF j hj f hf]
    exact hP.2.2.2 _ (hph j hj).1 f hf
theorem mMany_drop {w w' : Nat → Int32} {n k : Nat} (hk : k < n) (hF : ∀ j, j < n - 1 → ∀ f, f < 6 → zF w' j f = zF w (if j < k then j else j + 1) f) (x : Int32) : mMany w' (n - 1) x + (if zF w k 1 = x then 1 else 0) = mMany w n x := by
  unfold mMany
  rw [← zCnt_drop (p := fun j => decide (zF w j 1 = x)) hk]
  rw [zCnt_congr (p := fun k => decide (zF w' k 1 = x)) (q := fun j => decide (zF w (if j < k then j else j + 1) 1 = x)) (fun j hj => by rw [hF j hj 1 (by decide)])]
  congr 1
  by_cases h : zF w k 1 = x
  · rw [if_pos h, if_pos (decide_eq_true h)]
  · rw [if_neg h, if_neg (fun z => h (of_decide_eq_true z))]
theorem rIO_drop {w w' : Nat → Int32} {n k t t' : Nat} (hI : rI w n) (hO : rO w n) (hk : k < n) (hF : ∀ j, j < n - 1 → ∀ f, f < 6 → zF w' j f = zF w (if j < k then j else j + 1) f) (h8 : w' 8 = w 8) (h6 : w 6 ≤ w' 6) : rI w' (n - 1) ∧ rO w' (n - 1) := by
  refine ⟨fun j hj => ?_, fun a b hab hb => ?_⟩
  · rw [hF j hj 0 (by decide), hF j hj 1 (by decide), hF j hj 2 (by decide), hF j hj 3 (by decide), hF j hj 4 (by decide), h8]
    have h := hI (if j < k then j else j + 1) (by split <;> omega)
    refine ⟨h.1, h.2.1, h.2.2.1, ?_⟩
    have h4 := h.2.2.2
    rw [zi_le] at h4 h6 ⊢
    omega
  · rw [hF a (by omega) 0 (by decide), hF a (by omega) 4 (by decide), hF b hb 0 (by decide), hF b hb 4 (by decide)]
    exact hO _ _ (by split <;> split <;> omega) (by split <;> omega)
theorem z_m1 {a b c : Nat} (h : b + c = a) : nI a + -(nI c) = nI b := by
  rw [← Int32.sub_eq_add_neg, pk_sub (by omega)]
  congr 1
  omega
/-- serving: class and model -/
theorem rNx {A : zA} {w : Nat → Int32} {n N t : Nat} (hR : Rep A w n N t) (hpos : 0 < n) : ∃ t', t ≤ t' ∧ Rep (kNx A) (mServe w n) (n - 1) N t' := by
  obtain ⟨σ, ar, B, hP, hW, hI, hO, hE, hL, hwf⟩ := hR
  obtain ⟨k, hk, hlk⟩ := mLook_some hpos ⟨hW.1, hW.2.1, fun k hk => (hI k hk).1, fun k hk => by
    obtain ⟨-, ⟨d, m, hd, -, -, -, hdm⟩, -, -⟩ := hI k hk
    rw [hd]; exact nI_pos' (by omega)⟩
  obtain ⟨hwhy, hsel⟩ := rSel hP hO hI hE hW hpos
  rw [hlk] at hsel
  have hsel : kSelN (aF A) (aT A) (aP A) = some (σ k) := hsel
  obtain ⟨hmin, hfar, t', hmt, htt, ht'⟩ := rMin hP hI hE hW hk
  have hSS : aS A < 2 ^ 30 := by have := hW.2.2.2.1; have := hW.2.2.2.2.1; omega
  obtain ⟨B', g0, g10, g12, g13, gB, gBS, g11, gso⟩ := rGo hP hO hI hE hW hk hSS
  have hF : ∀ j, j < n - 1 → ∀ f, f < 6 → zF (mServe w n) j f = zF w (if j < k then j else j + 1) f := fun j hj f hf => mServe_F hlk hk hj hf
  obtain ⟨m05, m6, m8, m9, m10, m11, m12, m13, m14, m15, m16, m17⟩ := mServe_c hlk
  have eF : aF (kNx A) = kSvF (kGo (aF A) (aT A) (aP A) (σ k)) (aT A) (aP A) (σ k) := by
    show kNxF (aF A) (aT A) (aP A) = _
    unfold kNxF; rw [hsel]; rfl
  have eS : aS (kNx A) = aS A + 1 := by
    show kNxS (aF A) (aT A) (aP A) (aS A) = _
    unfold kNxS; rw [hsel]; rfl
  have eP : aP (kNx A) = va_up (aP A) (σ k) (upd (aP A (σ k)) 1 0) := by
    show kNxP (aF A) (aT A) (aP A) = _
    unfold kNxP; rw [hsel]; rfl
  have eU : aU (kNx A) = upd (aU A) (aS A % 20) (aP A (σ k) 2) := by
    show kNxA (aF A) (aT A) (aP A) (aU A) (aS A) = _
    unfold kNxA; rw [hsel]; rfl
  have eV : aV (kNx A) = upd (aV A) (aS A % 20) (kSvF (kGo (aF A) (aT A) (aP A) (σ k)) (aT A) (aP A) (σ k) 6 - aP A (σ k) 6) := by
    show kNxB (aF A) (aT A) (aP A) (aV A) (aS A) = _
    unfold kNxB; rw [hsel]; rfl
  have eX : aX (kNx A) = upd (aX A) (aS A % 20) (aP A (σ k) 3) := by
    show kNxC (aF A) (aT A) (aP A) (aX A) (aS A) = _
    unfold kNxC; rw [hsel]; rfl
  obtain ⟨c3, c4, c5, c6, c7, c8, c9, c10, c11, c12, c13⟩ := kSvF_c (kGo (aF A) (aT A) (aP A) (σ k)) (aT A) (aP A) (σ k)
  have gmin : kMin (kGo (aF A) (aT A) (aP A) (σ k)) (aT A) (aP A) (σ k) = kMin (aF A) (aT A) (aP A) (σ k) := by
    show (if 0 ≤ aP A (σ k) 4 - kGo (aF A) (aT A) (aP A) (σ k) 7 then aP A (σ k) 4 - kGo (aF A) (aT A) (aP A) (σ k) 7 else 0 - (aP A (σ k) 4 - kGo (aF A) (aT A) (aP A) (σ k) 7)) * aT A 4 + aP A (σ k) 5 * aT A 5 = _
    rw [g0 7 (by decide)]
  have gfar : kFar (kGo (aF A) (aT A) (aP A) (σ k)) (aP A) (σ k) = kFar (aF A) (aP A) (σ k) := by
    show (if 0 ≤ aP A (σ k) 4 - kGo (aF A) (aT A) (aP A) (σ k) 7 then aP A (σ k) 4 - kGo (aF A) (aT A) (aP A) (σ k) 7 else 0 - (aP A (σ k) 4 - kGo (aF A) (aT A) (aP A) (σ k) 7)) = _
    rw [g0 7 (by decide)]
  obtain ⟨p0, p1, p2, p3, p4, p5⟩ := rPl_f hP hk
  have hmany0 := mMany_drop hk hF 0
  have hmany1 := mMany_drop hk hF 1
  have hW0 := hW
  obtain ⟨h7, h30, h8, hSN, hN, h6, ht, h9, har, h10, h13, hBS, h17, hso, ha4, hb5⟩ := hW
  have hE0 := hE
  obtain ⟨hT, e6, e5, e7, e8, e9, e10, e12, e13, e11, e3, e4⟩ := hE
  rw [gmin, g0 6 (by decide), hmin] at c6
  rw [gmin, g0 6 (by decide), hmin, p4] at c8
  obtain ⟨hs01, ⟨d, m, hd, hm, hm1, hm9, hdm⟩, -, -⟩ := hI k hk
  have hlast : mLast w k = nI (d + m - 1) := by
    unfold mLast
    rw [hd, hm, nI_add]
    exact pk_sub (a := d + m) (b := 1) (by omega)
  have h6' : w 6 ≤ mServe w n 6 := by rw [m6, hmt, h6]; exact nI_le htt (by omega)
  obtain ⟨hI', hO'⟩ := rIO_drop (t := t) (t' := t') hI hO hk hF m8 h6'
  refine ⟨t', htt, fun j => σ (if j < k then j else j + 1), (if d + m ≤ 99 then d + m else 99), B', ?_, ?_, hI', hO', ?_, ?_, kNx_wf hwf⟩
  · rw [eP]; exact rPl_drop hP hk hF
  · rw [eS]
    refine ⟨mServe_7 w n, by omega, m8.trans h8, by omega, hN, m6.trans hmt, by omega, ?_, by split <;> omega, ?_, m13.trans gB, gBS, ?_, ?_, ?_, ?_⟩
    · rw [m9, hlast]
      by_cases hc : d + m ≤ 99
      · rw [if_pos hc, if_pos (n_lt99 (a := d + m - 1) (by omega))]
        rw [show (1 : Int32) = nI 1 from rfl, nI_add]; congr 1; omega
      · rw [if_neg hc, if_neg (n_nlt99 (a := d + m - 1) (by omega) (by omega))]; rfl
    · rw [m10, h10]; exact nI_1 _
    · rw [m17, h17]
      by_cases hc : aS A < 20
      · rw [if_pos (show nI (min (aS A) 20) < 20 from n_lt20 (by omega))]
        rw [show (1 : Int32) = nI 1 from rfl, nI_add]; congr 1; omega
      · rw [if_neg (show ¬ nI (min (aS A) 20) < 20 from n_nlt20 (by omega) (by omega))]
        rw [Int32.add_zero]; congr 1; omega
    · rw [m16]; exact gso
    · rw [m05 4 (by decide)]; exact ha4
    · rw [m05 5 (by decide)]; exact hb5
  · rw [rE, eF]
    refine ⟨fun j hj => ?_, ?_, ?_, ?_, ?_, ?_, ?_, ?_, ?_, fun hb => ?_, ?_, ?_⟩
    · rw [m05 j hj]; exact hT j hj
    · rw [c6, m6]
    · rw [c5, g0 5 (by decide), m8]; exact e5
    · rw [c7, p2, p3, hd, hm, m9, hlast, nI_add, show nI (d + m) - 1 + 1 = nI (d + m) from Int32.sub_add_cancel _ _]
      by_cases hc : d + m ≤ 99
      · rw [if_neg (n_99nlt (a := d + m) (by omega)), if_pos (n_lt99 (a := d + m - 1) (by omega))]
        rw [show (1 : Int32) = nI 1 from rfl, nI_add]; congr 1; omega
      · rw [if_pos (n_99lt (a := d + m) (by omega) (by omega)), if_neg (n_nlt99 (a := d + m - 1) (by omega) (by omega))]
    · rw [c8, g0 8 (by decide), e8, m11]
    · rw [c9, g0 9 (by decide), gfar, hfar, e9, m12]
    · rw [c10, g10, m13]
    · rw [c12, g12, m14]
    · rw [c13, g13, m15]
    · rw [c11, g11 hb, m16]
    · rw [c3, p1, g0 3 (by decide), e3]
      rcases hs01 with e | e
      · rw [if_neg (show ¬ zF w k 1 = 1 by rw [e]; decide)]
        rw [if_pos e] at hmany0
        exact z_m1 (c := 1) hmany0
      · rw [if_pos e]
        rw [if_neg (show ¬ zF w k 1 = 0 by rw [e]; decide)] at hmany0
        congr 1; omega
    · rw [c4, p1, g0 4 (by decide), e4]
      rcases hs01 with e | e
      · rw [if_neg (show ¬ zF w k 1 = 1 by rw [e]; decide)]
        rw [if_neg (show ¬ zF w k 1 = 1 by rw [e]; decide)] at hmany1
        congr 1; omega
      · rw [if_pos e]
        rw [if_pos e] at hmany1
        exact z_m1 (c := 1) hmany1
  · intro j hj hjS
    rw [eS] at hjS
    obtain ⟨l0, l1, l2⟩ := mServe_log hlk hj
    rw [eS, eU, eV, eX, l0, l1, l2, c6, p0, p1, p4]
    by_cases hj0 : j = 0
    · subst hj0
      rw [if_pos rfl, if_pos rfl, if_pos rfl, show aS A + 1 - 1 - 0 = aS A by omega, pk_us, pk_us, pk_us]
      exact ⟨rfl, rfl, rfl⟩
    · have hL' := hL (j - 1) (by omega) (by omega)
      have hne : (aS A + 1 - 1 - j) % 20 ≠ aS A % 20 := by omega
      rw [if_neg hj0, if_neg hj0, if_neg hj0, pk_un hne, pk_un hne, pk_un hne, show aS A + 1 - 1 - j = aS A - 1 - (j - 1) by omega]
      exact hL'
theorem rRun {A : zA} {w : Nat → Int32} {n N t : Nat} (hR : Rep A w n N t) : ∀ j, j ≤ n → ∃ t', t ≤ t' ∧ Rep (kRun A j) (mRun w n j) (n - j) N t'
  | 0, _ => ⟨t, Nat.le_refl _, hR⟩
  | j + 1, hj => by
    obtain ⟨t1, h1, hR1⟩ := rRun hR j (by omega)
    obtain ⟨t2, h2, hR2⟩ := rNx hR1 (by omega)
    rw [show n - j - 1 = n - (j + 1) by omega] at hR2
    exact ⟨t2, Nat.le_trans h1 h2, hR2⟩
