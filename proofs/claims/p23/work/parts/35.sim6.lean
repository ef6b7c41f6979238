/-- a slip comes -/
theorem rAcc {A : zA} {w : Nat → Int32} {n N t : Nat} (hR : Rep A w n N t) (ht9 : t ≤ 99999) (hN1 : N + 1 < 2 ^ 30) (wr d mm : Int32) : kAccR (aF A) (aP A) wr d mm = (mComes w n wr d mm).1 ∧ ∃ n' N', Rep (kAcc A wr d mm) (mComes w n wr d mm).2 n' N' t ∧ N' ≤ N + 1 := by
  have hR0 := hR
  obtain ⟨σ, ar, B, hP, hW, hI, hO, hE, hL, hwf⟩ := hR
  by_cases hs : mSlip wr d mm
  · obtain ⟨hwr, hd, hm, hdm⟩ := hs
    have hs : mSlip wr d mm := ⟨hwr, hd, hm, hdm⟩
    have hhost := rHost hP hO wr d mm
    obtain ⟨q, rfl, hq1, hq9⟩ := z_ix (na := 1) (nb := 9) rfl rfl (by decide) (by decide) hm
    obtain ⟨dd, rfl, -, hdd⟩ := z_ix (na := 0) (nb := 99) rfl rfl (by decide) (by decide) hd
    have hdm : dd + q ≤ 100 := by
      rw [nI_add] at hdm
      exact (nI_leI (b := 100) (by omega) (by decide)).mp hdm
    rcases hq : mPart w n wr (nI dd) (nI q) with _ | k
    · rw [hq] at hhost
      have hhost : kHost (aP A) wr (nI dd) (nI q) 30 = none := hhost
      by_cases h30 : n = 30
      · have hfree := rFull hP h30
        have e1 : mComes w n wr (nI dd) (nI q) = (-4, w) := by
          unfold mComes
          rw [if_pos hs, hq]
          exact if_pos h30
        have e2 : kAcc A wr (nI dd) (nI q) = A := by
          show (kAccF (aF A) (aP A) wr (nI dd) (nI q), aT A, aS A, aU A, aV A, aX A, kAccP (aF A) (aP A) wr (nI dd) (nI q)) = A
          rw [show kAccF (aF A) (aP A) wr (nI dd) (nI q) = aF A from (if_pos hs).trans (by rw [hhost, hfree]; rfl), show kAccP (aF A) (aP A) wr (nI dd) (nI q) = aP A from (if_pos hs).trans (by rw [hhost, hfree]; rfl)]
        rw [e1, e2]
        exact ⟨(if_pos hs).trans (by rw [hhost, hfree]; rfl), n, N, hR0, by omega⟩
      · obtain ⟨i, hi, hi0, hfree⟩ := rFree hP (by have := hW.2.1; omega)
        obtain ⟨h7, hn30, h8, hSN, hN, h6, ht, h9, har, h10, h13, hBS, h17, hso, ha4, hb5⟩ := hW
        obtain ⟨hT, e6, e5, e7, e8, e9, e10, e12, e13, e11, e3, e4⟩ := hE
        obtain ⟨w8, ew⟩ : ∃ z, z = (mComes w n wr (nI dd) (nI q)).2 := ⟨_, rfl⟩
        have em : mComes w n wr (nI dd) (nI q) = (upd (upd (upd (upd (upd (upd (upd (upd w (78 + 6 * n) (w 8)) (78 + 6 * n + 1) wr) (78 + 6 * n + 2) (nI dd)) (78 + 6 * n + 3) (nI q)) (78 + 6 * n + 4) (upd (upd (upd (upd w (78 + 6 * n) (w 8)) (78 + 6 * n + 1) wr) (78 + 6 * n + 2) (nI dd)) (78 + 6 * n + 3) (nI q) 6)) (78 + 6 * n + 5) 0) 7 (nI (n + 1))) 8 (upd (upd (upd (upd (upd (upd (upd w (78 + 6 * n) (w 8)) (78 + 6 * n + 1) wr) (78 + 6 * n + 2) (nI dd)) (78 + 6 * n + 3) (nI q)) (78 + 6 * n + 4) (upd (upd (upd (upd w (78 + 6 * n) (w 8)) (78 + 6 * n + 1) wr) (78 + 6 * n + 2) (nI dd)) (78 + 6 * n + 3) (nI q) 6)) (78 + 6 * n + 5) 0) 7 (nI (n + 1)) 8 + 1) 8 - 1, upd (upd (upd (upd (upd (upd (upd (upd w (78 + 6 * n) (w 8)) (78 + 6 * n + 1) wr) (78 + 6 * n + 2) (nI dd)) (78 + 6 * n + 3) (nI q)) (78 + 6 * n + 4) (upd (upd (upd (upd w (78 + 6 * n) (w 8)) (78 + 6 * n + 1) wr) (78 + 6 * n + 2) (nI dd)) (78 + 6 * n + 3) (nI q) 6)) (78 + 6 * n + 5) 0) 7 (nI (n + 1))) 8 (upd (upd (upd (upd (upd (upd (upd w (78 + 6 * n) (w 8)) (78 + 6 * n + 1) wr) (78 + 6 * n + 2) (nI dd)) (78 + 6 * n + 3) (nI q)) (78 + 6 * n + 4) (upd (upd (upd (upd w (78 + 6 * n) (w 8)) (78 + 6 * n + 1) wr) (78 + 6 * n + 2) (nI dd)) (78 + 6 * n + 3) (nI q) 6)) (78 + 6 * n + 5) 0) 7 (nI (n + 1)) 8 + 1)) := by
          unfold mComes
          rw [if_pos hs, hq]
          exact if_neg h30
        have x8 : upd (upd (upd (upd (upd (upd (upd w (78 + 6 * n) (w 8)) (78 + 6 * n + 1) wr) (78 + 6 * n + 2) (nI dd)) (78 + 6 * n + 3) (nI q)) (78 + 6 * n + 4) (upd (upd (upd (upd w (78 + 6 * n) (w 8)) (78 + 6 * n + 1) wr) (78 + 6 * n + 2) (nI dd)) (78 + 6 * n + 3) (nI q) 6)) (78 + 6 * n + 5) 0) 7 (nI (n + 1)) 8 = w 8 := by
          rw [pk_un (by omega), pk_un (by omega), pk_un (by omega), pk_un (by omega), pk_un (by omega), pk_un (by omega), pk_un (by omega)]
        have x6 : upd (upd (upd (upd w (78 + 6 * n) (w 8)) (78 + 6 * n + 1) wr) (78 + 6 * n + 2) (nI dd)) (78 + 6 * n + 3) (nI q) 6 = w 6 := by
          rw [pk_un (by omega), pk_un (by omega), pk_un (by omega), pk_un (by omega)]
        rw [x8, x6] at em
        have hr : (mComes w n wr (nI dd) (nI q)).1 = w 8 := by
          rw [em]
          show upd _ 8 (w 8 + 1) 8 - 1 = w 8
          rw [pk_us]
          exact Int32.add_sub_cancel _ _
        rw [em] at ew
        have ew : w8 = upd (upd (upd (upd (upd (upd (upd (upd w (78 + 6 * n) (w 8)) (78 + 6 * n + 1) wr) (78 + 6 * n + 2) (nI dd)) (78 + 6 * n + 3) (nI q)) (78 + 6 * n + 4) (w 6)) (78 + 6 * n + 5) 0) 7 (nI (n + 1))) 8 (w 8 + 1) := ew
        have c7 : w8 7 = nI (n + 1) := by rw [ew, pk_un (by omega), pk_us]
        have c8 : w8 8 = w 8 + 1 := by rw [ew, pk_us]
        have clo : ∀ j, j < 78 + 6 * n → j ≠ 7 → j ≠ 8 → w8 j = w j := fun j hj h1 h2 => by
          rw [ew, pk_un h2, pk_un h1, pk_un (by omega), pk_un (by omega), pk_un (by omega), pk_un (by omega), pk_un (by omega), pk_un (by omega)]
        have cF : ∀ j, j < n → ∀ f, f < 6 → zF w8 j f = zF w j f := fun j hj f hf => clo _ (by omega) (by omega) (by omega)
        have f0 : zF w8 n 0 = w 8 := by show w8 (78 + 6 * n) = _; rw [ew, pk_un (by omega), pk_un (by omega), pk_un (by omega), pk_un (by omega), pk_un (by omega), pk_un (by omega), pk_un (by omega), pk_us]
        have f1 : zF w8 n 1 = wr := by show w8 (78 + 6 * n + 1) = _; rw [ew, pk_un (by omega), pk_un (by omega), pk_un (by omega), pk_un (by omega), pk_un (by omega), pk_un (by omega), pk_us]
        have f2 : zF w8 n 2 = nI dd := by show w8 (78 + 6 * n + 2) = _; rw [ew, pk_un (by omega), pk_un (by omega), pk_un (by omega), pk_un (by omega), pk_un (by omega), pk_us]
        have f3 : zF w8 n 3 = nI q := by show w8 (78 + 6 * n + 3) = _; rw [ew, pk_un (by omega), pk_un (by omega), pk_un (by omega), pk_un (by omega), pk_us]
        have f4 : zF w8 n 4 = w 6 := by show w8 (78 + 6 * n + 4) = _; rw [ew, pk_un (by omega), pk_un (by omega), pk_un (by omega), pk_us]
        have f5 : zF w8 n 5 = 0 := by show w8 (78 + 6 * n + 5) = _; rw [ew, pk_un (by omega), pk_un (by omega), pk_us]
        have hwr01 : wr = 0 ∨ wr = 1 := by
          obtain ⟨j, rfl, -, h⟩ := z_ix (na := 0) (nb := 1) rfl rfl (by decide) (by decide) hwr
          rcases (show j = 0 ∨ j = 1 by omega) with rfl | rfl
          · exact Or.inl rfl
          · exact Or.inr rfl
        have eFk : aF (kAcc A wr (nI dd) (nI q)) = kCount (upd (aF A) 5 (aF A 5 + 1)) wr 1 := (if_pos hs).trans (by rw [hhost, hfree]; rfl)
        have ePk : aP (kAcc A wr (nI dd) (nI q)) = va_up (aP A) i (kSlip (aP A i) (aF A 5) wr (nI dd) (nI q) (aF A 6)) := (if_pos hs).trans (by rw [hhost, hfree]; rfl)
        have hni : ∀ k, k < n → σ k ≠ i := fun k hk e => (rPl_w hP hk) (by rw [e]; exact hi0)
        have h8n : w8 8 = nI (N + 1) := by rw [c8, h8]; exact nI_1 N
        have hlt8 : w 8 < w8 8 := by rw [h8, h8n]; exact nI_lt (by omega) (by omega)
        have hmc : ∀ x, mMany w8 (n + 1) x = mMany w n x + (if wr = x then 1 else 0) := fun x => by
          unfold mMany
          show zCnt (fun k => decide (zF w8 k 1 = x)) n + (if decide (zF w8 n 1 = x) = true then 1 else 0) = _
          rw [zCnt_congr (q := fun k => decide (zF w k 1 = x)) (fun j hj => by rw [cF j hj 1 (by decide)]), f1]
          congr 1
          by_cases h : wr = x
          · rw [if_pos h, if_pos (decide_eq_true h)]
          · rw [if_neg h, if_neg (fun z => h (of_decide_eq_true z))]
        refine ⟨?_, n + 1, N + 1, ?_, by omega⟩
        · rw [hr]
          exact (if_pos hs).trans (by rw [hhost, hfree]; exact e5)
        · rw [em, ← ew]
          show Rep (kAcc A wr (nI dd) (nI q)) w8 (n + 1) (N + 1) t
          refine ⟨fun j => if j = n then i else σ j, ar, B, ?_, ?_, ?_, ?_, ?_, ?_, kAcc_wf hwf⟩
          · rw [ePk]
            refine ⟨fun k hk => ?_, fun a ha b hb e => ?_, fun i' hi' => ?_, fun k hk f hf => ?_⟩
            · show (if k = n then i else σ k) < 30
              by_cases h : k = n
              · rw [if_pos h]; exact hi
              · rw [if_neg h]; exact hP.1 k (by omega)
            · have e : (if a = n then i else σ a) = (if b = n then i else σ b) := e
              by_cases h1 : a = n
              · by_cases h2 : b = n
                · omega
                · rw [if_pos h1, if_neg h2] at e; exact absurd e.symm (hni b (by omega))
              · by_cases h2 : b = n
                · rw [if_neg h1, if_pos h2] at e; exact absurd e (hni a (by omega))
                · rw [if_neg h1, if_neg h2] at e; exact hP.2.1 a (by omega) b (by omega) e
            · by_cases h : i' = i
              · subst h
                rw [zUp_s]
                exact ⟨fun _ => ⟨n, by omega, if_pos rfl⟩, fun _ => show ¬ ((1 : Int32) = 0) by decide⟩
              · rw [zUp_n _ _ h]
                refine (hP.2.2.1 i' hi').trans ⟨fun ⟨k, hk, z⟩ => ⟨k, by omega, (if_neg (by omega)).trans z⟩, fun ⟨k, hk, z⟩ => ?_⟩
                have z : (if k = n then i else σ k) = i' := z
                by_cases h1 : k = n
                · rw [if_pos h1] at z; exact absurd z.symm h
                · rw [if_neg h1] at z; exact ⟨k, by omega, z⟩
            · show va_up (aP A) i _ (if k = n then i else σ k) (f + 2) = _
              by_cases h : k = n
              · subst h
                rw [if_pos rfl, zUp_s]
                rcases (show f = 0 ∨ f = 1 ∨ f = 2 ∨ f = 3 ∨ f = 4 ∨ f = 5 by omega) with rfl | rfl | rfl | rfl | rfl | rfl
                · rw [f0]; exact e5
                · rw [f1]; rfl
                · rw [f2]; rfl
                · rw [f3]; rfl
                · rw [f4]; exact e6
                · rw [f5]; rfl
              · rw [if_neg h, zUp_n _ _ (hni k (by omega)), cF k (by omega) f hf]
                exact hP.2.2.2 k (by omega) f hf
          · show rW w8 (n + 1) (N + 1) t ar B (aS A)
            refine ⟨c7, by omega, h8n, by omega, hN1, ?_, by omega, ?_, har, ?_, ?_, hBS, ?_, ?_, ?_, ?_⟩
            · rw [clo 6 (by omega) (by decide) (by decide)]; exact h6
            · rw [clo 9 (by omega) (by decide) (by decide)]; exact h9
            · rw [clo 10 (by omega) (by decide) (by decide)]; exact h10
            · rw [clo 13 (by omega) (by decide) (by decide)]; exact h13
            · rw [clo 17 (by omega) (by decide) (by decide)]; exact h17
            · rw [clo 16 (by omega) (by decide) (by decide)]; exact hso
            · rw [clo 4 (by omega) (by decide) (by decide)]; exact ha4
            · rw [clo 5 (by omega) (by decide) (by decide)]; exact hb5
          · intro k hk
            rw [clo 6 (by omega) (by decide) (by decide)]
            by_cases h : k = n
            · subst h
              rw [f0, f1, f2, f3, f4]
              exact ⟨hwr01, ⟨dd, q, rfl, rfl, hq1, hq9, hdm⟩, hlt8, zi_le.mpr (Int.le_refl _)⟩
            · have hk' : k < n := by omega
              rw [cF k hk' 0 (by decide), cF k hk' 1 (by decide), cF k hk' 2 (by decide), cF k hk' 3 (by decide), cF k hk' 4 (by decide)]
              have h1 := hI k hk'
              refine ⟨h1.1, h1.2.1, ?_, h1.2.2.2⟩
              have h2 := h1.2.2.1
              rw [zi_lt] at h2 hlt8 ⊢
              omega
          · intro a b hab hb
            have ha' : a < n := by omega
            rw [cF a ha' 0 (by decide), cF a ha' 4 (by decide)]
            by_cases h : b = n
            · subst h
              rw [f0, f4]
              exact ⟨(hI a ha').2.2.1, (hI a ha').2.2.2⟩
            · rw [cF b (by omega) 0 (by decide), cF b (by omega) 4 (by decide)]
              exact hO a b hab (by omega)
          · rw [rE, eFk]
            have kc : ∀ j, j ≠ 3 → j ≠ 4 → kCount (upd (aF A) 5 (aF A 5 + 1)) wr 1 j = upd (aF A) 5 (aF A 5 + 1) j := fun j h1 h2 => by
              unfold kCount
              split
              · exact pk_un h2
              · exact pk_un h1
            refine ⟨fun j hj => ?_, ?_, ?_, ?_, ?_, ?_, ?_, ?_, ?_, fun hb => ?_, ?_, ?_⟩
            · rw [clo j (by omega) (by omega) (by omega)]; exact hT j hj
            · rw [kc 6 (by decide) (by decide), clo 6 (by omega) (by decide) (by decide)]; exact e6
            · rw [kc 5 (by decide) (by decide), c8, pk_us, e5]
            · rw [kc 7 (by decide) (by decide), clo 9 (by omega) (by decide) (by decide)]; exact e7
            · rw [kc 8 (by decide) (by decide), clo 11 (by omega) (by decide) (by decide)]; exact e8
            · rw [kc 9 (by decide) (by decide), clo 12 (by omega) (by decide) (by decide)]; exact e9
            · rw [kc 10 (by decide) (by decide), clo 13 (by omega) (by decide) (by decide)]; exact e10
            · rw [kc 12 (by decide) (by decide), clo 14 (by omega) (by decide) (by decide)]; exact e12
            · rw [kc 13 (by decide) (by decide), clo 15 (by omega) (by decide) (by decide)]; exact e13
            · rw [kc 11 (by decide) (by decide), clo 16 (by omega) (by decide) (by decide)]; exact e11 hb
            · rw [hmc 0]
              unfold kCount
              rcases hwr01 with e | e
              · rw [e, if_neg (by decide), pk_us, if_pos rfl]
                exact (congrArg (fun z => z + 1) e3).trans (nI_1 _)
              · rw [e, if_pos rfl, if_neg (by decide)]
                exact e3
            · rw [hmc 1]
              unfold kCount
              rcases hwr01 with e | e
              · rw [e, if_neg (by decide), if_neg (by decide)]
                exact e4
              · rw [e, if_pos rfl, pk_us, if_pos rfl]
                exact (congrArg (fun z => z + 1) e4).trans (nI_1 _)
          · intro j hj hjS
            rw [clo (18 + 3 * j + 0) (by omega) (by omega) (by omega), clo (18 + 3 * j + 1) (by omega) (by omega) (by omega), clo (18 + 3 * j + 2) (by omega) (by omega) (by omega)]
            exact hL j hj hjS
    · rw [hq] at hhost
      have hhost : kHost (aP A) wr (nI dd) (nI q) 30 = some (σ k) := hhost
      obtain ⟨hk, hc, -⟩ := zFirst_lt hq
      have hc : zF w k 1 = wr ∧ mLast w k = nI dd - 1 ∧ zF w k 3 + nI q ≤ 9 := of_decide_eq_true hc
      obtain ⟨w2, ew⟩ : ∃ z, z = upd (upd w (78 + 6 * k + 3) (w (78 + 6 * k + 3) + nI q)) (78 + 6 * k + 5) (w (78 + 6 * k + 5) + 1) := ⟨_, rfl⟩
      have em : mComes w n wr (nI dd) (nI q) = (zF w2 k 0, w2) := by
        unfold mComes
        rw [if_pos hs, hq]
        show (zF (upd (upd w (78 + 6 * k + 3) (w (78 + 6 * k + 3) + nI q)) (78 + 6 * k + 5) (upd w (78 + 6 * k + 3) (w (78 + 6 * k + 3) + nI q) (78 + 6 * k + 5) + 1)) k 0, upd (upd w (78 + 6 * k + 3) (w (78 + 6 * k + 3) + nI q)) (78 + 6 * k + 5) (upd w (78 + 6 * k + 3) (w (78 + 6 * k + 3) + nI q) (78 + 6 * k + 5) + 1)) = _
        rw [pk_un (f := w) (show 78 + 6 * k + 5 ≠ 78 + 6 * k + 3 by omega), ← ew]
      have clo : ∀ j, j ≠ 78 + 6 * k + 3 → j ≠ 78 + 6 * k + 5 → w2 j = w j := fun j h1 h2 => by rw [ew, pk_un h2, pk_un h1]
      have c3 : zF w2 k 3 = zF w k 3 + nI q := by show w2 (78 + 6 * k + 3) = _; rw [ew, pk_un (by omega), pk_us]; rfl
      have c5 : zF w2 k 5 = zF w k 5 + 1 := by show w2 (78 + 6 * k + 5) = _; rw [ew, pk_us]; rfl
      have cF : ∀ j f, f < 6 → (j ≠ k ∨ (f ≠ 3 ∧ f ≠ 5)) → zF w2 j f = zF w j f := fun j f hf h => clo _ (by omega) (by omega)
      have eFk : aF (kAcc A wr (nI dd) (nI q)) = aF A := (if_pos hs).trans (by rw [hhost]; rfl)
      have ePk : aP (kAcc A wr (nI dd) (nI q)) = va_up (aP A) (σ k) (upd (upd (aP A (σ k)) 5 (aP A (σ k) 5 + nI q)) 7 (aP A (σ k) 7 + 1)) := (if_pos hs).trans (by rw [hhost]; rfl)
      obtain ⟨p0, p1, p2, p3, p4, p5⟩ := rPl_f hP hk
      have hmc : ∀ x, mMany w2 n x = mMany w n x := fun x => zCnt_congr (fun j hj => by rw [cF j 1 (by decide) (Or.inr ⟨by decide, by decide⟩)])
      rw [em]
      refine ⟨?_, n, N, (show Rep (kAcc A wr (nI dd) (nI q)) w2 n N t from ⟨σ, ar, B, ?_, ?_, ?_, ?_, ?_, ?_, kAcc_wf hwf⟩), by omega⟩
      · show kAccR (aF A) (aP A) wr (nI dd) (nI q) = zF w2 k 0
        rw [cF k 0 (by decide) (Or.inr ⟨by decide, by decide⟩)]
        exact (if_pos hs).trans (by rw [hhost]; exact p0)
      · rw [ePk]
        refine ⟨hP.1, hP.2.1, fun i hi => ?_, fun j hj f hf => ?_⟩
        · refine Iff.trans ?_ (hP.2.2.1 i hi)
          by_cases h : i = σ k
          · subst h; rw [zUp_s]; exact Iff.rfl
          · rw [zUp_n _ _ h]
        · by_cases h : j = k
          · subst h
            rw [zUp_s]
            rcases (show f = 0 ∨ f = 1 ∨ f = 2 ∨ f = 3 ∨ f = 4 ∨ f = 5 by omega) with rfl | rfl | rfl | rfl | rfl | rfl
            · rw [cF j 0 (by decide) (Or.inr ⟨by decide, by decide⟩)]; exact p0
            · rw [cF j 1 (by decide) (Or.inr ⟨by decide, by decide⟩)]; exact p1
            · rw [cF j 2 (by decide) (Or.inr ⟨by decide, by decide⟩)]; exact p2
            · rw [c3, ← p3]; rfl
            · rw [cF j 4 (by decide) (Or.inr ⟨by decide, by decide⟩)]; exact p4
            · rw [c5, ← p5]; rfl
          · rw [zUp_n _ _ (fun e => h (hP.2.1 j hj k hk e)), cF j f hf (Or.inl h)]
            exact hP.2.2.2 j hj f hf
      · show rW w2 n N t ar B (aS A)
        have : ∀ j, j < 78 → w2 j = w j := fun j hj => clo j (by omega) (by omega)
        unfold rW
        rw [this 7 (by decide), this 8 (by decide), this 6 (by decide), this 9 (by decide), this 10 (by decide), this 13 (by decide), this 17 (by decide), this 16 (by decide), this 4 (by decide), this 5 (by decide)]
        exact hW
      · intro j hj
        rw [cF j 0 (by decide) (Or.inr ⟨by decide, by decide⟩), cF j 1 (by decide) (Or.inr ⟨by decide, by decide⟩), cF j 2 (by decide) (Or.inr ⟨by decide, by decide⟩), cF j 4 (by decide) (Or.inr ⟨by decide, by decide⟩), clo 8 (by omega) (by omega), clo 6 (by omega) (by omega)]
        have h1 := hI j hj
        refine ⟨h1.1, ?_, h1.2.2.1, h1.2.2.2⟩
        by_cases h : j = k
        · subst h
          obtain ⟨d', m', hd', hm', hm1, hm9, hdm'⟩ := h1.2.1
          rw [c3, hm', nI_add]
          refine ⟨d', m' + q, hd', rfl, by omega, ?_, ?_⟩
          · have := hc.2.2
            rw [hm', nI_add] at this
            exact (nI_leI (b := 9) (by omega) (by decide)).mp this
          · have h2 := hc.2.1
            unfold mLast at h2
            rw [hd', hm', nI_add] at h2
            have h3 : nI (d' + m') = nI dd := by
              have := congrArg (fun z => z + 1) h2
              simp only [Int32.sub_add_cancel] at this
              exact this
            have h4 := (nI_eq (by omega) (by omega)).mp h3
            omega
        · rw [cF j 3 (by decide) (Or.inl h)]; exact h1.2.1
      · intro a b hab hb
        rw [cF a 0 (by decide) (Or.inr ⟨by decide, by decide⟩), cF b 0 (by decide) (Or.inr ⟨by decide, by decide⟩), cF a 4 (by decide) (Or.inr ⟨by decide, by decide⟩), cF b 4 (by decide) (Or.inr ⟨by decide, by decide⟩)]
        exact hO a b hab hb
      · rw [rE, eFk, hmc 0, hmc 1]
        have : ∀ j, j < 78 → w2 j = w j := fun j hj => clo j (by omega) (by omega)
        rw [this 6 (by decide), this 8 (by decide), this 9 (by decide), this 11 (by decide), this 12 (by decide), this 13 (by decide), this 14 (by decide), this 15 (by decide), this 16 (by decide)]
        exact ⟨fun j hj => (hE.1 j hj).trans (this j (by omega)).symm, hE.2⟩
      · intro j hj hjS
        rw [clo (18 + 3 * j + 0) (by omega) (by omega), clo (18 + 3 * j + 1) (by omega) (by omega), clo (18 + 3 * j + 2) (by omega) (by omega)]
        exact hL j hj hjS
  · have e1 : mComes w n wr d mm = (-2, w) := if_neg hs
    have e2 : kAcc A wr d mm = A := by
      show (kAccF (aF A) (aP A) wr d mm, aT A, aS A, aU A, aV A, aX A, kAccP (aF A) (aP A) wr d mm) = A
      rw [show kAccF (aF A) (aP A) wr d mm = aF A from if_neg hs, show kAccP (aF A) (aP A) wr d mm = aP A from if_neg hs]
    rw [e1, e2]
    exact ⟨if_neg hs, n, N, hR0, by omega⟩
