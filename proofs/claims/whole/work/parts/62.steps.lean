theorem rT.mono {Y : Nat → zA} {hp hk : Nat} {f1 f2 : Int32} {w pa sl sv : Nat → Int32} {M M' : Nat} (h : rT Y hp hk f1 f2 w pa sl sv M) (hM : M ≤ M') : rT Y hp hk f1 f2 w pa sl sv M' := by
  obtain ⟨a0, a1, a2, a3, a4, a5, a6⟩ := h
  refine ⟨a0.mono hM, a1, a2, fun i hi => (a3 i hi).mono hM, ?_, ?_, a6⟩
  · rcases a4 with q | ⟨q1, q2, q3⟩
    · exact Or.inl q
    · exact Or.inr ⟨q1, q2, q3.mono hM⟩
  · rcases a5 with q | ⟨q1, q2, q3⟩
    · exact Or.inl q
    · exact Or.inr ⟨q1, q2, q3.mono hM⟩
theorem Pub.wf {A : zA} {w : Nat → Int32} {M : Nat} (h : Pub A w M) : zWfA A := by
  obtain ⟨n, N, t, h1, -, -⟩ := h
  exact rWf h1
theorem rT_up3 {Y : Nat → zA} {hp hk : Nat} {f1 f2 : Int32} {w pa sl sv w' : Nat → Int32} {M M' : Nat} {T A' : zA} (r : Int32) (h : rT Y hp hk f1 f2 w pa sl sv M) (hM : M ≤ M') (h0 : Pub A' w' M') (hT : zWfA T) : rT (va_up (va_up (va_up Y (hp + 2) (Y 0)) 1 T) 0 A') (if 0 ≤ r then (hp + 1) % 7 else hp) (if 0 ≤ r then min (hk + 1) 6 else hk) f1 f2 w' (mRP pa w hk r) sl sv M' := by
  refine rT_step r h hM (by rw [zUp_s]; exact h0) ?_ (fun j h2 h11 hj => ?_) (fun j hj => ?_)
  · rw [zUp_n _ _ (by omega), zUp_n _ _ (by omega), zUp_s]
  · rw [zUp_n _ _ (by omega), zUp_n _ _ (by omega), zUp_n _ _ hj]
  · by_cases e0 : j = 0
    · rw [e0, zUp_s]; exact h0.wf
    · rw [zUp_n _ _ e0]
      by_cases e1 : j = 1
      · rw [e1, zUp_s]; exact hT
      · rw [zUp_n _ _ e1]
        by_cases e2 : j = hp + 2
        · rw [e2, zUp_s]; exact h.2.2.2.2.2.2 0 (by decide)
        · rw [zUp_n _ _ e2]; exact h.2.2.2.2.2.2 j hj
theorem rT_up {Y : Nat → zA} {hp hk : Nat} {f1 f2 : Int32} {w pa sl sv w' : Nat → Int32} {M M' : Nat} {A' : zA} (r : Int32) (h : rT Y hp hk f1 f2 w pa sl sv M) (hM : M ≤ M') (h0 : Pub A' w' M') : rT (va_up (va_up Y (hp + 2) (Y 0)) 0 A') (if 0 ≤ r then (hp + 1) % 7 else hp) (if 0 ≤ r then min (hk + 1) 6 else hk) f1 f2 w' (mRP pa w hk r) sl sv M' := by
  have e := rT_up3 (T := (va_up Y (hp + 2) (Y 0)) 1) r h hM h0 (by rw [zUp_n _ _ (by omega)]; exact h.2.2.2.2.2.2 1 (by decide))
  rw [zUp_id (va_up Y (hp + 2) (Y 0)) rfl] at e
  exact e
theorem rT_trial {Y : Nat → zA} {hp hk : Nat} {f1 f2 : Int32} {w pa sl sv : Nat → Int32} {M : Nat} {T : zA} (h : rT Y hp hk f1 f2 w pa sl sv M) (hT : zWfA T) : rT (va_up Y 1 T) hp hk f1 f2 w pa sl sv M := by
  obtain ⟨a0, a1, a2, a3, a4, a5, a6⟩ := h
  have e : ∀ j, j ≠ 1 → va_up Y 1 T j = Y j := fun j hj => zUp_n _ _ hj
  refine ⟨by rw [e 0 (by decide)]; exact a0, a1, a2, fun i hi => by rw [e _ (by omega)]; exact a3 i hi, by rw [e 9 (by decide)]; exact a4, by rw [e 10 (by decide)]; exact a5, fun j hj => ?_⟩
  by_cases h1 : j = 1
  · rw [h1, zUp_s]; exact hT
  · rw [e j h1]; exact a6 j hj
section LS
variable {Y : Nat → zA} {hp hk : Nat} {f1 f2 : Int32} {w pa sl sv : Nat → Int32} {M n N t : Nat}
theorem L_slip (h : rT Y hp hk f1 f2 w pa sl sv M) (hR : Rep (Y 0) w n N t) (ht : t ≤ 99999) (hN : N ≤ M) (hM : M + 80 < 2 ^ 30) (wr d mm : Int32) : kAccR (aF (Y 0)) (aP (Y 0)) wr d mm = (mComes w n wr d mm).1 ∧ rT (va_up (va_up Y (hp + 2) (Y 0)) 0 (kAcc (Y 0) wr d mm)) (if 0 ≤ kAccR (aF (Y 0)) (aP (Y 0)) wr d mm then (hp + 1) % 7 else hp) (if 0 ≤ kAccR (aF (Y 0)) (aP (Y 0)) wr d mm then min (hk + 1) 6 else hk) f1 f2 (mComes w n wr d mm).2 (mRP pa w hk (mComes w n wr d mm).1) sl sv (M + 80) ∧ mRK hk (mComes w n wr d mm).1 = (if 0 ≤ kAccR (aF (Y 0)) (aP (Y 0)) wr d mm then min (hk + 1) 6 else hk) := by
  obtain ⟨e, n', N', hR', hN'⟩ := rAcc hR ht (by omega) wr d mm
  rw [e]
  exact ⟨rfl, rT_up _ h (by omega) ⟨n', N', t, hR', ht, by omega⟩, mRK_min h.2.2.1⟩
theorem L_serve (h : rT Y hp hk f1 f2 w pa sl sv M) (hR : Rep (Y 0) w n N t) (ht : t ≤ 99999) (hN : N ≤ M) (mn : Int32) : kSrvR (Y 0) mn = (mServes w n mn).1 ∧ rT (va_up (va_up (va_up Y (hp + 2) (Y 0)) 1 (kSrvT (Y 0) (Y 1) mn)) 0 (kSrvA (Y 0) mn)) (if 0 ≤ kSrvR (Y 0) mn then (hp + 1) % 7 else hp) (if 0 ≤ kSrvR (Y 0) mn then min (hk + 1) 6 else hk) f1 f2 (mServes w n mn).2 (mRP pa w hk (mServes w n mn).1) sl sv (M + 80) ∧ mRK hk (mServes w n mn).1 = (if 0 ≤ kSrvR (Y 0) mn then min (hk + 1) 6 else hk) := by
  obtain ⟨e, n', t', hR', ht'⟩ := rSrv hR ht mn
  rw [e]
  exact ⟨rfl, rT_up3 _ h (by omega) ⟨n', N, t', hR', ht', by omega⟩ (kSrvT_wf (rWf hR) (h.2.2.2.2.2.2 1 (by decide))), mRK_min h.2.2.1⟩
theorem L_pass (h : rT Y hp hk f1 f2 w pa sl sv M) (hR : Rep (Y 0) w n N t) (ht : t ≤ 99999) (hN : N ≤ M) (mi : Int32) : kStandR (aF (Y 0)) mi = (mWaits w mi).1 ∧ rT (va_up (va_up Y (hp + 2) (Y 0)) 0 (kStand (Y 0) mi)) (if 0 ≤ kStandR (aF (Y 0)) mi then (hp + 1) % 7 else hp) (if 0 ≤ kStandR (aF (Y 0)) mi then min (hk + 1) 6 else hk) f1 f2 (mWaits w mi).2 (mRP pa w hk (mWaits w mi).1) sl sv (M + 80) ∧ mRK hk (mWaits w mi).1 = (if 0 ≤ kStandR (aF (Y 0)) mi then min (hk + 1) 6 else hk) := by
  obtain ⟨e, t', hR', ht'⟩ := rStand hR ht mi
  rw [e]
  exact ⟨rfl, rT_up _ h (by omega) ⟨n, N, t', hR', ht', by omega⟩, mRK_min h.2.2.1⟩
theorem L_tear (h : rT Y hp hk f1 f2 w pa sl sv M) (hR : Rep (Y 0) w n N t) (ht : t ≤ 99999) (hN : N ≤ M) (x : Int32) : kTearR (aF (Y 0)) (aP (Y 0)) x = (mTear w pa n hk x).1 ∧ rT (va_up (va_up Y (hp + 2) (Y 0)) 0 (kTear (Y 0) x)) (if 0 ≤ kTearR (aF (Y 0)) (aP (Y 0)) x then (hp + 1) % 7 else hp) (if 0 ≤ kTearR (aF (Y 0)) (aP (Y 0)) x then min (hk + 1) 6 else hk) f1 f2 (mTear w pa n hk x).2.1 (mTear w pa n hk x).2.2.1 sl sv (M + 80) ∧ (mTear w pa n hk x).2.2.2 = (if 0 ≤ kTearR (aF (Y 0)) (aP (Y 0)) x then min (hk + 1) 6 else hk) := by
  rcases rTear hR x with ⟨e1, e2, e3⟩ | ⟨k, e1, hk1, e2, hR'⟩
  · have em : mTear w pa n hk x = (-1, w, mRP pa w hk (-1), mRK hk (-1)) := by unfold mTear; rw [e1]; rfl
    rw [em, e2, e3]
    exact ⟨rfl, rT_up (-1) h (by omega) (h.1.mono (by omega)), mRK_min (r := -1) h.2.2.1⟩
  · have em : mTear w pa n hk x = (w 6 - zF w k 4, mDrop w n k, mRP pa w hk (w 6 - zF w k 4), mRK hk (w 6 - zF w k 4)) := by unfold mTear; rw [e1]
    rw [em, e2]
    exact ⟨rfl, rT_up _ h (by omega) ⟨n - 1, N, t, hR', ht, by omega⟩, mRK_min h.2.2.1⟩
theorem L_set (h : rT Y hp hk f1 f2 w pa sl sv M) (hR : Rep (Y 0) w n N t) (ht : t ≤ 99999) (hN : N ≤ M) (x v : Int32) : kAdjR (aT (Y 0)) x v = (mSet w pa hk x v).1 ∧ rT (adY Y hp x v) (if 0 ≤ kAdjR (aT (Y 0)) x v then (hp + 1) % 7 else hp) (if 0 ≤ kAdjR (aT (Y 0)) x v then min (hk + 1) 6 else hk) f1 f2 (mSet w pa hk x v).2.1 (mSet w pa hk x v).2.2.1 sl sv (M + 80) ∧ (mSet w pa hk x v).2.2.2 = (if 0 ≤ kAdjR (aT (Y 0)) x v then min (hk + 1) 6 else hk) := by
  unfold adY
  rcases rAdj hR x v with ⟨e1, e2, e3⟩ | ⟨e1, e2, hR'⟩
  · have em : mSet w pa hk x v = (-2, w, mRP pa w hk (-2), mRK hk (-2)) := (if_neg e1).trans rfl
    rw [em, e2, e3]
    exact ⟨rfl, rT_up (-2) h (by omega) (h.1.mono (by omega)), mRK_min (r := -2) h.2.2.1⟩
  · have em : mSet w pa hk x v = (w x.toNatClampNeg, upd w x.toNatClampNeg v, mRP pa w hk (w x.toNatClampNeg), mRK hk (w x.toNatClampNeg)) := if_pos e1
    rw [em, e2]
    exact ⟨rfl, rT_up _ h (by omega) ⟨n, N, t, hR', ht, by omega⟩, mRK_min h.2.2.1⟩
theorem kCO_wf (pd : Nat → Int32) (np : Nat) : ∀ (f : Nat) (A B : zA) (a : Nat), zWfA A → zWfA B → zWfA (kCO pd np f A B a).1 ∧ zWfA (kCO pd np f A B a).2.1
  | 0, _, _, _, h, h2 => ⟨h, h2⟩
  | f + 1, A, B, a, h, h2 => by
    unfold kCO
    split
    · split
      · exact kCO_wf pd np f _ _ _ (kObA_wf h) (kObT_wf h h2)
      · exact ⟨kObA_wf h, kObT_wf h h2⟩
    · exact ⟨h, h2⟩
theorem L_carry (h : rT Y hp hk f1 f2 w pa sl sv M) (hR : Rep (Y 0) w n N t) (ht : t ≤ 99999) (hN : N ≤ M) (hM : M + 80 < 2 ^ 30) (pd : Nat → Int32) (np : Nat) (h80 : np ≤ 80) : ((mWell pd np).1 = true → kCOk pd np 80 (Y 0) 0) ∧ coR pd np (Y 0) (Y 1) = (if (mWell pd np).1 = true then nI (mCO pd np (np + 2) (true, 0, w, 0)).2 else -3) ∧ rT (coY pd np Y hp) (if 0 ≤ coR pd np (Y 0) (Y 1) then (hp + 1) % 7 else hp) (if 0 ≤ coR pd np (Y 0) (Y 1) then min (hk + 1) 6 else hk) f1 f2 (if (mWell pd np).1 = true then (mCO pd np (np + 2) (true, 0, w, 0)).1 else w) (if (mWell pd np).1 = true then mRP pa w hk (nI (mCO pd np (np + 2) (true, 0, w, 0)).2) else pa) sl sv (M + 80) ∧ (if (mWell pd np).1 = true then nI (mRK hk (nI (mCO pd np (np + 2) (true, 0, w, 0)).2)) else nI hk) = nI (if 0 ≤ coR pd np (Y 0) (Y 1) then min (hk + 1) 6 else hk) := by
  obtain ⟨c1, c2, n', N', t', hR', ht', hN'⟩ := rCO pd np 80 (np + 2) (Y 0) (Y 1) w n N t 0 0 hR ht (by omega) (by omega) (by omega)
  have hwf := kCO_wf pd np 80 (Y 0) (Y 1) 0 (rWf hR) (h.2.2.2.2.2.2 1 (by decide))
  rw [Nat.add_zero] at c2
  unfold coR coY
  by_cases hw : (mWell pd np).1 = true
  · rw [if_pos hw, if_pos hw, if_pos hw, if_pos hw, if_pos hw, if_pos hw, c2]
    exact ⟨fun _ => c1, rfl, rT_up3 _ h (by omega) ⟨n', N', t', hR', ht', by omega⟩ hwf.2, congrArg nI (mRK_min h.2.2.1)⟩
  · rw [if_neg hw, if_neg hw, if_neg hw, if_neg hw, if_neg hw, if_neg hw, if_neg (show ¬ (0 : Int32) ≤ -3 by decide), if_neg (show ¬ (0 : Int32) ≤ -3 by decide)]
    exact ⟨fun z => absurd z hw, rfl, h.mono (by omega), rfl⟩
theorem L_undo (h : rT Y hp hk f1 f2 w pa sl sv M) : (if hk = 0 then nI (hk - 1) else nI (hk - 1)) = nI (if hk = 0 then hk else hk - 1) := by
  by_cases h0 : hk = 0
  · rw [if_pos h0, if_pos h0, h0]
  · rw [if_neg h0, if_neg h0]
theorem z_slq (x : Int32) : (0 ≤ x ∧ x ≤ 1) ↔ (x = 0 ∨ x = 1) := (z_wr x).symm
theorem L_save (h : rT Y hp hk f1 f2 w pa sl sv M) (hR : Rep (Y 0) w n N t) (x : Int32) : svR (Y 0) x = (if 0 ≤ x ∧ x ≤ 1 then w 7 else -2) ∧ rT (svY Y x) hp hk (svA f1 x) (svB f2 x) w pa (mSaveSl w sl x) (mSaveSv sv x) M := by
  have hs : aF (Y 0) 3 + aF (Y 0) 4 = w 7 := (rRep_sum hR).trans (rRep_cells hR).1.symm
  obtain ⟨a0, a1, a2, a3, a4, a5, a6⟩ := h
  by_cases h0 : x = 0
  · subst h0
    have e : ∀ j, j ≠ 9 → va_up Y 9 (Y 0) j = Y j := fun j hj => zUp_n _ _ hj
    refine ⟨hs, ?_, a1, a2, fun i hi => ?_, Or.inr ⟨rfl, rfl, ?_⟩, ?_, fun j hj => ?_⟩
    · show Pub (va_up Y 9 (Y 0) 0) w M
      rw [e 0 (by decide)]; exact a0
    · show Pub (va_up Y 9 (Y 0) _) _ M
      rw [e _ (by omega)]; exact a3 i hi
    · show Pub (va_up Y 9 (Y 0) 9) (fun j => if 258 * 0 ≤ 258 * 0 + j ∧ 258 * 0 + j < 258 * 0 + 258 then w (258 * 0 + j - 258 * 0) else sl (258 * 0 + j)) M
      rw [zUp_s]
      exact a0.congr (fun j hj => by rw [if_pos ⟨by omega, by omega⟩]; exact congrArg w (by omega))
    · show (f2 = 0 ∧ sv 1 = 0) ∨ (f2 = 1 ∧ sv 1 = 1 ∧ Pub (va_up Y 9 (Y 0) 10) (fun j => if 258 * 0 ≤ 258 * 1 + j ∧ 258 * 1 + j < 258 * 0 + 258 then w (258 * 1 + j - 258 * 0) else sl (258 * 1 + j)) M)
      rcases a5 with q | ⟨q1, q2, q3⟩
      · exact Or.inl q
      · refine Or.inr ⟨q1, q2, ?_⟩
        rw [e 10 (by decide)]
        exact q3.congr (fun j hj => by rw [if_neg (by omega)])
    · show zWfA (va_up Y 9 (Y 0) j)
      by_cases h9 : j = 9
      · rw [h9, zUp_s]; exact a6 0 (by decide)
      · rw [e j h9]; exact a6 j hj
  · by_cases h1 : x = 1
    · subst h1
      have e : ∀ j, j ≠ 10 → va_up Y 10 (Y 0) j = Y j := fun j hj => zUp_n _ _ hj
      refine ⟨hs, ?_, a1, a2, fun i hi => ?_, ?_, Or.inr ⟨rfl, rfl, ?_⟩, fun j hj => ?_⟩
      · show Pub (va_up Y 10 (Y 0) 0) w M
        rw [e 0 (by decide)]; exact a0
      · show Pub (va_up Y 10 (Y 0) _) _ M
        rw [e _ (by omega)]; exact a3 i hi
      · show (f1 = 0 ∧ sv 0 = 0) ∨ (f1 = 1 ∧ sv 0 = 1 ∧ Pub (va_up Y 10 (Y 0) 9) (fun j => if 258 * 1 ≤ 258 * 0 + j ∧ 258 * 0 + j < 258 * 1 + 258 then w (258 * 0 + j - 258 * 1) else sl (258 * 0 + j)) M)
        rcases a4 with q | ⟨q1, q2, q3⟩
        · exact Or.inl q
        · refine Or.inr ⟨q1, q2, ?_⟩
          rw [e 9 (by decide)]
          exact q3.congr (fun j hj => by rw [if_neg (by omega)])
      · show Pub (va_up Y 10 (Y 0) 10) (fun j => if 258 * 1 ≤ 258 * 1 + j ∧ 258 * 1 + j < 258 * 1 + 258 then w (258 * 1 + j - 258 * 1) else sl (258 * 1 + j)) M
        rw [zUp_s]
        exact a0.congr (fun j hj => by rw [if_pos ⟨by omega, by omega⟩]; exact congrArg w (by omega))
      · show zWfA (va_up Y 10 (Y 0) j)
        by_cases h9 : j = 10
        · rw [h9, zUp_s]; exact a6 0 (by decide)
        · rw [e j h9]; exact a6 j hj
    · have hn : ¬ (0 ≤ x ∧ x ≤ 1) := fun z => ((z_slq x).mp z).elim h0 h1
      rw [show svR (Y 0) x = -2 from (if_neg h0).trans (if_neg h1), show svY Y x = Y from (if_neg h0).trans (if_neg h1), show svA f1 x = f1 from (if_neg h0).trans (if_neg h1), show svB f2 x = f2 from (if_neg h0).trans (if_neg h1), if_neg hn, show mSaveSl w sl x = sl from if_neg hn, show mSaveSv sv x = sv from if_neg hn]
      exact ⟨rfl, a0, a1, a2, a3, a4, a5, a6⟩
theorem L_restore (h : rT Y hp hk f1 f2 w pa sl sv M) (x : Int32) : rsR Y f1 f2 x = (mRst w pa sl sv hk x).1 ∧ rT (rsY Y hp f1 f2 x) (if 0 ≤ rsR Y f1 f2 x then (hp + 1) % 7 else hp) (if 0 ≤ rsR Y f1 f2 x then min (hk + 1) 6 else hk) f1 f2 (mRst w pa sl sv hk x).2.1 (mRst w pa sl sv hk x).2.2.1 sl sv M ∧ (mRst w pa sl sv hk x).2.2.2 = (if 0 ≤ rsR Y f1 f2 x then min (hk + 1) 6 else hk) := by
  have key : ∀ (A : zA) (f : Int32) (q : Nat), (f = 0 ∧ sv q = 0) ∨ (f = 1 ∧ sv q = 1 ∧ Pub A (fun j => sl (258 * q + j)) M) → rsR Y f1 f2 x = rsQ A f → rsY Y hp f1 f2 x = rsP Y hp A f → mRst w pa sl sv hk x = (if sv q = 0 then (-5, w, pa, hk) else (sl (258 * q + 7), (fun j => sl (258 * q + j)), mRP pa w hk (sl (258 * q + 7)), mRK hk (sl (258 * q + 7)))) → rsR Y f1 f2 x = (mRst w pa sl sv hk x).1 ∧ rT (rsY Y hp f1 f2 x) (if 0 ≤ rsR Y f1 f2 x then (hp + 1) % 7 else hp) (if 0 ≤ rsR Y f1 f2 x then min (hk + 1) 6 else hk) f1 f2 (mRst w pa sl sv hk x).2.1 (mRst w pa sl sv hk x).2.2.1 sl sv M ∧ (mRst w pa sl sv hk x).2.2.2 = (if 0 ≤ rsR Y f1 f2 x then min (hk + 1) 6 else hk) := fun A f q hq e1 e2 e3 => by
    rcases hq with ⟨q1, q2⟩ | ⟨q1, q2, q3⟩
    · rw [e1, e2, e3, if_pos q2, show rsQ A f = -5 from if_pos q1, show rsP Y hp A f = Y from if_pos q1, if_neg (show ¬ (0 : Int32) ≤ -5 by decide), if_neg (show ¬ (0 : Int32) ≤ -5 by decide)]
      exact ⟨rfl, h, rfl⟩
    · have hf : ¬ f = 0 := by rw [q1]; decide
      have hv : ¬ sv q = 0 := by rw [q2]; decide
      obtain ⟨n, N, t, hR, ht, hN⟩ := q3
      have hs : aF A 3 + aF A 4 = sl (258 * q + 7) := (rRep_sum hR).trans (rRep_cells hR).1.symm
      rw [e1, e2, e3, if_neg hv, show rsQ A f = aF A 3 + aF A 4 from if_neg hf, show rsP Y hp A f = va_up (va_up Y (hp + 2) (Y 0)) 0 A from if_neg hf, hs]
      exact ⟨rfl, rT_up _ h (Nat.le_refl _) ⟨n, N, t, hR, ht, hN⟩, mRK_min h.2.2.1⟩
  by_cases h0 : x = 0
  · subst h0
    exact key (Y 9) f1 0 h.2.2.2.2.1 rfl rfl rfl
  · by_cases h1 : x = 1
    · subst h1
      exact key (Y 10) f2 1 h.2.2.2.2.2.1 rfl rfl rfl
    · have hn : ¬ (0 ≤ x ∧ x ≤ 1) := fun z => ((z_slq x).mp z).elim h0 h1
      rw [show rsR Y f1 f2 x = -2 from (if_neg h0).trans (if_neg h1), show rsY Y hp f1 f2 x = Y from (if_neg h0).trans (if_neg h1), show mRst w pa sl sv hk x = (-2, w, pa, hk) from if_neg hn, if_neg (show ¬ (0 : Int32) ≤ -2 by decide), if_neg (show ¬ (0 : Int32) ≤ -2 by decide)]
      exact ⟨rfl, h, rfl⟩
end LS
