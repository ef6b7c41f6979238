/-- an order that was read is carried out: class and model -/
theorem rOb {A : zA} {w : Nat → Int32} {n N t : Nat} (hR : Rep A w n N t) (ht9 : t ≤ 99999) (hN1 : N + 1 < 2 ^ 30) (tk : Bool × Nat × Int32 × Int32 × Int32) : kObR A tk.2.2.1 tk.2.2.2.1 tk.2.2.2.2 = (mDo w n tk).1 ∧ ∃ n' N' t', Rep (kObA A tk.2.2.1 tk.2.2.2.1 tk.2.2.2.2) (mDo w n tk).2 n' N' t' ∧ t' ≤ 99999 ∧ N' ≤ N + 1 := by
  unfold kObR kObA mDo
  by_cases h1 : tk.2.2.1 = 114
  · rw [if_pos h1, if_pos h1, if_pos (Or.inl h1), if_neg (show ¬ tk.2.2.1 = 119 by rw [h1]; decide)]
    obtain ⟨e, n', N', hR', hN'⟩ := rAcc hR ht9 hN1 0 tk.2.2.2.1 (1 + tk.2.2.2.2)
    exact ⟨e, n', N', t, hR', ht9, hN'⟩
  · by_cases h2 : tk.2.2.1 = 115
    · rw [if_neg (show ¬ (tk.2.2.1 = 114 ∨ tk.2.2.1 = 119) by rw [h2]; decide), if_neg h1, if_neg h1, if_pos h2, if_pos h2, if_pos h2]
      obtain ⟨e, n', t', hR', ht'⟩ := rSrv hR ht9 tk.2.2.2.1
      exact ⟨e, n', N, t', hR', ht', by omega⟩
    · by_cases h3 : tk.2.2.1 = 119
      · rw [if_pos (Or.inr h3), if_neg h1, if_neg h1, if_neg h2, if_neg h2, if_pos h3, if_pos h3, if_pos h3]
        obtain ⟨e, n', N', hR', hN'⟩ := rAcc hR ht9 hN1 1 tk.2.2.2.1 (1 + tk.2.2.2.2)
        exact ⟨e, n', N', t, hR', ht9, hN'⟩
      · rw [if_neg (show ¬ (tk.2.2.1 = 114 ∨ tk.2.2.1 = 119) from fun z => z.elim h1 h3), if_neg h1, if_neg h1, if_neg h2, if_neg h2, if_neg h2, if_neg h3, if_neg h3]
        obtain ⟨e, t', hR', ht'⟩ := rStand hR ht9 tk.2.2.2.1
        exact ⟨e, n, N, t', hR', ht', by omega⟩
theorem rCO (pd : Nat → Int32) (np : Nat) : ∀ (f g : Nat) (A B : zA) (w : Nat → Int32) (n N t a c : Nat), Rep A w n N t → t ≤ 99999 → N + f < 2 ^ 30 → np ≤ a + f → np ≤ a + g →
    kCOk pd np f A a ∧ (mCO pd np g (true, a, w, c)).2 = (kCO pd np f A B a).2.2 + c ∧ ∃ n' N' t', Rep (kCO pd np f A B a).1 (mCO pd np g (true, a, w, c)).1 n' N' t' ∧ t' ≤ 99999 ∧ N' ≤ N + f := by
  intro f
  induction f with
  | zero =>
    intro g A B w n N t a c hR ht hN hf hg
    have e : mCO pd np g (true, a, w, c) = (w, c) := mCO_stop pd np (s := (true, a, w, c)) (fun h => absurd (show a < np from h.2) (by omega)) g
    rw [e]
    exact ⟨trivial, (Nat.zero_add c).symm, n, N, t, hR, ht, by omega⟩
  | succ f ih =>
    intro g A B w n N t a c hR ht hN hf hg
    have hgood := rGood hR
    have hn : nOf w = n := by
      unfold nOf
      rw [(rRep_cells hR).1]
      exact nI_clamp (by have := (rRep_cells hR).2.1; omega)
    by_cases ha : a < np
    · obtain ⟨g, rfl⟩ : ∃ q, g = q + 1 := ⟨g - 1, by omega⟩
      have em : mCO pd np (g + 1) (true, a, w, c) = (if (mTok pd np a).1 = true ∧ 0 ≤ (mDo w (nOf w) (mTok pd np a)).1 then mCO pd np g (true, (mTok pd np a).2.1 + 1, (mDo w (nOf w) (mTok pd np a)).2, c + 1) else ((if (mTok pd np a).1 = true then (mDo w (nOf w) (mTok pd np a)).2 else w), c)) := if_pos ⟨rfl, ha⟩
      rw [hn] at em
      by_cases htk : (mTok pd np a).1 = true
      · obtain ⟨e1, n', N', t', hR', ht', hN'⟩ := rOb hR ht (by omega) (mTok pd np a)
        have hle := (mTok_le pd (n := np) (a := a) (by omega)).2.2 htk
        by_cases h0 : 0 ≤ kObR A (mTok pd np a).2.2.1 (mTok pd np a).2.2.2.1 (mTok pd np a).2.2.2.2
        · rw [if_pos ⟨htk, by rw [← e1]; exact h0⟩] at em
          obtain ⟨k1, k2, n2, N2, t2, k3, k4, k5⟩ := ih g (kObA A (mTok pd np a).2.2.1 (mTok pd np a).2.2.2.1 (mTok pd np a).2.2.2.2) (kObT A B (mTok pd np a).2.2.1 (mTok pd np a).2.2.2.1) (mDo w n (mTok pd np a)).2 n' N' t' ((mTok pd np a).2.1 + 1) (c + 1) hR' ht' (by omega) (by omega) (by omega)
          have ek : kCO pd np (f + 1) A B a = ((kCO pd np f (kObA A (mTok pd np a).2.2.1 (mTok pd np a).2.2.2.1 (mTok pd np a).2.2.2.2) (kObT A B (mTok pd np a).2.2.1 (mTok pd np a).2.2.2.1) ((mTok pd np a).2.1 + 1)).1, (kCO pd np f (kObA A (mTok pd np a).2.2.1 (mTok pd np a).2.2.2.1 (mTok pd np a).2.2.2.2) (kObT A B (mTok pd np a).2.2.1 (mTok pd np a).2.2.2.1) ((mTok pd np a).2.1 + 1)).2.1, (kCO pd np f (kObA A (mTok pd np a).2.2.1 (mTok pd np a).2.2.2.1 (mTok pd np a).2.2.2.2) (kObT A B (mTok pd np a).2.2.1 (mTok pd np a).2.2.2.1) ((mTok pd np a).2.1 + 1)).2.2 + 1) := (if_pos htk).trans (if_pos h0)
          rw [em, ek]
          refine ⟨⟨hgood, fun _ _ => k1⟩, ?_, n2, N2, t2, k3, k4, by omega⟩
          rw [k2]
          show _ + (c + 1) = _ + 1 + c
          omega
        · rw [if_neg (fun z => h0 (by rw [e1]; exact z.2)), if_pos htk] at em
          have ek : kCO pd np (f + 1) A B a = (kObA A (mTok pd np a).2.2.1 (mTok pd np a).2.2.2.1 (mTok pd np a).2.2.2.2, kObT A B (mTok pd np a).2.2.1 (mTok pd np a).2.2.2.1, 0) := (if_pos htk).trans (if_neg h0)
          rw [em, ek]
          exact ⟨⟨hgood, fun _ z => absurd z h0⟩, (Nat.zero_add c).symm, n', N', t', hR', ht', by omega⟩
      · rw [if_neg (fun z => htk z.1), if_neg htk] at em
        have ek : kCO pd np (f + 1) A B a = (A, B, 0) := if_neg htk
        rw [em, ek]
        exact ⟨⟨hgood, fun z => absurd z htk⟩, (Nat.zero_add c).symm, n, N, t, hR, ht, by omega⟩
    · have e : mCO pd np g (true, a, w, c) = (w, c) := mCO_stop pd np (s := (true, a, w, c)) (fun h => absurd (show a < np from h.2) ha) g
      have htk : ¬ (mTok pd np a).1 = true := fun z => ha (mTok_t z)
      have ek : kCO pd np (f + 1) A B a = (A, B, 0) := if_neg htk
      rw [e, ek]
      exact ⟨⟨hgood, fun z => absurd z htk⟩, (Nat.zero_add c).symm, n, N, t, hR, ht, by omega⟩
-- a state that stands between two calls
def Pub (A : zA) (w : Nat → Int32) (M : Nat) : Prop := ∃ n N t, Rep A w n N t ∧ t ≤ 99999 ∧ N ≤ M
theorem Pub.mono {A : zA} {w : Nat → Int32} {M M' : Nat} (h : Pub A w M) (hM : M ≤ M') : Pub A w M' := by
  obtain ⟨n, N, t, h1, h2, h3⟩ := h
  exact ⟨n, N, t, h1, h2, by omega⟩
theorem Pub.congr {A : zA} {w w' : Nat → Int32} {M : Nat} (h : Pub A w M) (hw : ∀ j, j < 258 → w j = w' j) : Pub A w' M := by
  obtain ⟨n, N, t, h1, h2, h3⟩ := h
  exact ⟨n, N, t, rCongr h1 hw, h2, h3⟩
def rT (Y : Nat → zA) (hp hk : Nat) (f1 f2 : Int32) (w pa sl sv : Nat → Int32) (M : Nat) : Prop :=
  Pub (Y 0) w M ∧ hp < 7 ∧ hk ≤ 6 ∧ (∀ i, i < hk → Pub (Y ((hp + 6 - i) % 7 + 2)) (fun j => pa (258 * (hk - 1 - i) + j)) M) ∧ ((f1 = 0 ∧ sv 0 = 0) ∨ (f1 = 1 ∧ sv 0 = 1 ∧ Pub (Y 9) (fun j => sl (258 * 0 + j)) M)) ∧ ((f2 = 0 ∧ sv 1 = 0) ∨ (f2 = 1 ∧ sv 1 = 1 ∧ Pub (Y 10) (fun j => sl (258 * 1 + j)) M)) ∧ (∀ j, j < 11 → zWfA (Y j))
theorem mRK_min {k : Nat} {r : Int32} (hk : k ≤ 6) : mRK k r = if 0 ≤ r then min (k + 1) 6 else k := by
  unfold mRK
  by_cases h : r < 0
  · rw [if_pos h, if_neg (z_lt' h)]
  · rw [if_neg h, if_pos (z_nlt h)]
    by_cases h6 : k = 6
    · rw [if_pos h6]; omega
    · rw [if_neg h6]; omega
/-- a change -/
theorem rT_step {Y Y' : Nat → zA} {hp hk : Nat} {f1 f2 : Int32} {w pa sl sv w' : Nat → Int32} {M M' : Nat} (r : Int32) (h : rT Y hp hk f1 f2 w pa sl sv M) (hM : M ≤ M') (h0 : Pub (Y' 0) w' M') (hh : Y' (hp + 2) = Y 0) (ho : ∀ j, 2 ≤ j → j < 11 → j ≠ hp + 2 → Y' j = Y j) (hwf : ∀ j, j < 11 → zWfA (Y' j)) : rT Y' (if 0 ≤ r then (hp + 1) % 7 else hp) (if 0 ≤ r then min (hk + 1) 6 else hk) f1 f2 w' (mRP pa w hk r) sl sv M' := by
  obtain ⟨a0, a1, a2, a3, a4, a5, a6⟩ := h
  have s9 : Y' 9 = Y 9 := ho 9 (by omega) (by omega) (by omega)
  have s10 : Y' 10 = Y 10 := ho 10 (by omega) (by omega) (by omega)
  refine ⟨h0, by split <;> omega, by split <;> omega, fun i hi => ?_, ?_, ?_, hwf⟩
  · by_cases hr : 0 ≤ r
    · rw [if_pos hr, if_pos hr]
      rw [if_pos hr] at hi
      have hrn : ¬ r < 0 := z_le' hr
      by_cases hi0 : i = 0
      · subst hi0
        rw [show ((hp + 1) % 7 + 6 - 0) % 7 + 2 = hp + 2 by omega, hh]
        refine (a0.mono hM).congr (fun j hj => ?_)
        show w j = mRP pa w hk r (258 * (min (hk + 1) 6 - 1 - 0) + j)
        unfold mRP
        rw [if_neg hrn]
        by_cases h6 : hk = 6
        · rw [if_pos (by rw [if_pos h6]; omega), if_pos h6]
          exact congrArg w (by omega)
        · rw [if_pos (by rw [if_neg h6]; omega), if_neg h6]
          exact congrArg w (by omega)
      · have hs : ((hp + 1) % 7 + 6 - i) % 7 = (hp + 6 - (i - 1)) % 7 := by omega
        rw [hs, ho _ (by omega) (by omega) (by omega)]
        refine ((a3 (i - 1) (by omega)).mono hM).congr (fun j hj => ?_)
        show pa (258 * (hk - 1 - (i - 1)) + j) = mRP pa w hk r (258 * (min (hk + 1) 6 - 1 - i) + j)
        unfold mRP
        rw [if_neg hrn]
        by_cases h6 : hk = 6
        · rw [if_neg (by rw [if_pos h6]; omega), if_pos ⟨h6, by omega⟩]
          exact congrArg pa (by omega)
        · rw [if_neg (by rw [if_neg h6]; omega), if_neg (fun z => h6 z.1)]
          exact congrArg pa (by omega)
    · rw [if_neg hr, if_neg hr]
      rw [if_neg hr] at hi
      have hrn : r < 0 := z_nle hr
      have e : mRP pa w hk r = pa := if_pos hrn
      rw [e, ho _ (by omega) (by omega) (by omega)]
      exact (a3 i hi).mono hM
  · rcases a4 with q | ⟨q1, q2, q3⟩
    · exact Or.inl q
    · exact Or.inr ⟨q1, q2, by rw [s9]; exact q3.mono hM⟩
  · rcases a5 with q | ⟨q1, q2, q3⟩
    · exact Or.inl q
    · exact Or.inr ⟨q1, q2, by rw [s10]; exact q3.mono hM⟩
theorem rT_undo {Y : Nat → zA} {hp hk : Nat} {f1 f2 : Int32} {w pa sl sv : Nat → Int32} {M : Nat} (h : rT Y hp hk f1 f2 w pa sl sv M) : rT (if hk = 0 then Y else va_up Y 0 (Y ((hp + 6) % 7 + 2))) (if hk = 0 then hp else (hp + 6) % 7) (if hk = 0 then hk else hk - 1) f1 f2 (if hk = 0 then w else fun j => pa (258 * (hk - 1) + j)) pa sl sv M := by
  by_cases h0 : hk = 0
  · rw [if_pos h0, if_pos h0, if_pos h0, if_pos h0]
    exact h
  · rw [if_neg h0, if_neg h0, if_neg h0, if_neg h0]
    obtain ⟨a0, a1, a2, a3, a4, a5, a6⟩ := h
    have e : ∀ j, j ≠ 0 → va_up Y 0 (Y ((hp + 6) % 7 + 2)) j = Y j := fun j hj => zUp_n _ _ hj
    refine ⟨?_, by omega, by omega, fun i hi => ?_, ?_, ?_, fun j hj => ?_⟩
    · rw [zUp_s]
      have := a3 0 (by omega)
      rw [Nat.sub_zero, Nat.sub_zero] at this
      exact this
    · rw [e _ (by omega), show ((hp + 6) % 7 + 6 - i) % 7 = (hp + 6 - (i + 1)) % 7 by omega, show hk - 1 - 1 - i = hk - 1 - (i + 1) by omega]
      exact a3 (i + 1) (by omega)
    · rw [e 9 (by decide)]; exact a4
    · rw [e 10 (by decide)]; exact a5
    · by_cases hj0 : j = 0
      · subst hj0; rw [zUp_s]; exact a6 _ (by omega)
      · rw [e j hj0]; exact a6 j hj
theorem mPn_8 (c : Int64) : mPn c ≤ 8 := by
  unfold mPn
  rcases h : zFirst (fun i => decide (i = 8 ∨ mLeft c i = 0 ∨ ¬ (33 ≤ mCode c i ∧ mCode c i ≤ 126))) 9 with _ | k
  · simp
  · have := (zFirst_lt h).1; simp; omega
/-- the pad: class and model -/
theorem rPut (pd : Nat → Int32) (a : Nat) (c : Int64) : kPutR a c = (mPut pd a c).1 ∧ (kPut pd a c).1 = (mPut pd a c).2.1 ∧ (kPut pd a c).2 = (mPut pd a c).2.2 := by
  unfold kPutR kPut mPut kSigns
  by_cases h1 : mPn c < 8 ∧ ¬ mLeft c (mPn c) = 0
  · rw [if_pos h1, if_pos h1, if_pos rfl, if_pos (Or.inl rfl)]
    exact ⟨rfl, rfl, rfl⟩
  · rw [if_neg h1, if_neg h1]
    by_cases h2 : mPn c = 0
    · rw [if_pos h2, if_pos h2, if_pos (Or.inl h2)]
      exact ⟨rfl, rfl, rfl⟩
    · rw [if_neg h2, if_neg h2]
      by_cases h3 : 80 < a + mPn c
      · rw [if_pos h3, if_pos h3, if_pos (Or.inr h3)]
        exact ⟨rfl, rfl, rfl⟩
      · rw [if_neg h3, if_neg h3, if_neg (fun z => z.elim h2 h3)]
        exact ⟨rfl, rfl, rfl⟩
theorem kPut_80 {pd : Nat → Int32} {a : Nat} {c : Int64} (h : a ≤ 80) : (kPut pd a c).2 ≤ 80 := by
  unfold kPut
  by_cases h1 : kSigns c = 0 ∨ 80 < a + kSigns c
  · rw [if_pos h1]; exact h
  · rw [if_neg h1]
    show a + kSigns c ≤ 80
    omega
