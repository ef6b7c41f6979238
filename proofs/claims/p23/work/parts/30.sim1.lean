/-! the class's archive and the model's row are one: searches over places against searches over numbers -/
theorem zi_lt {a b : Int32} : a < b ↔ a.toInt < b.toInt := Int32.lt_iff_toInt_lt
theorem zi_le {a b : Int32} : a ≤ b ↔ a.toInt ≤ b.toInt := Int32.le_iff_toInt_le
theorem zi_eq {a b : Int32} : a = b ↔ a.toInt = b.toInt := Int32.toInt_inj.symm
theorem zFirst_at {p : Nat → Bool} {n g : Nat} (hg : g < n) (hp : p g = true) (hn : ∀ j, j < g → p j = false) : zFirst p n = some g := zFirst_hit (zFirst_none.mpr hn) hp hg
theorem zFirst_uniq {p : Nat → Bool} {n i : Nat} (hi : i < n) (hp : p i = true) (hu : ∀ j, j < n → p j = true → j = i) : zFirst p n = some i :=
  zFirst_at hi hp (fun j hj => by
    cases h : p j with
    | false => rfl
    | true => exact absurd (hu j (by omega) h) (by omega))
theorem zBest_min {can : Nat → Bool} {lt : Nat → Nat → Bool} {n i : Nat} (hi : i < n) (hc : can i = true) (hm : ∀ j, j < n → can j = true → j ≠ i → lt i j = true ∧ lt j i = false) : zBest can lt n = some i := by
  have low : ∀ m, m ≤ i → (zBest can lt m = none ∨ ∃ b, b < m ∧ can b = true ∧ zBest can lt m = some b) := fun m hmi => by
    rcases h : zBest can lt m with _ | b
    · exact Or.inl rfl
    · exact Or.inr ⟨b, (zBest_lt h).1, (zBest_lt h).2, rfl⟩
  have hat : zBest can lt (i + 1) = some i := by
    rcases low i (Nat.le_refl _) with h | ⟨b, h1, h2, h3⟩
    · exact zBest_first h hc
    · exact zBest_less h3 hc (hm b (by omega) h2 (by omega)).1
  have up : ∀ d, i + 1 + d ≤ n → zBest can lt (i + 1 + d) = some i := by
    intro d
    induction d with
    | zero => intro _; exact hat
    | succ d ih =>
      intro hd
      have h1 := ih (by omega)
      show zBest can lt (i + 1 + d + 1) = some i
      cases hcd : can (i + 1 + d) with
      | false => rw [zBest_skip hcd]; exact h1
      | true => exact zBest_keep h1 (hm (i + 1 + d) (by omega) hcd (by omega)).2
  have h := up (n - (i + 1)) (by omega)
  rw [show i + 1 + (n - (i + 1)) = n by omega] at h
  exact h
theorem zBest_key {can : Nat → Bool} {f : Nat → Int32} {n k : Nat} (h : zBest can (fun a b => decide (f a < f b)) n = some k) : ∀ j, j < n → can j = true → f k ≤ f j ∧ (j < k → f k < f j) := by
  induction n generalizing k with
  | zero => intro j hj; omega
  | succ n ih =>
    intro j hj hc
    cases hz : zBest can (fun a b => decide (f a < f b)) n with
    | none =>
      have hno := zBest_none.mp hz
      cases hcn : can n with
      | false => rw [zBest_skip hcn, hz] at h; cases h
      | true =>
        rw [zBest_first hz hcn] at h
        have e := Option.some.inj h
        have hjn : j = n := by
          rcases Nat.lt_or_ge j n with q | q
          · rw [hno j q] at hc; cases hc
          · omega
        subst hjn
        rw [← e]
        exact ⟨zi_le.mpr (Int.le_refl _), fun q => absurd q (Nat.lt_irrefl _)⟩
    | some b =>
      have hb := zBest_lt hz
      have ihb := ih hz
      cases hcn : can n with
      | false =>
        rw [zBest_skip hcn, hz] at h
        have e := Option.some.inj h
        have hjn : j < n := by
          rcases Nat.lt_or_ge j n with q | q
          · exact q
          · have : j = n := by omega
            rw [this, hcn] at hc; cases hc
        rw [← e]
        exact ihb j hjn hc
      | true =>
        by_cases hl : f n < f b
        · rw [zBest_less hz hcn (decide_eq_true hl)] at h
          have e := Option.some.inj h
          rw [← e]
          rcases Nat.lt_or_ge j n with q | q
          · have h1 := ihb j q hc
            have h2 : f n < f j := by
              have := h1.1
              rw [zi_le] at this; rw [zi_lt] at hl ⊢; omega
            exact ⟨by rw [zi_lt] at h2; rw [zi_le]; omega, fun _ => h2⟩
          · have : j = n := by omega
            subst this
            exact ⟨zi_le.mpr (Int.le_refl _), fun q => absurd q (Nat.lt_irrefl _)⟩
        · rw [zBest_keep hz (decide_eq_false hl)] at h
          have e := Option.some.inj h
          rw [← e]
          rcases Nat.lt_or_ge j n with q | q
          · exact ihb j q hc
          · have : j = n := by omega
            subst this
            refine ⟨?_, fun q => absurd q (by omega)⟩
            rw [zi_lt] at hl; rw [zi_le]; omega
theorem zCnt_congr {p q : Nat → Bool} {n : Nat} (h : ∀ j, j < n → p j = q j) : zCnt p n = zCnt q n := by
  induction n with
  | zero => rfl
  | succ n ih =>
    simp only [zCnt]
    rw [ih (fun j hj => h j (by omega)), h n (by omega)]
theorem zCnt_erase {q : Nat → Bool} {m i : Nat} (hi : i < m) : zCnt q m = zCnt (fun j => q j && !decide (j = i)) m + (if q i = true then 1 else 0) := by
  induction m with
  | zero => omega
  | succ m ih =>
    simp only [zCnt]
    by_cases e : m = i
    · subst e
      have h1 : zCnt (fun j => q j && !decide (j = m)) m = zCnt q m := zCnt_congr (fun j hj => by
        rw [decide_eq_false (show ¬ j = m by omega)]; simp)
      rw [h1]
      simp
    · rw [ih (by omega)]
      have h2 : (q m && !decide (m = i)) = q m := by simp [e]
      simp only [h2]
      omega
theorem zCnt_map {p q : Nat → Bool} {σ : Nat → Nat} {n m : Nat} (hlt : ∀ k, k < n → σ k < m) (hin : ∀ k, k < n → ∀ j, j < n → σ k = σ j → k = j) (hpq : ∀ k, k < n → p k = q (σ k)) (hq : ∀ i, i < m → q i = true → ∃ k, k < n ∧ σ k = i) : zCnt p n = zCnt q m := by
  induction n generalizing q with
  | zero =>
    have : ∀ i, i < m → q i = false := fun i hi => by
      cases h : q i with
      | false => rfl
      | true => obtain ⟨k, hk, _⟩ := hq i hi h; omega
    clear hq hpq hin hlt
    induction m with
    | zero => rfl
    | succ m ih =>
      simp only [zCnt]
      rw [← ih (fun i hi => this i (by omega)), this m (by omega)]
      rfl
  | succ n ih =>
    rw [zCnt_erase (q := q) (hlt n (Nat.lt_succ_self n))]
    simp only [zCnt]
    rw [ih (q := fun j => q j && !decide (j = σ n)) (fun k hk => hlt k (by omega)) (fun k hk j hj => hin k (by omega) j (by omega)) (fun k hk => by
        rw [hpq k (by omega), decide_eq_false (fun e => by have := hin k (by omega) n (by omega) e; omega)]; simp) (fun i hi h => by
        rw [Bool.and_eq_true] at h
        obtain ⟨k, hk, e⟩ := hq i hi h.1
        have hne : ¬ i = σ n := by
          intro z
          rw [decide_eq_true z] at h
          exact absurd h.2 (by decide)
        refine ⟨k, ?_, e⟩
        rcases Nat.lt_or_ge k n with g | g
        · exact g
        · have : k = n := by omega
          rw [this] at e
          exact absurd e.symm hne), hpq n (Nat.lt_succ_self n)]
theorem zCnt_true (n : Nat) : zCnt (fun _ => true) n = n := by
  induction n with
  | zero => rfl
  | succ n ih => simp only [zCnt]; rw [ih]; rfl
theorem zCnt_mono {p q : Nat → Bool} {n : Nat} (h : ∀ j, j < n → p j = true → q j = true) : zCnt p n ≤ zCnt q n := by
  induction n with
  | zero => exact Nat.le_refl _
  | succ n ih =>
    simp only [zCnt]
    have h1 := ih (fun j hj => h j (by omega))
    cases hp : p n with
    | false => simp; omega
    | true => rw [h n (by omega) hp]; simp; omega
theorem zCnt_less {p q : Nat → Bool} {n i : Nat} (h : ∀ j, j < n → p j = true → q j = true) (hi : i < n) (h1 : p i = false) (h2 : q i = true) : zCnt p n < zCnt q n := by
  rw [zCnt_erase (q := q) hi, h2]
  have : zCnt p n ≤ zCnt (fun j => q j && !decide (j = i)) n := zCnt_mono (fun j hj hp => by
    rw [h j hj hp, decide_eq_false (fun e => by rw [e, h1] at hp; cases hp)]; rfl)
  simp; omega
theorem zCnt_drop {p : Nat → Bool} {n k : Nat} (hk : k < n) : zCnt (fun j => p (if j < k then j else j + 1)) (n - 1) + (if p k = true then 1 else 0) = zCnt p n := by
  induction n with
  | zero => omega
  | succ n ih =>
    rcases Nat.lt_or_ge k n with q | q
    · have h1 := ih q
      obtain ⟨m, rfl⟩ : ∃ m, n = m + 1 := ⟨n - 1, by omega⟩
      simp only [Nat.add_sub_cancel] at h1 ⊢
      show zCnt (fun j => p (if j < k then j else j + 1)) (m + 1) + _ = zCnt p (m + 1) + (if p (m + 1) then 1 else 0)
      rw [← h1]
      show zCnt (fun j => p (if j < k then j else j + 1)) m + (if p (if m < k then m else m + 1) then 1 else 0) + _ = _
      rw [if_neg (show ¬ m < k by omega)]
      omega
    · have e : k = n := by omega
      subst e
      simp only [Nat.add_sub_cancel]
      show _ = zCnt p k + (if p k then 1 else 0)
      rw [zCnt_congr (p := fun j => p (if j < k then j else j + 1)) (q := p) (fun j hj => by rw [if_pos hj])]
