/-! The sale in both: one by one, and a batch at once -/
theorem yo_bo {kd bg ro ag pl kd' bg' ro' ag' pl' : Nat → Int32} {hw fr to_ : Int32} {N : Nat} (h : ∀ i, i < N → ((pl i = 3 ∧ 0 < bg i ∧ fr ≤ ag i ∧ ag i ≤ to_ ∧ readyF (kd i) ≤ ro i ∧ ro i < burntF (kd i)) ↔ (pl' i = 3 ∧ 0 < bg' i ∧ hwF (kd' i) (ro' i) (ag' i) (pl' i) = hw))) (ha : ∀ i, i < N → ag i = ag' i) : ∀ (n i : Nat) (o : Option Nat), i + n ≤ N → (∀ j, o = some j → j < i) → yoG kd bg ro ag pl fr to_ n i o = boG kd' bg' ro' ag' pl' hw n i o := by
  intro n
  induction n with
  | zero => intro i o hi ho; rfl
  | succ n ih =>
    intro i o hi ho
    have hp := h i (by omega)
    rcases o with _ | j
    · simp only [yoG, boG]
      by_cases p : pl i = 3 ∧ 0 < bg i ∧ fr ≤ ag i ∧ ag i ≤ to_ ∧ readyF (kd i) ≤ ro i ∧ ro i < burntF (kd i)
      · rw [if_pos p, if_pos (hp.mp p)]
        exact ih _ _ (by omega) (fun j q => by cases q; omega)
      · rw [if_neg p, if_neg (fun q => p (hp.mpr q))]
        exact ih _ _ (by omega) (fun j q => by cases q)
    · have hj := ho j rfl
      simp only [yoG, boG]
      by_cases p : (pl i = 3 ∧ 0 < bg i ∧ fr ≤ ag i ∧ ag i ≤ to_ ∧ readyF (kd i) ≤ ro i ∧ ro i < burntF (kd i)) ∧ ag i < ag j
      · rw [if_pos p, if_pos ⟨hp.mp p.1, by rw [← ha i (by omega), ← ha j (by omega)]; exact p.2⟩]
        exact ih _ _ (by omega) (fun j q => by cases q; omega)
      · rw [if_neg p, if_neg (fun q => p ⟨hp.mpr q.1, by rw [ha i (by omega), ha j (by omega)]; exact q.2⟩)]
        exact ih _ _ (by omega) (fun j q => by cases q; omega)
theorem bo_bo {kd bg ro ag pl kd' bg' ro' ag' pl' : Nat → Int32} {hw : Int32} {N : Nat} (h : ∀ i, i < N → ((pl i = 3 ∧ 0 < bg i ∧ hwF (kd i) (ro i) (ag i) (pl i) = hw) ↔ (pl' i = 3 ∧ 0 < bg' i ∧ hwF (kd' i) (ro' i) (ag' i) (pl' i) = hw))) (ha : ∀ i, i < N → ag i = ag' i) : ∀ (n i : Nat) (o : Option Nat), i + n ≤ N → (∀ j, o = some j → j < i) → boG kd bg ro ag pl hw n i o = boG kd' bg' ro' ag' pl' hw n i o := by
  intro n
  induction n with
  | zero => intro i o hi ho; rfl
  | succ n ih =>
    intro i o hi ho
    have hp := h i (by omega)
    rcases o with _ | j
    · simp only [boG]
      by_cases p : pl i = 3 ∧ 0 < bg i ∧ hwF (kd i) (ro i) (ag i) (pl i) = hw
      · rw [if_pos p, if_pos (hp.mp p)]
        exact ih _ _ (by omega) (fun j q => by cases q; omega)
      · rw [if_neg p, if_neg (fun q => p (hp.mpr q))]
        exact ih _ _ (by omega) (fun j q => by cases q)
    · have hj := ho j rfl
      simp only [boG]
      by_cases p : (pl i = 3 ∧ 0 < bg i ∧ hwF (kd i) (ro i) (ag i) (pl i) = hw) ∧ ag i < ag j
      · rw [if_pos p, if_pos ⟨hp.mp p.1, by rw [← ha i (by omega), ← ha j (by omega)]; exact p.2⟩]
        exact ih _ _ (by omega) (fun j q => by cases q; omega)
      · rw [if_neg p, if_neg (fun q => p ⟨hp.mpr q.1, by rw [ha i (by omega), ha j (by omega)]; exact q.2⟩)]
        exact ih _ _ (by omega) (fun j q => by cases q; omega)
/-- what is picked can be sold -/
theorem bo_ok {kd bg ro ag pl : Nat → Int32} {hw : Int32} : ∀ (n i : Nat) (o : Option Nat), (∀ j, o = some j → pl j = 3 ∧ 0 < bg j ∧ hwF (kd j) (ro j) (ag j) (pl j) = hw) → ∀ j, boG kd bg ro ag pl hw n i o = some j → pl j = 3 ∧ 0 < bg j ∧ hwF (kd j) (ro j) (ag j) (pl j) = hw := by
  intro n
  induction n with
  | zero => intro i o ho j h; exact ho j h
  | succ n ih =>
    intro i o ho j h
    refine ih (i + 1) _ (fun k q => ?_) j h
    rcases o with _ | b
    · dsimp only at q
      split at q
      · next p => cases q; exact p
      · cases q
    · dsimp only at q
      split at q
      · next p => cases q; exact p.1
      · cases q; exact ho _ rfl
theorem bo_none {kd bg ro ag pl : Nat → Int32} {hw : Int32} : ∀ (n i : Nat), (∀ b, i ≤ b → b < i + n → ¬ 0 < bg b) → boG kd bg ro ag pl hw n i none = none := by
  intro n
  induction n with
  | zero => intro i h; rfl
  | succ n ih =>
    intro i h
    simp only [boG]
    rw [if_neg (fun q => h i (Nat.le_refl i) (by omega) q.2.1)]
    exact ih (i + 1) (fun b h1 h2 => h b (by omega) (by omega))
theorem hw1 {k r a p : Int32} (hp : p = 3) (ha : 0 ≤ a) : hwF k r a p = 1 ↔ 0 ≤ a ∧ a ≤ 10 ∧ readyF k ≤ r ∧ r < burntF k := by
  subst hp
  unfold hwF
  rw [if_neg (by decide)]
  by_cases h1 : burntF k ≤ r
  · rw [if_pos h1]
    exact ⟨fun q => absurd q (by decide), fun q => absurd q.2.2.2 (Int32.not_lt.mpr h1)⟩
  · rw [if_neg h1]
    by_cases h2 : readyF k ≤ r
    · rw [if_pos h2]
      by_cases h3 : a < 11
      · rw [if_pos h3]
        refine ⟨fun _ => ⟨ha, ?_, h2, Int32.not_le.mp h1⟩, fun _ => rfl⟩
        have e := Int32.lt_iff_toInt_lt.mp h3
        rw [Int32.le_iff_toInt_le]
        have e1 : (11 : Int32).toInt = 11 := rfl
        have e2 : (10 : Int32).toInt = 10 := rfl
        omega
      · rw [if_neg h3]
        refine ⟨fun q => ?_, fun q => ?_⟩
        · split at q <;> exact absurd q (by decide)
        · have e := Int32.le_iff_toInt_le.mp q.2.1
          have f := Int32.le_iff_toInt_le.mp (Int32.not_lt.mp h3)
          have e1 : (11 : Int32).toInt = 11 := rfl
          have e2 : (10 : Int32).toInt = 10 := rfl
          omega
    · rw [if_neg h2]
      exact ⟨fun q => absurd q (by decide), fun q => absurd q.2.2.1 h2⟩
theorem hw2 {k r a p : Int32} (hp : p = 3) : hwF k r a p = 2 ↔ 11 ≤ a ∧ a ≤ 25 ∧ readyF k ≤ r ∧ r < burntF k := by
  subst hp
  unfold hwF
  rw [if_neg (by decide)]
  have e1 : (11 : Int32).toInt = 11 := rfl
  have e2 : (25 : Int32).toInt = 25 := rfl
  have e3 : (26 : Int32).toInt = 26 := rfl
  by_cases h1 : burntF k ≤ r
  · rw [if_pos h1]
    exact ⟨fun q => absurd q (by decide), fun q => absurd q.2.2.2 (Int32.not_lt.mpr h1)⟩
  · rw [if_neg h1]
    by_cases h2 : readyF k ≤ r
    · rw [if_pos h2]
      by_cases h3 : a < 11
      · rw [if_pos h3]
        exact ⟨fun q => absurd q (by decide), fun q => absurd q.1 (Int32.not_le.mpr h3)⟩
      · rw [if_neg h3]
        by_cases h4 : a < 26
        · rw [if_pos h4]
          refine ⟨fun _ => ⟨Int32.not_lt.mp h3, ?_, h2, Int32.not_le.mp h1⟩, fun _ => rfl⟩
          have e := Int32.lt_iff_toInt_lt.mp h4
          rw [Int32.le_iff_toInt_le]
          omega
        · rw [if_neg h4]
          refine ⟨fun q => absurd q (by decide), fun q => ?_⟩
          have e := Int32.le_iff_toInt_le.mp q.2.1
          have f := Int32.le_iff_toInt_le.mp (Int32.not_lt.mp h4)
          omega
    · rw [if_neg h2]
      exact ⟨fun q => absurd q (by decide), fun q => absurd q.2.2.1 h2⟩
/-- k bags of a batch at once -/
def mTakes (b : Nat) (v : Int32) (k : Nat) (R : Mem) : Mem := ms (ms (ms R 63 7 (R 63 7 + nI k * v)) 63 (20 + 5 * b + 1) (R 63 (20 + 5 * b + 1) - nI k)) 63 10 (R 63 10 + nI k)
theorem takes_0 {b : Nat} {v : Int32} {R : Mem} : mTakes b v 0 R = R := by
  rw [mTakes, show nI 0 = 0 from rfl, Int32.zero_mul, Int32.add_zero, Int32.add_zero, Int32.sub_zero, ms_id rfl, ms_id rfl, ms_id rfl]
theorem takes_s {b k : Nat} {v : Int32} {R : Mem} : mTakes b v k (mTake b v R) = mTakes b v (k + 1) R := by
  have g7 : ¬ 20 + 5 * b + 1 = 7 := by omega
  have g10 : ¬ 20 + 5 * b + 1 = 10 := by omega
  have e1 : R 63 7 + v + nI k * v = R 63 7 + nI (k + 1) * v := by rw [← nI_1, Int32.add_mul, Int32.one_mul, Int32.add_assoc, Int32.add_comm v]
  have e2 : R 63 (20 + 5 * b + 1) - 1 - nI k = R 63 (20 + 5 * b + 1) - nI (k + 1) := by rw [← nI_1, Int32.sub_eq_add_neg, Int32.sub_eq_add_neg, Int32.sub_eq_add_neg, Int32.neg_add, Int32.sub_eq_add_neg, Int32.add_assoc, Int32.add_comm (-1)]
  have e3 : R 63 10 + 1 + nI k = R 63 10 + nI (k + 1) := by rw [← nI_1, Int32.add_assoc, Int32.add_comm 1]
  funext a j
  by_cases ha : a = 63
  · subst ha
    by_cases h1 : j = 10
    · subst h1; simp [mTakes, mTake, ms, e3]
    · by_cases h2 : j = 20 + 5 * b + 1
      · subst h2; simp [mTakes, mTake, ms, g7, g10, e2]
      · by_cases h3 : j = 7
        · subst h3; simp [mTakes, mTake, ms, Ne.symm g7, e1]
        · simp [mTakes, mTake, ms, h1, h2, h3]
  · simp [mTakes, mTake, ms, ha]
