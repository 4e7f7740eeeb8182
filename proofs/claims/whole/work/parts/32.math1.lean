/-! The minute in both: the batches over the fire and on the heap -/
def CB (e : Nat) (M R : Mem) (b : Nat) (dn : Bool) : Prop := M (e+2) b = R 63 (20 + 5 * b) ∧ M (e+3) b = R 63 (20 + 5 * b + 1) ∧ M (e+4) b = R 63 (20 + 5 * b + 2) ∧ R 63 (20 + 5 * b + 3) = (if dn = true ∧ M (e+6) b = 3 then M (e+5) b + 1 else M (e+5) b) ∧ M (e+6) b = R 63 (20 + 5 * b + 4)
theorem cap60 {x : Int32} : (60 ≤ (if x < 999 then x else 999)) ↔ 60 ≤ x := by
  by_cases h : x < 999
  · rw [if_pos h]
  · rw [if_neg h]
    have h' := Int32.le_iff_toInt_le.mp (Int32.not_lt.mp h)
    rw [Int32.le_iff_toInt_le, Int32.le_iff_toInt_le]
    have e1 : (60 : Int32).toInt = 60 := rfl
    have e2 : (999 : Int32).toInt = 999 := rfl
    omega
theorem rb_v {e b : Nat} {m : Int32} {M : Mem} : rbM e b m M (e+4) b = (if M (e+4) b + m < 999 then M (e+4) b + m else 999) := by rw [rbM, ms_s]
theorem ro_step {e h i : Nat} {x w : Int32} {M R : Mem} (hc : CB e M R i false) (hx : R 63 11 = x + w) : CB e (roStep e h i M) (mRoStep h i R) i true ∧ mRoStep h i R 63 11 = x + roW e h i M w := by
  obtain ⟨hk, hb, hr, ha, hp⟩ := hc
  rw [if_neg (fun q => absurd q.1 (by decide))] at ha
  have n1 : (4 : Int32) ≠ 3 := by decide
  have n2 : (1 : Int32) ≠ 3 := by decide
  have n3 : (2 : Int32) ≠ 3 := by decide
  have n4 : (3 : Int32) ≠ 1 := by decide
  have n5 : (3 : Int32) ≠ 2 := by decide
  have n6 : (2 : Int32) ≠ 1 := by decide
  have g7 : ¬ 20 + 5 * i = 7 := by omega
  have g8 : ¬ 20 + 5 * i = 8 := by omega
  have g9 : ¬ 20 + 5 * i = 9 := by omega
  have g10 : ¬ 20 + 5 * i = 10 := by omega
  have g11 : ¬ 20 + 5 * i = 11 := by omega
  by_cases p1 : M (e+6) i = 1
  · have p1' : R 63 (20 + 5 * i + 4) = 1 := by rw [← hp]; exact p1
    have er : rr h i R = M (e+4) i + heatsF (M (e+2) i) (nI h) := by rw [rr, if_pos p1', ← hr, ← hk]
    by_cases q : M (e+2) i = 4 ∧ 60 ≤ rr h i R ∧ 8 ≤ nI h
    · have q1 : M (e+2) i = 4 ∧ 60 ≤ rbM e i (heatsF (M (e+2) i) (nI h)) M (e+4) i ∧ 8 ≤ nI h := ⟨q.1, by rw [rb_v, ← er, cap60]; exact q.2.1, q.2.2⟩
      have q2 : R 63 (20 + 5 * i) = 4 ∧ R 63 (20 + 5 * i + 4) = 1 ∧ 60 ≤ rr h i R ∧ 8 ≤ nI h := ⟨by rw [← hk]; exact q.1, p1', q.2.1, q.2.2⟩
      have e1 : roStep e h i M = layM e i 4 (rbM e i (heatsF (M (e+2) i) (nI h)) M) := by rw [roStep, if_pos p1, if_pos q1]
      have e2 : mRoStep h i R = mGoesM i (mr1 h i R) := by rw [mRoStep, if_pos (Or.inl p1'), if_pos q2]
      have e3 : roW e h i M w = w + M (e+3) i := by rw [roW, if_pos ⟨p1, q1⟩]
      rw [e1, e2, e3]
      refine ⟨⟨?_, ?_, ?_, ?_, ?_⟩, ?_⟩
      · simp [g7, g8, g9, g10, g11, layM, rbM, mGoesM, mr1, ms]; exact hk
      · simp [g7, g8, g9, g10, g11, layM, rbM, mGoesM, mr1, ms]
      · simp [g7, g8, g9, g10, g11, layM, rbM, mGoesM, mr1, ms, er]
      · simp [g7, g8, g9, g10, g11, layM, rbM, mGoesM, mr1, ms]; exact ha
      · simp [g7, g8, g9, g10, g11, layM, rbM, mGoesM, mr1, ms]
      · simp [g7, g8, g9, g10, g11, mGoesM, mr1, ms, hx, hb, Int32.add_assoc]
    · have q1 : ¬ (M (e+2) i = 4 ∧ 60 ≤ rbM e i (heatsF (M (e+2) i) (nI h)) M (e+4) i ∧ 8 ≤ nI h) := fun z => q ⟨z.1, by have := z.2.1; rw [rb_v, ← er, cap60] at this; exact this, z.2.2⟩
      have q2 : ¬ (R 63 (20 + 5 * i) = 4 ∧ R 63 (20 + 5 * i + 4) = 1 ∧ 60 ≤ rr h i R ∧ 8 ≤ nI h) := fun z => q ⟨by rw [hk]; exact z.1, z.2.2.1, z.2.2.2⟩
      have e1 : roStep e h i M = rbM e i (heatsF (M (e+2) i) (nI h)) M := by rw [roStep, if_pos p1, if_neg q1]
      have e2 : mRoStep h i R = mr1 h i R := by rw [mRoStep, if_pos (Or.inl p1'), if_neg q2]
      have e3 : roW e h i M w = w := by rw [roW, if_neg (fun z => q1 z.2)]
      rw [e1, e2, e3]
      refine ⟨⟨?_, ?_, ?_, ?_, ?_⟩, ?_⟩
      · simp [rbM, mr1, ms]; exact hk
      · simp [rbM, mr1, ms]; exact hb
      · simp [rbM, mr1, ms, er]
      · simp [rbM, mr1, ms, p1]; exact ha
      · simp [rbM, mr1, ms]; exact hp
      · simp [mr1, ms, hx, g9]
  · have p1' : ¬ R 63 (20 + 5 * i + 4) = 1 := by rw [← hp]; exact p1
    have e3 : roW e h i M w = w := by rw [roW, if_neg (fun z => p1 z.1)]
    by_cases p2 : M (e+6) i = 2
    · have p2' : R 63 (20 + 5 * i + 4) = 2 := by rw [← hp]; exact p2
      have er : rr h i R = M (e+4) i + heatsF (M (e+2) i) (nI (h / 2)) := by rw [rr, if_neg p1', ← hr, ← hk]
      have e1 : roStep e h i M = rbM e i (heatsF (M (e+2) i) (nI (h / 2))) M := by rw [roStep, if_neg p1, if_pos p2]
      have e2 : mRoStep h i R = mr1 h i R := by rw [mRoStep, if_pos (Or.inr p2'), if_neg (fun z => p1' z.2.1)]
      rw [e1, e2, e3]
      refine ⟨⟨?_, ?_, ?_, ?_, ?_⟩, ?_⟩
      · simp [rbM, mr1, ms]; exact hk
      · simp [rbM, mr1, ms]; exact hb
      · simp [rbM, mr1, ms, er]
      · simp [rbM, mr1, ms, p2]; exact ha
      · simp [rbM, mr1, ms]; exact hp
      · simp [mr1, ms, hx, g9]
    · have p2' : ¬ R 63 (20 + 5 * i + 4) = 2 := by rw [← hp]; exact p2
      have e1 : roStep e h i M = M := by rw [roStep, if_neg p1, if_neg p2]
      by_cases p3 : M (e+6) i = 3
      · have p3' : R 63 (20 + 5 * i + 4) = 3 := by rw [← hp]; exact p3
        have e2 : mRoStep h i R = ms R 63 (20 + 5 * i + 3) (R 63 (20 + 5 * i + 3) + 1) := by rw [mRoStep, if_neg (fun z => z.elim p1' p2'), if_pos p3']
        rw [e1, e2, e3]
        refine ⟨⟨?_, ?_, ?_, ?_, ?_⟩, ?_⟩
        · simp [ms]; exact hk
        · simp [ms]; exact hb
        · simp [ms]; exact hr
        · simp [ms, p3, ha]
        · simp [ms]; exact hp
        · rw [ms_j (by omega)]; exact hx
      · have p3' : ¬ R 63 (20 + 5 * i + 4) = 3 := by rw [← hp]; exact p3
        have e2 : mRoStep h i R = R := by rw [mRoStep, if_neg (fun z => z.elim p1' p2'), if_neg p3']
        rw [e1, e2, e3]
        exact ⟨⟨hk, hb, hr, by rw [if_neg (fun z => p3 z.2)]; exact ha, hp⟩, hx⟩
theorem ms_ij {M : Mem} {k i a j : Nat} {v : Int32} (h : j ≠ i) : ms M k i v a j = M a j := by simp [ms, h]
theorem roStep_ij {e h i a j : Nat} {M : Mem} (hij : j ≠ i) : roStep e h i M a j = M a j := by
  have r1 : ∀ m, rbM e i m M a j = M a j := fun m => by rw [rbM, ms_ij hij]
  have l1 : ∀ m, layM e i 4 (rbM e i m M) a j = M a j := fun m => by rw [layM, if_pos rfl, ms_ij hij, ms_ij hij, r1]
  unfold roStep
  split
  · split
    · exact l1 _
    · exact r1 _
  · split
    · exact r1 _
    · rfl
theorem CB_far {e h i j : Nat} {M R : Mem} {d : Bool} (hij : j ≠ i) (hc : CB e M R j d) : CB e (roStep e h i M) (mRoStep h i R) j d := by
  obtain ⟨hk, hb, hr, ha, hp⟩ := hc
  have m2 : roStep e h i M (e+2) = M (e+2) := roStep_k (by omega) (by omega) (by omega)
  have m5 : roStep e h i M (e+5) = M (e+5) := roStep_k (by omega) (by omega) (by omega)
  have m3 : roStep e h i M (e+3) j = M (e+3) j := roStep_ij hij
  have m4 : roStep e h i M (e+4) j = M (e+4) j := roStep_ij hij
  have m6 : roStep e h i M (e+6) j = M (e+6) j := roStep_ij hij
  refine ⟨?_, ?_, ?_, ?_, ?_⟩
  · rw [m2, mRoStep_j (by omega) (by omega)]; exact hk
  · rw [m3, mRoStep_j (by omega) (by omega)]; exact hb
  · rw [m4, mRoStep_j (by omega) (by omega)]; exact hr
  · rw [m5, m6, mRoStep_j (by omega) (by omega)]; exact ha
  · rw [m6, mRoStep_j (by omega) (by omega)]; exact hp
theorem ro_rel {e h c : Nat} {x : Int32} : ∀ (n i : Nat) (M R : Mem) (w : Int32), i + n = c → (∀ b, b < i → CB e M R b true) → (∀ b, i ≤ b → b < c → CB e M R b false) → R 63 11 = x + w → (∀ b, b < c → CB e (roG e h n i M w).1 (mRoG h n i R) b true) ∧ mRoG h n i R 63 11 = x + (roG e h n i M w).2 := by
  intro n
  induction n with
  | zero =>
    intro i M R w hi h1 h2 hx
    exact ⟨fun b hb => h1 b (by omega), hx⟩
  | succ n ih =>
    intro i M R w hi h1 h2 hx
    have hs := ro_step (h := h) (h2 i (Nat.le_refl i) (by omega)) hx
    exact ih (i + 1) _ _ _ (by omega) (fun b hb => by
      by_cases q : b = i
      · subst q; exact hs.1
      · exact CB_far q (h1 b (by omega))) (fun b hb1 hb2 => CB_far (by omega) (h2 b (by omega) hb2)) hs.2
/-- the heap's ages, behind the roasting -/
theorem ag_at {e : Nat} : ∀ (n i : Nat) (M : Mem) (b : Nat), agG e n i M (e+5) b = if i ≤ b ∧ b < i + n ∧ M (e+6) b = 3 then M (e+5) b + 1 else M (e+5) b := by
  intro n
  induction n with
  | zero => intro i M b; rw [if_neg (by omega)]; rfl
  | succ n ih =>
    intro i M b
    simp only [agG]
    rw [ih]
    by_cases p : M (e+6) i = 3
    · rw [if_pos p, show ms M (e+5) i (M (e+5) i + 1) (e+6) = M (e+6) from ms_k (by omega)]
      by_cases q : b = i
      · subst q
        rw [if_neg (by omega), ms_s, if_pos ⟨Nat.le_refl b, by omega, p⟩]
      · rw [ms_j q]
        by_cases z : M (e+6) b = 3
        · by_cases y : i + 1 ≤ b ∧ b < i + 1 + n
          · rw [if_pos ⟨y.1, y.2, z⟩, if_pos ⟨by omega, by omega, z⟩]
          · rw [if_neg (fun u => y ⟨u.1, u.2.1⟩), if_neg (fun u => y ⟨by omega, by omega⟩)]
        · rw [if_neg (fun u => z u.2.2), if_neg (fun u => z u.2.2)]
    · rw [if_neg p]
      by_cases q : b = i
      · subst q
        rw [if_neg (by omega), if_neg (fun u => p u.2.2)]
      · by_cases z : M (e+6) b = 3
        · by_cases y : i + 1 ≤ b ∧ b < i + 1 + n
          · rw [if_pos ⟨y.1, y.2, z⟩, if_pos ⟨by omega, by omega, z⟩]
          · rw [if_neg (fun u => y ⟨u.1, u.2.1⟩), if_neg (fun u => y ⟨by omega, by omega⟩)]
        · rw [if_neg (fun u => z u.2.2), if_neg (fun u => z u.2.2)]
theorem CB_ag {e c : Nat} {M R : Mem} (h : ∀ b, b < c → CB e M R b true) : ∀ b, b < c → CB e (agG e c 0 M) R b false := by
  intro b hb
  obtain ⟨hk, hg, hr, ha, hp⟩ := h b hb
  have k2 : agG e c 0 M (e+2) = M (e+2) := agG_k (by omega) _ _ _
  have k3 : agG e c 0 M (e+3) = M (e+3) := agG_k (by omega) _ _ _
  have k4 : agG e c 0 M (e+4) = M (e+4) := agG_k (by omega) _ _ _
  have k6 : agG e c 0 M (e+6) = M (e+6) := agG_k (by omega) _ _ _
  refine ⟨by rw [k2]; exact hk, by rw [k3]; exact hg, by rw [k4]; exact hr, ?_, by rw [k6]; exact hp⟩
  rw [if_neg (fun q => absurd q.1 (by decide)), ag_at, ha]
  by_cases z : M (e+6) b = 3
  · rw [if_pos ⟨rfl, z⟩, if_pos ⟨by omega, by omega, z⟩]
  · rw [if_neg (fun u => z u.2), if_neg (fun u => z u.2.2)]
