/-! The minute in both: what stays bounded; the fire -/
def BGA (c A : Nat) (R : Mem) : Prop := ∀ b, b < c → (∃ g, g ≤ 9 ∧ col R 1 b = nI g) ∧ ∃ a, a ≤ A ∧ col R 3 b = nI a
theorem BGA_I {c A : Nat} {R : Mem} (hA : A < 2 ^ 31) (h : BGA c A R) : BGI c R := fun b hb => ⟨(h b hb).1, by
  obtain ⟨a, ha, e⟩ := (h b hb).2
  rw [e]
  exact Int32.not_lt.mp (nnI (by omega))⟩
theorem mRo_own {h b A : Nat} {R : Mem} (h1 : ∃ g, g ≤ 9 ∧ col R 1 b = nI g) (h2 : ∃ a, a ≤ A ∧ col R 3 b = nI a) : (∃ g, g ≤ 9 ∧ col (mRoStep h b R) 1 b = nI g) ∧ ∃ a, a ≤ A + 1 ∧ col (mRoStep h b R) 3 b = nI a := by
  obtain ⟨g, hg, eg⟩ := h1
  obtain ⟨a, ha, ea⟩ := h2
  unfold mRoStep
  split
  · split
    · refine ⟨⟨0, by omega, ?_⟩, a, by omega, ?_⟩
      · unfold col mGoesM; rw [ms_j (by omega), ms_s]; rfl
      · unfold col mGoesM mr1; rw [ms_j (by omega), ms_j (by omega), ms_j (by omega), ms_j (by omega)]; exact ea
    · refine ⟨⟨g, hg, ?_⟩, a, by omega, ?_⟩
      · unfold col mr1; rw [ms_j (by omega)]; exact eg
      · unfold col mr1; rw [ms_j (by omega)]; exact ea
  · split
    · refine ⟨⟨g, hg, ?_⟩, a + 1, by omega, ?_⟩
      · unfold col; rw [ms_j (by omega)]; exact eg
      · unfold col; rw [ms_s, show R 63 (20 + 5 * b + 3) = nI a from ea, nI_1]
    · exact ⟨⟨g, hg, eg⟩, a, by omega, ea⟩
theorem mRo_far {h b i w : Nat} {R : Mem} (hw : w < 5) (hib : i ≠ b) : col (mRoStep h b R) w i = col R w i := by
  unfold col
  rw [mRoStep_j (by omega) (by omega)]
theorem BGA_ro {h c A : Nat} : ∀ (n i : Nat) (R : Mem), i + n = c → (∀ b, b < i → (∃ g, g ≤ 9 ∧ col R 1 b = nI g) ∧ ∃ a, a ≤ A + 1 ∧ col R 3 b = nI a) → (∀ b, i ≤ b → b < c → (∃ g, g ≤ 9 ∧ col R 1 b = nI g) ∧ ∃ a, a ≤ A ∧ col R 3 b = nI a) → BGA c (A + 1) (mRoG h n i R) := by
  intro n
  induction n with
  | zero => intro i R hi h1 h2 b hb; exact h1 b (by omega)
  | succ n ih =>
    intro i R hi h1 h2
    refine ih (i + 1) _ (by omega) (fun b hb => ?_) (fun b hb1 hb2 => ?_)
    · by_cases q : b = i
      · subst q
        exact mRo_own (h2 b (Nat.le_refl b) (by omega)).1 (h2 b (Nat.le_refl b) (by omega)).2
      · rw [mRo_far (by decide) q, mRo_far (by decide) q]
        exact h1 b (by omega)
    · rw [mRo_far (by decide) (by omega), mRo_far (by decide) (by omega)]
      exact h2 b (by omega) hb2
/-- the shovels that are due, turned on by a minute -/
theorem due_turn {e m h d : Nat} {M R : Mem} (hd : ∀ k, k < 7 → M (e+11) ((m + k) % 7) = R 63 (13 + k)) : ∀ k, k < 7 → warmM e m h d M (e+11) ((m + 1 + k) % 7) = mWarmM m h d R 63 (13 + k) := by
  intro k hk
  have e1 : warmM e m h d M (e+11) = ms M (e+11) (m % 7) 0 (e+11) := ms_k (by omega)
  have e2 : mWarmM m h d R 63 (13 + k) = ms (shG 6 0 R) 63 19 0 63 (13 + k) := ms_j (by omega)
  rw [e1, e2]
  by_cases q : k = 6
  · subst q
    rw [show (m + 1 + 6) % 7 = m % 7 by omega, ms_s, show 13 + 6 = 19 from rfl, ms_s]
  · rw [ms_j (show (m + 1 + k) % 7 ≠ m % 7 by omega), ms_j (by omega), shG_v 6 0 _ (by omega) (by omega), show m + 1 + k = m + (k + 1) by omega, hd (k + 1) (by omega)]
    rfl
theorem CB_cells {e b : Nat} {M M' R : Mem} {d : Bool} (h : ∀ a, a ≠ e → M' a = M a) (hc : CB e M R b d) : CB e M' R b d := by
  unfold CB
  rw [h (e+2) (by omega), h (e+3) (by omega), h (e+4) (by omega), h (e+5) (by omega), h (e+6) (by omega)]
  exact hc
