/-! The minute in both: the crowds served -/
def CRr (e c cc : Nat) (M R : Mem) : Prop := M e 13 = R 63 12 ∧ M e 9 = R 63 8 ∧ M e 7 = R 63 0 ∧ M e 6 = R 63 6 ∧ M e 5 = R 63 5 ∧ (∀ i, i < cc → M (e+8) i = R 63 (70 + 3 * i) ∧ M (e+9) i = R 63 (70 + 3 * i + 1) ∧ M (e+10) i = R 63 (70 + 3 * i + 2)) ∧ ∀ i, i < cc → ∃ q, q ≤ 100000 ∧ comeF (R 63 (70 + 3 * i + 2)) (R 63 6) (R 63 5) = nI q
theorem selG_z {e p c : Nat} {fr to_ pt : Int32} {M : Mem} : ∀ n, selG e p c fr to_ pt n (nI 0) M = (nI 0, M) := by
  intro n
  rcases n with _ | n
  · rfl
  · simp only [selG]
    rw [if_neg (by decide)]
theorem SR_ms {e p c j : Nat} {v : Int32} {M R : Mem} (h : SR e p c M R) (h8 : j ≠ 8) (h11 : j ≠ 11) : SR e p c (ms M e j v) R := by
  obtain ⟨a, b, d, f⟩ := h
  refine ⟨fun i hi => CB_of ?_, by rw [ms_j (Ne.symm h8)]; exact b, by rw [ms_j (Ne.symm h11)]; exact d, f⟩
  obtain ⟨x1, x2, x3, x4, x5⟩ := CB_col (a i hi)
  exact ⟨by rw [ms_k (by omega)]; exact x1, by rw [ms_k (by omega)]; exact x2, by rw [ms_k (by omega)]; exact x3, by rw [ms_k (by omega)]; exact x4, by rw [ms_k (by omega)]; exact x5⟩
theorem SR_12 {e p c : Nat} {v : Int32} {M R : Mem} (h : SR e p c M R) : SR e p c M (ms R 63 12 v) := by
  obtain ⟨a, b, d, f⟩ := h
  refine ⟨fun i hi => CB_of ?_, by rw [ms_j (by decide)]; exact b, by rw [ms_j (by decide)]; exact d, by rw [ms_j (by decide)]; exact f⟩
  have hcol : ∀ w, w < 5 → col (ms R 63 12 v) w i = col R w i := fun w _ => by unfold col; rw [ms_j (by omega)]
  obtain ⟨x1, x2, x3, x4, x5⟩ := CB_col (a i hi)
  rw [hcol 0 (by decide), hcol 1 (by decide), hcol 2 (by decide), hcol 3 (by decide), hcol 4 (by decide)]
  exact ⟨x1, x2, x3, x4, x5⟩
theorem BGI_12 {c : Nat} {v : Int32} {R : Mem} (h : BGI c R) : BGI c (ms R 63 12 v) := by
  intro i hi
  have hcol : ∀ w, w < 5 → col (ms R 63 12 v) w i = col R w i := fun w _ => by unfold col; rw [ms_j (by omega)]
  rw [hcol 1 (by decide), hcol 3 (by decide)]
  exact h i hi
/-- a crowd is served -/
theorem serve1 {e p c cc i q : Nat} (hc : c ≤ 10) (hi : i < cc) (hq : q ≤ 100000) {M R : Mem} (hS : SR e p c M R) (hB : BGI c R) (hC : CRr e c cc M R) (hcome : comeF (R 63 (70 + 3 * i + 2)) (R 63 6) (R 63 5) = nI q) : SR e p c (serM e p c i M) (buyG c q R) ∧ BGI c (buyG c q R) ∧ CRr e c cc (serM e p c i M) (buyG c q R) := by
  obtain ⟨c13, c9, c7, c6, c5, ccr, cq⟩ := hC
  have hr : comeF (M (e+10) i) (M e 6) (M e 5) = nI q := by rw [(ccr i hi).2.2, c6, c5]; exact hcome
  obtain ⟨q1, R1, a1, a2, a3, a4, a5, a6, -, a8⟩ := sale (e := e) (p := p) hc (.inl ⟨rfl, rfl, rfl, rfl⟩ : ((1 : Int32) = 1 ∧ (0 : Int32) = 0 ∧ (10 : Int32) = 10 ∧ (1 : Int32) = 1) ∨ _) 10 q M R hq hS hB (fun z => absurd z (by decide)) (Nat.le_trans (av_le _ c) hc)
  have h2 : ∃ (q2 : Nat) (R2 : Mem), (selG e p c 11 25 2 10 (nI q1) (selG e p c 0 10 1 10 (nI q) M).2).1 = nI q2 ∧ SR e p c (selG e p c 11 25 2 10 (nI q1) (selG e p c 0 10 1 10 (nI q) M).2).2 R2 ∧ BGI c R2 ∧ KS R1 R2 ∧ buyG c q1 R1 = (if q2 = 0 then R2 else ms R2 63 12 (R2 63 12 + nI q2)) := by
    rcases a6 with z | z
    · subst z
      rw [selG_z]
      exact ⟨0, R1, rfl, a3, a4, ⟨fun _ _ => rfl, fun _ _ _ _ => rfl⟩, by rw [if_pos rfl]; rfl⟩
    · obtain ⟨q2, R2, b1, b2, b3, b4, b5, b6, b7, b8⟩ := sale (e := e) (p := p) hc (.inr ⟨rfl, rfl, rfl, rfl⟩ : _ ∨ ((2 : Int32) = 2 ∧ (11 : Int32) = 11 ∧ (25 : Int32) = 25 ∧ (2 : Int32) = 2)) 10 q1 _ R1 (by omega) a3 a4 (fun _ => z) (Nat.le_trans (av_le _ c) hc)
      refine ⟨q2, R2, b1, b3, b4, b5, ?_⟩
      rw [b8]
      by_cases y : q2 = 0
      · subst y; rw [if_pos rfl]; rfl
      · rw [if_neg y]
        rcases b6 with w | w
        · exact absurd w y
        · exact buy_no (b7 rfl) w (by omega)
  obtain ⟨q2, R2, b1, b3, b4, b5, b8⟩ := h2
  have hk := KS_trans a5 b5
  have e1 : s1F e p c i M = selG e p c 0 10 1 10 (nI q) M := by rw [s1F, hr]
  have e2 : s2F e p c i M = selG e p c 11 25 2 10 (nI q1) (selG e p c 0 10 1 10 (nI q) M).2 := by rw [s2F, e1, a1]
  have e3 : (selG e p c 0 10 1 10 (nI q) M).2 e 13 = M e 13 := selG_f (by decide) (by decide) _ _ _
  have e4 : serM e p c i M = ms (selG e p c 11 25 2 10 (nI q1) (selG e p c 0 10 1 10 (nI q) M).2).2 e 13 (M e 13 + nI q2) := by rw [serM, e1, e2, e3, b1]
  have hR12 : R2 63 12 = R 63 12 := hk.2 12 (by decide) (by decide) (.inl (by decide))
  have hfin : buyG c q R = ms R2 63 12 (R2 63 12 + nI q2) := by
    rw [a8, b8]
    by_cases y : q2 = 0
    · subst y
      rw [if_pos rfl, show nI 0 = 0 from rfl, Int32.add_zero, ms_id rfl]
    · rw [if_neg y]
  rw [hfin]
  have fk : ∀ a, a ≠ e → a ≠ e + 3 → serM e p c i M a = M a := fun a h1 h3 => serM_k h1 h3
  have ff : ∀ j, j ≠ 8 → j ≠ 11 → j ≠ 13 → serM e p c i M e j = M e j := fun j h1 h2 h3 => serM_f h1 h2 h3
  have rk : ∀ j, j ≠ 7 → j ≠ 10 → j ≠ 12 → j < 20 ∨ 70 ≤ j → ms R2 63 12 (R2 63 12 + nI q2) 63 j = R 63 j := fun j h1 h2 h3 h4 => by rw [ms_j h3]; exact hk.2 j h1 h2 h4
  refine ⟨by rw [e4]; exact SR_12 (SR_ms b3 (by decide) (by decide)), BGI_12 b4, ?_, ?_, ?_, ?_, ?_, fun j hj => ?_, fun j hj => ?_⟩
  · rw [e4, ms_s, ms_s, hR12, c13]
  · rw [ff 9 (by decide) (by decide) (by decide), rk 8 (by decide) (by decide) (by decide) (.inl (by decide))]; exact c9
  · rw [ff 7 (by decide) (by decide) (by decide), rk 0 (by decide) (by decide) (by decide) (.inl (by decide))]; exact c7
  · rw [ff 6 (by decide) (by decide) (by decide), rk 6 (by decide) (by decide) (by decide) (.inl (by decide))]; exact c6
  · rw [ff 5 (by decide) (by decide) (by decide), rk 5 (by decide) (by decide) (by decide) (.inl (by decide))]; exact c5
  · rw [fk (e+8) (by omega) (by omega), fk (e+9) (by omega) (by omega), fk (e+10) (by omega) (by omega), rk _ (by omega) (by omega) (by omega) (.inr (by omega)), rk _ (by omega) (by omega) (by omega) (.inr (by omega)), rk _ (by omega) (by omega) (by omega) (.inr (by omega))]
    exact ccr j hj
  · rw [rk _ (by omega) (by omega) (by omega) (.inr (by omega)), rk 6 (by decide) (by decide) (by decide) (.inl (by decide)), rk 5 (by decide) (by decide) (by decide) (.inl (by decide))]
    exact cq j hj
theorem serves {e p c cc : Nat} (hc : c ≤ 10) : ∀ (n i : Nat) (M R : Mem), i + n = cc → SR e p c M R → BGI c R → CRr e c cc M R → SR e p c (serG e p c n i M) (mserG c n i R) ∧ BGI c (mserG c n i R) ∧ CRr e c cc (serG e p c n i M) (mserG c n i R) := by
  intro n
  induction n with
  | zero => intro i M R hi hS hB hC; exact ⟨hS, hB, hC⟩
  | succ n ih =>
    intro i M R hi hS hB hC
    have hC0 := hC
    obtain ⟨c13, c9, c7, c6, c5, ccr, cq⟩ := hC
    obtain ⟨r1, r2, r3⟩ := ccr i (by omega)
    simp only [serG, mserG]
    by_cases z : M (e+8) i = M e 9 ∧ M (e+9) i = M e 7
    · have z' : R 63 (70 + 3 * i) = R 63 8 ∧ R 63 (70 + 3 * i + 1) = R 63 0 := ⟨by rw [← r1, ← c9]; exact z.1, by rw [← r2, ← c7]; exact z.2⟩
      rw [if_pos z, if_pos z']
      obtain ⟨q, hq, eq⟩ := cq i (by omega)
      have en : comeN i R = q := by rw [comeN, eq]; exact nI_clamp (by omega)
      rw [en]
      obtain ⟨s1, s2, s3⟩ := serve1 hc (by omega) hq hS hB hC0 eq
      exact ih (i + 1) _ _ (by omega) s1 s2 s3
    · have z' : ¬ (R 63 (70 + 3 * i) = R 63 8 ∧ R 63 (70 + 3 * i + 1) = R 63 0) := fun y => z ⟨by rw [r1, c9]; exact y.1, by rw [r2, c7]; exact y.2⟩
      rw [if_neg z, if_neg z']
      exact ih (i + 1) _ _ (by omega) hS hB hC0
