/-! The minute in both -/
def RVd (e m : Nat) (M R : Mem) : Prop := ∀ k, k < 7 → M (e+11) ((m + k) % 7) = R 63 (13 + k)
def RV (e c cc p m : Nat) (M R : Mem) : Prop := SR e p c M R ∧ CRr e c cc M R ∧ RVd e m M R ∧ M (e+1) 5 = nI c ∧ M (e+7) 3 = nI cc ∧ M e 4 = R 63 4 ∧ M e 10 = R 63 9 ∧ M e 12 = R 63 11 ∧ M e 14 = R 63 3 ∧ ∀ k, k < 10 → M (e+12) k = R 63 (106 + k)
/-- the bounds of the row -/
def BR (c cc A m : Nat) (R : Mem) : Prop := WM c cc m R ∧ BGA c A R ∧ ∃ w, w ≤ 9 ∧ R 63 9 = nI w
theorem SR_R {e p c j : Nat} {v : Int32} {M R : Mem} (h : SR e p c M R) (h5 : j ≠ 5) (h7 : j ≠ 7) (h10 : j ≠ 10) (h20 : j < 20) : SR e p c M (ms R 63 j v) := by
  obtain ⟨a, b, d, f⟩ := h
  refine ⟨fun i hi => CB_of ?_, by rw [ms_j (Ne.symm h7)]; exact b, by rw [ms_j (Ne.symm h10)]; exact d, by rw [ms_j (Ne.symm h5)]; exact f⟩
  have hcol : ∀ w, w < 5 → col (ms R 63 j v) w i = col R w i := fun w _ => by unfold col; rw [ms_j (by omega)]
  obtain ⟨x1, x2, x3, x4, x5⟩ := CB_col (a i hi)
  rw [hcol 0 (by decide), hcol 1 (by decide), hcol 2 (by decide), hcol 3 (by decide), hcol 4 (by decide)]
  exact ⟨x1, x2, x3, x4, x5⟩
theorem BGA_R {c A j : Nat} {v : Int32} {R : Mem} (h : BGA c A R) (h20 : j < 20) : BGA c A (ms R 63 j v) := by
  intro i hi
  have hcol : ∀ w, w < 5 → col (ms R 63 j v) w i = col R w i := fun w _ => by unfold col; rw [ms_j (by omega)]
  rw [hcol 1 (by decide), hcol 3 (by decide)]
  exact h i hi
theorem CRr_ms {e c cc j i : Nat} {v x : Int32} {M R : Mem} (h : CRr e c cc M R) (h13 : j ≠ 13) (h9 : j ≠ 9) (h7 : j ≠ 7) (h6 : j ≠ 6) (h5 : j ≠ 5) (i12 : i ≠ 12) (i8 : i ≠ 8) (i0 : i ≠ 0) (i6 : i ≠ 6) (i5 : i ≠ 5) (i20 : i < 20) : CRr e c cc (ms M e j v) (ms R 63 i x) := by
  obtain ⟨c13, c9, c7, c6, c5, ccr, cq⟩ := h
  refine ⟨by rw [ms_j (Ne.symm h13), ms_j (Ne.symm i12)]; exact c13, by rw [ms_j (Ne.symm h9), ms_j (Ne.symm i8)]; exact c9, by rw [ms_j (Ne.symm h7), ms_j (Ne.symm i0)]; exact c7, by rw [ms_j (Ne.symm h6), ms_j (Ne.symm i6)]; exact c6, by rw [ms_j (Ne.symm h5), ms_j (Ne.symm i5)]; exact c5, fun k hk => ?_, fun k hk => ?_⟩
  · rw [ms_k (show e + 8 ≠ e by omega), ms_k (show e + 9 ≠ e by omega), ms_k (show e + 10 ≠ e by omega), ms_j (by omega), ms_j (by omega), ms_j (by omega)]
    exact ccr k hk
  · rw [ms_j (by omega), ms_j (Ne.symm i6), ms_j (Ne.symm i5)]
    exact cq k hk
theorem buy_col {c w : Nat} (hw : w < 5) (h1 : w ≠ 1) {i : Nat} : ∀ (n : Nat) (R : Mem), col (buyG c n R) w i = col R w i := by
  intro n
  induction n with
  | zero => intro R; rfl
  | succ n ih =>
    intro R
    rcases a1 : bo1 c R with _ | b
    · rcases a2 : bo2 c R with _ | b
      · simp only [buyG, a1, a2]
        unfold col
        rw [ms_j (by omega)]
      · simp only [buyG, a1, a2]
        rw [ih]
        unfold col
        rw [mTake_j (by omega) (by omega) (by omega)]
    · simp only [buyG, a1]
      rw [ih]
      unfold col
      rw [mTake_j (by omega) (by omega) (by omega)]
theorem mser_col {c w : Nat} (hw : w < 5) (h1 : w ≠ 1) {i : Nat} : ∀ (n k : Nat) (R : Mem), col (mserG c n k R) w i = col R w i := by
  intro n
  induction n with
  | zero => intro k R; rfl
  | succ n ih =>
    intro k R
    simp only [mserG]
    rw [ih]
    split
    · exact buy_col hw h1 _ _
    · rfl
theorem minute_rel {e c cc p m A : Nat} (hc : c ≤ 10) (hA : A < 100000) {M R : Mem} (hV : RV e c cc p m M R) (hR : BR c cc A m R) : RV e c cc p (m + 1) (minM e c cc p m M) (mMin c cc m R) ∧ BR c cc (A + 1) (m + 1) (mMin c cc m R) := by
  obtain ⟨⟨sb, s8, s11, sp⟩, ⟨c13, c9, c7, c6, c5, ccr, cq⟩, vd, v1, v7, v4, v10, v12, v14, vs⟩ := hV
  obtain ⟨hW, hB, w, hw, ew⟩ := hR
  have hW0 := hW
  obtain ⟨w1, w2, w0, ⟨h, h20, hh⟩, wd, wq⟩ := hW
  obtain ⟨d, hd5, hd⟩ := wd 0 (by decide)
  have hd' : M (e+11) (m % 7) = nI d := by
    have z := vd 0 (by decide)
    exact z.trans hd
  have hh' : M e 4 = nI h := by rw [v4]; exact hh
  -- behind the fire
  have eM1 : m1M e m M = warmM e m h d M := m1M_eq h20 hd5 hh' hd'
  have eR1 : x1M m R = mWarmM m h d R := x1M_eq h20 hd5 hh hd
  have hM4 : m1M e m M e 4 = nI (hN h d m) := m1M_h h20 hd5 hh' hd'
  have hR4 : x1M m R 63 4 = nI (hN h d m) := x1M_h h20 hd5 hh hd
  have hn : hN h d m ≤ 20 := hN_le h d m
  have k1 : ∀ a, a ≠ e → a ≠ e + 11 → m1M e m M a = M a := fun a h1 h2 => m1M_k h1 h2
  have f1 : ∀ j, j ≠ 4 → m1M e m M e j = M e j := fun j hj => m1M_f hj
  have r1 : ∀ j, j ≠ 4 → j < 13 ∨ 19 < j → x1M m R 63 j = R 63 j := fun j h1 h2 => x1M_j h1 h2
  have cb1 : ∀ b, b < c → CB e (m1M e m M) (x1M m R) b false := fun b hb => by
    refine CB_of ?_
    obtain ⟨x1, x2, x3, x4, x5⟩ := CB_col (sb b hb)
    have rc : ∀ w', w' < 5 → col (x1M m R) w' b = col R w' b := fun w' _ => r1 _ (by omega) (.inr (by omega))
    rw [rc 0 (by decide), rc 1 (by decide), rc 2 (by decide), rc 3 (by decide), rc 4 (by decide), k1 (e+2) (by omega) (by omega), k1 (e+3) (by omega) (by omega), k1 (e+4) (by omega) (by omega), k1 (e+5) (by omega) (by omega), k1 (e+6) (by omega) (by omega)]
    exact ⟨x1, x2, x3, x4, x5⟩
  -- behind the roasting
  have ro := ro_rel (e := e) (h := hN h d m) (c := c) (x := M e 12) c 0 (m1M e m M) (x1M m R) 0 (by omega) (fun b hb => by omega) (fun b _ hb => cb1 b hb) (by rw [r1 11 (by decide) (.inl (by decide)), ← v12, Int32.add_zero])
  have e2 : m2M e c m M = ms (roG e (hN h d m) c 0 (m1M e m M) 0).1 e 12 (M e 12 + (roG e (hN h d m) c 0 (m1M e m M) 0).2) := by
    rw [m2M, hM4, nI_clamp (by omega), f1 12 (by decide)]
  have e2' : x2M c m R = mRoG (hN h d m) c 0 (x1M m R) := by rw [x2M, hR4, nI_clamp (by omega)]
  have cb3 : ∀ b, b < c → CB e (m3M e c m M) (x2M c m R) b false := by
    rw [m3M, e2, e2']
    exact CB_ag (fun b hb => CB_cells (fun a ha => ms_k ha) (ro.1 b hb))
  have k3 : ∀ a, a ≠ e → a ≠ e + 3 → a ≠ e + 4 → a ≠ e + 5 → a ≠ e + 6 → m3M e c m M a = m1M e m M a := fun a h0 h3 h4 h5 h6 => m3M_k h0 h3 h4 h5 h6
  have f3 : ∀ j, j ≠ 12 → m3M e c m M e j = m1M e m M e j := fun j hj => m3M_f hj
  have f3' : ∀ j, j ≠ 12 → j ≠ 4 → m3M e c m M e j = M e j := fun j h1 h2 => by rw [f3 j h1, f1 j h2]
  have r3 : ∀ j, j ≠ 11 → j < 20 ∨ 70 ≤ j → x2M c m R 63 j = x1M m R 63 j := fun j h1 h2 => x2M_j hc h1 h2
  have r3' : ∀ j, j ≠ 11 → j ≠ 4 → j < 13 ∨ 70 ≤ j → x2M c m R 63 j = R 63 j := fun j h1 h2 h3 => by rw [r3 j h1 (by omega), r1 j h2 (by omega)]
  have m12 : m3M e c m M e 12 = x2M c m R 63 11 := by
    rw [e2', ro.2, m3M, agG_k (by omega), e2, ms_s]
  have m4 : m3M e c m M e 4 = x2M c m R 63 4 := by rw [f3 4 (by decide), hM4, r3 4 (by decide) (.inl (by decide)), hR4]
  have bg3 : BGA c (A + 1) (x2M c m R) := by
    rw [e2']
    refine BGA_ro c 0 _ (by omega) (fun b hb => by omega) (fun b _ hb => ?_)
    have rc : ∀ w', w' < 5 → col (x1M m R) w' b = col R w' b := fun w' _ => r1 _ (by omega) (.inr (by omega))
    rw [rc 1 (by decide), rc 3 (by decide)]
    exact hB b hb
  have sr3 : SR e p c (m3M e c m M) (x2M c m R) := ⟨cb3, by rw [f3' 8 (by decide) (by decide), r3' 7 (by decide) (by decide) (.inl (by decide))]; exact s8, by rw [f3' 11 (by decide) (by decide), r3' 10 (by decide) (by decide) (.inl (by decide))]; exact s11, by rw [r3' 5 (by decide) (by decide) (.inl (by decide))]; exact sp⟩
  have cr3 : CRr e c cc (m3M e c m M) (x2M c m R) := by
    refine ⟨by rw [f3' 13 (by decide) (by decide), r3' 12 (by decide) (by decide) (.inl (by decide))]; exact c13, by rw [f3' 9 (by decide) (by decide), r3' 8 (by decide) (by decide) (.inl (by decide))]; exact c9, by rw [f3' 7 (by decide) (by decide), r3' 0 (by decide) (by decide) (.inl (by decide))]; exact c7, by rw [f3' 6 (by decide) (by decide), r3' 6 (by decide) (by decide) (.inl (by decide))]; exact c6, by rw [f3' 5 (by decide) (by decide), r3' 5 (by decide) (by decide) (.inl (by decide))]; exact c5, fun i hi => ?_, fun i hi => ?_⟩
    · rw [k3 (e+8) (by omega) (by omega) (by omega) (by omega) (by omega), k3 (e+9) (by omega) (by omega) (by omega) (by omega) (by omega), k3 (e+10) (by omega) (by omega) (by omega) (by omega) (by omega), k1 (e+8) (by omega) (by omega), k1 (e+9) (by omega) (by omega), k1 (e+10) (by omega) (by omega), r3' _ (by omega) (by omega) (.inr (by omega)), r3' _ (by omega) (by omega) (.inr (by omega)), r3' _ (by omega) (by omega) (.inr (by omega))]
      exact ccr i hi
    · rw [r3' _ (by omega) (by omega) (.inr (by omega)), r3' 6 (by decide) (by decide) (.inl (by decide)), r3' 5 (by decide) (by decide) (.inl (by decide))]
      exact cq i hi
  have m10 : m3M e c m M e 10 = nI w := by rw [f3' 10 (by decide) (by decide), v10]; exact ew
  have x9 : x2M c m R 63 9 = nI w := by rw [r3' 9 (by decide) (by decide) (.inl (by decide))]; exact ew
  -- walking or serving
  have h4 : SR e p c (m4M e c cc p m M) (x3M c cc m R) ∧ BGA c (A + 1) (x3M c cc m R) ∧ CRr e c cc (m4M e c cc p m M) (x3M c cc m R) ∧ m4M e c cc p m M e 10 = x3M c cc m R 63 9 ∧ (∃ w', w' ≤ 9 ∧ x3M c cc m R 63 9 = nI w') ∧ m4M e c cc p m M e 12 = x3M c cc m R 63 11 ∧ m4M e c cc p m M e 4 = x3M c cc m R 63 4 ∧ m4M e c cc p m M e 14 = x3M c cc m R 63 3 := by
    have m14 : m3M e c m M e 14 = x2M c m R 63 3 := by rw [f3' 14 (by decide) (by decide), r3' 3 (by decide) (by decide) (.inl (by decide))]; exact v14
    rcases Nat.eq_zero_or_pos w with z | z
    · subst z
      have g1 : m4M e c cc p m M = serG e p c cc 0 (m3M e c m M) := by rw [m4M, m10, if_neg (by decide)]
      have g2 : x3M c cc m R = mserG c cc 0 (x2M c m R) := by rw [x3M, x9, if_pos (show nI 0 = 0 from rfl)]
      obtain ⟨y1, y2, y3⟩ := serves (e := e) (p := p) hc cc 0 _ _ (by omega) sr3 (BGA_I (by omega) bg3) cr3
      rw [g1, g2]
      have t9 : mserG c cc 0 (x2M c m R) 63 9 = nI 0 := by rw [mserG_j hc (by decide) (by decide) (by decide) (.inl (by decide))]; exact x9
      refine ⟨y1, fun b hb => ⟨(y2 b hb).1, by rw [mser_col (by decide) (by decide)]; exact (bg3 b hb).2⟩, y3, ?_, ⟨0, by omega, t9⟩, ?_, ?_, ?_⟩
      · rw [serG_f (by decide) (by decide) (by decide), t9]; exact m10
      · rw [serG_f (by decide) (by decide) (by decide), mserG_j hc (by decide) (by decide) (by decide) (.inl (by decide))]; exact m12
      · rw [serG_f (by decide) (by decide) (by decide), mserG_j hc (by decide) (by decide) (by decide) (.inl (by decide))]; exact m4
      · rw [serG_f (by decide) (by decide) (by decide), mserG_j hc (by decide) (by decide) (by decide) (.inl (by decide))]; exact m14
    · have g1 : m4M e c cc p m M = ms (m3M e c m M) e 10 (nI w - 1) := by rw [m4M, m10, if_pos ((nI_gt0 (by omega)).mpr z)]
      have g2 : x3M c cc m R = ms (x2M c m R) 63 9 (nI w - 1) := by rw [x3M, x9, if_neg (fun q => by have := (nI_eq (a := w) (b := 0) (by omega) (by decide)).mp q; omega)]
      rw [g1, g2]
      refine ⟨SR_R (SR_ms sr3 (by decide) (by decide)) (by decide) (by decide) (by decide) (by decide), BGA_R bg3 (by decide), CRr_ms cr3 (by decide) (by decide) (by decide) (by decide) (by decide) (by decide) (by decide) (by decide) (by decide) (by decide) (by decide), by rw [ms_s, ms_s], ⟨w - 1, by omega, by rw [ms_s]; exact pk_sub (b := 1) z⟩, ?_, ?_, ?_⟩
      · rw [ms_j (by decide), ms_j (by decide)]; exact m12
      · rw [ms_j (by decide), ms_j (by decide)]; exact m4
      · rw [ms_j (by decide), ms_j (by decide)]; exact m14
  obtain ⟨q1, q2, ⟨d13, d9, d7, d6, d5, dcr, dq⟩, q4, ⟨w', hw', q5⟩, q6, q7, q8⟩ := h4
  refine ⟨⟨SR_R (SR_ms q1 (by decide) (by decide)) (by decide) (by decide) (by decide) (by decide), ⟨?_, ?_, ?_, ?_, ?_, fun i hi => ?_, fun i hi => ?_⟩, fun k hk => ?_, ?_, ?_, ?_, ?_, ?_, ?_, fun k hk => ?_⟩, WM_min hc hW0, BGA_R q2 (by decide), w', hw', ?_⟩
  · rw [minM, mMin, ms_j (by decide), ms_j (by decide)]; exact d13
  · rw [minM, mMin, ms_j (by decide), ms_j (by decide)]; exact d9
  · rw [minM, mMin, ms_s, ms_s]
  · rw [minM, mMin, ms_j (by decide), ms_j (by decide)]; exact d6
  · rw [minM, mMin, ms_j (by decide), ms_j (by decide)]; exact d5
  · rw [minM, mMin, ms_k (show e + 8 ≠ e by omega), ms_k (show e + 9 ≠ e by omega), ms_k (show e + 10 ≠ e by omega), ms_j (by omega), ms_j (by omega), ms_j (by omega)]
    exact dcr i hi
  · rw [mMin, ms_j (by omega), ms_j (by decide), ms_j (by decide)]
    exact dq i hi
  · rw [minM, mMin, ms_k (show e + 11 ≠ e by omega), ms_j (by omega), m4M_k (by omega) (by omega) (by omega) (by omega) (by omega), x3M_j hc (by omega) (by omega) (by omega) (by omega) (by omega) (by omega), eM1, eR1]
    exact due_turn vd k hk
  · rw [minM, ms_k (show e + 1 ≠ e by omega), m4M_k (by omega) (by omega) (by omega) (by omega) (by omega), k1 (e+1) (by omega) (by omega)]; exact v1
  · rw [minM, ms_k (show e + 7 ≠ e by omega), m4M_k (by omega) (by omega) (by omega) (by omega) (by omega), k1 (e+7) (by omega) (by omega)]; exact v7
  · rw [minM, mMin, ms_j (by decide), ms_j (by decide)]; exact q7
  · rw [minM, mMin, ms_j (by decide), ms_j (by decide)]; exact q4
  · rw [minM, mMin, ms_j (by decide), ms_j (by decide)]; exact q6
  · rw [minM, mMin, ms_j (by decide), ms_j (by decide)]; exact q8
  · rw [minM, mMin, ms_k (show e + 12 ≠ e by omega), ms_j (by omega), m4M_k (by omega) (by omega) (by omega) (by omega) (by omega), k1 (e+12) (by omega) (by omega), x3M_j hc (by omega) (by omega) (by omega) (by omega) (by omega) (by omega), r1 _ (by omega) (.inr (by omega))]
    exact vs k hk
  · rw [mMin, ms_j (by decide)]; exact q5
