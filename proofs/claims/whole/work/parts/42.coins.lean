/-! The coins of a plan; becoming; what the plays leave as it is; the choice -/
theorem sub_add_self (x y : Int32) : x + y - x = y := by
  rw [Int32.add_comm]
  exact Int32.sub_eq_iff_eq_add.mpr rfl
theorem less_I {p : Nat} (h : p ≤ 1000) : lessF (nI p) = nI (p - 2) := by
  unfold lessF
  by_cases q : p < 2
  · rw [if_pos (show nI p < 2 from (nI_ltI (a := p) (b := 2) (by omega) (by decide)).mpr q), show p - 2 = 0 by omega]
    rfl
  · rw [if_neg (show ¬ nI p < 2 from fun z => q ((nI_ltI (a := p) (b := 2) (by omega) (by decide)).mp z))]
    exact pk_sub (a := p) (b := 2) (by omega)
theorem half_I {w : Nat} (h : w ≤ 1000) : nI w / 2 = nI (w / 2) := pk_div (a := w) (d := 2) (by omega) (by decide) (by decide)
theorem worth_I {p : Nat} (h : p ≤ 99) (k : Int32) : ∃ w, w ≤ 101 ∧ worthF k (nI p) = nI w := by
  unfold worthF
  split
  · exact ⟨p + 2, by omega, nI_add p 2⟩
  · split
    · exact ⟨p - 2, by omega, less_I (by omega)⟩
    · split
      · exact ⟨(p - 2) / 2, by omega, by rw [less_I (by omega), half_I (by omega)]⟩
      · exact ⟨p, by omega, rfl⟩
theorem take_7 {b : Nat} {v : Int32} {R : Mem} : mTake b v R 63 7 = R 63 7 + v := by
  rw [mTake, ms_j (by decide), ms_j (by omega), ms_s]
theorem buy_coin {c p : Nat} (hp : p ≤ 99) : ∀ (n : Nat) (R : Mem), R 63 5 = nI p → ∃ g, g ≤ n * 101 ∧ buyG c n R 63 7 = R 63 7 + nI g := by
  intro n
  induction n with
  | zero => intro R h; exact ⟨0, by omega, by rw [nI_0, Int32.add_zero]; rfl⟩
  | succ n ih =>
    intro R h
    have go : ∀ b v w, w ≤ 101 → v = nI w → ∃ g, g ≤ (n + 1) * 101 ∧ buyG c n (mTake b v R) 63 7 = R 63 7 + nI g := by
      intro b v w hw ev
      obtain ⟨g, hg, eg⟩ := ih (mTake b v R) (by rw [mTake_j (by decide) (by decide) (by omega)]; exact h)
      exact ⟨w + g, by omega, by rw [eg, take_7, ev, Int32.add_assoc, nI_add]⟩
    rcases a1 : bo1 c R with _ | b
    · rcases a2 : bo2 c R with _ | b
      · simp only [buyG, a1, a2]
        exact ⟨0, by omega, by rw [ms_j (by decide), nI_0, Int32.add_zero]⟩
      · simp only [buyG, a1, a2]
        obtain ⟨w, hw, ew⟩ := worth_I hp (R 63 (20 + 5 * b))
        exact go b _ (w / 2) (by omega) (by rw [h, ew, half_I (by omega)])
    · simp only [buyG, a1]
      obtain ⟨w, hw, ew⟩ := worth_I hp (R 63 (20 + 5 * b))
      exact go b _ w hw (by rw [h, ew])
def CNB (cc p : Nat) (R : Mem) : Prop := R 63 5 = nI p ∧ ∀ i, i < cc → ∃ q, q ≤ 400 ∧ comeF (R 63 (70 + 3 * i + 2)) (R 63 6) (R 63 5) = nI q
theorem CNB_of {cc p : Nat} {R R' : Mem} (h : ∀ j, j = 5 ∨ j = 6 ∨ 70 ≤ j → R' 63 j = R 63 j) (hN : CNB cc p R) : CNB cc p R' :=
  ⟨by rw [h 5 (by omega)]; exact hN.1, fun i hi => by rw [h 5 (by omega), h 6 (by omega), h _ (by omega)]; exact hN.2 i hi⟩
theorem mser_coin {c cc p : Nat} (hc : c ≤ 10) (hp : p ≤ 99) : ∀ (n i : Nat) (R : Mem), i + n ≤ cc → CNB cc p R → ∃ g, g ≤ n * 40400 ∧ mserG c n i R 63 7 = R 63 7 + nI g := by
  intro n
  induction n with
  | zero => intro i R hi h; exact ⟨0, by omega, by rw [nI_0, Int32.add_zero]; rfl⟩
  | succ n ih =>
    intro i R hi h
    simp only [mserG]
    by_cases q : R 63 (70 + 3 * i) = R 63 8 ∧ R 63 (70 + 3 * i + 1) = R 63 0
    · rw [if_pos q]
      obtain ⟨z, hz, ez⟩ := h.2 i (by omega)
      have en : comeN i R = z := by rw [comeN, ez]; exact nI_clamp (by omega)
      rw [en]
      obtain ⟨g1, hg1, e1⟩ := buy_coin (c := c) hp z R h.1
      obtain ⟨g2, hg2, e2⟩ := ih (i + 1) (buyG c z R) (by omega) (CNB_of (fun j hj => buyG_j hc (by omega) (by omega) (by omega) (by omega) _ _) h)
      have := Nat.mul_le_mul_right 101 hz
      exact ⟨g1 + g2, by omega, by rw [e2, e1, Int32.add_assoc, nI_add]⟩
    · rw [if_neg q]
      obtain ⟨g2, hg2, e2⟩ := ih (i + 1) R (by omega) h
      exact ⟨g2, Nat.le_trans hg2 (Nat.mul_le_mul_right _ (Nat.le_succ n)), e2⟩
theorem mMin_coin {c cc p m : Nat} (hc : c ≤ 10) (hcc : cc ≤ 12) (hp : p ≤ 99) {R : Mem} (h : CNB cc p R) : ∃ g, g ≤ 484800 ∧ mMin c cc m R 63 7 = R 63 7 + nI g := by
  have e2 : ∀ j, j = 5 ∨ j = 6 ∨ j = 7 ∨ 70 ≤ j → x2M c m R 63 j = R 63 j := fun j hj => by rw [x2M_j hc (by omega) (by omega), x1M_j (by omega) (by omega)]
  rw [mMin, ms_j (by decide)]
  unfold x3M
  split
  · obtain ⟨g, hg, eg⟩ := mser_coin hc hp cc 0 (x2M c m R) (by omega) (CNB_of (fun j hj => e2 j (by omega)) h)
    have := Nat.mul_le_mul_right 40400 hcc
    exact ⟨g, by omega, by rw [eg, e2 7 (by omega)]⟩
  · exact ⟨0, by omega, by rw [ms_j (by decide), e2 7 (by omega), nI_0, Int32.add_zero]⟩
theorem CNB_min {c cc p m : Nat} (hc : c ≤ 10) {R : Mem} (h : CNB cc p R) : CNB cc p (mMin c cc m R) :=
  CNB_of (fun j hj => by
    rcases hj with z | z | z
    · exact mMin_lo hc (by omega)
    · exact mMin_lo hc (by omega)
    · exact mMin_j hc z) h
theorem go_coin {c cc p : Nat} (hc : c ≤ 10) (hcc : cc ≤ 12) (hp : p ≤ 99) : ∀ (n m : Nat) (R : Mem), CNB cc p R → ∃ g, g ≤ n * 484800 ∧ mGo c cc n m R 63 7 = R 63 7 + nI g := by
  intro n
  induction n with
  | zero => intro m R h; exact ⟨0, by omega, by rw [nI_0, Int32.add_zero]; rfl⟩
  | succ n ih =>
    intro m R h
    obtain ⟨g1, hg1, e1⟩ := mMin_coin (m := m) hc hcc hp h
    obtain ⟨g2, hg2, e2⟩ := ih (m + 1) _ (CNB_min (m := m) hc h)
    exact ⟨g1 + g2, by omega, by simp only [mGo]; rw [e2, e1, Int32.add_assoc, nI_add]⟩
theorem CNB_go {c cc p : Nat} (hc : c ≤ 10) : ∀ (n m : Nat) (R : Mem), CNB cc p R → CNB cc p (mGo c cc n m R) := by
  intro n
  induction n with
  | zero => intro m R h; exact h
  | succ n ih => intro m R h; exact ih _ _ (CNB_min hc h)
theorem cnF_I {c cc p n m g : Nat} (hc : c ≤ 10) (hcc : cc ≤ 12) (hp : p ≤ 99) (hn : n ≤ 120) (hg : g ≤ 60000000) {R' R : Mem} (hN : CNB cc p R') (h7 : R' 63 7 = R 63 7 + nI g) : ∃ q, q ≤ 120000000 ∧ cnF c cc n m R' R = nI q := by
  obtain ⟨g2, hg2, e2⟩ := go_coin hc hcc hp n m R' hN
  have := Nat.mul_le_mul_right 484800 hn
  exact ⟨g + g2, by omega, by rw [cnF, e2, h7, Int32.add_assoc, nI_add, sub_add_self]⟩
theorem cnF_I0 {c cc p n m : Nat} (hc : c ≤ 10) (hcc : cc ≤ 12) (hp : p ≤ 99) (hn : n ≤ 120) {R' R : Mem} (hN : CNB cc p R') (h7 : R' 63 7 = R 63 7) : ∃ q, q ≤ 120000000 ∧ cnF c cc n m R' R = nI q :=
  cnF_I (g := 0) hc hcc hp hn (by omega) hN (by rw [h7, nI_0, Int32.add_zero])
theorem ST_CNB {e c cc p m A B : Nat} {M R : Mem} (hp : p ≤ 99) (hV : ST e c cc p m A B M R) : CNB cc p R := ⟨hV.2.2.2.1, ST_come hp hV⟩
theorem bec_1_27 {c cc p m : Nat} (hc : c ≤ 10) (hcc : cc ≤ 12) {M R : Mem} (hV : RV 27 c cc p m M R) : RV 1 c cc p m (eBecM 1 27 M) R := by
  have s : ∀ j, 4 ≤ j → j ≤ 14 → eBecM 1 27 M 1 j = M 27 j := fun j h1 h2 => if_pos ⟨rfl, h1, h2⟩
  have r : ∀ a, a ≠ 1 → ∀ j, eBecM 1 27 M a j = mr (mr (cBecM 1 27 (nBecM 1 27 M)) (1+11) (va_cpy (M (27+11)) (M (1+11)) 0 0 7)) (1+12) (va_cpy (M (27+12)) (M (1+12)) 0 0 10) a j := fun a h j => if_neg (fun q => h q.1)
  have a2 : ∀ b, b < 10 → eBecM 1 27 M (1+2) b = M (27+2) b := fun b hb => by rw [r _ (by decide)]; simp [mr, cBecM, nBecM, va_cpy, ms, hb]
  have a3 : ∀ b, b < 10 → eBecM 1 27 M (1+3) b = M (27+3) b := fun b hb => by rw [r _ (by decide)]; simp [mr, cBecM, nBecM, va_cpy, ms, hb]
  have a4 : ∀ b, b < 10 → eBecM 1 27 M (1+4) b = M (27+4) b := fun b hb => by rw [r _ (by decide)]; simp [mr, cBecM, nBecM, va_cpy, ms, hb]
  have a5 : ∀ b, b < 10 → eBecM 1 27 M (1+5) b = M (27+5) b := fun b hb => by rw [r _ (by decide)]; simp [mr, cBecM, nBecM, va_cpy, ms, hb]
  have a6 : ∀ b, b < 10 → eBecM 1 27 M (1+6) b = M (27+6) b := fun b hb => by rw [r _ (by decide)]; simp [mr, cBecM, nBecM, va_cpy, ms, hb]
  have a8 : ∀ b, b < 12 → eBecM 1 27 M (1+8) b = M (27+8) b := fun b hb => by rw [r _ (by decide)]; simp [mr, cBecM, nBecM, va_cpy, ms, hb]
  have a9 : ∀ b, b < 12 → eBecM 1 27 M (1+9) b = M (27+9) b := fun b hb => by rw [r _ (by decide)]; simp [mr, cBecM, nBecM, va_cpy, ms, hb]
  have a10 : ∀ b, b < 12 → eBecM 1 27 M (1+10) b = M (27+10) b := fun b hb => by rw [r _ (by decide)]; simp [mr, cBecM, nBecM, va_cpy, ms, hb]
  have a11 : ∀ b, b < 7 → eBecM 1 27 M (1+11) b = M (27+11) b := fun b hb => by rw [r _ (by decide)]; simp [mr, cBecM, nBecM, va_cpy, ms, hb]
  have a12 : ∀ b, b < 10 → eBecM 1 27 M (1+12) b = M (27+12) b := fun b hb => by rw [r _ (by decide)]; simp [mr, cBecM, nBecM, va_cpy, ms, hb]
  have b1 : eBecM 1 27 M (1+1) 5 = M (27+1) 5 := by rw [r _ (by decide)]; simp [mr, cBecM, nBecM, ms]
  have b7 : eBecM 1 27 M (1+7) 3 = M (27+7) 3 := by rw [r _ (by decide)]; simp [mr, cBecM, nBecM, ms]
  obtain ⟨⟨sb, s8, s11, sp⟩, ⟨c13, c9, c7, c6, c5, ccr, cq⟩, vd, v1, v7, v4, v10, v12, v14, vs⟩ := hV
  refine ⟨⟨fun b hb => CB_of ?_, by rw [s 8 (by decide) (by decide)]; exact s8, by rw [s 11 (by decide) (by decide)]; exact s11, sp⟩, ⟨by rw [s 13 (by decide) (by decide)]; exact c13, by rw [s 9 (by decide) (by decide)]; exact c9, by rw [s 7 (by decide) (by decide)]; exact c7, by rw [s 6 (by decide) (by decide)]; exact c6, by rw [s 5 (by decide) (by decide)]; exact c5, fun i hi => ?_, cq⟩, fun k hk => ?_, b1.trans v1, b7.trans v7, by rw [s 4 (by decide) (by decide)]; exact v4, by rw [s 10 (by decide) (by decide)]; exact v10, by rw [s 12 (by decide) (by decide)]; exact v12, by rw [s 14 (by decide) (by decide)]; exact v14, fun k hk => ?_⟩
  · rw [a2 b (by omega), a3 b (by omega), a4 b (by omega), a5 b (by omega), a6 b (by omega)]
    exact CB_col (sb b hb)
  · rw [a8 i (by omega), a9 i (by omega), a10 i (by omega)]
    exact ccr i hi
  · rw [a11 _ (Nat.mod_lt _ (by decide))]
    exact vd k hk
  · rw [a12 k hk]
    exact vs k hk
theorem bec_14_1 {c cc p m : Nat} (hc : c ≤ 10) (hcc : cc ≤ 12) {M R : Mem} (hV : RV 1 c cc p m M R) : RV 14 c cc p m (eBecM 14 1 M) R := by
  have s : ∀ j, 4 ≤ j → j ≤ 14 → eBecM 14 1 M 14 j = M 1 j := fun j h1 h2 => if_pos ⟨rfl, h1, h2⟩
  have r : ∀ a, a ≠ 14 → ∀ j, eBecM 14 1 M a j = mr (mr (cBecM 14 1 (nBecM 14 1 M)) (14+11) (va_cpy (M (1+11)) (M (14+11)) 0 0 7)) (14+12) (va_cpy (M (1+12)) (M (14+12)) 0 0 10) a j := fun a h j => if_neg (fun q => h q.1)
  have a2 : ∀ b, b < 10 → eBecM 14 1 M (14+2) b = M (1+2) b := fun b hb => by rw [r _ (by decide)]; simp [mr, cBecM, nBecM, va_cpy, ms, hb]
  have a3 : ∀ b, b < 10 → eBecM 14 1 M (14+3) b = M (1+3) b := fun b hb => by rw [r _ (by decide)]; simp [mr, cBecM, nBecM, va_cpy, ms, hb]
  have a4 : ∀ b, b < 10 → eBecM 14 1 M (14+4) b = M (1+4) b := fun b hb => by rw [r _ (by decide)]; simp [mr, cBecM, nBecM, va_cpy, ms, hb]
  have a5 : ∀ b, b < 10 → eBecM 14 1 M (14+5) b = M (1+5) b := fun b hb => by rw [r _ (by decide)]; simp [mr, cBecM, nBecM, va_cpy, ms, hb]
  have a6 : ∀ b, b < 10 → eBecM 14 1 M (14+6) b = M (1+6) b := fun b hb => by rw [r _ (by decide)]; simp [mr, cBecM, nBecM, va_cpy, ms, hb]
  have a8 : ∀ b, b < 12 → eBecM 14 1 M (14+8) b = M (1+8) b := fun b hb => by rw [r _ (by decide)]; simp [mr, cBecM, nBecM, va_cpy, ms, hb]
  have a9 : ∀ b, b < 12 → eBecM 14 1 M (14+9) b = M (1+9) b := fun b hb => by rw [r _ (by decide)]; simp [mr, cBecM, nBecM, va_cpy, ms, hb]
  have a10 : ∀ b, b < 12 → eBecM 14 1 M (14+10) b = M (1+10) b := fun b hb => by rw [r _ (by decide)]; simp [mr, cBecM, nBecM, va_cpy, ms, hb]
  have a11 : ∀ b, b < 7 → eBecM 14 1 M (14+11) b = M (1+11) b := fun b hb => by rw [r _ (by decide)]; simp [mr, cBecM, nBecM, va_cpy, ms, hb]
  have a12 : ∀ b, b < 10 → eBecM 14 1 M (14+12) b = M (1+12) b := fun b hb => by rw [r _ (by decide)]; simp [mr, cBecM, nBecM, va_cpy, ms, hb]
  have b1 : eBecM 14 1 M (14+1) 5 = M (1+1) 5 := by rw [r _ (by decide)]; simp [mr, cBecM, nBecM, ms]
  have b7 : eBecM 14 1 M (14+7) 3 = M (1+7) 3 := by rw [r _ (by decide)]; simp [mr, cBecM, nBecM, ms]
  obtain ⟨⟨sb, s8, s11, sp⟩, ⟨c13, c9, c7, c6, c5, ccr, cq⟩, vd, v1, v7, v4, v10, v12, v14, vs⟩ := hV
  refine ⟨⟨fun b hb => CB_of ?_, by rw [s 8 (by decide) (by decide)]; exact s8, by rw [s 11 (by decide) (by decide)]; exact s11, sp⟩, ⟨by rw [s 13 (by decide) (by decide)]; exact c13, by rw [s 9 (by decide) (by decide)]; exact c9, by rw [s 7 (by decide) (by decide)]; exact c7, by rw [s 6 (by decide) (by decide)]; exact c6, by rw [s 5 (by decide) (by decide)]; exact c5, fun i hi => ?_, cq⟩, fun k hk => ?_, b1.trans v1, b7.trans v7, by rw [s 4 (by decide) (by decide)]; exact v4, by rw [s 10 (by decide) (by decide)]; exact v10, by rw [s 12 (by decide) (by decide)]; exact v12, by rw [s 14 (by decide) (by decide)]; exact v14, fun k hk => ?_⟩
  · rw [a2 b (by omega), a3 b (by omega), a4 b (by omega), a5 b (by omega), a6 b (by omega)]
    exact CB_col (sb b hb)
  · rw [a8 i (by omega), a9 i (by omega), a10 i (by omega)]
    exact ccr i hi
  · rw [a11 _ (Nat.mod_lt _ (by decide))]
    exact vd k hk
  · rw [a12 k hk]
    exact vs k hk
theorem bec_1_14 {c cc p m : Nat} (hc : c ≤ 10) (hcc : cc ≤ 12) {M R : Mem} (hV : RV 14 c cc p m M R) : RV 1 c cc p m (eBecM 1 14 M) R := by
  have s : ∀ j, 4 ≤ j → j ≤ 14 → eBecM 1 14 M 1 j = M 14 j := fun j h1 h2 => if_pos ⟨rfl, h1, h2⟩
  have r : ∀ a, a ≠ 1 → ∀ j, eBecM 1 14 M a j = mr (mr (cBecM 1 14 (nBecM 1 14 M)) (1+11) (va_cpy (M (14+11)) (M (1+11)) 0 0 7)) (1+12) (va_cpy (M (14+12)) (M (1+12)) 0 0 10) a j := fun a h j => if_neg (fun q => h q.1)
  have a2 : ∀ b, b < 10 → eBecM 1 14 M (1+2) b = M (14+2) b := fun b hb => by rw [r _ (by decide)]; simp [mr, cBecM, nBecM, va_cpy, ms, hb]
  have a3 : ∀ b, b < 10 → eBecM 1 14 M (1+3) b = M (14+3) b := fun b hb => by rw [r _ (by decide)]; simp [mr, cBecM, nBecM, va_cpy, ms, hb]
  have a4 : ∀ b, b < 10 → eBecM 1 14 M (1+4) b = M (14+4) b := fun b hb => by rw [r _ (by decide)]; simp [mr, cBecM, nBecM, va_cpy, ms, hb]
  have a5 : ∀ b, b < 10 → eBecM 1 14 M (1+5) b = M (14+5) b := fun b hb => by rw [r _ (by decide)]; simp [mr, cBecM, nBecM, va_cpy, ms, hb]
  have a6 : ∀ b, b < 10 → eBecM 1 14 M (1+6) b = M (14+6) b := fun b hb => by rw [r _ (by decide)]; simp [mr, cBecM, nBecM, va_cpy, ms, hb]
  have a8 : ∀ b, b < 12 → eBecM 1 14 M (1+8) b = M (14+8) b := fun b hb => by rw [r _ (by decide)]; simp [mr, cBecM, nBecM, va_cpy, ms, hb]
  have a9 : ∀ b, b < 12 → eBecM 1 14 M (1+9) b = M (14+9) b := fun b hb => by rw [r _ (by decide)]; simp [mr, cBecM, nBecM, va_cpy, ms, hb]
  have a10 : ∀ b, b < 12 → eBecM 1 14 M (1+10) b = M (14+10) b := fun b hb => by rw [r _ (by decide)]; simp [mr, cBecM, nBecM, va_cpy, ms, hb]
  have a11 : ∀ b, b < 7 → eBecM 1 14 M (1+11) b = M (14+11) b := fun b hb => by rw [r _ (by decide)]; simp [mr, cBecM, nBecM, va_cpy, ms, hb]
  have a12 : ∀ b, b < 10 → eBecM 1 14 M (1+12) b = M (14+12) b := fun b hb => by rw [r _ (by decide)]; simp [mr, cBecM, nBecM, va_cpy, ms, hb]
  have b1 : eBecM 1 14 M (1+1) 5 = M (14+1) 5 := by rw [r _ (by decide)]; simp [mr, cBecM, nBecM, ms]
  have b7 : eBecM 1 14 M (1+7) 3 = M (14+7) 3 := by rw [r _ (by decide)]; simp [mr, cBecM, nBecM, ms]
  obtain ⟨⟨sb, s8, s11, sp⟩, ⟨c13, c9, c7, c6, c5, ccr, cq⟩, vd, v1, v7, v4, v10, v12, v14, vs⟩ := hV
  refine ⟨⟨fun b hb => CB_of ?_, by rw [s 8 (by decide) (by decide)]; exact s8, by rw [s 11 (by decide) (by decide)]; exact s11, sp⟩, ⟨by rw [s 13 (by decide) (by decide)]; exact c13, by rw [s 9 (by decide) (by decide)]; exact c9, by rw [s 7 (by decide) (by decide)]; exact c7, by rw [s 6 (by decide) (by decide)]; exact c6, by rw [s 5 (by decide) (by decide)]; exact c5, fun i hi => ?_, cq⟩, fun k hk => ?_, b1.trans v1, b7.trans v7, by rw [s 4 (by decide) (by decide)]; exact v4, by rw [s 10 (by decide) (by decide)]; exact v10, by rw [s 12 (by decide) (by decide)]; exact v12, by rw [s 14 (by decide) (by decide)]; exact v14, fun k hk => ?_⟩
  · rw [a2 b (by omega), a3 b (by omega), a4 b (by omega), a5 b (by omega), a6 b (by omega)]
    exact CB_col (sb b hb)
  · rw [a8 i (by omega), a9 i (by omega), a10 i (by omega)]
    exact ccr i hi
  · rw [a11 _ (Nat.mod_lt _ (by decide))]
    exact vd k hk
  · rw [a12 k hk]
    exact vs k hk
theorem ST_27_1 {c cc p m A B : Nat} (hc : c ≤ 10) (hcc : cc ≤ 12) (hp : p ≤ 99) {M R : Mem} (hV : ST 1 c cc p m A B M R) : ST 27 c cc p m A B (eBecM 27 1 M) R := by
  obtain ⟨⟨sb', h8', h11', sp'⟩, ⟨c13', c9', c7', c6', c5', ccr', cq'⟩, vd', v1', v7', v4', v10', v12', v14', vs'⟩ := bec_27_1 hc hcc (ST_RV hp hV)
  obtain ⟨hb, h8, h11, s5, h13, h9, h7, h6, h5, hcr, hd, hc1, hc7, h4, h10, h12, h14, hs, s1, s2, s0, s4, sd, sg, sa, s9, s8, s6, sm⟩ := hV
  exact ⟨fun b zb => CB_col (sb' b zb), h8', h11', sp', c13', c9', c7', c6', c5', ccr', vd', v1', v7', v4', v10', v12', v14', vs', s1, s2, s0, s4, sd, sg, sa, s9, s8, s6, sm⟩
theorem ST_40_1 {c cc p m A B : Nat} (hc : c ≤ 10) (hcc : cc ≤ 12) (hp : p ≤ 99) {M R : Mem} (hV : ST 1 c cc p m A B M R) : ST 40 c cc p m A B (eBecM 40 1 M) R := by
  obtain ⟨⟨sb', h8', h11', sp'⟩, ⟨c13', c9', c7', c6', c5', ccr', cq'⟩, vd', v1', v7', v4', v10', v12', v14', vs'⟩ := bec_40_1 hc hcc (ST_RV hp hV)
  obtain ⟨hb, h8, h11, s5, h13, h9, h7, h6, h5, hcr, hd, hc1, hc7, h4, h10, h12, h14, hs, s1, s2, s0, s4, sd, sg, sa, s9, s8, s6, sm⟩ := hV
  exact ⟨fun b zb => CB_col (sb' b zb), h8', h11', sp', c13', c9', c7', c6', c5', ccr', vd', v1', v7', v4', v10', v12', v14', vs', s1, s2, s0, s4, sd, sg, sa, s9, s8, s6, sm⟩
theorem ST_27_40 {c cc p m A B : Nat} (hc : c ≤ 10) (hcc : cc ≤ 12) (hp : p ≤ 99) {M R : Mem} (hV : ST 40 c cc p m A B M R) : ST 27 c cc p m A B (eBecM 27 40 M) R := by
  obtain ⟨⟨sb', h8', h11', sp'⟩, ⟨c13', c9', c7', c6', c5', ccr', cq'⟩, vd', v1', v7', v4', v10', v12', v14', vs'⟩ := bec_27_40 hc hcc (ST_RV hp hV)
  obtain ⟨hb, h8, h11, s5, h13, h9, h7, h6, h5, hcr, hd, hc1, hc7, h4, h10, h12, h14, hs, s1, s2, s0, s4, sd, sg, sa, s9, s8, s6, sm⟩ := hV
  exact ⟨fun b zb => CB_col (sb' b zb), h8', h11', sp', c13', c9', c7', c6', c5', ccr', vd', v1', v7', v4', v10', v12', v14', vs', s1, s2, s0, s4, sd, sg, sa, s9, s8, s6, sm⟩
theorem ST_1_27 {c cc p m A B : Nat} (hc : c ≤ 10) (hcc : cc ≤ 12) (hp : p ≤ 99) {M R : Mem} (hV : ST 27 c cc p m A B M R) : ST 1 c cc p m A B (eBecM 1 27 M) R := by
  obtain ⟨⟨sb', h8', h11', sp'⟩, ⟨c13', c9', c7', c6', c5', ccr', cq'⟩, vd', v1', v7', v4', v10', v12', v14', vs'⟩ := bec_1_27 hc hcc (ST_RV hp hV)
  obtain ⟨hb, h8, h11, s5, h13, h9, h7, h6, h5, hcr, hd, hc1, hc7, h4, h10, h12, h14, hs, s1, s2, s0, s4, sd, sg, sa, s9, s8, s6, sm⟩ := hV
  exact ⟨fun b zb => CB_col (sb' b zb), h8', h11', sp', c13', c9', c7', c6', c5', ccr', vd', v1', v7', v4', v10', v12', v14', vs', s1, s2, s0, s4, sd, sg, sa, s9, s8, s6, sm⟩
theorem ST_14_1 {c cc p m A B : Nat} (hc : c ≤ 10) (hcc : cc ≤ 12) (hp : p ≤ 99) {M R : Mem} (hV : ST 1 c cc p m A B M R) : ST 14 c cc p m A B (eBecM 14 1 M) R := by
  obtain ⟨⟨sb', h8', h11', sp'⟩, ⟨c13', c9', c7', c6', c5', ccr', cq'⟩, vd', v1', v7', v4', v10', v12', v14', vs'⟩ := bec_14_1 hc hcc (ST_RV hp hV)
  obtain ⟨hb, h8, h11, s5, h13, h9, h7, h6, h5, hcr, hd, hc1, hc7, h4, h10, h12, h14, hs, s1, s2, s0, s4, sd, sg, sa, s9, s8, s6, sm⟩ := hV
  exact ⟨fun b zb => CB_col (sb' b zb), h8', h11', sp', c13', c9', c7', c6', c5', ccr', vd', v1', v7', v4', v10', v12', v14', vs', s1, s2, s0, s4, sd, sg, sa, s9, s8, s6, sm⟩
theorem ST_1_14 {c cc p m A B : Nat} (hc : c ≤ 10) (hcc : cc ≤ 12) (hp : p ≤ 99) {M R : Mem} (hV : ST 14 c cc p m A B M R) : ST 1 c cc p m A B (eBecM 1 14 M) R := by
  obtain ⟨⟨sb', h8', h11', sp'⟩, ⟨c13', c9', c7', c6', c5', ccr', cq'⟩, vd', v1', v7', v4', v10', v12', v14', vs'⟩ := bec_1_14 hc hcc (ST_RV hp hV)
  obtain ⟨hb, h8, h11, s5, h13, h9, h7, h6, h5, hcr, hd, hc1, hc7, h4, h10, h12, h14, hs, s1, s2, s0, s4, sd, sg, sa, s9, s8, s6, sm⟩ := hV
  exact ⟨fun b zb => CB_col (sb' b zb), h8', h11', sp', c13', c9', c7', c6', c5', ccr', vd', v1', v7', v4', v10', v12', v14', vs', s1, s2, s0, s4, sd, sg, sa, s9, s8, s6, sm⟩
/-! what the plays leave as it is -/
def FR (M' M : Mem) : Prop := ∀ k, k < 27 ∨ 53 < k → M' k = M k
theorem FR_rf (M : Mem) : FR M M := fun _ _ => rfl
theorem FR_bec {e f : Nat} (h1 : 27 ≤ e) (h2 : e ≤ 40) {M' M : Mem} (h : FR M' M) : FR (eBecM e f M') M := fun k z => (bec_k (by omega)).trans (h k z)
theorem FR_pass {e c cc p n m : Nat} (h1 : 27 ≤ e) (h2 : e ≤ 40) {M' M : Mem} (h : FR M' M) : FR (passG e c cc p n m M') M := fun k z => (pass_k (by omega) n m M').trans (h k z)
theorem FR_ms {a j : Nat} {v : Int32} (h1 : 27 ≤ a) (h2 : a ≤ 53) {M' M : Mem} (h : FR M' M) : FR (ms M' a j v) M := fun k z => (ms_k (by omega)).trans (h k z)
theorem FR_lay {e b : Nat} {p : Int32} (h1 : 27 ≤ e) (h2 : e ≤ 40) {M' M : Mem} (h : FR M' M) : FR (layM e b p M') M := by
  unfold layM
  split
  · exact FR_ms (by omega) (by omega) (FR_ms (by omega) (by omega) h)
  · split
    · exact FR_ms (by omega) (by omega) (FR_ms (by omega) (by omega) h)
    · exact FR_ms (by omega) (by omega) h
theorem FR_out {e : Nat} {t : Int32} (h1 : 27 ≤ e) (h2 : e ≤ 40) {M' M : Mem} (h : FR M' M) : FR (setOutM e t M') M := FR_ms (by omega) (by omega) (FR_ms (by omega) (by omega) h)
theorem FR_offer {k w : Int32} {M' M : Mem} (h : FR M' M) : FR (offerM M' k w) M := by
  unfold offerM
  split
  · exact FR_ms (by omega) (by omega) (FR_ms (by omega) (by omega) h)
  · exact h
theorem ST_FR {c cc p m A B : Nat} {M' M R : Mem} (h : FR M' M) (hV : ST 1 c cc p m A B M R) : ST 1 c cc p m A B M' R := ST_M (fun a h1 h2 => h a (by omega)) hV
/-- an answer, all but the plays' own cells as it was -/
def QA (v : Int32) (M : Mem) : Option Value → Mem → Prop := fun rv M' => rv = some (.int v) ∧ FR M' M
def F61 (M R : Mem) : Prop := ∀ k, k < 7 → M 61 k = R 66 k
/-- the reference's answer; all but the plays' own cells and the findings as it was; the findings as the reference's -/
def PQ (a : Int32 × Mem) (M : Mem) : Option Value → Mem → Prop := fun rv M' => rv = some (.int a.1) ∧ (∀ k, k < 27 ∨ 53 < k → k ≠ 61 → M' k = M k) ∧ F61 M' a.2
theorem F61_f {w : Nat} {M R : Mem} (h : F61 M R) : F61 (cfd w M) (fdM w R) := by
  intro k hk
  unfold cfd fdM
  by_cases q : k = w
  · subst q; rw [ms_s, ms_s, h k hk]
  · rw [ms_j q, ms_j q]; exact h k hk
theorem PQ_f {w : Nat} {x : Int32} {a : Int32 × Mem} {M R : Mem} (h : F61 M R) (ha : a = (x, fdM w R)) : PQ a M (some (.int x)) (cfd w M) := by
  subst ha
  exact ⟨rfl, fun k _ hk => ms_k hk, F61_f h⟩
theorem PQ_fFR {w : Nat} {x : Int32} {a : Int32 × Mem} {M' M R R' : Mem} (hF : FR M' M) (h : F61 M R) (hR : R' 66 = R 66) (ha : a = (x, fdM w R')) : PQ a M (some (.int x)) (cfd w M') := by
  subst ha
  exact ⟨rfl, fun k z hk => (ms_k hk).trans (hF k z), F61_f (fun k hk => by rw [hF 61 (by omega), hR]; exact h k hk)⟩
theorem PQ_v {x : Int32} {a : Int32 × Mem} {M' M R R' : Mem} (hF : FR M' M) (h : F61 M R) (hR : R' 66 = R 66) (ha : a = (x, R')) : PQ a M (some (.int x)) M' := by
  subst ha
  exact ⟨rfl, fun k z _ => hF k z, fun k hk => by rw [hF 61 (by omega)]; show M 61 k = R' 66 k; rw [hR]; exact h k hk⟩
theorem QA_PQ {x : Int32} {a : Int32 × Mem} {M R R' : Mem} (h : F61 M R) (hR : R' 66 = R 66) (ha : a = (x, R')) : ∀ rv M', QA x M rv M' → PQ a M rv M' := by
  intro rv M' q
  obtain ⟨rfl, hF⟩ := q
  exact PQ_v hF h hR ha
theorem SV_66 {R : Mem} : SV R 66 = R 66 := SV_k (by decide)
/-! the choice -/
def CI (i : Nat) (b mo : Int32) (M : Mem) : Prop := (i = 0 ∧ M 53 0 < 0 ∧ mo = -1) ∨ (M 53 0 = b ∧ ¬ b < 0 ∧ M 53 1 = mo)
theorem CI_0 {M : Mem} : CI 0 0 (-1) (ms M 53 0 (-1)) := .inl ⟨rfl, by rw [ms_s]; decide, rfl⟩
theorem CI_step {i : Nat} {b mo k : Int32} {M : Mem} {g : Nat} {w : Int32} (hw : w = nI g) (hg : g ≤ 120000000) (hk : ¬ k < 0) (h : CI i b mo M) : CI (i + 1) (if mo < w then k else b) (if mo < w then w else mo) (offerM M k w) := by
  rcases h with ⟨-, h1, h2⟩ | ⟨h1, h2, h3⟩
  · have hl : mo < w := by
      rw [h2, hw, Int32.lt_iff_toInt_lt, nI_toInt (by omega)]
      have : (-1 : Int32).toInt = -1 := rfl
      omega
    rw [if_pos hl, if_pos hl]
    refine .inr ⟨?_, hk, ?_⟩
    · rw [offerM, if_pos (.inl h1), ms_j (by decide), ms_s]
    · rw [offerM, if_pos (.inl h1), ms_s]
  · by_cases q : mo < w
    · rw [if_pos q, if_pos q]
      refine .inr ⟨?_, hk, ?_⟩
      · rw [offerM, if_pos (.inr (by rw [h3]; exact q)), ms_j (by decide), ms_s]
      · rw [offerM, if_pos (.inr (by rw [h3]; exact q)), ms_s]
    · rw [if_neg q, if_neg q]
      have hn : offerM M k w = M := by
        rw [offerM, if_neg]
        intro z
        rcases z with z | z
        · rw [h1] at z; exact h2 z
        · rw [h3] at z; exact q z
      rw [hn]
      exact .inr ⟨h1, h2, h3⟩
theorem CI_53 {i : Nat} {b mo : Int32} {M M' : Mem} (h : M' 53 = M 53) (hC : CI i b mo M) : CI i b mo M' := by
  unfold CI
  rw [h]
  exact hC
theorem CI_end {i : Nat} {b mo : Int32} {M : Mem} (hi : 0 < i) (h : CI i b mo M) : M 53 0 = b := by
  rcases h with ⟨z, -, -⟩ | ⟨z, -, -⟩
  · omega
  · exact z
/-- n minutes of an evening that stands as the reference's row -/
theorem v_passT {e : Nat} (he : isE e) {c cc p m A B k : Nat} (hc : c ≤ 10) (hcc : cc ≤ 12) (hp : p ≤ 99) (hk : k ≤ 300) (hm : m + k ≤ 5000) (hA : A + k < 100000) (hB : B ≤ 100000) {X R' R : Mem} (hV : ST e c cc p m A B X R') (h7 : X e 8 = R 63 7) : V m_X2_pass 0 [(0, .ref e), (1, .int (nI k))] [] X (RT (some (.int (cnF c cc k m R' R))) (passG e c cc p k m X)) := by
  have h := v_X2_pass he hc hcc (p := p) (by omega) k (by omega) m X (RV_WE (ST_RV hp hV) (ST_BR hp hB hV)) hm
  rw [pass_coin hc hA (ST_RV hp hV) (ST_BR hp hB hV), h7] at h
  exact h
theorem bec_f {e f j : Nat} {M : Mem} (h1 : 4 ≤ j) (h2 : j ≤ 14) : eBecM e f M e j = M f j := if_pos ⟨rfl, h1, h2⟩
theorem ST_m {e c cc p m A B : Nat} {M R : Mem} (hV : ST e c cc p m A B M R) : M e 7 = nI m := by
  obtain ⟨hb, h8, h11, s5, h13, h9, h7, h6, h5, hcr, hd, hc1, hc7, h4, h10, h12, h14, hs, s1, s2, s0, s4, sd, sg, sa, s9, s8, s6, sm⟩ := hV
  exact h7.trans s0
theorem ST_8 {e c cc p m A B : Nat} {M R : Mem} (hV : ST e c cc p m A B M R) : M e 8 = R 63 7 := hV.2.1
