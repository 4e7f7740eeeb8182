/-! The sale in both: a crowd -/
def BGI (c : Nat) (R : Mem) : Prop := ∀ b, b < c → (∃ g, g ≤ 9 ∧ col R 1 b = nI g) ∧ 0 ≤ col R 3 b
def SR (e p c : Nat) (M R : Mem) : Prop := (∀ b, b < c → CB e M R b false) ∧ M e 8 = R 63 7 ∧ M e 11 = R 63 10 ∧ R 63 5 = nI p
theorem CB_col {e b : Nat} {M R : Mem} (h : CB e M R b false) : M (e+2) b = col R 0 b ∧ M (e+3) b = col R 1 b ∧ M (e+4) b = col R 2 b ∧ M (e+5) b = col R 3 b ∧ M (e+6) b = col R 4 b := by
  obtain ⟨h1, h2, h3, h4, h5⟩ := h
  rw [if_neg (fun q => absurd q.1 (by decide))] at h4
  exact ⟨h1, h2, h3, h4.symm, h5⟩
theorem CB_of {e b : Nat} {M R : Mem} (h : M (e+2) b = col R 0 b ∧ M (e+3) b = col R 1 b ∧ M (e+4) b = col R 2 b ∧ M (e+5) b = col R 3 b ∧ M (e+6) b = col R 4 b) : CB e M R b false := by
  obtain ⟨h1, h2, h3, h4, h5⟩ := h
  refine ⟨h1, h2, h3, ?_, h5⟩
  rw [if_neg (fun q => absurd q.1 (by decide))]
  exact h4.symm
theorem pick_eq {e c : Nat} {M R : Mem} {hw fr to_ : Int32} (hcb : ∀ b, b < c → CB e M R b false) (hge : BGI c R) (hh : (hw = 1 ∧ fr = 0 ∧ to_ = 10) ∨ (hw = 2 ∧ fr = 11 ∧ to_ = 25)) : yoG (M (e+2)) (M (e+3)) (M (e+4)) (M (e+5)) (M (e+6)) fr to_ c 0 none = boH hw c R := by
  refine yo_bo (N := c) (fun i hi => ?_) (fun i hi => (CB_col (hcb i hi)).2.2.2.1) c 0 none (by omega) (fun j q => by cases q)
  obtain ⟨h1, h2, h3, h4, h5⟩ := CB_col (hcb i hi)
  rw [h1, h2, h3, h4, h5]
  rcases hh with ⟨e1, e2, e3⟩ | ⟨e1, e2, e3⟩
  · subst e1 e2 e3
    exact ⟨fun z => ⟨z.1, z.2.1, (hw1 z.1 (hge i hi).2).mpr z.2.2⟩, fun z => ⟨z.1, z.2.1, (hw1 z.1 (hge i hi).2).mp z.2.2⟩⟩
  · subst e1 e2 e3
    exact ⟨fun z => ⟨z.1, z.2.1, (hw2 z.1).mpr z.2.2⟩, fun z => ⟨z.1, z.2.1, (hw2 z.1).mp z.2.2⟩⟩
theorem mnF_I {q g : Nat} (hq : q < 2 ^ 31) (hg : g < 2 ^ 31) : mnF (nI q) (nI g) = nI (mnN g q) := by
  rw [mnF, mnN]
  by_cases h : g < q
  · rw [if_pos ((nI_ltI hg hq).mpr h), if_pos h]
  · rw [if_neg (fun z => h ((nI_ltI hg hq).mp z)), if_neg h]
theorem sel_step {e p c b k : Nat} {pt r : Int32} {M R : Mem} (h : SR e p c M R) (hb : b < c) (hk : mnF r (M (e+3) b) = nI k) : SR e p c (selM e p pt b r M) (mTakes b (if pt = 2 then worthF (R 63 (20 + 5 * b)) (R 63 5) / 2 else worthF (R 63 (20 + 5 * b)) (R 63 5)) k R) := by
  obtain ⟨hc, h8, h11, hp⟩ := h
  obtain ⟨k1, k2, k3, k4, k5⟩ := CB_col (hc b hb)
  refine ⟨fun i hi => CB_of ?_, ?_, ?_, by rw [take_price]; exact hp⟩
  · obtain ⟨x1, x2, x3, x4, x5⟩ := CB_col (hc i hi)
    refine ⟨?_, ?_, ?_, ?_, ?_⟩
    · rw [selM_k (by omega) (by omega), takes_c (by decide) (.inr (by decide))]; exact x1
    · by_cases q : i = b
      · subst q
        rw [takes_b, ← x2, ← hk]
        simp [selM, ms]
      · rw [takes_c (by decide) (.inl q), ← x2]
        simp [selM, ms, q]
    · rw [selM_k (by omega) (by omega), takes_c (by decide) (.inr (by decide))]; exact x3
    · rw [selM_k (by omega) (by omega), takes_c (by decide) (.inr (by decide))]; exact x4
    · rw [selM_k (by omega) (by omega), takes_c (by decide) (.inr (by decide))]; exact x5
  · have e1 : selM e p pt b r M e 8 = M e 8 + nI k * (if pt = 2 then worthF (R 63 (20 + 5 * b)) (R 63 5) / 2 else worthF (R 63 (20 + 5 * b)) (R 63 5)) := by
      rw [hp, show R 63 (20 + 5 * b) = M (e+2) b from k1.symm, ← hk]
      simp [selM, ms]
    rw [e1, h8, mTakes, ms_j (by decide), ms_j (by omega), ms_s]
  · have e1 : selM e p pt b r M e 11 = M e 11 + nI k := by
      rw [← hk]
      simp [selM, ms]
    rw [e1, h11, mTakes, ms_s]
theorem BGI_takes {c b k : Nat} {v : Int32} {R : Mem} (h : BGI c R) (hk : ∀ g, col R 1 b = nI g → g ≤ 9 → k ≤ g) : BGI c (mTakes b v k R) := by
  intro i hi
  obtain ⟨⟨g, hg, e⟩, ha⟩ := h i hi
  refine ⟨?_, by rw [takes_c (by decide) (.inr (by decide))]; exact ha⟩
  by_cases q : i = b
  · subst q
    exact ⟨g - k, by omega, by rw [takes_b, e]; exact nI_sub (hk g e hg)⟩
  · exact ⟨g, hg, by rw [takes_c (by decide) (.inl q)]; exact e⟩
/-- what else of the row a sale keeps -/
def KS (R R' : Mem) : Prop := (∀ k, k ≠ 63 → R' k = R k) ∧ ∀ j, j ≠ 7 → j ≠ 10 → j < 20 ∨ 70 ≤ j → R' 63 j = R 63 j
theorem KS_takes {c b k : Nat} {v : Int32} {R : Mem} (hc : c ≤ 10) (hb : b < c) : KS R (mTakes b v k R) :=
  ⟨fun a ha => by rw [mTakes, ms_k ha, ms_k ha, ms_k ha], fun j h1 h2 h3 => by rw [mTakes, ms_j h2, ms_j (by omega), ms_j h1]⟩
theorem KS_trans {R R' R'' : Mem} (h : KS R R') (g : KS R' R'') : KS R R'' :=
  ⟨fun a ha => by rw [g.1 a ha, h.1 a ha], fun j a b d => by rw [g.2 j a b d, h.2 j a b d]⟩
theorem sale {e p c : Nat} (hc : c ≤ 10) {hw fr to_ pt : Int32} (hh : (hw = 1 ∧ fr = 0 ∧ to_ = 10 ∧ pt = 1) ∨ (hw = 2 ∧ fr = 11 ∧ to_ = 25 ∧ pt = 2)) : ∀ (n q : Nat) (M R : Mem), q ≤ 100000 → SR e p c M R → BGI c R → (hw = 2 → boH 1 c R = none) → avN (col R 1) c ≤ n → ∃ (q' : Nat) (R' : Mem), (selG e p c fr to_ pt n (nI q) M).1 = nI q' ∧ q' ≤ q ∧ SR e p c (selG e p c fr to_ pt n (nI q) M).2 R' ∧ BGI c R' ∧ KS R R' ∧ (q' = 0 ∨ boH hw c R' = none) ∧ (hw = 2 → boH 1 c R' = none) ∧ buyG c q R = buyG c q' R' := by
  intro n
  induction n with
  | zero =>
    intro q M R hq hS hB h1 hav
    refine ⟨q, R, rfl, Nat.le_refl q, hS, hB, ⟨fun _ _ => rfl, fun _ _ _ _ => rfl⟩, .inr ?_, h1, rfl⟩
    rw [boH_none]
    intro b hb z
    exact av_0 (Nat.le_zero.mp hav) b hb z.2.1
  | succ n ih =>
    intro q M R hq hS hB h1 hav
    have hpk : yoG (M (e+2)) (M (e+3)) (M (e+4)) (M (e+5)) (M (e+6)) fr to_ c 0 none = boH hw c R := pick_eq hS.1 hB (by rcases hh with z | z; exact .inl ⟨z.1, z.2.1, z.2.2.1⟩; exact .inr ⟨z.1, z.2.1, z.2.2.1⟩)
    rcases Nat.eq_zero_or_pos q with q0 | q0
    · subst q0
      have e1 : selG e p c fr to_ pt (n + 1) (nI 0) M = (nI 0, M) := by
        simp only [selG]
        rw [if_neg (by decide)]
      rw [e1]
      exact ⟨0, R, rfl, Nat.le_refl 0, hS, hB, ⟨fun _ _ => rfl, fun _ _ _ _ => rfl⟩, .inl rfl, h1, rfl⟩
    · have hq0 : (0 : Int32) < nI q := (nI_gt0 (by omega)).mpr q0
      rcases hbo : boH hw c R with _ | b
      · have e1 : selG e p c fr to_ pt (n + 1) (nI q) M = (nI q, M) := by
          simp only [selG]
          rw [if_pos hq0, hpk, hbo]
        rw [e1]
        exact ⟨q, R, rfl, Nat.le_refl q, hS, hB, ⟨fun _ _ => rfl, fun _ _ _ _ => rfl⟩, .inr hbo, h1, rfl⟩
      · have hb := boH_lt hbo
        have hok := boH_ok hbo
        obtain ⟨⟨g, hg, eg⟩, ha⟩ := hB b hb
        have hg0 : 0 < g := by
          have := hok.2.1
          rw [eg] at this
          exact (nI_gt0 (by omega)).mp this
        have hbg : M (e+3) b = nI g := by rw [(CB_col (hS.1 b hb)).2.1]; exact eg
        have hk : mnF (nI q) (M (e+3) b) = nI (mnN g q) := by rw [hbg]; exact mnF_I (by omega) (by omega)
        have hmk : mnN g q ≤ g := mn_z g q
        have hmq : mnN g q ≤ q := mn_le g q
        have e1 : selG e p c fr to_ pt (n + 1) (nI q) M = selG e p c fr to_ pt n (nI (q - mnN g q)) (selM e p pt b (nI q) M) := by
          simp only [selG]
          rw [if_pos hq0, hpk, hbo]
          dsimp only
          rw [hk, nI_sub hmq]
        have hS' := sel_step (pt := pt) hS hb hk
        have hB' : BGI c (mTakes b (if pt = 2 then worthF (R 63 (20 + 5 * b)) (R 63 5) / 2 else worthF (R 63 (20 + 5 * b)) (R 63 5)) (mnN g q) R) := BGI_takes hB (fun g' e' h9 => by
          rw [eg] at e'
          have := (nI_eq (by omega) (by omega)).mp e'
          omega)
        have hbuy : buyG c q R = buyG c (q - mnN g q) (mTakes b (if pt = 2 then worthF (R 63 (20 + 5 * b)) (R 63 5) / 2 else worthF (R 63 (20 + 5 * b)) (R 63 5)) (mnN g q) R) := by
          rcases hh with ⟨w1, -, -, w4⟩ | ⟨w1, -, -, w4⟩
          · subst w1 w4
            rw [if_neg (by decide)]
            have := buy_k1 (n := q - mnN g q) (mnN g q) g R hbo eg hmk hg
            rw [show q - mnN g q + mnN g q = q by omega] at this
            exact this
          · subst w1 w4
            rw [if_pos rfl]
            have := buy_k2 (n := q - mnN g q) (mnN g q) g R (h1 rfl) hbo eg hmk hg
            rw [show q - mnN g q + mnN g q = q by omega] at this
            exact this
        have hKS : KS R (mTakes b (if pt = 2 then worthF (R 63 (20 + 5 * b)) (R 63 5) / 2 else worthF (R 63 (20 + 5 * b)) (R 63 5)) (mnN g q) R) := KS_takes hc hb
        have h1' : hw = 2 → boH 1 c (mTakes b (if pt = 2 then worthF (R 63 (20 + 5 * b)) (R 63 5) / 2 else worthF (R 63 (20 + 5 * b)) (R 63 5)) (mnN g q) R) = none := fun z => takes_none eg hg hmk (h1 z)
        rw [e1]
        by_cases hlt : g < q
        · have hm : mnN g q = g := if_pos hlt
          have hav' : avN (col (mTakes b (if pt = 2 then worthF (R 63 (20 + 5 * b)) (R 63 5) / 2 else worthF (R 63 (20 + 5 * b)) (R 63 5)) (mnN g q) R) 1) c ≤ n := by
            have := av_less (f := col R 1) (g := col (mTakes b (if pt = 2 then worthF (R 63 (20 + 5 * b)) (R 63 5) / 2 else worthF (R 63 (20 + 5 * b)) (R 63 5)) (mnN g q) R) 1) (b := b) hok.2.1 (by rw [takes_b, eg, hm, nI_sub (Nat.le_refl g), Nat.sub_self]; decide) (n := c) hb (fun i hi => (takes_c (by decide) (.inl hi)).symm)
            omega
          obtain ⟨q', R', r1, r2, r3, r4, r5, r6, r7, r8⟩ := ih (q - mnN g q) _ _ (by omega) hS' hB' h1' hav'
          exact ⟨q', R', r1, by omega, r3, r4, KS_trans hKS r5, r6, r7, hbuy.trans r8⟩
        · have hm : mnN g q = q := if_neg hlt
          rw [hm, Nat.sub_self]
          rw [hm, Nat.sub_self] at hbuy
          rw [hm] at hS' hB' h1' hKS
          have e2 : selG e p c fr to_ pt n (nI 0) (selM e p pt b (nI q) M) = (nI 0, selM e p pt b (nI q) M) := by
            rcases n with _ | n
            · rfl
            · simp only [selG]
              rw [if_neg (by decide)]
          rw [e2]
          exact ⟨0, _, rfl, by omega, hS', hB', hKS, .inl rfl, h1', hbuy⟩
