/-! The sale in both: a batch's bags, the phases -/
def boH (hw : Int32) (c : Nat) (R : Mem) : Option Nat := boG (col R 0) (col R 1) (col R 2) (col R 3) (col R 4) hw c 0 none
theorem boH_1 {c : Nat} {R : Mem} : bo1 c R = boH 1 c R := rfl
theorem boH_2 {c : Nat} {R : Mem} : bo2 c R = boH 2 c R := rfl
def okP (hw : Int32) (R : Mem) (i : Nat) : Prop := col R 4 i = 3 ∧ 0 < col R 1 i ∧ hwF (col R 0 i) (col R 2 i) (col R 3 i) (col R 4 i) = hw
theorem boH_eq {hw : Int32} {c : Nat} {R R' : Mem} (h : ∀ i, i < c → (okP hw R i ↔ okP hw R' i)) (ha : ∀ i, i < c → col R 3 i = col R' 3 i) : boH hw c R = boH hw c R' :=
  bo_bo (N := c) h ha c 0 none (by omega) (fun j q => by cases q)
theorem boH_lt {hw : Int32} {c b : Nat} {R : Mem} (h : boH hw c R = some b) : b < c := by
  have := bo_lt c 0 none (fun j q => by cases q) b h
  omega
theorem boH_ok {hw : Int32} {c b : Nat} {R : Mem} (h : boH hw c R = some b) : okP hw R b := bo_ok c 0 none (fun j q => by cases q) b h
theorem bo_keep {kd bg ro ag pl : Nat → Int32} {hw : Int32} : ∀ (n i : Nat) (o : Option Nat), o ≠ none → boG kd bg ro ag pl hw n i o ≠ none := by
  intro n
  induction n with
  | zero => intro i o h; exact h
  | succ n ih =>
    intro i o h
    refine ih _ _ ?_
    rcases o with _ | j
    · exact absurd rfl h
    · dsimp only
      split <;> simp
theorem bo_no {kd bg ro ag pl : Nat → Int32} {hw : Int32} : ∀ (n i : Nat), boG kd bg ro ag pl hw n i none = none → ∀ b, i ≤ b → b < i + n → ¬ (pl b = 3 ∧ 0 < bg b ∧ hwF (kd b) (ro b) (ag b) (pl b) = hw) := by
  intro n
  induction n with
  | zero => intro i h b h1 h2; omega
  | succ n ih =>
    intro i h b h1 h2 p
    simp only [boG] at h
    by_cases q : b = i
    · subst q
      rw [if_pos p] at h
      exact bo_keep n _ _ (by simp) h
    · by_cases z : pl i = 3 ∧ 0 < bg i ∧ hwF (kd i) (ro i) (ag i) (pl i) = hw
      · rw [if_pos z] at h
        exact bo_keep n _ _ (by simp) h
      · rw [if_neg z] at h
        exact ih (i + 1) h b (by omega) (by omega) p
theorem bo_all {kd bg ro ag pl : Nat → Int32} {hw : Int32} : ∀ (n i : Nat), (∀ b, i ≤ b → b < i + n → ¬ (pl b = 3 ∧ 0 < bg b ∧ hwF (kd b) (ro b) (ag b) (pl b) = hw)) → boG kd bg ro ag pl hw n i none = none := by
  intro n
  induction n with
  | zero => intro i h; rfl
  | succ n ih =>
    intro i h
    simp only [boG]
    rw [if_neg (h i (Nat.le_refl i) (by omega))]
    exact ih (i + 1) (fun b h1 h2 => h b (by omega) (by omega))
theorem boH_none {hw : Int32} {c : Nat} {R : Mem} : boH hw c R = none ↔ ∀ b, b < c → ¬ okP hw R b :=
  ⟨fun h b hb => bo_no c 0 h b (Nat.zero_le b) (by omega), fun h => bo_all c 0 (fun b _ hb => h b (by omega))⟩
theorem takes_c {b k i w : Nat} {v : Int32} {R : Mem} (hw : w < 5) (h : i ≠ b ∨ w ≠ 1) : col (mTakes b v k R) w i = col R w i := by
  unfold col mTakes
  rw [ms_j (by omega), ms_j (by omega), ms_j (by omega)]
theorem takes_b {b k : Nat} {v : Int32} {R : Mem} : col (mTakes b v k R) 1 b = col R 1 b - nI k := by
  unfold col mTakes
  rw [ms_j (by omega), ms_s]
theorem nI_sub {g k : Nat} (h : k ≤ g) : nI g - nI k = nI (g - k) := pk_sub h
theorem nI_gt0 {g : Nat} (hg : g < 2 ^ 31) : (0 : Int32) < nI g ↔ 0 < g := nI_ltI (a := 0) (b := g) (by decide) hg
/-- as long as bags are left, the same one is picked -/
theorem takes_same {hw v : Int32} {c b g k : Nat} {R : Mem} (hg : col R 1 b = nI g) (h9 : g ≤ 9) (hk : k < g) : boH hw c (mTakes b v k R) = boH hw c R := by
  refine boH_eq (fun i hi => ?_) (fun i hi => takes_c (by decide) (.inr (by decide)))
  unfold okP
  rw [takes_c (w := 4) (by decide) (.inr (by decide)), takes_c (w := 0) (by decide) (.inr (by decide)), takes_c (w := 2) (by decide) (.inr (by decide)), takes_c (w := 3) (by decide) (.inr (by decide))]
  by_cases q : i = b
  · subst q
    rw [takes_b, hg, nI_sub (by omega)]
    have e1 : (0 : Int32) < nI (g - k) := (nI_gt0 (by omega)).mpr (by omega)
    have e2 : (0 : Int32) < nI g := (nI_gt0 (by omega)).mpr (by omega)
    exact ⟨fun z => ⟨z.1, e2, z.2.2⟩, fun z => ⟨z.1, e1, z.2.2⟩⟩
  · rw [takes_c (by decide) (.inl q)]
/-- none stays none -/
theorem takes_none {hw v : Int32} {c b g k : Nat} {R : Mem} (hg : col R 1 b = nI g) (h9 : g ≤ 9) (hk : k ≤ g) (h : boH hw c R = none) : boH hw c (mTakes b v k R) = none := by
  rw [boH_none] at h ⊢
  intro i hi z
  refine h i hi ?_
  unfold okP at z ⊢
  rw [takes_c (w := 4) (by decide) (.inr (by decide)), takes_c (w := 0) (by decide) (.inr (by decide)), takes_c (w := 2) (by decide) (.inr (by decide)), takes_c (w := 3) (by decide) (.inr (by decide))] at z
  by_cases q : i = b
  · subst q
    rw [takes_b, hg, nI_sub (by omega), nI_gt0 (by omega)] at z
    exact ⟨z.1, by rw [hg]; exact (nI_gt0 (by omega)).mpr (by omega), z.2.2⟩
  · rw [takes_c (by decide) (.inl q)] at z
    exact z
theorem take_1 {b : Nat} {v : Int32} {R : Mem} : mTake b v R = mTakes b v 1 R := by rw [← takes_s, takes_0]
theorem take_kind {b : Nat} {v : Int32} {k : Nat} {R : Mem} : mTakes b v k R 63 (20 + 5 * b) = R 63 (20 + 5 * b) := by
  unfold mTakes
  rw [ms_j (by omega), ms_j (by omega), ms_j (by omega)]
theorem take_price {b : Nat} {v : Int32} {k : Nat} {R : Mem} : mTakes b v k R 63 5 = R 63 5 := by
  unfold mTakes
  rw [ms_j (by omega), ms_j (by omega), ms_j (by omega)]
theorem buy_k1 {c b : Nat} {n : Nat} : ∀ (k g : Nat) (R : Mem), boH 1 c R = some b → col R 1 b = nI g → k ≤ g → g ≤ 9 → buyG c (n + k) R = buyG c n (mTakes b (worthF (R 63 (20 + 5 * b)) (R 63 5)) k R) := by
  intro k
  induction k with
  | zero => intro g R h hg hk h9; rw [takes_0]; rfl
  | succ k ih =>
    intro g R h hg hk h9
    have h1 : bo1 c R = some b := h
    have e : buyG c (n + (k + 1)) R = buyG c (n + k) (mTake b (worthF (R 63 (20 + 5 * b)) (R 63 5)) R) := by
      show buyG c (n + k + 1) R = _
      simp only [buyG, h1]
    rw [e]
    rcases Nat.eq_zero_or_pos k with q | q
    · subst q
      rw [take_1]; rfl
    · have h2 := takes_same (hw := 1) (v := worthF (R 63 (20 + 5 * b)) (R 63 5)) (c := c) (b := b) (k := 1) hg h9 (by omega)
      have h3 := ih (g - 1) (mTakes b (worthF (R 63 (20 + 5 * b)) (R 63 5)) 1 R) (by rw [h2]; exact h) (by rw [takes_b, hg]; exact nI_sub (by omega)) (by omega) (by omega)
      rw [take_1, h3, take_kind, take_price, ← take_1, takes_s]
theorem buy_k2 {c b : Nat} {n : Nat} : ∀ (k g : Nat) (R : Mem), boH 1 c R = none → boH 2 c R = some b → col R 1 b = nI g → k ≤ g → g ≤ 9 → buyG c (n + k) R = buyG c n (mTakes b (worthF (R 63 (20 + 5 * b)) (R 63 5) / 2) k R) := by
  intro k
  induction k with
  | zero => intro g R h0 h hg hk h9; rw [takes_0]; rfl
  | succ k ih =>
    intro g R h0 h hg hk h9
    have h1 : bo1 c R = none := h0
    have h1' : bo2 c R = some b := h
    have e : buyG c (n + (k + 1)) R = buyG c (n + k) (mTake b (worthF (R 63 (20 + 5 * b)) (R 63 5) / 2) R) := by
      show buyG c (n + k + 1) R = _
      simp only [buyG, h1, h1']
    rw [e]
    rcases Nat.eq_zero_or_pos k with q | q
    · subst q
      rw [take_1]; rfl
    · have h2 := takes_same (hw := 2) (v := worthF (R 63 (20 + 5 * b)) (R 63 5) / 2) (c := c) (b := b) (k := 1) hg h9 (by omega)
      have h3 := ih (g - 1) (mTakes b (worthF (R 63 (20 + 5 * b)) (R 63 5) / 2) 1 R) (takes_none hg h9 (by omega) h0) (by rw [h2]; exact h) (by rw [takes_b, hg]; exact nI_sub (by omega)) (by omega) (by omega)
      rw [take_1, h3, take_kind, take_price, ← take_1, takes_s]
theorem buy_no {c n : Nat} {R : Mem} (h1 : boH 1 c R = none) (h2 : boH 2 c R = none) (hn : 0 < n) : buyG c n R = ms R 63 12 (R 63 12 + nI n) := by
  obtain ⟨k, rfl⟩ : ∃ k, n = k + 1 := ⟨n - 1, by omega⟩
  have a1 : bo1 c R = none := h1
  have a2 : bo2 c R = none := h2
  simp only [buyG, a1, a2]
def avN (f : Nat → Int32) : Nat → Nat
  | 0 => 0
  | n + 1 => avN f n + (if 0 < f n then 1 else 0)
theorem av_le (f : Nat → Int32) : ∀ n, avN f n ≤ n := by
  intro n
  induction n with
  | zero => exact Nat.le_refl 0
  | succ n ih =>
    have : avN f (n + 1) = avN f n + (if 0 < f n then 1 else 0) := rfl
    split at this <;> omega
theorem av_0 {f : Nat → Int32} : ∀ {n : Nat}, avN f n = 0 → ∀ b, b < n → ¬ 0 < f b := by
  intro n
  induction n with
  | zero => intro h b hb; omega
  | succ n ih =>
    intro h b hb
    have e : avN f (n + 1) = avN f n + (if 0 < f n then 1 else 0) := rfl
    by_cases q : 0 < f n
    · rw [if_pos q] at e; omega
    · rw [if_neg q] at e
      by_cases z : b = n
      · subst z; exact q
      · exact ih (by omega) b (by omega)
theorem av_same {f g : Nat → Int32} : ∀ {n : Nat}, (∀ b, b < n → f b = g b) → avN f n = avN g n := by
  intro n
  induction n with
  | zero => intro h; rfl
  | succ n ih =>
    intro h
    have e1 : avN f (n + 1) = avN f n + (if 0 < f n then 1 else 0) := rfl
    have e2 : avN g (n + 1) = avN g n + (if 0 < g n then 1 else 0) := rfl
    rw [e1, e2, ih (fun b hb => h b (by omega)), h n (by omega)]
theorem av_less {f g : Nat → Int32} {b : Nat} (h1 : 0 < f b) (h2 : ¬ 0 < g b) : ∀ {n : Nat}, b < n → (∀ i, i ≠ b → f i = g i) → avN g n + 1 = avN f n := by
  intro n
  induction n with
  | zero => intro hb h; omega
  | succ n ih =>
    intro hb h
    have e1 : avN f (n + 1) = avN f n + (if 0 < f n then 1 else 0) := rfl
    have e2 : avN g (n + 1) = avN g n + (if 0 < g n then 1 else 0) := rfl
    by_cases q : b = n
    · subst q
      rw [if_pos h1] at e1
      rw [if_neg h2] at e2
      rw [e1, e2, av_same (f := f) (g := g) (fun i hi => h i (by omega))]
    · have := ih (by omega) h
      rw [e1, e2, h n (by omega)]
      omega
