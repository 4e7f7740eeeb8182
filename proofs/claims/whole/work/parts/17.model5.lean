/-! The reference: a minute, and many -/
theorem shG_v {j : Nat} : ∀ (n i : Nat) (M : Mem), i ≤ j → j < i + n → shG n i M 63 (13 + j) = M 63 (13 + j + 1) := by
  intro n
  induction n with
  | zero => intro i M h1 h2; omega
  | succ n ih =>
    intro i M h1 h2
    simp only [shG]
    by_cases q : i = j
    · subst q; rw [shG_j _ _ _ (by omega), ms_s]
    · rw [ih (i + 1) _ (by omega) (by omega), ms_j (by omega)]
theorem mGoes_k {b k : Nat} {M : Mem} (h : k ≠ 63) : mGoesM b M k = M k := by simp (disch := assumption) only [mGoesM, ms_k]
theorem mRoStep_k {h b k : Nat} {M : Mem} (hk : k ≠ 63) : mRoStep h b M k = M k := by
  unfold mRoStep
  split
  · split
    · rw [mGoes_k hk, mr1, ms_k hk]
    · rw [mr1, ms_k hk]
  · split
    · rw [ms_k hk]
    · rfl
theorem mRoG_j {h j : Nat} (h1 : j ≠ 11) : ∀ (n i : Nat) (M : Mem), j < 20 + 5 * i ∨ 20 + 5 * (i + n) ≤ j → mRoG h n i M 63 j = M 63 j := by
  intro n
  induction n with
  | zero => intro i M h2; rfl
  | succ n ih => intro i M h2; simp only [mRoG]; rw [ih (i + 1) _ (by omega), mRoStep_j h1 (by omega)]
theorem mRoG_k {h k : Nat} (hk : k ≠ 63) : ∀ (n i : Nat) (M : Mem), mRoG h n i M k = M k := by
  intro n
  induction n with
  | zero => intro i M; rfl
  | succ n ih => intro i M; simp only [mRoG]; rw [ih (i + 1), mRoStep_k hk]
theorem buyG_j {c j : Nat} (hc : c ≤ 10) (h7 : j ≠ 7) (h10 : j ≠ 10) (h12 : j ≠ 12) (h2 : j < 20 ∨ 70 ≤ j) : ∀ (n : Nat) (M : Mem), buyG c n M 63 j = M 63 j := by
  intro n
  induction n with
  | zero => intro M; rfl
  | succ n ih =>
    intro M
    rcases h1 : bo1 c M with _ | b
    · rcases h2' : bo2 c M with _ | b
      · simp only [buyG, h1, h2']
        rw [ms_j h12]
      · have hb : b < 0 + c := bo_lt c 0 none (fun j q => by cases q) b h2'
        simp only [buyG, h1, h2']
        rw [ih, mTake_j h7 h10 (by omega)]
    · have hb : b < 0 + c := bo_lt c 0 none (fun j q => by cases q) b h1
      simp only [buyG, h1]
      rw [ih, mTake_j h7 h10 (by omega)]
theorem buyG_k {c k : Nat} (hk : k ≠ 63) : ∀ (n : Nat) (M : Mem), buyG c n M k = M k := by
  intro n
  induction n with
  | zero => intro M; rfl
  | succ n ih =>
    intro M
    rcases h1 : bo1 c M with _ | b
    · rcases h2' : bo2 c M with _ | b
      · simp only [buyG, h1, h2']
        rw [ms_k hk]
      · simp only [buyG, h1, h2']
        rw [ih, mTake_k hk]
    · simp only [buyG, h1]
      rw [ih, mTake_k hk]
def comeN (i : Nat) (M : Mem) : Nat := (comeF (M 63 (70 + 3 * i + 2)) (M 63 6) (M 63 5)).toNatClampNeg
def mserG (c : Nat) : Nat → Nat → Mem → Mem
  | 0, _, M => M
  | n + 1, i, M => mserG c n (i + 1) (if M 63 (70 + 3 * i) = M 63 8 ∧ M 63 (70 + 3 * i + 1) = M 63 0 then buyG c (comeN i M) M else M)
theorem mserG_j {c j : Nat} (hc : c ≤ 10) (h7 : j ≠ 7) (h10 : j ≠ 10) (h12 : j ≠ 12) (h2 : j < 20 ∨ 70 ≤ j) : ∀ (n i : Nat) (M : Mem), mserG c n i M 63 j = M 63 j := by
  intro n
  induction n with
  | zero => intro i M; rfl
  | succ n ih => intro i M; simp only [mserG]; rw [ih]; split <;> first | rfl | exact buyG_j hc h7 h10 h12 h2 _ _
theorem mserG_k {c k : Nat} (hk : k ≠ 63) : ∀ (n i : Nat) (M : Mem), mserG c n i M k = M k := by
  intro n
  induction n with
  | zero => intro i M; rfl
  | succ n ih => intro i M; simp only [mserG]; rw [ih]; split <;> first | rfl | exact buyG_k hk _ _
def x1M (m : Nat) (M : Mem) : Mem := mWarmM m (M 63 4).toNatClampNeg (M 63 13).toNatClampNeg M
def x2M (c m : Nat) (M : Mem) : Mem := mRoG (x1M m M 63 4).toNatClampNeg c 0 (x1M m M)
def x3M (c cc m : Nat) (M : Mem) : Mem := if x2M c m M 63 9 = 0 then mserG c cc 0 (x2M c m M) else ms (x2M c m M) 63 9 (x2M c m M 63 9 - 1)
def mMin (c cc m : Nat) (M : Mem) : Mem := ms (x3M c cc m M) 63 0 (nI (m + 1))
def mGo (c cc : Nat) : Nat → Nat → Mem → Mem
  | 0, _, M => M
  | n + 1, m, M => mGo c cc n (m + 1) (mMin c cc m M)
/-- a state of the reference that may go on -/
def WM (c cc m : Nat) (M : Mem) : Prop := M 63 1 = nI c ∧ M 63 2 = nI cc ∧ M 63 0 = nI m ∧ (∃ h, h ≤ 20 ∧ M 63 4 = nI h) ∧ (∀ k, k < 7 → ∃ d, d ≤ 100000 ∧ M 63 (13 + k) = nI d) ∧ ∀ i, i < cc → ∃ q, q ≤ 100000 ∧ comeF (M 63 (70 + 3 * i + 2)) (M 63 6) (M 63 5) = nI q
theorem x1M_eq {m h d : Nat} {M : Mem} (h20 : h ≤ 20) (hd5 : d ≤ 100000) (hh : M 63 4 = nI h) (hd : M 63 13 = nI d) : x1M m M = mWarmM m h d M := by
  rw [x1M, hh, hd, nI_clamp (by omega), nI_clamp (by omega)]
theorem x1M_h {m h d : Nat} {M : Mem} (h20 : h ≤ 20) (hd5 : d ≤ 100000) (hh : M 63 4 = nI h) (hd : M 63 13 = nI d) : x1M m M 63 4 = nI (hN h d m) := by
  rw [x1M_eq h20 hd5 hh hd, mWarmM, ms_s]
theorem x1M_j {m j : Nat} {M : Mem} (h4 : j ≠ 4) (h : j < 13 ∨ 19 < j) : x1M m M 63 j = M 63 j := by
  rw [x1M, mWarmM, ms_j h4, ms_j (by omega), shG_j _ _ _ (by omega)]
theorem x2M_j {c m j : Nat} {M : Mem} (hc : c ≤ 10) (h11 : j ≠ 11) (h : j < 20 ∨ 70 ≤ j) : x2M c m M 63 j = x1M m M 63 j := by
  rw [x2M, mRoG_j h11 _ _ _ (by omega)]
theorem x3M_j {c cc m j : Nat} {M : Mem} (hc : c ≤ 10) (h7 : j ≠ 7) (h9 : j ≠ 9) (h10 : j ≠ 10) (h11 : j ≠ 11) (h12 : j ≠ 12) (h : j < 20 ∨ 70 ≤ j) : x3M c cc m M 63 j = x1M m M 63 j := by
  unfold x3M
  split
  · rw [mserG_j hc h7 h10 h12 h, x2M_j hc h11 h]
  · rw [ms_j h9, x2M_j hc h11 h]
theorem mMin_k {c cc m k : Nat} {M : Mem} (hk : k ≠ 63) : mMin c cc m M k = M k := by
  have h1 : x2M c m M k = M k := by rw [x2M, mRoG_k hk, x1M, mWarmM, ms_k hk, ms_k hk, shG_k hk]
  rw [mMin, ms_k hk]
  unfold x3M
  split
  · rw [mserG_k hk, h1]
  · rw [ms_k hk, h1]
theorem mGo_k {c cc k : Nat} (hk : k ≠ 63) : ∀ (n m : Nat) (M : Mem), mGo c cc n m M k = M k := by
  intro n
  induction n with
  | zero => intro m M; rfl
  | succ n ih => intro m M; simp only [mGo]; rw [ih, mMin_k hk]
theorem WM_min {c cc m : Nat} {M : Mem} (hc : c ≤ 10) (hW : WM c cc m M) : WM c cc (m + 1) (mMin c cc m M) := by
  obtain ⟨h1, h2, h0, ⟨h, h20, hh⟩, hd, hq⟩ := hW
  obtain ⟨d, hd5, hd0⟩ := hd 0 (by decide)
  have e : ∀ j, j ≠ 0 → j ≠ 4 → j ≠ 7 → j ≠ 9 → j ≠ 10 → j ≠ 11 → j ≠ 12 → j < 13 ∨ 70 ≤ j → mMin c cc m M 63 j = M 63 j := fun j a0 a4 a7 a9 a10 a11 a12 a => by
    rw [mMin, ms_j a0, x3M_j hc a7 a9 a10 a11 a12 (by omega), x1M_j a4 (by omega)]
  refine ⟨?_, ?_, ?_, ⟨hN h d m, hN_le h d m, ?_⟩, fun k hk => ?_, fun i hi => ?_⟩
  · rw [e 1 (by decide) (by decide) (by decide) (by decide) (by decide) (by decide) (by decide) (by decide)]; exact h1
  · rw [e 2 (by decide) (by decide) (by decide) (by decide) (by decide) (by decide) (by decide) (by decide)]; exact h2
  · rw [mMin, ms_s]
  · rw [mMin, ms_j (by decide), x3M_j hc (by decide) (by decide) (by decide) (by decide) (by decide) (by decide), x1M_h h20 hd5 hh hd0]
  · rw [mMin, ms_j (by omega), x3M_j hc (by omega) (by omega) (by omega) (by omega) (by omega) (by omega), x1M_eq h20 hd5 hh hd0, mWarmM, ms_j (by omega)]
    by_cases q : k = 6
    · subst q; rw [ms_s]; exact ⟨0, by omega, rfl⟩
    · rw [ms_j (by omega), shG_v 6 0 _ (by omega) (by omega)]; exact hd (k + 1) (by omega)
  · rw [e (70 + 3 * i + 2) (by omega) (by omega) (by omega) (by omega) (by omega) (by omega) (by omega) (by omega), e 6 (by decide) (by decide) (by decide) (by decide) (by decide) (by decide) (by decide) (by decide), e 5 (by decide) (by decide) (by decide) (by decide) (by decide) (by decide) (by decide) (by decide)]
    exact hq i hi
theorem l_X9_minute {c : Nat} (hc : c ≤ 10) {cc : Nat} (hcc : cc ≤ 12) (m : Nat) (hm : m ≤ 5000) : ∀ (n i : Nat) (M : Mem), M 63 1 = nI c → M 63 2 = nI cc → M 63 0 = nI m → (∀ i, i < cc → ∃ q, q ≤ 100000 ∧ comeF (M 63 (70 + 3 * i + 2)) (M 63 6) (M 63 5) = nI q) → i + n = cc → V m_X9_minute 20 [(0, .ref 62), (1, .int (nI i))] [] M (RT none (ms (mserG c n i M) 63 0 (nI (m + 1)))) := by
  intro n
  induction n with
  | zero =>
    intro i M h1 h2 h0 hQ hi
    refine V.iload_n dX9_minute_20 rfl rfl rfl ?_
    refine V.aload_n dX9_minute_21 rfl rfl rfl ?_
    refine V.getr dX9_minute_22 fg_X9_7 rfl rfl rfl ?_
    refine V.iconst (v := 2) dX9_minute_25 rfl rfl ?_
    refine V.ialdN (j := 2) (v := nI cc) dX9_minute_26 rfl (by decide) (by decide) rfl h2 rfl ?_
    refine V.icmp_ge (tgt := 76) dX9_minute_27 rfl rfl (fun c27 => ?_) (fun c27 => absurd ((nI_leI (a := cc) (b := i) (by omega) (by omega)).mpr (by omega)) c27)
    have c27 : cc ≤ i := (nI_leI (a := cc) (b := i) (by omega) (by omega)).mp c27
    refine V.goto (pc' := 90) dX9_minute_76 rfl ?_
    refine V.aload_n dX9_minute_90 rfl rfl rfl ?_
    refine V.getr dX9_minute_91 fg_X9_7 rfl rfl rfl ?_
    refine V.iconst (v := 0) dX9_minute_94 rfl rfl ?_
    refine V.dup2 dX9_minute_95 rfl rfl rfl ?_
    refine V.ialdN (j := 0) (v := nI m) dX9_minute_96 rfl (by decide) (by decide) rfl h0 rfl ?_
    refine V.iconst (v := 1) dX9_minute_97 rfl rfl ?_
    refine V.iadd (v := nI (m + 1)) dX9_minute_98 (nI_add _ _) rfl ?_
    refine V.iastN (j := 0) dX9_minute_99 rfl (by decide) (by decide) rfl (M' := (ms M 63 0 (nI (m + 1)))) rfl rfl ?_
    exact V.vret dX9_minute_100 rfl ⟨rfl, rfl⟩
  | succ n ih =>
    intro i M h1 h2 h0 hQ hi
    refine V.iload_n dX9_minute_20 rfl rfl rfl ?_
    refine V.aload_n dX9_minute_21 rfl rfl rfl ?_
    refine V.getr dX9_minute_22 fg_X9_7 rfl rfl rfl ?_
    refine V.iconst (v := 2) dX9_minute_25 rfl rfl ?_
    refine V.ialdN (j := 2) (v := nI cc) dX9_minute_26 rfl (by decide) (by decide) rfl h2 rfl ?_
    refine V.icmp_ge (tgt := 76) dX9_minute_27 rfl rfl (fun c27 => absurd ((nI_leI (a := cc) (b := i) (by omega) (by omega)).mp c27) (by omega)) (fun c27 => ?_)
    have c27 : ¬ cc ≤ i := fun zq => c27 ((nI_leI (a := cc) (b := i) (by omega) (by omega)).mpr zq)
    refine V.aload_n dX9_minute_30 rfl rfl rfl ?_
    refine V.iload_n dX9_minute_31 rfl rfl rfl ?_
    refine V.iconst (v := 0) dX9_minute_32 rfl rfl ?_
    refine V.callv_i (M1 := M) (v := M 63 (70 + 3 * i)) (md' := m_X9_told) (As := [.int (nI i), .int 0]) (rest := []) dX9_minute_33 ml_X9_145 mo_X9_told ⟨Nat.le_of_ble_eq_true rfl, Nat.le_of_ble_eq_true rfl⟩ rfl ⟨_, _, rfl⟩ (Nat.le_of_ble_eq_true rfl) rfl rfl (Nat.le_of_ble_eq_true rfl) (v_X9_told (b := i) (w := 0) (by omega) (by omega) _) rfl ?_
    refine V.aload_n dX9_minute_36 rfl rfl rfl ?_
    refine V.getr dX9_minute_37 fg_X9_7 rfl rfl rfl ?_
    refine V.bipush (v := 8) dX9_minute_40 (by decide) rfl ?_
    refine V.ialdN (j := 8) (v := M 63 8) dX9_minute_42 rfl (by decide) (by decide) rfl rfl rfl ?_
    refine V.icmp_ne (tgt := 70) dX9_minute_43 rfl rfl (fun c43 => ?_) (fun c43 => ?_)
    · skip
      refine V.inc (v := nI (i + 1)) dX9_minute_70 rfl (nI_1 _) (by decide) (L' := [(0, .ref 62), (1, .int (nI (i + 1)))]) rfl rfl ?_
      refine V.goto (pc' := 20) dX9_minute_73 rfl ?_
      rw [show mserG c (n + 1) i M = mserG c n (i + 1) M from by simp only [mserG]; rw [if_neg (fun q => c43 q.1)]]
      exact ih (i + 1) _ h1 h2 h0 hQ (by omega)
    · skip
      refine V.aload_n dX9_minute_46 rfl rfl rfl ?_
      refine V.iload_n dX9_minute_47 rfl rfl rfl ?_
      refine V.iconst (v := 1) dX9_minute_48 rfl rfl ?_
      refine V.callv_i (M1 := M) (v := M 63 (70 + 3 * i + 1)) (md' := m_X9_told) (As := [.int (nI i), .int 1]) (rest := []) dX9_minute_49 ml_X9_145 mo_X9_told ⟨Nat.le_of_ble_eq_true rfl, Nat.le_of_ble_eq_true rfl⟩ rfl ⟨_, _, rfl⟩ (Nat.le_of_ble_eq_true rfl) rfl rfl (Nat.le_of_ble_eq_true rfl) (v_X9_told (b := i) (w := 1) (by omega) (by omega) _) rfl ?_
      refine V.aload_n dX9_minute_52 rfl rfl rfl ?_
      refine V.getr dX9_minute_53 fg_X9_7 rfl rfl rfl ?_
      refine V.iconst (v := 0) dX9_minute_56 rfl rfl ?_
      refine V.ialdN (j := 0) (v := M 63 0) dX9_minute_57 rfl (by decide) (by decide) rfl rfl rfl ?_
      refine V.icmp_ne (tgt := 70) dX9_minute_58 rfl rfl (fun c58 => ?_) (fun c58 => ?_)
      · skip
        refine V.inc (v := nI (i + 1)) dX9_minute_70 rfl (nI_1 _) (by decide) (L' := [(0, .ref 62), (1, .int (nI (i + 1)))]) rfl rfl ?_
        refine V.goto (pc' := 20) dX9_minute_73 rfl ?_
        rw [show mserG c (n + 1) i M = mserG c n (i + 1) M from by simp only [mserG]; rw [if_neg (fun q => c58 q.2)]]
        exact ih (i + 1) _ h1 h2 h0 hQ (by omega)
      · skip
        obtain ⟨q, hq5, hq⟩ := hQ i (by omega)
        refine V.aload_n dX9_minute_61 rfl rfl rfl ?_
        refine V.aload_n dX9_minute_62 rfl rfl rfl ?_
        refine V.iload_n dX9_minute_63 rfl rfl rfl ?_
        refine V.callv_i (M1 := M) (v := nI q) (md' := m_X9_come) (As := [.int (nI i)]) (rest := [.ref 62]) dX9_minute_64 ml_X9_151 mo_X9_come ⟨Nat.le_of_ble_eq_true rfl, Nat.le_of_ble_eq_true rfl⟩ rfl ⟨_, _, rfl⟩ (Nat.le_of_ble_eq_true rfl) rfl rfl (Nat.le_of_ble_eq_true rfl) (by rw [← hq]; exact v_X9_come (b := i) (by omega) _) rfl ?_
        refine V.callv_v (M1 := buyG c q M) (md' := m_X9_buys) (As := [.int (nI q)]) (rest := []) dX9_minute_67 ml_X9_163 mo_X9_buys ⟨Nat.le_of_ble_eq_true rfl, Nat.le_of_ble_eq_true rfl⟩ rfl ⟨_, _, rfl⟩ (Nat.le_of_ble_eq_true rfl) rfl rfl (Nat.le_of_ble_eq_true rfl) (v_X9_buys hc hq5 M h1) rfl ?_
        refine V.inc (v := nI (i + 1)) dX9_minute_70 rfl (nI_1 _) (by decide) (L' := [(0, .ref 62), (1, .int (nI (i + 1)))]) rfl rfl ?_
        refine V.goto (pc' := 20) dX9_minute_73 rfl ?_
        rw [show mserG c (n + 1) i M = mserG c n (i + 1) (buyG c q M) from by simp only [mserG]; rw [if_pos ⟨c43, c58⟩, comeN, hq, nI_clamp (by omega)]]
        exact ih (i + 1) (buyG c q M) (by rw [buyG_j hc (by decide) (by decide) (by decide) (by decide)]; exact h1) (by rw [buyG_j hc (by decide) (by decide) (by decide) (by decide)]; exact h2) (by rw [buyG_j hc (by decide) (by decide) (by decide) (by decide)]; exact h0) (fun j hj => by rw [buyG_j hc (by omega) (by omega) (by omega) (by omega), buyG_j hc (by decide) (by decide) (by decide) (by decide), buyG_j hc (by decide) (by decide) (by decide) (by decide)]; exact hQ j hj) (by omega)
theorem v_X9_minute {c : Nat} (hc : c ≤ 10) {cc : Nat} (hcc : cc ≤ 12) {m : Nat} (hm : m ≤ 5000) (M : Mem) (hW : WM c cc m M) : V m_X9_minute 0 [(0, .ref 62)] [] M (RT none (mMin c cc m M)) := by
  obtain ⟨h1, h2, h0, ⟨h, h20, hh⟩, hd, hq⟩ := hW
  obtain ⟨d, hd5, hd0⟩ := hd 0 (by decide)
  refine V.aload_n dX9_minute_0 rfl rfl rfl ?_
  refine V.callv_v (M1 := x1M m M) (md' := m_X9_warms) (As := []) (rest := []) dX9_minute_1 ml_X9_157 mo_X9_warms ⟨Nat.le_of_ble_eq_true rfl, Nat.le_of_ble_eq_true rfl⟩ rfl ⟨_, _, rfl⟩ (Nat.le_of_ble_eq_true rfl) rfl rfl (Nat.le_of_ble_eq_true rfl) (by rw [x1M_eq h20 hd5 hh hd0]; exact v_X9_warms hm h20 hd5 M h0 hh hd0) rfl ?_
  refine V.aload_n dX9_minute_4 rfl rfl rfl ?_
  refine V.callv_v (M1 := x2M c m M) (md' := m_X9_roasts) (As := []) (rest := []) dX9_minute_5 ml_X9_160 mo_X9_roasts ⟨Nat.le_of_ble_eq_true rfl, Nat.le_of_ble_eq_true rfl⟩ rfl ⟨_, _, rfl⟩ (Nat.le_of_ble_eq_true rfl) rfl rfl (Nat.le_of_ble_eq_true rfl) (by rw [show x2M c m M = mRoG (hN h d m) c 0 (x1M m M) from by rw [x2M, x1M_h h20 hd5 hh hd0, nI_clamp (by have := hN_le h d m; omega)]]; exact v_X9_roasts hc (hN_le h d m) _ (by rw [x1M_j (by decide) (by decide)]; exact h1) (x1M_h h20 hd5 hh hd0)) rfl ?_
  refine V.aload_n dX9_minute_8 rfl rfl rfl ?_
  refine V.getr dX9_minute_9 fg_X9_7 rfl rfl rfl ?_
  refine V.bipush (v := 9) dX9_minute_12 (by decide) rfl ?_
  refine V.ialdN (j := 9) (v := (x2M c m M) 63 9) dX9_minute_14 rfl (by decide) (by decide) rfl rfl rfl ?_
  refine V.if_ne (tgt := 79) dX9_minute_15 rfl rfl (fun c15 => ?_) (fun c15 => ?_)
  · skip
    refine V.aload_n dX9_minute_79 rfl rfl rfl ?_
    refine V.getr dX9_minute_80 fg_X9_7 rfl rfl rfl ?_
    refine V.bipush (v := 9) dX9_minute_83 (by decide) rfl ?_
    refine V.dup2 dX9_minute_85 rfl rfl rfl ?_
    refine V.ialdN (j := 9) (v := (x2M c m M) 63 9) dX9_minute_86 rfl (by decide) (by decide) rfl rfl rfl ?_
    refine V.iconst (v := 1) dX9_minute_87 rfl rfl ?_
    refine V.isub (v := ((x2M c m M) 63 9) - 1) dX9_minute_88 rfl rfl ?_
    refine V.iastN (j := 9) dX9_minute_89 rfl (by decide) (by decide) rfl (M' := (ms (x2M c m M) 63 9 (((x2M c m M) 63 9) - 1))) rfl rfl ?_
    refine V.aload_n dX9_minute_90 rfl rfl rfl ?_
    refine V.getr dX9_minute_91 fg_X9_7 rfl rfl rfl ?_
    refine V.iconst (v := 0) dX9_minute_94 rfl rfl ?_
    refine V.dup2 dX9_minute_95 rfl rfl rfl ?_
    refine V.ialdN (j := 0) (v := nI m) dX9_minute_96 rfl (by decide) (by decide) rfl (by rw [ms_j (by decide), x2M_j hc (by decide) (by decide), x1M_j (by decide) (by decide)]; exact h0) rfl ?_
    refine V.iconst (v := 1) dX9_minute_97 rfl rfl ?_
    refine V.iadd (v := nI (m + 1)) dX9_minute_98 (nI_add _ _) rfl ?_
    refine V.iastN (j := 0) dX9_minute_99 rfl (by decide) (by decide) rfl (M' := (ms (ms (x2M c m M) 63 9 (((x2M c m M) 63 9) - 1)) 63 0 (nI (m + 1)))) rfl rfl ?_
    exact V.vret dX9_minute_100 rfl ⟨rfl, (by rw [mMin, x3M, if_neg c15])⟩
  · skip
    refine V.iconst (v := 0) dX9_minute_18 rfl rfl ?_
    refine V.ist_n dX9_minute_19 rfl (by decide) (L' := [(0, .ref 62), (1, .int 0)]) rfl rfl ?_
    rw [mMin, x3M, if_pos c15]
    exact l_X9_minute hc hcc m hm cc 0 _ (by rw [x2M_j hc (by decide) (by decide), x1M_j (by decide) (by decide)]; exact h1) (by rw [x2M_j hc (by decide) (by decide), x1M_j (by decide) (by decide)]; exact h2) (by rw [x2M_j hc (by decide) (by decide), x1M_j (by decide) (by decide)]; exact h0) (fun i hi => by rw [x2M_j hc (by omega) (by omega), x1M_j (by omega) (by omega), x2M_j hc (by decide) (by decide), x1M_j (by decide) (by decide), x2M_j hc (by decide) (by decide), x1M_j (by decide) (by decide)]; exact hq i hi) (by omega)
theorem l_X9_minutesGo {c : Nat} (hc : c ≤ 10) {cc : Nat} (hcc : cc ≤ 12) (n0 : Nat) (hn0 : n0 ≤ 1000) : ∀ (n i : Nat) (m : Nat) (M : Mem), WM c cc m M → m + n ≤ 5000 → i + n = n0 → V m_X9_minutesGo 2 [(0, .ref 62), (1, .int (nI n0)), (2, .int (nI i))] [] M (RT none (mGo c cc n m M)) := by
  intro n
  induction n with
  | zero =>
    intro i m M hW hmn hi
    refine V.iload_n dX9_minutesGo_2 rfl rfl rfl ?_
    refine V.iload_n dX9_minutesGo_3 rfl rfl rfl ?_
    refine V.icmp_ge (tgt := 17) dX9_minutesGo_4 rfl rfl (fun c4 => ?_) (fun c4 => absurd ((nI_leI (a := n0) (b := i) (by omega) (by omega)).mpr (by omega)) c4)
    have c4 : n0 ≤ i := (nI_leI (a := n0) (b := i) (by omega) (by omega)).mp c4
    exact V.vret dX9_minutesGo_17 rfl ⟨rfl, rfl⟩
  | succ n ih =>
    intro i m M hW hmn hi
    refine V.iload_n dX9_minutesGo_2 rfl rfl rfl ?_
    refine V.iload_n dX9_minutesGo_3 rfl rfl rfl ?_
    refine V.icmp_ge (tgt := 17) dX9_minutesGo_4 rfl rfl (fun c4 => absurd ((nI_leI (a := n0) (b := i) (by omega) (by omega)).mp c4) (by omega)) (fun c4 => ?_)
    have c4 : ¬ n0 ≤ i := fun zq => c4 ((nI_leI (a := n0) (b := i) (by omega) (by omega)).mpr zq)
    refine V.aload_n dX9_minutesGo_7 rfl rfl rfl ?_
    refine V.callv_v (M1 := mMin c cc m M) (md' := m_X9_minute) (As := []) (rest := []) dX9_minutesGo_8 ml_X9_166 mo_X9_minute ⟨Nat.le_of_ble_eq_true rfl, Nat.le_of_ble_eq_true rfl⟩ rfl ⟨_, _, rfl⟩ (Nat.le_of_ble_eq_true rfl) rfl rfl (Nat.le_of_ble_eq_true rfl) (v_X9_minute hc hcc (by omega) M hW) rfl ?_
    refine V.inc (v := nI (i + 1)) dX9_minutesGo_11 rfl (nI_1 _) (by decide) (L' := [(0, .ref 62), (1, .int (nI n0)), (2, .int (nI (i + 1)))]) rfl rfl ?_
    refine V.goto (pc' := 2) dX9_minutesGo_14 rfl ?_
    exact ih (i + 1) (m + 1) _ (WM_min hc hW) (by omega) (by omega)
theorem v_X9_minutesGo {c : Nat} (hc : c ≤ 10) {cc : Nat} (hcc : cc ≤ 12) {n : Nat} (hn : n ≤ 1000) {m : Nat} (M : Mem) (hW : WM c cc m M) (hmn : m + n ≤ 5000) : V m_X9_minutesGo 0 [(0, .ref 62), (1, .int (nI n))] [] M (RT none (mGo c cc n m M)) := by
  refine V.iconst (v := 0) dX9_minutesGo_0 rfl rfl ?_
  refine V.ist_n dX9_minutesGo_1 rfl (by decide) (L' := [(0, .ref 62), (1, .int (nI n)), (2, .int 0)]) rfl rfl ?_
  exact l_X9_minutesGo hc hcc n hn n 0 m M hW hmn (by omega)
