/-! Kinds: what a kind has of its own -/
def heatsF (k h : Int32) : Int32 := if k = 1 ∨ k = 3 then (if 0 < h then h - 1 else 0) else if k = 2 ∨ k = 4 then (if 0 < h then h + 1 else 0) else if k = 6 then h / 2 else h
def readyF (k : Int32) : Int32 := if k = 1 then 130 else if k = 3 then 140 else if k = 2 ∨ k = 4 then 80 else 100
def burntF (k : Int32) : Int32 := if k = 1 then 170 else if k = 3 then 180 else if k = 2 ∨ k = 4 then 105 else 140
def lessF (p : Int32) : Int32 := if p < 2 then 0 else p - 2
def worthF (k p : Int32) : Int32 := if k = 3 then p + 2 else if k = 5 then lessF p else if k = 6 then lessF p / 2 else p
def aboveF (k : Int32) : Int32 := if k = 3 then 1 else if k = 4 then 2 else if k = 6 then 5 else 0
theorem z_lt {n : Nat} (h : n < 2 ^ 31) : (0 : Int32) < nI n ↔ 0 < n := nI_ltI (a := 0) (by decide) h
theorem k_lt {n : Nat} (k : Nat) (h : n < 2 ^ 31) (hk : k < 2 ^ 31) : nI n < nI k ↔ n < k := nI_ltI h hk
theorem pred0 {n : Nat} (h : n < 2 ^ 31) : (if (0 : Int32) < nI n - 1 then nI n - 1 else 0) = if (0 : Int32) < nI n then nI n - 1 else 0 := by
  cases n with
  | zero => decide
  | succ n =>
    rw [nI_pred, if_pos ((z_lt h).mpr (Nat.succ_pos n))]
    by_cases h0 : 0 < n
    · rw [if_pos ((z_lt (by omega)).mpr h0)]
    · rw [if_neg (fun q => h0 ((z_lt (by omega)).mp q)), show n = 0 by omega]; rfl
theorem pred2 {n : Nat} (h : n < 2 ^ 31) : (if (0 : Int32) < nI n - 2 then nI n - 2 else 0) = lessF (nI n) := by
  rcases n with _ | _ | n
  · decide
  · decide
  · have e : nI (n + 2) - 2 = nI n := by rw [show (2 : Int32) = nI 2 from rfl, pk_sub (by omega)]; rfl
    rw [lessF, e, if_neg (show ¬ nI (n + 2) < 2 from fun q => absurd ((k_lt 2 (by omega) (by decide)).mp q) (by omega))]
    by_cases h0 : 0 < n
    · rw [if_pos ((z_lt (by omega)).mpr h0)]
    · rw [if_neg (fun q => h0 ((z_lt (by omega)).mp q)), show n = 0 by omega]; rfl
theorem v_X3_above (k : Int32) (M : Mem) : V m_X3_above 0 [(0, .int k)] [] M (RT (some (.int (aboveF k))) M) := by
  refine V.iload_n dX3_above_0 rfl rfl rfl ?_
  by_cases s1_3 : k = 3
  · refine V.tabIn (pc' := 32) dX3_above_1 (by rw [s1_3]; decide) (by rw [s1_3]; decide) (by rw [s1_3]; rfl) rfl ?_
    refine V.iconst (v := 1) dX3_above_32 rfl rfl ?_
    exact V.ret dX3_above_33 rfl rfl ⟨(by simp [aboveF, *]), rfl⟩
  by_cases s1_4 : k = 4
  · refine V.tabIn (pc' := 34) dX3_above_1 (by rw [s1_4]; decide) (by rw [s1_4]; decide) (by rw [s1_4]; rfl) rfl ?_
    refine V.iconst (v := 2) dX3_above_34 rfl rfl ?_
    exact V.ret dX3_above_35 rfl rfl ⟨(by simp [aboveF, *]), rfl⟩
  by_cases s1_5 : k = 5
  · refine V.tabIn (pc' := 38) dX3_above_1 (by rw [s1_5]; decide) (by rw [s1_5]; decide) (by rw [s1_5]; rfl) rfl ?_
    refine V.iconst (v := 0) dX3_above_38 rfl rfl ?_
    exact V.ret dX3_above_39 rfl rfl ⟨(by simp [aboveF, *]), rfl⟩
  by_cases s1_6 : k = 6
  · refine V.tabIn (pc' := 36) dX3_above_1 (by rw [s1_6]; decide) (by rw [s1_6]; decide) (by rw [s1_6]; rfl) rfl ?_
    refine V.iconst (v := 5) dX3_above_36 rfl rfl ?_
    exact V.ret dX3_above_37 rfl rfl ⟨(by simp [aboveF, *]), rfl⟩
  refine V.tabOut (pc' := 38) dX3_above_1 (by have q0 := lv_neT (a := 3) s1_3 rfl; have q1 := lv_neT (a := 4) s1_4 rfl; have q2 := lv_neT (a := 5) s1_5 rfl; have q3 := lv_neT (a := 6) s1_6 rfl; omega) rfl ?_
  refine V.iconst (v := 0) dX3_above_38 rfl rfl ?_
  exact V.ret dX3_above_39 rfl rfl ⟨(by simp [aboveF, *]), rfl⟩
theorem v_X3_heatsOf (k : Int32) {n : Nat} (hn : n ≤ 100) (M : Mem) : V m_X3_heatsOf 0 [(0, .int k), (1, .int (nI n))] [] M (RT (some (.int (heatsF k (nI n)))) M) := by
  refine V.iload_n dX3_heatsOf_0 rfl rfl rfl ?_
  by_cases s1_1 : k = 1
  · refine V.tabIn (pc' := 40) dX3_heatsOf_1 (by rw [s1_1]; decide) (by rw [s1_1]; decide) (by rw [s1_1]; rfl) rfl ?_
    refine V.iconst (v := 0) dX3_heatsOf_40 rfl rfl ?_
    refine V.iload_n dX3_heatsOf_41 rfl rfl rfl ?_
    refine V.iconst (v := 1) dX3_heatsOf_42 rfl rfl ?_
    refine V.isub (v := (nI n) - 1) dX3_heatsOf_43 rfl rfl ?_
    refine V.mmax (v := if 0 < nI n then nI n - 1 else 0) dX3_heatsOf_44 mm_X3_15 ⟨Nat.le_of_ble_eq_true rfl, Nat.le_of_ble_eq_true rfl⟩ (pred0 (by omega)) rfl ?_
    exact V.ret dX3_heatsOf_47 rfl rfl ⟨(by simp [heatsF, nI_1, nI_0, *]), rfl⟩
  by_cases s1_2 : k = 2
  · refine V.tabIn (pc' := 48) dX3_heatsOf_1 (by rw [s1_2]; decide) (by rw [s1_2]; decide) (by rw [s1_2]; rfl) rfl ?_
    refine V.iload_n dX3_heatsOf_48 rfl rfl rfl ?_
    refine V.if_le (tgt := 58) dX3_heatsOf_49 rfl rfl (fun c49 => ?_) (fun c49 => ?_)
    · have d49 : n = 0 := by have := (nI_leI (a := n) (b := 0) (by omega) (by decide)).mp c49; omega
      subst d49
      refine V.iload_n dX3_heatsOf_58 rfl rfl rfl ?_
      exact V.ret dX3_heatsOf_59 rfl rfl ⟨(by simp [heatsF, nI_1, nI_0, *]), rfl⟩
    · have d49 : (0 : Int32) < nI n := Int32.not_le.mp c49
      refine V.iload_n dX3_heatsOf_52 rfl rfl rfl ?_
      refine V.iconst (v := 1) dX3_heatsOf_53 rfl rfl ?_
      refine V.iadd (v := nI (n + 1)) dX3_heatsOf_54 (nI_add _ _) rfl ?_
      refine V.goto (pc' := 59) dX3_heatsOf_55 rfl ?_
      exact V.ret dX3_heatsOf_59 rfl rfl ⟨(by simp [heatsF, nI_1, nI_0, *]), rfl⟩
  by_cases s1_3 : k = 3
  · refine V.tabIn (pc' := 40) dX3_heatsOf_1 (by rw [s1_3]; decide) (by rw [s1_3]; decide) (by rw [s1_3]; rfl) rfl ?_
    refine V.iconst (v := 0) dX3_heatsOf_40 rfl rfl ?_
    refine V.iload_n dX3_heatsOf_41 rfl rfl rfl ?_
    refine V.iconst (v := 1) dX3_heatsOf_42 rfl rfl ?_
    refine V.isub (v := (nI n) - 1) dX3_heatsOf_43 rfl rfl ?_
    refine V.mmax (v := if 0 < nI n then nI n - 1 else 0) dX3_heatsOf_44 mm_X3_15 ⟨Nat.le_of_ble_eq_true rfl, Nat.le_of_ble_eq_true rfl⟩ (pred0 (by omega)) rfl ?_
    exact V.ret dX3_heatsOf_47 rfl rfl ⟨(by simp [heatsF, nI_1, nI_0, *]), rfl⟩
  by_cases s1_4 : k = 4
  · refine V.tabIn (pc' := 48) dX3_heatsOf_1 (by rw [s1_4]; decide) (by rw [s1_4]; decide) (by rw [s1_4]; rfl) rfl ?_
    refine V.iload_n dX3_heatsOf_48 rfl rfl rfl ?_
    refine V.if_le (tgt := 58) dX3_heatsOf_49 rfl rfl (fun c49 => ?_) (fun c49 => ?_)
    · have d49 : n = 0 := by have := (nI_leI (a := n) (b := 0) (by omega) (by decide)).mp c49; omega
      subst d49
      refine V.iload_n dX3_heatsOf_58 rfl rfl rfl ?_
      exact V.ret dX3_heatsOf_59 rfl rfl ⟨(by simp [heatsF, nI_1, nI_0, *]), rfl⟩
    · have d49 : (0 : Int32) < nI n := Int32.not_le.mp c49
      refine V.iload_n dX3_heatsOf_52 rfl rfl rfl ?_
      refine V.iconst (v := 1) dX3_heatsOf_53 rfl rfl ?_
      refine V.iadd (v := nI (n + 1)) dX3_heatsOf_54 (nI_add _ _) rfl ?_
      refine V.goto (pc' := 59) dX3_heatsOf_55 rfl ?_
      exact V.ret dX3_heatsOf_59 rfl rfl ⟨(by simp [heatsF, nI_1, nI_0, *]), rfl⟩
  by_cases s1_5 : k = 5
  · refine V.tabIn (pc' := 64) dX3_heatsOf_1 (by rw [s1_5]; decide) (by rw [s1_5]; decide) (by rw [s1_5]; rfl) rfl ?_
    refine V.iload_n dX3_heatsOf_64 rfl rfl rfl ?_
    exact V.ret dX3_heatsOf_65 rfl rfl ⟨(by simp [heatsF, nI_1, nI_0, *]), rfl⟩
  by_cases s1_6 : k = 6
  · refine V.tabIn (pc' := 60) dX3_heatsOf_1 (by rw [s1_6]; decide) (by rw [s1_6]; decide) (by rw [s1_6]; rfl) rfl ?_
    refine V.iload_n dX3_heatsOf_60 rfl rfl rfl ?_
    refine V.iconst (v := 2) dX3_heatsOf_61 rfl rfl ?_
    refine V.idiv (v := (nI n) / 2) dX3_heatsOf_62 (by decide) rfl rfl ?_
    exact V.ret dX3_heatsOf_63 rfl rfl ⟨(by simp [heatsF, nI_1, nI_0, *]), rfl⟩
  refine V.tabOut (pc' := 64) dX3_heatsOf_1 (by have q0 := lv_neT (a := 1) s1_1 rfl; have q1 := lv_neT (a := 2) s1_2 rfl; have q2 := lv_neT (a := 3) s1_3 rfl; have q3 := lv_neT (a := 4) s1_4 rfl; have q4 := lv_neT (a := 5) s1_5 rfl; have q5 := lv_neT (a := 6) s1_6 rfl; omega) rfl ?_
  refine V.iload_n dX3_heatsOf_64 rfl rfl rfl ?_
  exact V.ret dX3_heatsOf_65 rfl rfl ⟨(by simp [heatsF, nI_1, nI_0, *]), rfl⟩
theorem v_X3_readyFrom (k : Int32) (M : Mem) : V m_X3_readyFrom 0 [(0, .int k)] [] M (RT (some (.int (readyF k))) M) := by
  refine V.iload_n dX3_readyFrom_0 rfl rfl rfl ?_
  by_cases s1_1 : k = 1
  · refine V.tabIn (pc' := 32) dX3_readyFrom_1 (by rw [s1_1]; decide) (by rw [s1_1]; decide) (by rw [s1_1]; rfl) rfl ?_
    refine V.sipush (v := 130) dX3_readyFrom_32 (by decide) rfl ?_
    exact V.ret dX3_readyFrom_35 rfl rfl ⟨(by simp [readyF, *]), rfl⟩
  by_cases s1_2 : k = 2
  · refine V.tabIn (pc' := 40) dX3_readyFrom_1 (by rw [s1_2]; decide) (by rw [s1_2]; decide) (by rw [s1_2]; rfl) rfl ?_
    refine V.bipush (v := 80) dX3_readyFrom_40 (by decide) rfl ?_
    exact V.ret dX3_readyFrom_42 rfl rfl ⟨(by simp [readyF, *]), rfl⟩
  by_cases s1_3 : k = 3
  · refine V.tabIn (pc' := 36) dX3_readyFrom_1 (by rw [s1_3]; decide) (by rw [s1_3]; decide) (by rw [s1_3]; rfl) rfl ?_
    refine V.sipush (v := 140) dX3_readyFrom_36 (by decide) rfl ?_
    exact V.ret dX3_readyFrom_39 rfl rfl ⟨(by simp [readyF, *]), rfl⟩
  by_cases s1_4 : k = 4
  · refine V.tabIn (pc' := 40) dX3_readyFrom_1 (by rw [s1_4]; decide) (by rw [s1_4]; decide) (by rw [s1_4]; rfl) rfl ?_
    refine V.bipush (v := 80) dX3_readyFrom_40 (by decide) rfl ?_
    exact V.ret dX3_readyFrom_42 rfl rfl ⟨(by simp [readyF, *]), rfl⟩
  refine V.tabOut (pc' := 43) dX3_readyFrom_1 (by have q0 := lv_neT (a := 1) s1_1 rfl; have q1 := lv_neT (a := 2) s1_2 rfl; have q2 := lv_neT (a := 3) s1_3 rfl; have q3 := lv_neT (a := 4) s1_4 rfl; omega) rfl ?_
  refine V.bipush (v := 100) dX3_readyFrom_43 (by decide) rfl ?_
  exact V.ret dX3_readyFrom_45 rfl rfl ⟨(by simp [readyF, *]), rfl⟩
theorem v_X3_burntFrom (k : Int32) (M : Mem) : V m_X3_burntFrom 0 [(0, .int k)] [] M (RT (some (.int (burntF k))) M) := by
  refine V.iload_n dX3_burntFrom_0 rfl rfl rfl ?_
  by_cases s1_1 : k = 1
  · refine V.tabIn (pc' := 32) dX3_burntFrom_1 (by rw [s1_1]; decide) (by rw [s1_1]; decide) (by rw [s1_1]; rfl) rfl ?_
    refine V.sipush (v := 170) dX3_burntFrom_32 (by decide) rfl ?_
    exact V.ret dX3_burntFrom_35 rfl rfl ⟨(by simp [burntF, *]), rfl⟩
  by_cases s1_2 : k = 2
  · refine V.tabIn (pc' := 40) dX3_burntFrom_1 (by rw [s1_2]; decide) (by rw [s1_2]; decide) (by rw [s1_2]; rfl) rfl ?_
    refine V.bipush (v := 105) dX3_burntFrom_40 (by decide) rfl ?_
    exact V.ret dX3_burntFrom_42 rfl rfl ⟨(by simp [burntF, *]), rfl⟩
  by_cases s1_3 : k = 3
  · refine V.tabIn (pc' := 36) dX3_burntFrom_1 (by rw [s1_3]; decide) (by rw [s1_3]; decide) (by rw [s1_3]; rfl) rfl ?_
    refine V.sipush (v := 180) dX3_burntFrom_36 (by decide) rfl ?_
    exact V.ret dX3_burntFrom_39 rfl rfl ⟨(by simp [burntF, *]), rfl⟩
  by_cases s1_4 : k = 4
  · refine V.tabIn (pc' := 40) dX3_burntFrom_1 (by rw [s1_4]; decide) (by rw [s1_4]; decide) (by rw [s1_4]; rfl) rfl ?_
    refine V.bipush (v := 105) dX3_burntFrom_40 (by decide) rfl ?_
    exact V.ret dX3_burntFrom_42 rfl rfl ⟨(by simp [burntF, *]), rfl⟩
  refine V.tabOut (pc' := 43) dX3_burntFrom_1 (by have q0 := lv_neT (a := 1) s1_1 rfl; have q1 := lv_neT (a := 2) s1_2 rfl; have q2 := lv_neT (a := 3) s1_3 rfl; have q3 := lv_neT (a := 4) s1_4 rfl; omega) rfl ?_
  refine V.sipush (v := 140) dX3_burntFrom_43 (by decide) rfl ?_
  exact V.ret dX3_burntFrom_46 rfl rfl ⟨(by simp [burntF, *]), rfl⟩
theorem v_X3_bursts (k r h : Int32) (M : Mem) : V m_X3_bursts 0 [(0, .int k), (1, .int r), (2, .int h)] [] M (RT (some (.int (if k = 4 ∧ 60 ≤ r ∧ 8 ≤ h then 1 else 0))) M) := by
  refine V.iload_n dX3_bursts_0 rfl rfl rfl ?_
  refine V.iconst (v := 4) dX3_bursts_1 rfl rfl ?_
  refine V.icmp_ne (tgt := 21) dX3_bursts_2 rfl rfl (fun c2 => ?_) (fun c2 => ?_)
  · skip
    refine V.iconst (v := 0) dX3_bursts_21 rfl rfl ?_
    exact V.ret dX3_bursts_22 rfl rfl ⟨(by simp [*]), rfl⟩
  · skip
    refine V.iload_n dX3_bursts_5 rfl rfl rfl ?_
    refine V.bipush (v := 60) dX3_bursts_6 (by decide) rfl ?_
    refine V.icmp_lt (tgt := 21) dX3_bursts_8 rfl rfl (fun c8 => ?_) (fun c8 => ?_)
    · have d8 : ¬ 60 ≤ r := Int32.not_le.mpr c8
      refine V.iconst (v := 0) dX3_bursts_21 rfl rfl ?_
      exact V.ret dX3_bursts_22 rfl rfl ⟨(by simp [*]), rfl⟩
    · have d8 : 60 ≤ r := Int32.not_lt.mp c8
      refine V.iload_n dX3_bursts_11 rfl rfl rfl ?_
      refine V.bipush (v := 8) dX3_bursts_12 (by decide) rfl ?_
      refine V.icmp_lt (tgt := 21) dX3_bursts_14 rfl rfl (fun c14 => ?_) (fun c14 => ?_)
      · have d14 : ¬ 8 ≤ h := Int32.not_le.mpr c14
        refine V.iconst (v := 0) dX3_bursts_21 rfl rfl ?_
        exact V.ret dX3_bursts_22 rfl rfl ⟨(by simp [*]), rfl⟩
      · have d14 : 8 ≤ h := Int32.not_lt.mp c14
        refine V.iconst (v := 1) dX3_bursts_17 rfl rfl ?_
        refine V.goto (pc' := 22) dX3_bursts_18 rfl ?_
        exact V.ret dX3_bursts_22 rfl rfl ⟨(by simp [*]), rfl⟩
theorem v_X3_worthOf (k : Int32) {n : Nat} (hn : n ≤ 100) (M : Mem) : V m_X3_worthOf 0 [(0, .int k), (1, .int (nI n))] [] M (RT (some (.int (worthF k (nI n)))) M) := by
  refine V.iload_n dX3_worthOf_0 rfl rfl rfl ?_
  by_cases s1_3 : k = 3
  · refine V.tabIn (pc' := 32) dX3_worthOf_1 (by rw [s1_3]; decide) (by rw [s1_3]; decide) (by rw [s1_3]; rfl) rfl ?_
    refine V.iload_n dX3_worthOf_32 rfl rfl rfl ?_
    refine V.iconst (v := 2) dX3_worthOf_33 rfl rfl ?_
    refine V.iadd (v := nI n + 2) dX3_worthOf_34 rfl rfl ?_
    exact V.ret dX3_worthOf_35 rfl rfl ⟨(by simp [worthF, *]), rfl⟩
  by_cases s1_4 : k = 4
  · refine V.tabIn (pc' := 54) dX3_worthOf_1 (by rw [s1_4]; decide) (by rw [s1_4]; decide) (by rw [s1_4]; rfl) rfl ?_
    refine V.iload_n dX3_worthOf_54 rfl rfl rfl ?_
    exact V.ret dX3_worthOf_55 rfl rfl ⟨(by simp [worthF, *]), rfl⟩
  by_cases s1_5 : k = 5
  · refine V.tabIn (pc' := 36) dX3_worthOf_1 (by rw [s1_5]; decide) (by rw [s1_5]; decide) (by rw [s1_5]; rfl) rfl ?_
    refine V.iconst (v := 0) dX3_worthOf_36 rfl rfl ?_
    refine V.iload_n dX3_worthOf_37 rfl rfl rfl ?_
    refine V.iconst (v := 2) dX3_worthOf_38 rfl rfl ?_
    refine V.isub (v := (nI n) - 2) dX3_worthOf_39 rfl rfl ?_
    refine V.mmax (v := lessF (nI n)) dX3_worthOf_40 mm_X3_15 ⟨Nat.le_of_ble_eq_true rfl, Nat.le_of_ble_eq_true rfl⟩ (pred2 (by omega)) rfl ?_
    exact V.ret dX3_worthOf_43 rfl rfl ⟨(by simp [worthF, *]), rfl⟩
  by_cases s1_6 : k = 6
  · refine V.tabIn (pc' := 44) dX3_worthOf_1 (by rw [s1_6]; decide) (by rw [s1_6]; decide) (by rw [s1_6]; rfl) rfl ?_
    refine V.iconst (v := 0) dX3_worthOf_44 rfl rfl ?_
    refine V.iload_n dX3_worthOf_45 rfl rfl rfl ?_
    refine V.iconst (v := 2) dX3_worthOf_46 rfl rfl ?_
    refine V.isub (v := (nI n) - 2) dX3_worthOf_47 rfl rfl ?_
    refine V.mmax (v := lessF (nI n)) dX3_worthOf_48 mm_X3_15 ⟨Nat.le_of_ble_eq_true rfl, Nat.le_of_ble_eq_true rfl⟩ (pred2 (by omega)) rfl ?_
    refine V.iconst (v := 2) dX3_worthOf_51 rfl rfl ?_
    refine V.idiv (v := (lessF (nI n)) / 2) dX3_worthOf_52 (by decide) rfl rfl ?_
    exact V.ret dX3_worthOf_53 rfl rfl ⟨(by simp [worthF, *]), rfl⟩
  refine V.tabOut (pc' := 54) dX3_worthOf_1 (by have q0 := lv_neT (a := 3) s1_3 rfl; have q1 := lv_neT (a := 4) s1_4 rfl; have q2 := lv_neT (a := 5) s1_5 rfl; have q3 := lv_neT (a := 6) s1_6 rfl; omega) rfl ?_
  refine V.iload_n dX3_worthOf_54 rfl rfl rfl ?_
  exact V.ret dX3_worthOf_55 rfl rfl ⟨(by simp [worthF, *]), rfl⟩
theorem v_X3_isUnder (k t : Int32) (M : Mem) : V m_X3_isUnder 0 [(0, .int k), (1, .int t)] [] M (RT (some (.int (if k = t ∨ aboveF k = t ∨ aboveF (aboveF k) = t then 1 else 0))) M) := by
  refine V.iload_n dX3_isUnder_0 rfl rfl rfl ?_
  refine V.ist_n dX3_isUnder_1 rfl (by decide) (L' := [(0, .int k), (1, .int t), (2, .int k)]) rfl rfl ?_
  refine V.iconst (v := 0) dX3_isUnder_2 rfl rfl ?_
  refine V.ist_n dX3_isUnder_3 rfl (by decide) (L' := [(0, .int k), (1, .int t), (2, .int k), (3, .int 0)]) rfl rfl ?_
  refine V.iload_n dX3_isUnder_4 rfl rfl rfl ?_
  refine V.iconst (v := 3) dX3_isUnder_5 rfl rfl ?_
  refine V.icmp_ge (tgt := 27) dX3_isUnder_6 rfl rfl (fun c6 => absurd c6 (by decide)) (fun _ => ?_)
  refine V.iload_n dX3_isUnder_9 rfl rfl rfl ?_
  refine V.iload_n dX3_isUnder_10 rfl rfl rfl ?_
  refine V.icmp_ne (tgt := 16) dX3_isUnder_11 rfl rfl (fun c11 => ?_) (fun c11 => ?_)
  · skip
    refine V.iload_n dX3_isUnder_16 rfl rfl rfl ?_
    refine V.calls_i (M1 := M) (v := aboveF k) (md' := m_X3_above) (As := [.int k]) (rest := []) dX3_isUnder_17 ml_X3_11 mo_X3_above ⟨Nat.le_of_ble_eq_true rfl, Nat.le_of_ble_eq_true rfl⟩ (Nat.le_of_ble_eq_true rfl) rfl rfl (Nat.le_of_ble_eq_true rfl) (v_X3_above k _) rfl ?_
    refine V.ist_n dX3_isUnder_20 rfl (by decide) (L' := [(0, .int k), (1, .int t), (2, .int (aboveF k)), (3, .int 0)]) rfl rfl ?_
    refine V.inc (v := 1) dX3_isUnder_21 rfl rfl (by decide) (L' := [(0, .int k), (1, .int t), (2, .int (aboveF k)), (3, .int 1)]) rfl rfl ?_
    refine V.goto (pc' := 4) dX3_isUnder_24 rfl ?_
    refine V.iload_n dX3_isUnder_4 rfl rfl rfl ?_
    refine V.iconst (v := 3) dX3_isUnder_5 rfl rfl ?_
    refine V.icmp_ge (tgt := 27) dX3_isUnder_6 rfl rfl (fun c6 => absurd c6 (by decide)) (fun _ => ?_)
    refine V.iload_n dX3_isUnder_9 rfl rfl rfl ?_
    refine V.iload_n dX3_isUnder_10 rfl rfl rfl ?_
    refine V.icmp_ne (tgt := 16) dX3_isUnder_11 rfl rfl (fun c11 => ?_) (fun c11 => ?_)
    · skip
      refine V.iload_n dX3_isUnder_16 rfl rfl rfl ?_
      refine V.calls_i (M1 := M) (v := aboveF (aboveF k)) (md' := m_X3_above) (As := [.int (aboveF k)]) (rest := []) dX3_isUnder_17 ml_X3_11 mo_X3_above ⟨Nat.le_of_ble_eq_true rfl, Nat.le_of_ble_eq_true rfl⟩ (Nat.le_of_ble_eq_true rfl) rfl rfl (Nat.le_of_ble_eq_true rfl) (v_X3_above (aboveF k) _) rfl ?_
      refine V.ist_n dX3_isUnder_20 rfl (by decide) (L' := [(0, .int k), (1, .int t), (2, .int (aboveF (aboveF k))), (3, .int 1)]) rfl rfl ?_
      refine V.inc (v := 2) dX3_isUnder_21 rfl rfl (by decide) (L' := [(0, .int k), (1, .int t), (2, .int (aboveF (aboveF k))), (3, .int 2)]) rfl rfl ?_
      refine V.goto (pc' := 4) dX3_isUnder_24 rfl ?_
      refine V.iload_n dX3_isUnder_4 rfl rfl rfl ?_
      refine V.iconst (v := 3) dX3_isUnder_5 rfl rfl ?_
      refine V.icmp_ge (tgt := 27) dX3_isUnder_6 rfl rfl (fun c6 => absurd c6 (by decide)) (fun _ => ?_)
      refine V.iload_n dX3_isUnder_9 rfl rfl rfl ?_
      refine V.iload_n dX3_isUnder_10 rfl rfl rfl ?_
      refine V.icmp_ne (tgt := 16) dX3_isUnder_11 rfl rfl (fun c11 => ?_) (fun c11 => ?_)
      · skip
        refine V.iload_n dX3_isUnder_16 rfl rfl rfl ?_
        refine V.calls_i (M1 := M) (v := aboveF (aboveF (aboveF k))) (md' := m_X3_above) (As := [.int (aboveF (aboveF k))]) (rest := []) dX3_isUnder_17 ml_X3_11 mo_X3_above ⟨Nat.le_of_ble_eq_true rfl, Nat.le_of_ble_eq_true rfl⟩ (Nat.le_of_ble_eq_true rfl) rfl rfl (Nat.le_of_ble_eq_true rfl) (v_X3_above (aboveF (aboveF k)) _) rfl ?_
        refine V.ist_n dX3_isUnder_20 rfl (by decide) (L' := [(0, .int k), (1, .int t), (2, .int (aboveF (aboveF (aboveF k)))), (3, .int 2)]) rfl rfl ?_
        refine V.inc (v := 3) dX3_isUnder_21 rfl rfl (by decide) (L' := [(0, .int k), (1, .int t), (2, .int (aboveF (aboveF (aboveF k)))), (3, .int 3)]) rfl rfl ?_
        refine V.goto (pc' := 4) dX3_isUnder_24 rfl ?_
        refine V.iload_n dX3_isUnder_4 rfl rfl rfl ?_
        refine V.iconst (v := 3) dX3_isUnder_5 rfl rfl ?_
        refine V.icmp_ge (tgt := 27) dX3_isUnder_6 rfl rfl (fun _ => ?_) (fun c6 => absurd c6 (by decide))
        refine V.iconst (v := 0) dX3_isUnder_27 rfl rfl ?_
        exact V.ret dX3_isUnder_28 rfl rfl ⟨(by simp [*]), rfl⟩
      · skip
        refine V.iconst (v := 1) dX3_isUnder_14 rfl rfl ?_
        exact V.ret dX3_isUnder_15 rfl rfl ⟨(by simp [*]), rfl⟩
    · skip
      refine V.iconst (v := 1) dX3_isUnder_14 rfl rfl ?_
      exact V.ret dX3_isUnder_15 rfl rfl ⟨(by simp [*]), rfl⟩
  · skip
    refine V.iconst (v := 1) dX3_isUnder_14 rfl rfl ?_
    exact V.ret dX3_isUnder_15 rfl rfl ⟨(by simp [*]), rfl⟩
theorem v_X0_clear (M : Mem) : V m_X0_clear 0 [(0, .ref 53)] [] M (RT none (ms M 53 0 (-1))) := by
  refine V.aload_n dX0_clear_0 rfl rfl rfl ?_
  refine V.iconst (v := -1) dX0_clear_1 rfl rfl ?_
  refine V.puti dX0_clear_2 fp_X0_7 rfl rfl rfl rfl (M' := (ms M 53 0 (-1))) rfl rfl ?_
  exact V.vret dX0_clear_5 rfl ⟨rfl, rfl⟩
def offerM (M : Mem) (k w : Int32) : Mem := if M 53 0 < 0 ∨ M 53 1 < w then ms (ms M 53 0 k) 53 1 w else M
theorem v_X0_offer (M : Mem) (k w : Int32) : V m_X0_offer 0 [(0, .ref 53), (1, .int k), (2, .int w)] [] M (RT none (offerM M k w)) := by
  refine V.aload_n dX0_offer_0 rfl rfl rfl ?_
  refine V.geti (v := M 53 0) dX0_offer_1 fg_X0_7 rfl rfl rfl rfl ?_
  refine V.if_lt (tgt := 15) dX0_offer_4 rfl rfl (fun c4 => ?_) (fun c4 => ?_)
  · skip
    refine V.aload_n dX0_offer_15 rfl rfl rfl ?_
    refine V.iload_n dX0_offer_16 rfl rfl rfl ?_
    refine V.puti dX0_offer_17 fp_X0_7 rfl rfl rfl rfl (M' := (ms M 53 0 k)) rfl rfl ?_
    refine V.aload_n dX0_offer_20 rfl rfl rfl ?_
    refine V.iload_n dX0_offer_21 rfl rfl rfl ?_
    refine V.puti dX0_offer_22 fp_X0_13 rfl rfl rfl rfl (M' := (ms (ms M 53 0 k) 53 1 w)) rfl rfl ?_
    exact V.vret dX0_offer_25 rfl ⟨rfl, (by simp [offerM, *])⟩
  · skip
    refine V.iload_n dX0_offer_7 rfl rfl rfl ?_
    refine V.aload_n dX0_offer_8 rfl rfl rfl ?_
    refine V.geti (v := M 53 1) dX0_offer_9 fg_X0_13 rfl rfl rfl rfl ?_
    refine V.icmp_le (tgt := 25) dX0_offer_12 rfl rfl (fun c12 => ?_) (fun c12 => ?_)
    · have d12 : ¬ M 53 1 < w := Int32.not_lt.mpr c12
      exact V.vret dX0_offer_25 rfl ⟨rfl, (by simp [offerM, *])⟩
    · have d12 : M 53 1 < w := Int32.not_le.mp c12
      refine V.aload_n dX0_offer_15 rfl rfl rfl ?_
      refine V.iload_n dX0_offer_16 rfl rfl rfl ?_
      refine V.puti dX0_offer_17 fp_X0_7 rfl rfl rfl rfl (M' := (ms M 53 0 k)) rfl rfl ?_
      refine V.aload_n dX0_offer_20 rfl rfl rfl ?_
      refine V.iload_n dX0_offer_21 rfl rfl rfl ?_
      refine V.puti dX0_offer_22 fp_X0_13 rfl rfl rfl rfl (M' := (ms (ms M 53 0 k) 53 1 w)) rfl rfl ?_
      exact V.vret dX0_offer_25 rfl ⟨rfl, (by simp [offerM, *])⟩
