/-! The reference: its calls, first part. A call's answer and memory stand together: p.. -/
theorem of_rng {x : Int32} {b : Nat} (h : rng 0 b x) : ∃ k, k ≤ b ∧ x = nI k := by
  rw [rng_def] at h
  have h1 := h.1
  have h2 := h.2
  have h3 := Int32.toInt_lt x
  refine ⟨x.toInt.toNat, by omega, ?_⟩
  apply Int32.toInt_inj.mp
  rw [nI_toInt (by omega)]
  omega
theorem of_isB {x : Int32} {c : Nat} (h : isB c x) : ∃ k, k < c ∧ x = nI k := by
  rw [isB_def] at h
  have h1 := h.1
  have h2 := h.2
  have h3 := Int32.toInt_lt x
  refine ⟨x.toInt.toNat, by omega, ?_⟩
  apply Int32.toInt_inj.mp
  rw [nI_toInt (by omega)]
  omega
theorem ltFN {a b : Nat} (h : b ≤ a) : (a < b) = False := eq_false (Nat.not_lt.mpr h)
theorem leFN {a b : Nat} (h : b < a) : (a ≤ b) = False := eq_false (Nat.not_le.mpr h)
theorem ltF {a b : Int32} (h : b ≤ a) : (a < b) = False := eq_false (Int32.not_lt.mpr h)
theorem leF {a b : Int32} (h : b < a) : (a ≤ b) = False := eq_false (Int32.not_le.mpr h)
theorem isB_nI {c k : Nat} (hc : c < 2 ^ 31) (h : k < c) : isB c (nI k) := by
  have := nI_toInt (n := k) (by omega)
  rw [isB_def]
  exact ⟨by omega, by omega⟩
theorem rng_nI {k : Nat} {a b : Int} (hk : k < 2 ^ 31) : rng a b (nI k) ↔ a ≤ (k : Int) ∧ (k : Int) ≤ b := by
  rw [rng_def, nI_toInt hk]
def pBatch (c : Nat) (k : Int32) (M : Mem) : Int32 × Mem := if ¬ rng 0 6 k then (-1000001, fdM 0 M) else if c = 10 then (-1000002, fdM 1 M) else (nI c, mNewM c k 0 0 M)
theorem v_X9_batch {c : Nat} (hc : c ≤ 10) (k : Int32) (M : Mem) (hM : M 63 1 = nI c) : V m_X9_batch 0 [(0, .ref 62), (1, .int k)] [] M (RT (some (.int ((pBatch c k M).1))) ((pBatch c k M).2)) := by
  refine V.iload_n dX9_batch_0 rfl rfl rfl ?_
  refine V.i2l (v := Int32.toInt64 k) dX9_batch_1 rfl rfl ?_
  refine V.lconst (v := 0) dX9_batch_2 rfl rfl ?_
  refine V.ldc2 (v := 6) dX9_batch_3 cl_X9_49 rfl ?_
  refine V.calls_i (M1 := M) (v := if rng 0 6 k then 1 else 0) (md' := m_X9_in) (As := [.long (Int32.toInt64 k), .long 0, .long 6]) (rest := []) dX9_batch_6 ml_X9_38 mo_X9_in ⟨Nat.le_of_ble_eq_true rfl, Nat.le_of_ble_eq_true rfl⟩ (Nat.le_of_ble_eq_true rfl) rfl rfl (Nat.le_of_ble_eq_true rfl) (v_X9_in (x := k) (a := 0) (b := 6) rfl rfl _) rfl ?_
  refine V.ifb_ne (tgt := 19) dX9_batch_9 rfl rfl (fun c9 => ?_) (fun c9 => ?_)
  · skip
    refine V.aload_n dX9_batch_19 rfl rfl rfl ?_
    refine V.getr dX9_batch_20 fg_X9_7 rfl rfl rfl ?_
    refine V.iconst (v := 1) dX9_batch_23 rfl rfl ?_
    refine V.ialdN (j := 1) (v := nI c) dX9_batch_24 rfl (by decide) (by decide) rfl hM rfl ?_
    refine V.bipush (v := 10) dX9_batch_25 (by decide) rfl ?_
    refine V.icmp_ne (tgt := 39) dX9_batch_27 rfl rfl (fun c27 => ?_) (fun c27 => ?_)
    · have d27 := c27
      have c27 : ¬ c = 10 := fun zq => c27 ((nI_eq (a := c) (b := 10) (by omega) (by omega)).mpr zq)
      refine V.aload_n dX9_batch_39 rfl rfl rfl ?_
      refine V.iload_n dX9_batch_40 rfl rfl rfl ?_
      refine V.iconst (v := 0) dX9_batch_41 rfl rfl ?_
      refine V.iconst (v := 0) dX9_batch_42 rfl rfl ?_
      refine V.callv_i (M1 := mNewM c k 0 0 M) (v := nI c) (md' := m_X9_newBatch) (As := [.int k, .int 0, .int 0]) (rest := []) dX9_batch_43 ml_X9_56 mo_X9_newBatch ⟨Nat.le_of_ble_eq_true rfl, Nat.le_of_ble_eq_true rfl⟩ rfl ⟨_, _, rfl⟩ (Nat.le_of_ble_eq_true rfl) rfl rfl (Nat.le_of_ble_eq_true rfl) (v_X9_newBatch (by omega) _ _ _ M hM) rfl ?_
      exact V.ret dX9_batch_46 rfl rfl ⟨(by first | (simp (decide := true) [pBatch, c9, d27]; done) | (simp (decide := true) [pBatch, c9, c27]; done) | (simp (decide := true) [pBatch, c9, d27, c27]; done) | (simp_all (decide := true) [pBatch]; done) | (simp_all (decide := true) [pBatch, ltF, leF, ltFN, leFN]; done)), (by first | (simp (decide := true) [pBatch, c9, d27]; done) | (simp (decide := true) [pBatch, c9, c27]; done) | (simp (decide := true) [pBatch, c9, d27, c27]; done) | (simp_all (decide := true) [pBatch]; done) | (simp_all (decide := true) [pBatch, ltF, leF, ltFN, leFN]; done))⟩
    · have d27 := c27
      have c27 : c = 10 := (nI_eq (a := c) (b := 10) (by omega) (by omega)).mp c27
      refine V.aload_n dX9_batch_30 rfl rfl rfl ?_
      refine V.ldc (v := -1000002) dX9_batch_31 cn_X9_55 rfl ?_
      refine V.callv_i (M1 := fdM 1 M) (v := -1000002) (md' := m_X9_finds) (As := [.int (-1000002)]) (rest := []) dX9_batch_33 ml_X9_51 mo_X9_finds ⟨Nat.le_of_ble_eq_true rfl, Nat.le_of_ble_eq_true rfl⟩ rfl ⟨_, _, rfl⟩ (Nat.le_of_ble_eq_true rfl) rfl rfl (Nat.le_of_ble_eq_true rfl) (v_X9_finds (w := 1) (by decide) (-1000002) (by decide +kernel) _) rfl ?_
      refine V.goto (pc' := 46) dX9_batch_36 rfl ?_
      exact V.ret dX9_batch_46 rfl rfl ⟨(by first | (simp (decide := true) [pBatch, c9, d27]; done) | (simp (decide := true) [pBatch, c9, c27]; done) | (simp (decide := true) [pBatch, c9, d27, c27]; done) | (simp_all (decide := true) [pBatch]; done) | (simp_all (decide := true) [pBatch, ltF, leF, ltFN, leFN]; done)), (by first | (simp (decide := true) [pBatch, c9, d27]; done) | (simp (decide := true) [pBatch, c9, c27]; done) | (simp (decide := true) [pBatch, c9, d27, c27]; done) | (simp_all (decide := true) [pBatch]; done) | (simp_all (decide := true) [pBatch, ltF, leF, ltFN, leFN]; done))⟩
  · skip
    refine V.aload_n dX9_batch_12 rfl rfl rfl ?_
    refine V.ldc (v := -1000001) dX9_batch_13 cn_X9_37 rfl ?_
    refine V.callv_i (M1 := fdM 0 M) (v := -1000001) (md' := m_X9_finds) (As := [.int (-1000001)]) (rest := []) dX9_batch_15 ml_X9_51 mo_X9_finds ⟨Nat.le_of_ble_eq_true rfl, Nat.le_of_ble_eq_true rfl⟩ rfl ⟨_, _, rfl⟩ (Nat.le_of_ble_eq_true rfl) rfl rfl (Nat.le_of_ble_eq_true rfl) (v_X9_finds (w := 0) (by decide) (-1000001) (by decide +kernel) _) rfl ?_
    exact V.ret dX9_batch_18 rfl rfl ⟨(by first | (simp (decide := true) [pBatch, c9]; done) | (simp (decide := true) [pBatch, c9]; done) | (simp (decide := true) [pBatch, c9]; done) | (simp_all (decide := true) [pBatch]; done) | (simp_all (decide := true) [pBatch, ltF, leF, ltFN, leFN]; done)), (by first | (simp (decide := true) [pBatch, c9]; done) | (simp (decide := true) [pBatch, c9]; done) | (simp (decide := true) [pBatch, c9]; done) | (simp_all (decide := true) [pBatch]; done) | (simp_all (decide := true) [pBatch, ltF, leF, ltFN, leFN]; done))⟩
theorem tn0 : (0 : Int32).toNatClampNeg = 0 := rfl
theorem tn1 : (1 : Int32).toNatClampNeg = 1 := rfl
theorem tn2 : (2 : Int32).toNatClampNeg = 2 := rfl
def itsI (b : Nat) (w : Int32) (M : Mem) : Int32 := M 63 (20 + 5 * b + w.toNatClampNeg)
theorem v_X9_its' {b : Nat} (hb : b < 10) {w : Int32} {k : Nat} (hk : k < 5) (hw : w = nI k) (M : Mem) : V m_X9_its 0 [(0, .ref 62), (1, .int (nI b)), (2, .int w)] [] M (RT (some (.int (itsI b w M))) M) := by
  subst hw
  rw [itsI, nI_clamp (by omega)]
  exact v_X9_its hb hk M
def pOf (c : Nat) (x w : Int32) (M : Mem) : Int32 × Mem := if ¬ (isB c x ∧ rng 0 7 w) then (-1000001, fdM 0 M) else (if w < 5 then itsI x.toNatClampNeg w M else if w = 5 then readyF (M 63 (20 + 5 * x.toNatClampNeg)) else if w = 6 then burntF (M 63 (20 + 5 * x.toNatClampNeg)) else worthF (M 63 (20 + 5 * x.toNatClampNeg)) (M 63 5), M)
theorem v_X9_of {c : Nat} (hc : c ≤ 10) (x w : Int32) (M : Mem) (hM : M 63 1 = nI c) : V m_X9_of 0 [(0, .ref 62), (1, .int x), (2, .int w)] [] M (RT (some (.int ((pOf c x w M).1))) ((pOf c x w M).2)) := by
  refine V.aload_n dX9_of_0 rfl rfl rfl ?_
  refine V.iload_n dX9_of_1 rfl rfl rfl ?_
  refine V.callv_i (M1 := M) (v := if isB c x then 1 else 0) (md' := m_X9_isBatch) (As := [.int x]) (rest := []) dX9_of_2 ml_X9_66 mo_X9_isBatch ⟨Nat.le_of_ble_eq_true rfl, Nat.le_of_ble_eq_true rfl⟩ rfl ⟨_, _, rfl⟩ (Nat.le_of_ble_eq_true rfl) rfl rfl (Nat.le_of_ble_eq_true rfl) (v_X9_isBatch hc x M hM) rfl ?_
  refine V.ifb_eq (tgt := 20) dX9_of_5 rfl rfl (fun c5 => ?_) (fun c5 => ?_)
  · skip
    refine V.aload_n dX9_of_20 rfl rfl rfl ?_
    refine V.ldc (v := -1000001) dX9_of_21 cn_X9_37 rfl ?_
    refine V.callv_i (M1 := fdM 0 M) (v := -1000001) (md' := m_X9_finds) (As := [.int (-1000001)]) (rest := []) dX9_of_23 ml_X9_51 mo_X9_finds ⟨Nat.le_of_ble_eq_true rfl, Nat.le_of_ble_eq_true rfl⟩ rfl ⟨_, _, rfl⟩ (Nat.le_of_ble_eq_true rfl) rfl rfl (Nat.le_of_ble_eq_true rfl) (v_X9_finds (w := 0) (by decide) (-1000001) (by decide +kernel) _) rfl ?_
    exact V.ret dX9_of_26 rfl rfl ⟨(by first | (simp (decide := true) [pOf, c5]; done) | (simp (decide := true) [pOf, c5]; done) | (simp (decide := true) [pOf, c5]; done) | (simp_all (decide := true) [pOf]; done) | (simp_all (decide := true) [pOf, ltF, leF, ltFN, leFN]; done)), (by first | (simp (decide := true) [pOf, c5]; done) | (simp (decide := true) [pOf, c5]; done) | (simp (decide := true) [pOf, c5]; done) | (simp_all (decide := true) [pOf]; done) | (simp_all (decide := true) [pOf, ltF, leF, ltFN, leFN]; done))⟩
  · skip
    refine V.iload_n dX9_of_8 rfl rfl rfl ?_
    refine V.i2l (v := Int32.toInt64 w) dX9_of_9 rfl rfl ?_
    refine V.lconst (v := 0) dX9_of_10 rfl rfl ?_
    refine V.ldc2 (v := 7) dX9_of_11 cl_X9_70 rfl ?_
    refine V.calls_i (M1 := M) (v := if rng 0 7 w then 1 else 0) (md' := m_X9_in) (As := [.long (Int32.toInt64 w), .long 0, .long 7]) (rest := []) dX9_of_14 ml_X9_38 mo_X9_in ⟨Nat.le_of_ble_eq_true rfl, Nat.le_of_ble_eq_true rfl⟩ (Nat.le_of_ble_eq_true rfl) rfl rfl (Nat.le_of_ble_eq_true rfl) (v_X9_in (x := w) (a := 0) (b := 7) rfl rfl _) rfl ?_
    refine V.ifb_ne (tgt := 27) dX9_of_17 rfl rfl (fun c17 => ?_) (fun c17 => ?_)
    · skip
      obtain ⟨b, hb, rfl⟩ := of_isB c5
      · have eb : (nI b).toNatClampNeg = b := nI_clamp (by omega)
        obtain ⟨k, hk, rfl⟩ := of_rng (b := 7) c17
        have ek : (nI k).toNatClampNeg = k := nI_clamp (by omega)
        refine V.iload_n dX9_of_27 rfl rfl rfl ?_
        refine V.iconst (v := 5) dX9_of_28 rfl rfl ?_
        refine V.icmp_ge (tgt := 41) dX9_of_29 rfl rfl (fun c29 => ?_) (fun c29 => ?_)
        · have d29 : ¬ nI k < 5 := Int32.not_lt.mpr c29
          refine V.iload_n dX9_of_41 rfl rfl rfl ?_
          refine V.iconst (v := 5) dX9_of_42 rfl rfl ?_
          refine V.icmp_ne (tgt := 54) dX9_of_43 rfl rfl (fun c43 => ?_) (fun c43 => ?_)
          · have d43 := c43
            have c43 : ¬ k = 5 := fun zq => c43 ((nI_eq (a := k) (b := 5) (by omega) (by omega)).mpr zq)
            refine V.iload_n dX9_of_54 rfl rfl rfl ?_
            refine V.bipush (v := 6) dX9_of_55 (by decide) rfl ?_
            refine V.icmp_ne (tgt := 68) dX9_of_57 rfl rfl (fun c57 => ?_) (fun c57 => ?_)
            · have d57 := c57
              have c57 : ¬ k = 6 := fun zq => c57 ((nI_eq (a := k) (b := 6) (by omega) (by omega)).mpr zq)
              refine V.aload_n dX9_of_68 rfl rfl rfl ?_
              refine V.iload_n dX9_of_69 rfl rfl rfl ?_
              refine V.callv_i (M1 := M) (v := worthF (M 63 (20 + 5 * b)) (M 63 5)) (md' := m_X9_worth) (As := [.int (nI b)]) (rest := []) dX9_of_70 ml_X9_75 mo_X9_worth ⟨Nat.le_of_ble_eq_true rfl, Nat.le_of_ble_eq_true rfl⟩ rfl ⟨_, _, rfl⟩ (Nat.le_of_ble_eq_true rfl) rfl rfl (Nat.le_of_ble_eq_true rfl) (v_X9_worth (b := b) (by omega) _) rfl ?_
              exact V.ret dX9_of_73 rfl rfl ⟨(by first | (simp (decide := true) [pOf, c5, c17, eb, ek, c29, d29, d43, d57]; done) | (simp (decide := true) [pOf, c5, c17, eb, ek, c29, c29, c43, c57]; done) | (simp (decide := true) [pOf, c5, c17, eb, ek, c29, d29, d43, d57, c29, c43, c57]; done) | (simp_all (decide := true) [pOf]; done) | (simp_all (decide := true) [pOf, ltF, leF, ltFN, leFN]; done)), (by first | (simp (decide := true) [pOf, c5, c17, eb, ek, c29, d29, d43, d57]; done) | (simp (decide := true) [pOf, c5, c17, eb, ek, c29, c29, c43, c57]; done) | (simp (decide := true) [pOf, c5, c17, eb, ek, c29, d29, d43, d57, c29, c43, c57]; done) | (simp_all (decide := true) [pOf]; done) | (simp_all (decide := true) [pOf, ltF, leF, ltFN, leFN]; done))⟩
            · have d57 := c57
              have c57 : k = 6 := (nI_eq (a := k) (b := 6) (by omega) (by omega)).mp c57
              refine V.aload_n dX9_of_60 rfl rfl rfl ?_
              refine V.iload_n dX9_of_61 rfl rfl rfl ?_
              refine V.callv_i (M1 := M) (v := burntF (M 63 (20 + 5 * b))) (md' := m_X9_burntAt) (As := [.int (nI b)]) (rest := []) dX9_of_62 ml_X9_72 mo_X9_burntAt ⟨Nat.le_of_ble_eq_true rfl, Nat.le_of_ble_eq_true rfl⟩ rfl ⟨_, _, rfl⟩ (Nat.le_of_ble_eq_true rfl) rfl rfl (Nat.le_of_ble_eq_true rfl) (v_X9_burntAt (b := b) (by omega) _) rfl ?_
              refine V.goto (pc' := 73) dX9_of_65 rfl ?_
              exact V.ret dX9_of_73 rfl rfl ⟨(by first | (simp (decide := true) [pOf, c5, c17, eb, ek, c29, d29, d43, d57]; done) | (simp (decide := true) [pOf, c5, c17, eb, ek, c29, c29, c43, c57]; done) | (simp (decide := true) [pOf, c5, c17, eb, ek, c29, d29, d43, d57, c29, c43, c57]; done) | (simp_all (decide := true) [pOf]; done) | (simp_all (decide := true) [pOf, ltF, leF, ltFN, leFN]; done)), (by first | (simp (decide := true) [pOf, c5, c17, eb, ek, c29, d29, d43, d57]; done) | (simp (decide := true) [pOf, c5, c17, eb, ek, c29, c29, c43, c57]; done) | (simp (decide := true) [pOf, c5, c17, eb, ek, c29, d29, d43, d57, c29, c43, c57]; done) | (simp_all (decide := true) [pOf]; done) | (simp_all (decide := true) [pOf, ltF, leF, ltFN, leFN]; done))⟩
          · have d43 := c43
            have c43 : k = 5 := (nI_eq (a := k) (b := 5) (by omega) (by omega)).mp c43
            refine V.aload_n dX9_of_46 rfl rfl rfl ?_
            refine V.iload_n dX9_of_47 rfl rfl rfl ?_
            refine V.callv_i (M1 := M) (v := readyF (M 63 (20 + 5 * b))) (md' := m_X9_readyAt) (As := [.int (nI b)]) (rest := []) dX9_of_48 ml_X9_63 mo_X9_readyAt ⟨Nat.le_of_ble_eq_true rfl, Nat.le_of_ble_eq_true rfl⟩ rfl ⟨_, _, rfl⟩ (Nat.le_of_ble_eq_true rfl) rfl rfl (Nat.le_of_ble_eq_true rfl) (v_X9_readyAt (b := b) (by omega) _) rfl ?_
            refine V.goto (pc' := 73) dX9_of_51 rfl ?_
            exact V.ret dX9_of_73 rfl rfl ⟨(by first | (simp (decide := true) [pOf, c5, c17, eb, ek, c29, d29, d43]; done) | (simp (decide := true) [pOf, c5, c17, eb, ek, c29, c29, c43]; done) | (simp (decide := true) [pOf, c5, c17, eb, ek, c29, d29, d43, c29, c43]; done) | (simp_all (decide := true) [pOf]; done) | (simp_all (decide := true) [pOf, ltF, leF, ltFN, leFN]; done)), (by first | (simp (decide := true) [pOf, c5, c17, eb, ek, c29, d29, d43]; done) | (simp (decide := true) [pOf, c5, c17, eb, ek, c29, c29, c43]; done) | (simp (decide := true) [pOf, c5, c17, eb, ek, c29, d29, d43, c29, c43]; done) | (simp_all (decide := true) [pOf]; done) | (simp_all (decide := true) [pOf, ltF, leF, ltFN, leFN]; done))⟩
        · have d29 : nI k < 5 := Int32.not_le.mp c29
          refine V.aload_n dX9_of_32 rfl rfl rfl ?_
          refine V.iload_n dX9_of_33 rfl rfl rfl ?_
          refine V.iload_n dX9_of_34 rfl rfl rfl ?_
          refine V.callv_i (M1 := M) (v := itsI b (nI k) M) (md' := m_X9_its) (As := [.int (nI b), .int (nI k)]) (rest := []) dX9_of_35 ml_X9_60 mo_X9_its ⟨Nat.le_of_ble_eq_true rfl, Nat.le_of_ble_eq_true rfl⟩ rfl ⟨_, _, rfl⟩ (Nat.le_of_ble_eq_true rfl) rfl rfl (Nat.le_of_ble_eq_true rfl) (v_X9_its' (b := b) (by omega) (k := k) (by have := (nI_ltI (a := k) (b := 5) (by omega) (by decide)).mp d29; omega) rfl _) rfl ?_
          refine V.goto (pc' := 73) dX9_of_38 rfl ?_
          exact V.ret dX9_of_73 rfl rfl ⟨(by first | (simp (decide := true) [pOf, c5, c17, eb, ek, c29, d29]; done) | (simp (decide := true) [pOf, c5, c17, eb, ek, c29, c29]; done) | (simp (decide := true) [pOf, c5, c17, eb, ek, c29, d29, c29]; done) | (simp_all (decide := true) [pOf]; done) | (simp_all (decide := true) [pOf, ltF, leF, ltFN, leFN]; done)), (by first | (simp (decide := true) [pOf, c5, c17, eb, ek, c29, d29]; done) | (simp (decide := true) [pOf, c5, c17, eb, ek, c29, c29]; done) | (simp (decide := true) [pOf, c5, c17, eb, ek, c29, d29, c29]; done) | (simp_all (decide := true) [pOf]; done) | (simp_all (decide := true) [pOf, ltF, leF, ltFN, leFN]; done))⟩
    · skip
      refine V.aload_n dX9_of_20 rfl rfl rfl ?_
      refine V.ldc (v := -1000001) dX9_of_21 cn_X9_37 rfl ?_
      refine V.callv_i (M1 := fdM 0 M) (v := -1000001) (md' := m_X9_finds) (As := [.int (-1000001)]) (rest := []) dX9_of_23 ml_X9_51 mo_X9_finds ⟨Nat.le_of_ble_eq_true rfl, Nat.le_of_ble_eq_true rfl⟩ rfl ⟨_, _, rfl⟩ (Nat.le_of_ble_eq_true rfl) rfl rfl (Nat.le_of_ble_eq_true rfl) (v_X9_finds (w := 0) (by decide) (-1000001) (by decide +kernel) _) rfl ?_
      exact V.ret dX9_of_26 rfl rfl ⟨(by first | (simp (decide := true) [pOf, c5, c17]; done) | (simp (decide := true) [pOf, c5, c17]; done) | (simp (decide := true) [pOf, c5, c17]; done) | (simp_all (decide := true) [pOf]; done) | (simp_all (decide := true) [pOf, ltF, leF, ltFN, leFN]; done)), (by first | (simp (decide := true) [pOf, c5, c17]; done) | (simp (decide := true) [pOf, c5, c17]; done) | (simp (decide := true) [pOf, c5, c17]; done) | (simp_all (decide := true) [pOf]; done) | (simp_all (decide := true) [pOf, ltF, leF, ltFN, leFN]; done))⟩
theorem of_part {w v : Int32} (h : (w = 0 ∧ rng 0 6 v) ∨ (w = 1 ∧ rng 0 9 v) ∨ ((w = 2 ∨ w = 3) ∧ rng 0 999 v)) : ∃ k, k < 4 ∧ w = nI k := by
  rcases h with h | h | ⟨h | h, -⟩
  · exact ⟨0, by decide, h.1⟩
  · exact ⟨1, by decide, h.1⟩
  · exact ⟨2, by decide, h⟩
  · exact ⟨3, by decide, h⟩
def pChange (c : Nat) (x w v : Int32) (M : Mem) : Int32 × Mem := if ¬ (isB c x ∧ ((w = 0 ∧ rng 0 6 v) ∨ (w = 1 ∧ rng 0 9 v) ∨ ((w = 2 ∨ w = 3) ∧ rng 0 999 v))) then (-1000001, fdM 0 M) else (M 63 (20 + 5 * x.toNatClampNeg + w.toNatClampNeg), ms M 63 (20 + 5 * x.toNatClampNeg + w.toNatClampNeg) v)
theorem v_X9_change {c : Nat} (hc : c ≤ 10) (x w v : Int32) (M : Mem) (hM : M 63 1 = nI c) : V m_X9_change 0 [(0, .ref 62), (1, .int x), (2, .int w), (3, .int v)] [] M (RT (some (.int ((pChange c x w v M).1))) ((pChange c x w v M).2)) := by
  refine V.aload_n dX9_change_0 rfl rfl rfl ?_
  refine V.iload_n dX9_change_1 rfl rfl rfl ?_
  refine V.callv_i (M1 := M) (v := if isB c x then 1 else 0) (md' := m_X9_isBatch) (As := [.int x]) (rest := []) dX9_change_2 ml_X9_66 mo_X9_isBatch ⟨Nat.le_of_ble_eq_true rfl, Nat.le_of_ble_eq_true rfl⟩ rfl ⟨_, _, rfl⟩ (Nat.le_of_ble_eq_true rfl) rfl rfl (Nat.le_of_ble_eq_true rfl) (v_X9_isBatch hc x M hM) rfl ?_
  refine V.ifb_eq (tgt := 16) dX9_change_5 rfl rfl (fun c5 => ?_) (fun c5 => ?_)
  · skip
    refine V.aload_n dX9_change_16 rfl rfl rfl ?_
    refine V.ldc (v := -1000001) dX9_change_17 cn_X9_37 rfl ?_
    refine V.callv_i (M1 := fdM 0 M) (v := -1000001) (md' := m_X9_finds) (As := [.int (-1000001)]) (rest := []) dX9_change_19 ml_X9_51 mo_X9_finds ⟨Nat.le_of_ble_eq_true rfl, Nat.le_of_ble_eq_true rfl⟩ rfl ⟨_, _, rfl⟩ (Nat.le_of_ble_eq_true rfl) rfl rfl (Nat.le_of_ble_eq_true rfl) (v_X9_finds (w := 0) (by decide) (-1000001) (by decide +kernel) _) rfl ?_
    exact V.ret dX9_change_22 rfl rfl ⟨(by first | (simp (decide := true) [pChange, c5]; done) | (simp (decide := true) [pChange, c5]; done) | (simp (decide := true) [pChange, c5]; done) | (simp_all (decide := true) [pChange]; done) | (simp_all (decide := true) [pChange, ltF, leF, ltFN, leFN]; done)), (by first | (simp (decide := true) [pChange, c5]; done) | (simp (decide := true) [pChange, c5]; done) | (simp (decide := true) [pChange, c5]; done) | (simp_all (decide := true) [pChange]; done) | (simp_all (decide := true) [pChange, ltF, leF, ltFN, leFN]; done))⟩
  · skip
    refine V.iload_n dX9_change_8 rfl rfl rfl ?_
    refine V.iload_n dX9_change_9 rfl rfl rfl ?_
    refine V.calls_i (M1 := M) (v := if (w = 0 ∧ rng 0 6 v) ∨ (w = 1 ∧ rng 0 9 v) ∨ ((w = 2 ∨ w = 3) ∧ rng 0 999 v) then 1 else 0) (md' := m_X9_isPart) (As := [.int w, .int v]) (rest := []) dX9_change_10 ml_X9_82 mo_X9_isPart ⟨Nat.le_of_ble_eq_true rfl, Nat.le_of_ble_eq_true rfl⟩ (Nat.le_of_ble_eq_true rfl) rfl rfl (Nat.le_of_ble_eq_true rfl) (v_X9_isPart w v _) rfl ?_
    refine V.ifb_ne (tgt := 23) dX9_change_13 rfl rfl (fun c13 => ?_) (fun c13 => ?_)
    · skip
      obtain ⟨b, hb, rfl⟩ := of_isB c5
      · have eb : (nI b).toNatClampNeg = b := nI_clamp (by omega)
        have c13x := c13
        obtain ⟨k, hk, rfl⟩ := of_part c13
        have ek : (nI k).toNatClampNeg = k := nI_clamp (by omega)
        refine V.aload_n dX9_change_23 rfl rfl rfl ?_
        refine V.iload_n dX9_change_24 rfl rfl rfl ?_
        refine V.iload_n dX9_change_25 rfl rfl rfl ?_
        refine V.callv_i (M1 := M) (v := M 63 (20 + 5 * b + k)) (md' := m_X9_its) (As := [.int (nI b), .int (nI k)]) (rest := []) dX9_change_26 ml_X9_60 mo_X9_its ⟨Nat.le_of_ble_eq_true rfl, Nat.le_of_ble_eq_true rfl⟩ rfl ⟨_, _, rfl⟩ (Nat.le_of_ble_eq_true rfl) rfl rfl (Nat.le_of_ble_eq_true rfl) (v_X9_its (b := b) (w := k) (by omega) (by omega) _) rfl ?_
        refine V.ist dX9_change_29 (by decide) (L' := [(0, .ref 62), (1, .int (nI b)), (2, .int (nI k)), (3, .int v), (4, .int (M 63 (20 + 5 * b + k)))]) rfl rfl ?_
        refine V.aload_n dX9_change_31 rfl rfl rfl ?_
        refine V.getr dX9_change_32 fg_X9_7 rfl rfl rfl ?_
        refine V.iload_n dX9_change_35 rfl rfl rfl ?_
        refine V.iload_n dX9_change_36 rfl rfl rfl ?_
        refine V.calls_i (M1 := M) (v := nI (20 + 5 * b + k)) (md' := m_X9_where) (As := [.int (nI b), .int (nI k)]) (rest := [.ref 63]) dX9_change_37 ml_X9_45 mo_X9_where ⟨Nat.le_of_ble_eq_true rfl, Nat.le_of_ble_eq_true rfl⟩ (Nat.le_of_ble_eq_true rfl) rfl rfl (Nat.le_of_ble_eq_true rfl) (v_X9_where b k _) rfl ?_
        refine V.iload_n dX9_change_40 rfl rfl rfl ?_
        refine V.iastN (j := 20 + 5 * b + k) dX9_change_41 rfl (by omega) (by decide) rfl (M' := (ms M 63 (20 + 5 * b + k) v)) rfl rfl ?_
        refine V.iload dX9_change_42 rfl rfl ?_
        exact V.ret dX9_change_44 rfl rfl ⟨(by first | (simp (decide := true) [pChange, c5, c13, eb, ek]; done) | (simp (decide := true) [pChange, c5, c13, eb, ek]; done) | (simp (decide := true) [pChange, c5, c13, eb, ek]; done) | (simp_all (decide := true) [pChange]; done) | (simp_all (decide := true) [pChange, ltF, leF, ltFN, leFN]; done)), (by first | (simp (decide := true) [pChange, c5, c13, eb, ek]; done) | (simp (decide := true) [pChange, c5, c13, eb, ek]; done) | (simp (decide := true) [pChange, c5, c13, eb, ek]; done) | (simp_all (decide := true) [pChange]; done) | (simp_all (decide := true) [pChange, ltF, leF, ltFN, leFN]; done))⟩
    · skip
      refine V.aload_n dX9_change_16 rfl rfl rfl ?_
      refine V.ldc (v := -1000001) dX9_change_17 cn_X9_37 rfl ?_
      refine V.callv_i (M1 := fdM 0 M) (v := -1000001) (md' := m_X9_finds) (As := [.int (-1000001)]) (rest := []) dX9_change_19 ml_X9_51 mo_X9_finds ⟨Nat.le_of_ble_eq_true rfl, Nat.le_of_ble_eq_true rfl⟩ rfl ⟨_, _, rfl⟩ (Nat.le_of_ble_eq_true rfl) rfl rfl (Nat.le_of_ble_eq_true rfl) (v_X9_finds (w := 0) (by decide) (-1000001) (by decide +kernel) _) rfl ?_
      exact V.ret dX9_change_22 rfl rfl ⟨(by first | (simp (decide := true) [pChange, c5, c13]; done) | (simp (decide := true) [pChange, c5, c13]; done) | (simp (decide := true) [pChange, c5, c13]; done) | (simp_all (decide := true) [pChange]; done) | (simp_all (decide := true) [pChange, ltF, leF, ltFN, leFN]; done)), (by first | (simp (decide := true) [pChange, c5, c13]; done) | (simp (decide := true) [pChange, c5, c13]; done) | (simp (decide := true) [pChange, c5, c13]; done) | (simp_all (decide := true) [pChange]; done) | (simp_all (decide := true) [pChange, ltF, leF, ltFN, leFN]; done))⟩
def pPut (c : Nat) (x p : Int32) (M : Mem) : Int32 × Mem := if ¬ (isB c x ∧ rng 1 4 p) then (-1000001, fdM 0 M) else if M 63 (20 + 5 * x.toNatClampNeg + 4) = 4 ∨ M 63 (20 + 5 * x.toNatClampNeg + 4) = p then (-1000005, fdM 4 M) else if ¬ ((¬ p = 1 ∧ ¬ p = 2) ∨ onesF (setG (col M 4) p c 0 0) < (if p = 1 then 2 else 4)) then (-1000002, fdM 1 M) else (M 63 (20 + 5 * x.toNatClampNeg + 4), mPutM x.toNatClampNeg p M)
theorem v_X9_put {c : Nat} (hc : c ≤ 10) (x p : Int32) (M : Mem) (hM : M 63 1 = nI c) : V m_X9_put 0 [(0, .ref 62), (1, .int x), (2, .int p)] [] M (RT (some (.int ((pPut c x p M).1))) ((pPut c x p M).2)) := by
  refine V.aload_n dX9_put_0 rfl rfl rfl ?_
  refine V.iload_n dX9_put_1 rfl rfl rfl ?_
  refine V.callv_i (M1 := M) (v := if isB c x then 1 else 0) (md' := m_X9_isBatch) (As := [.int x]) (rest := []) dX9_put_2 ml_X9_66 mo_X9_isBatch ⟨Nat.le_of_ble_eq_true rfl, Nat.le_of_ble_eq_true rfl⟩ rfl ⟨_, _, rfl⟩ (Nat.le_of_ble_eq_true rfl) rfl rfl (Nat.le_of_ble_eq_true rfl) (v_X9_isBatch hc x M hM) rfl ?_
  refine V.ifb_eq (tgt := 20) dX9_put_5 rfl rfl (fun c5 => ?_) (fun c5 => ?_)
  · skip
    refine V.aload_n dX9_put_20 rfl rfl rfl ?_
    refine V.ldc (v := -1000001) dX9_put_21 cn_X9_37 rfl ?_
    refine V.callv_i (M1 := fdM 0 M) (v := -1000001) (md' := m_X9_finds) (As := [.int (-1000001)]) (rest := []) dX9_put_23 ml_X9_51 mo_X9_finds ⟨Nat.le_of_ble_eq_true rfl, Nat.le_of_ble_eq_true rfl⟩ rfl ⟨_, _, rfl⟩ (Nat.le_of_ble_eq_true rfl) rfl rfl (Nat.le_of_ble_eq_true rfl) (v_X9_finds (w := 0) (by decide) (-1000001) (by decide +kernel) _) rfl ?_
    exact V.ret dX9_put_26 rfl rfl ⟨(by first | (simp (decide := true) [pPut, c5]; done) | (simp (decide := true) [pPut, c5]; done) | (simp (decide := true) [pPut, c5]; done) | (simp_all (decide := true) [pPut]; done) | (simp_all (decide := true) [pPut, ltF, leF, ltFN, leFN]; done)), (by first | (simp (decide := true) [pPut, c5]; done) | (simp (decide := true) [pPut, c5]; done) | (simp (decide := true) [pPut, c5]; done) | (simp_all (decide := true) [pPut]; done) | (simp_all (decide := true) [pPut, ltF, leF, ltFN, leFN]; done))⟩
  · skip
    refine V.iload_n dX9_put_8 rfl rfl rfl ?_
    refine V.i2l (v := Int32.toInt64 p) dX9_put_9 rfl rfl ?_
    refine V.lconst (v := 1) dX9_put_10 rfl rfl ?_
    refine V.ldc2 (v := 4) dX9_put_11 cl_X9_96 rfl ?_
    refine V.calls_i (M1 := M) (v := if rng 1 4 p then 1 else 0) (md' := m_X9_in) (As := [.long (Int32.toInt64 p), .long 1, .long 4]) (rest := []) dX9_put_14 ml_X9_38 mo_X9_in ⟨Nat.le_of_ble_eq_true rfl, Nat.le_of_ble_eq_true rfl⟩ (Nat.le_of_ble_eq_true rfl) rfl rfl (Nat.le_of_ble_eq_true rfl) (v_X9_in (x := p) (a := 1) (b := 4) rfl rfl _) rfl ?_
    refine V.ifb_ne (tgt := 27) dX9_put_17 rfl rfl (fun c17 => ?_) (fun c17 => ?_)
    · skip
      obtain ⟨b, hb, rfl⟩ := of_isB c5
      · have eb : (nI b).toNatClampNeg = b := nI_clamp (by omega)
        refine V.aload_n dX9_put_27 rfl rfl rfl ?_
        refine V.iload_n dX9_put_28 rfl rfl rfl ?_
        refine V.iconst (v := 4) dX9_put_29 rfl rfl ?_
        refine V.callv_i (M1 := M) (v := M 63 (20 + 5 * b + 4)) (md' := m_X9_its) (As := [.int (nI b), .int 4]) (rest := []) dX9_put_30 ml_X9_60 mo_X9_its ⟨Nat.le_of_ble_eq_true rfl, Nat.le_of_ble_eq_true rfl⟩ rfl ⟨_, _, rfl⟩ (Nat.le_of_ble_eq_true rfl) rfl rfl (Nat.le_of_ble_eq_true rfl) (v_X9_its (b := b) (w := 4) (by omega) (by omega) _) rfl ?_
        refine V.ist_n dX9_put_33 rfl (by decide) (L' := [(0, .ref 62), (1, .int (nI b)), (2, .int p), (3, .int (M 63 (20 + 5 * b + 4)))]) rfl rfl ?_
        refine V.iload_n dX9_put_34 rfl rfl rfl ?_
        refine V.iconst (v := 4) dX9_put_35 rfl rfl ?_
        refine V.icmp_eq (tgt := 44) dX9_put_36 rfl rfl (fun c36 => ?_) (fun c36 => ?_)
        · skip
          refine V.aload_n dX9_put_44 rfl rfl rfl ?_
          refine V.ldc (v := -1000005) dX9_put_45 cn_X9_98 rfl ?_
          refine V.callv_i (M1 := fdM 4 M) (v := -1000005) (md' := m_X9_finds) (As := [.int (-1000005)]) (rest := []) dX9_put_47 ml_X9_51 mo_X9_finds ⟨Nat.le_of_ble_eq_true rfl, Nat.le_of_ble_eq_true rfl⟩ rfl ⟨_, _, rfl⟩ (Nat.le_of_ble_eq_true rfl) rfl rfl (Nat.le_of_ble_eq_true rfl) (v_X9_finds (w := 4) (by decide) (-1000005) (by decide +kernel) _) rfl ?_
          exact V.ret dX9_put_50 rfl rfl ⟨(by first | (simp (decide := true) [pPut, c5, c17, eb, c36]; done) | (simp (decide := true) [pPut, c5, c17, eb, c36]; done) | (simp (decide := true) [pPut, c5, c17, eb, c36]; done) | (simp_all (decide := true) [pPut]; done) | (simp_all (decide := true) [pPut, ltF, leF, ltFN, leFN]; done)), (by first | (simp (decide := true) [pPut, c5, c17, eb, c36]; done) | (simp (decide := true) [pPut, c5, c17, eb, c36]; done) | (simp (decide := true) [pPut, c5, c17, eb, c36]; done) | (simp_all (decide := true) [pPut]; done) | (simp_all (decide := true) [pPut, ltF, leF, ltFN, leFN]; done))⟩
        · skip
          refine V.iload_n dX9_put_39 rfl rfl rfl ?_
          refine V.iload_n dX9_put_40 rfl rfl rfl ?_
          refine V.icmp_ne (tgt := 51) dX9_put_41 rfl rfl (fun c41 => ?_) (fun c41 => ?_)
          · skip
            refine V.aload_n dX9_put_51 rfl rfl rfl ?_
            refine V.iload_n dX9_put_52 rfl rfl rfl ?_
            refine V.callv_i (M1 := M) (v := if (¬ p = 1 ∧ ¬ p = 2) ∨ onesF (setG (col M 4) p c 0 0) < (if p = 1 then 2 else 4) then 1 else 0) (md' := m_X9_isRoom) (As := [.int p]) (rest := []) dX9_put_53 ml_X9_99 mo_X9_isRoom ⟨Nat.le_of_ble_eq_true rfl, Nat.le_of_ble_eq_true rfl⟩ rfl ⟨_, _, rfl⟩ (Nat.le_of_ble_eq_true rfl) rfl rfl (Nat.le_of_ble_eq_true rfl) (v_X9_isRoom hc p M hM) rfl ?_
            refine V.ifb_ne (tgt := 66) dX9_put_56 rfl rfl (fun c56 => ?_) (fun c56 => ?_)
            · skip
              refine V.aload_n dX9_put_66 rfl rfl rfl ?_
              refine V.iload_n dX9_put_67 rfl rfl rfl ?_
              refine V.iload_n dX9_put_68 rfl rfl rfl ?_
              refine V.callv_v (M1 := mPutM b p M) (md' := m_X9_putsAt) (As := [.int (nI b), .int p]) (rest := []) dX9_put_69 ml_X9_102 mo_X9_putsAt ⟨Nat.le_of_ble_eq_true rfl, Nat.le_of_ble_eq_true rfl⟩ rfl ⟨_, _, rfl⟩ (Nat.le_of_ble_eq_true rfl) rfl rfl (Nat.le_of_ble_eq_true rfl) (v_X9_putsAt (b := b) (by omega) p _) rfl ?_
              refine V.iload_n dX9_put_72 rfl rfl rfl ?_
              exact V.ret dX9_put_73 rfl rfl ⟨(by first | (simp (decide := true) [pPut, c5, c17, eb, c36, c41, c56]; done) | (simp (decide := true) [pPut, c5, c17, eb, c36, c41, c56]; done) | (simp (decide := true) [pPut, c5, c17, eb, c36, c41, c56]; done) | (simp_all (decide := true) [pPut]; done) | (simp_all (decide := true) [pPut, ltF, leF, ltFN, leFN]; done)), (by first | (simp (decide := true) [pPut, c5, c17, eb, c36, c41, c56]; done) | (simp (decide := true) [pPut, c5, c17, eb, c36, c41, c56]; done) | (simp (decide := true) [pPut, c5, c17, eb, c36, c41, c56]; done) | (simp_all (decide := true) [pPut]; done) | (simp_all (decide := true) [pPut, ltF, leF, ltFN, leFN]; done))⟩
            · skip
              refine V.aload_n dX9_put_59 rfl rfl rfl ?_
              refine V.ldc (v := -1000002) dX9_put_60 cn_X9_55 rfl ?_
              refine V.callv_i (M1 := fdM 1 M) (v := -1000002) (md' := m_X9_finds) (As := [.int (-1000002)]) (rest := []) dX9_put_62 ml_X9_51 mo_X9_finds ⟨Nat.le_of_ble_eq_true rfl, Nat.le_of_ble_eq_true rfl⟩ rfl ⟨_, _, rfl⟩ (Nat.le_of_ble_eq_true rfl) rfl rfl (Nat.le_of_ble_eq_true rfl) (v_X9_finds (w := 1) (by decide) (-1000002) (by decide +kernel) _) rfl ?_
              exact V.ret dX9_put_65 rfl rfl ⟨(by first | (simp (decide := true) [pPut, c5, c17, eb, c36, c41, c56]; done) | (simp (decide := true) [pPut, c5, c17, eb, c36, c41, c56]; done) | (simp (decide := true) [pPut, c5, c17, eb, c36, c41, c56]; done) | (simp_all (decide := true) [pPut]; done) | (simp_all (decide := true) [pPut, ltF, leF, ltFN, leFN]; done)), (by first | (simp (decide := true) [pPut, c5, c17, eb, c36, c41, c56]; done) | (simp (decide := true) [pPut, c5, c17, eb, c36, c41, c56]; done) | (simp (decide := true) [pPut, c5, c17, eb, c36, c41, c56]; done) | (simp_all (decide := true) [pPut]; done) | (simp_all (decide := true) [pPut, ltF, leF, ltFN, leFN]; done))⟩
          · skip
            refine V.aload_n dX9_put_44 rfl rfl rfl ?_
            refine V.ldc (v := -1000005) dX9_put_45 cn_X9_98 rfl ?_
            refine V.callv_i (M1 := fdM 4 M) (v := -1000005) (md' := m_X9_finds) (As := [.int (-1000005)]) (rest := []) dX9_put_47 ml_X9_51 mo_X9_finds ⟨Nat.le_of_ble_eq_true rfl, Nat.le_of_ble_eq_true rfl⟩ rfl ⟨_, _, rfl⟩ (Nat.le_of_ble_eq_true rfl) rfl rfl (Nat.le_of_ble_eq_true rfl) (v_X9_finds (w := 4) (by decide) (-1000005) (by decide +kernel) _) rfl ?_
            exact V.ret dX9_put_50 rfl rfl ⟨(by first | (simp (decide := true) [pPut, c5, c17, eb, c36, c41]; done) | (simp (decide := true) [pPut, c5, c17, eb, c36, c41]; done) | (simp (decide := true) [pPut, c5, c17, eb, c36, c41]; done) | (simp_all (decide := true) [pPut]; done) | (simp_all (decide := true) [pPut, ltF, leF, ltFN, leFN]; done)), (by first | (simp (decide := true) [pPut, c5, c17, eb, c36, c41]; done) | (simp (decide := true) [pPut, c5, c17, eb, c36, c41]; done) | (simp (decide := true) [pPut, c5, c17, eb, c36, c41]; done) | (simp_all (decide := true) [pPut]; done) | (simp_all (decide := true) [pPut, ltF, leF, ltFN, leFN]; done))⟩
    · skip
      refine V.aload_n dX9_put_20 rfl rfl rfl ?_
      refine V.ldc (v := -1000001) dX9_put_21 cn_X9_37 rfl ?_
      refine V.callv_i (M1 := fdM 0 M) (v := -1000001) (md' := m_X9_finds) (As := [.int (-1000001)]) (rest := []) dX9_put_23 ml_X9_51 mo_X9_finds ⟨Nat.le_of_ble_eq_true rfl, Nat.le_of_ble_eq_true rfl⟩ rfl ⟨_, _, rfl⟩ (Nat.le_of_ble_eq_true rfl) rfl rfl (Nat.le_of_ble_eq_true rfl) (v_X9_finds (w := 0) (by decide) (-1000001) (by decide +kernel) _) rfl ?_
      exact V.ret dX9_put_26 rfl rfl ⟨(by first | (simp (decide := true) [pPut, c5, c17]; done) | (simp (decide := true) [pPut, c5, c17]; done) | (simp (decide := true) [pPut, c5, c17]; done) | (simp_all (decide := true) [pPut]; done) | (simp_all (decide := true) [pPut, ltF, leF, ltFN, leFN]; done)), (by first | (simp (decide := true) [pPut, c5, c17]; done) | (simp (decide := true) [pPut, c5, c17]; done) | (simp (decide := true) [pPut, c5, c17]; done) | (simp_all (decide := true) [pPut]; done) | (simp_all (decide := true) [pPut, ltF, leF, ltFN, leFN]; done))⟩
def pHeats (c : Nat) (x h : Int32) (M : Mem) : Int32 × Mem := if isB c x ∧ rng 0 20 h then (heatsF (M 63 (20 + 5 * x.toNatClampNeg)) h, M) else (-1000001, fdM 0 M)
theorem v_X9_heats {c : Nat} (hc : c ≤ 10) (x h : Int32) (M : Mem) (hM : M 63 1 = nI c) : V m_X9_heats 0 [(0, .ref 62), (1, .int x), (2, .int h)] [] M (RT (some (.int ((pHeats c x h M).1))) ((pHeats c x h M).2)) := by
  refine V.aload_n dX9_heats_0 rfl rfl rfl ?_
  refine V.iload_n dX9_heats_1 rfl rfl rfl ?_
  refine V.callv_i (M1 := M) (v := if isB c x then 1 else 0) (md' := m_X9_isBatch) (As := [.int x]) (rest := []) dX9_heats_2 ml_X9_66 mo_X9_isBatch ⟨Nat.le_of_ble_eq_true rfl, Nat.le_of_ble_eq_true rfl⟩ rfl ⟨_, _, rfl⟩ (Nat.le_of_ble_eq_true rfl) rfl rfl (Nat.le_of_ble_eq_true rfl) (v_X9_isBatch hc x M hM) rfl ?_
  refine V.ifb_eq (tgt := 29) dX9_heats_5 rfl rfl (fun c5 => ?_) (fun c5 => ?_)
  · skip
    refine V.aload_n dX9_heats_29 rfl rfl rfl ?_
    refine V.ldc (v := -1000001) dX9_heats_30 cn_X9_37 rfl ?_
    refine V.callv_i (M1 := fdM 0 M) (v := -1000001) (md' := m_X9_finds) (As := [.int (-1000001)]) (rest := []) dX9_heats_32 ml_X9_51 mo_X9_finds ⟨Nat.le_of_ble_eq_true rfl, Nat.le_of_ble_eq_true rfl⟩ rfl ⟨_, _, rfl⟩ (Nat.le_of_ble_eq_true rfl) rfl rfl (Nat.le_of_ble_eq_true rfl) (v_X9_finds (w := 0) (by decide) (-1000001) (by decide +kernel) _) rfl ?_
    exact V.ret dX9_heats_35 rfl rfl ⟨(by first | (simp (decide := true) [pHeats, c5]; done) | (simp (decide := true) [pHeats, c5]; done) | (simp (decide := true) [pHeats, c5]; done) | (simp_all (decide := true) [pHeats]; done) | (simp_all (decide := true) [pHeats, ltF, leF, ltFN, leFN]; done)), (by first | (simp (decide := true) [pHeats, c5]; done) | (simp (decide := true) [pHeats, c5]; done) | (simp (decide := true) [pHeats, c5]; done) | (simp_all (decide := true) [pHeats]; done) | (simp_all (decide := true) [pHeats, ltF, leF, ltFN, leFN]; done))⟩
  · skip
    refine V.iload_n dX9_heats_8 rfl rfl rfl ?_
    refine V.i2l (v := Int32.toInt64 h) dX9_heats_9 rfl rfl ?_
    refine V.lconst (v := 0) dX9_heats_10 rfl rfl ?_
    refine V.ldc2 (v := 20) dX9_heats_11 cl_X9_106 rfl ?_
    refine V.calls_i (M1 := M) (v := if rng 0 20 h then 1 else 0) (md' := m_X9_in) (As := [.long (Int32.toInt64 h), .long 0, .long 20]) (rest := []) dX9_heats_14 ml_X9_38 mo_X9_in ⟨Nat.le_of_ble_eq_true rfl, Nat.le_of_ble_eq_true rfl⟩ (Nat.le_of_ble_eq_true rfl) rfl rfl (Nat.le_of_ble_eq_true rfl) (v_X9_in (x := h) (a := 0) (b := 20) rfl rfl _) rfl ?_
    refine V.ifb_eq (tgt := 29) dX9_heats_17 rfl rfl (fun c17 => ?_) (fun c17 => ?_)
    · skip
      refine V.aload_n dX9_heats_29 rfl rfl rfl ?_
      refine V.ldc (v := -1000001) dX9_heats_30 cn_X9_37 rfl ?_
      refine V.callv_i (M1 := fdM 0 M) (v := -1000001) (md' := m_X9_finds) (As := [.int (-1000001)]) (rest := []) dX9_heats_32 ml_X9_51 mo_X9_finds ⟨Nat.le_of_ble_eq_true rfl, Nat.le_of_ble_eq_true rfl⟩ rfl ⟨_, _, rfl⟩ (Nat.le_of_ble_eq_true rfl) rfl rfl (Nat.le_of_ble_eq_true rfl) (v_X9_finds (w := 0) (by decide) (-1000001) (by decide +kernel) _) rfl ?_
      exact V.ret dX9_heats_35 rfl rfl ⟨(by first | (simp (decide := true) [pHeats, c5, c17]; done) | (simp (decide := true) [pHeats, c5, c17]; done) | (simp (decide := true) [pHeats, c5, c17]; done) | (simp_all (decide := true) [pHeats]; done) | (simp_all (decide := true) [pHeats, ltF, leF, ltFN, leFN]; done)), (by first | (simp (decide := true) [pHeats, c5, c17]; done) | (simp (decide := true) [pHeats, c5, c17]; done) | (simp (decide := true) [pHeats, c5, c17]; done) | (simp_all (decide := true) [pHeats]; done) | (simp_all (decide := true) [pHeats, ltF, leF, ltFN, leFN]; done))⟩
    · skip
      obtain ⟨b, hb, rfl⟩ := of_isB c5
      · have eb : (nI b).toNatClampNeg = b := nI_clamp (by omega)
        refine V.aload_n dX9_heats_20 rfl rfl rfl ?_
        refine V.iload_n dX9_heats_21 rfl rfl rfl ?_
        refine V.iload_n dX9_heats_22 rfl rfl rfl ?_
        refine V.callv_i (M1 := M) (v := heatsF (M 63 (20 + 5 * b)) h) (md' := m_X9_heatsOf) (As := [.int (nI b), .int h]) (rest := []) dX9_heats_23 ml_X9_108 mo_X9_heatsOf ⟨Nat.le_of_ble_eq_true rfl, Nat.le_of_ble_eq_true rfl⟩ rfl ⟨_, _, rfl⟩ (Nat.le_of_ble_eq_true rfl) rfl rfl (Nat.le_of_ble_eq_true rfl) (v_X9_heatsOf (b := b) (by omega) h _) rfl ?_
        refine V.goto (pc' := 35) dX9_heats_26 rfl ?_
        exact V.ret dX9_heats_35 rfl rfl ⟨(by first | (simp (decide := true) [pHeats, c5, c17, eb]; done) | (simp (decide := true) [pHeats, c5, c17, eb]; done) | (simp (decide := true) [pHeats, c5, c17, eb]; done) | (simp_all (decide := true) [pHeats]; done) | (simp_all (decide := true) [pHeats, ltF, leF, ltFN, leFN]; done)), (by first | (simp (decide := true) [pHeats, c5, c17, eb]; done) | (simp (decide := true) [pHeats, c5, c17, eb]; done) | (simp (decide := true) [pHeats, c5, c17, eb]; done) | (simp_all (decide := true) [pHeats]; done) | (simp_all (decide := true) [pHeats, ltF, leF, ltFN, leFN]; done))⟩
def pHow (c : Nat) (x : Int32) (M : Mem) : Int32 × Mem := if isB c x then (hwF (M 63 (20 + 5 * x.toNatClampNeg)) (M 63 (20 + 5 * x.toNatClampNeg + 2)) (M 63 (20 + 5 * x.toNatClampNeg + 3)) (M 63 (20 + 5 * x.toNatClampNeg + 4)), M) else (-1000001, fdM 0 M)
theorem v_X9_how {c : Nat} (hc : c ≤ 10) (x : Int32) (M : Mem) (hM : M 63 1 = nI c) : V m_X9_how 0 [(0, .ref 62), (1, .int x)] [] M (RT (some (.int ((pHow c x M).1))) ((pHow c x M).2)) := by
  refine V.aload_n dX9_how_0 rfl rfl rfl ?_
  refine V.iload_n dX9_how_1 rfl rfl rfl ?_
  refine V.callv_i (M1 := M) (v := if isB c x then 1 else 0) (md' := m_X9_isBatch) (As := [.int x]) (rest := []) dX9_how_2 ml_X9_66 mo_X9_isBatch ⟨Nat.le_of_ble_eq_true rfl, Nat.le_of_ble_eq_true rfl⟩ rfl ⟨_, _, rfl⟩ (Nat.le_of_ble_eq_true rfl) rfl rfl (Nat.le_of_ble_eq_true rfl) (v_X9_isBatch hc x M hM) rfl ?_
  refine V.ifb_eq (tgt := 16) dX9_how_5 rfl rfl (fun c5 => ?_) (fun c5 => ?_)
  · skip
    refine V.aload_n dX9_how_16 rfl rfl rfl ?_
    refine V.ldc (v := -1000001) dX9_how_17 cn_X9_37 rfl ?_
    refine V.callv_i (M1 := fdM 0 M) (v := -1000001) (md' := m_X9_finds) (As := [.int (-1000001)]) (rest := []) dX9_how_19 ml_X9_51 mo_X9_finds ⟨Nat.le_of_ble_eq_true rfl, Nat.le_of_ble_eq_true rfl⟩ rfl ⟨_, _, rfl⟩ (Nat.le_of_ble_eq_true rfl) rfl rfl (Nat.le_of_ble_eq_true rfl) (v_X9_finds (w := 0) (by decide) (-1000001) (by decide +kernel) _) rfl ?_
    exact V.ret dX9_how_22 rfl rfl ⟨(by first | (simp (decide := true) [pHow, c5]; done) | (simp (decide := true) [pHow, c5]; done) | (simp (decide := true) [pHow, c5]; done) | (simp_all (decide := true) [pHow]; done) | (simp_all (decide := true) [pHow, ltF, leF, ltFN, leFN]; done)), (by first | (simp (decide := true) [pHow, c5]; done) | (simp (decide := true) [pHow, c5]; done) | (simp (decide := true) [pHow, c5]; done) | (simp_all (decide := true) [pHow]; done) | (simp_all (decide := true) [pHow, ltF, leF, ltFN, leFN]; done))⟩
  · skip
    obtain ⟨b, hb, rfl⟩ := of_isB c5
    · have eb : (nI b).toNatClampNeg = b := nI_clamp (by omega)
      refine V.aload_n dX9_how_8 rfl rfl rfl ?_
      refine V.iload_n dX9_how_9 rfl rfl rfl ?_
      refine V.callv_i (M1 := M) (v := hwF (M 63 (20 + 5 * b)) (M 63 (20 + 5 * b + 2)) (M 63 (20 + 5 * b + 3)) (M 63 (20 + 5 * b + 4))) (md' := m_X9_howIs) (As := [.int (nI b)]) (rest := []) dX9_how_10 ml_X9_117 mo_X9_howIs ⟨Nat.le_of_ble_eq_true rfl, Nat.le_of_ble_eq_true rfl⟩ rfl ⟨_, _, rfl⟩ (Nat.le_of_ble_eq_true rfl) rfl rfl (Nat.le_of_ble_eq_true rfl) (v_X9_howIs (b := b) (by omega) _) rfl ?_
      refine V.goto (pc' := 22) dX9_how_13 rfl ?_
      exact V.ret dX9_how_22 rfl rfl ⟨(by first | (simp (decide := true) [pHow, c5, eb]; done) | (simp (decide := true) [pHow, c5, eb]; done) | (simp (decide := true) [pHow, c5, eb]; done) | (simp_all (decide := true) [pHow]; done) | (simp_all (decide := true) [pHow, ltF, leF, ltFN, leFN]; done)), (by first | (simp (decide := true) [pHow, c5, eb]; done) | (simp (decide := true) [pHow, c5, eb]; done) | (simp (decide := true) [pHow, c5, eb]; done) | (simp_all (decide := true) [pHow]; done) | (simp_all (decide := true) [pHow, ltF, leF, ltFN, leFN]; done))⟩
def pShovel (c : Nat) (n : Int32) (M : Mem) : Int32 × Mem := if ¬ rng 1 9 n then (-1000001, fdM 0 M) else (sumG (dueC (ms M 63 19 (M 63 19 + n))) 7 0 0, ms M 63 19 (M 63 19 + n))
theorem v_X9_shovel {c : Nat} (hc : c ≤ 10) (n : Int32) (M : Mem) (hM : M 63 1 = nI c) : V m_X9_shovel 0 [(0, .ref 62), (1, .int n)] [] M (RT (some (.int ((pShovel c n M).1))) ((pShovel c n M).2)) := by
  refine V.iload_n dX9_shovel_0 rfl rfl rfl ?_
  refine V.i2l (v := Int32.toInt64 n) dX9_shovel_1 rfl rfl ?_
  refine V.lconst (v := 1) dX9_shovel_2 rfl rfl ?_
  refine V.ldc2 (v := 9) dX9_shovel_3 cl_X9_78 rfl ?_
  refine V.calls_i (M1 := M) (v := if rng 1 9 n then 1 else 0) (md' := m_X9_in) (As := [.long (Int32.toInt64 n), .long 1, .long 9]) (rest := []) dX9_shovel_6 ml_X9_38 mo_X9_in ⟨Nat.le_of_ble_eq_true rfl, Nat.le_of_ble_eq_true rfl⟩ (Nat.le_of_ble_eq_true rfl) rfl rfl (Nat.le_of_ble_eq_true rfl) (v_X9_in (x := n) (a := 1) (b := 9) rfl rfl _) rfl ?_
  refine V.ifb_ne (tgt := 19) dX9_shovel_9 rfl rfl (fun c9 => ?_) (fun c9 => ?_)
  · skip
    refine V.aload_n dX9_shovel_19 rfl rfl rfl ?_
    refine V.getr dX9_shovel_20 fg_X9_7 rfl rfl rfl ?_
    refine V.bipush (v := 19) dX9_shovel_23 (by decide) rfl ?_
    refine V.dup2 dX9_shovel_25 rfl rfl rfl ?_
    refine V.ialdN (j := 19) (v := M 63 19) dX9_shovel_26 rfl (by decide) (by decide) rfl rfl rfl ?_
    refine V.iload_n dX9_shovel_27 rfl rfl rfl ?_
    refine V.iadd (v := (M 63 19) + n) dX9_shovel_28 rfl rfl ?_
    refine V.iastN (j := 19) dX9_shovel_29 rfl (by decide) (by decide) rfl (M' := (ms M 63 19 ((M 63 19) + n))) rfl rfl ?_
    refine V.aload_n dX9_shovel_30 rfl rfl rfl ?_
    refine V.callv_i (M1 := (ms M 63 19 ((M 63 19) + n))) (v := sumG (dueC (ms M 63 19 ((M 63 19) + n))) 7 0 0) (md' := m_X9_dueAll) (As := []) (rest := []) dX9_shovel_31 ml_X9_120 mo_X9_dueAll ⟨Nat.le_of_ble_eq_true rfl, Nat.le_of_ble_eq_true rfl⟩ rfl ⟨_, _, rfl⟩ (Nat.le_of_ble_eq_true rfl) rfl rfl (Nat.le_of_ble_eq_true rfl) (v_X9_dueAll _) rfl ?_
    exact V.ret dX9_shovel_34 rfl rfl ⟨(by first | (simp (decide := true) [pShovel, c9]; done) | (simp (decide := true) [pShovel, c9]; done) | (simp (decide := true) [pShovel, c9]; done) | (simp_all (decide := true) [pShovel]; done) | (simp_all (decide := true) [pShovel, ltF, leF, ltFN, leFN]; done)), (by first | (simp (decide := true) [pShovel, c9]; done) | (simp (decide := true) [pShovel, c9]; done) | (simp (decide := true) [pShovel, c9]; done) | (simp_all (decide := true) [pShovel]; done) | (simp_all (decide := true) [pShovel, ltF, leF, ltFN, leFN]; done))⟩
  · skip
    refine V.aload_n dX9_shovel_12 rfl rfl rfl ?_
    refine V.ldc (v := -1000001) dX9_shovel_13 cn_X9_37 rfl ?_
    refine V.callv_i (M1 := fdM 0 M) (v := -1000001) (md' := m_X9_finds) (As := [.int (-1000001)]) (rest := []) dX9_shovel_15 ml_X9_51 mo_X9_finds ⟨Nat.le_of_ble_eq_true rfl, Nat.le_of_ble_eq_true rfl⟩ rfl ⟨_, _, rfl⟩ (Nat.le_of_ble_eq_true rfl) rfl rfl (Nat.le_of_ble_eq_true rfl) (v_X9_finds (w := 0) (by decide) (-1000001) (by decide +kernel) _) rfl ?_
    exact V.ret dX9_shovel_18 rfl rfl ⟨(by first | (simp (decide := true) [pShovel, c9]; done) | (simp (decide := true) [pShovel, c9]; done) | (simp (decide := true) [pShovel, c9]; done) | (simp_all (decide := true) [pShovel]; done) | (simp_all (decide := true) [pShovel, ltF, leF, ltFN, leFN]; done)), (by first | (simp (decide := true) [pShovel, c9]; done) | (simp (decide := true) [pShovel, c9]; done) | (simp (decide := true) [pShovel, c9]; done) | (simp_all (decide := true) [pShovel]; done) | (simp_all (decide := true) [pShovel, ltF, leF, ltFN, leFN]; done))⟩
def pRule (c : Nat) (w v : Int32) (M : Mem) : Int32 × Mem := if ¬ (rng 0 2 w ∧ rng 0 (if w = 0 then 20 else if w = 1 then 99 else 9) v) then (-1000001, fdM 0 M) else (M 63 (4 + w.toNatClampNeg), ms M 63 (4 + w.toNatClampNeg) v)
theorem v_X9_rule {c : Nat} (hc : c ≤ 10) (w v : Int32) (M : Mem) (hM : M 63 1 = nI c) : V m_X9_rule 0 [(0, .ref 62), (1, .int w), (2, .int v)] [] M (RT (some (.int ((pRule c w v M).1))) ((pRule c w v M).2)) := by
  refine V.iload_n dX9_rule_0 rfl rfl rfl ?_
  refine V.i2l (v := Int32.toInt64 w) dX9_rule_1 rfl rfl ?_
  refine V.lconst (v := 0) dX9_rule_2 rfl rfl ?_
  refine V.ldc2 (v := 2) dX9_rule_3 cl_X9_124 rfl ?_
  refine V.calls_i (M1 := M) (v := if rng 0 2 w then 1 else 0) (md' := m_X9_in) (As := [.long (Int32.toInt64 w), .long 0, .long 2]) (rest := []) dX9_rule_6 ml_X9_38 mo_X9_in ⟨Nat.le_of_ble_eq_true rfl, Nat.le_of_ble_eq_true rfl⟩ (Nat.le_of_ble_eq_true rfl) rfl rfl (Nat.le_of_ble_eq_true rfl) (v_X9_in (x := w) (a := 0) (b := 2) rfl rfl _) rfl ?_
  refine V.ifb_eq (tgt := 45) dX9_rule_9 rfl rfl (fun c9 => ?_) (fun c9 => ?_)
  · skip
    refine V.aload_n dX9_rule_45 rfl rfl rfl ?_
    refine V.ldc (v := -1000001) dX9_rule_46 cn_X9_37 rfl ?_
    refine V.callv_i (M1 := fdM 0 M) (v := -1000001) (md' := m_X9_finds) (As := [.int (-1000001)]) (rest := []) dX9_rule_48 ml_X9_51 mo_X9_finds ⟨Nat.le_of_ble_eq_true rfl, Nat.le_of_ble_eq_true rfl⟩ rfl ⟨_, _, rfl⟩ (Nat.le_of_ble_eq_true rfl) rfl rfl (Nat.le_of_ble_eq_true rfl) (v_X9_finds (w := 0) (by decide) (-1000001) (by decide +kernel) _) rfl ?_
    exact V.ret dX9_rule_51 rfl rfl ⟨(by first | (simp (decide := true) [pRule, c9]; done) | (simp (decide := true) [pRule, c9]; done) | (simp (decide := true) [pRule, c9]; done) | (simp_all (decide := true) [pRule]; done) | (simp_all (decide := true) [pRule, ltF, leF, ltFN, leFN]; done)), (by first | (simp (decide := true) [pRule, c9]; done) | (simp (decide := true) [pRule, c9]; done) | (simp (decide := true) [pRule, c9]; done) | (simp_all (decide := true) [pRule]; done) | (simp_all (decide := true) [pRule, ltF, leF, ltFN, leFN]; done))⟩
  · skip
    refine V.iload_n dX9_rule_12 rfl rfl rfl ?_
    refine V.i2l (v := Int32.toInt64 v) dX9_rule_13 rfl rfl ?_
    refine V.lconst (v := 0) dX9_rule_14 rfl rfl ?_
    refine V.iload_n dX9_rule_15 rfl rfl rfl ?_
    refine V.if_ne (tgt := 25) dX9_rule_16 rfl rfl (fun c16 => ?_) (fun c16 => ?_)
    · skip
      refine V.iload_n dX9_rule_25 rfl rfl rfl ?_
      refine V.iconst (v := 1) dX9_rule_26 rfl rfl ?_
      refine V.icmp_ne (tgt := 36) dX9_rule_27 rfl rfl (fun c27 => ?_) (fun c27 => ?_)
      · skip
        refine V.ldc2 (v := 9) dX9_rule_36 cl_X9_78 rfl ?_
        refine V.calls_i (M1 := M) (v := if rng 0 9 v then 1 else 0) (md' := m_X9_in) (As := [.long (Int32.toInt64 v), .long 0, .long 9]) (rest := []) dX9_rule_39 ml_X9_38 mo_X9_in ⟨Nat.le_of_ble_eq_true rfl, Nat.le_of_ble_eq_true rfl⟩ (Nat.le_of_ble_eq_true rfl) rfl rfl (Nat.le_of_ble_eq_true rfl) (v_X9_in (x := v) (a := 0) (b := 9) rfl rfl _) rfl ?_
        refine V.ifb_ne (tgt := 52) dX9_rule_42 rfl rfl (fun c42 => ?_) (fun c42 => ?_)
        · skip
          obtain ⟨k, hk, hw⟩ := of_rng (b := 2) c9
          · have ew : w.toNatClampNeg = k := by rw [hw]; exact nI_clamp (by omega)
            refine V.loc (L' := [(0, .ref 62), (1, .int (nI k)), (2, .int v)]) (by rw [hw]; exact fun _ zh => zh) ?_
            refine V.aload_n dX9_rule_52 rfl rfl rfl ?_
            refine V.getr dX9_rule_53 fg_X9_7 rfl rfl rfl ?_
            refine V.iconst (v := 4) dX9_rule_56 rfl rfl ?_
            refine V.iload_n dX9_rule_57 rfl rfl rfl ?_
            refine V.iadd (v := nI (4 + k)) dX9_rule_58 (nI_add _ _) rfl ?_
            refine V.ialdN (j := 4 + k) (v := M 63 (4 + k)) dX9_rule_59 rfl (by omega) (by decide) rfl rfl rfl ?_
            refine V.ist_n dX9_rule_60 rfl (by decide) (L' := [(0, .ref 62), (1, .int (nI k)), (2, .int v), (3, .int (M 63 (4 + k)))]) rfl rfl ?_
            refine V.aload_n dX9_rule_61 rfl rfl rfl ?_
            refine V.getr dX9_rule_62 fg_X9_7 rfl rfl rfl ?_
            refine V.iconst (v := 4) dX9_rule_65 rfl rfl ?_
            refine V.iload_n dX9_rule_66 rfl rfl rfl ?_
            refine V.iadd (v := nI (4 + k)) dX9_rule_67 (nI_add _ _) rfl ?_
            refine V.iload_n dX9_rule_68 rfl rfl rfl ?_
            refine V.iastN (j := 4 + k) dX9_rule_69 rfl (by omega) (by decide) rfl (M' := (ms M 63 (4 + k) v)) rfl rfl ?_
            refine V.iload_n dX9_rule_70 rfl rfl rfl ?_
            exact V.ret dX9_rule_71 rfl rfl ⟨(by first | (simp (decide := true) [pRule, c9, c16, c27, c42, ← ew, tn0, tn1, tn2]; done) | (simp (decide := true) [pRule, c9, c16, c27, c42, ← ew, tn0, tn1, tn2]; done) | (simp (decide := true) [pRule, c9, c16, c27, c42, ← ew, tn0, tn1, tn2]; done) | (simp_all (decide := true) [pRule]; done) | (simp_all (decide := true) [pRule, ltF, leF, ltFN, leFN]; done)), (by first | (simp (decide := true) [pRule, c9, c16, c27, c42, ← ew, tn0, tn1, tn2]; done) | (simp (decide := true) [pRule, c9, c16, c27, c42, ← ew, tn0, tn1, tn2]; done) | (simp (decide := true) [pRule, c9, c16, c27, c42, ← ew, tn0, tn1, tn2]; done) | (simp_all (decide := true) [pRule]; done) | (simp_all (decide := true) [pRule, ltF, leF, ltFN, leFN]; done))⟩
        · skip
          refine V.aload_n dX9_rule_45 rfl rfl rfl ?_
          refine V.ldc (v := -1000001) dX9_rule_46 cn_X9_37 rfl ?_
          refine V.callv_i (M1 := fdM 0 M) (v := -1000001) (md' := m_X9_finds) (As := [.int (-1000001)]) (rest := []) dX9_rule_48 ml_X9_51 mo_X9_finds ⟨Nat.le_of_ble_eq_true rfl, Nat.le_of_ble_eq_true rfl⟩ rfl ⟨_, _, rfl⟩ (Nat.le_of_ble_eq_true rfl) rfl rfl (Nat.le_of_ble_eq_true rfl) (v_X9_finds (w := 0) (by decide) (-1000001) (by decide +kernel) _) rfl ?_
          exact V.ret dX9_rule_51 rfl rfl ⟨(by first | (simp (decide := true) [pRule, c9, c16, c27, c42]; done) | (simp (decide := true) [pRule, c9, c16, c27, c42]; done) | (simp (decide := true) [pRule, c9, c16, c27, c42]; done) | (simp_all (decide := true) [pRule]; done) | (simp_all (decide := true) [pRule, ltF, leF, ltFN, leFN]; done)), (by first | (simp (decide := true) [pRule, c9, c16, c27, c42]; done) | (simp (decide := true) [pRule, c9, c16, c27, c42]; done) | (simp (decide := true) [pRule, c9, c16, c27, c42]; done) | (simp_all (decide := true) [pRule]; done) | (simp_all (decide := true) [pRule, ltF, leF, ltFN, leFN]; done))⟩
      · skip
        refine V.ldc2 (v := 99) dX9_rule_30 cl_X9_126 rfl ?_
        refine V.goto (pc' := 39) dX9_rule_33 rfl ?_
        refine V.calls_i (M1 := M) (v := if rng 0 99 v then 1 else 0) (md' := m_X9_in) (As := [.long (Int32.toInt64 v), .long 0, .long 99]) (rest := []) dX9_rule_39 ml_X9_38 mo_X9_in ⟨Nat.le_of_ble_eq_true rfl, Nat.le_of_ble_eq_true rfl⟩ (Nat.le_of_ble_eq_true rfl) rfl rfl (Nat.le_of_ble_eq_true rfl) (v_X9_in (x := v) (a := 0) (b := 99) rfl rfl _) rfl ?_
        refine V.ifb_ne (tgt := 52) dX9_rule_42 rfl rfl (fun c42 => ?_) (fun c42 => ?_)
        · skip
          obtain ⟨k, hk, hw⟩ := of_rng (b := 2) c9
          · have ew : w.toNatClampNeg = k := by rw [hw]; exact nI_clamp (by omega)
            refine V.loc (L' := [(0, .ref 62), (1, .int (nI k)), (2, .int v)]) (by rw [hw]; exact fun _ zh => zh) ?_
            refine V.aload_n dX9_rule_52 rfl rfl rfl ?_
            refine V.getr dX9_rule_53 fg_X9_7 rfl rfl rfl ?_
            refine V.iconst (v := 4) dX9_rule_56 rfl rfl ?_
            refine V.iload_n dX9_rule_57 rfl rfl rfl ?_
            refine V.iadd (v := nI (4 + k)) dX9_rule_58 (nI_add _ _) rfl ?_
            refine V.ialdN (j := 4 + k) (v := M 63 (4 + k)) dX9_rule_59 rfl (by omega) (by decide) rfl rfl rfl ?_
            refine V.ist_n dX9_rule_60 rfl (by decide) (L' := [(0, .ref 62), (1, .int (nI k)), (2, .int v), (3, .int (M 63 (4 + k)))]) rfl rfl ?_
            refine V.aload_n dX9_rule_61 rfl rfl rfl ?_
            refine V.getr dX9_rule_62 fg_X9_7 rfl rfl rfl ?_
            refine V.iconst (v := 4) dX9_rule_65 rfl rfl ?_
            refine V.iload_n dX9_rule_66 rfl rfl rfl ?_
            refine V.iadd (v := nI (4 + k)) dX9_rule_67 (nI_add _ _) rfl ?_
            refine V.iload_n dX9_rule_68 rfl rfl rfl ?_
            refine V.iastN (j := 4 + k) dX9_rule_69 rfl (by omega) (by decide) rfl (M' := (ms M 63 (4 + k) v)) rfl rfl ?_
            refine V.iload_n dX9_rule_70 rfl rfl rfl ?_
            exact V.ret dX9_rule_71 rfl rfl ⟨(by first | (simp (decide := true) [pRule, c9, c16, c27, c42, ← ew, tn0, tn1, tn2]; done) | (simp (decide := true) [pRule, c9, c16, c27, c42, ← ew, tn0, tn1, tn2]; done) | (simp (decide := true) [pRule, c9, c16, c27, c42, ← ew, tn0, tn1, tn2]; done) | (simp_all (decide := true) [pRule]; done) | (simp_all (decide := true) [pRule, ltF, leF, ltFN, leFN]; done)), (by first | (simp (decide := true) [pRule, c9, c16, c27, c42, ← ew, tn0, tn1, tn2]; done) | (simp (decide := true) [pRule, c9, c16, c27, c42, ← ew, tn0, tn1, tn2]; done) | (simp (decide := true) [pRule, c9, c16, c27, c42, ← ew, tn0, tn1, tn2]; done) | (simp_all (decide := true) [pRule]; done) | (simp_all (decide := true) [pRule, ltF, leF, ltFN, leFN]; done))⟩
        · skip
          refine V.aload_n dX9_rule_45 rfl rfl rfl ?_
          refine V.ldc (v := -1000001) dX9_rule_46 cn_X9_37 rfl ?_
          refine V.callv_i (M1 := fdM 0 M) (v := -1000001) (md' := m_X9_finds) (As := [.int (-1000001)]) (rest := []) dX9_rule_48 ml_X9_51 mo_X9_finds ⟨Nat.le_of_ble_eq_true rfl, Nat.le_of_ble_eq_true rfl⟩ rfl ⟨_, _, rfl⟩ (Nat.le_of_ble_eq_true rfl) rfl rfl (Nat.le_of_ble_eq_true rfl) (v_X9_finds (w := 0) (by decide) (-1000001) (by decide +kernel) _) rfl ?_
          exact V.ret dX9_rule_51 rfl rfl ⟨(by first | (simp (decide := true) [pRule, c9, c16, c27, c42]; done) | (simp (decide := true) [pRule, c9, c16, c27, c42]; done) | (simp (decide := true) [pRule, c9, c16, c27, c42]; done) | (simp_all (decide := true) [pRule]; done) | (simp_all (decide := true) [pRule, ltF, leF, ltFN, leFN]; done)), (by first | (simp (decide := true) [pRule, c9, c16, c27, c42]; done) | (simp (decide := true) [pRule, c9, c16, c27, c42]; done) | (simp (decide := true) [pRule, c9, c16, c27, c42]; done) | (simp_all (decide := true) [pRule]; done) | (simp_all (decide := true) [pRule, ltF, leF, ltFN, leFN]; done))⟩
    · skip
      refine V.ldc2 (v := 20) dX9_rule_19 cl_X9_106 rfl ?_
      refine V.goto (pc' := 39) dX9_rule_22 rfl ?_
      refine V.calls_i (M1 := M) (v := if rng 0 20 v then 1 else 0) (md' := m_X9_in) (As := [.long (Int32.toInt64 v), .long 0, .long 20]) (rest := []) dX9_rule_39 ml_X9_38 mo_X9_in ⟨Nat.le_of_ble_eq_true rfl, Nat.le_of_ble_eq_true rfl⟩ (Nat.le_of_ble_eq_true rfl) rfl rfl (Nat.le_of_ble_eq_true rfl) (v_X9_in (x := v) (a := 0) (b := 20) rfl rfl _) rfl ?_
      refine V.ifb_ne (tgt := 52) dX9_rule_42 rfl rfl (fun c42 => ?_) (fun c42 => ?_)
      · skip
        obtain ⟨k, hk, hw⟩ := of_rng (b := 2) c9
        · have ew : w.toNatClampNeg = k := by rw [hw]; exact nI_clamp (by omega)
          refine V.loc (L' := [(0, .ref 62), (1, .int (nI k)), (2, .int v)]) (by rw [hw]; exact fun _ zh => zh) ?_
          refine V.aload_n dX9_rule_52 rfl rfl rfl ?_
          refine V.getr dX9_rule_53 fg_X9_7 rfl rfl rfl ?_
          refine V.iconst (v := 4) dX9_rule_56 rfl rfl ?_
          refine V.iload_n dX9_rule_57 rfl rfl rfl ?_
          refine V.iadd (v := nI (4 + k)) dX9_rule_58 (nI_add _ _) rfl ?_
          refine V.ialdN (j := 4 + k) (v := M 63 (4 + k)) dX9_rule_59 rfl (by omega) (by decide) rfl rfl rfl ?_
          refine V.ist_n dX9_rule_60 rfl (by decide) (L' := [(0, .ref 62), (1, .int (nI k)), (2, .int v), (3, .int (M 63 (4 + k)))]) rfl rfl ?_
          refine V.aload_n dX9_rule_61 rfl rfl rfl ?_
          refine V.getr dX9_rule_62 fg_X9_7 rfl rfl rfl ?_
          refine V.iconst (v := 4) dX9_rule_65 rfl rfl ?_
          refine V.iload_n dX9_rule_66 rfl rfl rfl ?_
          refine V.iadd (v := nI (4 + k)) dX9_rule_67 (nI_add _ _) rfl ?_
          refine V.iload_n dX9_rule_68 rfl rfl rfl ?_
          refine V.iastN (j := 4 + k) dX9_rule_69 rfl (by omega) (by decide) rfl (M' := (ms M 63 (4 + k) v)) rfl rfl ?_
          refine V.iload_n dX9_rule_70 rfl rfl rfl ?_
          exact V.ret dX9_rule_71 rfl rfl ⟨(by first | (simp (decide := true) [pRule, c9, c16, c42, ← ew, tn0, tn1, tn2]; done) | (simp (decide := true) [pRule, c9, c16, c42, ← ew, tn0, tn1, tn2]; done) | (simp (decide := true) [pRule, c9, c16, c42, ← ew, tn0, tn1, tn2]; done) | (simp_all (decide := true) [pRule]; done) | (simp_all (decide := true) [pRule, ltF, leF, ltFN, leFN]; done)), (by first | (simp (decide := true) [pRule, c9, c16, c42, ← ew, tn0, tn1, tn2]; done) | (simp (decide := true) [pRule, c9, c16, c42, ← ew, tn0, tn1, tn2]; done) | (simp (decide := true) [pRule, c9, c16, c42, ← ew, tn0, tn1, tn2]; done) | (simp_all (decide := true) [pRule]; done) | (simp_all (decide := true) [pRule, ltF, leF, ltFN, leFN]; done))⟩
      · skip
        refine V.aload_n dX9_rule_45 rfl rfl rfl ?_
        refine V.ldc (v := -1000001) dX9_rule_46 cn_X9_37 rfl ?_
        refine V.callv_i (M1 := fdM 0 M) (v := -1000001) (md' := m_X9_finds) (As := [.int (-1000001)]) (rest := []) dX9_rule_48 ml_X9_51 mo_X9_finds ⟨Nat.le_of_ble_eq_true rfl, Nat.le_of_ble_eq_true rfl⟩ rfl ⟨_, _, rfl⟩ (Nat.le_of_ble_eq_true rfl) rfl rfl (Nat.le_of_ble_eq_true rfl) (v_X9_finds (w := 0) (by decide) (-1000001) (by decide +kernel) _) rfl ?_
        exact V.ret dX9_rule_51 rfl rfl ⟨(by first | (simp (decide := true) [pRule, c9, c16, c42]; done) | (simp (decide := true) [pRule, c9, c16, c42]; done) | (simp (decide := true) [pRule, c9, c16, c42]; done) | (simp_all (decide := true) [pRule]; done) | (simp_all (decide := true) [pRule, ltF, leF, ltFN, leFN]; done)), (by first | (simp (decide := true) [pRule, c9, c16, c42]; done) | (simp (decide := true) [pRule, c9, c16, c42]; done) | (simp (decide := true) [pRule, c9, c16, c42]; done) | (simp_all (decide := true) [pRule]; done) | (simp_all (decide := true) [pRule, ltF, leF, ltFN, leFN]; done))⟩
def pWalk (c : Nat) (t : Int32) (M : Mem) : Int32 × Mem := if ¬ rng 0 3 t then (-1000001, fdM 0 M) else if 0 < M 63 9 then (-1000005, fdM 4 M) else (mWalkM t M 63 9, mWalkM t M)
theorem v_X9_walk {c : Nat} (hc : c ≤ 10) (t : Int32) (M : Mem) (hM : M 63 1 = nI c) : V m_X9_walk 0 [(0, .ref 62), (1, .int t)] [] M (RT (some (.int ((pWalk c t M).1))) ((pWalk c t M).2)) := by
  refine V.iload_n dX9_walk_0 rfl rfl rfl ?_
  refine V.calls_i (M1 := M) (v := if rng 0 3 t then 1 else 0) (md' := m_X9_isCorner) (As := [.int t]) (rest := []) dX9_walk_1 ml_X9_128 mo_X9_isCorner ⟨Nat.le_of_ble_eq_true rfl, Nat.le_of_ble_eq_true rfl⟩ (Nat.le_of_ble_eq_true rfl) rfl rfl (Nat.le_of_ble_eq_true rfl) (v_X9_isCorner t _) rfl ?_
  refine V.ifb_ne (tgt := 14) dX9_walk_4 rfl rfl (fun c4 => ?_) (fun c4 => ?_)
  · skip
    refine V.aload_n dX9_walk_14 rfl rfl rfl ?_
    refine V.getr dX9_walk_15 fg_X9_7 rfl rfl rfl ?_
    refine V.bipush (v := 9) dX9_walk_18 (by decide) rfl ?_
    refine V.ialdN (j := 9) (v := M 63 9) dX9_walk_20 rfl (by decide) (by decide) rfl rfl rfl ?_
    refine V.if_le (tgt := 31) dX9_walk_21 rfl rfl (fun c21 => ?_) (fun c21 => ?_)
    · have d21 := Int32.not_lt.mpr c21
      refine V.aload_n dX9_walk_31 rfl rfl rfl ?_
      refine V.iload_n dX9_walk_32 rfl rfl rfl ?_
      refine V.callv_v (M1 := mWalkM t M) (md' := m_X9_walks) (As := [.int t]) (rest := []) dX9_walk_33 ml_X9_131 mo_X9_walks ⟨Nat.le_of_ble_eq_true rfl, Nat.le_of_ble_eq_true rfl⟩ rfl ⟨_, _, rfl⟩ (Nat.le_of_ble_eq_true rfl) rfl rfl (Nat.le_of_ble_eq_true rfl) (v_X9_walks t _) rfl ?_
      refine V.aload_n dX9_walk_36 rfl rfl rfl ?_
      refine V.getr dX9_walk_37 fg_X9_7 rfl rfl rfl ?_
      refine V.bipush (v := 9) dX9_walk_40 (by decide) rfl ?_
      refine V.ialdN (j := 9) (v := (mWalkM t M) 63 9) dX9_walk_42 rfl (by decide) (by decide) rfl rfl rfl ?_
      exact V.ret dX9_walk_43 rfl rfl ⟨(by first | (simp (decide := true) [pWalk, c4, c21, d21]; done) | (simp (decide := true) [pWalk, c4, c21, c21]; done) | (simp (decide := true) [pWalk, c4, c21, d21, c21]; done) | (simp_all (decide := true) [pWalk]; done) | (simp_all (decide := true) [pWalk, ltF, leF, ltFN, leFN]; done)), (by first | (simp (decide := true) [pWalk, c4, c21, d21]; done) | (simp (decide := true) [pWalk, c4, c21, c21]; done) | (simp (decide := true) [pWalk, c4, c21, d21, c21]; done) | (simp_all (decide := true) [pWalk]; done) | (simp_all (decide := true) [pWalk, ltF, leF, ltFN, leFN]; done))⟩
    · have d21 := Int32.not_le.mp c21
      refine V.aload_n dX9_walk_24 rfl rfl rfl ?_
      refine V.ldc (v := -1000005) dX9_walk_25 cn_X9_98 rfl ?_
      refine V.callv_i (M1 := fdM 4 M) (v := -1000005) (md' := m_X9_finds) (As := [.int (-1000005)]) (rest := []) dX9_walk_27 ml_X9_51 mo_X9_finds ⟨Nat.le_of_ble_eq_true rfl, Nat.le_of_ble_eq_true rfl⟩ rfl ⟨_, _, rfl⟩ (Nat.le_of_ble_eq_true rfl) rfl rfl (Nat.le_of_ble_eq_true rfl) (v_X9_finds (w := 4) (by decide) (-1000005) (by decide +kernel) _) rfl ?_
      exact V.ret dX9_walk_30 rfl rfl ⟨(by first | (simp (decide := true) [pWalk, c4, c21, d21]; done) | (simp (decide := true) [pWalk, c4, c21, c21]; done) | (simp (decide := true) [pWalk, c4, c21, d21, c21]; done) | (simp_all (decide := true) [pWalk]; done) | (simp_all (decide := true) [pWalk, ltF, leF, ltFN, leFN]; done)), (by first | (simp (decide := true) [pWalk, c4, c21, d21]; done) | (simp (decide := true) [pWalk, c4, c21, c21]; done) | (simp (decide := true) [pWalk, c4, c21, d21, c21]; done) | (simp_all (decide := true) [pWalk]; done) | (simp_all (decide := true) [pWalk, ltF, leF, ltFN, leFN]; done))⟩
  · skip
    refine V.aload_n dX9_walk_7 rfl rfl rfl ?_
    refine V.ldc (v := -1000001) dX9_walk_8 cn_X9_37 rfl ?_
    refine V.callv_i (M1 := fdM 0 M) (v := -1000001) (md' := m_X9_finds) (As := [.int (-1000001)]) (rest := []) dX9_walk_10 ml_X9_51 mo_X9_finds ⟨Nat.le_of_ble_eq_true rfl, Nat.le_of_ble_eq_true rfl⟩ rfl ⟨_, _, rfl⟩ (Nat.le_of_ble_eq_true rfl) rfl rfl (Nat.le_of_ble_eq_true rfl) (v_X9_finds (w := 0) (by decide) (-1000001) (by decide +kernel) _) rfl ?_
    exact V.ret dX9_walk_13 rfl rfl ⟨(by first | (simp (decide := true) [pWalk, c4]; done) | (simp (decide := true) [pWalk, c4]; done) | (simp (decide := true) [pWalk, c4]; done) | (simp_all (decide := true) [pWalk]; done) | (simp_all (decide := true) [pWalk, ltF, leF, ltFN, leFN]; done)), (by first | (simp (decide := true) [pWalk, c4]; done) | (simp (decide := true) [pWalk, c4]; done) | (simp (decide := true) [pWalk, c4]; done) | (simp_all (decide := true) [pWalk]; done) | (simp_all (decide := true) [pWalk, ltF, leF, ltFN, leFN]; done))⟩
theorem v_X9_isFigure1 (v : Int32) (M : Mem) : V m_X9_isFigure 0 [(0, .int 1), (1, .int v)] [] M (RT (some (.int (if rng 0 999 v then 1 else 0))) M) := by
  have h := v_X9_isFigure 1 v M
  rw [show (if ((1 : Int32) = 0 ∧ rng 0 3 v) ∨ (¬ (1 : Int32) = 0 ∧ (1 : Int32) = 1 ∧ rng 0 999 v) ∨ (¬ (1 : Int32) = 0 ∧ ¬ (1 : Int32) = 1 ∧ rng 0 400 v) then (1 : Int32) else 0) = if rng 0 999 v then 1 else 0 from by simp] at h
  exact h
theorem v_X9_isFigure2 (v : Int32) (M : Mem) : V m_X9_isFigure 0 [(0, .int 2), (1, .int v)] [] M (RT (some (.int (if rng 0 400 v then 1 else 0))) M) := by
  have h := v_X9_isFigure 2 v M
  rw [show (if ((2 : Int32) = 0 ∧ rng 0 3 v) ∨ (¬ (2 : Int32) = 0 ∧ (2 : Int32) = 1 ∧ rng 0 999 v) ∨ (¬ (2 : Int32) = 0 ∧ ¬ (2 : Int32) = 1 ∧ rng 0 400 v) then (1 : Int32) else 0) = if rng 0 400 v then 1 else 0 from by simp] at h
  exact h
def pCrowd (c cc : Nat) (co mi ma : Int32) (M : Mem) : Int32 × Mem := if ¬ (rng 0 3 co ∧ rng 0 999 mi ∧ rng 0 400 ma) then (-1000001, fdM 0 M) else if cc = 12 then (-1000002, fdM 1 M) else (nI cc, mNewC cc co mi ma M)
theorem v_X9_crowd {c : Nat} (hc : c ≤ 10) {cc : Nat} (hcc : cc ≤ 12) (co mi ma : Int32) (M : Mem) (hM : M 63 1 = nI c) (h2 : M 63 2 = nI cc) : V m_X9_crowd 0 [(0, .ref 62), (1, .int co), (2, .int mi), (3, .int ma)] [] M (RT (some (.int ((pCrowd c cc co mi ma M).1))) ((pCrowd c cc co mi ma M).2)) := by
  refine V.iload_n dX9_crowd_0 rfl rfl rfl ?_
  refine V.calls_i (M1 := M) (v := if rng 0 3 co then 1 else 0) (md' := m_X9_isCorner) (As := [.int co]) (rest := []) dX9_crowd_1 ml_X9_128 mo_X9_isCorner ⟨Nat.le_of_ble_eq_true rfl, Nat.le_of_ble_eq_true rfl⟩ (Nat.le_of_ble_eq_true rfl) rfl rfl (Nat.le_of_ble_eq_true rfl) (v_X9_isCorner co _) rfl ?_
  refine V.ifb_eq (tgt := 23) dX9_crowd_4 rfl rfl (fun c4 => ?_) (fun c4 => ?_)
  · skip
    refine V.aload_n dX9_crowd_23 rfl rfl rfl ?_
    refine V.ldc (v := -1000001) dX9_crowd_24 cn_X9_37 rfl ?_
    refine V.callv_i (M1 := fdM 0 M) (v := -1000001) (md' := m_X9_finds) (As := [.int (-1000001)]) (rest := []) dX9_crowd_26 ml_X9_51 mo_X9_finds ⟨Nat.le_of_ble_eq_true rfl, Nat.le_of_ble_eq_true rfl⟩ rfl ⟨_, _, rfl⟩ (Nat.le_of_ble_eq_true rfl) rfl rfl (Nat.le_of_ble_eq_true rfl) (v_X9_finds (w := 0) (by decide) (-1000001) (by decide +kernel) _) rfl ?_
    exact V.ret dX9_crowd_29 rfl rfl ⟨(by first | (simp (decide := true) [pCrowd, c4]; done) | (simp (decide := true) [pCrowd, c4]; done) | (simp (decide := true) [pCrowd, c4]; done) | (simp_all (decide := true) [pCrowd]; done) | (simp_all (decide := true) [pCrowd, ltF, leF, ltFN, leFN]; done)), (by first | (simp (decide := true) [pCrowd, c4]; done) | (simp (decide := true) [pCrowd, c4]; done) | (simp (decide := true) [pCrowd, c4]; done) | (simp_all (decide := true) [pCrowd]; done) | (simp_all (decide := true) [pCrowd, ltF, leF, ltFN, leFN]; done))⟩
  · skip
    refine V.iconst (v := 1) dX9_crowd_7 rfl rfl ?_
    refine V.iload_n dX9_crowd_8 rfl rfl rfl ?_
    refine V.calls_i (M1 := M) (v := if rng 0 999 mi then 1 else 0) (md' := m_X9_isFigure) (As := [.int 1, .int mi]) (rest := []) dX9_crowd_9 ml_X9_139 mo_X9_isFigure ⟨Nat.le_of_ble_eq_true rfl, Nat.le_of_ble_eq_true rfl⟩ (Nat.le_of_ble_eq_true rfl) rfl rfl (Nat.le_of_ble_eq_true rfl) (v_X9_isFigure1 mi _) rfl ?_
    refine V.ifb_eq (tgt := 23) dX9_crowd_12 rfl rfl (fun c12 => ?_) (fun c12 => ?_)
    · skip
      refine V.aload_n dX9_crowd_23 rfl rfl rfl ?_
      refine V.ldc (v := -1000001) dX9_crowd_24 cn_X9_37 rfl ?_
      refine V.callv_i (M1 := fdM 0 M) (v := -1000001) (md' := m_X9_finds) (As := [.int (-1000001)]) (rest := []) dX9_crowd_26 ml_X9_51 mo_X9_finds ⟨Nat.le_of_ble_eq_true rfl, Nat.le_of_ble_eq_true rfl⟩ rfl ⟨_, _, rfl⟩ (Nat.le_of_ble_eq_true rfl) rfl rfl (Nat.le_of_ble_eq_true rfl) (v_X9_finds (w := 0) (by decide) (-1000001) (by decide +kernel) _) rfl ?_
      exact V.ret dX9_crowd_29 rfl rfl ⟨(by first | (simp (decide := true) [pCrowd, c4, c12]; done) | (simp (decide := true) [pCrowd, c4, c12]; done) | (simp (decide := true) [pCrowd, c4, c12]; done) | (simp_all (decide := true) [pCrowd]; done) | (simp_all (decide := true) [pCrowd, ltF, leF, ltFN, leFN]; done)), (by first | (simp (decide := true) [pCrowd, c4, c12]; done) | (simp (decide := true) [pCrowd, c4, c12]; done) | (simp (decide := true) [pCrowd, c4, c12]; done) | (simp_all (decide := true) [pCrowd]; done) | (simp_all (decide := true) [pCrowd, ltF, leF, ltFN, leFN]; done))⟩
    · skip
      refine V.iconst (v := 2) dX9_crowd_15 rfl rfl ?_
      refine V.iload_n dX9_crowd_16 rfl rfl rfl ?_
      refine V.calls_i (M1 := M) (v := if rng 0 400 ma then 1 else 0) (md' := m_X9_isFigure) (As := [.int 2, .int ma]) (rest := []) dX9_crowd_17 ml_X9_139 mo_X9_isFigure ⟨Nat.le_of_ble_eq_true rfl, Nat.le_of_ble_eq_true rfl⟩ (Nat.le_of_ble_eq_true rfl) rfl rfl (Nat.le_of_ble_eq_true rfl) (v_X9_isFigure2 ma _) rfl ?_
      refine V.ifb_ne (tgt := 30) dX9_crowd_20 rfl rfl (fun c20 => ?_) (fun c20 => ?_)
      · skip
        refine V.aload_n dX9_crowd_30 rfl rfl rfl ?_
        refine V.getr dX9_crowd_31 fg_X9_7 rfl rfl rfl ?_
        refine V.iconst (v := 2) dX9_crowd_34 rfl rfl ?_
        refine V.ialdN (j := 2) (v := nI cc) dX9_crowd_35 rfl (by decide) (by decide) rfl h2 rfl ?_
        refine V.bipush (v := 12) dX9_crowd_36 (by decide) rfl ?_
        refine V.icmp_ne (tgt := 50) dX9_crowd_38 rfl rfl (fun c38 => ?_) (fun c38 => ?_)
        · have d38 := c38
          have c38 : ¬ cc = 12 := fun zq => c38 ((nI_eq (a := cc) (b := 12) (by omega) (by omega)).mpr zq)
          refine V.aload_n dX9_crowd_50 rfl rfl rfl ?_
          refine V.iload_n dX9_crowd_51 rfl rfl rfl ?_
          refine V.iload_n dX9_crowd_52 rfl rfl rfl ?_
          refine V.iload_n dX9_crowd_53 rfl rfl rfl ?_
          refine V.callv_i (M1 := mNewC cc co mi ma M) (v := nI cc) (md' := m_X9_newCrowd) (As := [.int co, .int mi, .int ma]) (rest := []) dX9_crowd_54 ml_X9_142 mo_X9_newCrowd ⟨Nat.le_of_ble_eq_true rfl, Nat.le_of_ble_eq_true rfl⟩ rfl ⟨_, _, rfl⟩ (Nat.le_of_ble_eq_true rfl) rfl rfl (Nat.le_of_ble_eq_true rfl) (v_X9_newCrowd (by omega) _ _ _ M h2) rfl ?_
          exact V.ret dX9_crowd_57 rfl rfl ⟨(by first | (simp (decide := true) [pCrowd, c4, c12, c20, d38]; done) | (simp (decide := true) [pCrowd, c4, c12, c20, c38]; done) | (simp (decide := true) [pCrowd, c4, c12, c20, d38, c38]; done) | (simp_all (decide := true) [pCrowd]; done) | (simp_all (decide := true) [pCrowd, ltF, leF, ltFN, leFN]; done)), (by first | (simp (decide := true) [pCrowd, c4, c12, c20, d38]; done) | (simp (decide := true) [pCrowd, c4, c12, c20, c38]; done) | (simp (decide := true) [pCrowd, c4, c12, c20, d38, c38]; done) | (simp_all (decide := true) [pCrowd]; done) | (simp_all (decide := true) [pCrowd, ltF, leF, ltFN, leFN]; done))⟩
        · have d38 := c38
          have c38 : cc = 12 := (nI_eq (a := cc) (b := 12) (by omega) (by omega)).mp c38
          refine V.aload_n dX9_crowd_41 rfl rfl rfl ?_
          refine V.ldc (v := -1000002) dX9_crowd_42 cn_X9_55 rfl ?_
          refine V.callv_i (M1 := fdM 1 M) (v := -1000002) (md' := m_X9_finds) (As := [.int (-1000002)]) (rest := []) dX9_crowd_44 ml_X9_51 mo_X9_finds ⟨Nat.le_of_ble_eq_true rfl, Nat.le_of_ble_eq_true rfl⟩ rfl ⟨_, _, rfl⟩ (Nat.le_of_ble_eq_true rfl) rfl rfl (Nat.le_of_ble_eq_true rfl) (v_X9_finds (w := 1) (by decide) (-1000002) (by decide +kernel) _) rfl ?_
          refine V.goto (pc' := 57) dX9_crowd_47 rfl ?_
          exact V.ret dX9_crowd_57 rfl rfl ⟨(by first | (simp (decide := true) [pCrowd, c4, c12, c20, d38]; done) | (simp (decide := true) [pCrowd, c4, c12, c20, c38]; done) | (simp (decide := true) [pCrowd, c4, c12, c20, d38, c38]; done) | (simp_all (decide := true) [pCrowd]; done) | (simp_all (decide := true) [pCrowd, ltF, leF, ltFN, leFN]; done)), (by first | (simp (decide := true) [pCrowd, c4, c12, c20, d38]; done) | (simp (decide := true) [pCrowd, c4, c12, c20, c38]; done) | (simp (decide := true) [pCrowd, c4, c12, c20, d38, c38]; done) | (simp_all (decide := true) [pCrowd]; done) | (simp_all (decide := true) [pCrowd, ltF, leF, ltFN, leFN]; done))⟩
      · skip
        refine V.aload_n dX9_crowd_23 rfl rfl rfl ?_
        refine V.ldc (v := -1000001) dX9_crowd_24 cn_X9_37 rfl ?_
        refine V.callv_i (M1 := fdM 0 M) (v := -1000001) (md' := m_X9_finds) (As := [.int (-1000001)]) (rest := []) dX9_crowd_26 ml_X9_51 mo_X9_finds ⟨Nat.le_of_ble_eq_true rfl, Nat.le_of_ble_eq_true rfl⟩ rfl ⟨_, _, rfl⟩ (Nat.le_of_ble_eq_true rfl) rfl rfl (Nat.le_of_ble_eq_true rfl) (v_X9_finds (w := 0) (by decide) (-1000001) (by decide +kernel) _) rfl ?_
        exact V.ret dX9_crowd_29 rfl rfl ⟨(by first | (simp (decide := true) [pCrowd, c4, c12, c20]; done) | (simp (decide := true) [pCrowd, c4, c12, c20]; done) | (simp (decide := true) [pCrowd, c4, c12, c20]; done) | (simp_all (decide := true) [pCrowd]; done) | (simp_all (decide := true) [pCrowd, ltF, leF, ltFN, leFN]; done)), (by first | (simp (decide := true) [pCrowd, c4, c12, c20]; done) | (simp (decide := true) [pCrowd, c4, c12, c20]; done) | (simp (decide := true) [pCrowd, c4, c12, c20]; done) | (simp_all (decide := true) [pCrowd]; done) | (simp_all (decide := true) [pCrowd, ltF, leF, ltFN, leFN]; done))⟩
def pCrowdOf (c cc : Nat) (x w : Int32) (M : Mem) : Int32 × Mem := if ¬ (isB cc x ∧ rng 0 3 w) then (-1000001, fdM 0 M) else (if w < 3 then M 63 (70 + 3 * x.toNatClampNeg + w.toNatClampNeg) else comeF (M 63 (70 + 3 * x.toNatClampNeg + 2)) (M 63 6) (M 63 5), M)
theorem v_X9_crowdOf {c : Nat} (hc : c ≤ 10) {cc : Nat} (hcc : cc ≤ 12) (x w : Int32) (M : Mem) (hM : M 63 1 = nI c) (h2 : M 63 2 = nI cc) : V m_X9_crowdOf 0 [(0, .ref 62), (1, .int x), (2, .int w)] [] M (RT (some (.int ((pCrowdOf c cc x w M).1))) ((pCrowdOf c cc x w M).2)) := by
  refine V.aload_n dX9_crowdOf_0 rfl rfl rfl ?_
  refine V.iload_n dX9_crowdOf_1 rfl rfl rfl ?_
  refine V.callv_i (M1 := M) (v := if isB cc x then 1 else 0) (md' := m_X9_isCrowd) (As := [.int x]) (rest := []) dX9_crowdOf_2 ml_X9_148 mo_X9_isCrowd ⟨Nat.le_of_ble_eq_true rfl, Nat.le_of_ble_eq_true rfl⟩ rfl ⟨_, _, rfl⟩ (Nat.le_of_ble_eq_true rfl) rfl rfl (Nat.le_of_ble_eq_true rfl) (v_X9_isCrowd hcc x M h2) rfl ?_
  refine V.ifb_eq (tgt := 20) dX9_crowdOf_5 rfl rfl (fun c5 => ?_) (fun c5 => ?_)
  · skip
    refine V.aload_n dX9_crowdOf_20 rfl rfl rfl ?_
    refine V.ldc (v := -1000001) dX9_crowdOf_21 cn_X9_37 rfl ?_
    refine V.callv_i (M1 := fdM 0 M) (v := -1000001) (md' := m_X9_finds) (As := [.int (-1000001)]) (rest := []) dX9_crowdOf_23 ml_X9_51 mo_X9_finds ⟨Nat.le_of_ble_eq_true rfl, Nat.le_of_ble_eq_true rfl⟩ rfl ⟨_, _, rfl⟩ (Nat.le_of_ble_eq_true rfl) rfl rfl (Nat.le_of_ble_eq_true rfl) (v_X9_finds (w := 0) (by decide) (-1000001) (by decide +kernel) _) rfl ?_
    exact V.ret dX9_crowdOf_26 rfl rfl ⟨(by first | (simp (decide := true) [pCrowdOf, c5]; done) | (simp (decide := true) [pCrowdOf, c5]; done) | (simp (decide := true) [pCrowdOf, c5]; done) | (simp_all (decide := true) [pCrowdOf]; done) | (simp_all (decide := true) [pCrowdOf, ltF, leF, ltFN, leFN]; done)), (by first | (simp (decide := true) [pCrowdOf, c5]; done) | (simp (decide := true) [pCrowdOf, c5]; done) | (simp (decide := true) [pCrowdOf, c5]; done) | (simp_all (decide := true) [pCrowdOf]; done) | (simp_all (decide := true) [pCrowdOf, ltF, leF, ltFN, leFN]; done))⟩
  · skip
    refine V.iload_n dX9_crowdOf_8 rfl rfl rfl ?_
    refine V.i2l (v := Int32.toInt64 w) dX9_crowdOf_9 rfl rfl ?_
    refine V.lconst (v := 0) dX9_crowdOf_10 rfl rfl ?_
    refine V.ldc2 (v := 3) dX9_crowdOf_11 cl_X9_42 rfl ?_
    refine V.calls_i (M1 := M) (v := if rng 0 3 w then 1 else 0) (md' := m_X9_in) (As := [.long (Int32.toInt64 w), .long 0, .long 3]) (rest := []) dX9_crowdOf_14 ml_X9_38 mo_X9_in ⟨Nat.le_of_ble_eq_true rfl, Nat.le_of_ble_eq_true rfl⟩ (Nat.le_of_ble_eq_true rfl) rfl rfl (Nat.le_of_ble_eq_true rfl) (v_X9_in (x := w) (a := 0) (b := 3) rfl rfl _) rfl ?_
    refine V.ifb_ne (tgt := 27) dX9_crowdOf_17 rfl rfl (fun c17 => ?_) (fun c17 => ?_)
    · skip
      obtain ⟨b, hb, rfl⟩ := of_isB c5
      · have eb : (nI b).toNatClampNeg = b := nI_clamp (by omega)
        obtain ⟨k, hk, rfl⟩ := of_rng (b := 3) c17
        have ek : (nI k).toNatClampNeg = k := nI_clamp (by omega)
        refine V.iload_n dX9_crowdOf_27 rfl rfl rfl ?_
        refine V.iconst (v := 3) dX9_crowdOf_28 rfl rfl ?_
        refine V.icmp_ge (tgt := 41) dX9_crowdOf_29 rfl rfl (fun c29 => ?_) (fun c29 => ?_)
        · have d29 : ¬ nI k < 3 := Int32.not_lt.mpr c29
          refine V.aload_n dX9_crowdOf_41 rfl rfl rfl ?_
          refine V.iload_n dX9_crowdOf_42 rfl rfl rfl ?_
          refine V.callv_i (M1 := M) (v := comeF (M 63 (70 + 3 * b + 2)) (M 63 6) (M 63 5)) (md' := m_X9_come) (As := [.int (nI b)]) (rest := []) dX9_crowdOf_43 ml_X9_151 mo_X9_come ⟨Nat.le_of_ble_eq_true rfl, Nat.le_of_ble_eq_true rfl⟩ rfl ⟨_, _, rfl⟩ (Nat.le_of_ble_eq_true rfl) rfl rfl (Nat.le_of_ble_eq_true rfl) (v_X9_come (b := b) (by omega) _) rfl ?_
          exact V.ret dX9_crowdOf_46 rfl rfl ⟨(by first | (simp (decide := true) [pCrowdOf, c5, c17, eb, ek, c29, d29]; done) | (simp (decide := true) [pCrowdOf, c5, c17, eb, ek, c29, c29]; done) | (simp (decide := true) [pCrowdOf, c5, c17, eb, ek, c29, d29, c29]; done) | (simp_all (decide := true) [pCrowdOf]; done) | (simp_all (decide := true) [pCrowdOf, ltF, leF, ltFN, leFN]; done)), (by first | (simp (decide := true) [pCrowdOf, c5, c17, eb, ek, c29, d29]; done) | (simp (decide := true) [pCrowdOf, c5, c17, eb, ek, c29, c29]; done) | (simp (decide := true) [pCrowdOf, c5, c17, eb, ek, c29, d29, c29]; done) | (simp_all (decide := true) [pCrowdOf]; done) | (simp_all (decide := true) [pCrowdOf, ltF, leF, ltFN, leFN]; done))⟩
        · have d29 : nI k < 3 := Int32.not_le.mp c29
          refine V.aload_n dX9_crowdOf_32 rfl rfl rfl ?_
          refine V.iload_n dX9_crowdOf_33 rfl rfl rfl ?_
          refine V.iload_n dX9_crowdOf_34 rfl rfl rfl ?_
          refine V.callv_i (M1 := M) (v := M 63 (70 + 3 * b + k)) (md' := m_X9_told) (As := [.int (nI b), .int (nI k)]) (rest := []) dX9_crowdOf_35 ml_X9_145 mo_X9_told ⟨Nat.le_of_ble_eq_true rfl, Nat.le_of_ble_eq_true rfl⟩ rfl ⟨_, _, rfl⟩ (Nat.le_of_ble_eq_true rfl) rfl rfl (Nat.le_of_ble_eq_true rfl) (v_X9_told (b := b) (w := k) (by omega) (by have := (nI_ltI (a := k) (b := 3) (by omega) (by decide)).mp d29; omega) _) rfl ?_
          refine V.goto (pc' := 46) dX9_crowdOf_38 rfl ?_
          exact V.ret dX9_crowdOf_46 rfl rfl ⟨(by first | (simp (decide := true) [pCrowdOf, c5, c17, eb, ek, c29, d29]; done) | (simp (decide := true) [pCrowdOf, c5, c17, eb, ek, c29, c29]; done) | (simp (decide := true) [pCrowdOf, c5, c17, eb, ek, c29, d29, c29]; done) | (simp_all (decide := true) [pCrowdOf]; done) | (simp_all (decide := true) [pCrowdOf, ltF, leF, ltFN, leFN]; done)), (by first | (simp (decide := true) [pCrowdOf, c5, c17, eb, ek, c29, d29]; done) | (simp (decide := true) [pCrowdOf, c5, c17, eb, ek, c29, c29]; done) | (simp (decide := true) [pCrowdOf, c5, c17, eb, ek, c29, d29, c29]; done) | (simp_all (decide := true) [pCrowdOf]; done) | (simp_all (decide := true) [pCrowdOf, ltF, leF, ltFN, leFN]; done))⟩
    · skip
      refine V.aload_n dX9_crowdOf_20 rfl rfl rfl ?_
      refine V.ldc (v := -1000001) dX9_crowdOf_21 cn_X9_37 rfl ?_
      refine V.callv_i (M1 := fdM 0 M) (v := -1000001) (md' := m_X9_finds) (As := [.int (-1000001)]) (rest := []) dX9_crowdOf_23 ml_X9_51 mo_X9_finds ⟨Nat.le_of_ble_eq_true rfl, Nat.le_of_ble_eq_true rfl⟩ rfl ⟨_, _, rfl⟩ (Nat.le_of_ble_eq_true rfl) rfl rfl (Nat.le_of_ble_eq_true rfl) (v_X9_finds (w := 0) (by decide) (-1000001) (by decide +kernel) _) rfl ?_
      exact V.ret dX9_crowdOf_26 rfl rfl ⟨(by first | (simp (decide := true) [pCrowdOf, c5, c17]; done) | (simp (decide := true) [pCrowdOf, c5, c17]; done) | (simp (decide := true) [pCrowdOf, c5, c17]; done) | (simp_all (decide := true) [pCrowdOf]; done) | (simp_all (decide := true) [pCrowdOf, ltF, leF, ltFN, leFN]; done)), (by first | (simp (decide := true) [pCrowdOf, c5, c17]; done) | (simp (decide := true) [pCrowdOf, c5, c17]; done) | (simp (decide := true) [pCrowdOf, c5, c17]; done) | (simp_all (decide := true) [pCrowdOf]; done) | (simp_all (decide := true) [pCrowdOf, ltF, leF, ltFN, leFN]; done))⟩
def pLate (c cc : Nat) (x w v : Int32) (M : Mem) : Int32 × Mem := if ¬ (isB cc x ∧ rng 1 2 w ∧ ((w = 0 ∧ rng 0 3 v) ∨ (¬ w = 0 ∧ w = 1 ∧ rng 0 999 v) ∨ (¬ w = 0 ∧ ¬ w = 1 ∧ rng 0 400 v))) then (-1000001, fdM 0 M) else (M 63 (70 + 3 * x.toNatClampNeg + w.toNatClampNeg), ms M 63 (70 + 3 * x.toNatClampNeg + w.toNatClampNeg) v)
theorem v_X9_late {c : Nat} (hc : c ≤ 10) {cc : Nat} (hcc : cc ≤ 12) (x w v : Int32) (M : Mem) (hM : M 63 1 = nI c) (h2 : M 63 2 = nI cc) : V m_X9_late 0 [(0, .ref 62), (1, .int x), (2, .int w), (3, .int v)] [] M (RT (some (.int ((pLate c cc x w v M).1))) ((pLate c cc x w v M).2)) := by
  refine V.aload_n dX9_late_0 rfl rfl rfl ?_
  refine V.iload_n dX9_late_1 rfl rfl rfl ?_
  refine V.callv_i (M1 := M) (v := if isB cc x then 1 else 0) (md' := m_X9_isCrowd) (As := [.int x]) (rest := []) dX9_late_2 ml_X9_148 mo_X9_isCrowd ⟨Nat.le_of_ble_eq_true rfl, Nat.le_of_ble_eq_true rfl⟩ rfl ⟨_, _, rfl⟩ (Nat.le_of_ble_eq_true rfl) rfl rfl (Nat.le_of_ble_eq_true rfl) (v_X9_isCrowd hcc x M h2) rfl ?_
  refine V.ifb_eq (tgt := 28) dX9_late_5 rfl rfl (fun c5 => ?_) (fun c5 => ?_)
  · skip
    refine V.aload_n dX9_late_28 rfl rfl rfl ?_
    refine V.ldc (v := -1000001) dX9_late_29 cn_X9_37 rfl ?_
    refine V.callv_i (M1 := fdM 0 M) (v := -1000001) (md' := m_X9_finds) (As := [.int (-1000001)]) (rest := []) dX9_late_31 ml_X9_51 mo_X9_finds ⟨Nat.le_of_ble_eq_true rfl, Nat.le_of_ble_eq_true rfl⟩ rfl ⟨_, _, rfl⟩ (Nat.le_of_ble_eq_true rfl) rfl rfl (Nat.le_of_ble_eq_true rfl) (v_X9_finds (w := 0) (by decide) (-1000001) (by decide +kernel) _) rfl ?_
    exact V.ret dX9_late_34 rfl rfl ⟨(by first | (simp (decide := true) [pLate, c5]; done) | (simp (decide := true) [pLate, c5]; done) | (simp (decide := true) [pLate, c5]; done) | (simp_all (decide := true) [pLate]; done) | (simp_all (decide := true) [pLate, ltF, leF, ltFN, leFN]; done)), (by first | (simp (decide := true) [pLate, c5]; done) | (simp (decide := true) [pLate, c5]; done) | (simp (decide := true) [pLate, c5]; done) | (simp_all (decide := true) [pLate]; done) | (simp_all (decide := true) [pLate, ltF, leF, ltFN, leFN]; done))⟩
  · skip
    refine V.iload_n dX9_late_8 rfl rfl rfl ?_
    refine V.i2l (v := Int32.toInt64 w) dX9_late_9 rfl rfl ?_
    refine V.lconst (v := 1) dX9_late_10 rfl rfl ?_
    refine V.ldc2 (v := 2) dX9_late_11 cl_X9_124 rfl ?_
    refine V.calls_i (M1 := M) (v := if rng 1 2 w then 1 else 0) (md' := m_X9_in) (As := [.long (Int32.toInt64 w), .long 1, .long 2]) (rest := []) dX9_late_14 ml_X9_38 mo_X9_in ⟨Nat.le_of_ble_eq_true rfl, Nat.le_of_ble_eq_true rfl⟩ (Nat.le_of_ble_eq_true rfl) rfl rfl (Nat.le_of_ble_eq_true rfl) (v_X9_in (x := w) (a := 1) (b := 2) rfl rfl _) rfl ?_
    refine V.ifb_eq (tgt := 28) dX9_late_17 rfl rfl (fun c17 => ?_) (fun c17 => ?_)
    · skip
      refine V.aload_n dX9_late_28 rfl rfl rfl ?_
      refine V.ldc (v := -1000001) dX9_late_29 cn_X9_37 rfl ?_
      refine V.callv_i (M1 := fdM 0 M) (v := -1000001) (md' := m_X9_finds) (As := [.int (-1000001)]) (rest := []) dX9_late_31 ml_X9_51 mo_X9_finds ⟨Nat.le_of_ble_eq_true rfl, Nat.le_of_ble_eq_true rfl⟩ rfl ⟨_, _, rfl⟩ (Nat.le_of_ble_eq_true rfl) rfl rfl (Nat.le_of_ble_eq_true rfl) (v_X9_finds (w := 0) (by decide) (-1000001) (by decide +kernel) _) rfl ?_
      exact V.ret dX9_late_34 rfl rfl ⟨(by first | (simp (decide := true) [pLate, c5, c17]; done) | (simp (decide := true) [pLate, c5, c17]; done) | (simp (decide := true) [pLate, c5, c17]; done) | (simp_all (decide := true) [pLate]; done) | (simp_all (decide := true) [pLate, ltF, leF, ltFN, leFN]; done)), (by first | (simp (decide := true) [pLate, c5, c17]; done) | (simp (decide := true) [pLate, c5, c17]; done) | (simp (decide := true) [pLate, c5, c17]; done) | (simp_all (decide := true) [pLate]; done) | (simp_all (decide := true) [pLate, ltF, leF, ltFN, leFN]; done))⟩
    · skip
      refine V.iload_n dX9_late_20 rfl rfl rfl ?_
      refine V.iload_n dX9_late_21 rfl rfl rfl ?_
      refine V.calls_i (M1 := M) (v := if (w = 0 ∧ rng 0 3 v) ∨ (¬ w = 0 ∧ w = 1 ∧ rng 0 999 v) ∨ (¬ w = 0 ∧ ¬ w = 1 ∧ rng 0 400 v) then 1 else 0) (md' := m_X9_isFigure) (As := [.int w, .int v]) (rest := []) dX9_late_22 ml_X9_139 mo_X9_isFigure ⟨Nat.le_of_ble_eq_true rfl, Nat.le_of_ble_eq_true rfl⟩ (Nat.le_of_ble_eq_true rfl) rfl rfl (Nat.le_of_ble_eq_true rfl) (v_X9_isFigure w v _) rfl ?_
      refine V.ifb_ne (tgt := 35) dX9_late_25 rfl rfl (fun c25 => ?_) (fun c25 => ?_)
      · skip
        obtain ⟨b, hb, rfl⟩ := of_isB c5
        · have eb : (nI b).toNatClampNeg = b := nI_clamp (by omega)
          obtain ⟨k, hk, rfl⟩ := of_rng (b := 2) (rng_def.mpr ⟨Int.le_trans (by decide) (rng_def.mp c17).1, (rng_def.mp c17).2⟩)
          have ek : (nI k).toNatClampNeg = k := nI_clamp (by omega)
          refine V.aload_n dX9_late_35 rfl rfl rfl ?_
          refine V.iload_n dX9_late_36 rfl rfl rfl ?_
          refine V.iload_n dX9_late_37 rfl rfl rfl ?_
          refine V.callv_i (M1 := M) (v := M 63 (70 + 3 * b + k)) (md' := m_X9_told) (As := [.int (nI b), .int (nI k)]) (rest := []) dX9_late_38 ml_X9_145 mo_X9_told ⟨Nat.le_of_ble_eq_true rfl, Nat.le_of_ble_eq_true rfl⟩ rfl ⟨_, _, rfl⟩ (Nat.le_of_ble_eq_true rfl) rfl rfl (Nat.le_of_ble_eq_true rfl) (v_X9_told (b := b) (w := k) (by omega) (by omega) _) rfl ?_
          refine V.ist dX9_late_41 (by decide) (L' := [(0, .ref 62), (1, .int (nI b)), (2, .int (nI k)), (3, .int v), (4, .int (M 63 (70 + 3 * b + k)))]) rfl rfl ?_
          refine V.aload_n dX9_late_43 rfl rfl rfl ?_
          refine V.getr dX9_late_44 fg_X9_7 rfl rfl rfl ?_
          refine V.iload_n dX9_late_47 rfl rfl rfl ?_
          refine V.iload_n dX9_late_48 rfl rfl rfl ?_
          refine V.calls_i (M1 := M) (v := nI (70 + 3 * b + k)) (md' := m_X9_who) (As := [.int (nI b), .int (nI k)]) (rest := [.ref 63]) dX9_late_49 ml_X9_134 mo_X9_who ⟨Nat.le_of_ble_eq_true rfl, Nat.le_of_ble_eq_true rfl⟩ (Nat.le_of_ble_eq_true rfl) rfl rfl (Nat.le_of_ble_eq_true rfl) (v_X9_who b k _) rfl ?_
          refine V.iload_n dX9_late_52 rfl rfl rfl ?_
          refine V.iastN (j := 70 + 3 * b + k) dX9_late_53 rfl (by omega) (by decide) rfl (M' := (ms M 63 (70 + 3 * b + k) v)) rfl rfl ?_
          refine V.iload dX9_late_54 rfl rfl ?_
          exact V.ret dX9_late_56 rfl rfl ⟨(by first | (simp (decide := true) [pLate, c5, c17, c25, eb, ek]; done) | (simp (decide := true) [pLate, c5, c17, c25, eb, ek]; done) | (simp (decide := true) [pLate, c5, c17, c25, eb, ek]; done) | (simp_all (decide := true) [pLate]; done) | (simp_all (decide := true) [pLate, ltF, leF, ltFN, leFN]; done)), (by first | (simp (decide := true) [pLate, c5, c17, c25, eb, ek]; done) | (simp (decide := true) [pLate, c5, c17, c25, eb, ek]; done) | (simp (decide := true) [pLate, c5, c17, c25, eb, ek]; done) | (simp_all (decide := true) [pLate]; done) | (simp_all (decide := true) [pLate, ltF, leF, ltFN, leFN]; done))⟩
      · skip
        refine V.aload_n dX9_late_28 rfl rfl rfl ?_
        refine V.ldc (v := -1000001) dX9_late_29 cn_X9_37 rfl ?_
        refine V.callv_i (M1 := fdM 0 M) (v := -1000001) (md' := m_X9_finds) (As := [.int (-1000001)]) (rest := []) dX9_late_31 ml_X9_51 mo_X9_finds ⟨Nat.le_of_ble_eq_true rfl, Nat.le_of_ble_eq_true rfl⟩ rfl ⟨_, _, rfl⟩ (Nat.le_of_ble_eq_true rfl) rfl rfl (Nat.le_of_ble_eq_true rfl) (v_X9_finds (w := 0) (by decide) (-1000001) (by decide +kernel) _) rfl ?_
        exact V.ret dX9_late_34 rfl rfl ⟨(by first | (simp (decide := true) [pLate, c5, c17, c25]; done) | (simp (decide := true) [pLate, c5, c17, c25]; done) | (simp (decide := true) [pLate, c5, c17, c25]; done) | (simp_all (decide := true) [pLate]; done) | (simp_all (decide := true) [pLate, ltF, leF, ltFN, leFN]; done)), (by first | (simp (decide := true) [pLate, c5, c17, c25]; done) | (simp (decide := true) [pLate, c5, c17, c25]; done) | (simp (decide := true) [pLate, c5, c17, c25]; done) | (simp_all (decide := true) [pLate]; done) | (simp_all (decide := true) [pLate, ltF, leF, ltFN, leFN]; done))⟩
