/-! The class: what its calls share -/
theorem isE1 : isE 1 := .inl rfl
def cfd (w : Nat) (M : Mem) : Mem := ms M 61 w (M 61 w + 1)
theorem rng_p {lo hi x : Int32} {a b : Int} (ha : lo.toInt = a) (hb : hi.toInt = b) (h1 : ¬ x < lo) (h2 : ¬ hi < x) : rng a b x = true := by
  rw [rng_def, ← ha, ← hb, ← Int32.le_iff_toInt_le, ← Int32.le_iff_toInt_le]
  exact ⟨Int32.not_lt.mp h1, Int32.not_lt.mp h2⟩
theorem rng_n1 {lo x : Int32} {a b : Int} (ha : lo.toInt = a) (h1 : x < lo) : ¬ rng a b x = true := fun q => by
  rw [rng_def, ← ha, ← Int32.le_iff_toInt_le] at q
  exact Int32.not_lt.mpr q.1 h1
theorem rng_n2 {hi x : Int32} {a b : Int} (hb : hi.toInt = b) (h2 : hi < x) : ¬ rng a b x = true := fun q => by
  rw [rng_def, ← hb, ← Int32.le_iff_toInt_le (y := hi)] at q
  exact Int32.not_lt.mpr q.2 h2
theorem isB_p {c : Nat} {x : Int32} (hc : c < 2 ^ 31) (h1 : ¬ x < 0) (h2 : ¬ nI c ≤ x) : isB c x = true := by
  have e1 := Int32.le_iff_toInt_le.mp (Int32.not_lt.mp h1)
  have e2 := Int32.lt_iff_toInt_lt.mp (Int32.not_le.mp h2)
  rw [nI_toInt hc] at e2
  exact isB_def.mpr ⟨e1, e2⟩
theorem isB_n1 {c : Nat} {x : Int32} (h1 : x < 0) : ¬ isB c x = true := fun q => by
  have := (isB_def.mp q).1
  have e := Int32.lt_iff_toInt_lt.mp h1
  have h0 : (0 : Int32).toInt = 0 := rfl
  omega
theorem isB_n2 {c : Nat} {x : Int32} (hc : c < 2 ^ 31) (h2 : nI c ≤ x) : ¬ isB c x = true := fun q => by
  have := (isB_def.mp q).2
  have e := Int32.le_iff_toInt_le.mp h2
  rw [nI_toInt hc] at e
  omega
def mostF (w : Int32) : Int32 := if w = 0 then 20 else if w = 1 then 99 else 9
def exA (r i : Nat) (v most : Int32) (M : Mem) : Int32 := if rng 0 most.toInt v then M r i else -1000001
def exM (r i : Nat) (v most : Int32) (M : Mem) : Mem := if rng 0 most.toInt v then ms M r i v else cfd 0 M
theorem v_X8_finding {w : Nat} (hw : w < 7) {f : Int32} (hf : -1000001 - nI w = f) (M : Mem) : V m_X8_finding 0 [(0, .ref 0), (1, .int (nI w))] [] M (RT (some (.int f)) (cfd w M)) := by
  refine V.aload_n dX8_finding_0 rfl rfl rfl ?_
  refine V.getr dX8_finding_1 fg_X8_55 rfl rfl rfl ?_
  refine V.iload_n dX8_finding_4 rfl rfl rfl ?_
  refine V.dup2 dX8_finding_5 rfl rfl rfl ?_
  refine V.ialdN (j := w) (v := M 61 w) dX8_finding_6 rfl (by omega) (by decide) rfl rfl rfl ?_
  refine V.iconst (v := 1) dX8_finding_7 rfl rfl ?_
  refine V.iadd (v := (M 61 w) + 1) dX8_finding_8 rfl rfl ?_
  refine V.iastN (j := w) dX8_finding_9 rfl (by omega) (by decide) rfl (M' := (ms M 61 w ((M 61 w) + 1))) rfl rfl ?_
  refine V.ldcw (v := -1000001) dX8_finding_10 cn_X8_336 rfl ?_
  refine V.iload_n dX8_finding_13 rfl rfl rfl ?_
  refine V.isub (v := f) dX8_finding_14 hf rfl ?_
  exact V.ret dX8_finding_15 rfl rfl ⟨rfl, rfl⟩
theorem v_X8_within {x lo hi : Int32} {a b : Int} (ha : lo.toInt = a) (hb : hi.toInt = b) (M : Mem) : V m_X8_within 0 [(0, .int x), (1, .int lo), (2, .int hi)] [] M (RT (some (.int (if rng a b x then 1 else 0))) M) := by
  refine V.iload_n dX8_within_0 rfl rfl rfl ?_
  refine V.iload_n dX8_within_1 rfl rfl rfl ?_
  refine V.icmp_lt (tgt := 14) dX8_within_2 rfl rfl (fun c2 => ?_) (fun c2 => ?_)
  · skip
    refine V.iconst (v := 0) dX8_within_14 rfl rfl ?_
    exact V.ret dX8_within_15 rfl rfl ⟨(by rw [if_neg (rng_n1 ha c2)]), rfl⟩
  · skip
    refine V.iload_n dX8_within_5 rfl rfl rfl ?_
    refine V.iload_n dX8_within_6 rfl rfl rfl ?_
    refine V.icmp_gt (tgt := 14) dX8_within_7 rfl rfl (fun c7 => ?_) (fun c7 => ?_)
    · skip
      refine V.iconst (v := 0) dX8_within_14 rfl rfl ?_
      exact V.ret dX8_within_15 rfl rfl ⟨(by rw [if_neg (rng_n2 hb c7)]), rfl⟩
    · skip
      refine V.iconst (v := 1) dX8_within_10 rfl rfl ?_
      refine V.goto (pc' := 15) dX8_within_11 rfl ?_
      exact V.ret dX8_within_15 rfl rfl ⟨(by rw [if_pos (rng_p ha hb c2 c7)]), rfl⟩
theorem v_X8_isBatch {c : Nat} (hc : c ≤ 10) (x : Int32) (M : Mem) (hM : M 2 5 = nI c) : V m_X8_isBatch 0 [(0, .ref 0), (1, .int x)] [] M (RT (some (.int (if isB c x then 1 else 0))) M) := by
  refine V.iload_n dX8_isBatch_0 rfl rfl rfl ?_
  refine V.if_lt (tgt := 22) dX8_isBatch_1 rfl rfl (fun c1 => ?_) (fun c1 => ?_)
  · skip
    refine V.iconst (v := 0) dX8_isBatch_22 rfl rfl ?_
    exact V.ret dX8_isBatch_23 rfl rfl ⟨(by rw [if_neg (isB_n1 c1)]), rfl⟩
  · skip
    refine V.iload_n dX8_isBatch_4 rfl rfl rfl ?_
    refine V.aload_n dX8_isBatch_5 rfl rfl rfl ?_
    refine V.getr dX8_isBatch_6 fg_X8_10 rfl rfl rfl ?_
    refine V.getr dX8_isBatch_9 fg_X8_71 rfl rfl rfl ?_
    refine V.geti (v := nI c) dX8_isBatch_12 fg_X8_224 rfl rfl hM rfl ?_
    refine V.icmp_ge (tgt := 22) dX8_isBatch_15 rfl rfl (fun c15 => ?_) (fun c15 => ?_)
    · skip
      refine V.iconst (v := 0) dX8_isBatch_22 rfl rfl ?_
      exact V.ret dX8_isBatch_23 rfl rfl ⟨(by rw [if_neg (isB_n2 (by omega) c15)]), rfl⟩
    · skip
      refine V.iconst (v := 1) dX8_isBatch_18 rfl rfl ?_
      refine V.goto (pc' := 23) dX8_isBatch_19 rfl ?_
      exact V.ret dX8_isBatch_23 rfl rfl ⟨(by rw [if_pos (isB_p (by omega) c1 c15)]), rfl⟩
theorem v_X8_isCrowd {c : Nat} (hc : c ≤ 12) (x : Int32) (M : Mem) (h2 : M 8 3 = nI c) : V m_X8_isCrowd 0 [(0, .ref 0), (1, .int x)] [] M (RT (some (.int (if isB c x then 1 else 0))) M) := by
  refine V.iload_n dX8_isCrowd_0 rfl rfl rfl ?_
  refine V.if_lt (tgt := 22) dX8_isCrowd_1 rfl rfl (fun c1 => ?_) (fun c1 => ?_)
  · skip
    refine V.iconst (v := 0) dX8_isCrowd_22 rfl rfl ?_
    exact V.ret dX8_isCrowd_23 rfl rfl ⟨(by rw [if_neg (isB_n1 c1)]), rfl⟩
  · skip
    refine V.iload_n dX8_isCrowd_4 rfl rfl rfl ?_
    refine V.aload_n dX8_isCrowd_5 rfl rfl rfl ?_
    refine V.getr dX8_isCrowd_6 fg_X8_10 rfl rfl rfl ?_
    refine V.getr dX8_isCrowd_9 fg_X8_171 rfl rfl rfl ?_
    refine V.geti (v := nI c) dX8_isCrowd_12 fg_X8_270 rfl rfl h2 rfl ?_
    refine V.icmp_ge (tgt := 22) dX8_isCrowd_15 rfl rfl (fun c15 => ?_) (fun c15 => ?_)
    · skip
      refine V.iconst (v := 0) dX8_isCrowd_22 rfl rfl ?_
      exact V.ret dX8_isCrowd_23 rfl rfl ⟨(by rw [if_neg (isB_n2 (by omega) c15)]), rfl⟩
    · skip
      refine V.iconst (v := 1) dX8_isCrowd_18 rfl rfl ?_
      refine V.goto (pc' := 23) dX8_isCrowd_19 rfl ?_
      exact V.ret dX8_isCrowd_23 rfl rfl ⟨(by rw [if_pos (isB_p (by omega) c1 c15)]), rfl⟩
theorem v_X8_isCorner (x : Int32) (M : Mem) : V m_X8_isCorner 0 [(0, .int x)] [] M (RT (some (.int (if rng 0 3 x then 1 else 0))) M) := by
  refine V.iload_n dX8_isCorner_0 rfl rfl rfl ?_
  refine V.iconst (v := 0) dX8_isCorner_1 rfl rfl ?_
  refine V.iconst (v := 3) dX8_isCorner_2 rfl rfl ?_
  refine V.calls_i (M1 := M) (v := if rng 0 3 x then 1 else 0) (md' := m_X8_within) (As := [.int x, .int 0, .int 3]) (rest := []) dX8_isCorner_3 ml_X8_63 mo_X8_within ⟨Nat.le_of_ble_eq_true rfl, Nat.le_of_ble_eq_true rfl⟩ (Nat.le_of_ble_eq_true rfl) rfl rfl (Nat.le_of_ble_eq_true rfl) (v_X8_within (x := x) (a := 0) (b := 3) rfl rfl _) rfl ?_
  exact V.ret dX8_isCorner_6 rfl (nb_if _) ⟨rfl, rfl⟩
theorem v_X8_isSpot (x : Int32) (M : Mem) : V m_X8_isSpot 0 [(0, .int x)] [] M (RT (some (.int (if rng 0 9 x then 1 else 0))) M) := by
  refine V.iload_n dX8_isSpot_0 rfl rfl rfl ?_
  refine V.iconst (v := 0) dX8_isSpot_1 rfl rfl ?_
  refine V.bipush (v := 9) dX8_isSpot_2 (by decide) rfl ?_
  refine V.calls_i (M1 := M) (v := if rng 0 9 x then 1 else 0) (md' := m_X8_within) (As := [.int x, .int 0, .int 9]) (rest := []) dX8_isSpot_4 ml_X8_63 mo_X8_within ⟨Nat.le_of_ble_eq_true rfl, Nat.le_of_ble_eq_true rfl⟩ (Nat.le_of_ble_eq_true rfl) rfl rfl (Nat.le_of_ble_eq_true rfl) (v_X8_within (x := x) (a := 0) (b := 9) rfl rfl _) rfl ?_
  exact V.ret dX8_isSpot_7 rfl (nb_if _) ⟨rfl, rfl⟩
theorem v_X8_isPlan (x : Int32) (M : Mem) : V m_X8_isPlan 0 [(0, .int x)] [] M (RT (some (.int (if rng 1 120 x then 1 else 0))) M) := by
  refine V.iload_n dX8_isPlan_0 rfl rfl rfl ?_
  refine V.iconst (v := 1) dX8_isPlan_1 rfl rfl ?_
  refine V.bipush (v := 120) dX8_isPlan_2 (by decide) rfl ?_
  refine V.calls_i (M1 := M) (v := if rng 1 120 x then 1 else 0) (md' := m_X8_within) (As := [.int x, .int 1, .int 120]) (rest := []) dX8_isPlan_4 ml_X8_63 mo_X8_within ⟨Nat.le_of_ble_eq_true rfl, Nat.le_of_ble_eq_true rfl⟩ (Nat.le_of_ble_eq_true rfl) rfl rfl (Nat.le_of_ble_eq_true rfl) (v_X8_within (x := x) (a := 1) (b := 120) rfl rfl _) rfl ?_
  exact V.ret dX8_isPlan_7 rfl (nb_if _) ⟨rfl, rfl⟩
theorem v_X8_isTooLate {m n : Nat} (hm : m ≤ 3000) (hn : n ≤ 300) (M : Mem) (h0 : M 1 7 = nI m) : V m_X8_isTooLate 0 [(0, .ref 0), (1, .int (nI n))] [] M (RT (some (.int (if 999 < m + n then 1 else 0))) M) := by
  refine V.aload_n dX8_isTooLate_0 rfl rfl rfl ?_
  refine V.getr dX8_isTooLate_1 fg_X8_10 rfl rfl rfl ?_
  refine V.geti (v := nI m) dX8_isTooLate_4 fg_X8_208 rfl rfl h0 rfl ?_
  refine V.iload_n dX8_isTooLate_7 rfl rfl rfl ?_
  refine V.iadd (v := nI (m + n)) dX8_isTooLate_8 (nI_add _ _) rfl ?_
  refine V.sipush (v := 999) dX8_isTooLate_9 (by decide) rfl ?_
  refine V.icmp_le (tgt := 19) dX8_isTooLate_12 rfl rfl (fun c12 => ?_) (fun c12 => ?_)
  · have c12 : m + n ≤ 999 := (nI_leI (a := m + n) (b := 999) (by omega) (by omega)).mp c12
    refine V.iconst (v := 0) dX8_isTooLate_19 rfl rfl ?_
    exact V.ret dX8_isTooLate_20 rfl rfl ⟨(by first | rw [if_pos (by omega)] | rw [if_neg (by omega)]), rfl⟩
  · have c12 : ¬ m + n ≤ 999 := fun zq => c12 ((nI_leI (a := m + n) (b := 999) (by omega) (by omega)).mpr zq)
    refine V.iconst (v := 1) dX8_isTooLate_15 rfl rfl ?_
    refine V.goto (pc' := 20) dX8_isTooLate_16 rfl ?_
    exact V.ret dX8_isTooLate_20 rfl rfl ⟨(by first | rw [if_pos (by omega)] | rw [if_neg (by omega)]), rfl⟩
theorem v_X8_mostOfRule (w : Int32) (M : Mem) : V m_X8_mostOfRule 0 [(0, .int w)] [] M (RT (some (.int (mostF w))) M) := by
  refine V.iload_n dX8_mostOfRule_0 rfl rfl rfl ?_
  by_cases s1_0 : w = 0
  · refine V.lookup (off := 27) (pc' := 28) dX8_mostOfRule_1 (by decide) (by rw [s1_0]; first | done | rfl) rfl ?_
    refine V.bipush (v := 20) dX8_mostOfRule_28 (by decide) rfl ?_
    exact V.ret dX8_mostOfRule_30 rfl rfl ⟨(by simp [mostF, s1_0]), rfl⟩
  by_cases s1_1 : w = 1
  · refine V.lookup (off := 30) (pc' := 31) dX8_mostOfRule_1 (by decide) (by rw [s1_1]; first | done | rfl) rfl ?_
    refine V.bipush (v := 99) dX8_mostOfRule_31 (by decide) rfl ?_
    exact V.ret dX8_mostOfRule_33 rfl rfl ⟨(by simp [mostF, s1_1]), rfl⟩
  refine V.lookup (off := 33) (pc' := 34) dX8_mostOfRule_1 (by decide) (by show Op.lookupswitch.offset [(0, 27), (1, 30)] 33 _ = _; rw [lv_osw (a := 0) s1_0 rfl, lv_osw (a := 1) s1_1 rfl]; rfl) rfl ?_
  refine V.bipush (v := 9) dX8_mostOfRule_34 (by decide) rfl ?_
  exact V.ret dX8_mostOfRule_36 rfl rfl ⟨(by simp [mostF, s1_0, s1_1]), rfl⟩
theorem v_X8_exchange_3 {i : Nat} (hi : i < 10) (v : Int32) {most : Int32} (hm : (0 : Int32).toInt = 0) (M : Mem) : V m_X8_exchange 0 [(0, .ref 0), (1, .ref 3), (2, .int (nI i)), (3, .int v), (4, .int most)] [] M (RT (some (.int (exA 3 i v most M))) (exM 3 i v most M)) := by
  refine V.iload_n dX8_exchange_0 rfl rfl rfl ?_
  refine V.iconst (v := 0) dX8_exchange_1 rfl rfl ?_
  refine V.iload dX8_exchange_2 rfl rfl ?_
  refine V.calls_i (M1 := M) (v := if rng 0 most.toInt v then 1 else 0) (md' := m_X8_within) (As := [.int v, .int 0, .int most]) (rest := []) dX8_exchange_4 ml_X8_63 mo_X8_within ⟨Nat.le_of_ble_eq_true rfl, Nat.le_of_ble_eq_true rfl⟩ (Nat.le_of_ble_eq_true rfl) rfl rfl (Nat.le_of_ble_eq_true rfl) (v_X8_within (x := v) (a := 0) (b := most.toInt) rfl rfl _) rfl ?_
  refine V.ifb_ne (tgt := 16) dX8_exchange_7 rfl rfl (fun c7 => ?_) (fun c7 => ?_)
  · skip
    refine V.aload_n dX8_exchange_16 rfl rfl rfl ?_
    refine V.iload_n dX8_exchange_17 rfl rfl rfl ?_
    refine V.ialdN (j := i) (v := M 3 i) dX8_exchange_18 rfl (by omega) (by decide) rfl rfl rfl ?_
    refine V.ist dX8_exchange_19 (by decide) (L' := [(0, .ref 0), (1, .ref 3), (2, .int (nI i)), (3, .int v), (4, .int most), (5, .int (M 3 i))]) rfl rfl ?_
    refine V.aload_n dX8_exchange_21 rfl rfl rfl ?_
    refine V.iload_n dX8_exchange_22 rfl rfl rfl ?_
    refine V.iload_n dX8_exchange_23 rfl rfl rfl ?_
    refine V.iastN (j := i) dX8_exchange_24 rfl (by omega) (by decide) rfl (M' := (ms M 3 i v)) rfl rfl ?_
    refine V.iload dX8_exchange_25 rfl rfl ?_
    exact V.ret dX8_exchange_27 rfl rfl ⟨(by simp [exA, c7]), (by simp [exM, c7])⟩
  · skip
    refine V.aload_n dX8_exchange_10 rfl rfl rfl ?_
    refine V.iconst (v := 0) dX8_exchange_11 rfl rfl ?_
    refine V.callv_i (M1 := cfd 0 M) (v := -1000001) (md' := m_X8_finding) (As := [.int 0]) (rest := []) dX8_exchange_12 ml_X8_67 mo_X8_finding ⟨Nat.le_of_ble_eq_true rfl, Nat.le_of_ble_eq_true rfl⟩ rfl ⟨_, _, rfl⟩ (Nat.le_of_ble_eq_true rfl) rfl rfl (Nat.le_of_ble_eq_true rfl) (v_X8_finding (w := 0) (by decide) (f := -1000001) (by decide +kernel) _) rfl ?_
    exact V.ret dX8_exchange_15 rfl rfl ⟨(by simp [exA, c7]), (by simp [exM, c7])⟩
theorem v_X8_exchange_4 {i : Nat} (hi : i < 10) (v : Int32) {most : Int32} (hm : (0 : Int32).toInt = 0) (M : Mem) : V m_X8_exchange 0 [(0, .ref 0), (1, .ref 4), (2, .int (nI i)), (3, .int v), (4, .int most)] [] M (RT (some (.int (exA 4 i v most M))) (exM 4 i v most M)) := by
  refine V.iload_n dX8_exchange_0 rfl rfl rfl ?_
  refine V.iconst (v := 0) dX8_exchange_1 rfl rfl ?_
  refine V.iload dX8_exchange_2 rfl rfl ?_
  refine V.calls_i (M1 := M) (v := if rng 0 most.toInt v then 1 else 0) (md' := m_X8_within) (As := [.int v, .int 0, .int most]) (rest := []) dX8_exchange_4 ml_X8_63 mo_X8_within ⟨Nat.le_of_ble_eq_true rfl, Nat.le_of_ble_eq_true rfl⟩ (Nat.le_of_ble_eq_true rfl) rfl rfl (Nat.le_of_ble_eq_true rfl) (v_X8_within (x := v) (a := 0) (b := most.toInt) rfl rfl _) rfl ?_
  refine V.ifb_ne (tgt := 16) dX8_exchange_7 rfl rfl (fun c7 => ?_) (fun c7 => ?_)
  · skip
    refine V.aload_n dX8_exchange_16 rfl rfl rfl ?_
    refine V.iload_n dX8_exchange_17 rfl rfl rfl ?_
    refine V.ialdN (j := i) (v := M 4 i) dX8_exchange_18 rfl (by omega) (by decide) rfl rfl rfl ?_
    refine V.ist dX8_exchange_19 (by decide) (L' := [(0, .ref 0), (1, .ref 4), (2, .int (nI i)), (3, .int v), (4, .int most), (5, .int (M 4 i))]) rfl rfl ?_
    refine V.aload_n dX8_exchange_21 rfl rfl rfl ?_
    refine V.iload_n dX8_exchange_22 rfl rfl rfl ?_
    refine V.iload_n dX8_exchange_23 rfl rfl rfl ?_
    refine V.iastN (j := i) dX8_exchange_24 rfl (by omega) (by decide) rfl (M' := (ms M 4 i v)) rfl rfl ?_
    refine V.iload dX8_exchange_25 rfl rfl ?_
    exact V.ret dX8_exchange_27 rfl rfl ⟨(by simp [exA, c7]), (by simp [exM, c7])⟩
  · skip
    refine V.aload_n dX8_exchange_10 rfl rfl rfl ?_
    refine V.iconst (v := 0) dX8_exchange_11 rfl rfl ?_
    refine V.callv_i (M1 := cfd 0 M) (v := -1000001) (md' := m_X8_finding) (As := [.int 0]) (rest := []) dX8_exchange_12 ml_X8_67 mo_X8_finding ⟨Nat.le_of_ble_eq_true rfl, Nat.le_of_ble_eq_true rfl⟩ rfl ⟨_, _, rfl⟩ (Nat.le_of_ble_eq_true rfl) rfl rfl (Nat.le_of_ble_eq_true rfl) (v_X8_finding (w := 0) (by decide) (f := -1000001) (by decide +kernel) _) rfl ?_
    exact V.ret dX8_exchange_15 rfl rfl ⟨(by simp [exA, c7]), (by simp [exM, c7])⟩
theorem v_X8_exchange_5 {i : Nat} (hi : i < 10) (v : Int32) {most : Int32} (hm : (0 : Int32).toInt = 0) (M : Mem) : V m_X8_exchange 0 [(0, .ref 0), (1, .ref 5), (2, .int (nI i)), (3, .int v), (4, .int most)] [] M (RT (some (.int (exA 5 i v most M))) (exM 5 i v most M)) := by
  refine V.iload_n dX8_exchange_0 rfl rfl rfl ?_
  refine V.iconst (v := 0) dX8_exchange_1 rfl rfl ?_
  refine V.iload dX8_exchange_2 rfl rfl ?_
  refine V.calls_i (M1 := M) (v := if rng 0 most.toInt v then 1 else 0) (md' := m_X8_within) (As := [.int v, .int 0, .int most]) (rest := []) dX8_exchange_4 ml_X8_63 mo_X8_within ⟨Nat.le_of_ble_eq_true rfl, Nat.le_of_ble_eq_true rfl⟩ (Nat.le_of_ble_eq_true rfl) rfl rfl (Nat.le_of_ble_eq_true rfl) (v_X8_within (x := v) (a := 0) (b := most.toInt) rfl rfl _) rfl ?_
  refine V.ifb_ne (tgt := 16) dX8_exchange_7 rfl rfl (fun c7 => ?_) (fun c7 => ?_)
  · skip
    refine V.aload_n dX8_exchange_16 rfl rfl rfl ?_
    refine V.iload_n dX8_exchange_17 rfl rfl rfl ?_
    refine V.ialdN (j := i) (v := M 5 i) dX8_exchange_18 rfl (by omega) (by decide) rfl rfl rfl ?_
    refine V.ist dX8_exchange_19 (by decide) (L' := [(0, .ref 0), (1, .ref 5), (2, .int (nI i)), (3, .int v), (4, .int most), (5, .int (M 5 i))]) rfl rfl ?_
    refine V.aload_n dX8_exchange_21 rfl rfl rfl ?_
    refine V.iload_n dX8_exchange_22 rfl rfl rfl ?_
    refine V.iload_n dX8_exchange_23 rfl rfl rfl ?_
    refine V.iastN (j := i) dX8_exchange_24 rfl (by omega) (by decide) rfl (M' := (ms M 5 i v)) rfl rfl ?_
    refine V.iload dX8_exchange_25 rfl rfl ?_
    exact V.ret dX8_exchange_27 rfl rfl ⟨(by simp [exA, c7]), (by simp [exM, c7])⟩
  · skip
    refine V.aload_n dX8_exchange_10 rfl rfl rfl ?_
    refine V.iconst (v := 0) dX8_exchange_11 rfl rfl ?_
    refine V.callv_i (M1 := cfd 0 M) (v := -1000001) (md' := m_X8_finding) (As := [.int 0]) (rest := []) dX8_exchange_12 ml_X8_67 mo_X8_finding ⟨Nat.le_of_ble_eq_true rfl, Nat.le_of_ble_eq_true rfl⟩ rfl ⟨_, _, rfl⟩ (Nat.le_of_ble_eq_true rfl) rfl rfl (Nat.le_of_ble_eq_true rfl) (v_X8_finding (w := 0) (by decide) (f := -1000001) (by decide +kernel) _) rfl ?_
    exact V.ret dX8_exchange_15 rfl rfl ⟨(by simp [exA, c7]), (by simp [exM, c7])⟩
theorem v_X8_exchange_6 {i : Nat} (hi : i < 10) (v : Int32) {most : Int32} (hm : (0 : Int32).toInt = 0) (M : Mem) : V m_X8_exchange 0 [(0, .ref 0), (1, .ref 6), (2, .int (nI i)), (3, .int v), (4, .int most)] [] M (RT (some (.int (exA 6 i v most M))) (exM 6 i v most M)) := by
  refine V.iload_n dX8_exchange_0 rfl rfl rfl ?_
  refine V.iconst (v := 0) dX8_exchange_1 rfl rfl ?_
  refine V.iload dX8_exchange_2 rfl rfl ?_
  refine V.calls_i (M1 := M) (v := if rng 0 most.toInt v then 1 else 0) (md' := m_X8_within) (As := [.int v, .int 0, .int most]) (rest := []) dX8_exchange_4 ml_X8_63 mo_X8_within ⟨Nat.le_of_ble_eq_true rfl, Nat.le_of_ble_eq_true rfl⟩ (Nat.le_of_ble_eq_true rfl) rfl rfl (Nat.le_of_ble_eq_true rfl) (v_X8_within (x := v) (a := 0) (b := most.toInt) rfl rfl _) rfl ?_
  refine V.ifb_ne (tgt := 16) dX8_exchange_7 rfl rfl (fun c7 => ?_) (fun c7 => ?_)
  · skip
    refine V.aload_n dX8_exchange_16 rfl rfl rfl ?_
    refine V.iload_n dX8_exchange_17 rfl rfl rfl ?_
    refine V.ialdN (j := i) (v := M 6 i) dX8_exchange_18 rfl (by omega) (by decide) rfl rfl rfl ?_
    refine V.ist dX8_exchange_19 (by decide) (L' := [(0, .ref 0), (1, .ref 6), (2, .int (nI i)), (3, .int v), (4, .int most), (5, .int (M 6 i))]) rfl rfl ?_
    refine V.aload_n dX8_exchange_21 rfl rfl rfl ?_
    refine V.iload_n dX8_exchange_22 rfl rfl rfl ?_
    refine V.iload_n dX8_exchange_23 rfl rfl rfl ?_
    refine V.iastN (j := i) dX8_exchange_24 rfl (by omega) (by decide) rfl (M' := (ms M 6 i v)) rfl rfl ?_
    refine V.iload dX8_exchange_25 rfl rfl ?_
    exact V.ret dX8_exchange_27 rfl rfl ⟨(by simp [exA, c7]), (by simp [exM, c7])⟩
  · skip
    refine V.aload_n dX8_exchange_10 rfl rfl rfl ?_
    refine V.iconst (v := 0) dX8_exchange_11 rfl rfl ?_
    refine V.callv_i (M1 := cfd 0 M) (v := -1000001) (md' := m_X8_finding) (As := [.int 0]) (rest := []) dX8_exchange_12 ml_X8_67 mo_X8_finding ⟨Nat.le_of_ble_eq_true rfl, Nat.le_of_ble_eq_true rfl⟩ rfl ⟨_, _, rfl⟩ (Nat.le_of_ble_eq_true rfl) rfl rfl (Nat.le_of_ble_eq_true rfl) (v_X8_finding (w := 0) (by decide) (f := -1000001) (by decide +kernel) _) rfl ?_
    exact V.ret dX8_exchange_15 rfl rfl ⟨(by simp [exA, c7]), (by simp [exM, c7])⟩
theorem v_X8_exchange_10 {i : Nat} (hi : i < 12) (v : Int32) {most : Int32} (hm : (0 : Int32).toInt = 0) (M : Mem) : V m_X8_exchange 0 [(0, .ref 0), (1, .ref 10), (2, .int (nI i)), (3, .int v), (4, .int most)] [] M (RT (some (.int (exA 10 i v most M))) (exM 10 i v most M)) := by
  refine V.iload_n dX8_exchange_0 rfl rfl rfl ?_
  refine V.iconst (v := 0) dX8_exchange_1 rfl rfl ?_
  refine V.iload dX8_exchange_2 rfl rfl ?_
  refine V.calls_i (M1 := M) (v := if rng 0 most.toInt v then 1 else 0) (md' := m_X8_within) (As := [.int v, .int 0, .int most]) (rest := []) dX8_exchange_4 ml_X8_63 mo_X8_within ⟨Nat.le_of_ble_eq_true rfl, Nat.le_of_ble_eq_true rfl⟩ (Nat.le_of_ble_eq_true rfl) rfl rfl (Nat.le_of_ble_eq_true rfl) (v_X8_within (x := v) (a := 0) (b := most.toInt) rfl rfl _) rfl ?_
  refine V.ifb_ne (tgt := 16) dX8_exchange_7 rfl rfl (fun c7 => ?_) (fun c7 => ?_)
  · skip
    refine V.aload_n dX8_exchange_16 rfl rfl rfl ?_
    refine V.iload_n dX8_exchange_17 rfl rfl rfl ?_
    refine V.ialdN (j := i) (v := M 10 i) dX8_exchange_18 rfl (by omega) (by decide) rfl rfl rfl ?_
    refine V.ist dX8_exchange_19 (by decide) (L' := [(0, .ref 0), (1, .ref 10), (2, .int (nI i)), (3, .int v), (4, .int most), (5, .int (M 10 i))]) rfl rfl ?_
    refine V.aload_n dX8_exchange_21 rfl rfl rfl ?_
    refine V.iload_n dX8_exchange_22 rfl rfl rfl ?_
    refine V.iload_n dX8_exchange_23 rfl rfl rfl ?_
    refine V.iastN (j := i) dX8_exchange_24 rfl (by omega) (by decide) rfl (M' := (ms M 10 i v)) rfl rfl ?_
    refine V.iload dX8_exchange_25 rfl rfl ?_
    exact V.ret dX8_exchange_27 rfl rfl ⟨(by simp [exA, c7]), (by simp [exM, c7])⟩
  · skip
    refine V.aload_n dX8_exchange_10 rfl rfl rfl ?_
    refine V.iconst (v := 0) dX8_exchange_11 rfl rfl ?_
    refine V.callv_i (M1 := cfd 0 M) (v := -1000001) (md' := m_X8_finding) (As := [.int 0]) (rest := []) dX8_exchange_12 ml_X8_67 mo_X8_finding ⟨Nat.le_of_ble_eq_true rfl, Nat.le_of_ble_eq_true rfl⟩ rfl ⟨_, _, rfl⟩ (Nat.le_of_ble_eq_true rfl) rfl rfl (Nat.le_of_ble_eq_true rfl) (v_X8_finding (w := 0) (by decide) (f := -1000001) (by decide +kernel) _) rfl ?_
    exact V.ret dX8_exchange_15 rfl rfl ⟨(by simp [exA, c7]), (by simp [exM, c7])⟩
theorem v_X8_exchange_11 {i : Nat} (hi : i < 12) (v : Int32) {most : Int32} (hm : (0 : Int32).toInt = 0) (M : Mem) : V m_X8_exchange 0 [(0, .ref 0), (1, .ref 11), (2, .int (nI i)), (3, .int v), (4, .int most)] [] M (RT (some (.int (exA 11 i v most M))) (exM 11 i v most M)) := by
  refine V.iload_n dX8_exchange_0 rfl rfl rfl ?_
  refine V.iconst (v := 0) dX8_exchange_1 rfl rfl ?_
  refine V.iload dX8_exchange_2 rfl rfl ?_
  refine V.calls_i (M1 := M) (v := if rng 0 most.toInt v then 1 else 0) (md' := m_X8_within) (As := [.int v, .int 0, .int most]) (rest := []) dX8_exchange_4 ml_X8_63 mo_X8_within ⟨Nat.le_of_ble_eq_true rfl, Nat.le_of_ble_eq_true rfl⟩ (Nat.le_of_ble_eq_true rfl) rfl rfl (Nat.le_of_ble_eq_true rfl) (v_X8_within (x := v) (a := 0) (b := most.toInt) rfl rfl _) rfl ?_
  refine V.ifb_ne (tgt := 16) dX8_exchange_7 rfl rfl (fun c7 => ?_) (fun c7 => ?_)
  · skip
    refine V.aload_n dX8_exchange_16 rfl rfl rfl ?_
    refine V.iload_n dX8_exchange_17 rfl rfl rfl ?_
    refine V.ialdN (j := i) (v := M 11 i) dX8_exchange_18 rfl (by omega) (by decide) rfl rfl rfl ?_
    refine V.ist dX8_exchange_19 (by decide) (L' := [(0, .ref 0), (1, .ref 11), (2, .int (nI i)), (3, .int v), (4, .int most), (5, .int (M 11 i))]) rfl rfl ?_
    refine V.aload_n dX8_exchange_21 rfl rfl rfl ?_
    refine V.iload_n dX8_exchange_22 rfl rfl rfl ?_
    refine V.iload_n dX8_exchange_23 rfl rfl rfl ?_
    refine V.iastN (j := i) dX8_exchange_24 rfl (by omega) (by decide) rfl (M' := (ms M 11 i v)) rfl rfl ?_
    refine V.iload dX8_exchange_25 rfl rfl ?_
    exact V.ret dX8_exchange_27 rfl rfl ⟨(by simp [exA, c7]), (by simp [exM, c7])⟩
  · skip
    refine V.aload_n dX8_exchange_10 rfl rfl rfl ?_
    refine V.iconst (v := 0) dX8_exchange_11 rfl rfl ?_
    refine V.callv_i (M1 := cfd 0 M) (v := -1000001) (md' := m_X8_finding) (As := [.int 0]) (rest := []) dX8_exchange_12 ml_X8_67 mo_X8_finding ⟨Nat.le_of_ble_eq_true rfl, Nat.le_of_ble_eq_true rfl⟩ rfl ⟨_, _, rfl⟩ (Nat.le_of_ble_eq_true rfl) rfl rfl (Nat.le_of_ble_eq_true rfl) (v_X8_finding (w := 0) (by decide) (f := -1000001) (by decide +kernel) _) rfl ?_
    exact V.ret dX8_exchange_15 rfl rfl ⟨(by simp [exA, c7]), (by simp [exM, c7])⟩
def cBatch (c : Nat) (k : Int32) (M : Mem) : Int32 × Mem := if ¬ rng 0 6 k then (-1000001, cfd 0 M) else if 10 ≤ c then (-1000002, cfd 1 M) else (nI c, nAddM 1 c k M)
theorem v_X8_batch {c : Nat} (hc : c ≤ 10) (k : Int32) (M : Mem) (hM : M 2 5 = nI c) : V m_X8_batch 0 [(0, .ref 0), (1, .int k)] [] M (RT (some (.int ((cBatch c k M).1))) ((cBatch c k M).2)) := by
  refine V.iload_n dX8_batch_0 rfl rfl rfl ?_
  refine V.iconst (v := 0) dX8_batch_1 rfl rfl ?_
  refine V.bipush (v := 6) dX8_batch_2 (by decide) rfl ?_
  refine V.calls_i (M1 := M) (v := if rng 0 6 k then 1 else 0) (md' := m_X8_within) (As := [.int k, .int 0, .int 6]) (rest := []) dX8_batch_4 ml_X8_63 mo_X8_within ⟨Nat.le_of_ble_eq_true rfl, Nat.le_of_ble_eq_true rfl⟩ (Nat.le_of_ble_eq_true rfl) rfl rfl (Nat.le_of_ble_eq_true rfl) (v_X8_within (x := k) (a := 0) (b := 6) rfl rfl _) rfl ?_
  refine V.ifb_ne (tgt := 16) dX8_batch_7 rfl rfl (fun c7 => ?_) (fun c7 => ?_)
  · skip
    refine V.aload_n dX8_batch_16 rfl rfl rfl ?_
    refine V.getr dX8_batch_17 fg_X8_10 rfl rfl rfl ?_
    refine V.getr dX8_batch_20 fg_X8_71 rfl rfl rfl ?_
    refine V.callv_i (M1 := M) (v := if 10 ≤ c then 1 else 0) (md' := m_X4_isFull) (As := []) (rest := []) dX8_batch_23 ml_X8_75 mo_X4_isFull ⟨Nat.le_of_ble_eq_true rfl, Nat.le_of_ble_eq_true rfl⟩ rfl ⟨_, _, rfl⟩ (Nat.le_of_ble_eq_true rfl) rfl rfl (Nat.le_of_ble_eq_true rfl) (v_X4_isFull isE1 hc M hM) rfl ?_
    refine V.ifb_eq (tgt := 35) dX8_batch_26 rfl rfl (fun c26 => ?_) (fun c26 => ?_)
    · skip
      refine V.aload_n dX8_batch_35 rfl rfl rfl ?_
      refine V.getr dX8_batch_36 fg_X8_10 rfl rfl rfl ?_
      refine V.getr dX8_batch_39 fg_X8_71 rfl rfl rfl ?_
      refine V.iload_n dX8_batch_42 rfl rfl rfl ?_
      refine V.callv_i (M1 := nAddM 1 c k M) (v := nI c) (md' := m_X4_add) (As := [.int k]) (rest := []) dX8_batch_43 ml_X8_81 mo_X4_add ⟨Nat.le_of_ble_eq_true rfl, Nat.le_of_ble_eq_true rfl⟩ rfl ⟨_, _, rfl⟩ (Nat.le_of_ble_eq_true rfl) rfl rfl (Nat.le_of_ble_eq_true rfl) (v_X4_add isE1 (c := c) (by omega) k M hM) rfl ?_
      exact V.ret dX8_batch_46 rfl rfl ⟨(by first | (simp (decide := true) [cBatch, c7, c26]; done) | (simp (decide := true) [cBatch, c7, c26]; done) | (simp (decide := true) [cBatch, c7, c26]; done) | (simp_all (decide := true) [cBatch]; done) | (simp_all (decide := true) [cBatch, ltF, leF, ltFN, leFN]; done)), (by first | (simp (decide := true) [cBatch, c7, c26]; done) | (simp (decide := true) [cBatch, c7, c26]; done) | (simp (decide := true) [cBatch, c7, c26]; done) | (simp_all (decide := true) [cBatch]; done) | (simp_all (decide := true) [cBatch, ltF, leF, ltFN, leFN]; done))⟩
    · skip
      refine V.aload_n dX8_batch_29 rfl rfl rfl ?_
      refine V.iconst (v := 1) dX8_batch_30 rfl rfl ?_
      refine V.callv_i (M1 := cfd 1 M) (v := -1000002) (md' := m_X8_finding) (As := [.int 1]) (rest := []) dX8_batch_31 ml_X8_67 mo_X8_finding ⟨Nat.le_of_ble_eq_true rfl, Nat.le_of_ble_eq_true rfl⟩ rfl ⟨_, _, rfl⟩ (Nat.le_of_ble_eq_true rfl) rfl rfl (Nat.le_of_ble_eq_true rfl) (v_X8_finding (w := 1) (by decide) (f := -1000002) (by decide +kernel) _) rfl ?_
      exact V.ret dX8_batch_34 rfl rfl ⟨(by first | (simp (decide := true) [cBatch, c7, c26]; done) | (simp (decide := true) [cBatch, c7, c26]; done) | (simp (decide := true) [cBatch, c7, c26]; done) | (simp_all (decide := true) [cBatch]; done) | (simp_all (decide := true) [cBatch, ltF, leF, ltFN, leFN]; done)), (by first | (simp (decide := true) [cBatch, c7, c26]; done) | (simp (decide := true) [cBatch, c7, c26]; done) | (simp (decide := true) [cBatch, c7, c26]; done) | (simp_all (decide := true) [cBatch]; done) | (simp_all (decide := true) [cBatch, ltF, leF, ltFN, leFN]; done))⟩
  · skip
    refine V.aload_n dX8_batch_10 rfl rfl rfl ?_
    refine V.iconst (v := 0) dX8_batch_11 rfl rfl ?_
    refine V.callv_i (M1 := cfd 0 M) (v := -1000001) (md' := m_X8_finding) (As := [.int 0]) (rest := []) dX8_batch_12 ml_X8_67 mo_X8_finding ⟨Nat.le_of_ble_eq_true rfl, Nat.le_of_ble_eq_true rfl⟩ rfl ⟨_, _, rfl⟩ (Nat.le_of_ble_eq_true rfl) rfl rfl (Nat.le_of_ble_eq_true rfl) (v_X8_finding (w := 0) (by decide) (f := -1000001) (by decide +kernel) _) rfl ?_
    exact V.ret dX8_batch_15 rfl rfl ⟨(by first | (simp (decide := true) [cBatch, c7]; done) | (simp (decide := true) [cBatch, c7]; done) | (simp (decide := true) [cBatch, c7]; done) | (simp_all (decide := true) [cBatch]; done) | (simp_all (decide := true) [cBatch, ltF, leF, ltFN, leFN]; done)), (by first | (simp (decide := true) [cBatch, c7]; done) | (simp (decide := true) [cBatch, c7]; done) | (simp (decide := true) [cBatch, c7]; done) | (simp_all (decide := true) [cBatch]; done) | (simp_all (decide := true) [cBatch, ltF, leF, ltFN, leFN]; done))⟩
def cOf (c p : Nat) (x w : Int32) (M : Mem) : Int32 × Mem := if ¬ isB c x then (-1000001, cfd 0 M) else if w = 0 then (M 3 x.toNatClampNeg, M) else if w = 1 then (M 4 x.toNatClampNeg, M) else if w = 2 then (M 5 x.toNatClampNeg, M) else if w = 3 then (M 6 x.toNatClampNeg, M) else if w = 4 then (M 7 x.toNatClampNeg, M) else if w = 5 then (readyF (M 3 x.toNatClampNeg), M) else if w = 6 then (burntF (M 3 x.toNatClampNeg), M) else if w = 7 then (worthF (M 3 x.toNatClampNeg) (M 1 5), M) else (-1000001, cfd 0 M)
theorem v_X8_of {c : Nat} (hc : c ≤ 10) {p : Nat} (hp : p ≤ 100) (x w : Int32) (M : Mem) (hM : M 2 5 = nI c) (hP : M 1 5 = nI p) : V m_X8_of 0 [(0, .ref 0), (1, .int x), (2, .int w)] [] M (RT (some (.int ((cOf c p x w M).1))) ((cOf c p x w M).2)) := by
  refine V.aload_n dX8_of_0 rfl rfl rfl ?_
  refine V.iload_n dX8_of_1 rfl rfl rfl ?_
  refine V.callv_i (M1 := M) (v := if isB c x then 1 else 0) (md' := m_X8_isBatch) (As := [.int x]) (rest := []) dX8_of_2 ml_X8_84 mo_X8_isBatch ⟨Nat.le_of_ble_eq_true rfl, Nat.le_of_ble_eq_true rfl⟩ rfl ⟨_, _, rfl⟩ (Nat.le_of_ble_eq_true rfl) rfl rfl (Nat.le_of_ble_eq_true rfl) (v_X8_isBatch hc x M hM) rfl ?_
  refine V.ifb_ne (tgt := 14) dX8_of_5 rfl rfl (fun c5 => ?_) (fun c5 => ?_)
  · skip
    obtain ⟨b, hb, rfl⟩ := of_isB c5
    · have eb : (nI b).toNatClampNeg = b := nI_clamp (by omega)
      refine V.aload_n dX8_of_14 rfl rfl rfl ?_
      refine V.getr dX8_of_15 fg_X8_10 rfl rfl rfl ?_
      refine V.getr dX8_of_18 fg_X8_71 rfl rfl rfl ?_
      refine V.getr dX8_of_21 fg_X8_88 rfl rfl rfl ?_
      refine V.iload_n dX8_of_24 rfl rfl rfl ?_
      refine V.ialdN (j := b) (v := M 3 b) dX8_of_25 rfl (by omega) (by decide) rfl rfl rfl ?_
      refine V.ist_n dX8_of_26 rfl (by decide) (L' := [(0, .ref 0), (1, .int (nI b)), (2, .int w), (3, .int (M 3 b))]) rfl rfl ?_
      refine V.iload_n dX8_of_27 rfl rfl rfl ?_
      by_cases s28_0 : w = 0
      · refine V.tabIn (pc' := 76) dX8_of_28 (by rw [s28_0]; decide) (by rw [s28_0]; decide) (by rw [s28_0]; rfl) rfl ?_
        refine V.iload_n dX8_of_76 rfl rfl rfl ?_
        exact V.ret dX8_of_77 rfl rfl ⟨(by first | (simp (decide := true) [cOf, hP, c5, eb, s28_0]; done) | (simp (decide := true) [cOf, hP, c5, eb, s28_0]; done) | (simp (decide := true) [cOf, hP, c5, eb, s28_0]; done) | (simp_all (decide := true) [cOf, hP]; done) | (simp_all (decide := true) [cOf, hP, ltF, leF, ltFN, leFN]; done)), (by first | (simp (decide := true) [cOf, hP, c5, eb, s28_0]; done) | (simp (decide := true) [cOf, hP, c5, eb, s28_0]; done) | (simp (decide := true) [cOf, hP, c5, eb, s28_0]; done) | (simp_all (decide := true) [cOf, hP]; done) | (simp_all (decide := true) [cOf, hP, ltF, leF, ltFN, leFN]; done))⟩
      by_cases s28_1 : w = 1
      · refine V.tabIn (pc' := 78) dX8_of_28 (by rw [s28_1]; decide) (by rw [s28_1]; decide) (by rw [s28_1]; rfl) rfl ?_
        refine V.aload_n dX8_of_78 rfl rfl rfl ?_
        refine V.getr dX8_of_79 fg_X8_10 rfl rfl rfl ?_
        refine V.getr dX8_of_82 fg_X8_71 rfl rfl rfl ?_
        refine V.getr dX8_of_85 fg_X8_91 rfl rfl rfl ?_
        refine V.iload_n dX8_of_88 rfl rfl rfl ?_
        refine V.ialdN (j := b) (v := M 4 b) dX8_of_89 rfl (by omega) (by decide) rfl rfl rfl ?_
        exact V.ret dX8_of_90 rfl rfl ⟨(by first | (simp (decide := true) [cOf, hP, c5, eb, s28_1]; done) | (simp (decide := true) [cOf, hP, c5, eb, s28_1]; done) | (simp (decide := true) [cOf, hP, c5, eb, s28_1]; done) | (simp_all (decide := true) [cOf, hP]; done) | (simp_all (decide := true) [cOf, hP, ltF, leF, ltFN, leFN]; done)), (by first | (simp (decide := true) [cOf, hP, c5, eb, s28_1]; done) | (simp (decide := true) [cOf, hP, c5, eb, s28_1]; done) | (simp (decide := true) [cOf, hP, c5, eb, s28_1]; done) | (simp_all (decide := true) [cOf, hP]; done) | (simp_all (decide := true) [cOf, hP, ltF, leF, ltFN, leFN]; done))⟩
      by_cases s28_2 : w = 2
      · refine V.tabIn (pc' := 91) dX8_of_28 (by rw [s28_2]; decide) (by rw [s28_2]; decide) (by rw [s28_2]; rfl) rfl ?_
        refine V.aload_n dX8_of_91 rfl rfl rfl ?_
        refine V.getr dX8_of_92 fg_X8_10 rfl rfl rfl ?_
        refine V.getr dX8_of_95 fg_X8_71 rfl rfl rfl ?_
        refine V.getr dX8_of_98 fg_X8_94 rfl rfl rfl ?_
        refine V.iload_n dX8_of_101 rfl rfl rfl ?_
        refine V.ialdN (j := b) (v := M 5 b) dX8_of_102 rfl (by omega) (by decide) rfl rfl rfl ?_
        exact V.ret dX8_of_103 rfl rfl ⟨(by first | (simp (decide := true) [cOf, hP, c5, eb, s28_2]; done) | (simp (decide := true) [cOf, hP, c5, eb, s28_2]; done) | (simp (decide := true) [cOf, hP, c5, eb, s28_2]; done) | (simp_all (decide := true) [cOf, hP]; done) | (simp_all (decide := true) [cOf, hP, ltF, leF, ltFN, leFN]; done)), (by first | (simp (decide := true) [cOf, hP, c5, eb, s28_2]; done) | (simp (decide := true) [cOf, hP, c5, eb, s28_2]; done) | (simp (decide := true) [cOf, hP, c5, eb, s28_2]; done) | (simp_all (decide := true) [cOf, hP]; done) | (simp_all (decide := true) [cOf, hP, ltF, leF, ltFN, leFN]; done))⟩
      by_cases s28_3 : w = 3
      · refine V.tabIn (pc' := 104) dX8_of_28 (by rw [s28_3]; decide) (by rw [s28_3]; decide) (by rw [s28_3]; rfl) rfl ?_
        refine V.aload_n dX8_of_104 rfl rfl rfl ?_
        refine V.getr dX8_of_105 fg_X8_10 rfl rfl rfl ?_
        refine V.getr dX8_of_108 fg_X8_71 rfl rfl rfl ?_
        refine V.getr dX8_of_111 fg_X8_97 rfl rfl rfl ?_
        refine V.iload_n dX8_of_114 rfl rfl rfl ?_
        refine V.ialdN (j := b) (v := M 6 b) dX8_of_115 rfl (by omega) (by decide) rfl rfl rfl ?_
        exact V.ret dX8_of_116 rfl rfl ⟨(by first | (simp (decide := true) [cOf, hP, c5, eb, s28_3]; done) | (simp (decide := true) [cOf, hP, c5, eb, s28_3]; done) | (simp (decide := true) [cOf, hP, c5, eb, s28_3]; done) | (simp_all (decide := true) [cOf, hP]; done) | (simp_all (decide := true) [cOf, hP, ltF, leF, ltFN, leFN]; done)), (by first | (simp (decide := true) [cOf, hP, c5, eb, s28_3]; done) | (simp (decide := true) [cOf, hP, c5, eb, s28_3]; done) | (simp (decide := true) [cOf, hP, c5, eb, s28_3]; done) | (simp_all (decide := true) [cOf, hP]; done) | (simp_all (decide := true) [cOf, hP, ltF, leF, ltFN, leFN]; done))⟩
      by_cases s28_4 : w = 4
      · refine V.tabIn (pc' := 117) dX8_of_28 (by rw [s28_4]; decide) (by rw [s28_4]; decide) (by rw [s28_4]; rfl) rfl ?_
        refine V.aload_n dX8_of_117 rfl rfl rfl ?_
        refine V.getr dX8_of_118 fg_X8_10 rfl rfl rfl ?_
        refine V.getr dX8_of_121 fg_X8_71 rfl rfl rfl ?_
        refine V.getr dX8_of_124 fg_X8_100 rfl rfl rfl ?_
        refine V.iload_n dX8_of_127 rfl rfl rfl ?_
        refine V.ialdN (j := b) (v := M 7 b) dX8_of_128 rfl (by omega) (by decide) rfl rfl rfl ?_
        exact V.ret dX8_of_129 rfl rfl ⟨(by first | (simp (decide := true) [cOf, hP, c5, eb, s28_4]; done) | (simp (decide := true) [cOf, hP, c5, eb, s28_4]; done) | (simp (decide := true) [cOf, hP, c5, eb, s28_4]; done) | (simp_all (decide := true) [cOf, hP]; done) | (simp_all (decide := true) [cOf, hP, ltF, leF, ltFN, leFN]; done)), (by first | (simp (decide := true) [cOf, hP, c5, eb, s28_4]; done) | (simp (decide := true) [cOf, hP, c5, eb, s28_4]; done) | (simp (decide := true) [cOf, hP, c5, eb, s28_4]; done) | (simp_all (decide := true) [cOf, hP]; done) | (simp_all (decide := true) [cOf, hP, ltF, leF, ltFN, leFN]; done))⟩
      by_cases s28_5 : w = 5
      · refine V.tabIn (pc' := 130) dX8_of_28 (by rw [s28_5]; decide) (by rw [s28_5]; decide) (by rw [s28_5]; rfl) rfl ?_
        refine V.iload_n dX8_of_130 rfl rfl rfl ?_
        refine V.calls_i (M1 := M) (v := readyF (M 3 b)) (md' := m_X3_readyFrom) (As := [.int (M 3 b)]) (rest := []) dX8_of_131 ml_X8_103 mo_X3_readyFrom ⟨Nat.le_of_ble_eq_true rfl, Nat.le_of_ble_eq_true rfl⟩ (Nat.le_of_ble_eq_true rfl) rfl rfl (Nat.le_of_ble_eq_true rfl) (v_X3_readyFrom (M 3 b) _) rfl ?_
        exact V.ret dX8_of_134 rfl rfl ⟨(by first | (simp (decide := true) [cOf, hP, c5, eb, s28_5]; done) | (simp (decide := true) [cOf, hP, c5, eb, s28_5]; done) | (simp (decide := true) [cOf, hP, c5, eb, s28_5]; done) | (simp_all (decide := true) [cOf, hP]; done) | (simp_all (decide := true) [cOf, hP, ltF, leF, ltFN, leFN]; done)), (by first | (simp (decide := true) [cOf, hP, c5, eb, s28_5]; done) | (simp (decide := true) [cOf, hP, c5, eb, s28_5]; done) | (simp (decide := true) [cOf, hP, c5, eb, s28_5]; done) | (simp_all (decide := true) [cOf, hP]; done) | (simp_all (decide := true) [cOf, hP, ltF, leF, ltFN, leFN]; done))⟩
      by_cases s28_6 : w = 6
      · refine V.tabIn (pc' := 135) dX8_of_28 (by rw [s28_6]; decide) (by rw [s28_6]; decide) (by rw [s28_6]; rfl) rfl ?_
        refine V.iload_n dX8_of_135 rfl rfl rfl ?_
        refine V.calls_i (M1 := M) (v := burntF (M 3 b)) (md' := m_X3_burntFrom) (As := [.int (M 3 b)]) (rest := []) dX8_of_136 ml_X8_108 mo_X3_burntFrom ⟨Nat.le_of_ble_eq_true rfl, Nat.le_of_ble_eq_true rfl⟩ (Nat.le_of_ble_eq_true rfl) rfl rfl (Nat.le_of_ble_eq_true rfl) (v_X3_burntFrom (M 3 b) _) rfl ?_
        exact V.ret dX8_of_139 rfl rfl ⟨(by first | (simp (decide := true) [cOf, hP, c5, eb, s28_6]; done) | (simp (decide := true) [cOf, hP, c5, eb, s28_6]; done) | (simp (decide := true) [cOf, hP, c5, eb, s28_6]; done) | (simp_all (decide := true) [cOf, hP]; done) | (simp_all (decide := true) [cOf, hP, ltF, leF, ltFN, leFN]; done)), (by first | (simp (decide := true) [cOf, hP, c5, eb, s28_6]; done) | (simp (decide := true) [cOf, hP, c5, eb, s28_6]; done) | (simp (decide := true) [cOf, hP, c5, eb, s28_6]; done) | (simp_all (decide := true) [cOf, hP]; done) | (simp_all (decide := true) [cOf, hP, ltF, leF, ltFN, leFN]; done))⟩
      by_cases s28_7 : w = 7
      · refine V.tabIn (pc' := 140) dX8_of_28 (by rw [s28_7]; decide) (by rw [s28_7]; decide) (by rw [s28_7]; rfl) rfl ?_
        refine V.iload_n dX8_of_140 rfl rfl rfl ?_
        refine V.aload_n dX8_of_141 rfl rfl rfl ?_
        refine V.getr dX8_of_142 fg_X8_10 rfl rfl rfl ?_
        refine V.geti (v := nI p) dX8_of_145 fg_X8_111 rfl rfl hP rfl ?_
        refine V.calls_i (M1 := M) (v := worthF (M 3 b) (nI p)) (md' := m_X3_worthOf) (As := [.int (M 3 b), .int (nI p)]) (rest := []) dX8_of_148 ml_X8_115 mo_X3_worthOf ⟨Nat.le_of_ble_eq_true rfl, Nat.le_of_ble_eq_true rfl⟩ (Nat.le_of_ble_eq_true rfl) rfl rfl (Nat.le_of_ble_eq_true rfl) (v_X3_worthOf (M 3 b) hp _) rfl ?_
        exact V.ret dX8_of_151 rfl rfl ⟨(by first | (simp (decide := true) [cOf, hP, c5, eb, s28_7]; done) | (simp (decide := true) [cOf, hP, c5, eb, s28_7]; done) | (simp (decide := true) [cOf, hP, c5, eb, s28_7]; done) | (simp_all (decide := true) [cOf, hP]; done) | (simp_all (decide := true) [cOf, hP, ltF, leF, ltFN, leFN]; done)), (by first | (simp (decide := true) [cOf, hP, c5, eb, s28_7]; done) | (simp (decide := true) [cOf, hP, c5, eb, s28_7]; done) | (simp (decide := true) [cOf, hP, c5, eb, s28_7]; done) | (simp_all (decide := true) [cOf, hP]; done) | (simp_all (decide := true) [cOf, hP, ltF, leF, ltFN, leFN]; done))⟩
      refine V.tabOut (pc' := 152) dX8_of_28 (by have q0 := lv_neT (a := 0) s28_0 rfl; have q1 := lv_neT (a := 1) s28_1 rfl; have q2 := lv_neT (a := 2) s28_2 rfl; have q3 := lv_neT (a := 3) s28_3 rfl; have q4 := lv_neT (a := 4) s28_4 rfl; have q5 := lv_neT (a := 5) s28_5 rfl; have q6 := lv_neT (a := 6) s28_6 rfl; have q7 := lv_neT (a := 7) s28_7 rfl; omega) rfl ?_
      refine V.aload_n dX8_of_152 rfl rfl rfl ?_
      refine V.iconst (v := 0) dX8_of_153 rfl rfl ?_
      refine V.callv_i (M1 := cfd 0 M) (v := -1000001) (md' := m_X8_finding) (As := [.int 0]) (rest := []) dX8_of_154 ml_X8_67 mo_X8_finding ⟨Nat.le_of_ble_eq_true rfl, Nat.le_of_ble_eq_true rfl⟩ rfl ⟨_, _, rfl⟩ (Nat.le_of_ble_eq_true rfl) rfl rfl (Nat.le_of_ble_eq_true rfl) (v_X8_finding (w := 0) (by decide) (f := -1000001) (by decide +kernel) _) rfl ?_
      exact V.ret dX8_of_157 rfl rfl ⟨(by first | (simp (decide := true) [cOf, hP, c5, eb, s28_0, s28_1, s28_2, s28_3, s28_4, s28_5, s28_6, s28_7]; done) | (simp (decide := true) [cOf, hP, c5, eb, s28_0, s28_1, s28_2, s28_3, s28_4, s28_5, s28_6, s28_7]; done) | (simp (decide := true) [cOf, hP, c5, eb, s28_0, s28_1, s28_2, s28_3, s28_4, s28_5, s28_6, s28_7]; done) | (simp_all (decide := true) [cOf, hP]; done) | (simp_all (decide := true) [cOf, hP, ltF, leF, ltFN, leFN]; done)), (by first | (simp (decide := true) [cOf, hP, c5, eb, s28_0, s28_1, s28_2, s28_3, s28_4, s28_5, s28_6, s28_7]; done) | (simp (decide := true) [cOf, hP, c5, eb, s28_0, s28_1, s28_2, s28_3, s28_4, s28_5, s28_6, s28_7]; done) | (simp (decide := true) [cOf, hP, c5, eb, s28_0, s28_1, s28_2, s28_3, s28_4, s28_5, s28_6, s28_7]; done) | (simp_all (decide := true) [cOf, hP]; done) | (simp_all (decide := true) [cOf, hP, ltF, leF, ltFN, leFN]; done))⟩
  · skip
    refine V.aload_n dX8_of_8 rfl rfl rfl ?_
    refine V.iconst (v := 0) dX8_of_9 rfl rfl ?_
    refine V.callv_i (M1 := cfd 0 M) (v := -1000001) (md' := m_X8_finding) (As := [.int 0]) (rest := []) dX8_of_10 ml_X8_67 mo_X8_finding ⟨Nat.le_of_ble_eq_true rfl, Nat.le_of_ble_eq_true rfl⟩ rfl ⟨_, _, rfl⟩ (Nat.le_of_ble_eq_true rfl) rfl rfl (Nat.le_of_ble_eq_true rfl) (v_X8_finding (w := 0) (by decide) (f := -1000001) (by decide +kernel) _) rfl ?_
    exact V.ret dX8_of_13 rfl rfl ⟨(by first | (simp (decide := true) [cOf, hP, c5]; done) | (simp (decide := true) [cOf, hP, c5]; done) | (simp (decide := true) [cOf, hP, c5]; done) | (simp_all (decide := true) [cOf, hP]; done) | (simp_all (decide := true) [cOf, hP, ltF, leF, ltFN, leFN]; done)), (by first | (simp (decide := true) [cOf, hP, c5]; done) | (simp (decide := true) [cOf, hP, c5]; done) | (simp (decide := true) [cOf, hP, c5]; done) | (simp_all (decide := true) [cOf, hP]; done) | (simp_all (decide := true) [cOf, hP, ltF, leF, ltFN, leFN]; done))⟩
def cChange (c : Nat) (x w v : Int32) (M : Mem) : Int32 × Mem := if ¬ isB c x then (-1000001, cfd 0 M) else if w = 0 then (exA 3 x.toNatClampNeg v 6 M, exM 3 x.toNatClampNeg v 6 M) else if w = 1 then (exA 4 x.toNatClampNeg v 9 M, exM 4 x.toNatClampNeg v 9 M) else if w = 2 then (exA 5 x.toNatClampNeg v 999 M, exM 5 x.toNatClampNeg v 999 M) else if w = 3 then (exA 6 x.toNatClampNeg v 999 M, exM 6 x.toNatClampNeg v 999 M) else (-1000001, cfd 0 M)
theorem v_X8_change {c : Nat} (hc : c ≤ 10) (x w v : Int32) (M : Mem) (hM : M 2 5 = nI c) : V m_X8_change 0 [(0, .ref 0), (1, .int x), (2, .int w), (3, .int v)] [] M (RT (some (.int ((cChange c x w v M).1))) ((cChange c x w v M).2)) := by
  refine V.aload_n dX8_change_0 rfl rfl rfl ?_
  refine V.iload_n dX8_change_1 rfl rfl rfl ?_
  refine V.callv_i (M1 := M) (v := if isB c x then 1 else 0) (md' := m_X8_isBatch) (As := [.int x]) (rest := []) dX8_change_2 ml_X8_84 mo_X8_isBatch ⟨Nat.le_of_ble_eq_true rfl, Nat.le_of_ble_eq_true rfl⟩ rfl ⟨_, _, rfl⟩ (Nat.le_of_ble_eq_true rfl) rfl rfl (Nat.le_of_ble_eq_true rfl) (v_X8_isBatch hc x M hM) rfl ?_
  refine V.ifb_ne (tgt := 14) dX8_change_5 rfl rfl (fun c5 => ?_) (fun c5 => ?_)
  · skip
    obtain ⟨b, hb, rfl⟩ := of_isB c5
    · have eb : (nI b).toNatClampNeg = b := nI_clamp (by omega)
      refine V.iload_n dX8_change_14 rfl rfl rfl ?_
      by_cases s15_0 : w = 0
      · refine V.tabIn (pc' := 44) dX8_change_15 (by rw [s15_0]; decide) (by rw [s15_0]; decide) (by rw [s15_0]; rfl) rfl ?_
        refine V.aload_n dX8_change_44 rfl rfl rfl ?_
        refine V.aload_n dX8_change_45 rfl rfl rfl ?_
        refine V.getr dX8_change_46 fg_X8_10 rfl rfl rfl ?_
        refine V.getr dX8_change_49 fg_X8_71 rfl rfl rfl ?_
        refine V.getr dX8_change_52 fg_X8_88 rfl rfl rfl ?_
        refine V.iload_n dX8_change_55 rfl rfl rfl ?_
        refine V.iload_n dX8_change_56 rfl rfl rfl ?_
        refine V.bipush (v := 6) dX8_change_57 (by decide) rfl ?_
        refine V.callv_i (M1 := exM 3 b v 6 M) (v := exA 3 b v 6 M) (md' := m_X8_exchange) (As := [.ref 3, .int (nI b), .int v, .int 6]) (rest := []) dX8_change_59 ml_X8_119 mo_X8_exchange ⟨Nat.le_of_ble_eq_true rfl, Nat.le_of_ble_eq_true rfl⟩ rfl ⟨_, _, rfl⟩ (Nat.le_of_ble_eq_true rfl) rfl rfl (Nat.le_of_ble_eq_true rfl) (v_X8_exchange_3 (i := b) (by omega) v (most := 6) rfl _) rfl ?_
        exact V.ret dX8_change_62 rfl rfl ⟨(by first | (simp (decide := true) [cChange, c5, eb, s15_0]; done) | (simp (decide := true) [cChange, c5, eb, s15_0]; done) | (simp (decide := true) [cChange, c5, eb, s15_0]; done) | (simp_all (decide := true) [cChange]; done) | (simp_all (decide := true) [cChange, ltF, leF, ltFN, leFN]; done)), (by first | (simp (decide := true) [cChange, c5, eb, s15_0]; done) | (simp (decide := true) [cChange, c5, eb, s15_0]; done) | (simp (decide := true) [cChange, c5, eb, s15_0]; done) | (simp_all (decide := true) [cChange]; done) | (simp_all (decide := true) [cChange, ltF, leF, ltFN, leFN]; done))⟩
      by_cases s15_1 : w = 1
      · refine V.tabIn (pc' := 63) dX8_change_15 (by rw [s15_1]; decide) (by rw [s15_1]; decide) (by rw [s15_1]; rfl) rfl ?_
        refine V.aload_n dX8_change_63 rfl rfl rfl ?_
        refine V.aload_n dX8_change_64 rfl rfl rfl ?_
        refine V.getr dX8_change_65 fg_X8_10 rfl rfl rfl ?_
        refine V.getr dX8_change_68 fg_X8_71 rfl rfl rfl ?_
        refine V.getr dX8_change_71 fg_X8_91 rfl rfl rfl ?_
        refine V.iload_n dX8_change_74 rfl rfl rfl ?_
        refine V.iload_n dX8_change_75 rfl rfl rfl ?_
        refine V.bipush (v := 9) dX8_change_76 (by decide) rfl ?_
        refine V.callv_i (M1 := exM 4 b v 9 M) (v := exA 4 b v 9 M) (md' := m_X8_exchange) (As := [.ref 4, .int (nI b), .int v, .int 9]) (rest := []) dX8_change_78 ml_X8_119 mo_X8_exchange ⟨Nat.le_of_ble_eq_true rfl, Nat.le_of_ble_eq_true rfl⟩ rfl ⟨_, _, rfl⟩ (Nat.le_of_ble_eq_true rfl) rfl rfl (Nat.le_of_ble_eq_true rfl) (v_X8_exchange_4 (i := b) (by omega) v (most := 9) rfl _) rfl ?_
        exact V.ret dX8_change_81 rfl rfl ⟨(by first | (simp (decide := true) [cChange, c5, eb, s15_1]; done) | (simp (decide := true) [cChange, c5, eb, s15_1]; done) | (simp (decide := true) [cChange, c5, eb, s15_1]; done) | (simp_all (decide := true) [cChange]; done) | (simp_all (decide := true) [cChange, ltF, leF, ltFN, leFN]; done)), (by first | (simp (decide := true) [cChange, c5, eb, s15_1]; done) | (simp (decide := true) [cChange, c5, eb, s15_1]; done) | (simp (decide := true) [cChange, c5, eb, s15_1]; done) | (simp_all (decide := true) [cChange]; done) | (simp_all (decide := true) [cChange, ltF, leF, ltFN, leFN]; done))⟩
      by_cases s15_2 : w = 2
      · refine V.tabIn (pc' := 82) dX8_change_15 (by rw [s15_2]; decide) (by rw [s15_2]; decide) (by rw [s15_2]; rfl) rfl ?_
        refine V.aload_n dX8_change_82 rfl rfl rfl ?_
        refine V.aload_n dX8_change_83 rfl rfl rfl ?_
        refine V.getr dX8_change_84 fg_X8_10 rfl rfl rfl ?_
        refine V.getr dX8_change_87 fg_X8_71 rfl rfl rfl ?_
        refine V.getr dX8_change_90 fg_X8_94 rfl rfl rfl ?_
        refine V.iload_n dX8_change_93 rfl rfl rfl ?_
        refine V.iload_n dX8_change_94 rfl rfl rfl ?_
        refine V.sipush (v := 999) dX8_change_95 (by decide) rfl ?_
        refine V.callv_i (M1 := exM 5 b v 999 M) (v := exA 5 b v 999 M) (md' := m_X8_exchange) (As := [.ref 5, .int (nI b), .int v, .int 999]) (rest := []) dX8_change_98 ml_X8_119 mo_X8_exchange ⟨Nat.le_of_ble_eq_true rfl, Nat.le_of_ble_eq_true rfl⟩ rfl ⟨_, _, rfl⟩ (Nat.le_of_ble_eq_true rfl) rfl rfl (Nat.le_of_ble_eq_true rfl) (v_X8_exchange_5 (i := b) (by omega) v (most := 999) rfl _) rfl ?_
        exact V.ret dX8_change_101 rfl rfl ⟨(by first | (simp (decide := true) [cChange, c5, eb, s15_2]; done) | (simp (decide := true) [cChange, c5, eb, s15_2]; done) | (simp (decide := true) [cChange, c5, eb, s15_2]; done) | (simp_all (decide := true) [cChange]; done) | (simp_all (decide := true) [cChange, ltF, leF, ltFN, leFN]; done)), (by first | (simp (decide := true) [cChange, c5, eb, s15_2]; done) | (simp (decide := true) [cChange, c5, eb, s15_2]; done) | (simp (decide := true) [cChange, c5, eb, s15_2]; done) | (simp_all (decide := true) [cChange]; done) | (simp_all (decide := true) [cChange, ltF, leF, ltFN, leFN]; done))⟩
      by_cases s15_3 : w = 3
      · refine V.tabIn (pc' := 102) dX8_change_15 (by rw [s15_3]; decide) (by rw [s15_3]; decide) (by rw [s15_3]; rfl) rfl ?_
        refine V.aload_n dX8_change_102 rfl rfl rfl ?_
        refine V.aload_n dX8_change_103 rfl rfl rfl ?_
        refine V.getr dX8_change_104 fg_X8_10 rfl rfl rfl ?_
        refine V.getr dX8_change_107 fg_X8_71 rfl rfl rfl ?_
        refine V.getr dX8_change_110 fg_X8_97 rfl rfl rfl ?_
        refine V.iload_n dX8_change_113 rfl rfl rfl ?_
        refine V.iload_n dX8_change_114 rfl rfl rfl ?_
        refine V.sipush (v := 999) dX8_change_115 (by decide) rfl ?_
        refine V.callv_i (M1 := exM 6 b v 999 M) (v := exA 6 b v 999 M) (md' := m_X8_exchange) (As := [.ref 6, .int (nI b), .int v, .int 999]) (rest := []) dX8_change_118 ml_X8_119 mo_X8_exchange ⟨Nat.le_of_ble_eq_true rfl, Nat.le_of_ble_eq_true rfl⟩ rfl ⟨_, _, rfl⟩ (Nat.le_of_ble_eq_true rfl) rfl rfl (Nat.le_of_ble_eq_true rfl) (v_X8_exchange_6 (i := b) (by omega) v (most := 999) rfl _) rfl ?_
        exact V.ret dX8_change_121 rfl rfl ⟨(by first | (simp (decide := true) [cChange, c5, eb, s15_3]; done) | (simp (decide := true) [cChange, c5, eb, s15_3]; done) | (simp (decide := true) [cChange, c5, eb, s15_3]; done) | (simp_all (decide := true) [cChange]; done) | (simp_all (decide := true) [cChange, ltF, leF, ltFN, leFN]; done)), (by first | (simp (decide := true) [cChange, c5, eb, s15_3]; done) | (simp (decide := true) [cChange, c5, eb, s15_3]; done) | (simp (decide := true) [cChange, c5, eb, s15_3]; done) | (simp_all (decide := true) [cChange]; done) | (simp_all (decide := true) [cChange, ltF, leF, ltFN, leFN]; done))⟩
      refine V.tabOut (pc' := 122) dX8_change_15 (by have q0 := lv_neT (a := 0) s15_0 rfl; have q1 := lv_neT (a := 1) s15_1 rfl; have q2 := lv_neT (a := 2) s15_2 rfl; have q3 := lv_neT (a := 3) s15_3 rfl; omega) rfl ?_
      refine V.aload_n dX8_change_122 rfl rfl rfl ?_
      refine V.iconst (v := 0) dX8_change_123 rfl rfl ?_
      refine V.callv_i (M1 := cfd 0 M) (v := -1000001) (md' := m_X8_finding) (As := [.int 0]) (rest := []) dX8_change_124 ml_X8_67 mo_X8_finding ⟨Nat.le_of_ble_eq_true rfl, Nat.le_of_ble_eq_true rfl⟩ rfl ⟨_, _, rfl⟩ (Nat.le_of_ble_eq_true rfl) rfl rfl (Nat.le_of_ble_eq_true rfl) (v_X8_finding (w := 0) (by decide) (f := -1000001) (by decide +kernel) _) rfl ?_
      exact V.ret dX8_change_127 rfl rfl ⟨(by first | (simp (decide := true) [cChange, c5, eb, s15_0, s15_1, s15_2, s15_3]; done) | (simp (decide := true) [cChange, c5, eb, s15_0, s15_1, s15_2, s15_3]; done) | (simp (decide := true) [cChange, c5, eb, s15_0, s15_1, s15_2, s15_3]; done) | (simp_all (decide := true) [cChange]; done) | (simp_all (decide := true) [cChange, ltF, leF, ltFN, leFN]; done)), (by first | (simp (decide := true) [cChange, c5, eb, s15_0, s15_1, s15_2, s15_3]; done) | (simp (decide := true) [cChange, c5, eb, s15_0, s15_1, s15_2, s15_3]; done) | (simp (decide := true) [cChange, c5, eb, s15_0, s15_1, s15_2, s15_3]; done) | (simp_all (decide := true) [cChange]; done) | (simp_all (decide := true) [cChange, ltF, leF, ltFN, leFN]; done))⟩
  · skip
    refine V.aload_n dX8_change_8 rfl rfl rfl ?_
    refine V.iconst (v := 0) dX8_change_9 rfl rfl ?_
    refine V.callv_i (M1 := cfd 0 M) (v := -1000001) (md' := m_X8_finding) (As := [.int 0]) (rest := []) dX8_change_10 ml_X8_67 mo_X8_finding ⟨Nat.le_of_ble_eq_true rfl, Nat.le_of_ble_eq_true rfl⟩ rfl ⟨_, _, rfl⟩ (Nat.le_of_ble_eq_true rfl) rfl rfl (Nat.le_of_ble_eq_true rfl) (v_X8_finding (w := 0) (by decide) (f := -1000001) (by decide +kernel) _) rfl ?_
    exact V.ret dX8_change_13 rfl rfl ⟨(by first | (simp (decide := true) [cChange, c5]; done) | (simp (decide := true) [cChange, c5]; done) | (simp (decide := true) [cChange, c5]; done) | (simp_all (decide := true) [cChange]; done) | (simp_all (decide := true) [cChange, ltF, leF, ltFN, leFN]; done)), (by first | (simp (decide := true) [cChange, c5]; done) | (simp (decide := true) [cChange, c5]; done) | (simp (decide := true) [cChange, c5]; done) | (simp_all (decide := true) [cChange]; done) | (simp_all (decide := true) [cChange, ltF, leF, ltFN, leFN]; done))⟩
def cPut (c : Nat) (x p : Int32) (M : Mem) : Int32 × Mem := if ¬ (isB c x ∧ rng 1 4 p) then (-1000001, cfd 0 M) else if M 7 x.toNatClampNeg = 4 ∨ M 7 x.toNatClampNeg = p then (-1000005, cfd 4 M) else if ¬ ((¬ p = 1 ∧ ¬ p = 2) ∨ bcF (setG (M 7) p c 0 0) < (if p = 1 then 2 else 4)) then (-1000002, cfd 1 M) else (M 7 x.toNatClampNeg, ms (layM 1 x.toNatClampNeg p M) 1 12 (M 1 12 + layV 1 x.toNatClampNeg p M))
theorem v_X8_put {c : Nat} (hc : c ≤ 10) (x p : Int32) (M : Mem) (hM : M 2 5 = nI c) : V m_X8_put 0 [(0, .ref 0), (1, .int x), (2, .int p)] [] M (RT (some (.int ((cPut c x p M).1))) ((cPut c x p M).2)) := by
  refine V.aload_n dX8_put_0 rfl rfl rfl ?_
  refine V.iload_n dX8_put_1 rfl rfl rfl ?_
  refine V.callv_i (M1 := M) (v := if isB c x then 1 else 0) (md' := m_X8_isBatch) (As := [.int x]) (rest := []) dX8_put_2 ml_X8_84 mo_X8_isBatch ⟨Nat.le_of_ble_eq_true rfl, Nat.le_of_ble_eq_true rfl⟩ rfl ⟨_, _, rfl⟩ (Nat.le_of_ble_eq_true rfl) rfl rfl (Nat.le_of_ble_eq_true rfl) (v_X8_isBatch hc x M hM) rfl ?_
  refine V.ifb_eq (tgt := 17) dX8_put_5 rfl rfl (fun c5 => ?_) (fun c5 => ?_)
  · skip
    refine V.aload_n dX8_put_17 rfl rfl rfl ?_
    refine V.iconst (v := 0) dX8_put_18 rfl rfl ?_
    refine V.callv_i (M1 := cfd 0 M) (v := -1000001) (md' := m_X8_finding) (As := [.int 0]) (rest := []) dX8_put_19 ml_X8_67 mo_X8_finding ⟨Nat.le_of_ble_eq_true rfl, Nat.le_of_ble_eq_true rfl⟩ rfl ⟨_, _, rfl⟩ (Nat.le_of_ble_eq_true rfl) rfl rfl (Nat.le_of_ble_eq_true rfl) (v_X8_finding (w := 0) (by decide) (f := -1000001) (by decide +kernel) _) rfl ?_
    exact V.ret dX8_put_22 rfl rfl ⟨(by first | (simp (decide := true) [cPut, c5]; done) | (simp (decide := true) [cPut, c5]; done) | (simp (decide := true) [cPut, c5]; done) | (simp_all (decide := true) [cPut]; done) | (simp_all (decide := true) [cPut, ltF, leF, ltFN, leFN]; done)), (by first | (simp (decide := true) [cPut, c5]; done) | (simp (decide := true) [cPut, c5]; done) | (simp (decide := true) [cPut, c5]; done) | (simp_all (decide := true) [cPut]; done) | (simp_all (decide := true) [cPut, ltF, leF, ltFN, leFN]; done))⟩
  · skip
    refine V.iload_n dX8_put_8 rfl rfl rfl ?_
    refine V.iconst (v := 1) dX8_put_9 rfl rfl ?_
    refine V.iconst (v := 4) dX8_put_10 rfl rfl ?_
    refine V.calls_i (M1 := M) (v := if rng 1 4 p then 1 else 0) (md' := m_X8_within) (As := [.int p, .int 1, .int 4]) (rest := []) dX8_put_11 ml_X8_63 mo_X8_within ⟨Nat.le_of_ble_eq_true rfl, Nat.le_of_ble_eq_true rfl⟩ (Nat.le_of_ble_eq_true rfl) rfl rfl (Nat.le_of_ble_eq_true rfl) (v_X8_within (x := p) (a := 1) (b := 4) rfl rfl _) rfl ?_
    refine V.ifb_ne (tgt := 23) dX8_put_14 rfl rfl (fun c14 => ?_) (fun c14 => ?_)
    · skip
      obtain ⟨b, hb, rfl⟩ := of_isB c5
      · have eb : (nI b).toNatClampNeg = b := nI_clamp (by omega)
        refine V.aload_n dX8_put_23 rfl rfl rfl ?_
        refine V.getr dX8_put_24 fg_X8_10 rfl rfl rfl ?_
        refine V.getr dX8_put_27 fg_X8_71 rfl rfl rfl ?_
        refine V.getr dX8_put_30 fg_X8_100 rfl rfl rfl ?_
        refine V.iload_n dX8_put_33 rfl rfl rfl ?_
        refine V.ialdN (j := b) (v := M 7 b) dX8_put_34 rfl (by omega) (by decide) rfl rfl rfl ?_
        refine V.ist_n dX8_put_35 rfl (by decide) (L' := [(0, .ref 0), (1, .int (nI b)), (2, .int p), (3, .int (M 7 b))]) rfl rfl ?_
        refine V.iload_n dX8_put_36 rfl rfl rfl ?_
        refine V.iconst (v := 4) dX8_put_37 rfl rfl ?_
        refine V.icmp_eq (tgt := 46) dX8_put_38 rfl rfl (fun c38 => ?_) (fun c38 => ?_)
        · skip
          refine V.aload_n dX8_put_46 rfl rfl rfl ?_
          refine V.iconst (v := 4) dX8_put_47 rfl rfl ?_
          refine V.callv_i (M1 := cfd 4 M) (v := -1000005) (md' := m_X8_finding) (As := [.int 4]) (rest := []) dX8_put_48 ml_X8_67 mo_X8_finding ⟨Nat.le_of_ble_eq_true rfl, Nat.le_of_ble_eq_true rfl⟩ rfl ⟨_, _, rfl⟩ (Nat.le_of_ble_eq_true rfl) rfl rfl (Nat.le_of_ble_eq_true rfl) (v_X8_finding (w := 4) (by decide) (f := -1000005) (by decide +kernel) _) rfl ?_
          exact V.ret dX8_put_51 rfl rfl ⟨(by first | (simp (decide := true) [cPut, c5, c14, eb, c38]; done) | (simp (decide := true) [cPut, c5, c14, eb, c38]; done) | (simp (decide := true) [cPut, c5, c14, eb, c38]; done) | (simp_all (decide := true) [cPut]; done) | (simp_all (decide := true) [cPut, ltF, leF, ltFN, leFN]; done)), (by first | (simp (decide := true) [cPut, c5, c14, eb, c38]; done) | (simp (decide := true) [cPut, c5, c14, eb, c38]; done) | (simp (decide := true) [cPut, c5, c14, eb, c38]; done) | (simp_all (decide := true) [cPut]; done) | (simp_all (decide := true) [cPut, ltF, leF, ltFN, leFN]; done))⟩
        · skip
          refine V.iload_n dX8_put_41 rfl rfl rfl ?_
          refine V.iload_n dX8_put_42 rfl rfl rfl ?_
          refine V.icmp_ne (tgt := 52) dX8_put_43 rfl rfl (fun c43 => ?_) (fun c43 => ?_)
          · skip
            refine V.aload_n dX8_put_52 rfl rfl rfl ?_
            refine V.getr dX8_put_53 fg_X8_10 rfl rfl rfl ?_
            refine V.getr dX8_put_56 fg_X8_71 rfl rfl rfl ?_
            refine V.iload_n dX8_put_59 rfl rfl rfl ?_
            refine V.callv_i (M1 := M) (v := if (¬ p = 1 ∧ ¬ p = 2) ∨ bcF (setG (M 7) p c 0 0) < (if p = 1 then 2 else 4) then 1 else 0) (md' := m_X4_hasRoom) (As := [.int p]) (rest := []) dX8_put_60 ml_X8_123 mo_X4_hasRoom ⟨Nat.le_of_ble_eq_true rfl, Nat.le_of_ble_eq_true rfl⟩ rfl ⟨_, _, rfl⟩ (Nat.le_of_ble_eq_true rfl) rfl rfl (Nat.le_of_ble_eq_true rfl) (v_X4_hasRoom isE1 hc p M hM) rfl ?_
            refine V.ifb_ne (tgt := 72) dX8_put_63 rfl rfl (fun c63 => ?_) (fun c63 => ?_)
            · skip
              refine V.aload_n dX8_put_72 rfl rfl rfl ?_
              refine V.getr dX8_put_73 fg_X8_10 rfl rfl rfl ?_
              refine V.dup dX8_put_76 rfl rfl ?_
              refine V.geti (v := M 1 12) dX8_put_77 fg_X8_126 rfl rfl rfl rfl ?_
              refine V.aload_n dX8_put_80 rfl rfl rfl ?_
              refine V.getr dX8_put_81 fg_X8_10 rfl rfl rfl ?_
              refine V.getr dX8_put_84 fg_X8_71 rfl rfl rfl ?_
              refine V.iload_n dX8_put_87 rfl rfl rfl ?_
              refine V.iload_n dX8_put_88 rfl rfl rfl ?_
              refine V.callv_i (M1 := layM 1 b p M) (v := layV 1 b p M) (md' := m_X4_lay) (As := [.int (nI b), .int p]) (rest := [.int (M 1 12), .ref 1]) dX8_put_89 ml_X8_129 mo_X4_lay ⟨Nat.le_of_ble_eq_true rfl, Nat.le_of_ble_eq_true rfl⟩ rfl ⟨_, _, rfl⟩ (Nat.le_of_ble_eq_true rfl) rfl rfl (Nat.le_of_ble_eq_true rfl) (v_X4_lay isE1 (b := b) (by omega) p _) rfl ?_
              refine V.iadd (v := (M 1 12) + (layV 1 b p M)) dX8_put_92 rfl rfl ?_
              refine V.puti dX8_put_93 fp_X8_126 rfl rfl rfl rfl (M' := (ms (layM 1 b p M) 1 12 ((M 1 12) + (layV 1 b p M)))) rfl rfl ?_
              refine V.iload_n dX8_put_96 rfl rfl rfl ?_
              exact V.ret dX8_put_97 rfl rfl ⟨(by first | (simp (decide := true) [cPut, c5, c14, eb, c38, c43, c63]; done) | (simp (decide := true) [cPut, c5, c14, eb, c38, c43, c63]; done) | (simp (decide := true) [cPut, c5, c14, eb, c38, c43, c63]; done) | (simp_all (decide := true) [cPut]; done) | (simp_all (decide := true) [cPut, ltF, leF, ltFN, leFN]; done)), (by first | (simp (decide := true) [cPut, c5, c14, eb, c38, c43, c63]; done) | (simp (decide := true) [cPut, c5, c14, eb, c38, c43, c63]; done) | (simp (decide := true) [cPut, c5, c14, eb, c38, c43, c63]; done) | (simp_all (decide := true) [cPut]; done) | (simp_all (decide := true) [cPut, ltF, leF, ltFN, leFN]; done))⟩
            · skip
              refine V.aload_n dX8_put_66 rfl rfl rfl ?_
              refine V.iconst (v := 1) dX8_put_67 rfl rfl ?_
              refine V.callv_i (M1 := cfd 1 M) (v := -1000002) (md' := m_X8_finding) (As := [.int 1]) (rest := []) dX8_put_68 ml_X8_67 mo_X8_finding ⟨Nat.le_of_ble_eq_true rfl, Nat.le_of_ble_eq_true rfl⟩ rfl ⟨_, _, rfl⟩ (Nat.le_of_ble_eq_true rfl) rfl rfl (Nat.le_of_ble_eq_true rfl) (v_X8_finding (w := 1) (by decide) (f := -1000002) (by decide +kernel) _) rfl ?_
              exact V.ret dX8_put_71 rfl rfl ⟨(by first | (simp (decide := true) [cPut, c5, c14, eb, c38, c43, c63]; done) | (simp (decide := true) [cPut, c5, c14, eb, c38, c43, c63]; done) | (simp (decide := true) [cPut, c5, c14, eb, c38, c43, c63]; done) | (simp_all (decide := true) [cPut]; done) | (simp_all (decide := true) [cPut, ltF, leF, ltFN, leFN]; done)), (by first | (simp (decide := true) [cPut, c5, c14, eb, c38, c43, c63]; done) | (simp (decide := true) [cPut, c5, c14, eb, c38, c43, c63]; done) | (simp (decide := true) [cPut, c5, c14, eb, c38, c43, c63]; done) | (simp_all (decide := true) [cPut]; done) | (simp_all (decide := true) [cPut, ltF, leF, ltFN, leFN]; done))⟩
          · skip
            refine V.aload_n dX8_put_46 rfl rfl rfl ?_
            refine V.iconst (v := 4) dX8_put_47 rfl rfl ?_
            refine V.callv_i (M1 := cfd 4 M) (v := -1000005) (md' := m_X8_finding) (As := [.int 4]) (rest := []) dX8_put_48 ml_X8_67 mo_X8_finding ⟨Nat.le_of_ble_eq_true rfl, Nat.le_of_ble_eq_true rfl⟩ rfl ⟨_, _, rfl⟩ (Nat.le_of_ble_eq_true rfl) rfl rfl (Nat.le_of_ble_eq_true rfl) (v_X8_finding (w := 4) (by decide) (f := -1000005) (by decide +kernel) _) rfl ?_
            exact V.ret dX8_put_51 rfl rfl ⟨(by first | (simp (decide := true) [cPut, c5, c14, eb, c38, c43]; done) | (simp (decide := true) [cPut, c5, c14, eb, c38, c43]; done) | (simp (decide := true) [cPut, c5, c14, eb, c38, c43]; done) | (simp_all (decide := true) [cPut]; done) | (simp_all (decide := true) [cPut, ltF, leF, ltFN, leFN]; done)), (by first | (simp (decide := true) [cPut, c5, c14, eb, c38, c43]; done) | (simp (decide := true) [cPut, c5, c14, eb, c38, c43]; done) | (simp (decide := true) [cPut, c5, c14, eb, c38, c43]; done) | (simp_all (decide := true) [cPut]; done) | (simp_all (decide := true) [cPut, ltF, leF, ltFN, leFN]; done))⟩
    · skip
      refine V.aload_n dX8_put_17 rfl rfl rfl ?_
      refine V.iconst (v := 0) dX8_put_18 rfl rfl ?_
      refine V.callv_i (M1 := cfd 0 M) (v := -1000001) (md' := m_X8_finding) (As := [.int 0]) (rest := []) dX8_put_19 ml_X8_67 mo_X8_finding ⟨Nat.le_of_ble_eq_true rfl, Nat.le_of_ble_eq_true rfl⟩ rfl ⟨_, _, rfl⟩ (Nat.le_of_ble_eq_true rfl) rfl rfl (Nat.le_of_ble_eq_true rfl) (v_X8_finding (w := 0) (by decide) (f := -1000001) (by decide +kernel) _) rfl ?_
      exact V.ret dX8_put_22 rfl rfl ⟨(by first | (simp (decide := true) [cPut, c5, c14]; done) | (simp (decide := true) [cPut, c5, c14]; done) | (simp (decide := true) [cPut, c5, c14]; done) | (simp_all (decide := true) [cPut]; done) | (simp_all (decide := true) [cPut, ltF, leF, ltFN, leFN]; done)), (by first | (simp (decide := true) [cPut, c5, c14]; done) | (simp (decide := true) [cPut, c5, c14]; done) | (simp (decide := true) [cPut, c5, c14]; done) | (simp_all (decide := true) [cPut]; done) | (simp_all (decide := true) [cPut, ltF, leF, ltFN, leFN]; done))⟩
def cHeats (c : Nat) (x h : Int32) (M : Mem) : Int32 × Mem := if isB c x ∧ rng 0 20 h then (heatsF (M 3 x.toNatClampNeg) h, M) else (-1000001, cfd 0 M)
theorem v_X8_heats {c : Nat} (hc : c ≤ 10) (x h : Int32) (M : Mem) (hM : M 2 5 = nI c) : V m_X8_heats 0 [(0, .ref 0), (1, .int x), (2, .int h)] [] M (RT (some (.int ((cHeats c x h M).1))) ((cHeats c x h M).2)) := by
  refine V.aload_n dX8_heats_0 rfl rfl rfl ?_
  refine V.iload_n dX8_heats_1 rfl rfl rfl ?_
  refine V.callv_i (M1 := M) (v := if isB c x then 1 else 0) (md' := m_X8_isBatch) (As := [.int x]) (rest := []) dX8_heats_2 ml_X8_84 mo_X8_isBatch ⟨Nat.le_of_ble_eq_true rfl, Nat.le_of_ble_eq_true rfl⟩ rfl ⟨_, _, rfl⟩ (Nat.le_of_ble_eq_true rfl) rfl rfl (Nat.le_of_ble_eq_true rfl) (v_X8_isBatch hc x M hM) rfl ?_
  refine V.ifb_eq (tgt := 18) dX8_heats_5 rfl rfl (fun c5 => ?_) (fun c5 => ?_)
  · skip
    refine V.aload_n dX8_heats_18 rfl rfl rfl ?_
    refine V.iconst (v := 0) dX8_heats_19 rfl rfl ?_
    refine V.callv_i (M1 := cfd 0 M) (v := -1000001) (md' := m_X8_finding) (As := [.int 0]) (rest := []) dX8_heats_20 ml_X8_67 mo_X8_finding ⟨Nat.le_of_ble_eq_true rfl, Nat.le_of_ble_eq_true rfl⟩ rfl ⟨_, _, rfl⟩ (Nat.le_of_ble_eq_true rfl) rfl rfl (Nat.le_of_ble_eq_true rfl) (v_X8_finding (w := 0) (by decide) (f := -1000001) (by decide +kernel) _) rfl ?_
    exact V.ret dX8_heats_23 rfl rfl ⟨(by first | (simp (decide := true) [cHeats, c5]; done) | (simp (decide := true) [cHeats, c5]; done) | (simp (decide := true) [cHeats, c5]; done) | (simp_all (decide := true) [cHeats]; done) | (simp_all (decide := true) [cHeats, ltF, leF, ltFN, leFN]; done)), (by first | (simp (decide := true) [cHeats, c5]; done) | (simp (decide := true) [cHeats, c5]; done) | (simp (decide := true) [cHeats, c5]; done) | (simp_all (decide := true) [cHeats]; done) | (simp_all (decide := true) [cHeats, ltF, leF, ltFN, leFN]; done))⟩
  · skip
    refine V.iload_n dX8_heats_8 rfl rfl rfl ?_
    refine V.iconst (v := 0) dX8_heats_9 rfl rfl ?_
    refine V.bipush (v := 20) dX8_heats_10 (by decide) rfl ?_
    refine V.calls_i (M1 := M) (v := if rng 0 20 h then 1 else 0) (md' := m_X8_within) (As := [.int h, .int 0, .int 20]) (rest := []) dX8_heats_12 ml_X8_63 mo_X8_within ⟨Nat.le_of_ble_eq_true rfl, Nat.le_of_ble_eq_true rfl⟩ (Nat.le_of_ble_eq_true rfl) rfl rfl (Nat.le_of_ble_eq_true rfl) (v_X8_within (x := h) (a := 0) (b := 20) rfl rfl _) rfl ?_
    refine V.ifb_ne (tgt := 24) dX8_heats_15 rfl rfl (fun c15 => ?_) (fun c15 => ?_)
    · skip
      obtain ⟨b, hb, rfl⟩ := of_isB c5
      · have eb : (nI b).toNatClampNeg = b := nI_clamp (by omega)
        obtain ⟨k, hk, rfl⟩ := of_rng (b := 20) c15
        have ek : (nI k).toNatClampNeg = k := nI_clamp (by omega)
        refine V.aload_n dX8_heats_24 rfl rfl rfl ?_
        refine V.getr dX8_heats_25 fg_X8_10 rfl rfl rfl ?_
        refine V.getr dX8_heats_28 fg_X8_71 rfl rfl rfl ?_
        refine V.getr dX8_heats_31 fg_X8_88 rfl rfl rfl ?_
        refine V.iload_n dX8_heats_34 rfl rfl rfl ?_
        refine V.ialdN (j := b) (v := M 3 b) dX8_heats_35 rfl (by omega) (by decide) rfl rfl rfl ?_
        refine V.iload_n dX8_heats_36 rfl rfl rfl ?_
        refine V.calls_i (M1 := M) (v := heatsF (M 3 b) (nI k)) (md' := m_X3_heatsOf) (As := [.int (M 3 b), .int (nI k)]) (rest := []) dX8_heats_37 ml_X8_132 mo_X3_heatsOf ⟨Nat.le_of_ble_eq_true rfl, Nat.le_of_ble_eq_true rfl⟩ (Nat.le_of_ble_eq_true rfl) rfl rfl (Nat.le_of_ble_eq_true rfl) (v_X3_heatsOf (M 3 b) (n := k) (by omega) _) rfl ?_
        exact V.ret dX8_heats_40 rfl rfl ⟨(by first | (simp (decide := true) [cHeats, c5, c15, eb, ek]; done) | (simp (decide := true) [cHeats, c5, c15, eb, ek]; done) | (simp (decide := true) [cHeats, c5, c15, eb, ek]; done) | (simp_all (decide := true) [cHeats]; done) | (simp_all (decide := true) [cHeats, ltF, leF, ltFN, leFN]; done)), (by first | (simp (decide := true) [cHeats, c5, c15, eb, ek]; done) | (simp (decide := true) [cHeats, c5, c15, eb, ek]; done) | (simp (decide := true) [cHeats, c5, c15, eb, ek]; done) | (simp_all (decide := true) [cHeats]; done) | (simp_all (decide := true) [cHeats, ltF, leF, ltFN, leFN]; done))⟩
    · skip
      refine V.aload_n dX8_heats_18 rfl rfl rfl ?_
      refine V.iconst (v := 0) dX8_heats_19 rfl rfl ?_
      refine V.callv_i (M1 := cfd 0 M) (v := -1000001) (md' := m_X8_finding) (As := [.int 0]) (rest := []) dX8_heats_20 ml_X8_67 mo_X8_finding ⟨Nat.le_of_ble_eq_true rfl, Nat.le_of_ble_eq_true rfl⟩ rfl ⟨_, _, rfl⟩ (Nat.le_of_ble_eq_true rfl) rfl rfl (Nat.le_of_ble_eq_true rfl) (v_X8_finding (w := 0) (by decide) (f := -1000001) (by decide +kernel) _) rfl ?_
      exact V.ret dX8_heats_23 rfl rfl ⟨(by first | (simp (decide := true) [cHeats, c5, c15]; done) | (simp (decide := true) [cHeats, c5, c15]; done) | (simp (decide := true) [cHeats, c5, c15]; done) | (simp_all (decide := true) [cHeats]; done) | (simp_all (decide := true) [cHeats, ltF, leF, ltFN, leFN]; done)), (by first | (simp (decide := true) [cHeats, c5, c15]; done) | (simp (decide := true) [cHeats, c5, c15]; done) | (simp (decide := true) [cHeats, c5, c15]; done) | (simp_all (decide := true) [cHeats]; done) | (simp_all (decide := true) [cHeats, ltF, leF, ltFN, leFN]; done))⟩
def cHow (c : Nat) (x : Int32) (M : Mem) : Int32 × Mem := if ¬ isB c x then (-1000001, cfd 0 M) else if M 7 x.toNatClampNeg = 4 then (5, M) else if burntF (M 3 x.toNatClampNeg) ≤ M 5 x.toNatClampNeg then (4, M) else if ¬ (¬ M 7 x.toNatClampNeg = 4 ∧ readyF (M 3 x.toNatClampNeg) ≤ M 5 x.toNatClampNeg) then (0, M) else if M 6 x.toNatClampNeg ≤ 10 then (1, M) else if M 6 x.toNatClampNeg ≤ 25 then (2, M) else (3, M)
theorem v_X8_how {c : Nat} (hc : c ≤ 10) (x : Int32) (M : Mem) (hM : M 2 5 = nI c) : V m_X8_how 0 [(0, .ref 0), (1, .int x)] [] M (RT (some (.int ((cHow c x M).1))) ((cHow c x M).2)) := by
  refine V.aload_n dX8_how_0 rfl rfl rfl ?_
  refine V.iload_n dX8_how_1 rfl rfl rfl ?_
  refine V.callv_i (M1 := M) (v := if isB c x then 1 else 0) (md' := m_X8_isBatch) (As := [.int x]) (rest := []) dX8_how_2 ml_X8_84 mo_X8_isBatch ⟨Nat.le_of_ble_eq_true rfl, Nat.le_of_ble_eq_true rfl⟩ rfl ⟨_, _, rfl⟩ (Nat.le_of_ble_eq_true rfl) rfl rfl (Nat.le_of_ble_eq_true rfl) (v_X8_isBatch hc x M hM) rfl ?_
  refine V.ifb_ne (tgt := 14) dX8_how_5 rfl rfl (fun c5 => ?_) (fun c5 => ?_)
  · skip
    obtain ⟨b, hb, rfl⟩ := of_isB c5
    · have eb : (nI b).toNatClampNeg = b := nI_clamp (by omega)
      refine V.aload_n dX8_how_14 rfl rfl rfl ?_
      refine V.getr dX8_how_15 fg_X8_10 rfl rfl rfl ?_
      refine V.getr dX8_how_18 fg_X8_71 rfl rfl rfl ?_
      refine V.iload_n dX8_how_21 rfl rfl rfl ?_
      refine V.callv_i (M1 := M) (v := if M 7 b = 4 then 1 else 0) (md' := m_X4_isGone) (As := [.int (nI b)]) (rest := []) dX8_how_22 ml_X8_135 mo_X4_isGone ⟨Nat.le_of_ble_eq_true rfl, Nat.le_of_ble_eq_true rfl⟩ rfl ⟨_, _, rfl⟩ (Nat.le_of_ble_eq_true rfl) rfl rfl (Nat.le_of_ble_eq_true rfl) (v_X4_isGone isE1 (b := b) (by omega) _) rfl ?_
      refine V.ifb_eq (tgt := 30) dX8_how_25 rfl rfl (fun c25 => ?_) (fun c25 => ?_)
      · skip
        refine V.aload_n dX8_how_30 rfl rfl rfl ?_
        refine V.getr dX8_how_31 fg_X8_10 rfl rfl rfl ?_
        refine V.getr dX8_how_34 fg_X8_71 rfl rfl rfl ?_
        refine V.iload_n dX8_how_37 rfl rfl rfl ?_
        refine V.callv_i (M1 := M) (v := if burntF (M 3 b) ≤ M 5 b then 1 else 0) (md' := m_X4_isBurnt) (As := [.int (nI b)]) (rest := []) dX8_how_38 ml_X8_138 mo_X4_isBurnt ⟨Nat.le_of_ble_eq_true rfl, Nat.le_of_ble_eq_true rfl⟩ rfl ⟨_, _, rfl⟩ (Nat.le_of_ble_eq_true rfl) rfl rfl (Nat.le_of_ble_eq_true rfl) (v_X4_isBurnt isE1 (b := b) (by omega) _) rfl ?_
        refine V.ifb_eq (tgt := 46) dX8_how_41 rfl rfl (fun c41 => ?_) (fun c41 => ?_)
        · skip
          refine V.aload_n dX8_how_46 rfl rfl rfl ?_
          refine V.getr dX8_how_47 fg_X8_10 rfl rfl rfl ?_
          refine V.getr dX8_how_50 fg_X8_71 rfl rfl rfl ?_
          refine V.iload_n dX8_how_53 rfl rfl rfl ?_
          refine V.callv_i (M1 := M) (v := if ¬ M 7 b = 4 ∧ readyF (M 3 b) ≤ M 5 b then 1 else 0) (md' := m_X4_isReady) (As := [.int (nI b)]) (rest := []) dX8_how_54 ml_X8_141 mo_X4_isReady ⟨Nat.le_of_ble_eq_true rfl, Nat.le_of_ble_eq_true rfl⟩ rfl ⟨_, _, rfl⟩ (Nat.le_of_ble_eq_true rfl) rfl rfl (Nat.le_of_ble_eq_true rfl) (v_X4_isReady isE1 (b := b) (by omega) _) rfl ?_
          refine V.ifb_ne (tgt := 62) dX8_how_57 rfl rfl (fun c57 => ?_) (fun c57 => ?_)
          · skip
            refine V.aload_n dX8_how_62 rfl rfl rfl ?_
            refine V.getr dX8_how_63 fg_X8_10 rfl rfl rfl ?_
            refine V.getr dX8_how_66 fg_X8_71 rfl rfl rfl ?_
            refine V.getr dX8_how_69 fg_X8_97 rfl rfl rfl ?_
            refine V.iload_n dX8_how_72 rfl rfl rfl ?_
            refine V.ialdN (j := b) (v := M 6 b) dX8_how_73 rfl (by omega) (by decide) rfl rfl rfl ?_
            refine V.ist_n dX8_how_74 rfl (by decide) (L' := [(0, .ref 0), (1, .int (nI b)), (2, .int (M 6 b))]) rfl rfl ?_
            refine V.iload_n dX8_how_75 rfl rfl rfl ?_
            refine V.bipush (v := 10) dX8_how_76 (by decide) rfl ?_
            refine V.icmp_gt (tgt := 83) dX8_how_78 rfl rfl (fun c78 => ?_) (fun c78 => ?_)
            · have d78 := Int32.not_le.mpr c78
              refine V.iload_n dX8_how_83 rfl rfl rfl ?_
              refine V.bipush (v := 25) dX8_how_84 (by decide) rfl ?_
              refine V.icmp_gt (tgt := 93) dX8_how_86 rfl rfl (fun c86 => ?_) (fun c86 => ?_)
              · have d86 := Int32.not_le.mpr c86
                refine V.iconst (v := 3) dX8_how_93 rfl rfl ?_
                exact V.ret dX8_how_94 rfl rfl ⟨(by first | (simp (decide := true) [cHow, c5, eb, c25, c41, c57, c78, d78, c86, d86]; done) | (simp (decide := true) [cHow, c5, eb, c25, c41, c57, c78, c78, c86, c86]; done) | (simp (decide := true) [cHow, c5, eb, c25, c41, c57, c78, d78, c86, d86, c78, c86]; done) | (simp_all (decide := true) [cHow]; done) | (simp_all (decide := true) [cHow, ltF, leF, ltFN, leFN]; done)), (by first | (simp (decide := true) [cHow, c5, eb, c25, c41, c57, c78, d78, c86, d86]; done) | (simp (decide := true) [cHow, c5, eb, c25, c41, c57, c78, c78, c86, c86]; done) | (simp (decide := true) [cHow, c5, eb, c25, c41, c57, c78, d78, c86, d86, c78, c86]; done) | (simp_all (decide := true) [cHow]; done) | (simp_all (decide := true) [cHow, ltF, leF, ltFN, leFN]; done))⟩
              · have d86 := Int32.not_lt.mp c86
                refine V.iconst (v := 2) dX8_how_89 rfl rfl ?_
                refine V.goto (pc' := 94) dX8_how_90 rfl ?_
                exact V.ret dX8_how_94 rfl rfl ⟨(by first | (simp (decide := true) [cHow, c5, eb, c25, c41, c57, c78, d78, c86, d86]; done) | (simp (decide := true) [cHow, c5, eb, c25, c41, c57, c78, c78, c86, c86]; done) | (simp (decide := true) [cHow, c5, eb, c25, c41, c57, c78, d78, c86, d86, c78, c86]; done) | (simp_all (decide := true) [cHow]; done) | (simp_all (decide := true) [cHow, ltF, leF, ltFN, leFN]; done)), (by first | (simp (decide := true) [cHow, c5, eb, c25, c41, c57, c78, d78, c86, d86]; done) | (simp (decide := true) [cHow, c5, eb, c25, c41, c57, c78, c78, c86, c86]; done) | (simp (decide := true) [cHow, c5, eb, c25, c41, c57, c78, d78, c86, d86, c78, c86]; done) | (simp_all (decide := true) [cHow]; done) | (simp_all (decide := true) [cHow, ltF, leF, ltFN, leFN]; done))⟩
            · have d78 := Int32.not_lt.mp c78
              refine V.iconst (v := 1) dX8_how_81 rfl rfl ?_
              exact V.ret dX8_how_82 rfl rfl ⟨(by first | (simp (decide := true) [cHow, c5, eb, c25, c41, c57, c78, d78]; done) | (simp (decide := true) [cHow, c5, eb, c25, c41, c57, c78, c78]; done) | (simp (decide := true) [cHow, c5, eb, c25, c41, c57, c78, d78, c78]; done) | (simp_all (decide := true) [cHow]; done) | (simp_all (decide := true) [cHow, ltF, leF, ltFN, leFN]; done)), (by first | (simp (decide := true) [cHow, c5, eb, c25, c41, c57, c78, d78]; done) | (simp (decide := true) [cHow, c5, eb, c25, c41, c57, c78, c78]; done) | (simp (decide := true) [cHow, c5, eb, c25, c41, c57, c78, d78, c78]; done) | (simp_all (decide := true) [cHow]; done) | (simp_all (decide := true) [cHow, ltF, leF, ltFN, leFN]; done))⟩
          · skip
            refine V.iconst (v := 0) dX8_how_60 rfl rfl ?_
            exact V.ret dX8_how_61 rfl rfl ⟨(by first | (simp (decide := true) [cHow, c5, eb, c25, c41, c57]; done) | (simp (decide := true) [cHow, c5, eb, c25, c41, c57]; done) | (simp (decide := true) [cHow, c5, eb, c25, c41, c57]; done) | (simp_all (decide := true) [cHow]; done) | (simp_all (decide := true) [cHow, ltF, leF, ltFN, leFN]; done)), (by first | (simp (decide := true) [cHow, c5, eb, c25, c41, c57]; done) | (simp (decide := true) [cHow, c5, eb, c25, c41, c57]; done) | (simp (decide := true) [cHow, c5, eb, c25, c41, c57]; done) | (simp_all (decide := true) [cHow]; done) | (simp_all (decide := true) [cHow, ltF, leF, ltFN, leFN]; done))⟩
        · skip
          refine V.iconst (v := 4) dX8_how_44 rfl rfl ?_
          exact V.ret dX8_how_45 rfl rfl ⟨(by first | (simp (decide := true) [cHow, c5, eb, c25, c41]; done) | (simp (decide := true) [cHow, c5, eb, c25, c41]; done) | (simp (decide := true) [cHow, c5, eb, c25, c41]; done) | (simp_all (decide := true) [cHow]; done) | (simp_all (decide := true) [cHow, ltF, leF, ltFN, leFN]; done)), (by first | (simp (decide := true) [cHow, c5, eb, c25, c41]; done) | (simp (decide := true) [cHow, c5, eb, c25, c41]; done) | (simp (decide := true) [cHow, c5, eb, c25, c41]; done) | (simp_all (decide := true) [cHow]; done) | (simp_all (decide := true) [cHow, ltF, leF, ltFN, leFN]; done))⟩
      · skip
        refine V.iconst (v := 5) dX8_how_28 rfl rfl ?_
        exact V.ret dX8_how_29 rfl rfl ⟨(by first | (simp (decide := true) [cHow, c5, eb, c25]; done) | (simp (decide := true) [cHow, c5, eb, c25]; done) | (simp (decide := true) [cHow, c5, eb, c25]; done) | (simp_all (decide := true) [cHow]; done) | (simp_all (decide := true) [cHow, ltF, leF, ltFN, leFN]; done)), (by first | (simp (decide := true) [cHow, c5, eb, c25]; done) | (simp (decide := true) [cHow, c5, eb, c25]; done) | (simp (decide := true) [cHow, c5, eb, c25]; done) | (simp_all (decide := true) [cHow]; done) | (simp_all (decide := true) [cHow, ltF, leF, ltFN, leFN]; done))⟩
  · skip
    refine V.aload_n dX8_how_8 rfl rfl rfl ?_
    refine V.iconst (v := 0) dX8_how_9 rfl rfl ?_
    refine V.callv_i (M1 := cfd 0 M) (v := -1000001) (md' := m_X8_finding) (As := [.int 0]) (rest := []) dX8_how_10 ml_X8_67 mo_X8_finding ⟨Nat.le_of_ble_eq_true rfl, Nat.le_of_ble_eq_true rfl⟩ rfl ⟨_, _, rfl⟩ (Nat.le_of_ble_eq_true rfl) rfl rfl (Nat.le_of_ble_eq_true rfl) (v_X8_finding (w := 0) (by decide) (f := -1000001) (by decide +kernel) _) rfl ?_
    exact V.ret dX8_how_13 rfl rfl ⟨(by first | (simp (decide := true) [cHow, c5]; done) | (simp (decide := true) [cHow, c5]; done) | (simp (decide := true) [cHow, c5]; done) | (simp_all (decide := true) [cHow]; done) | (simp_all (decide := true) [cHow, ltF, leF, ltFN, leFN]; done)), (by first | (simp (decide := true) [cHow, c5]; done) | (simp (decide := true) [cHow, c5]; done) | (simp (decide := true) [cHow, c5]; done) | (simp_all (decide := true) [cHow]; done) | (simp_all (decide := true) [cHow, ltF, leF, ltFN, leFN]; done))⟩
def cShovel (c m : Nat) (n : Int32) (M : Mem) : Int32 × Mem := if ¬ rng 1 9 n then (-1000001, cfd 0 M) else (sumG (addShM 1 m n M 12) 7 0 0, addShM 1 m n M)
theorem v_X8_shovel {c : Nat} (hc : c ≤ 10) {m : Nat} (hm : m ≤ 3000) (n : Int32) (M : Mem) (hM : M 2 5 = nI c) (h0 : M 1 7 = nI m) : V m_X8_shovel 0 [(0, .ref 0), (1, .int n)] [] M (RT (some (.int ((cShovel c m n M).1))) ((cShovel c m n M).2)) := by
  refine V.iload_n dX8_shovel_0 rfl rfl rfl ?_
  refine V.iconst (v := 1) dX8_shovel_1 rfl rfl ?_
  refine V.bipush (v := 9) dX8_shovel_2 (by decide) rfl ?_
  refine V.calls_i (M1 := M) (v := if rng 1 9 n then 1 else 0) (md' := m_X8_within) (As := [.int n, .int 1, .int 9]) (rest := []) dX8_shovel_4 ml_X8_63 mo_X8_within ⟨Nat.le_of_ble_eq_true rfl, Nat.le_of_ble_eq_true rfl⟩ (Nat.le_of_ble_eq_true rfl) rfl rfl (Nat.le_of_ble_eq_true rfl) (v_X8_within (x := n) (a := 1) (b := 9) rfl rfl _) rfl ?_
  refine V.ifb_ne (tgt := 16) dX8_shovel_7 rfl rfl (fun c7 => ?_) (fun c7 => ?_)
  · skip
    refine V.aload_n dX8_shovel_16 rfl rfl rfl ?_
    refine V.getr dX8_shovel_17 fg_X8_10 rfl rfl rfl ?_
    refine V.iload_n dX8_shovel_20 rfl rfl rfl ?_
    refine V.callv_v (M1 := addShM 1 m n M) (md' := m_X2_addShovels) (As := [.int n]) (rest := []) dX8_shovel_21 ml_X8_144 mo_X2_addShovels ⟨Nat.le_of_ble_eq_true rfl, Nat.le_of_ble_eq_true rfl⟩ rfl ⟨_, _, rfl⟩ (Nat.le_of_ble_eq_true rfl) rfl rfl (Nat.le_of_ble_eq_true rfl) (v_X2_addShovels isE1 (by omega) n M h0) rfl ?_
    refine V.aload_n dX8_shovel_24 rfl rfl rfl ?_
    refine V.getr dX8_shovel_25 fg_X8_10 rfl rfl rfl ?_
    refine V.callv_i (M1 := addShM 1 m n M) (v := sumG ((addShM 1 m n M) 12) 7 0 0) (md' := m_X2_shovelsDue) (As := []) (rest := []) dX8_shovel_28 ml_X8_148 mo_X2_shovelsDue ⟨Nat.le_of_ble_eq_true rfl, Nat.le_of_ble_eq_true rfl⟩ rfl ⟨_, _, rfl⟩ (Nat.le_of_ble_eq_true rfl) rfl rfl (Nat.le_of_ble_eq_true rfl) (v_X2_shovelsDue isE1 _) rfl ?_
    exact V.ret dX8_shovel_31 rfl rfl ⟨(by first | (simp (decide := true) [cShovel, c7]; done) | (simp (decide := true) [cShovel, c7]; done) | (simp (decide := true) [cShovel, c7]; done) | (simp_all (decide := true) [cShovel]; done) | (simp_all (decide := true) [cShovel, ltF, leF, ltFN, leFN]; done)), (by first | (simp (decide := true) [cShovel, c7]; done) | (simp (decide := true) [cShovel, c7]; done) | (simp (decide := true) [cShovel, c7]; done) | (simp_all (decide := true) [cShovel]; done) | (simp_all (decide := true) [cShovel, ltF, leF, ltFN, leFN]; done))⟩
  · skip
    refine V.aload_n dX8_shovel_10 rfl rfl rfl ?_
    refine V.iconst (v := 0) dX8_shovel_11 rfl rfl ?_
    refine V.callv_i (M1 := cfd 0 M) (v := -1000001) (md' := m_X8_finding) (As := [.int 0]) (rest := []) dX8_shovel_12 ml_X8_67 mo_X8_finding ⟨Nat.le_of_ble_eq_true rfl, Nat.le_of_ble_eq_true rfl⟩ rfl ⟨_, _, rfl⟩ (Nat.le_of_ble_eq_true rfl) rfl rfl (Nat.le_of_ble_eq_true rfl) (v_X8_finding (w := 0) (by decide) (f := -1000001) (by decide +kernel) _) rfl ?_
    exact V.ret dX8_shovel_15 rfl rfl ⟨(by first | (simp (decide := true) [cShovel, c7]; done) | (simp (decide := true) [cShovel, c7]; done) | (simp (decide := true) [cShovel, c7]; done) | (simp_all (decide := true) [cShovel]; done) | (simp_all (decide := true) [cShovel, ltF, leF, ltFN, leFN]; done)), (by first | (simp (decide := true) [cShovel, c7]; done) | (simp (decide := true) [cShovel, c7]; done) | (simp (decide := true) [cShovel, c7]; done) | (simp_all (decide := true) [cShovel]; done) | (simp_all (decide := true) [cShovel, ltF, leF, ltFN, leFN]; done))⟩
def cRule (c : Nat) (w v : Int32) (M : Mem) : Int32 × Mem := if ¬ (rng 0 2 w ∧ rng 0 (mostF w).toInt v) then (-1000001, cfd 0 M) else (ruledF 1 w M, setRuleM 1 w v M)
theorem v_X8_rule {c : Nat} (hc : c ≤ 10) (w v : Int32) (M : Mem) (hM : M 2 5 = nI c) : V m_X8_rule 0 [(0, .ref 0), (1, .int w), (2, .int v)] [] M (RT (some (.int ((cRule c w v M).1))) ((cRule c w v M).2)) := by
  refine V.iload_n dX8_rule_0 rfl rfl rfl ?_
  refine V.iconst (v := 0) dX8_rule_1 rfl rfl ?_
  refine V.iconst (v := 2) dX8_rule_2 rfl rfl ?_
  refine V.calls_i (M1 := M) (v := if rng 0 2 w then 1 else 0) (md' := m_X8_within) (As := [.int w, .int 0, .int 2]) (rest := []) dX8_rule_3 ml_X8_63 mo_X8_within ⟨Nat.le_of_ble_eq_true rfl, Nat.le_of_ble_eq_true rfl⟩ (Nat.le_of_ble_eq_true rfl) rfl rfl (Nat.le_of_ble_eq_true rfl) (v_X8_within (x := w) (a := 0) (b := 2) rfl rfl _) rfl ?_
  refine V.ifb_eq (tgt := 21) dX8_rule_6 rfl rfl (fun c6 => ?_) (fun c6 => ?_)
  · skip
    refine V.aload_n dX8_rule_21 rfl rfl rfl ?_
    refine V.iconst (v := 0) dX8_rule_22 rfl rfl ?_
    refine V.callv_i (M1 := cfd 0 M) (v := -1000001) (md' := m_X8_finding) (As := [.int 0]) (rest := []) dX8_rule_23 ml_X8_67 mo_X8_finding ⟨Nat.le_of_ble_eq_true rfl, Nat.le_of_ble_eq_true rfl⟩ rfl ⟨_, _, rfl⟩ (Nat.le_of_ble_eq_true rfl) rfl rfl (Nat.le_of_ble_eq_true rfl) (v_X8_finding (w := 0) (by decide) (f := -1000001) (by decide +kernel) _) rfl ?_
    exact V.ret dX8_rule_26 rfl rfl ⟨(by first | (simp (decide := true) [cRule, c6]; done) | (simp (decide := true) [cRule, c6]; done) | (simp (decide := true) [cRule, c6]; done) | (simp_all (decide := true) [cRule]; done) | (simp_all (decide := true) [cRule, ltF, leF, ltFN, leFN]; done)), (by first | (simp (decide := true) [cRule, c6]; done) | (simp (decide := true) [cRule, c6]; done) | (simp (decide := true) [cRule, c6]; done) | (simp_all (decide := true) [cRule]; done) | (simp_all (decide := true) [cRule, ltF, leF, ltFN, leFN]; done))⟩
  · skip
    refine V.iload_n dX8_rule_9 rfl rfl rfl ?_
    refine V.iconst (v := 0) dX8_rule_10 rfl rfl ?_
    refine V.iload_n dX8_rule_11 rfl rfl rfl ?_
    refine V.calls_i (M1 := M) (v := mostF w) (md' := m_X8_mostOfRule) (As := [.int w]) (rest := [.int 0, .int v]) dX8_rule_12 ml_X8_152 mo_X8_mostOfRule ⟨Nat.le_of_ble_eq_true rfl, Nat.le_of_ble_eq_true rfl⟩ (Nat.le_of_ble_eq_true rfl) rfl rfl (Nat.le_of_ble_eq_true rfl) (v_X8_mostOfRule w _) rfl ?_
    refine V.calls_i (M1 := M) (v := if rng 0 (mostF w).toInt v then 1 else 0) (md' := m_X8_within) (As := [.int v, .int 0, .int (mostF w)]) (rest := []) dX8_rule_15 ml_X8_63 mo_X8_within ⟨Nat.le_of_ble_eq_true rfl, Nat.le_of_ble_eq_true rfl⟩ (Nat.le_of_ble_eq_true rfl) rfl rfl (Nat.le_of_ble_eq_true rfl) (v_X8_within (x := v) (a := 0) (b := (mostF w).toInt) rfl rfl _) rfl ?_
    refine V.ifb_ne (tgt := 27) dX8_rule_18 rfl rfl (fun c18 => ?_) (fun c18 => ?_)
    · skip
      refine V.aload_n dX8_rule_27 rfl rfl rfl ?_
      refine V.getr dX8_rule_28 fg_X8_10 rfl rfl rfl ?_
      refine V.iload_n dX8_rule_31 rfl rfl rfl ?_
      refine V.callv_i (M1 := M) (v := ruledF 1 w M) (md' := m_X2_ruled) (As := [.int w]) (rest := []) dX8_rule_32 ml_X8_155 mo_X2_ruled ⟨Nat.le_of_ble_eq_true rfl, Nat.le_of_ble_eq_true rfl⟩ rfl ⟨_, _, rfl⟩ (Nat.le_of_ble_eq_true rfl) rfl rfl (Nat.le_of_ble_eq_true rfl) (v_X2_ruled isE1 w _) rfl ?_
      refine V.ist_n dX8_rule_35 rfl (by decide) (L' := [(0, .ref 0), (1, .int w), (2, .int v), (3, .int (ruledF 1 w M))]) rfl rfl ?_
      refine V.aload_n dX8_rule_36 rfl rfl rfl ?_
      refine V.getr dX8_rule_37 fg_X8_10 rfl rfl rfl ?_
      refine V.iload_n dX8_rule_40 rfl rfl rfl ?_
      refine V.iload_n dX8_rule_41 rfl rfl rfl ?_
      refine V.callv_v (M1 := setRuleM 1 w v M) (md' := m_X2_setRule) (As := [.int w, .int v]) (rest := []) dX8_rule_42 ml_X8_158 mo_X2_setRule ⟨Nat.le_of_ble_eq_true rfl, Nat.le_of_ble_eq_true rfl⟩ rfl ⟨_, _, rfl⟩ (Nat.le_of_ble_eq_true rfl) rfl rfl (Nat.le_of_ble_eq_true rfl) (v_X2_setRule isE1 w v _) rfl ?_
      refine V.iload_n dX8_rule_45 rfl rfl rfl ?_
      exact V.ret dX8_rule_46 rfl rfl ⟨(by first | (simp (decide := true) [cRule, c6, c18]; done) | (simp (decide := true) [cRule, c6, c18]; done) | (simp (decide := true) [cRule, c6, c18]; done) | (simp_all (decide := true) [cRule]; done) | (simp_all (decide := true) [cRule, ltF, leF, ltFN, leFN]; done)), (by first | (simp (decide := true) [cRule, c6, c18]; done) | (simp (decide := true) [cRule, c6, c18]; done) | (simp (decide := true) [cRule, c6, c18]; done) | (simp_all (decide := true) [cRule]; done) | (simp_all (decide := true) [cRule, ltF, leF, ltFN, leFN]; done))⟩
    · skip
      refine V.aload_n dX8_rule_21 rfl rfl rfl ?_
      refine V.iconst (v := 0) dX8_rule_22 rfl rfl ?_
      refine V.callv_i (M1 := cfd 0 M) (v := -1000001) (md' := m_X8_finding) (As := [.int 0]) (rest := []) dX8_rule_23 ml_X8_67 mo_X8_finding ⟨Nat.le_of_ble_eq_true rfl, Nat.le_of_ble_eq_true rfl⟩ rfl ⟨_, _, rfl⟩ (Nat.le_of_ble_eq_true rfl) rfl rfl (Nat.le_of_ble_eq_true rfl) (v_X8_finding (w := 0) (by decide) (f := -1000001) (by decide +kernel) _) rfl ?_
      exact V.ret dX8_rule_26 rfl rfl ⟨(by first | (simp (decide := true) [cRule, c6, c18]; done) | (simp (decide := true) [cRule, c6, c18]; done) | (simp (decide := true) [cRule, c6, c18]; done) | (simp_all (decide := true) [cRule]; done) | (simp_all (decide := true) [cRule, ltF, leF, ltFN, leFN]; done)), (by first | (simp (decide := true) [cRule, c6, c18]; done) | (simp (decide := true) [cRule, c6, c18]; done) | (simp (decide := true) [cRule, c6, c18]; done) | (simp_all (decide := true) [cRule]; done) | (simp_all (decide := true) [cRule, ltF, leF, ltFN, leFN]; done))⟩
def cWalk (c : Nat) (t : Int32) (M : Mem) : Int32 × Mem := if ¬ rng 0 3 t then (-1000001, cfd 0 M) else if 0 < M 1 10 then (-1000005, cfd 4 M) else (setOutM 1 t M 1 10, setOutM 1 t M)
theorem v_X8_walk {c : Nat} (hc : c ≤ 10) (t : Int32) (M : Mem) (hM : M 2 5 = nI c) : V m_X8_walk 0 [(0, .ref 0), (1, .int t)] [] M (RT (some (.int ((cWalk c t M).1))) ((cWalk c t M).2)) := by
  refine V.iload_n dX8_walk_0 rfl rfl rfl ?_
  refine V.calls_i (M1 := M) (v := if rng 0 3 t then 1 else 0) (md' := m_X8_isCorner) (As := [.int t]) (rest := []) dX8_walk_1 ml_X8_162 mo_X8_isCorner ⟨Nat.le_of_ble_eq_true rfl, Nat.le_of_ble_eq_true rfl⟩ (Nat.le_of_ble_eq_true rfl) rfl rfl (Nat.le_of_ble_eq_true rfl) (v_X8_isCorner t _) rfl ?_
  refine V.ifb_ne (tgt := 13) dX8_walk_4 rfl rfl (fun c4 => ?_) (fun c4 => ?_)
  · skip
    refine V.aload_n dX8_walk_13 rfl rfl rfl ?_
    refine V.getr dX8_walk_14 fg_X8_10 rfl rfl rfl ?_
    refine V.geti (v := M 1 10) dX8_walk_17 fg_X8_165 rfl rfl rfl rfl ?_
    refine V.if_le (tgt := 29) dX8_walk_20 rfl rfl (fun c20 => ?_) (fun c20 => ?_)
    · have d20 := Int32.not_lt.mpr c20
      refine V.aload_n dX8_walk_29 rfl rfl rfl ?_
      refine V.getr dX8_walk_30 fg_X8_10 rfl rfl rfl ?_
      refine V.iload_n dX8_walk_33 rfl rfl rfl ?_
      refine V.callv_v (M1 := setOutM 1 t M) (md' := m_X2_setOut) (As := [.int t]) (rest := []) dX8_walk_34 ml_X8_168 mo_X2_setOut ⟨Nat.le_of_ble_eq_true rfl, Nat.le_of_ble_eq_true rfl⟩ rfl ⟨_, _, rfl⟩ (Nat.le_of_ble_eq_true rfl) rfl rfl (Nat.le_of_ble_eq_true rfl) (v_X2_setOut isE1 t _) rfl ?_
      refine V.aload_n dX8_walk_37 rfl rfl rfl ?_
      refine V.getr dX8_walk_38 fg_X8_10 rfl rfl rfl ?_
      refine V.geti (v := (setOutM 1 t M) 1 10) dX8_walk_41 fg_X8_165 rfl rfl rfl rfl ?_
      exact V.ret dX8_walk_44 rfl rfl ⟨(by first | (simp (decide := true) [cWalk, c4, c20, d20]; done) | (simp (decide := true) [cWalk, c4, c20, c20]; done) | (simp (decide := true) [cWalk, c4, c20, d20, c20]; done) | (simp_all (decide := true) [cWalk]; done) | (simp_all (decide := true) [cWalk, ltF, leF, ltFN, leFN]; done)), (by first | (simp (decide := true) [cWalk, c4, c20, d20]; done) | (simp (decide := true) [cWalk, c4, c20, c20]; done) | (simp (decide := true) [cWalk, c4, c20, d20, c20]; done) | (simp_all (decide := true) [cWalk]; done) | (simp_all (decide := true) [cWalk, ltF, leF, ltFN, leFN]; done))⟩
    · have d20 := Int32.not_le.mp c20
      refine V.aload_n dX8_walk_23 rfl rfl rfl ?_
      refine V.iconst (v := 4) dX8_walk_24 rfl rfl ?_
      refine V.callv_i (M1 := cfd 4 M) (v := -1000005) (md' := m_X8_finding) (As := [.int 4]) (rest := []) dX8_walk_25 ml_X8_67 mo_X8_finding ⟨Nat.le_of_ble_eq_true rfl, Nat.le_of_ble_eq_true rfl⟩ rfl ⟨_, _, rfl⟩ (Nat.le_of_ble_eq_true rfl) rfl rfl (Nat.le_of_ble_eq_true rfl) (v_X8_finding (w := 4) (by decide) (f := -1000005) (by decide +kernel) _) rfl ?_
      exact V.ret dX8_walk_28 rfl rfl ⟨(by first | (simp (decide := true) [cWalk, c4, c20, d20]; done) | (simp (decide := true) [cWalk, c4, c20, c20]; done) | (simp (decide := true) [cWalk, c4, c20, d20, c20]; done) | (simp_all (decide := true) [cWalk]; done) | (simp_all (decide := true) [cWalk, ltF, leF, ltFN, leFN]; done)), (by first | (simp (decide := true) [cWalk, c4, c20, d20]; done) | (simp (decide := true) [cWalk, c4, c20, c20]; done) | (simp (decide := true) [cWalk, c4, c20, d20, c20]; done) | (simp_all (decide := true) [cWalk]; done) | (simp_all (decide := true) [cWalk, ltF, leF, ltFN, leFN]; done))⟩
  · skip
    refine V.aload_n dX8_walk_7 rfl rfl rfl ?_
    refine V.iconst (v := 0) dX8_walk_8 rfl rfl ?_
    refine V.callv_i (M1 := cfd 0 M) (v := -1000001) (md' := m_X8_finding) (As := [.int 0]) (rest := []) dX8_walk_9 ml_X8_67 mo_X8_finding ⟨Nat.le_of_ble_eq_true rfl, Nat.le_of_ble_eq_true rfl⟩ rfl ⟨_, _, rfl⟩ (Nat.le_of_ble_eq_true rfl) rfl rfl (Nat.le_of_ble_eq_true rfl) (v_X8_finding (w := 0) (by decide) (f := -1000001) (by decide +kernel) _) rfl ?_
    exact V.ret dX8_walk_12 rfl rfl ⟨(by first | (simp (decide := true) [cWalk, c4]; done) | (simp (decide := true) [cWalk, c4]; done) | (simp (decide := true) [cWalk, c4]; done) | (simp_all (decide := true) [cWalk]; done) | (simp_all (decide := true) [cWalk, ltF, leF, ltFN, leFN]; done)), (by first | (simp (decide := true) [cWalk, c4]; done) | (simp (decide := true) [cWalk, c4]; done) | (simp (decide := true) [cWalk, c4]; done) | (simp_all (decide := true) [cWalk]; done) | (simp_all (decide := true) [cWalk, ltF, leF, ltFN, leFN]; done))⟩
def cCrowd (c cc : Nat) (co mi ma : Int32) (M : Mem) : Int32 × Mem := if ¬ (rng 0 3 co ∧ rng 0 999 mi ∧ rng 0 400 ma) then (-1000001, cfd 0 M) else if 12 ≤ cc then (-1000002, cfd 1 M) else (nI cc, cAddM 1 cc co mi ma M)
theorem v_X8_crowd {c : Nat} (hc : c ≤ 10) {cc : Nat} (hcc : cc ≤ 12) (co mi ma : Int32) (M : Mem) (hM : M 2 5 = nI c) (h2 : M 8 3 = nI cc) : V m_X8_crowd 0 [(0, .ref 0), (1, .int co), (2, .int mi), (3, .int ma)] [] M (RT (some (.int ((cCrowd c cc co mi ma M).1))) ((cCrowd c cc co mi ma M).2)) := by
  refine V.iload_n dX8_crowd_0 rfl rfl rfl ?_
  refine V.calls_i (M1 := M) (v := if rng 0 3 co then 1 else 0) (md' := m_X8_isCorner) (As := [.int co]) (rest := []) dX8_crowd_1 ml_X8_162 mo_X8_isCorner ⟨Nat.le_of_ble_eq_true rfl, Nat.le_of_ble_eq_true rfl⟩ (Nat.le_of_ble_eq_true rfl) rfl rfl (Nat.le_of_ble_eq_true rfl) (v_X8_isCorner co _) rfl ?_
  refine V.ifb_eq (tgt := 29) dX8_crowd_4 rfl rfl (fun c4 => ?_) (fun c4 => ?_)
  · skip
    refine V.aload_n dX8_crowd_29 rfl rfl rfl ?_
    refine V.iconst (v := 0) dX8_crowd_30 rfl rfl ?_
    refine V.callv_i (M1 := cfd 0 M) (v := -1000001) (md' := m_X8_finding) (As := [.int 0]) (rest := []) dX8_crowd_31 ml_X8_67 mo_X8_finding ⟨Nat.le_of_ble_eq_true rfl, Nat.le_of_ble_eq_true rfl⟩ rfl ⟨_, _, rfl⟩ (Nat.le_of_ble_eq_true rfl) rfl rfl (Nat.le_of_ble_eq_true rfl) (v_X8_finding (w := 0) (by decide) (f := -1000001) (by decide +kernel) _) rfl ?_
    exact V.ret dX8_crowd_34 rfl rfl ⟨(by first | (simp (decide := true) [cCrowd, c4]; done) | (simp (decide := true) [cCrowd, c4]; done) | (simp (decide := true) [cCrowd, c4]; done) | (simp_all (decide := true) [cCrowd]; done) | (simp_all (decide := true) [cCrowd, ltF, leF, ltFN, leFN]; done)), (by first | (simp (decide := true) [cCrowd, c4]; done) | (simp (decide := true) [cCrowd, c4]; done) | (simp (decide := true) [cCrowd, c4]; done) | (simp_all (decide := true) [cCrowd]; done) | (simp_all (decide := true) [cCrowd, ltF, leF, ltFN, leFN]; done))⟩
  · skip
    refine V.iload_n dX8_crowd_7 rfl rfl rfl ?_
    refine V.iconst (v := 0) dX8_crowd_8 rfl rfl ?_
    refine V.sipush (v := 999) dX8_crowd_9 (by decide) rfl ?_
    refine V.calls_i (M1 := M) (v := if rng 0 999 mi then 1 else 0) (md' := m_X8_within) (As := [.int mi, .int 0, .int 999]) (rest := []) dX8_crowd_12 ml_X8_63 mo_X8_within ⟨Nat.le_of_ble_eq_true rfl, Nat.le_of_ble_eq_true rfl⟩ (Nat.le_of_ble_eq_true rfl) rfl rfl (Nat.le_of_ble_eq_true rfl) (v_X8_within (x := mi) (a := 0) (b := 999) rfl rfl _) rfl ?_
    refine V.ifb_eq (tgt := 29) dX8_crowd_15 rfl rfl (fun c15 => ?_) (fun c15 => ?_)
    · skip
      refine V.aload_n dX8_crowd_29 rfl rfl rfl ?_
      refine V.iconst (v := 0) dX8_crowd_30 rfl rfl ?_
      refine V.callv_i (M1 := cfd 0 M) (v := -1000001) (md' := m_X8_finding) (As := [.int 0]) (rest := []) dX8_crowd_31 ml_X8_67 mo_X8_finding ⟨Nat.le_of_ble_eq_true rfl, Nat.le_of_ble_eq_true rfl⟩ rfl ⟨_, _, rfl⟩ (Nat.le_of_ble_eq_true rfl) rfl rfl (Nat.le_of_ble_eq_true rfl) (v_X8_finding (w := 0) (by decide) (f := -1000001) (by decide +kernel) _) rfl ?_
      exact V.ret dX8_crowd_34 rfl rfl ⟨(by first | (simp (decide := true) [cCrowd, c4, c15]; done) | (simp (decide := true) [cCrowd, c4, c15]; done) | (simp (decide := true) [cCrowd, c4, c15]; done) | (simp_all (decide := true) [cCrowd]; done) | (simp_all (decide := true) [cCrowd, ltF, leF, ltFN, leFN]; done)), (by first | (simp (decide := true) [cCrowd, c4, c15]; done) | (simp (decide := true) [cCrowd, c4, c15]; done) | (simp (decide := true) [cCrowd, c4, c15]; done) | (simp_all (decide := true) [cCrowd]; done) | (simp_all (decide := true) [cCrowd, ltF, leF, ltFN, leFN]; done))⟩
    · skip
      refine V.iload_n dX8_crowd_18 rfl rfl rfl ?_
      refine V.iconst (v := 0) dX8_crowd_19 rfl rfl ?_
      refine V.sipush (v := 400) dX8_crowd_20 (by decide) rfl ?_
      refine V.calls_i (M1 := M) (v := if rng 0 400 ma then 1 else 0) (md' := m_X8_within) (As := [.int ma, .int 0, .int 400]) (rest := []) dX8_crowd_23 ml_X8_63 mo_X8_within ⟨Nat.le_of_ble_eq_true rfl, Nat.le_of_ble_eq_true rfl⟩ (Nat.le_of_ble_eq_true rfl) rfl rfl (Nat.le_of_ble_eq_true rfl) (v_X8_within (x := ma) (a := 0) (b := 400) rfl rfl _) rfl ?_
      refine V.ifb_ne (tgt := 35) dX8_crowd_26 rfl rfl (fun c26 => ?_) (fun c26 => ?_)
      · skip
        refine V.aload_n dX8_crowd_35 rfl rfl rfl ?_
        refine V.getr dX8_crowd_36 fg_X8_10 rfl rfl rfl ?_
        refine V.getr dX8_crowd_39 fg_X8_171 rfl rfl rfl ?_
        refine V.callv_i (M1 := M) (v := if 12 ≤ cc then 1 else 0) (md' := m_X1_isFull) (As := []) (rest := []) dX8_crowd_42 ml_X8_175 mo_X1_isFull ⟨Nat.le_of_ble_eq_true rfl, Nat.le_of_ble_eq_true rfl⟩ rfl ⟨_, _, rfl⟩ (Nat.le_of_ble_eq_true rfl) rfl rfl (Nat.le_of_ble_eq_true rfl) (v_X1_isFull isE1 hcc M h2) rfl ?_
        refine V.ifb_eq (tgt := 54) dX8_crowd_45 rfl rfl (fun c45 => ?_) (fun c45 => ?_)
        · skip
          refine V.aload_n dX8_crowd_54 rfl rfl rfl ?_
          refine V.getr dX8_crowd_55 fg_X8_10 rfl rfl rfl ?_
          refine V.getr dX8_crowd_58 fg_X8_171 rfl rfl rfl ?_
          refine V.iload_n dX8_crowd_61 rfl rfl rfl ?_
          refine V.iload_n dX8_crowd_62 rfl rfl rfl ?_
          refine V.iload_n dX8_crowd_63 rfl rfl rfl ?_
          refine V.callv_i (M1 := cAddM 1 cc co mi ma M) (v := nI cc) (md' := m_X1_add) (As := [.int co, .int mi, .int ma]) (rest := []) dX8_crowd_64 ml_X8_178 mo_X1_add ⟨Nat.le_of_ble_eq_true rfl, Nat.le_of_ble_eq_true rfl⟩ rfl ⟨_, _, rfl⟩ (Nat.le_of_ble_eq_true rfl) rfl rfl (Nat.le_of_ble_eq_true rfl) (v_X1_add isE1 (c := cc) (by omega) co mi ma M h2) rfl ?_
          exact V.ret dX8_crowd_67 rfl rfl ⟨(by first | (simp (decide := true) [cCrowd, c4, c15, c26, c45]; done) | (simp (decide := true) [cCrowd, c4, c15, c26, c45]; done) | (simp (decide := true) [cCrowd, c4, c15, c26, c45]; done) | (simp_all (decide := true) [cCrowd]; done) | (simp_all (decide := true) [cCrowd, ltF, leF, ltFN, leFN]; done)), (by first | (simp (decide := true) [cCrowd, c4, c15, c26, c45]; done) | (simp (decide := true) [cCrowd, c4, c15, c26, c45]; done) | (simp (decide := true) [cCrowd, c4, c15, c26, c45]; done) | (simp_all (decide := true) [cCrowd]; done) | (simp_all (decide := true) [cCrowd, ltF, leF, ltFN, leFN]; done))⟩
        · skip
          refine V.aload_n dX8_crowd_48 rfl rfl rfl ?_
          refine V.iconst (v := 1) dX8_crowd_49 rfl rfl ?_
          refine V.callv_i (M1 := cfd 1 M) (v := -1000002) (md' := m_X8_finding) (As := [.int 1]) (rest := []) dX8_crowd_50 ml_X8_67 mo_X8_finding ⟨Nat.le_of_ble_eq_true rfl, Nat.le_of_ble_eq_true rfl⟩ rfl ⟨_, _, rfl⟩ (Nat.le_of_ble_eq_true rfl) rfl rfl (Nat.le_of_ble_eq_true rfl) (v_X8_finding (w := 1) (by decide) (f := -1000002) (by decide +kernel) _) rfl ?_
          exact V.ret dX8_crowd_53 rfl rfl ⟨(by first | (simp (decide := true) [cCrowd, c4, c15, c26, c45]; done) | (simp (decide := true) [cCrowd, c4, c15, c26, c45]; done) | (simp (decide := true) [cCrowd, c4, c15, c26, c45]; done) | (simp_all (decide := true) [cCrowd]; done) | (simp_all (decide := true) [cCrowd, ltF, leF, ltFN, leFN]; done)), (by first | (simp (decide := true) [cCrowd, c4, c15, c26, c45]; done) | (simp (decide := true) [cCrowd, c4, c15, c26, c45]; done) | (simp (decide := true) [cCrowd, c4, c15, c26, c45]; done) | (simp_all (decide := true) [cCrowd]; done) | (simp_all (decide := true) [cCrowd, ltF, leF, ltFN, leFN]; done))⟩
      · skip
        refine V.aload_n dX8_crowd_29 rfl rfl rfl ?_
        refine V.iconst (v := 0) dX8_crowd_30 rfl rfl ?_
        refine V.callv_i (M1 := cfd 0 M) (v := -1000001) (md' := m_X8_finding) (As := [.int 0]) (rest := []) dX8_crowd_31 ml_X8_67 mo_X8_finding ⟨Nat.le_of_ble_eq_true rfl, Nat.le_of_ble_eq_true rfl⟩ rfl ⟨_, _, rfl⟩ (Nat.le_of_ble_eq_true rfl) rfl rfl (Nat.le_of_ble_eq_true rfl) (v_X8_finding (w := 0) (by decide) (f := -1000001) (by decide +kernel) _) rfl ?_
        exact V.ret dX8_crowd_34 rfl rfl ⟨(by first | (simp (decide := true) [cCrowd, c4, c15, c26]; done) | (simp (decide := true) [cCrowd, c4, c15, c26]; done) | (simp (decide := true) [cCrowd, c4, c15, c26]; done) | (simp_all (decide := true) [cCrowd]; done) | (simp_all (decide := true) [cCrowd, ltF, leF, ltFN, leFN]; done)), (by first | (simp (decide := true) [cCrowd, c4, c15, c26]; done) | (simp (decide := true) [cCrowd, c4, c15, c26]; done) | (simp (decide := true) [cCrowd, c4, c15, c26]; done) | (simp_all (decide := true) [cCrowd]; done) | (simp_all (decide := true) [cCrowd, ltF, leF, ltFN, leFN]; done))⟩
def cCrowdOf (c cc : Nat) (x w : Int32) (M : Mem) : Int32 × Mem := if ¬ isB cc x then (-1000001, cfd 0 M) else if w = 0 then (M 9 x.toNatClampNeg, M) else if w = 1 then (M 10 x.toNatClampNeg, M) else if w = 2 then (M 11 x.toNatClampNeg, M) else if w = 3 then (comeF (M 11 x.toNatClampNeg) (M 1 6) (M 1 5), M) else (-1000001, cfd 0 M)
theorem v_X8_crowdOf {c : Nat} (hc : c ≤ 10) {cc : Nat} (hcc : cc ≤ 12) (x w : Int32) (M : Mem) (hM : M 2 5 = nI c) (h2 : M 8 3 = nI cc) : V m_X8_crowdOf 0 [(0, .ref 0), (1, .int x), (2, .int w)] [] M (RT (some (.int ((cCrowdOf c cc x w M).1))) ((cCrowdOf c cc x w M).2)) := by
  refine V.aload_n dX8_crowdOf_0 rfl rfl rfl ?_
  refine V.iload_n dX8_crowdOf_1 rfl rfl rfl ?_
  refine V.callv_i (M1 := M) (v := if isB cc x then 1 else 0) (md' := m_X8_isCrowd) (As := [.int x]) (rest := []) dX8_crowdOf_2 ml_X8_181 mo_X8_isCrowd ⟨Nat.le_of_ble_eq_true rfl, Nat.le_of_ble_eq_true rfl⟩ rfl ⟨_, _, rfl⟩ (Nat.le_of_ble_eq_true rfl) rfl rfl (Nat.le_of_ble_eq_true rfl) (v_X8_isCrowd hcc x M h2) rfl ?_
  refine V.ifb_ne (tgt := 14) dX8_crowdOf_5 rfl rfl (fun c5 => ?_) (fun c5 => ?_)
  · skip
    obtain ⟨b, hb, rfl⟩ := of_isB c5
    · have eb : (nI b).toNatClampNeg = b := nI_clamp (by omega)
      refine V.iload_n dX8_crowdOf_14 rfl rfl rfl ?_
      by_cases s15_0 : w = 0
      · refine V.tabIn (pc' := 44) dX8_crowdOf_15 (by rw [s15_0]; decide) (by rw [s15_0]; decide) (by rw [s15_0]; rfl) rfl ?_
        refine V.aload_n dX8_crowdOf_44 rfl rfl rfl ?_
        refine V.getr dX8_crowdOf_45 fg_X8_10 rfl rfl rfl ?_
        refine V.getr dX8_crowdOf_48 fg_X8_171 rfl rfl rfl ?_
        refine V.getr dX8_crowdOf_51 fg_X8_184 rfl rfl rfl ?_
        refine V.iload_n dX8_crowdOf_54 rfl rfl rfl ?_
        refine V.ialdN (j := b) (v := M 9 b) dX8_crowdOf_55 rfl (by omega) (by decide) rfl rfl rfl ?_
        exact V.ret dX8_crowdOf_56 rfl rfl ⟨(by first | (simp (decide := true) [cCrowdOf, c5, eb, s15_0]; done) | (simp (decide := true) [cCrowdOf, c5, eb, s15_0]; done) | (simp (decide := true) [cCrowdOf, c5, eb, s15_0]; done) | (simp_all (decide := true) [cCrowdOf]; done) | (simp_all (decide := true) [cCrowdOf, ltF, leF, ltFN, leFN]; done)), (by first | (simp (decide := true) [cCrowdOf, c5, eb, s15_0]; done) | (simp (decide := true) [cCrowdOf, c5, eb, s15_0]; done) | (simp (decide := true) [cCrowdOf, c5, eb, s15_0]; done) | (simp_all (decide := true) [cCrowdOf]; done) | (simp_all (decide := true) [cCrowdOf, ltF, leF, ltFN, leFN]; done))⟩
      by_cases s15_1 : w = 1
      · refine V.tabIn (pc' := 57) dX8_crowdOf_15 (by rw [s15_1]; decide) (by rw [s15_1]; decide) (by rw [s15_1]; rfl) rfl ?_
        refine V.aload_n dX8_crowdOf_57 rfl rfl rfl ?_
        refine V.getr dX8_crowdOf_58 fg_X8_10 rfl rfl rfl ?_
        refine V.getr dX8_crowdOf_61 fg_X8_171 rfl rfl rfl ?_
        refine V.getr dX8_crowdOf_64 fg_X8_187 rfl rfl rfl ?_
        refine V.iload_n dX8_crowdOf_67 rfl rfl rfl ?_
        refine V.ialdN (j := b) (v := M 10 b) dX8_crowdOf_68 rfl (by omega) (by decide) rfl rfl rfl ?_
        exact V.ret dX8_crowdOf_69 rfl rfl ⟨(by first | (simp (decide := true) [cCrowdOf, c5, eb, s15_1]; done) | (simp (decide := true) [cCrowdOf, c5, eb, s15_1]; done) | (simp (decide := true) [cCrowdOf, c5, eb, s15_1]; done) | (simp_all (decide := true) [cCrowdOf]; done) | (simp_all (decide := true) [cCrowdOf, ltF, leF, ltFN, leFN]; done)), (by first | (simp (decide := true) [cCrowdOf, c5, eb, s15_1]; done) | (simp (decide := true) [cCrowdOf, c5, eb, s15_1]; done) | (simp (decide := true) [cCrowdOf, c5, eb, s15_1]; done) | (simp_all (decide := true) [cCrowdOf]; done) | (simp_all (decide := true) [cCrowdOf, ltF, leF, ltFN, leFN]; done))⟩
      by_cases s15_2 : w = 2
      · refine V.tabIn (pc' := 70) dX8_crowdOf_15 (by rw [s15_2]; decide) (by rw [s15_2]; decide) (by rw [s15_2]; rfl) rfl ?_
        refine V.aload_n dX8_crowdOf_70 rfl rfl rfl ?_
        refine V.getr dX8_crowdOf_71 fg_X8_10 rfl rfl rfl ?_
        refine V.getr dX8_crowdOf_74 fg_X8_171 rfl rfl rfl ?_
        refine V.getr dX8_crowdOf_77 fg_X8_190 rfl rfl rfl ?_
        refine V.iload_n dX8_crowdOf_80 rfl rfl rfl ?_
        refine V.ialdN (j := b) (v := M 11 b) dX8_crowdOf_81 rfl (by omega) (by decide) rfl rfl rfl ?_
        exact V.ret dX8_crowdOf_82 rfl rfl ⟨(by first | (simp (decide := true) [cCrowdOf, c5, eb, s15_2]; done) | (simp (decide := true) [cCrowdOf, c5, eb, s15_2]; done) | (simp (decide := true) [cCrowdOf, c5, eb, s15_2]; done) | (simp_all (decide := true) [cCrowdOf]; done) | (simp_all (decide := true) [cCrowdOf, ltF, leF, ltFN, leFN]; done)), (by first | (simp (decide := true) [cCrowdOf, c5, eb, s15_2]; done) | (simp (decide := true) [cCrowdOf, c5, eb, s15_2]; done) | (simp (decide := true) [cCrowdOf, c5, eb, s15_2]; done) | (simp_all (decide := true) [cCrowdOf]; done) | (simp_all (decide := true) [cCrowdOf, ltF, leF, ltFN, leFN]; done))⟩
      by_cases s15_3 : w = 3
      · refine V.tabIn (pc' := 83) dX8_crowdOf_15 (by rw [s15_3]; decide) (by rw [s15_3]; decide) (by rw [s15_3]; rfl) rfl ?_
        refine V.aload_n dX8_crowdOf_83 rfl rfl rfl ?_
        refine V.getr dX8_crowdOf_84 fg_X8_10 rfl rfl rfl ?_
        refine V.iload_n dX8_crowdOf_87 rfl rfl rfl ?_
        refine V.callv_i (M1 := M) (v := comeF (M 11 b) (M 1 6) (M 1 5)) (md' := m_X2_coming) (As := [.int (nI b)]) (rest := []) dX8_crowdOf_88 ml_X8_193 mo_X2_coming ⟨Nat.le_of_ble_eq_true rfl, Nat.le_of_ble_eq_true rfl⟩ rfl ⟨_, _, rfl⟩ (Nat.le_of_ble_eq_true rfl) rfl rfl (Nat.le_of_ble_eq_true rfl) (v_X2_coming isE1 (b := b) (by omega) _) rfl ?_
        exact V.ret dX8_crowdOf_91 rfl rfl ⟨(by first | (simp (decide := true) [cCrowdOf, c5, eb, s15_3]; done) | (simp (decide := true) [cCrowdOf, c5, eb, s15_3]; done) | (simp (decide := true) [cCrowdOf, c5, eb, s15_3]; done) | (simp_all (decide := true) [cCrowdOf]; done) | (simp_all (decide := true) [cCrowdOf, ltF, leF, ltFN, leFN]; done)), (by first | (simp (decide := true) [cCrowdOf, c5, eb, s15_3]; done) | (simp (decide := true) [cCrowdOf, c5, eb, s15_3]; done) | (simp (decide := true) [cCrowdOf, c5, eb, s15_3]; done) | (simp_all (decide := true) [cCrowdOf]; done) | (simp_all (decide := true) [cCrowdOf, ltF, leF, ltFN, leFN]; done))⟩
      refine V.tabOut (pc' := 92) dX8_crowdOf_15 (by have q0 := lv_neT (a := 0) s15_0 rfl; have q1 := lv_neT (a := 1) s15_1 rfl; have q2 := lv_neT (a := 2) s15_2 rfl; have q3 := lv_neT (a := 3) s15_3 rfl; omega) rfl ?_
      refine V.aload_n dX8_crowdOf_92 rfl rfl rfl ?_
      refine V.iconst (v := 0) dX8_crowdOf_93 rfl rfl ?_
      refine V.callv_i (M1 := cfd 0 M) (v := -1000001) (md' := m_X8_finding) (As := [.int 0]) (rest := []) dX8_crowdOf_94 ml_X8_67 mo_X8_finding ⟨Nat.le_of_ble_eq_true rfl, Nat.le_of_ble_eq_true rfl⟩ rfl ⟨_, _, rfl⟩ (Nat.le_of_ble_eq_true rfl) rfl rfl (Nat.le_of_ble_eq_true rfl) (v_X8_finding (w := 0) (by decide) (f := -1000001) (by decide +kernel) _) rfl ?_
      exact V.ret dX8_crowdOf_97 rfl rfl ⟨(by first | (simp (decide := true) [cCrowdOf, c5, eb, s15_0, s15_1, s15_2, s15_3]; done) | (simp (decide := true) [cCrowdOf, c5, eb, s15_0, s15_1, s15_2, s15_3]; done) | (simp (decide := true) [cCrowdOf, c5, eb, s15_0, s15_1, s15_2, s15_3]; done) | (simp_all (decide := true) [cCrowdOf]; done) | (simp_all (decide := true) [cCrowdOf, ltF, leF, ltFN, leFN]; done)), (by first | (simp (decide := true) [cCrowdOf, c5, eb, s15_0, s15_1, s15_2, s15_3]; done) | (simp (decide := true) [cCrowdOf, c5, eb, s15_0, s15_1, s15_2, s15_3]; done) | (simp (decide := true) [cCrowdOf, c5, eb, s15_0, s15_1, s15_2, s15_3]; done) | (simp_all (decide := true) [cCrowdOf]; done) | (simp_all (decide := true) [cCrowdOf, ltF, leF, ltFN, leFN]; done))⟩
  · skip
    refine V.aload_n dX8_crowdOf_8 rfl rfl rfl ?_
    refine V.iconst (v := 0) dX8_crowdOf_9 rfl rfl ?_
    refine V.callv_i (M1 := cfd 0 M) (v := -1000001) (md' := m_X8_finding) (As := [.int 0]) (rest := []) dX8_crowdOf_10 ml_X8_67 mo_X8_finding ⟨Nat.le_of_ble_eq_true rfl, Nat.le_of_ble_eq_true rfl⟩ rfl ⟨_, _, rfl⟩ (Nat.le_of_ble_eq_true rfl) rfl rfl (Nat.le_of_ble_eq_true rfl) (v_X8_finding (w := 0) (by decide) (f := -1000001) (by decide +kernel) _) rfl ?_
    exact V.ret dX8_crowdOf_13 rfl rfl ⟨(by first | (simp (decide := true) [cCrowdOf, c5]; done) | (simp (decide := true) [cCrowdOf, c5]; done) | (simp (decide := true) [cCrowdOf, c5]; done) | (simp_all (decide := true) [cCrowdOf]; done) | (simp_all (decide := true) [cCrowdOf, ltF, leF, ltFN, leFN]; done)), (by first | (simp (decide := true) [cCrowdOf, c5]; done) | (simp (decide := true) [cCrowdOf, c5]; done) | (simp (decide := true) [cCrowdOf, c5]; done) | (simp_all (decide := true) [cCrowdOf]; done) | (simp_all (decide := true) [cCrowdOf, ltF, leF, ltFN, leFN]; done))⟩
def cLate (c cc : Nat) (x w v : Int32) (M : Mem) : Int32 × Mem := if ¬ isB cc x then (-1000001, cfd 0 M) else if w = 1 then (exA 10 x.toNatClampNeg v 999 M, exM 10 x.toNatClampNeg v 999 M) else if w = 2 then (exA 11 x.toNatClampNeg v 400 M, exM 11 x.toNatClampNeg v 400 M) else (-1000001, cfd 0 M)
theorem v_X8_late {c : Nat} (hc : c ≤ 10) {cc : Nat} (hcc : cc ≤ 12) (x w v : Int32) (M : Mem) (hM : M 2 5 = nI c) (h2 : M 8 3 = nI cc) : V m_X8_late 0 [(0, .ref 0), (1, .int x), (2, .int w), (3, .int v)] [] M (RT (some (.int ((cLate c cc x w v M).1))) ((cLate c cc x w v M).2)) := by
  refine V.aload_n dX8_late_0 rfl rfl rfl ?_
  refine V.iload_n dX8_late_1 rfl rfl rfl ?_
  refine V.callv_i (M1 := M) (v := if isB cc x then 1 else 0) (md' := m_X8_isCrowd) (As := [.int x]) (rest := []) dX8_late_2 ml_X8_181 mo_X8_isCrowd ⟨Nat.le_of_ble_eq_true rfl, Nat.le_of_ble_eq_true rfl⟩ rfl ⟨_, _, rfl⟩ (Nat.le_of_ble_eq_true rfl) rfl rfl (Nat.le_of_ble_eq_true rfl) (v_X8_isCrowd hcc x M h2) rfl ?_
  refine V.ifb_ne (tgt := 14) dX8_late_5 rfl rfl (fun c5 => ?_) (fun c5 => ?_)
  · skip
    obtain ⟨b, hb, rfl⟩ := of_isB c5
    · have eb : (nI b).toNatClampNeg = b := nI_clamp (by omega)
      refine V.iload_n dX8_late_14 rfl rfl rfl ?_
      by_cases s15_1 : w = 1
      · refine V.lookup (off := 25) (pc' := 40) dX8_late_15 (by decide) (by rw [s15_1]; first | done | rfl) rfl ?_
        refine V.aload_n dX8_late_40 rfl rfl rfl ?_
        refine V.aload_n dX8_late_41 rfl rfl rfl ?_
        refine V.getr dX8_late_42 fg_X8_10 rfl rfl rfl ?_
        refine V.getr dX8_late_45 fg_X8_171 rfl rfl rfl ?_
        refine V.getr dX8_late_48 fg_X8_187 rfl rfl rfl ?_
        refine V.iload_n dX8_late_51 rfl rfl rfl ?_
        refine V.iload_n dX8_late_52 rfl rfl rfl ?_
        refine V.sipush (v := 999) dX8_late_53 (by decide) rfl ?_
        refine V.callv_i (M1 := exM 10 b v 999 M) (v := exA 10 b v 999 M) (md' := m_X8_exchange) (As := [.ref 10, .int (nI b), .int v, .int 999]) (rest := []) dX8_late_56 ml_X8_119 mo_X8_exchange ⟨Nat.le_of_ble_eq_true rfl, Nat.le_of_ble_eq_true rfl⟩ rfl ⟨_, _, rfl⟩ (Nat.le_of_ble_eq_true rfl) rfl rfl (Nat.le_of_ble_eq_true rfl) (v_X8_exchange_10 (i := b) (by omega) v (most := 999) rfl _) rfl ?_
        exact V.ret dX8_late_59 rfl rfl ⟨(by first | (simp (decide := true) [cLate, c5, eb, s15_1]; done) | (simp (decide := true) [cLate, c5, eb, s15_1]; done) | (simp (decide := true) [cLate, c5, eb, s15_1]; done) | (simp_all (decide := true) [cLate]; done) | (simp_all (decide := true) [cLate, ltF, leF, ltFN, leFN]; done)), (by first | (simp (decide := true) [cLate, c5, eb, s15_1]; done) | (simp (decide := true) [cLate, c5, eb, s15_1]; done) | (simp (decide := true) [cLate, c5, eb, s15_1]; done) | (simp_all (decide := true) [cLate]; done) | (simp_all (decide := true) [cLate, ltF, leF, ltFN, leFN]; done))⟩
      by_cases s15_2 : w = 2
      · refine V.lookup (off := 45) (pc' := 60) dX8_late_15 (by decide) (by rw [s15_2]; first | done | rfl) rfl ?_
        refine V.aload_n dX8_late_60 rfl rfl rfl ?_
        refine V.aload_n dX8_late_61 rfl rfl rfl ?_
        refine V.getr dX8_late_62 fg_X8_10 rfl rfl rfl ?_
        refine V.getr dX8_late_65 fg_X8_171 rfl rfl rfl ?_
        refine V.getr dX8_late_68 fg_X8_190 rfl rfl rfl ?_
        refine V.iload_n dX8_late_71 rfl rfl rfl ?_
        refine V.iload_n dX8_late_72 rfl rfl rfl ?_
        refine V.sipush (v := 400) dX8_late_73 (by decide) rfl ?_
        refine V.callv_i (M1 := exM 11 b v 400 M) (v := exA 11 b v 400 M) (md' := m_X8_exchange) (As := [.ref 11, .int (nI b), .int v, .int 400]) (rest := []) dX8_late_76 ml_X8_119 mo_X8_exchange ⟨Nat.le_of_ble_eq_true rfl, Nat.le_of_ble_eq_true rfl⟩ rfl ⟨_, _, rfl⟩ (Nat.le_of_ble_eq_true rfl) rfl rfl (Nat.le_of_ble_eq_true rfl) (v_X8_exchange_11 (i := b) (by omega) v (most := 400) rfl _) rfl ?_
        exact V.ret dX8_late_79 rfl rfl ⟨(by first | (simp (decide := true) [cLate, c5, eb, s15_2]; done) | (simp (decide := true) [cLate, c5, eb, s15_2]; done) | (simp (decide := true) [cLate, c5, eb, s15_2]; done) | (simp_all (decide := true) [cLate]; done) | (simp_all (decide := true) [cLate, ltF, leF, ltFN, leFN]; done)), (by first | (simp (decide := true) [cLate, c5, eb, s15_2]; done) | (simp (decide := true) [cLate, c5, eb, s15_2]; done) | (simp (decide := true) [cLate, c5, eb, s15_2]; done) | (simp_all (decide := true) [cLate]; done) | (simp_all (decide := true) [cLate, ltF, leF, ltFN, leFN]; done))⟩
      refine V.lookup (off := 65) (pc' := 80) dX8_late_15 (by decide) (by show Op.lookupswitch.offset [(1, 25), (2, 45)] 65 _ = _; rw [lv_osw (a := 1) s15_1 rfl, lv_osw (a := 2) s15_2 rfl]; rfl) rfl ?_
      refine V.aload_n dX8_late_80 rfl rfl rfl ?_
      refine V.iconst (v := 0) dX8_late_81 rfl rfl ?_
      refine V.callv_i (M1 := cfd 0 M) (v := -1000001) (md' := m_X8_finding) (As := [.int 0]) (rest := []) dX8_late_82 ml_X8_67 mo_X8_finding ⟨Nat.le_of_ble_eq_true rfl, Nat.le_of_ble_eq_true rfl⟩ rfl ⟨_, _, rfl⟩ (Nat.le_of_ble_eq_true rfl) rfl rfl (Nat.le_of_ble_eq_true rfl) (v_X8_finding (w := 0) (by decide) (f := -1000001) (by decide +kernel) _) rfl ?_
      exact V.ret dX8_late_85 rfl rfl ⟨(by first | (simp (decide := true) [cLate, c5, eb, s15_1, s15_2]; done) | (simp (decide := true) [cLate, c5, eb, s15_1, s15_2]; done) | (simp (decide := true) [cLate, c5, eb, s15_1, s15_2]; done) | (simp_all (decide := true) [cLate]; done) | (simp_all (decide := true) [cLate, ltF, leF, ltFN, leFN]; done)), (by first | (simp (decide := true) [cLate, c5, eb, s15_1, s15_2]; done) | (simp (decide := true) [cLate, c5, eb, s15_1, s15_2]; done) | (simp (decide := true) [cLate, c5, eb, s15_1, s15_2]; done) | (simp_all (decide := true) [cLate]; done) | (simp_all (decide := true) [cLate, ltF, leF, ltFN, leFN]; done))⟩
  · skip
    refine V.aload_n dX8_late_8 rfl rfl rfl ?_
    refine V.iconst (v := 0) dX8_late_9 rfl rfl ?_
    refine V.callv_i (M1 := cfd 0 M) (v := -1000001) (md' := m_X8_finding) (As := [.int 0]) (rest := []) dX8_late_10 ml_X8_67 mo_X8_finding ⟨Nat.le_of_ble_eq_true rfl, Nat.le_of_ble_eq_true rfl⟩ rfl ⟨_, _, rfl⟩ (Nat.le_of_ble_eq_true rfl) rfl rfl (Nat.le_of_ble_eq_true rfl) (v_X8_finding (w := 0) (by decide) (f := -1000001) (by decide +kernel) _) rfl ?_
    exact V.ret dX8_late_13 rfl rfl ⟨(by first | (simp (decide := true) [cLate, c5]; done) | (simp (decide := true) [cLate, c5]; done) | (simp (decide := true) [cLate, c5]; done) | (simp_all (decide := true) [cLate]; done) | (simp_all (decide := true) [cLate, ltF, leF, ltFN, leFN]; done)), (by first | (simp (decide := true) [cLate, c5]; done) | (simp (decide := true) [cLate, c5]; done) | (simp (decide := true) [cLate, c5]; done) | (simp_all (decide := true) [cLate]; done) | (simp_all (decide := true) [cLate, ltF, leF, ltFN, leFN]; done))⟩
def cMinutes (c cc m p : Nat) (n : Int32) (M : Mem) : Int32 × Mem := if ¬ rng 1 120 n then (-1000001, cfd 0 M) else if 999 < m + n.toNatClampNeg then (-1000005, cfd 4 M) else (passG 1 c cc p n.toNatClampNeg m M 1 11 - M 1 11, passG 1 c cc p n.toNatClampNeg m M)
theorem v_X8_minutes {c : Nat} (hc : c ≤ 10) {cc : Nat} (hcc : cc ≤ 12) {m : Nat} (hm : m ≤ 3000) {p : Nat} (hp : p ≤ 100) (n : Int32) (M : Mem) (hM : M 2 5 = nI c) (h2 : M 8 3 = nI cc) (h0 : M 1 7 = nI m) (hP : M 1 5 = nI p) (hW : WE 1 c cc p m M) : V m_X8_minutes 0 [(0, .ref 0), (1, .int n)] [] M (RT (some (.int ((cMinutes c cc m p n M).1))) ((cMinutes c cc m p n M).2)) := by
  refine V.iload_n dX8_minutes_0 rfl rfl rfl ?_
  refine V.calls_i (M1 := M) (v := if rng 1 120 n then 1 else 0) (md' := m_X8_isPlan) (As := [.int n]) (rest := []) dX8_minutes_1 ml_X8_196 mo_X8_isPlan ⟨Nat.le_of_ble_eq_true rfl, Nat.le_of_ble_eq_true rfl⟩ (Nat.le_of_ble_eq_true rfl) rfl rfl (Nat.le_of_ble_eq_true rfl) (v_X8_isPlan n _) rfl ?_
  refine V.ifb_ne (tgt := 13) dX8_minutes_4 rfl rfl (fun c4 => ?_) (fun c4 => ?_)
  · skip
    obtain ⟨k, hk, rfl⟩ := of_rng1 (b := 120) c4
    · have ek : (nI k).toNatClampNeg = k := nI_clamp (by omega)
      refine V.aload_n dX8_minutes_13 rfl rfl rfl ?_
      refine V.iload_n dX8_minutes_14 rfl rfl rfl ?_
      refine V.callv_i (M1 := M) (v := if 999 < m + k then 1 else 0) (md' := m_X8_isTooLate) (As := [.int (nI k)]) (rest := []) dX8_minutes_15 ml_X8_199 mo_X8_isTooLate ⟨Nat.le_of_ble_eq_true rfl, Nat.le_of_ble_eq_true rfl⟩ rfl ⟨_, _, rfl⟩ (Nat.le_of_ble_eq_true rfl) rfl rfl (Nat.le_of_ble_eq_true rfl) (v_X8_isTooLate (by omega) (by omega) M h0) rfl ?_
      refine V.ifb_eq (tgt := 27) dX8_minutes_18 rfl rfl (fun c18 => ?_) (fun c18 => ?_)
      · skip
        refine V.aload_n dX8_minutes_27 rfl rfl rfl ?_
        refine V.getr dX8_minutes_28 fg_X8_10 rfl rfl rfl ?_
        refine V.geti (v := M 1 11) dX8_minutes_31 fg_X8_202 rfl rfl rfl rfl ?_
        refine V.ist_n dX8_minutes_34 rfl (by decide) (L' := [(0, .ref 0), (1, .int (nI k)), (2, .int (M 1 11))]) rfl rfl ?_
        refine V.aload_n dX8_minutes_35 rfl rfl rfl ?_
        refine V.getr dX8_minutes_36 fg_X8_10 rfl rfl rfl ?_
        refine V.iload_n dX8_minutes_39 rfl rfl rfl ?_
        refine V.callv_i (M1 := passG 1 c cc p k m M) (v := passG 1 c cc p k m M 1 8 - M 1 8) (md' := m_X2_pass) (As := [.int (nI k)]) (rest := []) dX8_minutes_40 ml_X8_205 mo_X2_pass ⟨Nat.le_of_ble_eq_true rfl, Nat.le_of_ble_eq_true rfl⟩ rfl ⟨_, _, rfl⟩ (Nat.le_of_ble_eq_true rfl) rfl rfl (Nat.le_of_ble_eq_true rfl) (v_X2_pass isE1 hc hcc hp k (by omega) m M hW (by omega)) rfl ?_
        refine V.pop dX8_minutes_43 rfl rfl ?_
        refine V.aload_n dX8_minutes_44 rfl rfl rfl ?_
        refine V.getr dX8_minutes_45 fg_X8_10 rfl rfl rfl ?_
        refine V.geti (v := (passG 1 c cc p k m M) 1 11) dX8_minutes_48 fg_X8_202 rfl rfl rfl rfl ?_
        refine V.iload_n dX8_minutes_51 rfl rfl rfl ?_
        refine V.isub (v := ((passG 1 c cc p k m M) 1 11) - (M 1 11)) dX8_minutes_52 rfl rfl ?_
        exact V.ret dX8_minutes_53 rfl rfl ⟨(by first | (simp (decide := true) [cMinutes, c4, ek, c18]; done) | (simp (decide := true) [cMinutes, c4, ek, c18]; done) | (simp (decide := true) [cMinutes, c4, ek, c18]; done) | (simp_all (decide := true) [cMinutes]; done) | (simp_all (decide := true) [cMinutes, ltF, leF, ltFN, leFN]; done)), (by first | (simp (decide := true) [cMinutes, c4, ek, c18]; done) | (simp (decide := true) [cMinutes, c4, ek, c18]; done) | (simp (decide := true) [cMinutes, c4, ek, c18]; done) | (simp_all (decide := true) [cMinutes]; done) | (simp_all (decide := true) [cMinutes, ltF, leF, ltFN, leFN]; done))⟩
      · skip
        refine V.aload_n dX8_minutes_21 rfl rfl rfl ?_
        refine V.iconst (v := 4) dX8_minutes_22 rfl rfl ?_
        refine V.callv_i (M1 := cfd 4 M) (v := -1000005) (md' := m_X8_finding) (As := [.int 4]) (rest := []) dX8_minutes_23 ml_X8_67 mo_X8_finding ⟨Nat.le_of_ble_eq_true rfl, Nat.le_of_ble_eq_true rfl⟩ rfl ⟨_, _, rfl⟩ (Nat.le_of_ble_eq_true rfl) rfl rfl (Nat.le_of_ble_eq_true rfl) (v_X8_finding (w := 4) (by decide) (f := -1000005) (by decide +kernel) _) rfl ?_
        exact V.ret dX8_minutes_26 rfl rfl ⟨(by first | (simp (decide := true) [cMinutes, c4, ek, c18]; done) | (simp (decide := true) [cMinutes, c4, ek, c18]; done) | (simp (decide := true) [cMinutes, c4, ek, c18]; done) | (simp_all (decide := true) [cMinutes]; done) | (simp_all (decide := true) [cMinutes, ltF, leF, ltFN, leFN]; done)), (by first | (simp (decide := true) [cMinutes, c4, ek, c18]; done) | (simp (decide := true) [cMinutes, c4, ek, c18]; done) | (simp (decide := true) [cMinutes, c4, ek, c18]; done) | (simp_all (decide := true) [cMinutes]; done) | (simp_all (decide := true) [cMinutes, ltF, leF, ltFN, leFN]; done))⟩
  · skip
    refine V.aload_n dX8_minutes_7 rfl rfl rfl ?_
    refine V.iconst (v := 0) dX8_minutes_8 rfl rfl ?_
    refine V.callv_i (M1 := cfd 0 M) (v := -1000001) (md' := m_X8_finding) (As := [.int 0]) (rest := []) dX8_minutes_9 ml_X8_67 mo_X8_finding ⟨Nat.le_of_ble_eq_true rfl, Nat.le_of_ble_eq_true rfl⟩ rfl ⟨_, _, rfl⟩ (Nat.le_of_ble_eq_true rfl) rfl rfl (Nat.le_of_ble_eq_true rfl) (v_X8_finding (w := 0) (by decide) (f := -1000001) (by decide +kernel) _) rfl ?_
    exact V.ret dX8_minutes_12 rfl rfl ⟨(by first | (simp (decide := true) [cMinutes, c4]; done) | (simp (decide := true) [cMinutes, c4]; done) | (simp (decide := true) [cMinutes, c4]; done) | (simp_all (decide := true) [cMinutes]; done) | (simp_all (decide := true) [cMinutes, ltF, leF, ltFN, leFN]; done)), (by first | (simp (decide := true) [cMinutes, c4]; done) | (simp (decide := true) [cMinutes, c4]; done) | (simp (decide := true) [cMinutes, c4]; done) | (simp_all (decide := true) [cMinutes]; done) | (simp_all (decide := true) [cMinutes, ltF, leF, ltFN, leFN]; done))⟩
def cNow (c : Nat) (w : Int32) (M : Mem) : Int32 × Mem := (if w = 0 then (M 1 7, M) else if w = 1 then (M 1 8, M) else if w = 2 then (M 1 4, M) else if w = 3 then (M 1 9, M) else if w = 4 then (M 1 10, M) else if w = 5 then (M 1 11, M) else if w = 6 then (M 1 12, M) else if w = 7 then (M 1 13, M) else if w = 8 then (sumG (M 12) 7 0 0, M) else (-1000001, cfd 0 M))
theorem v_X8_now {c : Nat} (hc : c ≤ 10) (w : Int32) (M : Mem) (hM : M 2 5 = nI c) : V m_X8_now 0 [(0, .ref 0), (1, .int w)] [] M (RT (some (.int ((cNow c w M).1))) ((cNow c w M).2)) := by
  refine V.iload_n dX8_now_0 rfl rfl rfl ?_
  by_cases s1_0 : w = 0
  · refine V.tabIn (pc' := 52) dX8_now_1 (by rw [s1_0]; decide) (by rw [s1_0]; decide) (by rw [s1_0]; rfl) rfl ?_
    refine V.aload_n dX8_now_52 rfl rfl rfl ?_
    refine V.getr dX8_now_53 fg_X8_10 rfl rfl rfl ?_
    refine V.geti (v := M 1 7) dX8_now_56 fg_X8_208 rfl rfl rfl rfl ?_
    exact V.ret dX8_now_59 rfl rfl ⟨(by first | (simp (decide := true) [cNow, s1_0]; done) | (simp (decide := true) [cNow, s1_0]; done) | (simp (decide := true) [cNow, s1_0]; done) | (simp_all (decide := true) [cNow]; done) | (simp_all (decide := true) [cNow, ltF, leF, ltFN, leFN]; done)), (by first | (simp (decide := true) [cNow, s1_0]; done) | (simp (decide := true) [cNow, s1_0]; done) | (simp (decide := true) [cNow, s1_0]; done) | (simp_all (decide := true) [cNow]; done) | (simp_all (decide := true) [cNow, ltF, leF, ltFN, leFN]; done))⟩
  by_cases s1_1 : w = 1
  · refine V.tabIn (pc' := 60) dX8_now_1 (by rw [s1_1]; decide) (by rw [s1_1]; decide) (by rw [s1_1]; rfl) rfl ?_
    refine V.aload_n dX8_now_60 rfl rfl rfl ?_
    refine V.getr dX8_now_61 fg_X8_10 rfl rfl rfl ?_
    refine V.geti (v := M 1 8) dX8_now_64 fg_X8_210 rfl rfl rfl rfl ?_
    exact V.ret dX8_now_67 rfl rfl ⟨(by first | (simp (decide := true) [cNow, s1_1]; done) | (simp (decide := true) [cNow, s1_1]; done) | (simp (decide := true) [cNow, s1_1]; done) | (simp_all (decide := true) [cNow]; done) | (simp_all (decide := true) [cNow, ltF, leF, ltFN, leFN]; done)), (by first | (simp (decide := true) [cNow, s1_1]; done) | (simp (decide := true) [cNow, s1_1]; done) | (simp (decide := true) [cNow, s1_1]; done) | (simp_all (decide := true) [cNow]; done) | (simp_all (decide := true) [cNow, ltF, leF, ltFN, leFN]; done))⟩
  by_cases s1_2 : w = 2
  · refine V.tabIn (pc' := 68) dX8_now_1 (by rw [s1_2]; decide) (by rw [s1_2]; decide) (by rw [s1_2]; rfl) rfl ?_
    refine V.aload_n dX8_now_68 rfl rfl rfl ?_
    refine V.getr dX8_now_69 fg_X8_10 rfl rfl rfl ?_
    refine V.geti (v := M 1 4) dX8_now_72 fg_X8_213 rfl rfl rfl rfl ?_
    exact V.ret dX8_now_75 rfl rfl ⟨(by first | (simp (decide := true) [cNow, s1_2]; done) | (simp (decide := true) [cNow, s1_2]; done) | (simp (decide := true) [cNow, s1_2]; done) | (simp_all (decide := true) [cNow]; done) | (simp_all (decide := true) [cNow, ltF, leF, ltFN, leFN]; done)), (by first | (simp (decide := true) [cNow, s1_2]; done) | (simp (decide := true) [cNow, s1_2]; done) | (simp (decide := true) [cNow, s1_2]; done) | (simp_all (decide := true) [cNow]; done) | (simp_all (decide := true) [cNow, ltF, leF, ltFN, leFN]; done))⟩
  by_cases s1_3 : w = 3
  · refine V.tabIn (pc' := 76) dX8_now_1 (by rw [s1_3]; decide) (by rw [s1_3]; decide) (by rw [s1_3]; rfl) rfl ?_
    refine V.aload_n dX8_now_76 rfl rfl rfl ?_
    refine V.getr dX8_now_77 fg_X8_10 rfl rfl rfl ?_
    refine V.geti (v := M 1 9) dX8_now_80 fg_X8_216 rfl rfl rfl rfl ?_
    exact V.ret dX8_now_83 rfl rfl ⟨(by first | (simp (decide := true) [cNow, s1_3]; done) | (simp (decide := true) [cNow, s1_3]; done) | (simp (decide := true) [cNow, s1_3]; done) | (simp_all (decide := true) [cNow]; done) | (simp_all (decide := true) [cNow, ltF, leF, ltFN, leFN]; done)), (by first | (simp (decide := true) [cNow, s1_3]; done) | (simp (decide := true) [cNow, s1_3]; done) | (simp (decide := true) [cNow, s1_3]; done) | (simp_all (decide := true) [cNow]; done) | (simp_all (decide := true) [cNow, ltF, leF, ltFN, leFN]; done))⟩
  by_cases s1_4 : w = 4
  · refine V.tabIn (pc' := 84) dX8_now_1 (by rw [s1_4]; decide) (by rw [s1_4]; decide) (by rw [s1_4]; rfl) rfl ?_
    refine V.aload_n dX8_now_84 rfl rfl rfl ?_
    refine V.getr dX8_now_85 fg_X8_10 rfl rfl rfl ?_
    refine V.geti (v := M 1 10) dX8_now_88 fg_X8_165 rfl rfl rfl rfl ?_
    exact V.ret dX8_now_91 rfl rfl ⟨(by first | (simp (decide := true) [cNow, s1_4]; done) | (simp (decide := true) [cNow, s1_4]; done) | (simp (decide := true) [cNow, s1_4]; done) | (simp_all (decide := true) [cNow]; done) | (simp_all (decide := true) [cNow, ltF, leF, ltFN, leFN]; done)), (by first | (simp (decide := true) [cNow, s1_4]; done) | (simp (decide := true) [cNow, s1_4]; done) | (simp (decide := true) [cNow, s1_4]; done) | (simp_all (decide := true) [cNow]; done) | (simp_all (decide := true) [cNow, ltF, leF, ltFN, leFN]; done))⟩
  by_cases s1_5 : w = 5
  · refine V.tabIn (pc' := 92) dX8_now_1 (by rw [s1_5]; decide) (by rw [s1_5]; decide) (by rw [s1_5]; rfl) rfl ?_
    refine V.aload_n dX8_now_92 rfl rfl rfl ?_
    refine V.getr dX8_now_93 fg_X8_10 rfl rfl rfl ?_
    refine V.geti (v := M 1 11) dX8_now_96 fg_X8_202 rfl rfl rfl rfl ?_
    exact V.ret dX8_now_99 rfl rfl ⟨(by first | (simp (decide := true) [cNow, s1_5]; done) | (simp (decide := true) [cNow, s1_5]; done) | (simp (decide := true) [cNow, s1_5]; done) | (simp_all (decide := true) [cNow]; done) | (simp_all (decide := true) [cNow, ltF, leF, ltFN, leFN]; done)), (by first | (simp (decide := true) [cNow, s1_5]; done) | (simp (decide := true) [cNow, s1_5]; done) | (simp (decide := true) [cNow, s1_5]; done) | (simp_all (decide := true) [cNow]; done) | (simp_all (decide := true) [cNow, ltF, leF, ltFN, leFN]; done))⟩
  by_cases s1_6 : w = 6
  · refine V.tabIn (pc' := 100) dX8_now_1 (by rw [s1_6]; decide) (by rw [s1_6]; decide) (by rw [s1_6]; rfl) rfl ?_
    refine V.aload_n dX8_now_100 rfl rfl rfl ?_
    refine V.getr dX8_now_101 fg_X8_10 rfl rfl rfl ?_
    refine V.geti (v := M 1 12) dX8_now_104 fg_X8_126 rfl rfl rfl rfl ?_
    exact V.ret dX8_now_107 rfl rfl ⟨(by first | (simp (decide := true) [cNow, s1_6]; done) | (simp (decide := true) [cNow, s1_6]; done) | (simp (decide := true) [cNow, s1_6]; done) | (simp_all (decide := true) [cNow]; done) | (simp_all (decide := true) [cNow, ltF, leF, ltFN, leFN]; done)), (by first | (simp (decide := true) [cNow, s1_6]; done) | (simp (decide := true) [cNow, s1_6]; done) | (simp (decide := true) [cNow, s1_6]; done) | (simp_all (decide := true) [cNow]; done) | (simp_all (decide := true) [cNow, ltF, leF, ltFN, leFN]; done))⟩
  by_cases s1_7 : w = 7
  · refine V.tabIn (pc' := 108) dX8_now_1 (by rw [s1_7]; decide) (by rw [s1_7]; decide) (by rw [s1_7]; rfl) rfl ?_
    refine V.aload_n dX8_now_108 rfl rfl rfl ?_
    refine V.getr dX8_now_109 fg_X8_10 rfl rfl rfl ?_
    refine V.geti (v := M 1 13) dX8_now_112 fg_X8_218 rfl rfl rfl rfl ?_
    exact V.ret dX8_now_115 rfl rfl ⟨(by first | (simp (decide := true) [cNow, s1_7]; done) | (simp (decide := true) [cNow, s1_7]; done) | (simp (decide := true) [cNow, s1_7]; done) | (simp_all (decide := true) [cNow]; done) | (simp_all (decide := true) [cNow, ltF, leF, ltFN, leFN]; done)), (by first | (simp (decide := true) [cNow, s1_7]; done) | (simp (decide := true) [cNow, s1_7]; done) | (simp (decide := true) [cNow, s1_7]; done) | (simp_all (decide := true) [cNow]; done) | (simp_all (decide := true) [cNow, ltF, leF, ltFN, leFN]; done))⟩
  by_cases s1_8 : w = 8
  · refine V.tabIn (pc' := 116) dX8_now_1 (by rw [s1_8]; decide) (by rw [s1_8]; decide) (by rw [s1_8]; rfl) rfl ?_
    refine V.aload_n dX8_now_116 rfl rfl rfl ?_
    refine V.getr dX8_now_117 fg_X8_10 rfl rfl rfl ?_
    refine V.callv_i (M1 := M) (v := sumG (M 12) 7 0 0) (md' := m_X2_shovelsDue) (As := []) (rest := []) dX8_now_120 ml_X8_148 mo_X2_shovelsDue ⟨Nat.le_of_ble_eq_true rfl, Nat.le_of_ble_eq_true rfl⟩ rfl ⟨_, _, rfl⟩ (Nat.le_of_ble_eq_true rfl) rfl rfl (Nat.le_of_ble_eq_true rfl) (v_X2_shovelsDue isE1 _) rfl ?_
    exact V.ret dX8_now_123 rfl rfl ⟨(by first | (simp (decide := true) [cNow, s1_8]; done) | (simp (decide := true) [cNow, s1_8]; done) | (simp (decide := true) [cNow, s1_8]; done) | (simp_all (decide := true) [cNow]; done) | (simp_all (decide := true) [cNow, ltF, leF, ltFN, leFN]; done)), (by first | (simp (decide := true) [cNow, s1_8]; done) | (simp (decide := true) [cNow, s1_8]; done) | (simp (decide := true) [cNow, s1_8]; done) | (simp_all (decide := true) [cNow]; done) | (simp_all (decide := true) [cNow, ltF, leF, ltFN, leFN]; done))⟩
  refine V.tabOut (pc' := 124) dX8_now_1 (by have q0 := lv_neT (a := 0) s1_0 rfl; have q1 := lv_neT (a := 1) s1_1 rfl; have q2 := lv_neT (a := 2) s1_2 rfl; have q3 := lv_neT (a := 3) s1_3 rfl; have q4 := lv_neT (a := 4) s1_4 rfl; have q5 := lv_neT (a := 5) s1_5 rfl; have q6 := lv_neT (a := 6) s1_6 rfl; have q7 := lv_neT (a := 7) s1_7 rfl; have q8 := lv_neT (a := 8) s1_8 rfl; omega) rfl ?_
  refine V.aload_n dX8_now_124 rfl rfl rfl ?_
  refine V.iconst (v := 0) dX8_now_125 rfl rfl ?_
  refine V.callv_i (M1 := cfd 0 M) (v := -1000001) (md' := m_X8_finding) (As := [.int 0]) (rest := []) dX8_now_126 ml_X8_67 mo_X8_finding ⟨Nat.le_of_ble_eq_true rfl, Nat.le_of_ble_eq_true rfl⟩ rfl ⟨_, _, rfl⟩ (Nat.le_of_ble_eq_true rfl) rfl rfl (Nat.le_of_ble_eq_true rfl) (v_X8_finding (w := 0) (by decide) (f := -1000001) (by decide +kernel) _) rfl ?_
  exact V.ret dX8_now_129 rfl rfl ⟨(by first | (simp (decide := true) [cNow, s1_0, s1_1, s1_2, s1_3, s1_4, s1_5, s1_6, s1_7, s1_8]; done) | (simp (decide := true) [cNow, s1_0, s1_1, s1_2, s1_3, s1_4, s1_5, s1_6, s1_7, s1_8]; done) | (simp (decide := true) [cNow, s1_0, s1_1, s1_2, s1_3, s1_4, s1_5, s1_6, s1_7, s1_8]; done) | (simp_all (decide := true) [cNow]; done) | (simp_all (decide := true) [cNow, ltF, leF, ltFN, leFN]; done)), (by first | (simp (decide := true) [cNow, s1_0, s1_1, s1_2, s1_3, s1_4, s1_5, s1_6, s1_7, s1_8]; done) | (simp (decide := true) [cNow, s1_0, s1_1, s1_2, s1_3, s1_4, s1_5, s1_6, s1_7, s1_8]; done) | (simp (decide := true) [cNow, s1_0, s1_1, s1_2, s1_3, s1_4, s1_5, s1_6, s1_7, s1_8]; done) | (simp_all (decide := true) [cNow]; done) | (simp_all (decide := true) [cNow, ltF, leF, ltFN, leFN]; done))⟩
def cAt (c : Nat) (p : Int32) (M : Mem) : Int32 × Mem := if rng 0 4 p then (setG (M 7) p c 0 0, M) else (-1000001, cfd 0 M)
theorem v_X8_at {c : Nat} (hc : c ≤ 10) (p : Int32) (M : Mem) (hM : M 2 5 = nI c) : V m_X8_at 0 [(0, .ref 0), (1, .int p)] [] M (RT (some (.int ((cAt c p M).1))) ((cAt c p M).2)) := by
  refine V.iload_n dX8_at_0 rfl rfl rfl ?_
  refine V.iconst (v := 0) dX8_at_1 rfl rfl ?_
  refine V.iconst (v := 4) dX8_at_2 rfl rfl ?_
  refine V.calls_i (M1 := M) (v := if rng 0 4 p then 1 else 0) (md' := m_X8_within) (As := [.int p, .int 0, .int 4]) (rest := []) dX8_at_3 ml_X8_63 mo_X8_within ⟨Nat.le_of_ble_eq_true rfl, Nat.le_of_ble_eq_true rfl⟩ (Nat.le_of_ble_eq_true rfl) rfl rfl (Nat.le_of_ble_eq_true rfl) (v_X8_within (x := p) (a := 0) (b := 4) rfl rfl _) rfl ?_
  refine V.ifb_ne (tgt := 15) dX8_at_6 rfl rfl (fun c6 => ?_) (fun c6 => ?_)
  · skip
    refine V.aload_n dX8_at_15 rfl rfl rfl ?_
    refine V.getr dX8_at_16 fg_X8_10 rfl rfl rfl ?_
    refine V.getr dX8_at_19 fg_X8_71 rfl rfl rfl ?_
    refine V.iload_n dX8_at_22 rfl rfl rfl ?_
    refine V.callv_i (M1 := M) (v := setG (M 7) p c 0 0) (md' := m_X4_setAt) (As := [.int p]) (rest := []) dX8_at_23 ml_X8_221 mo_X4_setAt ⟨Nat.le_of_ble_eq_true rfl, Nat.le_of_ble_eq_true rfl⟩ rfl ⟨_, _, rfl⟩ (Nat.le_of_ble_eq_true rfl) rfl rfl (Nat.le_of_ble_eq_true rfl) (v_X4_setAt isE1 hc p M hM) rfl ?_
    exact V.ret dX8_at_26 rfl rfl ⟨(by first | (simp (decide := true) [cAt, c6]; done) | (simp (decide := true) [cAt, c6]; done) | (simp (decide := true) [cAt, c6]; done) | (simp_all (decide := true) [cAt]; done) | (simp_all (decide := true) [cAt, ltF, leF, ltFN, leFN]; done)), (by first | (simp (decide := true) [cAt, c6]; done) | (simp (decide := true) [cAt, c6]; done) | (simp (decide := true) [cAt, c6]; done) | (simp_all (decide := true) [cAt]; done) | (simp_all (decide := true) [cAt, ltF, leF, ltFN, leFN]; done))⟩
  · skip
    refine V.aload_n dX8_at_9 rfl rfl rfl ?_
    refine V.iconst (v := 0) dX8_at_10 rfl rfl ?_
    refine V.callv_i (M1 := cfd 0 M) (v := -1000001) (md' := m_X8_finding) (As := [.int 0]) (rest := []) dX8_at_11 ml_X8_67 mo_X8_finding ⟨Nat.le_of_ble_eq_true rfl, Nat.le_of_ble_eq_true rfl⟩ rfl ⟨_, _, rfl⟩ (Nat.le_of_ble_eq_true rfl) rfl rfl (Nat.le_of_ble_eq_true rfl) (v_X8_finding (w := 0) (by decide) (f := -1000001) (by decide +kernel) _) rfl ?_
    exact V.ret dX8_at_14 rfl rfl ⟨(by first | (simp (decide := true) [cAt, c6]; done) | (simp (decide := true) [cAt, c6]; done) | (simp (decide := true) [cAt, c6]; done) | (simp_all (decide := true) [cAt]; done) | (simp_all (decide := true) [cAt, ltF, leF, ltFN, leFN]; done)), (by first | (simp (decide := true) [cAt, c6]; done) | (simp (decide := true) [cAt, c6]; done) | (simp (decide := true) [cAt, c6]; done) | (simp_all (decide := true) [cAt]; done) | (simp_all (decide := true) [cAt, ltF, leF, ltFN, leFN]; done))⟩
