/-! The class: sheets -/
def zerC (s : Nat) : Nat → Nat → Mem → Mem
  | 0, _, M => M
  | n + 1, i, M => zerC s n (i + 1) (ms M 60 (s * 40 + i) 0)
theorem zerC_k {s k : Nat} (hk : k ≠ 60) : ∀ (n i : Nat) (M : Mem), zerC s n i M k = M k := by
  intro n
  induction n with
  | zero => intro i M; rfl
  | succ n ih => intro i M; simp only [zerC]; rw [ih, ms_k hk]
def layC (s z : Nat) (bits : Int32) (M : Mem) : Mem := zerC s z 0 (ms (ms M 58 s bits) 59 s (nI z))
def hasC (s : Nat) (f n : Int32) (M : Mem) : Bool := decide (0 ≤ f ∧ 0 ≤ n ∧ n ≤ M 59 s ∧ f ≤ M 59 s - n)
def setC (s i : Nat) (v : Int32) (M : Mem) : Mem := ms M 60 (s * 40 + i) ((v <<< ((32 - M 58 s) &&& 31)) >>> ((32 - M 58 s) &&& 31))
def movC (s f t g n : Nat) (M : Mem) : Mem := mr M 60 (va_cpy (M 60) (M 60) (s * 40 + f) (t * 40 + g) n)
theorem v_X5_isSheet (x : Int32) (M : Mem) : V m_X5_isSheet 0 [(0, .ref 57), (1, .int x)] [] M (RT (some (.int (if isB 4 x then 1 else 0))) M) := by
  refine V.iload_n dX5_isSheet_0 rfl rfl rfl ?_
  refine V.if_lt (tgt := 13) dX5_isSheet_1 rfl rfl (fun c1 => ?_) (fun c1 => ?_)
  · skip
    refine V.iconst (v := 0) dX5_isSheet_13 rfl rfl ?_
    exact V.ret dX5_isSheet_14 rfl rfl ⟨(by rw [if_neg (isB_n1 c1)]), rfl⟩
  · skip
    refine V.iload_n dX5_isSheet_4 rfl rfl rfl ?_
    refine V.iconst (v := 4) dX5_isSheet_5 rfl rfl ?_
    refine V.icmp_ge (tgt := 13) dX5_isSheet_6 rfl rfl (fun c6 => ?_) (fun c6 => ?_)
    · skip
      refine V.iconst (v := 0) dX5_isSheet_13 rfl rfl ?_
      exact V.ret dX5_isSheet_14 rfl rfl ⟨(by rw [if_neg (isB_n2 (c := 4) (by decide) c6)]), rfl⟩
    · skip
      refine V.iconst (v := 1) dX5_isSheet_9 rfl rfl ?_
      refine V.goto (pc' := 14) dX5_isSheet_10 rfl ?_
      exact V.ret dX5_isSheet_14 rfl rfl ⟨(by rw [if_pos (isB_p (c := 4) (by decide) c1 c6)]), rfl⟩
theorem v_X5_isMissing {s : Nat} (hs : s < 4) (M : Mem) : V m_X5_isMissing 0 [(0, .ref 57), (1, .int (nI s))] [] M (RT (some (.int (if M 58 s = 0 then 1 else 0))) M) := by
  refine V.aload_n dX5_isMissing_0 rfl rfl rfl ?_
  refine V.getr dX5_isMissing_1 fg_X5_9 rfl rfl rfl ?_
  refine V.iload_n dX5_isMissing_4 rfl rfl rfl ?_
  refine V.ialdN (j := s) (v := M 58 s) dX5_isMissing_5 rfl (by omega) (by decide) rfl rfl rfl ?_
  refine V.if_ne (tgt := 13) dX5_isMissing_6 rfl rfl (fun c6 => ?_) (fun c6 => ?_)
  · skip
    refine V.iconst (v := 0) dX5_isMissing_13 rfl rfl ?_
    exact V.ret dX5_isMissing_14 rfl rfl ⟨(by simp [*]), rfl⟩
  · skip
    refine V.iconst (v := 1) dX5_isMissing_9 rfl rfl ?_
    refine V.goto (pc' := 14) dX5_isMissing_10 rfl ?_
    exact V.ret dX5_isMissing_14 rfl rfl ⟨(by simp [*]), rfl⟩
theorem l_X5_lay {s z : Nat} (hs : s < 4) (hz : z ≤ 40) (bits : Int32) : ∀ (n i : Nat) (M : Mem), i + n = z → V m_X5_lay 17 [(0, .ref 57), (1, .int (nI s)), (2, .int bits), (3, .int (nI z)), (4, .int (nI i))] [] M (RT none (zerC s n i M)) := by
  intro n
  induction n with
  | zero =>
    intro i M hi
    refine V.iload dX5_lay_17 rfl rfl ?_
    refine V.iload_n dX5_lay_19 rfl rfl rfl ?_
    refine V.icmp_ge (tgt := 42) dX5_lay_20 rfl rfl (fun c20 => ?_) (fun c20 => absurd ((nI_leI (a := z) (b := i) (by omega) (by omega)).mpr (by omega)) c20)
    have c20 : z ≤ i := (nI_leI (a := z) (b := i) (by omega) (by omega)).mp c20
    exact V.vret dX5_lay_42 rfl ⟨rfl, rfl⟩
  | succ n ih =>
    intro i M hi
    refine V.iload dX5_lay_17 rfl rfl ?_
    refine V.iload_n dX5_lay_19 rfl rfl rfl ?_
    refine V.icmp_ge (tgt := 42) dX5_lay_20 rfl rfl (fun c20 => absurd ((nI_leI (a := z) (b := i) (by omega) (by omega)).mp c20) (by omega)) (fun c20 => ?_)
    have c20 : ¬ z ≤ i := fun zq => c20 ((nI_leI (a := z) (b := i) (by omega) (by omega)).mpr zq)
    refine V.aload_n dX5_lay_23 rfl rfl rfl ?_
    refine V.getr dX5_lay_24 fg_X5_16 rfl rfl rfl ?_
    refine V.iload_n dX5_lay_27 rfl rfl rfl ?_
    refine V.bipush (v := 40) dX5_lay_28 (by decide) rfl ?_
    refine V.imul (v := nI (s * 40)) dX5_lay_30 (pk_mul _ _) rfl ?_
    refine V.iload dX5_lay_31 rfl rfl ?_
    refine V.iadd (v := nI ((s * 40) + i)) dX5_lay_33 (nI_add _ _) rfl ?_
    refine V.iconst (v := 0) dX5_lay_34 rfl rfl ?_
    refine V.iastN (j := (s * 40) + i) dX5_lay_35 rfl (by omega) (by decide) rfl (M' := (ms M 60 ((s * 40) + i) 0)) rfl rfl ?_
    refine V.inc (v := nI (i + 1)) dX5_lay_36 rfl (nI_1 _) (by decide) (L' := [(0, .ref 57), (1, .int (nI s)), (2, .int bits), (3, .int (nI z)), (4, .int (nI (i + 1)))]) rfl rfl ?_
    refine V.goto (pc' := 17) dX5_lay_39 rfl ?_
    exact ih (i + 1) _ (by omega)
theorem v_X5_lay {s z : Nat} (hs : s < 4) (hz : z ≤ 40) (bits : Int32) (M : Mem) : V m_X5_lay 0 [(0, .ref 57), (1, .int (nI s)), (2, .int bits), (3, .int (nI z))] [] M (RT none (layC s z bits M)) := by
  refine V.aload_n dX5_lay_0 rfl rfl rfl ?_
  refine V.getr dX5_lay_1 fg_X5_9 rfl rfl rfl ?_
  refine V.iload_n dX5_lay_4 rfl rfl rfl ?_
  refine V.iload_n dX5_lay_5 rfl rfl rfl ?_
  refine V.iastN (j := s) dX5_lay_6 rfl (by omega) (by decide) rfl (M' := (ms M 58 s bits)) rfl rfl ?_
  refine V.aload_n dX5_lay_7 rfl rfl rfl ?_
  refine V.getr dX5_lay_8 fg_X5_13 rfl rfl rfl ?_
  refine V.iload_n dX5_lay_11 rfl rfl rfl ?_
  refine V.iload_n dX5_lay_12 rfl rfl rfl ?_
  refine V.iastN (j := s) dX5_lay_13 rfl (by omega) (by decide) rfl (M' := (ms (ms M 58 s bits) 59 s (nI z))) rfl rfl ?_
  refine V.iconst (v := 0) dX5_lay_14 rfl rfl ?_
  refine V.ist dX5_lay_15 (by decide) (L' := [(0, .ref 57), (1, .int (nI s)), (2, .int bits), (3, .int (nI z)), (4, .int 0)]) rfl rfl ?_
  exact l_X5_lay hs hz bits z 0 _ (by omega)
theorem v_X5_hasNumbers {s : Nat} (hs : s < 4) (f n : Int32) (M : Mem) : V m_X5_hasNumbers 0 [(0, .ref 57), (1, .int (nI s)), (2, .int f), (3, .int n)] [] M (RT (some (.int (if hasC s f n M then 1 else 0))) M) := by
  refine V.iload_n dX5_hasNumbers_0 rfl rfl rfl ?_
  refine V.if_lt (tgt := 34) dX5_hasNumbers_1 rfl rfl (fun c1 => ?_) (fun c1 => ?_)
  · have d1 := Int32.not_le.mpr c1
    refine V.iconst (v := 0) dX5_hasNumbers_34 rfl rfl ?_
    exact V.ret dX5_hasNumbers_35 rfl rfl ⟨(by simp (decide := true) [hasC, c1, d1]), rfl⟩
  · have d1 := Int32.not_lt.mp c1
    refine V.iload_n dX5_hasNumbers_4 rfl rfl rfl ?_
    refine V.if_lt (tgt := 34) dX5_hasNumbers_5 rfl rfl (fun c5 => ?_) (fun c5 => ?_)
    · have d5 := Int32.not_le.mpr c5
      refine V.iconst (v := 0) dX5_hasNumbers_34 rfl rfl ?_
      exact V.ret dX5_hasNumbers_35 rfl rfl ⟨(by simp (decide := true) [hasC, c1, d1, c5, d5]), rfl⟩
    · have d5 := Int32.not_lt.mp c5
      refine V.iload_n dX5_hasNumbers_8 rfl rfl rfl ?_
      refine V.aload_n dX5_hasNumbers_9 rfl rfl rfl ?_
      refine V.getr dX5_hasNumbers_10 fg_X5_13 rfl rfl rfl ?_
      refine V.iload_n dX5_hasNumbers_13 rfl rfl rfl ?_
      refine V.ialdN (j := s) (v := M 59 s) dX5_hasNumbers_14 rfl (by omega) (by decide) rfl rfl rfl ?_
      refine V.icmp_gt (tgt := 34) dX5_hasNumbers_15 rfl rfl (fun c15 => ?_) (fun c15 => ?_)
      · have d15 := Int32.not_le.mpr c15
        refine V.iconst (v := 0) dX5_hasNumbers_34 rfl rfl ?_
        exact V.ret dX5_hasNumbers_35 rfl rfl ⟨(by simp (decide := true) [hasC, c1, d1, c5, d5, c15, d15]), rfl⟩
      · have d15 := Int32.not_lt.mp c15
        refine V.iload_n dX5_hasNumbers_18 rfl rfl rfl ?_
        refine V.aload_n dX5_hasNumbers_19 rfl rfl rfl ?_
        refine V.getr dX5_hasNumbers_20 fg_X5_13 rfl rfl rfl ?_
        refine V.iload_n dX5_hasNumbers_23 rfl rfl rfl ?_
        refine V.ialdN (j := s) (v := M 59 s) dX5_hasNumbers_24 rfl (by omega) (by decide) rfl rfl rfl ?_
        refine V.iload_n dX5_hasNumbers_25 rfl rfl rfl ?_
        refine V.isub (v := (M 59 s) - n) dX5_hasNumbers_26 rfl rfl ?_
        refine V.icmp_gt (tgt := 34) dX5_hasNumbers_27 rfl rfl (fun c27 => ?_) (fun c27 => ?_)
        · have d27 := Int32.not_le.mpr c27
          refine V.iconst (v := 0) dX5_hasNumbers_34 rfl rfl ?_
          exact V.ret dX5_hasNumbers_35 rfl rfl ⟨(by simp (decide := true) [hasC, c1, d1, c5, d5, c15, d15, c27, d27]), rfl⟩
        · have d27 := Int32.not_lt.mp c27
          refine V.iconst (v := 1) dX5_hasNumbers_30 rfl rfl ?_
          refine V.goto (pc' := 35) dX5_hasNumbers_31 rfl ?_
          exact V.ret dX5_hasNumbers_35 rfl rfl ⟨(by simp (decide := true) [hasC, c1, d1, c5, d5, c15, d15, c27, d27]), rfl⟩
theorem v_X5_numberAt {s i : Nat} (hs : s < 4) (hi : i < 40) (M : Mem) : V m_X5_numberAt 0 [(0, .ref 57), (1, .int (nI s)), (2, .int (nI i))] [] M (RT (some (.int (M 60 (s * 40 + i)))) M) := by
  refine V.aload_n dX5_numberAt_0 rfl rfl rfl ?_
  refine V.getr dX5_numberAt_1 fg_X5_16 rfl rfl rfl ?_
  refine V.iload_n dX5_numberAt_4 rfl rfl rfl ?_
  refine V.bipush (v := 40) dX5_numberAt_5 (by decide) rfl ?_
  refine V.imul (v := nI (s * 40)) dX5_numberAt_7 (pk_mul _ _) rfl ?_
  refine V.iload_n dX5_numberAt_8 rfl rfl rfl ?_
  refine V.iadd (v := nI ((s * 40) + i)) dX5_numberAt_9 (nI_add _ _) rfl ?_
  refine V.ialdN (j := (s * 40) + i) (v := M 60 ((s * 40) + i)) dX5_numberAt_10 rfl (by omega) (by decide) rfl rfl rfl ?_
  exact V.ret dX5_numberAt_11 rfl rfl ⟨rfl, rfl⟩
theorem v_X5_setNumber {s i : Nat} (hs : s < 4) (hi : i < 40) (v : Int32) (M : Mem) : V m_X5_setNumber 0 [(0, .ref 57), (1, .int (nI s)), (2, .int (nI i)), (3, .int v)] [] M (RT none (setC s i v M)) := by
  refine V.bipush (v := 32) dX5_setNumber_0 (by decide) rfl ?_
  refine V.aload_n dX5_setNumber_2 rfl rfl rfl ?_
  refine V.getr dX5_setNumber_3 fg_X5_9 rfl rfl rfl ?_
  refine V.iload_n dX5_setNumber_6 rfl rfl rfl ?_
  refine V.ialdN (j := s) (v := M 58 s) dX5_setNumber_7 rfl (by omega) (by decide) rfl rfl rfl ?_
  refine V.isub (v := 32 - (M 58 s)) dX5_setNumber_8 rfl rfl ?_
  refine V.ist dX5_setNumber_9 (by decide) (L' := [(0, .ref 57), (1, .int (nI s)), (2, .int (nI i)), (3, .int v), (4, .int (32 - (M 58 s)))]) rfl rfl ?_
  refine V.aload_n dX5_setNumber_11 rfl rfl rfl ?_
  refine V.getr dX5_setNumber_12 fg_X5_16 rfl rfl rfl ?_
  refine V.iload_n dX5_setNumber_15 rfl rfl rfl ?_
  refine V.bipush (v := 40) dX5_setNumber_16 (by decide) rfl ?_
  refine V.imul (v := nI (s * 40)) dX5_setNumber_18 (pk_mul _ _) rfl ?_
  refine V.iload_n dX5_setNumber_19 rfl rfl rfl ?_
  refine V.iadd (v := nI ((s * 40) + i)) dX5_setNumber_20 (nI_add _ _) rfl ?_
  refine V.iload_n dX5_setNumber_21 rfl rfl rfl ?_
  refine V.iload dX5_setNumber_22 rfl rfl ?_
  refine V.ishl (v := v <<< ((32 - (M 58 s)) &&& 31)) dX5_setNumber_24 rfl rfl ?_
  refine V.iload dX5_setNumber_25 rfl rfl ?_
  refine V.ishr (v := (v <<< ((32 - (M 58 s)) &&& 31)) >>> ((32 - (M 58 s)) &&& 31)) dX5_setNumber_27 rfl rfl ?_
  refine V.iastN (j := (s * 40) + i) dX5_setNumber_28 rfl (by omega) (by decide) rfl (M' := (ms M 60 ((s * 40) + i) ((v <<< ((32 - (M 58 s)) &&& 31)) >>> ((32 - (M 58 s)) &&& 31)))) rfl rfl ?_
  exact V.vret dX5_setNumber_29 rfl ⟨rfl, rfl⟩
theorem v_X5_move {s f t g n : Nat} (hs : s < 4) (ht : t < 4) (hf : f + n ≤ 40) (hg : g + n ≤ 40) (M : Mem) : V m_X5_move 0 [(0, .ref 57), (1, .int (nI s)), (2, .int (nI f)), (3, .int (nI t)), (4, .int (nI g)), (5, .int (nI n))] [] M (RT none (movC s f t g n M)) := by
  refine V.aload_n dX5_move_0 rfl rfl rfl ?_
  refine V.getr dX5_move_1 fg_X5_16 rfl rfl rfl ?_
  refine V.iload_n dX5_move_4 rfl rfl rfl ?_
  refine V.bipush (v := 40) dX5_move_5 (by decide) rfl ?_
  refine V.imul (v := nI (s * 40)) dX5_move_7 (pk_mul _ _) rfl ?_
  refine V.iload_n dX5_move_8 rfl rfl rfl ?_
  refine V.iadd (v := nI ((s * 40) + f)) dX5_move_9 (nI_add _ _) rfl ?_
  refine V.aload_n dX5_move_10 rfl rfl rfl ?_
  refine V.getr dX5_move_11 fg_X5_16 rfl rfl rfl ?_
  refine V.iload_n dX5_move_14 rfl rfl rfl ?_
  refine V.bipush (v := 40) dX5_move_15 (by decide) rfl ?_
  refine V.imul (v := nI (t * 40)) dX5_move_17 (pk_mul _ _) rfl ?_
  refine V.iload dX5_move_18 rfl rfl ?_
  refine V.iadd (v := nI ((t * 40) + g)) dX5_move_20 (nI_add _ _) rfl ?_
  refine V.iload dX5_move_21 rfl rfl ?_
  refine V.copy (M' := movC s f t g n M) dX5_move_23 ac_X5_19 rfl (by decide) rfl (by decide) (nnI (by omega)) (nnI (by omega)) (nnI (by omega)) (by rw [nI_clamp (by omega), nI_clamp (by omega)]; omega) (by rw [nI_clamp (by omega), nI_clamp (by omega)]; omega) ⟨Nat.le_of_ble_eq_true rfl, Nat.le_of_ble_eq_true rfl⟩ (by rw [nI_clamp (by omega), nI_clamp (by omega), nI_clamp (by omega)]; rfl) rfl ?_
  exact V.vret dX5_move_26 rfl ⟨rfl, rfl⟩
theorem of_le40 {n : Int32} (h0 : ¬ n < 0) (h : ¬ 40 < n) : ∃ k, k ≤ 40 ∧ n = nI k := of_rng (b := 40) (rng_p (lo := 0) (hi := 40) rfl rfl h0 h)
def cSheet (c : Nat) (x bits n : Int32) (M : Mem) : Int32 × Mem := if ¬ (isB 4 x ∧ (bits = 0 ∨ bits = 8 ∨ bits = 16 ∨ bits = 32)) then (-1000001, cfd 0 M) else if n < 0 then (-1000007, cfd 6 M) else if 40 < n then (-1000001, cfd 0 M) else (layC x.toNatClampNeg (if bits = 0 then 0 else n.toNatClampNeg) bits M 59 x.toNatClampNeg, layC x.toNatClampNeg (if bits = 0 then 0 else n.toNatClampNeg) bits M)
theorem v_X8_sheet {c : Nat} (hc : c ≤ 10) (x bits n : Int32) (M : Mem) (hM : M 2 5 = nI c) : V m_X8_sheet 0 [(0, .ref 0), (1, .int x), (2, .int bits), (3, .int n)] [] M (RT (some (.int ((cSheet c x bits n M).1))) ((cSheet c x bits n M).2)) := by
  refine V.aload_n dX8_sheet_0 rfl rfl rfl ?_
  refine V.getr dX8_sheet_1 fg_X8_51 rfl rfl rfl ?_
  refine V.iload_n dX8_sheet_4 rfl rfl rfl ?_
  refine V.callv_i (M1 := M) (v := if isB 4 x then 1 else 0) (md' := m_X5_isSheet) (As := [.int x]) (rest := []) dX8_sheet_5 ml_X8_296 mo_X5_isSheet ⟨Nat.le_of_ble_eq_true rfl, Nat.le_of_ble_eq_true rfl⟩ rfl ⟨_, _, rfl⟩ (Nat.le_of_ble_eq_true rfl) rfl rfl (Nat.le_of_ble_eq_true rfl) (v_X5_isSheet x _) rfl ?_
  refine V.ifb_eq (tgt := 33) dX8_sheet_8 rfl rfl (fun c8 => ?_) (fun c8 => ?_)
  · skip
    refine V.aload_n dX8_sheet_33 rfl rfl rfl ?_
    refine V.iconst (v := 0) dX8_sheet_34 rfl rfl ?_
    refine V.callv_i (M1 := cfd 0 M) (v := -1000001) (md' := m_X8_finding) (As := [.int 0]) (rest := []) dX8_sheet_35 ml_X8_67 mo_X8_finding ⟨Nat.le_of_ble_eq_true rfl, Nat.le_of_ble_eq_true rfl⟩ rfl ⟨_, _, rfl⟩ (Nat.le_of_ble_eq_true rfl) rfl rfl (Nat.le_of_ble_eq_true rfl) (v_X8_finding (w := 0) (by decide) (f := -1000001) (by decide +kernel) _) rfl ?_
    exact V.ret dX8_sheet_38 rfl rfl ⟨(by first | (simp (decide := true) [cSheet, c8]; done) | (simp (decide := true) [cSheet, c8]; done) | (simp (decide := true) [cSheet, c8]; done) | (simp_all (decide := true) [cSheet]; done) | (simp_all (decide := true) [cSheet, ltF, leF, ltFN, leFN]; done)), (by first | (simp (decide := true) [cSheet, c8]; done) | (simp (decide := true) [cSheet, c8]; done) | (simp (decide := true) [cSheet, c8]; done) | (simp_all (decide := true) [cSheet]; done) | (simp_all (decide := true) [cSheet, ltF, leF, ltFN, leFN]; done))⟩
  · skip
    refine V.iload_n dX8_sheet_11 rfl rfl rfl ?_
    refine V.if_eq (tgt := 39) dX8_sheet_12 rfl rfl (fun c12 => ?_) (fun c12 => ?_)
    · skip
      refine V.iload_n dX8_sheet_39 rfl rfl rfl ?_
      refine V.if_ge (tgt := 50) dX8_sheet_40 rfl rfl (fun c40 => ?_) (fun c40 => ?_)
      · have d40 := Int32.not_lt.mpr c40
        refine V.iload_n dX8_sheet_50 rfl rfl rfl ?_
        refine V.bipush (v := 40) dX8_sheet_51 (by decide) rfl ?_
        refine V.icmp_le (tgt := 62) dX8_sheet_53 rfl rfl (fun c53 => ?_) (fun c53 => ?_)
        · have d53 := Int32.not_lt.mpr c53
          obtain ⟨s, hs, rfl⟩ := of_isB c8
          · have es : (nI s).toNatClampNeg = s := nI_clamp (by omega)
            obtain ⟨k, hk, rfl⟩ := of_le40 d40 d53
            have ek : (nI k).toNatClampNeg = k := nI_clamp (by omega)
            refine V.aload_n dX8_sheet_62 rfl rfl rfl ?_
            refine V.getr dX8_sheet_63 fg_X8_51 rfl rfl rfl ?_
            refine V.iload_n dX8_sheet_66 rfl rfl rfl ?_
            refine V.iload_n dX8_sheet_67 rfl rfl rfl ?_
            refine V.iload_n dX8_sheet_68 rfl rfl rfl ?_
            refine V.if_ne (tgt := 76) dX8_sheet_69 rfl rfl (fun c69 => ?_) (fun c69 => ?_)
            · skip
              refine V.iload_n dX8_sheet_76 rfl rfl rfl ?_
              refine V.callv_v (M1 := layC s k bits M) (md' := m_X5_lay) (As := [.int (nI s), .int bits, .int (nI k)]) (rest := []) dX8_sheet_77 ml_X8_299 mo_X5_lay ⟨Nat.le_of_ble_eq_true rfl, Nat.le_of_ble_eq_true rfl⟩ rfl ⟨_, _, rfl⟩ (Nat.le_of_ble_eq_true rfl) rfl rfl (Nat.le_of_ble_eq_true rfl) (v_X5_lay (s := s) (z := k) (by omega) (by omega) bits M) rfl ?_
              refine V.aload_n dX8_sheet_80 rfl rfl rfl ?_
              refine V.getr dX8_sheet_81 fg_X8_51 rfl rfl rfl ?_
              refine V.getr dX8_sheet_84 fg_X8_302 rfl rfl rfl ?_
              refine V.iload_n dX8_sheet_87 rfl rfl rfl ?_
              refine V.ialdN (j := s) (v := (layC s k bits M) 59 s) dX8_sheet_88 rfl (by omega) (by decide) rfl rfl rfl ?_
              exact V.ret dX8_sheet_89 rfl rfl ⟨(by first | (simp (decide := true) [cSheet, c8, c12, c40, d40, c53, d53, es, ek, c69]; done) | (simp (decide := true) [cSheet, c8, c12, c40, c40, c53, c53, es, ek, c69]; done) | (simp (decide := true) [cSheet, c8, c12, c40, d40, c53, d53, es, ek, c69, c40, c53]; done) | (simp_all (decide := true) [cSheet]; done) | (simp_all (decide := true) [cSheet, ltF, leF, ltFN, leFN]; done)), (by first | (simp (decide := true) [cSheet, c8, c12, c40, d40, c53, d53, es, ek, c69]; done) | (simp (decide := true) [cSheet, c8, c12, c40, c40, c53, c53, es, ek, c69]; done) | (simp (decide := true) [cSheet, c8, c12, c40, d40, c53, d53, es, ek, c69, c40, c53]; done) | (simp_all (decide := true) [cSheet]; done) | (simp_all (decide := true) [cSheet, ltF, leF, ltFN, leFN]; done))⟩
            · skip
              refine V.iconst (v := 0) dX8_sheet_72 rfl rfl ?_
              refine V.goto (pc' := 77) dX8_sheet_73 rfl ?_
              refine V.callv_v (M1 := layC s 0 bits M) (md' := m_X5_lay) (As := [.int (nI s), .int bits, .int 0]) (rest := []) dX8_sheet_77 ml_X8_299 mo_X5_lay ⟨Nat.le_of_ble_eq_true rfl, Nat.le_of_ble_eq_true rfl⟩ rfl ⟨_, _, rfl⟩ (Nat.le_of_ble_eq_true rfl) rfl rfl (Nat.le_of_ble_eq_true rfl) (v_X5_lay (s := s) (z := 0) (by omega) (by omega) bits M) rfl ?_
              refine V.aload_n dX8_sheet_80 rfl rfl rfl ?_
              refine V.getr dX8_sheet_81 fg_X8_51 rfl rfl rfl ?_
              refine V.getr dX8_sheet_84 fg_X8_302 rfl rfl rfl ?_
              refine V.iload_n dX8_sheet_87 rfl rfl rfl ?_
              refine V.ialdN (j := s) (v := (layC s 0 bits M) 59 s) dX8_sheet_88 rfl (by omega) (by decide) rfl rfl rfl ?_
              exact V.ret dX8_sheet_89 rfl rfl ⟨(by first | (simp (decide := true) [cSheet, c8, c12, c40, d40, c53, d53, es, ek, c69]; done) | (simp (decide := true) [cSheet, c8, c12, c40, c40, c53, c53, es, ek, c69]; done) | (simp (decide := true) [cSheet, c8, c12, c40, d40, c53, d53, es, ek, c69, c40, c53]; done) | (simp_all (decide := true) [cSheet]; done) | (simp_all (decide := true) [cSheet, ltF, leF, ltFN, leFN]; done)), (by first | (simp (decide := true) [cSheet, c8, c12, c40, d40, c53, d53, es, ek, c69]; done) | (simp (decide := true) [cSheet, c8, c12, c40, c40, c53, c53, es, ek, c69]; done) | (simp (decide := true) [cSheet, c8, c12, c40, d40, c53, d53, es, ek, c69, c40, c53]; done) | (simp_all (decide := true) [cSheet]; done) | (simp_all (decide := true) [cSheet, ltF, leF, ltFN, leFN]; done))⟩
        · have d53 := Int32.not_le.mp c53
          refine V.aload_n dX8_sheet_56 rfl rfl rfl ?_
          refine V.iconst (v := 0) dX8_sheet_57 rfl rfl ?_
          refine V.callv_i (M1 := cfd 0 M) (v := -1000001) (md' := m_X8_finding) (As := [.int 0]) (rest := []) dX8_sheet_58 ml_X8_67 mo_X8_finding ⟨Nat.le_of_ble_eq_true rfl, Nat.le_of_ble_eq_true rfl⟩ rfl ⟨_, _, rfl⟩ (Nat.le_of_ble_eq_true rfl) rfl rfl (Nat.le_of_ble_eq_true rfl) (v_X8_finding (w := 0) (by decide) (f := -1000001) (by decide +kernel) _) rfl ?_
          exact V.ret dX8_sheet_61 rfl rfl ⟨(by first | (simp (decide := true) [cSheet, c8, c12, c40, d40, c53, d53]; done) | (simp (decide := true) [cSheet, c8, c12, c40, c40, c53, c53]; done) | (simp (decide := true) [cSheet, c8, c12, c40, d40, c53, d53, c40, c53]; done) | (simp_all (decide := true) [cSheet]; done) | (simp_all (decide := true) [cSheet, ltF, leF, ltFN, leFN]; done)), (by first | (simp (decide := true) [cSheet, c8, c12, c40, d40, c53, d53]; done) | (simp (decide := true) [cSheet, c8, c12, c40, c40, c53, c53]; done) | (simp (decide := true) [cSheet, c8, c12, c40, d40, c53, d53, c40, c53]; done) | (simp_all (decide := true) [cSheet]; done) | (simp_all (decide := true) [cSheet, ltF, leF, ltFN, leFN]; done))⟩
      · have d40 := Int32.not_le.mp c40
        refine V.aload_n dX8_sheet_43 rfl rfl rfl ?_
        refine V.bipush (v := 6) dX8_sheet_44 (by decide) rfl ?_
        refine V.callv_i (M1 := cfd 6 M) (v := -1000007) (md' := m_X8_finding) (As := [.int 6]) (rest := []) dX8_sheet_46 ml_X8_67 mo_X8_finding ⟨Nat.le_of_ble_eq_true rfl, Nat.le_of_ble_eq_true rfl⟩ rfl ⟨_, _, rfl⟩ (Nat.le_of_ble_eq_true rfl) rfl rfl (Nat.le_of_ble_eq_true rfl) (v_X8_finding (w := 6) (by decide) (f := -1000007) (by decide +kernel) _) rfl ?_
        exact V.ret dX8_sheet_49 rfl rfl ⟨(by first | (simp (decide := true) [cSheet, c8, c12, c40, d40]; done) | (simp (decide := true) [cSheet, c8, c12, c40, c40]; done) | (simp (decide := true) [cSheet, c8, c12, c40, d40, c40]; done) | (simp_all (decide := true) [cSheet]; done) | (simp_all (decide := true) [cSheet, ltF, leF, ltFN, leFN]; done)), (by first | (simp (decide := true) [cSheet, c8, c12, c40, d40]; done) | (simp (decide := true) [cSheet, c8, c12, c40, c40]; done) | (simp (decide := true) [cSheet, c8, c12, c40, d40, c40]; done) | (simp_all (decide := true) [cSheet]; done) | (simp_all (decide := true) [cSheet, ltF, leF, ltFN, leFN]; done))⟩
    · skip
      refine V.iload_n dX8_sheet_15 rfl rfl rfl ?_
      refine V.bipush (v := 8) dX8_sheet_16 (by decide) rfl ?_
      refine V.icmp_eq (tgt := 39) dX8_sheet_18 rfl rfl (fun c18 => ?_) (fun c18 => ?_)
      · skip
        refine V.iload_n dX8_sheet_39 rfl rfl rfl ?_
        refine V.if_ge (tgt := 50) dX8_sheet_40 rfl rfl (fun c40 => ?_) (fun c40 => ?_)
        · have d40 := Int32.not_lt.mpr c40
          refine V.iload_n dX8_sheet_50 rfl rfl rfl ?_
          refine V.bipush (v := 40) dX8_sheet_51 (by decide) rfl ?_
          refine V.icmp_le (tgt := 62) dX8_sheet_53 rfl rfl (fun c53 => ?_) (fun c53 => ?_)
          · have d53 := Int32.not_lt.mpr c53
            obtain ⟨s, hs, rfl⟩ := of_isB c8
            · have es : (nI s).toNatClampNeg = s := nI_clamp (by omega)
              obtain ⟨k, hk, rfl⟩ := of_le40 d40 d53
              have ek : (nI k).toNatClampNeg = k := nI_clamp (by omega)
              refine V.aload_n dX8_sheet_62 rfl rfl rfl ?_
              refine V.getr dX8_sheet_63 fg_X8_51 rfl rfl rfl ?_
              refine V.iload_n dX8_sheet_66 rfl rfl rfl ?_
              refine V.iload_n dX8_sheet_67 rfl rfl rfl ?_
              refine V.iload_n dX8_sheet_68 rfl rfl rfl ?_
              refine V.if_ne (tgt := 76) dX8_sheet_69 rfl rfl (fun c69 => ?_) (fun c69 => ?_)
              · skip
                refine V.iload_n dX8_sheet_76 rfl rfl rfl ?_
                refine V.callv_v (M1 := layC s k bits M) (md' := m_X5_lay) (As := [.int (nI s), .int bits, .int (nI k)]) (rest := []) dX8_sheet_77 ml_X8_299 mo_X5_lay ⟨Nat.le_of_ble_eq_true rfl, Nat.le_of_ble_eq_true rfl⟩ rfl ⟨_, _, rfl⟩ (Nat.le_of_ble_eq_true rfl) rfl rfl (Nat.le_of_ble_eq_true rfl) (v_X5_lay (s := s) (z := k) (by omega) (by omega) bits M) rfl ?_
                refine V.aload_n dX8_sheet_80 rfl rfl rfl ?_
                refine V.getr dX8_sheet_81 fg_X8_51 rfl rfl rfl ?_
                refine V.getr dX8_sheet_84 fg_X8_302 rfl rfl rfl ?_
                refine V.iload_n dX8_sheet_87 rfl rfl rfl ?_
                refine V.ialdN (j := s) (v := (layC s k bits M) 59 s) dX8_sheet_88 rfl (by omega) (by decide) rfl rfl rfl ?_
                exact V.ret dX8_sheet_89 rfl rfl ⟨(by first | (simp (decide := true) [cSheet, c8, c12, c18, c40, d40, c53, d53, es, ek, c69]; done) | (simp (decide := true) [cSheet, c8, c12, c18, c40, c40, c53, c53, es, ek, c69]; done) | (simp (decide := true) [cSheet, c8, c12, c18, c40, d40, c53, d53, es, ek, c69, c40, c53]; done) | (simp_all (decide := true) [cSheet]; done) | (simp_all (decide := true) [cSheet, ltF, leF, ltFN, leFN]; done)), (by first | (simp (decide := true) [cSheet, c8, c12, c18, c40, d40, c53, d53, es, ek, c69]; done) | (simp (decide := true) [cSheet, c8, c12, c18, c40, c40, c53, c53, es, ek, c69]; done) | (simp (decide := true) [cSheet, c8, c12, c18, c40, d40, c53, d53, es, ek, c69, c40, c53]; done) | (simp_all (decide := true) [cSheet]; done) | (simp_all (decide := true) [cSheet, ltF, leF, ltFN, leFN]; done))⟩
              · skip
                refine V.iconst (v := 0) dX8_sheet_72 rfl rfl ?_
                refine V.goto (pc' := 77) dX8_sheet_73 rfl ?_
                refine V.callv_v (M1 := layC s 0 bits M) (md' := m_X5_lay) (As := [.int (nI s), .int bits, .int 0]) (rest := []) dX8_sheet_77 ml_X8_299 mo_X5_lay ⟨Nat.le_of_ble_eq_true rfl, Nat.le_of_ble_eq_true rfl⟩ rfl ⟨_, _, rfl⟩ (Nat.le_of_ble_eq_true rfl) rfl rfl (Nat.le_of_ble_eq_true rfl) (v_X5_lay (s := s) (z := 0) (by omega) (by omega) bits M) rfl ?_
                refine V.aload_n dX8_sheet_80 rfl rfl rfl ?_
                refine V.getr dX8_sheet_81 fg_X8_51 rfl rfl rfl ?_
                refine V.getr dX8_sheet_84 fg_X8_302 rfl rfl rfl ?_
                refine V.iload_n dX8_sheet_87 rfl rfl rfl ?_
                refine V.ialdN (j := s) (v := (layC s 0 bits M) 59 s) dX8_sheet_88 rfl (by omega) (by decide) rfl rfl rfl ?_
                exact V.ret dX8_sheet_89 rfl rfl ⟨(by first | (simp (decide := true) [cSheet, c8, c12, c18, c40, d40, c53, d53, es, ek, c69]; done) | (simp (decide := true) [cSheet, c8, c12, c18, c40, c40, c53, c53, es, ek, c69]; done) | (simp (decide := true) [cSheet, c8, c12, c18, c40, d40, c53, d53, es, ek, c69, c40, c53]; done) | (simp_all (decide := true) [cSheet]; done) | (simp_all (decide := true) [cSheet, ltF, leF, ltFN, leFN]; done)), (by first | (simp (decide := true) [cSheet, c8, c12, c18, c40, d40, c53, d53, es, ek, c69]; done) | (simp (decide := true) [cSheet, c8, c12, c18, c40, c40, c53, c53, es, ek, c69]; done) | (simp (decide := true) [cSheet, c8, c12, c18, c40, d40, c53, d53, es, ek, c69, c40, c53]; done) | (simp_all (decide := true) [cSheet]; done) | (simp_all (decide := true) [cSheet, ltF, leF, ltFN, leFN]; done))⟩
          · have d53 := Int32.not_le.mp c53
            refine V.aload_n dX8_sheet_56 rfl rfl rfl ?_
            refine V.iconst (v := 0) dX8_sheet_57 rfl rfl ?_
            refine V.callv_i (M1 := cfd 0 M) (v := -1000001) (md' := m_X8_finding) (As := [.int 0]) (rest := []) dX8_sheet_58 ml_X8_67 mo_X8_finding ⟨Nat.le_of_ble_eq_true rfl, Nat.le_of_ble_eq_true rfl⟩ rfl ⟨_, _, rfl⟩ (Nat.le_of_ble_eq_true rfl) rfl rfl (Nat.le_of_ble_eq_true rfl) (v_X8_finding (w := 0) (by decide) (f := -1000001) (by decide +kernel) _) rfl ?_
            exact V.ret dX8_sheet_61 rfl rfl ⟨(by first | (simp (decide := true) [cSheet, c8, c12, c18, c40, d40, c53, d53]; done) | (simp (decide := true) [cSheet, c8, c12, c18, c40, c40, c53, c53]; done) | (simp (decide := true) [cSheet, c8, c12, c18, c40, d40, c53, d53, c40, c53]; done) | (simp_all (decide := true) [cSheet]; done) | (simp_all (decide := true) [cSheet, ltF, leF, ltFN, leFN]; done)), (by first | (simp (decide := true) [cSheet, c8, c12, c18, c40, d40, c53, d53]; done) | (simp (decide := true) [cSheet, c8, c12, c18, c40, c40, c53, c53]; done) | (simp (decide := true) [cSheet, c8, c12, c18, c40, d40, c53, d53, c40, c53]; done) | (simp_all (decide := true) [cSheet]; done) | (simp_all (decide := true) [cSheet, ltF, leF, ltFN, leFN]; done))⟩
        · have d40 := Int32.not_le.mp c40
          refine V.aload_n dX8_sheet_43 rfl rfl rfl ?_
          refine V.bipush (v := 6) dX8_sheet_44 (by decide) rfl ?_
          refine V.callv_i (M1 := cfd 6 M) (v := -1000007) (md' := m_X8_finding) (As := [.int 6]) (rest := []) dX8_sheet_46 ml_X8_67 mo_X8_finding ⟨Nat.le_of_ble_eq_true rfl, Nat.le_of_ble_eq_true rfl⟩ rfl ⟨_, _, rfl⟩ (Nat.le_of_ble_eq_true rfl) rfl rfl (Nat.le_of_ble_eq_true rfl) (v_X8_finding (w := 6) (by decide) (f := -1000007) (by decide +kernel) _) rfl ?_
          exact V.ret dX8_sheet_49 rfl rfl ⟨(by first | (simp (decide := true) [cSheet, c8, c12, c18, c40, d40]; done) | (simp (decide := true) [cSheet, c8, c12, c18, c40, c40]; done) | (simp (decide := true) [cSheet, c8, c12, c18, c40, d40, c40]; done) | (simp_all (decide := true) [cSheet]; done) | (simp_all (decide := true) [cSheet, ltF, leF, ltFN, leFN]; done)), (by first | (simp (decide := true) [cSheet, c8, c12, c18, c40, d40]; done) | (simp (decide := true) [cSheet, c8, c12, c18, c40, c40]; done) | (simp (decide := true) [cSheet, c8, c12, c18, c40, d40, c40]; done) | (simp_all (decide := true) [cSheet]; done) | (simp_all (decide := true) [cSheet, ltF, leF, ltFN, leFN]; done))⟩
      · skip
        refine V.iload_n dX8_sheet_21 rfl rfl rfl ?_
        refine V.bipush (v := 16) dX8_sheet_22 (by decide) rfl ?_
        refine V.icmp_eq (tgt := 39) dX8_sheet_24 rfl rfl (fun c24 => ?_) (fun c24 => ?_)
        · skip
          refine V.iload_n dX8_sheet_39 rfl rfl rfl ?_
          refine V.if_ge (tgt := 50) dX8_sheet_40 rfl rfl (fun c40 => ?_) (fun c40 => ?_)
          · have d40 := Int32.not_lt.mpr c40
            refine V.iload_n dX8_sheet_50 rfl rfl rfl ?_
            refine V.bipush (v := 40) dX8_sheet_51 (by decide) rfl ?_
            refine V.icmp_le (tgt := 62) dX8_sheet_53 rfl rfl (fun c53 => ?_) (fun c53 => ?_)
            · have d53 := Int32.not_lt.mpr c53
              obtain ⟨s, hs, rfl⟩ := of_isB c8
              · have es : (nI s).toNatClampNeg = s := nI_clamp (by omega)
                obtain ⟨k, hk, rfl⟩ := of_le40 d40 d53
                have ek : (nI k).toNatClampNeg = k := nI_clamp (by omega)
                refine V.aload_n dX8_sheet_62 rfl rfl rfl ?_
                refine V.getr dX8_sheet_63 fg_X8_51 rfl rfl rfl ?_
                refine V.iload_n dX8_sheet_66 rfl rfl rfl ?_
                refine V.iload_n dX8_sheet_67 rfl rfl rfl ?_
                refine V.iload_n dX8_sheet_68 rfl rfl rfl ?_
                refine V.if_ne (tgt := 76) dX8_sheet_69 rfl rfl (fun c69 => ?_) (fun c69 => ?_)
                · skip
                  refine V.iload_n dX8_sheet_76 rfl rfl rfl ?_
                  refine V.callv_v (M1 := layC s k bits M) (md' := m_X5_lay) (As := [.int (nI s), .int bits, .int (nI k)]) (rest := []) dX8_sheet_77 ml_X8_299 mo_X5_lay ⟨Nat.le_of_ble_eq_true rfl, Nat.le_of_ble_eq_true rfl⟩ rfl ⟨_, _, rfl⟩ (Nat.le_of_ble_eq_true rfl) rfl rfl (Nat.le_of_ble_eq_true rfl) (v_X5_lay (s := s) (z := k) (by omega) (by omega) bits M) rfl ?_
                  refine V.aload_n dX8_sheet_80 rfl rfl rfl ?_
                  refine V.getr dX8_sheet_81 fg_X8_51 rfl rfl rfl ?_
                  refine V.getr dX8_sheet_84 fg_X8_302 rfl rfl rfl ?_
                  refine V.iload_n dX8_sheet_87 rfl rfl rfl ?_
                  refine V.ialdN (j := s) (v := (layC s k bits M) 59 s) dX8_sheet_88 rfl (by omega) (by decide) rfl rfl rfl ?_
                  exact V.ret dX8_sheet_89 rfl rfl ⟨(by first | (simp (decide := true) [cSheet, c8, c12, c18, c24, c40, d40, c53, d53, es, ek, c69]; done) | (simp (decide := true) [cSheet, c8, c12, c18, c24, c40, c40, c53, c53, es, ek, c69]; done) | (simp (decide := true) [cSheet, c8, c12, c18, c24, c40, d40, c53, d53, es, ek, c69, c40, c53]; done) | (simp_all (decide := true) [cSheet]; done) | (simp_all (decide := true) [cSheet, ltF, leF, ltFN, leFN]; done)), (by first | (simp (decide := true) [cSheet, c8, c12, c18, c24, c40, d40, c53, d53, es, ek, c69]; done) | (simp (decide := true) [cSheet, c8, c12, c18, c24, c40, c40, c53, c53, es, ek, c69]; done) | (simp (decide := true) [cSheet, c8, c12, c18, c24, c40, d40, c53, d53, es, ek, c69, c40, c53]; done) | (simp_all (decide := true) [cSheet]; done) | (simp_all (decide := true) [cSheet, ltF, leF, ltFN, leFN]; done))⟩
                · skip
                  refine V.iconst (v := 0) dX8_sheet_72 rfl rfl ?_
                  refine V.goto (pc' := 77) dX8_sheet_73 rfl ?_
                  refine V.callv_v (M1 := layC s 0 bits M) (md' := m_X5_lay) (As := [.int (nI s), .int bits, .int 0]) (rest := []) dX8_sheet_77 ml_X8_299 mo_X5_lay ⟨Nat.le_of_ble_eq_true rfl, Nat.le_of_ble_eq_true rfl⟩ rfl ⟨_, _, rfl⟩ (Nat.le_of_ble_eq_true rfl) rfl rfl (Nat.le_of_ble_eq_true rfl) (v_X5_lay (s := s) (z := 0) (by omega) (by omega) bits M) rfl ?_
                  refine V.aload_n dX8_sheet_80 rfl rfl rfl ?_
                  refine V.getr dX8_sheet_81 fg_X8_51 rfl rfl rfl ?_
                  refine V.getr dX8_sheet_84 fg_X8_302 rfl rfl rfl ?_
                  refine V.iload_n dX8_sheet_87 rfl rfl rfl ?_
                  refine V.ialdN (j := s) (v := (layC s 0 bits M) 59 s) dX8_sheet_88 rfl (by omega) (by decide) rfl rfl rfl ?_
                  exact V.ret dX8_sheet_89 rfl rfl ⟨(by first | (simp (decide := true) [cSheet, c8, c12, c18, c24, c40, d40, c53, d53, es, ek, c69]; done) | (simp (decide := true) [cSheet, c8, c12, c18, c24, c40, c40, c53, c53, es, ek, c69]; done) | (simp (decide := true) [cSheet, c8, c12, c18, c24, c40, d40, c53, d53, es, ek, c69, c40, c53]; done) | (simp_all (decide := true) [cSheet]; done) | (simp_all (decide := true) [cSheet, ltF, leF, ltFN, leFN]; done)), (by first | (simp (decide := true) [cSheet, c8, c12, c18, c24, c40, d40, c53, d53, es, ek, c69]; done) | (simp (decide := true) [cSheet, c8, c12, c18, c24, c40, c40, c53, c53, es, ek, c69]; done) | (simp (decide := true) [cSheet, c8, c12, c18, c24, c40, d40, c53, d53, es, ek, c69, c40, c53]; done) | (simp_all (decide := true) [cSheet]; done) | (simp_all (decide := true) [cSheet, ltF, leF, ltFN, leFN]; done))⟩
            · have d53 := Int32.not_le.mp c53
              refine V.aload_n dX8_sheet_56 rfl rfl rfl ?_
              refine V.iconst (v := 0) dX8_sheet_57 rfl rfl ?_
              refine V.callv_i (M1 := cfd 0 M) (v := -1000001) (md' := m_X8_finding) (As := [.int 0]) (rest := []) dX8_sheet_58 ml_X8_67 mo_X8_finding ⟨Nat.le_of_ble_eq_true rfl, Nat.le_of_ble_eq_true rfl⟩ rfl ⟨_, _, rfl⟩ (Nat.le_of_ble_eq_true rfl) rfl rfl (Nat.le_of_ble_eq_true rfl) (v_X8_finding (w := 0) (by decide) (f := -1000001) (by decide +kernel) _) rfl ?_
              exact V.ret dX8_sheet_61 rfl rfl ⟨(by first | (simp (decide := true) [cSheet, c8, c12, c18, c24, c40, d40, c53, d53]; done) | (simp (decide := true) [cSheet, c8, c12, c18, c24, c40, c40, c53, c53]; done) | (simp (decide := true) [cSheet, c8, c12, c18, c24, c40, d40, c53, d53, c40, c53]; done) | (simp_all (decide := true) [cSheet]; done) | (simp_all (decide := true) [cSheet, ltF, leF, ltFN, leFN]; done)), (by first | (simp (decide := true) [cSheet, c8, c12, c18, c24, c40, d40, c53, d53]; done) | (simp (decide := true) [cSheet, c8, c12, c18, c24, c40, c40, c53, c53]; done) | (simp (decide := true) [cSheet, c8, c12, c18, c24, c40, d40, c53, d53, c40, c53]; done) | (simp_all (decide := true) [cSheet]; done) | (simp_all (decide := true) [cSheet, ltF, leF, ltFN, leFN]; done))⟩
          · have d40 := Int32.not_le.mp c40
            refine V.aload_n dX8_sheet_43 rfl rfl rfl ?_
            refine V.bipush (v := 6) dX8_sheet_44 (by decide) rfl ?_
            refine V.callv_i (M1 := cfd 6 M) (v := -1000007) (md' := m_X8_finding) (As := [.int 6]) (rest := []) dX8_sheet_46 ml_X8_67 mo_X8_finding ⟨Nat.le_of_ble_eq_true rfl, Nat.le_of_ble_eq_true rfl⟩ rfl ⟨_, _, rfl⟩ (Nat.le_of_ble_eq_true rfl) rfl rfl (Nat.le_of_ble_eq_true rfl) (v_X8_finding (w := 6) (by decide) (f := -1000007) (by decide +kernel) _) rfl ?_
            exact V.ret dX8_sheet_49 rfl rfl ⟨(by first | (simp (decide := true) [cSheet, c8, c12, c18, c24, c40, d40]; done) | (simp (decide := true) [cSheet, c8, c12, c18, c24, c40, c40]; done) | (simp (decide := true) [cSheet, c8, c12, c18, c24, c40, d40, c40]; done) | (simp_all (decide := true) [cSheet]; done) | (simp_all (decide := true) [cSheet, ltF, leF, ltFN, leFN]; done)), (by first | (simp (decide := true) [cSheet, c8, c12, c18, c24, c40, d40]; done) | (simp (decide := true) [cSheet, c8, c12, c18, c24, c40, c40]; done) | (simp (decide := true) [cSheet, c8, c12, c18, c24, c40, d40, c40]; done) | (simp_all (decide := true) [cSheet]; done) | (simp_all (decide := true) [cSheet, ltF, leF, ltFN, leFN]; done))⟩
        · skip
          refine V.iload_n dX8_sheet_27 rfl rfl rfl ?_
          refine V.bipush (v := 32) dX8_sheet_28 (by decide) rfl ?_
          refine V.icmp_eq (tgt := 39) dX8_sheet_30 rfl rfl (fun c30 => ?_) (fun c30 => ?_)
          · skip
            refine V.iload_n dX8_sheet_39 rfl rfl rfl ?_
            refine V.if_ge (tgt := 50) dX8_sheet_40 rfl rfl (fun c40 => ?_) (fun c40 => ?_)
            · have d40 := Int32.not_lt.mpr c40
              refine V.iload_n dX8_sheet_50 rfl rfl rfl ?_
              refine V.bipush (v := 40) dX8_sheet_51 (by decide) rfl ?_
              refine V.icmp_le (tgt := 62) dX8_sheet_53 rfl rfl (fun c53 => ?_) (fun c53 => ?_)
              · have d53 := Int32.not_lt.mpr c53
                obtain ⟨s, hs, rfl⟩ := of_isB c8
                · have es : (nI s).toNatClampNeg = s := nI_clamp (by omega)
                  obtain ⟨k, hk, rfl⟩ := of_le40 d40 d53
                  have ek : (nI k).toNatClampNeg = k := nI_clamp (by omega)
                  refine V.aload_n dX8_sheet_62 rfl rfl rfl ?_
                  refine V.getr dX8_sheet_63 fg_X8_51 rfl rfl rfl ?_
                  refine V.iload_n dX8_sheet_66 rfl rfl rfl ?_
                  refine V.iload_n dX8_sheet_67 rfl rfl rfl ?_
                  refine V.iload_n dX8_sheet_68 rfl rfl rfl ?_
                  refine V.if_ne (tgt := 76) dX8_sheet_69 rfl rfl (fun c69 => ?_) (fun c69 => ?_)
                  · skip
                    refine V.iload_n dX8_sheet_76 rfl rfl rfl ?_
                    refine V.callv_v (M1 := layC s k bits M) (md' := m_X5_lay) (As := [.int (nI s), .int bits, .int (nI k)]) (rest := []) dX8_sheet_77 ml_X8_299 mo_X5_lay ⟨Nat.le_of_ble_eq_true rfl, Nat.le_of_ble_eq_true rfl⟩ rfl ⟨_, _, rfl⟩ (Nat.le_of_ble_eq_true rfl) rfl rfl (Nat.le_of_ble_eq_true rfl) (v_X5_lay (s := s) (z := k) (by omega) (by omega) bits M) rfl ?_
                    refine V.aload_n dX8_sheet_80 rfl rfl rfl ?_
                    refine V.getr dX8_sheet_81 fg_X8_51 rfl rfl rfl ?_
                    refine V.getr dX8_sheet_84 fg_X8_302 rfl rfl rfl ?_
                    refine V.iload_n dX8_sheet_87 rfl rfl rfl ?_
                    refine V.ialdN (j := s) (v := (layC s k bits M) 59 s) dX8_sheet_88 rfl (by omega) (by decide) rfl rfl rfl ?_
                    exact V.ret dX8_sheet_89 rfl rfl ⟨(by first | (simp (decide := true) [cSheet, c8, c12, c18, c24, c30, c40, d40, c53, d53, es, ek, c69]; done) | (simp (decide := true) [cSheet, c8, c12, c18, c24, c30, c40, c40, c53, c53, es, ek, c69]; done) | (simp (decide := true) [cSheet, c8, c12, c18, c24, c30, c40, d40, c53, d53, es, ek, c69, c40, c53]; done) | (simp_all (decide := true) [cSheet]; done) | (simp_all (decide := true) [cSheet, ltF, leF, ltFN, leFN]; done)), (by first | (simp (decide := true) [cSheet, c8, c12, c18, c24, c30, c40, d40, c53, d53, es, ek, c69]; done) | (simp (decide := true) [cSheet, c8, c12, c18, c24, c30, c40, c40, c53, c53, es, ek, c69]; done) | (simp (decide := true) [cSheet, c8, c12, c18, c24, c30, c40, d40, c53, d53, es, ek, c69, c40, c53]; done) | (simp_all (decide := true) [cSheet]; done) | (simp_all (decide := true) [cSheet, ltF, leF, ltFN, leFN]; done))⟩
                  · skip
                    refine V.iconst (v := 0) dX8_sheet_72 rfl rfl ?_
                    refine V.goto (pc' := 77) dX8_sheet_73 rfl ?_
                    refine V.callv_v (M1 := layC s 0 bits M) (md' := m_X5_lay) (As := [.int (nI s), .int bits, .int 0]) (rest := []) dX8_sheet_77 ml_X8_299 mo_X5_lay ⟨Nat.le_of_ble_eq_true rfl, Nat.le_of_ble_eq_true rfl⟩ rfl ⟨_, _, rfl⟩ (Nat.le_of_ble_eq_true rfl) rfl rfl (Nat.le_of_ble_eq_true rfl) (v_X5_lay (s := s) (z := 0) (by omega) (by omega) bits M) rfl ?_
                    refine V.aload_n dX8_sheet_80 rfl rfl rfl ?_
                    refine V.getr dX8_sheet_81 fg_X8_51 rfl rfl rfl ?_
                    refine V.getr dX8_sheet_84 fg_X8_302 rfl rfl rfl ?_
                    refine V.iload_n dX8_sheet_87 rfl rfl rfl ?_
                    refine V.ialdN (j := s) (v := (layC s 0 bits M) 59 s) dX8_sheet_88 rfl (by omega) (by decide) rfl rfl rfl ?_
                    exact V.ret dX8_sheet_89 rfl rfl ⟨(by first | (simp (decide := true) [cSheet, c8, c12, c18, c24, c30, c40, d40, c53, d53, es, ek, c69]; done) | (simp (decide := true) [cSheet, c8, c12, c18, c24, c30, c40, c40, c53, c53, es, ek, c69]; done) | (simp (decide := true) [cSheet, c8, c12, c18, c24, c30, c40, d40, c53, d53, es, ek, c69, c40, c53]; done) | (simp_all (decide := true) [cSheet]; done) | (simp_all (decide := true) [cSheet, ltF, leF, ltFN, leFN]; done)), (by first | (simp (decide := true) [cSheet, c8, c12, c18, c24, c30, c40, d40, c53, d53, es, ek, c69]; done) | (simp (decide := true) [cSheet, c8, c12, c18, c24, c30, c40, c40, c53, c53, es, ek, c69]; done) | (simp (decide := true) [cSheet, c8, c12, c18, c24, c30, c40, d40, c53, d53, es, ek, c69, c40, c53]; done) | (simp_all (decide := true) [cSheet]; done) | (simp_all (decide := true) [cSheet, ltF, leF, ltFN, leFN]; done))⟩
              · have d53 := Int32.not_le.mp c53
                refine V.aload_n dX8_sheet_56 rfl rfl rfl ?_
                refine V.iconst (v := 0) dX8_sheet_57 rfl rfl ?_
                refine V.callv_i (M1 := cfd 0 M) (v := -1000001) (md' := m_X8_finding) (As := [.int 0]) (rest := []) dX8_sheet_58 ml_X8_67 mo_X8_finding ⟨Nat.le_of_ble_eq_true rfl, Nat.le_of_ble_eq_true rfl⟩ rfl ⟨_, _, rfl⟩ (Nat.le_of_ble_eq_true rfl) rfl rfl (Nat.le_of_ble_eq_true rfl) (v_X8_finding (w := 0) (by decide) (f := -1000001) (by decide +kernel) _) rfl ?_
                exact V.ret dX8_sheet_61 rfl rfl ⟨(by first | (simp (decide := true) [cSheet, c8, c12, c18, c24, c30, c40, d40, c53, d53]; done) | (simp (decide := true) [cSheet, c8, c12, c18, c24, c30, c40, c40, c53, c53]; done) | (simp (decide := true) [cSheet, c8, c12, c18, c24, c30, c40, d40, c53, d53, c40, c53]; done) | (simp_all (decide := true) [cSheet]; done) | (simp_all (decide := true) [cSheet, ltF, leF, ltFN, leFN]; done)), (by first | (simp (decide := true) [cSheet, c8, c12, c18, c24, c30, c40, d40, c53, d53]; done) | (simp (decide := true) [cSheet, c8, c12, c18, c24, c30, c40, c40, c53, c53]; done) | (simp (decide := true) [cSheet, c8, c12, c18, c24, c30, c40, d40, c53, d53, c40, c53]; done) | (simp_all (decide := true) [cSheet]; done) | (simp_all (decide := true) [cSheet, ltF, leF, ltFN, leFN]; done))⟩
            · have d40 := Int32.not_le.mp c40
              refine V.aload_n dX8_sheet_43 rfl rfl rfl ?_
              refine V.bipush (v := 6) dX8_sheet_44 (by decide) rfl ?_
              refine V.callv_i (M1 := cfd 6 M) (v := -1000007) (md' := m_X8_finding) (As := [.int 6]) (rest := []) dX8_sheet_46 ml_X8_67 mo_X8_finding ⟨Nat.le_of_ble_eq_true rfl, Nat.le_of_ble_eq_true rfl⟩ rfl ⟨_, _, rfl⟩ (Nat.le_of_ble_eq_true rfl) rfl rfl (Nat.le_of_ble_eq_true rfl) (v_X8_finding (w := 6) (by decide) (f := -1000007) (by decide +kernel) _) rfl ?_
              exact V.ret dX8_sheet_49 rfl rfl ⟨(by first | (simp (decide := true) [cSheet, c8, c12, c18, c24, c30, c40, d40]; done) | (simp (decide := true) [cSheet, c8, c12, c18, c24, c30, c40, c40]; done) | (simp (decide := true) [cSheet, c8, c12, c18, c24, c30, c40, d40, c40]; done) | (simp_all (decide := true) [cSheet]; done) | (simp_all (decide := true) [cSheet, ltF, leF, ltFN, leFN]; done)), (by first | (simp (decide := true) [cSheet, c8, c12, c18, c24, c30, c40, d40]; done) | (simp (decide := true) [cSheet, c8, c12, c18, c24, c30, c40, c40]; done) | (simp (decide := true) [cSheet, c8, c12, c18, c24, c30, c40, d40, c40]; done) | (simp_all (decide := true) [cSheet]; done) | (simp_all (decide := true) [cSheet, ltF, leF, ltFN, leFN]; done))⟩
          · skip
            refine V.aload_n dX8_sheet_33 rfl rfl rfl ?_
            refine V.iconst (v := 0) dX8_sheet_34 rfl rfl ?_
            refine V.callv_i (M1 := cfd 0 M) (v := -1000001) (md' := m_X8_finding) (As := [.int 0]) (rest := []) dX8_sheet_35 ml_X8_67 mo_X8_finding ⟨Nat.le_of_ble_eq_true rfl, Nat.le_of_ble_eq_true rfl⟩ rfl ⟨_, _, rfl⟩ (Nat.le_of_ble_eq_true rfl) rfl rfl (Nat.le_of_ble_eq_true rfl) (v_X8_finding (w := 0) (by decide) (f := -1000001) (by decide +kernel) _) rfl ?_
            exact V.ret dX8_sheet_38 rfl rfl ⟨(by first | (simp (decide := true) [cSheet, c8, c12, c18, c24, c30]; done) | (simp (decide := true) [cSheet, c8, c12, c18, c24, c30]; done) | (simp (decide := true) [cSheet, c8, c12, c18, c24, c30]; done) | (simp_all (decide := true) [cSheet]; done) | (simp_all (decide := true) [cSheet, ltF, leF, ltFN, leFN]; done)), (by first | (simp (decide := true) [cSheet, c8, c12, c18, c24, c30]; done) | (simp (decide := true) [cSheet, c8, c12, c18, c24, c30]; done) | (simp (decide := true) [cSheet, c8, c12, c18, c24, c30]; done) | (simp_all (decide := true) [cSheet]; done) | (simp_all (decide := true) [cSheet, ltF, leF, ltFN, leFN]; done))⟩
def cWrite (c : Nat) (x i v : Int32) (M : Mem) : Int32 × Mem := if ¬ isB 4 x then (-1000001, cfd 0 M) else if M 58 x.toNatClampNeg = 0 then (-1000006, cfd 5 M) else if ¬ isB (M 59 x.toNatClampNeg).toNatClampNeg i then (-1000001, cfd 0 M) else (1, setC x.toNatClampNeg i.toNatClampNeg v M)
theorem v_X8_write {c : Nat} (hc : c ≤ 10) (x i v : Int32) (M : Mem) (hM : M 2 5 = nI c) (hZ : ∀ k, k < 4 → ∃ z, z ≤ 40 ∧ M 59 k = nI z) : V m_X8_write 0 [(0, .ref 0), (1, .int x), (2, .int i), (3, .int v)] [] M (RT (some (.int ((cWrite c x i v M).1))) ((cWrite c x i v M).2)) := by
  refine V.aload_n dX8_write_0 rfl rfl rfl ?_
  refine V.getr dX8_write_1 fg_X8_51 rfl rfl rfl ?_
  refine V.iload_n dX8_write_4 rfl rfl rfl ?_
  refine V.callv_i (M1 := M) (v := if isB 4 x then 1 else 0) (md' := m_X5_isSheet) (As := [.int x]) (rest := []) dX8_write_5 ml_X8_296 mo_X5_isSheet ⟨Nat.le_of_ble_eq_true rfl, Nat.le_of_ble_eq_true rfl⟩ rfl ⟨_, _, rfl⟩ (Nat.le_of_ble_eq_true rfl) rfl rfl (Nat.le_of_ble_eq_true rfl) (v_X5_isSheet x _) rfl ?_
  refine V.ifb_ne (tgt := 17) dX8_write_8 rfl rfl (fun c8 => ?_) (fun c8 => ?_)
  · skip
    obtain ⟨k, hk, rfl⟩ := of_isB c8
    · have ek : (nI k).toNatClampNeg = k := nI_clamp (by omega)
      refine V.aload_n dX8_write_17 rfl rfl rfl ?_
      refine V.getr dX8_write_18 fg_X8_51 rfl rfl rfl ?_
      refine V.iload_n dX8_write_21 rfl rfl rfl ?_
      refine V.callv_i (M1 := M) (v := if M 58 k = 0 then 1 else 0) (md' := m_X5_isMissing) (As := [.int (nI k)]) (rest := []) dX8_write_22 ml_X8_305 mo_X5_isMissing ⟨Nat.le_of_ble_eq_true rfl, Nat.le_of_ble_eq_true rfl⟩ rfl ⟨_, _, rfl⟩ (Nat.le_of_ble_eq_true rfl) rfl rfl (Nat.le_of_ble_eq_true rfl) (v_X5_isMissing (s := k) (by omega) _) rfl ?_
      refine V.ifb_eq (tgt := 34) dX8_write_25 rfl rfl (fun c25 => ?_) (fun c25 => ?_)
      · skip
        obtain ⟨z, hz, ez⟩ := hZ k hk
        · have ezz : (nI z).toNatClampNeg = z := nI_clamp (by omega)
          refine V.iload_n dX8_write_34 rfl rfl rfl ?_
          refine V.if_lt (tgt := 51) dX8_write_35 rfl rfl (fun c35 => ?_) (fun c35 => ?_)
          · have d35 := Int32.not_le.mpr c35
            have hib : isB z i = false := by simpa using isB_n1 c35
            · skip
              refine V.aload_n dX8_write_51 rfl rfl rfl ?_
              refine V.iconst (v := 0) dX8_write_52 rfl rfl ?_
              refine V.callv_i (M1 := cfd 0 M) (v := -1000001) (md' := m_X8_finding) (As := [.int 0]) (rest := []) dX8_write_53 ml_X8_67 mo_X8_finding ⟨Nat.le_of_ble_eq_true rfl, Nat.le_of_ble_eq_true rfl⟩ rfl ⟨_, _, rfl⟩ (Nat.le_of_ble_eq_true rfl) rfl rfl (Nat.le_of_ble_eq_true rfl) (v_X8_finding (w := 0) (by decide) (f := -1000001) (by decide +kernel) _) rfl ?_
              exact V.ret dX8_write_56 rfl rfl ⟨(by first | (simp (decide := true) [cWrite, c8, ek, c25, ez, ezz, c35, d35, hib]; done) | (simp (decide := true) [cWrite, c8, ek, c25, ez, ezz, c35, c35, hib]; done) | (simp (decide := true) [cWrite, c8, ek, c25, ez, ezz, c35, d35, hib, c35]; done) | (simp_all (decide := true) [cWrite]; done) | (simp_all (decide := true) [cWrite, ltF, leF, ltFN, leFN]; done)), (by first | (simp (decide := true) [cWrite, c8, ek, c25, ez, ezz, c35, d35, hib]; done) | (simp (decide := true) [cWrite, c8, ek, c25, ez, ezz, c35, c35, hib]; done) | (simp (decide := true) [cWrite, c8, ek, c25, ez, ezz, c35, d35, hib, c35]; done) | (simp_all (decide := true) [cWrite]; done) | (simp_all (decide := true) [cWrite, ltF, leF, ltFN, leFN]; done))⟩
          · have d35 := Int32.not_lt.mp c35
            refine V.iload_n dX8_write_38 rfl rfl rfl ?_
            refine V.aload_n dX8_write_39 rfl rfl rfl ?_
            refine V.getr dX8_write_40 fg_X8_51 rfl rfl rfl ?_
            refine V.getr dX8_write_43 fg_X8_302 rfl rfl rfl ?_
            refine V.iload_n dX8_write_46 rfl rfl rfl ?_
            refine V.ialdN (j := k) (v := nI z) dX8_write_47 rfl (by omega) (by decide) rfl ez rfl ?_
            refine V.icmp_lt (tgt := 57) dX8_write_48 rfl rfl (fun c48 => ?_) (fun c48 => ?_)
            · have d48 := Int32.not_le.mpr c48
              obtain ⟨j, hj, rfl⟩ := of_isB (isB_p (c := z) (by omega) c35 (Int32.not_le.mpr c48))
              · have ej : (nI j).toNatClampNeg = j := nI_clamp (by omega)
                have hjb := isB_nI (c := z) (k := j) (by omega) hj
                refine V.aload_n dX8_write_57 rfl rfl rfl ?_
                refine V.getr dX8_write_58 fg_X8_51 rfl rfl rfl ?_
                refine V.iload_n dX8_write_61 rfl rfl rfl ?_
                refine V.iload_n dX8_write_62 rfl rfl rfl ?_
                refine V.iload_n dX8_write_63 rfl rfl rfl ?_
                refine V.callv_v (M1 := setC k j v M) (md' := m_X5_setNumber) (As := [.int (nI k), .int (nI j), .int v]) (rest := []) dX8_write_64 ml_X8_308 mo_X5_setNumber ⟨Nat.le_of_ble_eq_true rfl, Nat.le_of_ble_eq_true rfl⟩ rfl ⟨_, _, rfl⟩ (Nat.le_of_ble_eq_true rfl) rfl rfl (Nat.le_of_ble_eq_true rfl) (v_X5_setNumber (s := k) (i := j) (by omega) (by omega) v M) rfl ?_
                refine V.iconst (v := 1) dX8_write_67 rfl rfl ?_
                exact V.ret dX8_write_68 rfl rfl ⟨(by first | (simp (decide := true) [cWrite, c8, ek, c25, ez, ezz, c35, d35, c48, d48, ej, hjb]; done) | (simp (decide := true) [cWrite, c8, ek, c25, ez, ezz, c35, c35, c48, c48, ej, hjb]; done) | (simp (decide := true) [cWrite, c8, ek, c25, ez, ezz, c35, d35, c48, d48, ej, hjb, c35, c48]; done) | (simp_all (decide := true) [cWrite]; done) | (simp_all (decide := true) [cWrite, ltF, leF, ltFN, leFN]; done)), (by first | (simp (decide := true) [cWrite, c8, ek, c25, ez, ezz, c35, d35, c48, d48, ej, hjb]; done) | (simp (decide := true) [cWrite, c8, ek, c25, ez, ezz, c35, c35, c48, c48, ej, hjb]; done) | (simp (decide := true) [cWrite, c8, ek, c25, ez, ezz, c35, d35, c48, d48, ej, hjb, c35, c48]; done) | (simp_all (decide := true) [cWrite]; done) | (simp_all (decide := true) [cWrite, ltF, leF, ltFN, leFN]; done))⟩
            · have d48 := Int32.not_lt.mp c48
              have hib : isB z i = false := by simpa using isB_n2 (by omega) (Int32.not_lt.mp c48)
              · skip
                refine V.aload_n dX8_write_51 rfl rfl rfl ?_
                refine V.iconst (v := 0) dX8_write_52 rfl rfl ?_
                refine V.callv_i (M1 := cfd 0 M) (v := -1000001) (md' := m_X8_finding) (As := [.int 0]) (rest := []) dX8_write_53 ml_X8_67 mo_X8_finding ⟨Nat.le_of_ble_eq_true rfl, Nat.le_of_ble_eq_true rfl⟩ rfl ⟨_, _, rfl⟩ (Nat.le_of_ble_eq_true rfl) rfl rfl (Nat.le_of_ble_eq_true rfl) (v_X8_finding (w := 0) (by decide) (f := -1000001) (by decide +kernel) _) rfl ?_
                exact V.ret dX8_write_56 rfl rfl ⟨(by first | (simp (decide := true) [cWrite, c8, ek, c25, ez, ezz, c35, d35, c48, d48, hib]; done) | (simp (decide := true) [cWrite, c8, ek, c25, ez, ezz, c35, c35, c48, c48, hib]; done) | (simp (decide := true) [cWrite, c8, ek, c25, ez, ezz, c35, d35, c48, d48, hib, c35, c48]; done) | (simp_all (decide := true) [cWrite]; done) | (simp_all (decide := true) [cWrite, ltF, leF, ltFN, leFN]; done)), (by first | (simp (decide := true) [cWrite, c8, ek, c25, ez, ezz, c35, d35, c48, d48, hib]; done) | (simp (decide := true) [cWrite, c8, ek, c25, ez, ezz, c35, c35, c48, c48, hib]; done) | (simp (decide := true) [cWrite, c8, ek, c25, ez, ezz, c35, d35, c48, d48, hib, c35, c48]; done) | (simp_all (decide := true) [cWrite]; done) | (simp_all (decide := true) [cWrite, ltF, leF, ltFN, leFN]; done))⟩
      · skip
        refine V.aload_n dX8_write_28 rfl rfl rfl ?_
        refine V.iconst (v := 5) dX8_write_29 rfl rfl ?_
        refine V.callv_i (M1 := cfd 5 M) (v := -1000006) (md' := m_X8_finding) (As := [.int 5]) (rest := []) dX8_write_30 ml_X8_67 mo_X8_finding ⟨Nat.le_of_ble_eq_true rfl, Nat.le_of_ble_eq_true rfl⟩ rfl ⟨_, _, rfl⟩ (Nat.le_of_ble_eq_true rfl) rfl rfl (Nat.le_of_ble_eq_true rfl) (v_X8_finding (w := 5) (by decide) (f := -1000006) (by decide +kernel) _) rfl ?_
        exact V.ret dX8_write_33 rfl rfl ⟨(by first | (simp (decide := true) [cWrite, c8, ek, c25]; done) | (simp (decide := true) [cWrite, c8, ek, c25]; done) | (simp (decide := true) [cWrite, c8, ek, c25]; done) | (simp_all (decide := true) [cWrite]; done) | (simp_all (decide := true) [cWrite, ltF, leF, ltFN, leFN]; done)), (by first | (simp (decide := true) [cWrite, c8, ek, c25]; done) | (simp (decide := true) [cWrite, c8, ek, c25]; done) | (simp (decide := true) [cWrite, c8, ek, c25]; done) | (simp_all (decide := true) [cWrite]; done) | (simp_all (decide := true) [cWrite, ltF, leF, ltFN, leFN]; done))⟩
  · skip
    refine V.aload_n dX8_write_11 rfl rfl rfl ?_
    refine V.iconst (v := 0) dX8_write_12 rfl rfl ?_
    refine V.callv_i (M1 := cfd 0 M) (v := -1000001) (md' := m_X8_finding) (As := [.int 0]) (rest := []) dX8_write_13 ml_X8_67 mo_X8_finding ⟨Nat.le_of_ble_eq_true rfl, Nat.le_of_ble_eq_true rfl⟩ rfl ⟨_, _, rfl⟩ (Nat.le_of_ble_eq_true rfl) rfl rfl (Nat.le_of_ble_eq_true rfl) (v_X8_finding (w := 0) (by decide) (f := -1000001) (by decide +kernel) _) rfl ?_
    exact V.ret dX8_write_16 rfl rfl ⟨(by first | (simp (decide := true) [cWrite, c8]; done) | (simp (decide := true) [cWrite, c8]; done) | (simp (decide := true) [cWrite, c8]; done) | (simp_all (decide := true) [cWrite]; done) | (simp_all (decide := true) [cWrite, ltF, leF, ltFN, leFN]; done)), (by first | (simp (decide := true) [cWrite, c8]; done) | (simp (decide := true) [cWrite, c8]; done) | (simp (decide := true) [cWrite, c8]; done) | (simp_all (decide := true) [cWrite]; done) | (simp_all (decide := true) [cWrite, ltF, leF, ltFN, leFN]; done))⟩
theorem has_nat {z : Nat} {f n : Int32} (hz : z ≤ 40) (h : 0 ≤ f ∧ 0 ≤ n ∧ n ≤ nI z ∧ f ≤ nI z - n) : ∃ a b, f = nI a ∧ n = nI b ∧ a + b ≤ z := by
  obtain ⟨hf, hn, h1, h2⟩ := h
  obtain ⟨b, a, rfl, rfl, hab⟩ := cpy_nat (f := n) (n := f) hz hn hf h2
  exact ⟨a, b, rfl, rfl, by omega⟩
def cCopy (c : Nat) (x f y g n : Int32) (M : Mem) : Int32 × Mem := if ¬ (isB 4 x ∧ isB 4 y) then (-1000001, cfd 0 M) else if M 58 x.toNatClampNeg = 0 ∨ M 58 y.toNatClampNeg = 0 then (-1000006, cfd 5 M) else if ¬ M 58 x.toNatClampNeg = M 58 y.toNatClampNeg then (-1000003, cfd 2 M) else if ¬ (hasC x.toNatClampNeg f n M ∧ hasC y.toNatClampNeg g n M) then (-1000001, cfd 0 M) else (n, movC x.toNatClampNeg f.toNatClampNeg y.toNatClampNeg g.toNatClampNeg n.toNatClampNeg M)
theorem v_X8_copy {c : Nat} (hc : c ≤ 10) (x f y g n : Int32) (M : Mem) (hM : M 2 5 = nI c) (hZ : ∀ k, k < 4 → ∃ z, z ≤ 40 ∧ M 59 k = nI z) : V m_X8_copy 0 [(0, .ref 0), (1, .int x), (2, .int f), (3, .int y), (4, .int g), (5, .int n)] [] M (RT (some (.int ((cCopy c x f y g n M).1))) ((cCopy c x f y g n M).2)) := by
  refine V.aload_n dX8_copy_0 rfl rfl rfl ?_
  refine V.getr dX8_copy_1 fg_X8_51 rfl rfl rfl ?_
  refine V.iload_n dX8_copy_4 rfl rfl rfl ?_
  refine V.callv_i (M1 := M) (v := if isB 4 x then 1 else 0) (md' := m_X5_isSheet) (As := [.int x]) (rest := []) dX8_copy_5 ml_X8_296 mo_X5_isSheet ⟨Nat.le_of_ble_eq_true rfl, Nat.le_of_ble_eq_true rfl⟩ rfl ⟨_, _, rfl⟩ (Nat.le_of_ble_eq_true rfl) rfl rfl (Nat.le_of_ble_eq_true rfl) (v_X5_isSheet x _) rfl ?_
  refine V.ifb_eq (tgt := 22) dX8_copy_8 rfl rfl (fun c8 => ?_) (fun c8 => ?_)
  · skip
    refine V.aload_n dX8_copy_22 rfl rfl rfl ?_
    refine V.iconst (v := 0) dX8_copy_23 rfl rfl ?_
    refine V.callv_i (M1 := cfd 0 M) (v := -1000001) (md' := m_X8_finding) (As := [.int 0]) (rest := []) dX8_copy_24 ml_X8_67 mo_X8_finding ⟨Nat.le_of_ble_eq_true rfl, Nat.le_of_ble_eq_true rfl⟩ rfl ⟨_, _, rfl⟩ (Nat.le_of_ble_eq_true rfl) rfl rfl (Nat.le_of_ble_eq_true rfl) (v_X8_finding (w := 0) (by decide) (f := -1000001) (by decide +kernel) _) rfl ?_
    exact V.ret dX8_copy_27 rfl rfl ⟨(by first | (simp (decide := true) [cCopy, c8]; done) | (simp_all (decide := true) [cCopy]; done)), (by first | (simp (decide := true) [cCopy, c8]; done) | (simp_all (decide := true) [cCopy]; done))⟩
  · skip
    refine V.aload_n dX8_copy_11 rfl rfl rfl ?_
    refine V.getr dX8_copy_12 fg_X8_51 rfl rfl rfl ?_
    refine V.iload_n dX8_copy_15 rfl rfl rfl ?_
    refine V.callv_i (M1 := M) (v := if isB 4 y then 1 else 0) (md' := m_X5_isSheet) (As := [.int y]) (rest := []) dX8_copy_16 ml_X8_296 mo_X5_isSheet ⟨Nat.le_of_ble_eq_true rfl, Nat.le_of_ble_eq_true rfl⟩ rfl ⟨_, _, rfl⟩ (Nat.le_of_ble_eq_true rfl) rfl rfl (Nat.le_of_ble_eq_true rfl) (v_X5_isSheet y _) rfl ?_
    refine V.ifb_ne (tgt := 28) dX8_copy_19 rfl rfl (fun c19 => ?_) (fun c19 => ?_)
    · skip
      obtain ⟨s, hs, rfl⟩ := of_isB c8
      · have es : (nI s).toNatClampNeg = s := nI_clamp (by omega)
        obtain ⟨t, ht, rfl⟩ := of_isB c19
        have et : (nI t).toNatClampNeg = t := nI_clamp (by omega)
        refine V.aload_n dX8_copy_28 rfl rfl rfl ?_
        refine V.getr dX8_copy_29 fg_X8_51 rfl rfl rfl ?_
        refine V.iload_n dX8_copy_32 rfl rfl rfl ?_
        refine V.callv_i (M1 := M) (v := if M 58 s = 0 then 1 else 0) (md' := m_X5_isMissing) (As := [.int (nI s)]) (rest := []) dX8_copy_33 ml_X8_305 mo_X5_isMissing ⟨Nat.le_of_ble_eq_true rfl, Nat.le_of_ble_eq_true rfl⟩ rfl ⟨_, _, rfl⟩ (Nat.le_of_ble_eq_true rfl) rfl rfl (Nat.le_of_ble_eq_true rfl) (v_X5_isMissing (s := s) (by omega) _) rfl ?_
        refine V.ifb_ne (tgt := 50) dX8_copy_36 rfl rfl (fun c36 => ?_) (fun c36 => ?_)
        · skip
          refine V.aload_n dX8_copy_50 rfl rfl rfl ?_
          refine V.iconst (v := 5) dX8_copy_51 rfl rfl ?_
          refine V.callv_i (M1 := cfd 5 M) (v := -1000006) (md' := m_X8_finding) (As := [.int 5]) (rest := []) dX8_copy_52 ml_X8_67 mo_X8_finding ⟨Nat.le_of_ble_eq_true rfl, Nat.le_of_ble_eq_true rfl⟩ rfl ⟨_, _, rfl⟩ (Nat.le_of_ble_eq_true rfl) rfl rfl (Nat.le_of_ble_eq_true rfl) (v_X8_finding (w := 5) (by decide) (f := -1000006) (by decide +kernel) _) rfl ?_
          exact V.ret dX8_copy_55 rfl rfl ⟨(by first | (simp (decide := true) [cCopy, c8, c19, es, et, c36]; done) | (simp_all (decide := true) [cCopy]; done)), (by first | (simp (decide := true) [cCopy, c8, c19, es, et, c36]; done) | (simp_all (decide := true) [cCopy]; done))⟩
        · skip
          refine V.aload_n dX8_copy_39 rfl rfl rfl ?_
          refine V.getr dX8_copy_40 fg_X8_51 rfl rfl rfl ?_
          refine V.iload_n dX8_copy_43 rfl rfl rfl ?_
          refine V.callv_i (M1 := M) (v := if M 58 t = 0 then 1 else 0) (md' := m_X5_isMissing) (As := [.int (nI t)]) (rest := []) dX8_copy_44 ml_X8_305 mo_X5_isMissing ⟨Nat.le_of_ble_eq_true rfl, Nat.le_of_ble_eq_true rfl⟩ rfl ⟨_, _, rfl⟩ (Nat.le_of_ble_eq_true rfl) rfl rfl (Nat.le_of_ble_eq_true rfl) (v_X5_isMissing (s := t) (by omega) _) rfl ?_
          refine V.ifb_eq (tgt := 56) dX8_copy_47 rfl rfl (fun c47 => ?_) (fun c47 => ?_)
          · skip
            refine V.aload_n dX8_copy_56 rfl rfl rfl ?_
            refine V.getr dX8_copy_57 fg_X8_51 rfl rfl rfl ?_
            refine V.getr dX8_copy_60 fg_X8_311 rfl rfl rfl ?_
            refine V.iload_n dX8_copy_63 rfl rfl rfl ?_
            refine V.ialdN (j := s) (v := M 58 s) dX8_copy_64 rfl (by omega) (by decide) rfl rfl rfl ?_
            refine V.aload_n dX8_copy_65 rfl rfl rfl ?_
            refine V.getr dX8_copy_66 fg_X8_51 rfl rfl rfl ?_
            refine V.getr dX8_copy_69 fg_X8_311 rfl rfl rfl ?_
            refine V.iload_n dX8_copy_72 rfl rfl rfl ?_
            refine V.ialdN (j := t) (v := M 58 t) dX8_copy_73 rfl (by omega) (by decide) rfl rfl rfl ?_
            refine V.icmp_eq (tgt := 83) dX8_copy_74 rfl rfl (fun c74 => ?_) (fun c74 => ?_)
            · skip
              refine V.aload_n dX8_copy_83 rfl rfl rfl ?_
              refine V.getr dX8_copy_84 fg_X8_51 rfl rfl rfl ?_
              refine V.iload_n dX8_copy_87 rfl rfl rfl ?_
              refine V.iload_n dX8_copy_88 rfl rfl rfl ?_
              refine V.iload dX8_copy_89 rfl rfl ?_
              refine V.callv_i (M1 := M) (v := if hasC s f n M then 1 else 0) (md' := m_X5_hasNumbers) (As := [.int (nI s), .int f, .int n]) (rest := []) dX8_copy_91 ml_X8_314 mo_X5_hasNumbers ⟨Nat.le_of_ble_eq_true rfl, Nat.le_of_ble_eq_true rfl⟩ rfl ⟨_, _, rfl⟩ (Nat.le_of_ble_eq_true rfl) rfl rfl (Nat.le_of_ble_eq_true rfl) (v_X5_hasNumbers (s := s) (by omega) f n _) rfl ?_
              refine V.ifb_eq (tgt := 112) dX8_copy_94 rfl rfl (fun c94 => ?_) (fun c94 => ?_)
              · skip
                refine V.aload_n dX8_copy_112 rfl rfl rfl ?_
                refine V.iconst (v := 0) dX8_copy_113 rfl rfl ?_
                refine V.callv_i (M1 := cfd 0 M) (v := -1000001) (md' := m_X8_finding) (As := [.int 0]) (rest := []) dX8_copy_114 ml_X8_67 mo_X8_finding ⟨Nat.le_of_ble_eq_true rfl, Nat.le_of_ble_eq_true rfl⟩ rfl ⟨_, _, rfl⟩ (Nat.le_of_ble_eq_true rfl) rfl rfl (Nat.le_of_ble_eq_true rfl) (v_X8_finding (w := 0) (by decide) (f := -1000001) (by decide +kernel) _) rfl ?_
                exact V.ret dX8_copy_117 rfl rfl ⟨(by first | (simp (decide := true) [cCopy, c8, c19, es, et, c36, c47, c74, c94]; done) | (simp_all (decide := true) [cCopy]; done)), (by first | (simp (decide := true) [cCopy, c8, c19, es, et, c36, c47, c74, c94]; done) | (simp_all (decide := true) [cCopy]; done))⟩
              · skip
                refine V.aload_n dX8_copy_97 rfl rfl rfl ?_
                refine V.getr dX8_copy_98 fg_X8_51 rfl rfl rfl ?_
                refine V.iload_n dX8_copy_101 rfl rfl rfl ?_
                refine V.iload dX8_copy_102 rfl rfl ?_
                refine V.iload dX8_copy_104 rfl rfl ?_
                refine V.callv_i (M1 := M) (v := if hasC t g n M then 1 else 0) (md' := m_X5_hasNumbers) (As := [.int (nI t), .int g, .int n]) (rest := []) dX8_copy_106 ml_X8_314 mo_X5_hasNumbers ⟨Nat.le_of_ble_eq_true rfl, Nat.le_of_ble_eq_true rfl⟩ rfl ⟨_, _, rfl⟩ (Nat.le_of_ble_eq_true rfl) rfl rfl (Nat.le_of_ble_eq_true rfl) (v_X5_hasNumbers (s := t) (by omega) g n _) rfl ?_
                refine V.ifb_ne (tgt := 118) dX8_copy_109 rfl rfl (fun c109 => ?_) (fun c109 => ?_)
                · skip
                  obtain ⟨zs, hzs, ezs⟩ := hZ s (by omega)
                  · obtain ⟨zt, hzt, ezt⟩ := hZ t (by omega)
                    have hp : cCopy c (nI s) f (nI t) g n M = (n, movC s f.toNatClampNeg t g.toNatClampNeg n.toNatClampNeg M) := by simp only [cCopy, es, et]; simp [c8, c19, c36, c47, c74, c94, c109]
                    rw [hp]
                    have q1 := of_decide_eq_true c94
                    have q2 := of_decide_eq_true c109
                    rw [ezs] at q1
                    rw [ezt] at q2
                    obtain ⟨a, b, rfl, rfl, hab⟩ := has_nat hzs q1
                    obtain ⟨a2, b2, rfl, hb2, hab2⟩ := has_nat hzt q2
                    have ebb : b = b2 := (nI_eq (by omega) (by omega)).mp hb2
                    have ea : (nI a).toNatClampNeg = a := nI_clamp (by omega)
                    have ea2 : (nI a2).toNatClampNeg = a2 := nI_clamp (by omega)
                    have eb : (nI b).toNatClampNeg = b := nI_clamp (by omega)
                    rw [ea, ea2, eb]
                    refine V.aload_n dX8_copy_118 rfl rfl rfl ?_
                    refine V.getr dX8_copy_119 fg_X8_51 rfl rfl rfl ?_
                    refine V.iload_n dX8_copy_122 rfl rfl rfl ?_
                    refine V.iload_n dX8_copy_123 rfl rfl rfl ?_
                    refine V.iload_n dX8_copy_124 rfl rfl rfl ?_
                    refine V.iload dX8_copy_125 rfl rfl ?_
                    refine V.iload dX8_copy_127 rfl rfl ?_
                    refine V.callv_v (M1 := movC s a t a2 b M) (md' := m_X5_move) (As := [.int (nI s), .int (nI a), .int (nI t), .int (nI a2), .int (nI b)]) (rest := []) dX8_copy_129 ml_X8_317 mo_X5_move ⟨Nat.le_of_ble_eq_true rfl, Nat.le_of_ble_eq_true rfl⟩ rfl ⟨_, _, rfl⟩ (Nat.le_of_ble_eq_true rfl) rfl rfl (Nat.le_of_ble_eq_true rfl) (v_X5_move (s := s) (f := a) (t := t) (g := a2) (n := b) (by omega) (by omega) (by omega) (by omega) M) rfl ?_
                    refine V.iload dX8_copy_132 rfl rfl ?_
                    exact V.ret dX8_copy_134 rfl rfl ⟨rfl, rfl⟩
                · skip
                  refine V.aload_n dX8_copy_112 rfl rfl rfl ?_
                  refine V.iconst (v := 0) dX8_copy_113 rfl rfl ?_
                  refine V.callv_i (M1 := cfd 0 M) (v := -1000001) (md' := m_X8_finding) (As := [.int 0]) (rest := []) dX8_copy_114 ml_X8_67 mo_X8_finding ⟨Nat.le_of_ble_eq_true rfl, Nat.le_of_ble_eq_true rfl⟩ rfl ⟨_, _, rfl⟩ (Nat.le_of_ble_eq_true rfl) rfl rfl (Nat.le_of_ble_eq_true rfl) (v_X8_finding (w := 0) (by decide) (f := -1000001) (by decide +kernel) _) rfl ?_
                  exact V.ret dX8_copy_117 rfl rfl ⟨(by first | (simp (decide := true) [cCopy, c8, c19, es, et, c36, c47, c74, c94, c109]; done) | (simp_all (decide := true) [cCopy]; done)), (by first | (simp (decide := true) [cCopy, c8, c19, es, et, c36, c47, c74, c94, c109]; done) | (simp_all (decide := true) [cCopy]; done))⟩
            · skip
              refine V.aload_n dX8_copy_77 rfl rfl rfl ?_
              refine V.iconst (v := 2) dX8_copy_78 rfl rfl ?_
              refine V.callv_i (M1 := cfd 2 M) (v := -1000003) (md' := m_X8_finding) (As := [.int 2]) (rest := []) dX8_copy_79 ml_X8_67 mo_X8_finding ⟨Nat.le_of_ble_eq_true rfl, Nat.le_of_ble_eq_true rfl⟩ rfl ⟨_, _, rfl⟩ (Nat.le_of_ble_eq_true rfl) rfl rfl (Nat.le_of_ble_eq_true rfl) (v_X8_finding (w := 2) (by decide) (f := -1000003) (by decide +kernel) _) rfl ?_
              exact V.ret dX8_copy_82 rfl rfl ⟨(by first | (simp (decide := true) [cCopy, c8, c19, es, et, c36, c47, c74]; done) | (simp_all (decide := true) [cCopy]; done)), (by first | (simp (decide := true) [cCopy, c8, c19, es, et, c36, c47, c74]; done) | (simp_all (decide := true) [cCopy]; done))⟩
          · skip
            refine V.aload_n dX8_copy_50 rfl rfl rfl ?_
            refine V.iconst (v := 5) dX8_copy_51 rfl rfl ?_
            refine V.callv_i (M1 := cfd 5 M) (v := -1000006) (md' := m_X8_finding) (As := [.int 5]) (rest := []) dX8_copy_52 ml_X8_67 mo_X8_finding ⟨Nat.le_of_ble_eq_true rfl, Nat.le_of_ble_eq_true rfl⟩ rfl ⟨_, _, rfl⟩ (Nat.le_of_ble_eq_true rfl) rfl rfl (Nat.le_of_ble_eq_true rfl) (v_X8_finding (w := 5) (by decide) (f := -1000006) (by decide +kernel) _) rfl ?_
            exact V.ret dX8_copy_55 rfl rfl ⟨(by first | (simp (decide := true) [cCopy, c8, c19, es, et, c36, c47]; done) | (simp_all (decide := true) [cCopy]; done)), (by first | (simp (decide := true) [cCopy, c8, c19, es, et, c36, c47]; done) | (simp_all (decide := true) [cCopy]; done))⟩
    · skip
      refine V.aload_n dX8_copy_22 rfl rfl rfl ?_
      refine V.iconst (v := 0) dX8_copy_23 rfl rfl ?_
      refine V.callv_i (M1 := cfd 0 M) (v := -1000001) (md' := m_X8_finding) (As := [.int 0]) (rest := []) dX8_copy_24 ml_X8_67 mo_X8_finding ⟨Nat.le_of_ble_eq_true rfl, Nat.le_of_ble_eq_true rfl⟩ rfl ⟨_, _, rfl⟩ (Nat.le_of_ble_eq_true rfl) rfl rfl (Nat.le_of_ble_eq_true rfl) (v_X8_finding (w := 0) (by decide) (f := -1000001) (by decide +kernel) _) rfl ?_
      exact V.ret dX8_copy_27 rfl rfl ⟨(by first | (simp (decide := true) [cCopy, c8, c19]; done) | (simp_all (decide := true) [cCopy]; done)), (by first | (simp (decide := true) [cCopy, c8, c19]; done) | (simp_all (decide := true) [cCopy]; done))⟩
theorem mn_z (z c : Nat) : mnN z c ≤ z := by unfold mnN; split <;> omega
theorem mn_I {z c : Nat} (hz : z < 2 ^ 31) (hc : c < 2 ^ 31) : (if nI c < nI z then nI c else nI z) = nI (mnN z c) := by
  by_cases h : c < z
  · rw [if_pos ((nI_ltI hc hz).mpr h), mnN, if_neg (by omega)]
  · rw [if_neg (fun q => h ((nI_ltI hc hz).mp q)), mnN]
    by_cases h2 : z < c
    · rw [if_pos h2]
    · rw [if_neg h2, show z = c by omega]
def loadC (s z c : Nat) : Nat → Nat → Mem → Int32 × Mem
  | 0, i, M => (nI (mnN z c), M)
  | n + 1, i, M => if rng 0 9 (M 60 (s * 40 + i)) then loadC s z c n (i + 1) (ms M 4 i (M 60 (s * 40 + i))) else (nI i, M)
theorem l_X8_load {s z c : Nat} (hs : s < 4) (hz : z ≤ 40) (hc : c ≤ 10) (hmn : mnN z c ≤ 10) : ∀ (n i : Nat) (M : Mem), i + n = mnN z c → V m_X8_load 59 [(0, .ref 0), (1, .int (nI s)), (2, .int (nI (mnN z c))), (3, .int (nI i))] [] M (RT (some (.int ((loadC s z c n i M).1))) ((loadC s z c n i M).2)) := by
  intro n
  induction n with
  | zero =>
    intro i M hi
    refine V.iload_n dX8_load_59 rfl rfl rfl ?_
    refine V.iload_n dX8_load_60 rfl rfl rfl ?_
    refine V.icmp_ge (tgt := 108) dX8_load_61 rfl rfl (fun c61 => ?_) (fun c61 => absurd ((nI_leI (a := mnN z c) (b := i) (by omega) (by omega)).mpr (by omega)) c61)
    have c61 : mnN z c ≤ i := (nI_leI (a := mnN z c) (b := i) (by omega) (by omega)).mp c61
    refine V.iload_n dX8_load_108 rfl rfl rfl ?_
    exact V.ret dX8_load_109 rfl rfl ⟨rfl, rfl⟩
  | succ n ih =>
    intro i M hi
    refine V.iload_n dX8_load_59 rfl rfl rfl ?_
    refine V.iload_n dX8_load_60 rfl rfl rfl ?_
    refine V.icmp_ge (tgt := 108) dX8_load_61 rfl rfl (fun c61 => absurd ((nI_leI (a := mnN z c) (b := i) (by omega) (by omega)).mp c61) (by omega)) (fun c61 => ?_)
    have c61 : ¬ mnN z c ≤ i := fun zq => c61 ((nI_leI (a := mnN z c) (b := i) (by omega) (by omega)).mpr zq)
    refine V.aload_n dX8_load_64 rfl rfl rfl ?_
    refine V.getr dX8_load_65 fg_X8_51 rfl rfl rfl ?_
    refine V.iload_n dX8_load_68 rfl rfl rfl ?_
    refine V.iload_n dX8_load_69 rfl rfl rfl ?_
    refine V.callv_i (M1 := M) (v := M 60 (s * 40 + i)) (md' := m_X5_numberAt) (As := [.int (nI s), .int (nI i)]) (rest := []) dX8_load_70 ml_X8_321 mo_X5_numberAt ⟨Nat.le_of_ble_eq_true rfl, Nat.le_of_ble_eq_true rfl⟩ rfl ⟨_, _, rfl⟩ (Nat.le_of_ble_eq_true rfl) rfl rfl (Nat.le_of_ble_eq_true rfl) (v_X5_numberAt (s := s) (i := i) (by omega) (by have := mn_z z c; omega) _) rfl ?_
    refine V.ist dX8_load_73 (by decide) (L' := [(0, .ref 0), (1, .int (nI s)), (2, .int (nI (mnN z c))), (3, .int (nI i)), (4, .int (M 60 (s * 40 + i)))]) rfl rfl ?_
    refine V.iload dX8_load_75 rfl rfl ?_
    refine V.iconst (v := 0) dX8_load_77 rfl rfl ?_
    refine V.bipush (v := 9) dX8_load_78 (by decide) rfl ?_
    refine V.calls_i (M1 := M) (v := if rng 0 9 (M 60 (s * 40 + i)) then 1 else 0) (md' := m_X8_within) (As := [.int (M 60 (s * 40 + i)), .int 0, .int 9]) (rest := []) dX8_load_80 ml_X8_63 mo_X8_within ⟨Nat.le_of_ble_eq_true rfl, Nat.le_of_ble_eq_true rfl⟩ (Nat.le_of_ble_eq_true rfl) rfl rfl (Nat.le_of_ble_eq_true rfl) (v_X8_within (x := M 60 (s * 40 + i)) (a := 0) (b := 9) rfl rfl _) rfl ?_
    refine V.ifb_ne (tgt := 88) dX8_load_83 rfl rfl (fun c83 => ?_) (fun c83 => ?_)
    · skip
      refine V.aload_n dX8_load_88 rfl rfl rfl ?_
      refine V.getr dX8_load_89 fg_X8_10 rfl rfl rfl ?_
      refine V.getr dX8_load_92 fg_X8_71 rfl rfl rfl ?_
      refine V.getr dX8_load_95 fg_X8_91 rfl rfl rfl ?_
      refine V.iload_n dX8_load_98 rfl rfl rfl ?_
      refine V.iload dX8_load_99 rfl rfl ?_
      refine V.iastN (j := i) dX8_load_101 rfl (by omega) (by decide) rfl (M' := (ms M 4 i (M 60 (s * 40 + i)))) rfl rfl ?_
      refine V.inc (v := nI (i + 1)) dX8_load_102 rfl (nI_1 _) (by decide) (L' := [(0, .ref 0), (1, .int (nI s)), (2, .int (nI (mnN z c))), (3, .int (nI (i + 1))), (4, .int (M 60 (s * 40 + i)))]) rfl rfl ?_
      refine V.goto (pc' := 59) dX8_load_105 rfl ?_
      refine V.loc (L' := [(0, .ref 0), (1, .int (nI s)), (2, .int (nI (mnN z c))), (3, .int (nI (i + 1)))]) (fun zq zh => List.mem_append_left [(4, Value.int (M 60 (s * 40 + i)))] zh) ?_
      rw [show loadC s z c (n + 1) i M = loadC s z c n (i + 1) (ms M 4 i (M 60 (s * 40 + i))) from by simp only [loadC]; rw [if_pos c83]]
      exact ih (i + 1) _ (by omega)
    · skip
      refine V.iload_n dX8_load_86 rfl rfl rfl ?_
      exact V.ret dX8_load_87 rfl rfl ⟨(by simp only [loadC]; rw [if_neg c83]), (by simp only [loadC]; rw [if_neg c83])⟩
def cLoad (c : Nat) (x : Int32) (M : Mem) : Int32 × Mem := if ¬ isB 4 x then (-1000001, cfd 0 M) else if M 58 x.toNatClampNeg = 0 then (-1000006, cfd 5 M) else loadC x.toNatClampNeg (M 59 x.toNatClampNeg).toNatClampNeg c (mnN (M 59 x.toNatClampNeg).toNatClampNeg c) 0 M
theorem v_X8_load {c : Nat} (hc : c ≤ 10) (x : Int32) (M : Mem) (hM : M 2 5 = nI c) (hZ : ∀ k, k < 4 → ∃ z, z ≤ 40 ∧ M 59 k = nI z) : V m_X8_load 0 [(0, .ref 0), (1, .int x)] [] M (RT (some (.int ((cLoad c x M).1))) ((cLoad c x M).2)) := by
  refine V.aload_n dX8_load_0 rfl rfl rfl ?_
  refine V.getr dX8_load_1 fg_X8_51 rfl rfl rfl ?_
  refine V.iload_n dX8_load_4 rfl rfl rfl ?_
  refine V.callv_i (M1 := M) (v := if isB 4 x then 1 else 0) (md' := m_X5_isSheet) (As := [.int x]) (rest := []) dX8_load_5 ml_X8_296 mo_X5_isSheet ⟨Nat.le_of_ble_eq_true rfl, Nat.le_of_ble_eq_true rfl⟩ rfl ⟨_, _, rfl⟩ (Nat.le_of_ble_eq_true rfl) rfl rfl (Nat.le_of_ble_eq_true rfl) (v_X5_isSheet x _) rfl ?_
  refine V.ifb_ne (tgt := 17) dX8_load_8 rfl rfl (fun c8 => ?_) (fun c8 => ?_)
  · skip
    obtain ⟨k, hk, rfl⟩ := of_isB c8
    · have ek : (nI k).toNatClampNeg = k := nI_clamp (by omega)
      refine V.aload_n dX8_load_17 rfl rfl rfl ?_
      refine V.getr dX8_load_18 fg_X8_51 rfl rfl rfl ?_
      refine V.iload_n dX8_load_21 rfl rfl rfl ?_
      refine V.callv_i (M1 := M) (v := if M 58 k = 0 then 1 else 0) (md' := m_X5_isMissing) (As := [.int (nI k)]) (rest := []) dX8_load_22 ml_X8_305 mo_X5_isMissing ⟨Nat.le_of_ble_eq_true rfl, Nat.le_of_ble_eq_true rfl⟩ rfl ⟨_, _, rfl⟩ (Nat.le_of_ble_eq_true rfl) rfl rfl (Nat.le_of_ble_eq_true rfl) (v_X5_isMissing (s := k) (by omega) _) rfl ?_
      refine V.ifb_eq (tgt := 34) dX8_load_25 rfl rfl (fun c25 => ?_) (fun c25 => ?_)
      · skip
        obtain ⟨z, hz, ez⟩ := hZ k hk
        · have ezz : (nI z).toNatClampNeg = z := nI_clamp (by omega)
          refine V.aload_n dX8_load_34 rfl rfl rfl ?_
          refine V.getr dX8_load_35 fg_X8_51 rfl rfl rfl ?_
          refine V.getr dX8_load_38 fg_X8_302 rfl rfl rfl ?_
          refine V.iload_n dX8_load_41 rfl rfl rfl ?_
          refine V.ialdN (j := k) (v := nI z) dX8_load_42 rfl (by omega) (by decide) rfl ez rfl ?_
          refine V.aload_n dX8_load_43 rfl rfl rfl ?_
          refine V.getr dX8_load_44 fg_X8_10 rfl rfl rfl ?_
          refine V.getr dX8_load_47 fg_X8_71 rfl rfl rfl ?_
          refine V.geti (v := nI c) dX8_load_50 fg_X8_224 rfl rfl hM rfl ?_
          refine V.mmin (v := nI (mnN z c)) dX8_load_53 mm_X8_250 ⟨Nat.le_of_ble_eq_true rfl, Nat.le_of_ble_eq_true rfl⟩ (mn_I (by omega) (by omega)) rfl ?_
          refine V.ist_n dX8_load_56 rfl (by decide) (L' := [(0, .ref 0), (1, .int (nI k)), (2, .int (nI (mnN z c)))]) rfl rfl ?_
          refine V.iconst (v := 0) dX8_load_57 rfl rfl ?_
          refine V.ist_n dX8_load_58 rfl (by decide) (L' := [(0, .ref 0), (1, .int (nI k)), (2, .int (nI (mnN z c))), (3, .int 0)]) rfl rfl ?_
          rw [show cLoad c (nI k) M = loadC k z c (mnN z c) 0 M from by simp [cLoad, ek, ez, ezz, c8, c25]]
          exact l_X8_load hk hz hc (by unfold mnN; split <;> omega) (mnN z c) 0 M (by omega)
      · skip
        refine V.aload_n dX8_load_28 rfl rfl rfl ?_
        refine V.iconst (v := 5) dX8_load_29 rfl rfl ?_
        refine V.callv_i (M1 := cfd 5 M) (v := -1000006) (md' := m_X8_finding) (As := [.int 5]) (rest := []) dX8_load_30 ml_X8_67 mo_X8_finding ⟨Nat.le_of_ble_eq_true rfl, Nat.le_of_ble_eq_true rfl⟩ rfl ⟨_, _, rfl⟩ (Nat.le_of_ble_eq_true rfl) rfl rfl (Nat.le_of_ble_eq_true rfl) (v_X8_finding (w := 5) (by decide) (f := -1000006) (by decide +kernel) _) rfl ?_
        exact V.ret dX8_load_33 rfl rfl ⟨(by first | (simp (decide := true) [cLoad, c8, ek, c25]; done) | (simp (decide := true) [cLoad, c8, ek, c25]; done) | (simp (decide := true) [cLoad, c8, ek, c25]; done) | (simp_all (decide := true) [cLoad]; done) | (simp_all (decide := true) [cLoad, ltF, leF, ltFN, leFN]; done)), (by first | (simp (decide := true) [cLoad, c8, ek, c25]; done) | (simp (decide := true) [cLoad, c8, ek, c25]; done) | (simp (decide := true) [cLoad, c8, ek, c25]; done) | (simp_all (decide := true) [cLoad]; done) | (simp_all (decide := true) [cLoad, ltF, leF, ltFN, leFN]; done))⟩
  · skip
    refine V.aload_n dX8_load_11 rfl rfl rfl ?_
    refine V.iconst (v := 0) dX8_load_12 rfl rfl ?_
    refine V.callv_i (M1 := cfd 0 M) (v := -1000001) (md' := m_X8_finding) (As := [.int 0]) (rest := []) dX8_load_13 ml_X8_67 mo_X8_finding ⟨Nat.le_of_ble_eq_true rfl, Nat.le_of_ble_eq_true rfl⟩ rfl ⟨_, _, rfl⟩ (Nat.le_of_ble_eq_true rfl) rfl rfl (Nat.le_of_ble_eq_true rfl) (v_X8_finding (w := 0) (by decide) (f := -1000001) (by decide +kernel) _) rfl ?_
    exact V.ret dX8_load_16 rfl rfl ⟨(by first | (simp (decide := true) [cLoad, c8]; done) | (simp (decide := true) [cLoad, c8]; done) | (simp (decide := true) [cLoad, c8]; done) | (simp_all (decide := true) [cLoad]; done) | (simp_all (decide := true) [cLoad, ltF, leF, ltFN, leFN]; done)), (by first | (simp (decide := true) [cLoad, c8]; done) | (simp (decide := true) [cLoad, c8]; done) | (simp (decide := true) [cLoad, c8]; done) | (simp_all (decide := true) [cLoad]; done) | (simp_all (decide := true) [cLoad, ltF, leF, ltFN, leFN]; done))⟩
