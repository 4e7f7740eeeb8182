/-! The reference: its object is 62, its row of ints s is 63 -/
def rng (a b : Int) (x : Int32) : Bool := decide (a ≤ x.toInt ∧ x.toInt ≤ b)
def isB (c : Nat) (x : Int32) : Bool := decide (0 ≤ x.toInt ∧ x.toInt < (c : Int))
theorem rng_def {a b : Int} {x : Int32} : rng a b x = true ↔ a ≤ x.toInt ∧ x.toInt ≤ b := decide_eq_true_iff
theorem isB_def {c : Nat} {x : Int32} : isB c x = true ↔ 0 ≤ x.toInt ∧ x.toInt < (c : Int) := decide_eq_true_iff
theorem rng_isB {c : Nat} {x : Int32} : rng 0 (c - 1) x = true ↔ isB c x = true := by
  rw [rng_def, isB_def]
  exact ⟨fun h => ⟨h.1, by have := h.2; omega⟩, fun h => ⟨h.1, by have := h.2; omega⟩⟩
theorem ifC {P Q : Prop} [Decidable P] [Decidable Q] (h : P ↔ Q) : (if P then (1 : Int32) else 0) = if Q then 1 else 0 := by
  by_cases p : P
  · rw [if_pos p, if_pos (h.mp p)]
  · rw [if_neg p, if_neg (fun q => p (h.mpr q))]
def col (M : Mem) (w : Nat) : Nat → Int32 := fun b => M 63 (20 + 5 * b + w)
def cco (M : Mem) (w : Nat) : Nat → Int32 := fun b => M 63 (70 + 3 * b + w)
theorem i64_le {x : Int32} {l : Int64} {a : Int} (h : l.toInt = a) : l ≤ x.toInt64 ↔ a ≤ x.toInt := by
  rw [Int64.le_iff_toInt_le, h, Int32.toInt_toInt64]
theorem i64_ge {x : Int32} {l : Int64} {a : Int} (h : l.toInt = a) : x.toInt64 ≤ l ↔ x.toInt ≤ a := by
  rw [Int64.le_iff_toInt_le, h, Int32.toInt_toInt64]
theorem v_X9_in0 (v lo hi : Int64) (M : Mem) : V m_X9_in 0 [(0, .long v), (2, .long lo), (4, .long hi)] [] M (RT (some (.int (if lo ≤ v ∧ v ≤ hi then 1 else 0))) M) := by
  refine V.lload_n dX9_in_0 rfl rfl rfl ?_
  refine V.lload_n dX9_in_1 rfl rfl rfl ?_
  refine V.lcmp dX9_in_2 rfl ?_
  refine V.if_lt (tgt := 17) dX9_in_3 rfl rfl (fun c3 => ?_) (fun c3 => ?_)
  · have d3 : ¬ lo ≤ v := Int64.not_le.mpr ((lg_cmp_lt v lo).mp c3)
    refine V.iconst (v := 0) dX9_in_17 rfl rfl ?_
    exact V.ret dX9_in_18 rfl rfl ⟨(by simp [*]), rfl⟩
  · have d3 : lo ≤ v := Int64.not_lt.mp (fun q => c3 ((lg_cmp_lt v lo).mpr q))
    refine V.lload_n dX9_in_6 rfl rfl rfl ?_
    refine V.lload dX9_in_7 rfl rfl ?_
    refine V.lcmp dX9_in_9 rfl ?_
    refine V.if_gt (tgt := 17) dX9_in_10 rfl rfl (fun c10 => ?_) (fun c10 => ?_)
    · have d10 : ¬ v ≤ hi := Int64.not_le.mpr ((lg_cmp_gt v hi).mp c10)
      refine V.iconst (v := 0) dX9_in_17 rfl rfl ?_
      exact V.ret dX9_in_18 rfl rfl ⟨(by simp [*]), rfl⟩
    · have d10 : v ≤ hi := Int64.not_lt.mp (fun q => c10 ((lg_cmp_gt v hi).mpr q))
      refine V.iconst (v := 1) dX9_in_13 rfl rfl ?_
      refine V.goto (pc' := 18) dX9_in_14 rfl ?_
      exact V.ret dX9_in_18 rfl rfl ⟨(by simp [*]), rfl⟩
theorem v_X9_in {x : Int32} {lo hi : Int64} {a b : Int} (ha : lo.toInt = a) (hb : hi.toInt = b) (M : Mem) : V m_X9_in 0 [(0, .long x.toInt64), (2, .long lo), (4, .long hi)] [] M (RT (some (.int (if rng a b x then 1 else 0))) M) := by
  have h := v_X9_in0 x.toInt64 lo hi M
  rw [show (if lo ≤ x.toInt64 ∧ x.toInt64 ≤ hi then (1 : Int32) else 0) = if rng a b x then 1 else 0 from
    ifC (by rw [rng_def, i64_le ha, i64_ge hb])] at h
  exact h
def fdM (w : Nat) (M : Mem) : Mem := ms M 66 w (M 66 w + 1)
theorem v_X9_finds {w : Nat} (hw : w < 7) (f : Int32) (hf : -1000001 - f = nI w) (M : Mem) : V m_X9_finds 0 [(0, .ref 62), (1, .int f)] [] M (RT (some (.int f)) (fdM w M)) := by
  refine V.aload_n dX9_finds_0 rfl rfl rfl ?_
  refine V.getr dX9_finds_1 fg_X9_19 rfl rfl rfl ?_
  refine V.ldc (v := -1000001) dX9_finds_4 cn_X9_37 rfl ?_
  refine V.iload_n dX9_finds_6 rfl rfl rfl ?_
  refine V.isub (v := nI w) dX9_finds_7 hf rfl ?_
  refine V.dup2 dX9_finds_8 rfl rfl rfl ?_
  refine V.ialdN (j := w) (v := M 66 w) dX9_finds_9 rfl (by omega) (by decide) rfl rfl rfl ?_
  refine V.iconst (v := 1) dX9_finds_10 rfl rfl ?_
  refine V.iadd (v := (M 66 w) + 1) dX9_finds_11 rfl rfl ?_
  refine V.iastN (j := w) dX9_finds_12 rfl (by omega) (by decide) rfl (M' := (ms M 66 w ((M 66 w) + 1))) rfl rfl ?_
  refine V.iload_n dX9_finds_13 rfl rfl rfl ?_
  exact V.ret dX9_finds_14 rfl rfl ⟨rfl, rfl⟩
theorem v_X9_where (b w : Nat) (M : Mem) : V m_X9_where 0 [(0, .int (nI b)), (1, .int (nI w))] [] M (RT (some (.int (nI (20 + 5 * b + w)))) M) := by
  refine V.bipush (v := 20) dX9_where_0 (by decide) rfl ?_
  refine V.iconst (v := 5) dX9_where_2 rfl rfl ?_
  refine V.iload_n dX9_where_3 rfl rfl rfl ?_
  refine V.imul (v := nI (5 * b)) dX9_where_4 (pk_mul 5 b) rfl ?_
  refine V.iadd (v := nI (20 + 5 * b)) dX9_where_5 (nI_add 20 (5 * b)) rfl ?_
  refine V.iload_n dX9_where_6 rfl rfl rfl ?_
  refine V.iadd (v := nI ((20 + 5 * b) + w)) dX9_where_7 (nI_add _ _) rfl ?_
  exact V.ret dX9_where_8 rfl rfl ⟨rfl, rfl⟩
theorem v_X9_its {b w : Nat} (hb : b < 10) (hw : w < 5) (M : Mem) : V m_X9_its 0 [(0, .ref 62), (1, .int (nI b)), (2, .int (nI w))] [] M (RT (some (.int (M 63 (20 + 5 * b + w)))) M) := by
  refine V.aload_n dX9_its_0 rfl rfl rfl ?_
  refine V.getr dX9_its_1 fg_X9_7 rfl rfl rfl ?_
  refine V.iload_n dX9_its_4 rfl rfl rfl ?_
  refine V.iload_n dX9_its_5 rfl rfl rfl ?_
  refine V.calls_i (M1 := M) (v := nI (20 + 5 * b + w)) (md' := m_X9_where) (As := [.int (nI b), .int (nI w)]) (rest := [.ref 63]) dX9_its_6 ml_X9_45 mo_X9_where ⟨Nat.le_of_ble_eq_true rfl, Nat.le_of_ble_eq_true rfl⟩ (Nat.le_of_ble_eq_true rfl) rfl rfl (Nat.le_of_ble_eq_true rfl) (v_X9_where b w _) rfl ?_
  refine V.ialdN (j := 20 + 5 * b + w) (v := M 63 (20 + 5 * b + w)) dX9_its_9 rfl (by omega) (by decide) rfl rfl rfl ?_
  exact V.ret dX9_its_10 rfl rfl ⟨rfl, rfl⟩
theorem v_X9_who (b w : Nat) (M : Mem) : V m_X9_who 0 [(0, .int (nI b)), (1, .int (nI w))] [] M (RT (some (.int (nI (70 + 3 * b + w)))) M) := by
  refine V.bipush (v := 70) dX9_who_0 (by decide) rfl ?_
  refine V.iconst (v := 3) dX9_who_2 rfl rfl ?_
  refine V.iload_n dX9_who_3 rfl rfl rfl ?_
  refine V.imul (v := nI (3 * b)) dX9_who_4 (pk_mul 3 b) rfl ?_
  refine V.iadd (v := nI (70 + 3 * b)) dX9_who_5 (nI_add 70 (3 * b)) rfl ?_
  refine V.iload_n dX9_who_6 rfl rfl rfl ?_
  refine V.iadd (v := nI ((70 + 3 * b) + w)) dX9_who_7 (nI_add _ _) rfl ?_
  exact V.ret dX9_who_8 rfl rfl ⟨rfl, rfl⟩
theorem v_X9_told {b w : Nat} (hb : b < 12) (hw : w < 3) (M : Mem) : V m_X9_told 0 [(0, .ref 62), (1, .int (nI b)), (2, .int (nI w))] [] M (RT (some (.int (M 63 (70 + 3 * b + w)))) M) := by
  refine V.aload_n dX9_told_0 rfl rfl rfl ?_
  refine V.getr dX9_told_1 fg_X9_7 rfl rfl rfl ?_
  refine V.iload_n dX9_told_4 rfl rfl rfl ?_
  refine V.iload_n dX9_told_5 rfl rfl rfl ?_
  refine V.calls_i (M1 := M) (v := nI (70 + 3 * b + w)) (md' := m_X9_who) (As := [.int (nI b), .int (nI w)]) (rest := [.ref 63]) dX9_told_6 ml_X9_134 mo_X9_who ⟨Nat.le_of_ble_eq_true rfl, Nat.le_of_ble_eq_true rfl⟩ (Nat.le_of_ble_eq_true rfl) rfl rfl (Nat.le_of_ble_eq_true rfl) (v_X9_who b w _) rfl ?_
  refine V.ialdN (j := 70 + 3 * b + w) (v := M 63 (70 + 3 * b + w)) dX9_told_9 rfl (by omega) (by decide) rfl rfl rfl ?_
  exact V.ret dX9_told_10 rfl rfl ⟨rfl, rfl⟩
theorem cm1 {c : Nat} (h : c ≤ 100) : (nI c - 1).toInt64.toInt = (c : Int) - 1 := by
  rw [Int32.toInt_toInt64, show (1 : Int32) = nI 1 from rfl, pk_sub_toInt (by omega) (by decide)]; rfl
theorem v_X9_isBatch {c : Nat} (hc : c ≤ 10) (x : Int32) (M : Mem) (hM : M 63 1 = nI c) : V m_X9_isBatch 0 [(0, .ref 62), (1, .int x)] [] M (RT (some (.int (if isB c x then 1 else 0))) M) := by
  refine V.iload_n dX9_isBatch_0 rfl rfl rfl ?_
  refine V.i2l (v := Int32.toInt64 x) dX9_isBatch_1 rfl rfl ?_
  refine V.lconst (v := 0) dX9_isBatch_2 rfl rfl ?_
  refine V.aload_n dX9_isBatch_3 rfl rfl rfl ?_
  refine V.getr dX9_isBatch_4 fg_X9_7 rfl rfl rfl ?_
  refine V.iconst (v := 1) dX9_isBatch_7 rfl rfl ?_
  refine V.ialdN (j := 1) (v := nI c) dX9_isBatch_8 rfl (by decide) (by decide) rfl hM rfl ?_
  refine V.iconst (v := 1) dX9_isBatch_9 rfl rfl ?_
  refine V.isub (v := nI c - 1) dX9_isBatch_10 rfl rfl ?_
  refine V.i2l (v := Int32.toInt64 (nI c - 1)) dX9_isBatch_11 rfl rfl ?_
  refine V.calls_i (M1 := M) (v := if rng 0 (c - 1) x then 1 else 0) (md' := m_X9_in) (As := [.long (Int32.toInt64 x), .long 0, .long (Int32.toInt64 (nI c - 1))]) (rest := []) dX9_isBatch_12 ml_X9_38 mo_X9_in ⟨Nat.le_of_ble_eq_true rfl, Nat.le_of_ble_eq_true rfl⟩ (Nat.le_of_ble_eq_true rfl) rfl rfl (Nat.le_of_ble_eq_true rfl) (v_X9_in (x := x) (lo := 0) (hi := (nI c - 1).toInt64) (a := 0) (b := c - 1) rfl (cm1 (by omega)) _) rfl ?_
  exact V.ret dX9_isBatch_15 rfl (nb_if _) ⟨(congrArg (fun z => some (Value.int z)) (ifC rng_isB)), rfl⟩
theorem v_X9_isCrowd {c : Nat} (hc : c ≤ 12) (x : Int32) (M : Mem) (h2 : M 63 2 = nI c) : V m_X9_isCrowd 0 [(0, .ref 62), (1, .int x)] [] M (RT (some (.int (if isB c x then 1 else 0))) M) := by
  refine V.iload_n dX9_isCrowd_0 rfl rfl rfl ?_
  refine V.i2l (v := Int32.toInt64 x) dX9_isCrowd_1 rfl rfl ?_
  refine V.lconst (v := 0) dX9_isCrowd_2 rfl rfl ?_
  refine V.aload_n dX9_isCrowd_3 rfl rfl rfl ?_
  refine V.getr dX9_isCrowd_4 fg_X9_7 rfl rfl rfl ?_
  refine V.iconst (v := 2) dX9_isCrowd_7 rfl rfl ?_
  refine V.ialdN (j := 2) (v := nI c) dX9_isCrowd_8 rfl (by decide) (by decide) rfl h2 rfl ?_
  refine V.iconst (v := 1) dX9_isCrowd_9 rfl rfl ?_
  refine V.isub (v := nI c - 1) dX9_isCrowd_10 rfl rfl ?_
  refine V.i2l (v := Int32.toInt64 (nI c - 1)) dX9_isCrowd_11 rfl rfl ?_
  refine V.calls_i (M1 := M) (v := if rng 0 (c - 1) x then 1 else 0) (md' := m_X9_in) (As := [.long (Int32.toInt64 x), .long 0, .long (Int32.toInt64 (nI c - 1))]) (rest := []) dX9_isCrowd_12 ml_X9_38 mo_X9_in ⟨Nat.le_of_ble_eq_true rfl, Nat.le_of_ble_eq_true rfl⟩ (Nat.le_of_ble_eq_true rfl) rfl rfl (Nat.le_of_ble_eq_true rfl) (v_X9_in (x := x) (lo := 0) (hi := (nI c - 1).toInt64) (a := 0) (b := c - 1) rfl (cm1 (by omega)) _) rfl ?_
  exact V.ret dX9_isCrowd_15 rfl (nb_if _) ⟨(congrArg (fun z => some (Value.int z)) (ifC rng_isB)), rfl⟩
theorem v_X9_isCorner (x : Int32) (M : Mem) : V m_X9_isCorner 0 [(0, .int x)] [] M (RT (some (.int (if rng 0 3 x then 1 else 0))) M) := by
  refine V.iload_n dX9_isCorner_0 rfl rfl rfl ?_
  refine V.i2l (v := Int32.toInt64 x) dX9_isCorner_1 rfl rfl ?_
  refine V.lconst (v := 0) dX9_isCorner_2 rfl rfl ?_
  refine V.ldc2 (v := 3) dX9_isCorner_3 cl_X9_42 rfl ?_
  refine V.calls_i (M1 := M) (v := if rng 0 3 x then 1 else 0) (md' := m_X9_in) (As := [.long (Int32.toInt64 x), .long 0, .long 3]) (rest := []) dX9_isCorner_6 ml_X9_38 mo_X9_in ⟨Nat.le_of_ble_eq_true rfl, Nat.le_of_ble_eq_true rfl⟩ (Nat.le_of_ble_eq_true rfl) rfl rfl (Nat.le_of_ble_eq_true rfl) (v_X9_in (x := x) (a := 0) (b := 3) rfl rfl _) rfl ?_
  exact V.ret dX9_isCorner_9 rfl (nb_if _) ⟨rfl, rfl⟩
def mDrawM (M : Mem) : Mem := ms M 63 3 (M 63 3 * 1103515245 + 12345)
def rowG (k2 k1 : Nat) : Nat → Nat → Mem → Mem
  | 0, _, M => M
  | n + 1, i, M => rowG k2 k1 n (i + 1) (ms M k2 i (M k1 i))
theorem v_X9_draw (M : Mem) : V m_X9_draw 0 [(0, .ref 62)] [] M (RT (some (.int (drawF (M 63 3 * 1103515245 + 12345)))) (mDrawM M)) := by
  refine V.aload_n dX9_draw_0 rfl rfl rfl ?_
  refine V.getr dX9_draw_1 fg_X9_7 rfl rfl rfl ?_
  refine V.iconst (v := 3) dX9_draw_4 rfl rfl ?_
  refine V.aload_n dX9_draw_5 rfl rfl rfl ?_
  refine V.getr dX9_draw_6 fg_X9_7 rfl rfl rfl ?_
  refine V.iconst (v := 3) dX9_draw_9 rfl rfl ?_
  refine V.ialdN (j := 3) (v := M 63 3) dX9_draw_10 rfl (by decide) (by decide) rfl rfl rfl ?_
  refine V.ldc (v := 1103515245) dX9_draw_11 cn_X9_44 rfl ?_
  refine V.imul (v := (M 63 3) * 1103515245) dX9_draw_13 rfl rfl ?_
  refine V.sipush (v := 12345) dX9_draw_14 (by decide) rfl ?_
  refine V.iadd (v := ((M 63 3) * 1103515245) + 12345) dX9_draw_17 rfl rfl ?_
  refine V.iastN (j := 3) dX9_draw_18 rfl (by decide) (by decide) rfl (M' := (ms M 63 3 (((M 63 3) * 1103515245) + 12345))) rfl rfl ?_
  refine V.aload_n dX9_draw_19 rfl rfl rfl ?_
  refine V.getr dX9_draw_20 fg_X9_7 rfl rfl rfl ?_
  refine V.iconst (v := 3) dX9_draw_23 rfl rfl ?_
  refine V.ialdN (j := 3) (v := ((M 63 3) * 1103515245) + 12345) dX9_draw_24 rfl (by decide) (by decide) rfl (by simp [ms]) rfl ?_
  refine V.bipush (v := 8) dX9_draw_25 (by decide) rfl ?_
  refine V.iushr (v := (Int32.toUInt32 (((M 63 3) * 1103515245) + 12345) >>> (Int32.toUInt32 8 &&& Int32.toUInt32 31)).toInt32) dX9_draw_27 rfl rfl ?_
  exact V.ret dX9_draw_28 rfl rfl ⟨rfl, rfl⟩
theorem l_X9_saves  : ∀ (n i : Nat) (M : Mem), i + n = 116 → V m_X9_saves 2 [(0, .ref 62), (1, .int (nI i))] [] M (RT none (rowG 65 63 n i M)) := by
  intro n
  induction n with
  | zero =>
    intro i M hi
    refine V.iload_n dX9_saves_2 rfl rfl rfl ?_
    refine V.bipush (v := 116) dX9_saves_3 (by decide) rfl ?_
    refine V.icmp_ge (tgt := 26) dX9_saves_5 rfl rfl (fun c5 => ?_) (fun c5 => absurd ((nI_leI (a := 116) (b := i) (by omega) (by omega)).mpr (by omega)) c5)
    have c5 : 116 ≤ i := (nI_leI (a := 116) (b := i) (by omega) (by omega)).mp c5
    exact V.vret dX9_saves_26 rfl ⟨rfl, rfl⟩
  | succ n ih =>
    intro i M hi
    refine V.iload_n dX9_saves_2 rfl rfl rfl ?_
    refine V.bipush (v := 116) dX9_saves_3 (by decide) rfl ?_
    refine V.icmp_ge (tgt := 26) dX9_saves_5 rfl rfl (fun c5 => absurd ((nI_leI (a := 116) (b := i) (by omega) (by omega)).mp c5) (by omega)) (fun c5 => ?_)
    have c5 : ¬ 116 ≤ i := fun zq => c5 ((nI_leI (a := 116) (b := i) (by omega) (by omega)).mpr zq)
    refine V.aload_n dX9_saves_8 rfl rfl rfl ?_
    refine V.getr dX9_saves_9 fg_X9_16 rfl rfl rfl ?_
    refine V.iload_n dX9_saves_12 rfl rfl rfl ?_
    refine V.aload_n dX9_saves_13 rfl rfl rfl ?_
    refine V.getr dX9_saves_14 fg_X9_7 rfl rfl rfl ?_
    refine V.iload_n dX9_saves_17 rfl rfl rfl ?_
    refine V.ialdN (j := i) (v := M 63 i) dX9_saves_18 rfl (by omega) (by decide) rfl rfl rfl ?_
    refine V.iastN (j := i) dX9_saves_19 rfl (by omega) (by decide) rfl (M' := (ms M 65 i (M 63 i))) rfl rfl ?_
    refine V.inc (v := nI (i + 1)) dX9_saves_20 rfl (nI_1 _) (by decide) (L' := [(0, .ref 62), (1, .int (nI (i + 1)))]) rfl rfl ?_
    refine V.goto (pc' := 2) dX9_saves_23 rfl ?_
    exact ih (i + 1) _ (by omega)
theorem v_X9_saves (M : Mem) : V m_X9_saves 0 [(0, .ref 62)] [] M (RT none (rowG 65 63 116 0 M)) := by
  refine V.iconst (v := 0) dX9_saves_0 rfl rfl ?_
  refine V.ist_n dX9_saves_1 rfl (by decide) (L' := [(0, .ref 62), (1, .int 0)]) rfl rfl ?_
  exact l_X9_saves 116 0 M rfl
theorem l_X9_putsBack  : ∀ (n i : Nat) (M : Mem), i + n = 116 → V m_X9_putsBack 2 [(0, .ref 62), (1, .int (nI i))] [] M (RT none (rowG 63 65 n i M)) := by
  intro n
  induction n with
  | zero =>
    intro i M hi
    refine V.iload_n dX9_putsBack_2 rfl rfl rfl ?_
    refine V.bipush (v := 116) dX9_putsBack_3 (by decide) rfl ?_
    refine V.icmp_ge (tgt := 26) dX9_putsBack_5 rfl rfl (fun c5 => ?_) (fun c5 => absurd ((nI_leI (a := 116) (b := i) (by omega) (by omega)).mpr (by omega)) c5)
    have c5 : 116 ≤ i := (nI_leI (a := 116) (b := i) (by omega) (by omega)).mp c5
    exact V.vret dX9_putsBack_26 rfl ⟨rfl, rfl⟩
  | succ n ih =>
    intro i M hi
    refine V.iload_n dX9_putsBack_2 rfl rfl rfl ?_
    refine V.bipush (v := 116) dX9_putsBack_3 (by decide) rfl ?_
    refine V.icmp_ge (tgt := 26) dX9_putsBack_5 rfl rfl (fun c5 => absurd ((nI_leI (a := 116) (b := i) (by omega) (by omega)).mp c5) (by omega)) (fun c5 => ?_)
    have c5 : ¬ 116 ≤ i := fun zq => c5 ((nI_leI (a := 116) (b := i) (by omega) (by omega)).mpr zq)
    refine V.aload_n dX9_putsBack_8 rfl rfl rfl ?_
    refine V.getr dX9_putsBack_9 fg_X9_7 rfl rfl rfl ?_
    refine V.iload_n dX9_putsBack_12 rfl rfl rfl ?_
    refine V.aload_n dX9_putsBack_13 rfl rfl rfl ?_
    refine V.getr dX9_putsBack_14 fg_X9_16 rfl rfl rfl ?_
    refine V.iload_n dX9_putsBack_17 rfl rfl rfl ?_
    refine V.ialdN (j := i) (v := M 65 i) dX9_putsBack_18 rfl (by omega) (by decide) rfl rfl rfl ?_
    refine V.iastN (j := i) dX9_putsBack_19 rfl (by omega) (by decide) rfl (M' := (ms M 63 i (M 65 i))) rfl rfl ?_
    refine V.inc (v := nI (i + 1)) dX9_putsBack_20 rfl (nI_1 _) (by decide) (L' := [(0, .ref 62), (1, .int (nI (i + 1)))]) rfl rfl ?_
    refine V.goto (pc' := 2) dX9_putsBack_23 rfl ?_
    exact ih (i + 1) _ (by omega)
theorem v_X9_putsBack (M : Mem) : V m_X9_putsBack 0 [(0, .ref 62)] [] M (RT none (rowG 63 65 116 0 M)) := by
  refine V.iconst (v := 0) dX9_putsBack_0 rfl rfl ?_
  refine V.ist_n dX9_putsBack_1 rfl (by decide) (L' := [(0, .ref 62), (1, .int 0)]) rfl rfl ?_
  exact l_X9_putsBack 116 0 M rfl
def mNewM (c : Nat) (k r p : Int32) (M : Mem) : Mem := ms (ms (ms (ms (ms (ms M 63 (20 + 5 * c) k) 63 (20 + 5 * c + 1) 9) 63 (20 + 5 * c + 2) r) 63 (20 + 5 * c + 3) 0) 63 (20 + 5 * c + 4) p) 63 1 (nI (c + 1))
def mNewC (c : Nat) (co mi ma : Int32) (M : Mem) : Mem := ms (ms (ms (ms M 63 (70 + 3 * c) co) 63 (70 + 3 * c + 1) mi) 63 (70 + 3 * c + 2) ma) 63 2 (nI (c + 1))
theorem v_X9_newBatch {c : Nat} (hc : c < 10) (k r p : Int32) (M : Mem) (hM : M 63 1 = nI c) : V m_X9_newBatch 0 [(0, .ref 62), (1, .int k), (2, .int r), (3, .int p)] [] M (RT (some (.int (nI c))) (mNewM c k r p M)) := by
  refine V.aload_n dX9_newBatch_0 rfl rfl rfl ?_
  refine V.getr dX9_newBatch_1 fg_X9_7 rfl rfl rfl ?_
  refine V.iconst (v := 1) dX9_newBatch_4 rfl rfl ?_
  refine V.ialdN (j := 1) (v := nI c) dX9_newBatch_5 rfl (by decide) (by decide) rfl hM rfl ?_
  refine V.ist dX9_newBatch_6 (by decide) (L' := [(0, .ref 62), (1, .int k), (2, .int r), (3, .int p), (4, .int (nI c))]) rfl rfl ?_
  refine V.aload_n dX9_newBatch_8 rfl rfl rfl ?_
  refine V.getr dX9_newBatch_9 fg_X9_7 rfl rfl rfl ?_
  refine V.iload dX9_newBatch_12 rfl rfl ?_
  refine V.iconst (v := 0) dX9_newBatch_14 rfl rfl ?_
  refine V.calls_i (M1 := M) (v := nI (20 + 5 * c)) (md' := m_X9_where) (As := [.int (nI c), .int 0]) (rest := [.ref 63]) dX9_newBatch_15 ml_X9_45 mo_X9_where ⟨Nat.le_of_ble_eq_true rfl, Nat.le_of_ble_eq_true rfl⟩ (Nat.le_of_ble_eq_true rfl) rfl rfl (Nat.le_of_ble_eq_true rfl) (v_X9_where c 0 _) rfl ?_
  refine V.iload_n dX9_newBatch_18 rfl rfl rfl ?_
  refine V.iastN (j := 20 + 5 * c) dX9_newBatch_19 rfl (by omega) (by decide) rfl (M' := (ms M 63 (20 + 5 * c) k)) rfl rfl ?_
  refine V.aload_n dX9_newBatch_20 rfl rfl rfl ?_
  refine V.getr dX9_newBatch_21 fg_X9_7 rfl rfl rfl ?_
  refine V.iload dX9_newBatch_24 rfl rfl ?_
  refine V.iconst (v := 1) dX9_newBatch_26 rfl rfl ?_
  refine V.calls_i (M1 := (ms M 63 (20 + 5 * c) k)) (v := nI (20 + 5 * c + 1)) (md' := m_X9_where) (As := [.int (nI c), .int 1]) (rest := [.ref 63]) dX9_newBatch_27 ml_X9_45 mo_X9_where ⟨Nat.le_of_ble_eq_true rfl, Nat.le_of_ble_eq_true rfl⟩ (Nat.le_of_ble_eq_true rfl) rfl rfl (Nat.le_of_ble_eq_true rfl) (v_X9_where c 1 _) rfl ?_
  refine V.bipush (v := 9) dX9_newBatch_30 (by decide) rfl ?_
  refine V.iastN (j := 20 + 5 * c + 1) dX9_newBatch_32 rfl (by omega) (by decide) rfl (M' := (ms (ms M 63 (20 + 5 * c) k) 63 (20 + 5 * c + 1) 9)) rfl rfl ?_
  refine V.aload_n dX9_newBatch_33 rfl rfl rfl ?_
  refine V.getr dX9_newBatch_34 fg_X9_7 rfl rfl rfl ?_
  refine V.iload dX9_newBatch_37 rfl rfl ?_
  refine V.iconst (v := 2) dX9_newBatch_39 rfl rfl ?_
  refine V.calls_i (M1 := (ms (ms M 63 (20 + 5 * c) k) 63 (20 + 5 * c + 1) 9)) (v := nI (20 + 5 * c + 2)) (md' := m_X9_where) (As := [.int (nI c), .int 2]) (rest := [.ref 63]) dX9_newBatch_40 ml_X9_45 mo_X9_where ⟨Nat.le_of_ble_eq_true rfl, Nat.le_of_ble_eq_true rfl⟩ (Nat.le_of_ble_eq_true rfl) rfl rfl (Nat.le_of_ble_eq_true rfl) (v_X9_where c 2 _) rfl ?_
  refine V.iload_n dX9_newBatch_43 rfl rfl rfl ?_
  refine V.iastN (j := 20 + 5 * c + 2) dX9_newBatch_44 rfl (by omega) (by decide) rfl (M' := (ms (ms (ms M 63 (20 + 5 * c) k) 63 (20 + 5 * c + 1) 9) 63 (20 + 5 * c + 2) r)) rfl rfl ?_
  refine V.aload_n dX9_newBatch_45 rfl rfl rfl ?_
  refine V.getr dX9_newBatch_46 fg_X9_7 rfl rfl rfl ?_
  refine V.iload dX9_newBatch_49 rfl rfl ?_
  refine V.iconst (v := 3) dX9_newBatch_51 rfl rfl ?_
  refine V.calls_i (M1 := (ms (ms (ms M 63 (20 + 5 * c) k) 63 (20 + 5 * c + 1) 9) 63 (20 + 5 * c + 2) r)) (v := nI (20 + 5 * c + 3)) (md' := m_X9_where) (As := [.int (nI c), .int 3]) (rest := [.ref 63]) dX9_newBatch_52 ml_X9_45 mo_X9_where ⟨Nat.le_of_ble_eq_true rfl, Nat.le_of_ble_eq_true rfl⟩ (Nat.le_of_ble_eq_true rfl) rfl rfl (Nat.le_of_ble_eq_true rfl) (v_X9_where c 3 _) rfl ?_
  refine V.iconst (v := 0) dX9_newBatch_55 rfl rfl ?_
  refine V.iastN (j := 20 + 5 * c + 3) dX9_newBatch_56 rfl (by omega) (by decide) rfl (M' := (ms (ms (ms (ms M 63 (20 + 5 * c) k) 63 (20 + 5 * c + 1) 9) 63 (20 + 5 * c + 2) r) 63 (20 + 5 * c + 3) 0)) rfl rfl ?_
  refine V.aload_n dX9_newBatch_57 rfl rfl rfl ?_
  refine V.getr dX9_newBatch_58 fg_X9_7 rfl rfl rfl ?_
  refine V.iload dX9_newBatch_61 rfl rfl ?_
  refine V.iconst (v := 4) dX9_newBatch_63 rfl rfl ?_
  refine V.calls_i (M1 := (ms (ms (ms (ms M 63 (20 + 5 * c) k) 63 (20 + 5 * c + 1) 9) 63 (20 + 5 * c + 2) r) 63 (20 + 5 * c + 3) 0)) (v := nI (20 + 5 * c + 4)) (md' := m_X9_where) (As := [.int (nI c), .int 4]) (rest := [.ref 63]) dX9_newBatch_64 ml_X9_45 mo_X9_where ⟨Nat.le_of_ble_eq_true rfl, Nat.le_of_ble_eq_true rfl⟩ (Nat.le_of_ble_eq_true rfl) rfl rfl (Nat.le_of_ble_eq_true rfl) (v_X9_where c 4 _) rfl ?_
  refine V.iload_n dX9_newBatch_67 rfl rfl rfl ?_
  refine V.iastN (j := 20 + 5 * c + 4) dX9_newBatch_68 rfl (by omega) (by decide) rfl (M' := (ms (ms (ms (ms (ms M 63 (20 + 5 * c) k) 63 (20 + 5 * c + 1) 9) 63 (20 + 5 * c + 2) r) 63 (20 + 5 * c + 3) 0) 63 (20 + 5 * c + 4) p)) rfl rfl ?_
  refine V.aload_n dX9_newBatch_69 rfl rfl rfl ?_
  refine V.getr dX9_newBatch_70 fg_X9_7 rfl rfl rfl ?_
  refine V.iconst (v := 1) dX9_newBatch_73 rfl rfl ?_
  refine V.dup2 dX9_newBatch_74 rfl rfl rfl ?_
  refine V.ialdN (j := 1) (v := nI c) dX9_newBatch_75 rfl (by decide) (by decide) rfl (by simp (disch := omega) only [ms_j]; exact hM) rfl ?_
  refine V.iconst (v := 1) dX9_newBatch_76 rfl rfl ?_
  refine V.iadd (v := nI (c + 1)) dX9_newBatch_77 (nI_add _ _) rfl ?_
  refine V.iastN (j := 1) dX9_newBatch_78 rfl (by decide) (by decide) rfl (M' := (ms (ms (ms (ms (ms (ms M 63 (20 + 5 * c) k) 63 (20 + 5 * c + 1) 9) 63 (20 + 5 * c + 2) r) 63 (20 + 5 * c + 3) 0) 63 (20 + 5 * c + 4) p) 63 1 (nI (c + 1)))) rfl rfl ?_
  refine V.iload dX9_newBatch_79 rfl rfl ?_
  exact V.ret dX9_newBatch_81 rfl rfl ⟨rfl, rfl⟩
theorem v_X9_newCrowd {c : Nat} (hc : c < 12) (co mi ma : Int32) (M : Mem) (h2 : M 63 2 = nI c) : V m_X9_newCrowd 0 [(0, .ref 62), (1, .int co), (2, .int mi), (3, .int ma)] [] M (RT (some (.int (nI c))) (mNewC c co mi ma M)) := by
  refine V.aload_n dX9_newCrowd_0 rfl rfl rfl ?_
  refine V.getr dX9_newCrowd_1 fg_X9_7 rfl rfl rfl ?_
  refine V.iconst (v := 2) dX9_newCrowd_4 rfl rfl ?_
  refine V.ialdN (j := 2) (v := nI c) dX9_newCrowd_5 rfl (by decide) (by decide) rfl h2 rfl ?_
  refine V.ist dX9_newCrowd_6 (by decide) (L' := [(0, .ref 62), (1, .int co), (2, .int mi), (3, .int ma), (4, .int (nI c))]) rfl rfl ?_
  refine V.aload_n dX9_newCrowd_8 rfl rfl rfl ?_
  refine V.getr dX9_newCrowd_9 fg_X9_7 rfl rfl rfl ?_
  refine V.iload dX9_newCrowd_12 rfl rfl ?_
  refine V.iconst (v := 0) dX9_newCrowd_14 rfl rfl ?_
  refine V.calls_i (M1 := M) (v := nI (70 + 3 * c)) (md' := m_X9_who) (As := [.int (nI c), .int 0]) (rest := [.ref 63]) dX9_newCrowd_15 ml_X9_134 mo_X9_who ⟨Nat.le_of_ble_eq_true rfl, Nat.le_of_ble_eq_true rfl⟩ (Nat.le_of_ble_eq_true rfl) rfl rfl (Nat.le_of_ble_eq_true rfl) (v_X9_who c 0 _) rfl ?_
  refine V.iload_n dX9_newCrowd_18 rfl rfl rfl ?_
  refine V.iastN (j := 70 + 3 * c) dX9_newCrowd_19 rfl (by omega) (by decide) rfl (M' := (ms M 63 (70 + 3 * c) co)) rfl rfl ?_
  refine V.aload_n dX9_newCrowd_20 rfl rfl rfl ?_
  refine V.getr dX9_newCrowd_21 fg_X9_7 rfl rfl rfl ?_
  refine V.iload dX9_newCrowd_24 rfl rfl ?_
  refine V.iconst (v := 1) dX9_newCrowd_26 rfl rfl ?_
  refine V.calls_i (M1 := (ms M 63 (70 + 3 * c) co)) (v := nI (70 + 3 * c + 1)) (md' := m_X9_who) (As := [.int (nI c), .int 1]) (rest := [.ref 63]) dX9_newCrowd_27 ml_X9_134 mo_X9_who ⟨Nat.le_of_ble_eq_true rfl, Nat.le_of_ble_eq_true rfl⟩ (Nat.le_of_ble_eq_true rfl) rfl rfl (Nat.le_of_ble_eq_true rfl) (v_X9_who c 1 _) rfl ?_
  refine V.iload_n dX9_newCrowd_30 rfl rfl rfl ?_
  refine V.iastN (j := 70 + 3 * c + 1) dX9_newCrowd_31 rfl (by omega) (by decide) rfl (M' := (ms (ms M 63 (70 + 3 * c) co) 63 (70 + 3 * c + 1) mi)) rfl rfl ?_
  refine V.aload_n dX9_newCrowd_32 rfl rfl rfl ?_
  refine V.getr dX9_newCrowd_33 fg_X9_7 rfl rfl rfl ?_
  refine V.iload dX9_newCrowd_36 rfl rfl ?_
  refine V.iconst (v := 2) dX9_newCrowd_38 rfl rfl ?_
  refine V.calls_i (M1 := (ms (ms M 63 (70 + 3 * c) co) 63 (70 + 3 * c + 1) mi)) (v := nI (70 + 3 * c + 2)) (md' := m_X9_who) (As := [.int (nI c), .int 2]) (rest := [.ref 63]) dX9_newCrowd_39 ml_X9_134 mo_X9_who ⟨Nat.le_of_ble_eq_true rfl, Nat.le_of_ble_eq_true rfl⟩ (Nat.le_of_ble_eq_true rfl) rfl rfl (Nat.le_of_ble_eq_true rfl) (v_X9_who c 2 _) rfl ?_
  refine V.iload_n dX9_newCrowd_42 rfl rfl rfl ?_
  refine V.iastN (j := 70 + 3 * c + 2) dX9_newCrowd_43 rfl (by omega) (by decide) rfl (M' := (ms (ms (ms M 63 (70 + 3 * c) co) 63 (70 + 3 * c + 1) mi) 63 (70 + 3 * c + 2) ma)) rfl rfl ?_
  refine V.aload_n dX9_newCrowd_44 rfl rfl rfl ?_
  refine V.getr dX9_newCrowd_45 fg_X9_7 rfl rfl rfl ?_
  refine V.iconst (v := 2) dX9_newCrowd_48 rfl rfl ?_
  refine V.dup2 dX9_newCrowd_49 rfl rfl rfl ?_
  refine V.ialdN (j := 2) (v := nI c) dX9_newCrowd_50 rfl (by decide) (by decide) rfl (by simp (disch := omega) only [ms_j]; exact h2) rfl ?_
  refine V.iconst (v := 1) dX9_newCrowd_51 rfl rfl ?_
  refine V.iadd (v := nI (c + 1)) dX9_newCrowd_52 (nI_add _ _) rfl ?_
  refine V.iastN (j := 2) dX9_newCrowd_53 rfl (by decide) (by decide) rfl (M' := (ms (ms (ms (ms M 63 (70 + 3 * c) co) 63 (70 + 3 * c + 1) mi) 63 (70 + 3 * c + 2) ma) 63 2 (nI (c + 1)))) rfl rfl ?_
  refine V.iload dX9_newCrowd_54 rfl rfl ?_
  exact V.ret dX9_newCrowd_56 rfl rfl ⟨rfl, rfl⟩
theorem burntF_eq (k : Int32) : readyF k + (if k = 2 ∨ k = 4 then 25 else 40) = burntF k := by
  unfold readyF burntF
  by_cases h1 : k = 1
  · subst h1; decide
  by_cases h3 : k = 3
  · subst h3; decide
  by_cases h2 : k = 2
  · subst h2; decide
  by_cases h4 : k = 4
  · subst h4; decide
  simp [h1, h3, h2, h4]
theorem v_X9_heatsOf {b : Nat} (hb : b < 10) (h : Int32) (M : Mem) : V m_X9_heatsOf 0 [(0, .ref 62), (1, .int (nI b)), (2, .int h)] [] M (RT (some (.int (heatsF (M 63 (20 + 5 * b)) h))) M) := by
  refine V.aload_n dX9_heatsOf_0 rfl rfl rfl ?_
  refine V.iload_n dX9_heatsOf_1 rfl rfl rfl ?_
  refine V.iconst (v := 0) dX9_heatsOf_2 rfl rfl ?_
  refine V.callv_i (M1 := M) (v := M 63 (20 + 5 * b)) (md' := m_X9_its) (As := [.int (nI b), .int 0]) (rest := []) dX9_heatsOf_3 ml_X9_60 mo_X9_its ⟨Nat.le_of_ble_eq_true rfl, Nat.le_of_ble_eq_true rfl⟩ rfl ⟨_, _, rfl⟩ (Nat.le_of_ble_eq_true rfl) rfl rfl (Nat.le_of_ble_eq_true rfl) (v_X9_its (b := b) (w := 0) (by omega) (by omega) _) rfl ?_
  by_cases s6_1 : M 63 (20 + 5 * b) = 1
  · refine V.tabIn (pc' := 44) dX9_heatsOf_6 (by rw [s6_1]; decide) (by rw [s6_1]; decide) (by rw [s6_1]; rfl) rfl ?_
    refine V.iload_n dX9_heatsOf_44 rfl rfl rfl ?_
    refine V.if_le (tgt := 54) dX9_heatsOf_45 rfl rfl (fun c45 => ?_) (fun c45 => ?_)
    · have d45 : ¬ 0 < h := Int32.not_lt.mpr c45
      refine V.iconst (v := 0) dX9_heatsOf_54 rfl rfl ?_
      exact V.ret dX9_heatsOf_55 rfl rfl ⟨(by simp [heatsF, *]), rfl⟩
    · have d45 : 0 < h := Int32.not_le.mp c45
      refine V.iload_n dX9_heatsOf_48 rfl rfl rfl ?_
      refine V.iconst (v := 1) dX9_heatsOf_49 rfl rfl ?_
      refine V.isub (v := h - 1) dX9_heatsOf_50 rfl rfl ?_
      refine V.goto (pc' := 55) dX9_heatsOf_51 rfl ?_
      exact V.ret dX9_heatsOf_55 rfl rfl ⟨(by simp [heatsF, *]), rfl⟩
  by_cases s6_2 : M 63 (20 + 5 * b) = 2
  · refine V.tabIn (pc' := 56) dX9_heatsOf_6 (by rw [s6_2]; decide) (by rw [s6_2]; decide) (by rw [s6_2]; rfl) rfl ?_
    refine V.iload_n dX9_heatsOf_56 rfl rfl rfl ?_
    refine V.if_le (tgt := 66) dX9_heatsOf_57 rfl rfl (fun c57 => ?_) (fun c57 => ?_)
    · have d57 : ¬ 0 < h := Int32.not_lt.mpr c57
      refine V.iconst (v := 0) dX9_heatsOf_66 rfl rfl ?_
      exact V.ret dX9_heatsOf_67 rfl rfl ⟨(by simp [heatsF, *]), rfl⟩
    · have d57 : 0 < h := Int32.not_le.mp c57
      refine V.iload_n dX9_heatsOf_60 rfl rfl rfl ?_
      refine V.iconst (v := 1) dX9_heatsOf_61 rfl rfl ?_
      refine V.iadd (v := h + 1) dX9_heatsOf_62 rfl rfl ?_
      refine V.goto (pc' := 67) dX9_heatsOf_63 rfl ?_
      exact V.ret dX9_heatsOf_67 rfl rfl ⟨(by simp [heatsF, *]), rfl⟩
  by_cases s6_3 : M 63 (20 + 5 * b) = 3
  · refine V.tabIn (pc' := 44) dX9_heatsOf_6 (by rw [s6_3]; decide) (by rw [s6_3]; decide) (by rw [s6_3]; rfl) rfl ?_
    refine V.iload_n dX9_heatsOf_44 rfl rfl rfl ?_
    refine V.if_le (tgt := 54) dX9_heatsOf_45 rfl rfl (fun c45 => ?_) (fun c45 => ?_)
    · have d45 : ¬ 0 < h := Int32.not_lt.mpr c45
      refine V.iconst (v := 0) dX9_heatsOf_54 rfl rfl ?_
      exact V.ret dX9_heatsOf_55 rfl rfl ⟨(by simp [heatsF, *]), rfl⟩
    · have d45 : 0 < h := Int32.not_le.mp c45
      refine V.iload_n dX9_heatsOf_48 rfl rfl rfl ?_
      refine V.iconst (v := 1) dX9_heatsOf_49 rfl rfl ?_
      refine V.isub (v := h - 1) dX9_heatsOf_50 rfl rfl ?_
      refine V.goto (pc' := 55) dX9_heatsOf_51 rfl ?_
      exact V.ret dX9_heatsOf_55 rfl rfl ⟨(by simp [heatsF, *]), rfl⟩
  by_cases s6_4 : M 63 (20 + 5 * b) = 4
  · refine V.tabIn (pc' := 56) dX9_heatsOf_6 (by rw [s6_4]; decide) (by rw [s6_4]; decide) (by rw [s6_4]; rfl) rfl ?_
    refine V.iload_n dX9_heatsOf_56 rfl rfl rfl ?_
    refine V.if_le (tgt := 66) dX9_heatsOf_57 rfl rfl (fun c57 => ?_) (fun c57 => ?_)
    · have d57 : ¬ 0 < h := Int32.not_lt.mpr c57
      refine V.iconst (v := 0) dX9_heatsOf_66 rfl rfl ?_
      exact V.ret dX9_heatsOf_67 rfl rfl ⟨(by simp [heatsF, *]), rfl⟩
    · have d57 : 0 < h := Int32.not_le.mp c57
      refine V.iload_n dX9_heatsOf_60 rfl rfl rfl ?_
      refine V.iconst (v := 1) dX9_heatsOf_61 rfl rfl ?_
      refine V.iadd (v := h + 1) dX9_heatsOf_62 rfl rfl ?_
      refine V.goto (pc' := 67) dX9_heatsOf_63 rfl ?_
      exact V.ret dX9_heatsOf_67 rfl rfl ⟨(by simp [heatsF, *]), rfl⟩
  by_cases s6_5 : M 63 (20 + 5 * b) = 5
  · refine V.tabIn (pc' := 72) dX9_heatsOf_6 (by rw [s6_5]; decide) (by rw [s6_5]; decide) (by rw [s6_5]; rfl) rfl ?_
    refine V.iload_n dX9_heatsOf_72 rfl rfl rfl ?_
    exact V.ret dX9_heatsOf_73 rfl rfl ⟨(by simp [heatsF, *]), rfl⟩
  by_cases s6_6 : M 63 (20 + 5 * b) = 6
  · refine V.tabIn (pc' := 68) dX9_heatsOf_6 (by rw [s6_6]; decide) (by rw [s6_6]; decide) (by rw [s6_6]; rfl) rfl ?_
    refine V.iload_n dX9_heatsOf_68 rfl rfl rfl ?_
    refine V.iconst (v := 2) dX9_heatsOf_69 rfl rfl ?_
    refine V.idiv (v := h / 2) dX9_heatsOf_70 (by decide) rfl rfl ?_
    exact V.ret dX9_heatsOf_71 rfl rfl ⟨(by simp [heatsF, *]), rfl⟩
  refine V.tabOut (pc' := 72) dX9_heatsOf_6 (by have q0 := lv_neT (a := 1) s6_1 rfl; have q1 := lv_neT (a := 2) s6_2 rfl; have q2 := lv_neT (a := 3) s6_3 rfl; have q3 := lv_neT (a := 4) s6_4 rfl; have q4 := lv_neT (a := 5) s6_5 rfl; have q5 := lv_neT (a := 6) s6_6 rfl; omega) rfl ?_
  refine V.iload_n dX9_heatsOf_72 rfl rfl rfl ?_
  exact V.ret dX9_heatsOf_73 rfl rfl ⟨(by simp [heatsF, *]), rfl⟩
theorem v_X9_readyAt {b : Nat} (hb : b < 10) (M : Mem) : V m_X9_readyAt 0 [(0, .ref 62), (1, .int (nI b))] [] M (RT (some (.int (readyF (M 63 (20 + 5 * b))))) M) := by
  refine V.aload_n dX9_readyAt_0 rfl rfl rfl ?_
  refine V.iload_n dX9_readyAt_1 rfl rfl rfl ?_
  refine V.iconst (v := 0) dX9_readyAt_2 rfl rfl ?_
  refine V.callv_i (M1 := M) (v := M 63 (20 + 5 * b)) (md' := m_X9_its) (As := [.int (nI b), .int 0]) (rest := []) dX9_readyAt_3 ml_X9_60 mo_X9_its ⟨Nat.le_of_ble_eq_true rfl, Nat.le_of_ble_eq_true rfl⟩ rfl ⟨_, _, rfl⟩ (Nat.le_of_ble_eq_true rfl) rfl rfl (Nat.le_of_ble_eq_true rfl) (v_X9_its (b := b) (w := 0) (by omega) (by omega) _) rfl ?_
  refine V.ist_n dX9_readyAt_6 rfl (by decide) (L' := [(0, .ref 62), (1, .int (nI b)), (2, .int (M 63 (20 + 5 * b)))]) rfl rfl ?_
  refine V.iload_n dX9_readyAt_7 rfl rfl rfl ?_
  refine V.iconst (v := 1) dX9_readyAt_8 rfl rfl ?_
  refine V.icmp_ne (tgt := 18) dX9_readyAt_9 rfl rfl (fun c9 => ?_) (fun c9 => ?_)
  · skip
    refine V.iload_n dX9_readyAt_18 rfl rfl rfl ?_
    refine V.iconst (v := 3) dX9_readyAt_19 rfl rfl ?_
    refine V.icmp_ne (tgt := 29) dX9_readyAt_20 rfl rfl (fun c20 => ?_) (fun c20 => ?_)
    · skip
      refine V.iload_n dX9_readyAt_29 rfl rfl rfl ?_
      refine V.iconst (v := 2) dX9_readyAt_30 rfl rfl ?_
      refine V.icmp_eq (tgt := 39) dX9_readyAt_31 rfl rfl (fun c31 => ?_) (fun c31 => ?_)
      · skip
        refine V.bipush (v := 80) dX9_readyAt_39 (by decide) rfl ?_
        refine V.goto (pc' := 46) dX9_readyAt_41 rfl ?_
        exact V.ret dX9_readyAt_46 rfl rfl ⟨(by simp_all [readyF]), rfl⟩
      · skip
        refine V.iload_n dX9_readyAt_34 rfl rfl rfl ?_
        refine V.iconst (v := 4) dX9_readyAt_35 rfl rfl ?_
        refine V.icmp_ne (tgt := 44) dX9_readyAt_36 rfl rfl (fun c36 => ?_) (fun c36 => ?_)
        · skip
          refine V.bipush (v := 100) dX9_readyAt_44 (by decide) rfl ?_
          exact V.ret dX9_readyAt_46 rfl rfl ⟨(by simp_all [readyF]), rfl⟩
        · skip
          refine V.bipush (v := 80) dX9_readyAt_39 (by decide) rfl ?_
          refine V.goto (pc' := 46) dX9_readyAt_41 rfl ?_
          exact V.ret dX9_readyAt_46 rfl rfl ⟨(by simp_all [readyF]), rfl⟩
    · skip
      refine V.sipush (v := 140) dX9_readyAt_23 (by decide) rfl ?_
      refine V.goto (pc' := 46) dX9_readyAt_26 rfl ?_
      exact V.ret dX9_readyAt_46 rfl rfl ⟨(by simp_all [readyF]), rfl⟩
  · skip
    refine V.sipush (v := 130) dX9_readyAt_12 (by decide) rfl ?_
    refine V.goto (pc' := 46) dX9_readyAt_15 rfl ?_
    exact V.ret dX9_readyAt_46 rfl rfl ⟨(by simp_all [readyF]), rfl⟩
theorem v_X9_burntAt {b : Nat} (hb : b < 10) (M : Mem) : V m_X9_burntAt 0 [(0, .ref 62), (1, .int (nI b))] [] M (RT (some (.int (burntF (M 63 (20 + 5 * b))))) M) := by
  refine V.aload_n dX9_burntAt_0 rfl rfl rfl ?_
  refine V.iload_n dX9_burntAt_1 rfl rfl rfl ?_
  refine V.iconst (v := 0) dX9_burntAt_2 rfl rfl ?_
  refine V.callv_i (M1 := M) (v := M 63 (20 + 5 * b)) (md' := m_X9_its) (As := [.int (nI b), .int 0]) (rest := []) dX9_burntAt_3 ml_X9_60 mo_X9_its ⟨Nat.le_of_ble_eq_true rfl, Nat.le_of_ble_eq_true rfl⟩ rfl ⟨_, _, rfl⟩ (Nat.le_of_ble_eq_true rfl) rfl rfl (Nat.le_of_ble_eq_true rfl) (v_X9_its (b := b) (w := 0) (by omega) (by omega) _) rfl ?_
  refine V.ist_n dX9_burntAt_6 rfl (by decide) (L' := [(0, .ref 62), (1, .int (nI b)), (2, .int (M 63 (20 + 5 * b)))]) rfl rfl ?_
  refine V.aload_n dX9_burntAt_7 rfl rfl rfl ?_
  refine V.iload_n dX9_burntAt_8 rfl rfl rfl ?_
  refine V.callv_i (M1 := M) (v := readyF (M 63 (20 + 5 * b))) (md' := m_X9_readyAt) (As := [.int (nI b)]) (rest := []) dX9_burntAt_9 ml_X9_63 mo_X9_readyAt ⟨Nat.le_of_ble_eq_true rfl, Nat.le_of_ble_eq_true rfl⟩ rfl ⟨_, _, rfl⟩ (Nat.le_of_ble_eq_true rfl) rfl rfl (Nat.le_of_ble_eq_true rfl) (v_X9_readyAt (b := b) (by omega) _) rfl ?_
  refine V.iload_n dX9_burntAt_12 rfl rfl rfl ?_
  refine V.iconst (v := 2) dX9_burntAt_13 rfl rfl ?_
  refine V.icmp_eq (tgt := 22) dX9_burntAt_14 rfl rfl (fun c14 => ?_) (fun c14 => ?_)
  · skip
    refine V.bipush (v := 25) dX9_burntAt_22 (by decide) rfl ?_
    refine V.goto (pc' := 29) dX9_burntAt_24 rfl ?_
    refine V.iadd (v := burntF (M 63 (20 + 5 * b))) dX9_burntAt_29 (by rw [← burntF_eq, if_pos (Or.inl c14)]) rfl ?_
    exact V.ret dX9_burntAt_30 rfl rfl ⟨rfl, rfl⟩
  · skip
    refine V.iload_n dX9_burntAt_17 rfl rfl rfl ?_
    refine V.iconst (v := 4) dX9_burntAt_18 rfl rfl ?_
    refine V.icmp_ne (tgt := 27) dX9_burntAt_19 rfl rfl (fun c19 => ?_) (fun c19 => ?_)
    · skip
      refine V.bipush (v := 40) dX9_burntAt_27 (by decide) rfl ?_
      refine V.iadd (v := burntF (M 63 (20 + 5 * b))) dX9_burntAt_29 (by rw [← burntF_eq, if_neg (fun q => q.elim c14 c19)]) rfl ?_
      exact V.ret dX9_burntAt_30 rfl rfl ⟨rfl, rfl⟩
    · skip
      refine V.bipush (v := 25) dX9_burntAt_22 (by decide) rfl ?_
      refine V.goto (pc' := 29) dX9_burntAt_24 rfl ?_
      refine V.iadd (v := burntF (M 63 (20 + 5 * b))) dX9_burntAt_29 (by rw [← burntF_eq, if_pos (Or.inr c19)]) rfl ?_
      exact V.ret dX9_burntAt_30 rfl rfl ⟨rfl, rfl⟩
theorem v_X9_worth {b : Nat} (hb : b < 10) (M : Mem) : V m_X9_worth 0 [(0, .ref 62), (1, .int (nI b))] [] M (RT (some (.int (worthF (M 63 (20 + 5 * b)) (M 63 5)))) M) := by
  refine V.aload_n dX9_worth_0 rfl rfl rfl ?_
  refine V.iload_n dX9_worth_1 rfl rfl rfl ?_
  refine V.iconst (v := 0) dX9_worth_2 rfl rfl ?_
  refine V.callv_i (M1 := M) (v := M 63 (20 + 5 * b)) (md' := m_X9_its) (As := [.int (nI b), .int 0]) (rest := []) dX9_worth_3 ml_X9_60 mo_X9_its ⟨Nat.le_of_ble_eq_true rfl, Nat.le_of_ble_eq_true rfl⟩ rfl ⟨_, _, rfl⟩ (Nat.le_of_ble_eq_true rfl) rfl rfl (Nat.le_of_ble_eq_true rfl) (v_X9_its (b := b) (w := 0) (by omega) (by omega) _) rfl ?_
  refine V.ist_n dX9_worth_6 rfl (by decide) (L' := [(0, .ref 62), (1, .int (nI b)), (2, .int (M 63 (20 + 5 * b)))]) rfl rfl ?_
  refine V.aload_n dX9_worth_7 rfl rfl rfl ?_
  refine V.getr dX9_worth_8 fg_X9_7 rfl rfl rfl ?_
  refine V.iconst (v := 5) dX9_worth_11 rfl rfl ?_
  refine V.ialdN (j := 5) (v := M 63 5) dX9_worth_12 rfl (by decide) (by decide) rfl rfl rfl ?_
  refine V.iconst (v := 2) dX9_worth_13 rfl rfl ?_
  refine V.icmp_ge (tgt := 21) dX9_worth_14 rfl rfl (fun c14 => ?_) (fun c14 => ?_)
  · have d14 : ¬ M 63 5 < 2 := Int32.not_lt.mpr c14
    refine V.aload_n dX9_worth_21 rfl rfl rfl ?_
    refine V.getr dX9_worth_22 fg_X9_7 rfl rfl rfl ?_
    refine V.iconst (v := 5) dX9_worth_25 rfl rfl ?_
    refine V.ialdN (j := 5) (v := M 63 5) dX9_worth_26 rfl (by decide) (by decide) rfl rfl rfl ?_
    refine V.iconst (v := 2) dX9_worth_27 rfl rfl ?_
    refine V.isub (v := (M 63 5) - 2) dX9_worth_28 rfl rfl ?_
    refine V.ist_n dX9_worth_29 rfl (by decide) (L' := [(0, .ref 62), (1, .int (nI b)), (2, .int (M 63 (20 + 5 * b))), (3, .int ((M 63 5) - 2))]) rfl rfl ?_
    refine V.iload_n dX9_worth_30 rfl rfl rfl ?_
    refine V.iconst (v := 3) dX9_worth_31 rfl rfl ?_
    refine V.icmp_ne (tgt := 46) dX9_worth_32 rfl rfl (fun c32 => ?_) (fun c32 => ?_)
    · skip
      refine V.iload_n dX9_worth_46 rfl rfl rfl ?_
      refine V.iconst (v := 5) dX9_worth_47 rfl rfl ?_
      refine V.icmp_ne (tgt := 55) dX9_worth_48 rfl rfl (fun c48 => ?_) (fun c48 => ?_)
      · skip
        refine V.iload_n dX9_worth_55 rfl rfl rfl ?_
        refine V.bipush (v := 6) dX9_worth_56 (by decide) rfl ?_
        refine V.icmp_ne (tgt := 67) dX9_worth_58 rfl rfl (fun c58 => ?_) (fun c58 => ?_)
        · skip
          refine V.aload_n dX9_worth_67 rfl rfl rfl ?_
          refine V.getr dX9_worth_68 fg_X9_7 rfl rfl rfl ?_
          refine V.iconst (v := 5) dX9_worth_71 rfl rfl ?_
          refine V.ialdN (j := 5) (v := M 63 5) dX9_worth_72 rfl (by decide) (by decide) rfl rfl rfl ?_
          exact V.ret dX9_worth_73 rfl rfl ⟨(by simp [worthF, lessF, *]), rfl⟩
        · skip
          refine V.iload_n dX9_worth_61 rfl rfl rfl ?_
          refine V.iconst (v := 2) dX9_worth_62 rfl rfl ?_
          refine V.idiv (v := ((M 63 5) - 2) / 2) dX9_worth_63 (by decide) rfl rfl ?_
          refine V.goto (pc' := 73) dX9_worth_64 rfl ?_
          exact V.ret dX9_worth_73 rfl rfl ⟨(by simp [worthF, lessF, *]), rfl⟩
      · skip
        refine V.iload_n dX9_worth_51 rfl rfl rfl ?_
        refine V.goto (pc' := 73) dX9_worth_52 rfl ?_
        exact V.ret dX9_worth_73 rfl rfl ⟨(by simp [worthF, lessF, *]), rfl⟩
    · skip
      refine V.aload_n dX9_worth_35 rfl rfl rfl ?_
      refine V.getr dX9_worth_36 fg_X9_7 rfl rfl rfl ?_
      refine V.iconst (v := 5) dX9_worth_39 rfl rfl ?_
      refine V.ialdN (j := 5) (v := M 63 5) dX9_worth_40 rfl (by decide) (by decide) rfl rfl rfl ?_
      refine V.iconst (v := 2) dX9_worth_41 rfl rfl ?_
      refine V.iadd (v := (M 63 5) + 2) dX9_worth_42 rfl rfl ?_
      refine V.goto (pc' := 73) dX9_worth_43 rfl ?_
      exact V.ret dX9_worth_73 rfl rfl ⟨(by simp [worthF, lessF, *]), rfl⟩
  · have d14 : M 63 5 < 2 := Int32.not_le.mp c14
    refine V.iconst (v := 0) dX9_worth_17 rfl rfl ?_
    refine V.goto (pc' := 29) dX9_worth_18 rfl ?_
    refine V.ist_n dX9_worth_29 rfl (by decide) (L' := [(0, .ref 62), (1, .int (nI b)), (2, .int (M 63 (20 + 5 * b))), (3, .int 0)]) rfl rfl ?_
    refine V.iload_n dX9_worth_30 rfl rfl rfl ?_
    refine V.iconst (v := 3) dX9_worth_31 rfl rfl ?_
    refine V.icmp_ne (tgt := 46) dX9_worth_32 rfl rfl (fun c32 => ?_) (fun c32 => ?_)
    · skip
      refine V.iload_n dX9_worth_46 rfl rfl rfl ?_
      refine V.iconst (v := 5) dX9_worth_47 rfl rfl ?_
      refine V.icmp_ne (tgt := 55) dX9_worth_48 rfl rfl (fun c48 => ?_) (fun c48 => ?_)
      · skip
        refine V.iload_n dX9_worth_55 rfl rfl rfl ?_
        refine V.bipush (v := 6) dX9_worth_56 (by decide) rfl ?_
        refine V.icmp_ne (tgt := 67) dX9_worth_58 rfl rfl (fun c58 => ?_) (fun c58 => ?_)
        · skip
          refine V.aload_n dX9_worth_67 rfl rfl rfl ?_
          refine V.getr dX9_worth_68 fg_X9_7 rfl rfl rfl ?_
          refine V.iconst (v := 5) dX9_worth_71 rfl rfl ?_
          refine V.ialdN (j := 5) (v := M 63 5) dX9_worth_72 rfl (by decide) (by decide) rfl rfl rfl ?_
          exact V.ret dX9_worth_73 rfl rfl ⟨(by simp [worthF, lessF, *]), rfl⟩
        · skip
          refine V.iload_n dX9_worth_61 rfl rfl rfl ?_
          refine V.iconst (v := 2) dX9_worth_62 rfl rfl ?_
          refine V.idiv (v := 0 / 2) dX9_worth_63 (by decide) rfl rfl ?_
          refine V.goto (pc' := 73) dX9_worth_64 rfl ?_
          exact V.ret dX9_worth_73 rfl rfl ⟨(by simp [worthF, lessF, *]), rfl⟩
      · skip
        refine V.iload_n dX9_worth_51 rfl rfl rfl ?_
        refine V.goto (pc' := 73) dX9_worth_52 rfl ?_
        exact V.ret dX9_worth_73 rfl rfl ⟨(by simp [worthF, lessF, *]), rfl⟩
    · skip
      refine V.aload_n dX9_worth_35 rfl rfl rfl ?_
      refine V.getr dX9_worth_36 fg_X9_7 rfl rfl rfl ?_
      refine V.iconst (v := 5) dX9_worth_39 rfl rfl ?_
      refine V.ialdN (j := 5) (v := M 63 5) dX9_worth_40 rfl (by decide) (by decide) rfl rfl rfl ?_
      refine V.iconst (v := 2) dX9_worth_41 rfl rfl ?_
      refine V.iadd (v := (M 63 5) + 2) dX9_worth_42 rfl rfl ?_
      refine V.goto (pc' := 73) dX9_worth_43 rfl ?_
      exact V.ret dX9_worth_73 rfl rfl ⟨(by simp [worthF, lessF, *]), rfl⟩
theorem v_X9_isPart (w v : Int32) (M : Mem) : V m_X9_isPart 0 [(0, .int w), (1, .int v)] [] M (RT (some (.int (if (w = 0 ∧ rng 0 6 v) ∨ (w = 1 ∧ rng 0 9 v) ∨ ((w = 2 ∨ w = 3) ∧ rng 0 999 v) then 1 else 0))) M) := by
  refine V.iload_n dX9_isPart_0 rfl rfl rfl ?_
  by_cases s1_0 : w = 0
  · refine V.lookup (off := 27) (pc' := 28) dX9_isPart_1 (by decide) (by rw [s1_0]; first | done | rfl) rfl ?_
    refine V.iload_n dX9_isPart_28 rfl rfl rfl ?_
    refine V.i2l (v := Int32.toInt64 v) dX9_isPart_29 rfl rfl ?_
    refine V.lconst (v := 0) dX9_isPart_30 rfl rfl ?_
    refine V.ldc2 (v := 6) dX9_isPart_31 cl_X9_49 rfl ?_
    refine V.calls_i (M1 := M) (v := if rng 0 6 v then 1 else 0) (md' := m_X9_in) (As := [.long (Int32.toInt64 v), .long 0, .long 6]) (rest := []) dX9_isPart_34 ml_X9_38 mo_X9_in ⟨Nat.le_of_ble_eq_true rfl, Nat.le_of_ble_eq_true rfl⟩ (Nat.le_of_ble_eq_true rfl) rfl rfl (Nat.le_of_ble_eq_true rfl) (v_X9_in (x := v) (a := 0) (b := 6) rfl rfl _) rfl ?_
    exact V.ret dX9_isPart_37 rfl (nb_if _) ⟨(by simp_all), rfl⟩
  by_cases s1_1 : w = 1
  · refine V.lookup (off := 37) (pc' := 38) dX9_isPart_1 (by decide) (by rw [s1_1]; first | done | rfl) rfl ?_
    refine V.iload_n dX9_isPart_38 rfl rfl rfl ?_
    refine V.i2l (v := Int32.toInt64 v) dX9_isPart_39 rfl rfl ?_
    refine V.lconst (v := 0) dX9_isPart_40 rfl rfl ?_
    refine V.ldc2 (v := 9) dX9_isPart_41 cl_X9_78 rfl ?_
    refine V.calls_i (M1 := M) (v := if rng 0 9 v then 1 else 0) (md' := m_X9_in) (As := [.long (Int32.toInt64 v), .long 0, .long 9]) (rest := []) dX9_isPart_44 ml_X9_38 mo_X9_in ⟨Nat.le_of_ble_eq_true rfl, Nat.le_of_ble_eq_true rfl⟩ (Nat.le_of_ble_eq_true rfl) rfl rfl (Nat.le_of_ble_eq_true rfl) (v_X9_in (x := v) (a := 0) (b := 9) rfl rfl _) rfl ?_
    exact V.ret dX9_isPart_47 rfl (nb_if _) ⟨(by simp_all), rfl⟩
  refine V.lookup (off := 47) (pc' := 48) dX9_isPart_1 (by decide) (by show Op.lookupswitch.offset [(0, 27), (1, 37)] 47 _ = _; rw [lv_osw (a := 0) s1_0 rfl, lv_osw (a := 1) s1_1 rfl]; rfl) rfl ?_
  refine V.iload_n dX9_isPart_48 rfl rfl rfl ?_
  refine V.iconst (v := 2) dX9_isPart_49 rfl rfl ?_
  refine V.icmp_eq (tgt := 58) dX9_isPart_50 rfl rfl (fun c50 => ?_) (fun c50 => ?_)
  · skip
    refine V.iload_n dX9_isPart_58 rfl rfl rfl ?_
    refine V.i2l (v := Int32.toInt64 v) dX9_isPart_59 rfl rfl ?_
    refine V.lconst (v := 0) dX9_isPart_60 rfl rfl ?_
    refine V.ldc2 (v := 999) dX9_isPart_61 cl_X9_80 rfl ?_
    refine V.calls_i (M1 := M) (v := if rng 0 999 v then 1 else 0) (md' := m_X9_in) (As := [.long (Int32.toInt64 v), .long 0, .long 999]) (rest := []) dX9_isPart_64 ml_X9_38 mo_X9_in ⟨Nat.le_of_ble_eq_true rfl, Nat.le_of_ble_eq_true rfl⟩ (Nat.le_of_ble_eq_true rfl) rfl rfl (Nat.le_of_ble_eq_true rfl) (v_X9_in (x := v) (a := 0) (b := 999) rfl rfl _) rfl ?_
    refine V.ifb_eq (tgt := 74) dX9_isPart_67 rfl rfl (fun c67 => ?_) (fun c67 => ?_)
    · skip
      refine V.iconst (v := 0) dX9_isPart_74 rfl rfl ?_
      exact V.ret dX9_isPart_75 rfl rfl ⟨(by simp_all), rfl⟩
    · skip
      refine V.iconst (v := 1) dX9_isPart_70 rfl rfl ?_
      refine V.goto (pc' := 75) dX9_isPart_71 rfl ?_
      exact V.ret dX9_isPart_75 rfl rfl ⟨(by simp_all), rfl⟩
  · skip
    refine V.iload_n dX9_isPart_53 rfl rfl rfl ?_
    refine V.iconst (v := 3) dX9_isPart_54 rfl rfl ?_
    refine V.icmp_ne (tgt := 74) dX9_isPart_55 rfl rfl (fun c55 => ?_) (fun c55 => ?_)
    · skip
      refine V.iconst (v := 0) dX9_isPart_74 rfl rfl ?_
      exact V.ret dX9_isPart_75 rfl rfl ⟨(by simp_all), rfl⟩
    · skip
      refine V.iload_n dX9_isPart_58 rfl rfl rfl ?_
      refine V.i2l (v := Int32.toInt64 v) dX9_isPart_59 rfl rfl ?_
      refine V.lconst (v := 0) dX9_isPart_60 rfl rfl ?_
      refine V.ldc2 (v := 999) dX9_isPart_61 cl_X9_80 rfl ?_
      refine V.calls_i (M1 := M) (v := if rng 0 999 v then 1 else 0) (md' := m_X9_in) (As := [.long (Int32.toInt64 v), .long 0, .long 999]) (rest := []) dX9_isPart_64 ml_X9_38 mo_X9_in ⟨Nat.le_of_ble_eq_true rfl, Nat.le_of_ble_eq_true rfl⟩ (Nat.le_of_ble_eq_true rfl) rfl rfl (Nat.le_of_ble_eq_true rfl) (v_X9_in (x := v) (a := 0) (b := 999) rfl rfl _) rfl ?_
      refine V.ifb_eq (tgt := 74) dX9_isPart_67 rfl rfl (fun c67 => ?_) (fun c67 => ?_)
      · skip
        refine V.iconst (v := 0) dX9_isPart_74 rfl rfl ?_
        exact V.ret dX9_isPart_75 rfl rfl ⟨(by simp_all), rfl⟩
      · skip
        refine V.iconst (v := 1) dX9_isPart_70 rfl rfl ?_
        refine V.goto (pc' := 75) dX9_isPart_71 rfl ?_
        exact V.ret dX9_isPart_75 rfl rfl ⟨(by simp_all), rfl⟩
theorem v_X9_isFigure (w v : Int32) (M : Mem) : V m_X9_isFigure 0 [(0, .int w), (1, .int v)] [] M (RT (some (.int (if (w = 0 ∧ rng 0 3 v) ∨ (¬ w = 0 ∧ w = 1 ∧ rng 0 999 v) ∨ (¬ w = 0 ∧ ¬ w = 1 ∧ rng 0 400 v) then 1 else 0))) M) := by
  refine V.iload_n dX9_isFigure_0 rfl rfl rfl ?_
  refine V.if_ne (tgt := 11) dX9_isFigure_1 rfl rfl (fun c1 => ?_) (fun c1 => ?_)
  · skip
    refine V.iload_n dX9_isFigure_11 rfl rfl rfl ?_
    refine V.iconst (v := 1) dX9_isFigure_12 rfl rfl ?_
    refine V.icmp_ne (tgt := 28) dX9_isFigure_13 rfl rfl (fun c13 => ?_) (fun c13 => ?_)
    · skip
      refine V.iload_n dX9_isFigure_28 rfl rfl rfl ?_
      refine V.i2l (v := Int32.toInt64 v) dX9_isFigure_29 rfl rfl ?_
      refine V.lconst (v := 0) dX9_isFigure_30 rfl rfl ?_
      refine V.ldc2 (v := 400) dX9_isFigure_31 cl_X9_137 rfl ?_
      refine V.calls_i (M1 := M) (v := if rng 0 400 v then 1 else 0) (md' := m_X9_in) (As := [.long (Int32.toInt64 v), .long 0, .long 400]) (rest := []) dX9_isFigure_34 ml_X9_38 mo_X9_in ⟨Nat.le_of_ble_eq_true rfl, Nat.le_of_ble_eq_true rfl⟩ (Nat.le_of_ble_eq_true rfl) rfl rfl (Nat.le_of_ble_eq_true rfl) (v_X9_in (x := v) (a := 0) (b := 400) rfl rfl _) rfl ?_
      exact V.ret dX9_isFigure_37 rfl (nb_if _) ⟨(by simp_all), rfl⟩
    · skip
      refine V.iload_n dX9_isFigure_16 rfl rfl rfl ?_
      refine V.i2l (v := Int32.toInt64 v) dX9_isFigure_17 rfl rfl ?_
      refine V.lconst (v := 0) dX9_isFigure_18 rfl rfl ?_
      refine V.ldc2 (v := 999) dX9_isFigure_19 cl_X9_80 rfl ?_
      refine V.calls_i (M1 := M) (v := if rng 0 999 v then 1 else 0) (md' := m_X9_in) (As := [.long (Int32.toInt64 v), .long 0, .long 999]) (rest := []) dX9_isFigure_22 ml_X9_38 mo_X9_in ⟨Nat.le_of_ble_eq_true rfl, Nat.le_of_ble_eq_true rfl⟩ (Nat.le_of_ble_eq_true rfl) rfl rfl (Nat.le_of_ble_eq_true rfl) (v_X9_in (x := v) (a := 0) (b := 999) rfl rfl _) rfl ?_
      refine V.goto (pc' := 37) dX9_isFigure_25 rfl ?_
      exact V.ret dX9_isFigure_37 rfl (nb_if _) ⟨(by simp_all), rfl⟩
  · skip
    refine V.iload_n dX9_isFigure_4 rfl rfl rfl ?_
    refine V.calls_i (M1 := M) (v := if rng 0 3 v then 1 else 0) (md' := m_X9_isCorner) (As := [.int v]) (rest := []) dX9_isFigure_5 ml_X9_128 mo_X9_isCorner ⟨Nat.le_of_ble_eq_true rfl, Nat.le_of_ble_eq_true rfl⟩ (Nat.le_of_ble_eq_true rfl) rfl rfl (Nat.le_of_ble_eq_true rfl) (v_X9_isCorner v _) rfl ?_
    refine V.goto (pc' := 37) dX9_isFigure_8 rfl ?_
    exact V.ret dX9_isFigure_37 rfl (nb_if _) ⟨(by simp_all), rfl⟩
theorem l_X9_placed {c : Nat} (hc : c ≤ 10) (a : Int32) (M : Mem) (hM : M 63 1 = nI c) : ∀ (n i : Nat) (s : Int32), i + n = c → V m_X9_placed 4 [(0, .ref 62), (1, .int a), (2, .int s), (3, .int (nI i))] [] M (RT (some (.int (setG (col M 4) a n i s))) M) := by
  intro n
  induction n with
  | zero =>
    intro i s hi
    refine V.iload_n dX9_placed_4 rfl rfl rfl ?_
    refine V.aload_n dX9_placed_5 rfl rfl rfl ?_
    refine V.getr dX9_placed_6 fg_X9_7 rfl rfl rfl ?_
    refine V.iconst (v := 1) dX9_placed_9 rfl rfl ?_
    refine V.ialdN (j := 1) (v := nI c) dX9_placed_10 rfl (by decide) (by decide) rfl hM rfl ?_
    refine V.icmp_ge (tgt := 40) dX9_placed_11 rfl rfl (fun c11 => ?_) (fun c11 => absurd ((nI_leI (a := c) (b := i) (by omega) (by omega)).mpr (by omega)) c11)
    have c11 : c ≤ i := (nI_leI (a := c) (b := i) (by omega) (by omega)).mp c11
    refine V.iload_n dX9_placed_40 rfl rfl rfl ?_
    exact V.ret dX9_placed_41 rfl rfl ⟨rfl, rfl⟩
  | succ n ih =>
    intro i s hi
    refine V.iload_n dX9_placed_4 rfl rfl rfl ?_
    refine V.aload_n dX9_placed_5 rfl rfl rfl ?_
    refine V.getr dX9_placed_6 fg_X9_7 rfl rfl rfl ?_
    refine V.iconst (v := 1) dX9_placed_9 rfl rfl ?_
    refine V.ialdN (j := 1) (v := nI c) dX9_placed_10 rfl (by decide) (by decide) rfl hM rfl ?_
    refine V.icmp_ge (tgt := 40) dX9_placed_11 rfl rfl (fun c11 => absurd ((nI_leI (a := c) (b := i) (by omega) (by omega)).mp c11) (by omega)) (fun c11 => ?_)
    have c11 : ¬ c ≤ i := fun zq => c11 ((nI_leI (a := c) (b := i) (by omega) (by omega)).mpr zq)
    refine V.iload_n dX9_placed_14 rfl rfl rfl ?_
    refine V.aload_n dX9_placed_15 rfl rfl rfl ?_
    refine V.iload_n dX9_placed_16 rfl rfl rfl ?_
    refine V.iconst (v := 4) dX9_placed_17 rfl rfl ?_
    refine V.callv_i (M1 := M) (v := M 63 (20 + 5 * i + 4)) (md' := m_X9_its) (As := [.int (nI i), .int 4]) (rest := [.int s]) dX9_placed_18 ml_X9_60 mo_X9_its ⟨Nat.le_of_ble_eq_true rfl, Nat.le_of_ble_eq_true rfl⟩ rfl ⟨_, _, rfl⟩ (Nat.le_of_ble_eq_true rfl) rfl rfl (Nat.le_of_ble_eq_true rfl) (v_X9_its (b := i) (w := 4) (by omega) (by omega) _) rfl ?_
    refine V.iload_n dX9_placed_21 rfl rfl rfl ?_
    refine V.icmp_ne (tgt := 31) dX9_placed_22 rfl rfl (fun c22 => ?_) (fun c22 => ?_)
    · skip
      refine V.iconst (v := 0) dX9_placed_31 rfl rfl ?_
      refine V.ior (v := s ||| 0) dX9_placed_32 rfl rfl ?_
      refine V.ist_n dX9_placed_33 rfl (by decide) (L' := [(0, .ref 62), (1, .int a), (2, .int (s ||| 0)), (3, .int (nI i))]) rfl rfl ?_
      refine V.inc (v := nI (i + 1)) dX9_placed_34 rfl (nI_1 _) (by decide) (L' := [(0, .ref 62), (1, .int a), (2, .int (s ||| 0)), (3, .int (nI (i + 1)))]) rfl rfl ?_
      refine V.goto (pc' := 4) dX9_placed_37 rfl ?_
      rw [show setG (col M 4) a (n + 1) i s = setG (col M 4) a n (i + 1) (s ||| 0) from by simp only [setG]; rw [if_neg (show ¬ col M 4 i = a from c22), Int32.or_zero]]
      exact ih (i + 1) _ (by omega)
    · skip
      refine V.iconst (v := 1) dX9_placed_25 rfl rfl ?_
      refine V.iload_n dX9_placed_26 rfl rfl rfl ?_
      refine V.ishl (v := 1 <<< ((nI i) &&& 31)) dX9_placed_27 rfl rfl ?_
      refine V.goto (pc' := 32) dX9_placed_28 rfl ?_
      refine V.ior (v := s ||| (1 <<< ((nI i) &&& 31))) dX9_placed_32 rfl rfl ?_
      refine V.ist_n dX9_placed_33 rfl (by decide) (L' := [(0, .ref 62), (1, .int a), (2, .int (s ||| (1 <<< ((nI i) &&& 31)))), (3, .int (nI i))]) rfl rfl ?_
      refine V.inc (v := nI (i + 1)) dX9_placed_34 rfl (nI_1 _) (by decide) (L' := [(0, .ref 62), (1, .int a), (2, .int (s ||| (1 <<< ((nI i) &&& 31)))), (3, .int (nI (i + 1)))]) rfl rfl ?_
      refine V.goto (pc' := 4) dX9_placed_37 rfl ?_
      rw [show setG (col M 4) a (n + 1) i s = setG (col M 4) a n (i + 1) (s ||| (1 <<< ((nI i) &&& 31))) from by simp only [setG]; rw [if_pos (show col M 4 i = a from c22)]]
      exact ih (i + 1) _ (by omega)
theorem v_X9_placed {c : Nat} (hc : c ≤ 10) (a : Int32) (M : Mem) (hM : M 63 1 = nI c) : V m_X9_placed 0 [(0, .ref 62), (1, .int a)] [] M (RT (some (.int (setG (col M 4) a c 0 0))) M) := by
  refine V.iconst (v := 0) dX9_placed_0 rfl rfl ?_
  refine V.ist_n dX9_placed_1 rfl (by decide) (L' := [(0, .ref 62), (1, .int a), (2, .int 0)]) rfl rfl ?_
  refine V.iconst (v := 0) dX9_placed_2 rfl rfl ?_
  refine V.ist_n dX9_placed_3 rfl (by decide) (L' := [(0, .ref 62), (1, .int a), (2, .int 0), (3, .int 0)]) rfl rfl ?_
  exact l_X9_placed hc a M hM c 0 0 (by omega)
