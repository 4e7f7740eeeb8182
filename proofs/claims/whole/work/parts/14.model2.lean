/-! The reference: rooms, what is gone, how a batch is, the fire, the crowds -/
theorem nx_and (a b : Nat) : nI a &&& nI b = nI (a &&& b) := by
  apply Int32.toBitVec_inj.1
  show BitVec.ofNat 32 a &&& BitVec.ofNat 32 b = BitVec.ofNat 32 (a &&& b)
  apply BitVec.eq_of_getLsbD_eq
  intro i hi
  simp [hi]
theorem nx_or (a b : Nat) : nI a ||| nI b = nI (a ||| b) := by
  apply Int32.toBitVec_inj.1
  show BitVec.ofNat 32 a ||| BitVec.ofNat 32 b = BitVec.ofNat 32 (a ||| b)
  apply BitVec.eq_of_getLsbD_eq
  intro i hi
  simp [hi]
def onesN : Nat → Nat → Int32 → Int32
  | 0, _, n => n
  | f + 1, k, n => if k = 0 then n else onesN f (k &&& (k - 1)) (n + 1)
theorem kern_lt {k : Nat} (h : ¬ k = 0) : k &&& (k - 1) < k := Nat.lt_of_le_of_lt Nat.and_le_right (by omega)
theorem bit_k : ∀ i, i < 31 → (1 : Int32) <<< (nI i &&& 31) = nI (2 ^ i) := by decide +kernel
theorem setG_nat {f : Nat → Int32} {a : Int32} : ∀ (n i k : Nat), k < 2 ^ i → i + n ≤ 30 → ∃ k', k' < 2 ^ (i + n) ∧ setG f a n i (nI k) = nI k' := by
  intro n
  induction n with
  | zero => intro i k hk hi; exact ⟨k, hk, rfl⟩
  | succ n ih =>
    intro i k hk hi
    have hp : (2 : Nat) ^ i < 2 ^ (i + 1) := Nat.pow_lt_pow_right (by decide) (by omega)
    by_cases q : f i = a
    · obtain ⟨k', h1, h2⟩ := ih (i + 1) (k ||| 2 ^ i) (Nat.or_lt_two_pow (Nat.lt_trans hk hp) hp) (by omega)
      refine ⟨k', by rw [show i + (n + 1) = i + 1 + n by omega]; exact h1, ?_⟩
      rw [← h2]
      simp only [setG]
      rw [if_pos q, bit_k i (by omega), nx_or]
    · obtain ⟨k', h1, h2⟩ := ih (i + 1) k (Nat.lt_trans hk hp) (by omega)
      refine ⟨k', by rw [show i + (n + 1) = i + 1 + n by omega]; exact h1, ?_⟩
      rw [← h2]
      simp only [setG]
      rw [if_neg q]
def onesF (v : Int32) : Int32 := onesN v.toNatClampNeg v.toNatClampNeg 0
set_option maxRecDepth 100000 in
theorem ones_bc : ∀ k, k < 1024 → onesF (nI k) = bcF (nI k) := by decide +kernel
theorem l_X9_ones (v : Int32) (M : Mem) : ∀ (f k : Nat) (n : Int32), k ≤ f → k < 1024 → V m_X9_ones 4 [(0, .int v), (1, .int n), (2, .int (nI k))] [] M (RT (some (.int (onesN f k n))) M) := by
  intro f
  induction f with
  | zero =>
    intro k n hk h10
    obtain rfl : k = 0 := by omega
    refine V.iload_n dX9_ones_4 rfl rfl rfl ?_
    refine V.if_eq (tgt := 20) dX9_ones_5 rfl rfl (fun _ => ?_) (fun c5 => absurd c5 (by decide))
    refine V.iload_n dX9_ones_20 rfl rfl rfl ?_
    exact V.ret dX9_ones_21 rfl rfl ⟨rfl, rfl⟩
  | succ f ih =>
    intro k n hk h10
    refine V.iload_n dX9_ones_4 rfl rfl rfl ?_
    refine V.if_eq (tgt := 20) dX9_ones_5 rfl rfl (fun c5 => ?_) (fun c5 => ?_)
    · have c5 : k = 0 := (nI_eq (a := k) (b := 0) (by omega) (by decide)).mp c5
      refine V.iload_n dX9_ones_20 rfl rfl rfl ?_
      exact V.ret dX9_ones_21 rfl rfl ⟨(by simp only [onesN]; rw [if_pos c5]), rfl⟩
    · have c5 : ¬ k = 0 := fun q => c5 (by rw [q]; rfl)
      refine V.inc (v := n + 1) dX9_ones_8 rfl rfl (by decide) (L' := [(0, .int v), (1, .int (n + 1)), (2, .int (nI k))]) rfl rfl ?_
      refine V.iload_n dX9_ones_11 rfl rfl rfl ?_
      refine V.iload_n dX9_ones_12 rfl rfl rfl ?_
      refine V.iconst (v := 1) dX9_ones_13 rfl rfl ?_
      refine V.isub (v := nI (k - 1)) dX9_ones_14 (by obtain ⟨j, rfl⟩ : ∃ j, k = j + 1 := ⟨k - 1, by omega⟩; exact nI_pred j) rfl ?_
      refine V.iand (v := nI (k &&& (k - 1))) dX9_ones_15 (nx_and _ _) rfl ?_
      refine V.ist_n dX9_ones_16 rfl (by decide) (L' := [(0, .int v), (1, .int (n + 1)), (2, .int (nI (k &&& (k - 1))))]) rfl rfl ?_
      refine V.goto (pc' := 4) dX9_ones_17 rfl ?_
      rw [show onesN (f + 1) k n = onesN f (k &&& (k - 1)) (n + 1) from by simp only [onesN]; rw [if_neg c5]]
      exact ih (k &&& (k - 1)) _ (by have := kern_lt c5; omega) (by have := kern_lt c5; omega)
theorem v_X9_ones {k : Nat} (hk : k < 1024) (M : Mem) : V m_X9_ones 0 [(0, .int (nI k))] [] M (RT (some (.int (onesF (nI k)))) M) := by
  refine V.iconst (v := 0) dX9_ones_0 rfl rfl ?_
  refine V.ist_n dX9_ones_1 rfl (by decide) (L' := [(0, .int (nI k)), (1, .int 0)]) rfl rfl ?_
  refine V.iload_n dX9_ones_2 rfl rfl rfl ?_
  refine V.ist_n dX9_ones_3 rfl (by decide) (L' := [(0, .int (nI k)), (1, .int 0), (2, .int (nI k))]) rfl rfl ?_
  rw [onesF, nI_clamp (by omega)]
  exact l_X9_ones _ M k k 0 (Nat.le_refl k) hk
theorem v_X9_ones' {f : Nat → Int32} {a : Int32} {c : Nat} (hc : c ≤ 10) (M : Mem) : V m_X9_ones 0 [(0, .int (setG f a c 0 0))] [] M (RT (some (.int (onesF (setG f a c 0 0)))) M) := by
  obtain ⟨k, h1, h2⟩ := setG_nat (f := f) (a := a) c 0 0 (by decide) (by omega)
  rw [show setG f a c 0 0 = nI k from h2]
  exact v_X9_ones (Nat.lt_of_lt_of_le h1 (by rw [Nat.zero_add]; exact Nat.pow_le_pow_right (by decide) hc)) M
theorem v_X9_isRoom {c : Nat} (hc : c ≤ 10) (p : Int32) (M : Mem) (hM : M 63 1 = nI c) : V m_X9_isRoom 0 [(0, .ref 62), (1, .int p)] [] M (RT (some (.int (if (¬ p = 1 ∧ ¬ p = 2) ∨ onesF (setG (col M 4) p c 0 0) < (if p = 1 then 2 else 4) then 1 else 0))) M) := by
  refine V.iload_n dX9_isRoom_0 rfl rfl rfl ?_
  refine V.iconst (v := 1) dX9_isRoom_1 rfl rfl ?_
  refine V.icmp_ne (tgt := 25) dX9_isRoom_2 rfl rfl (fun c2 => ?_) (fun c2 => ?_)
  · skip
    refine V.iload_n dX9_isRoom_25 rfl rfl rfl ?_
    refine V.iconst (v := 2) dX9_isRoom_26 rfl rfl ?_
    refine V.icmp_ne (tgt := 42) dX9_isRoom_27 rfl rfl (fun c27 => ?_) (fun c27 => ?_)
    · skip
      refine V.iconst (v := 1) dX9_isRoom_42 rfl rfl ?_
      refine V.goto (pc' := 47) dX9_isRoom_43 rfl ?_
      exact V.ret dX9_isRoom_47 rfl rfl ⟨(by simp_all), rfl⟩
    · skip
      refine V.aload_n dX9_isRoom_30 rfl rfl rfl ?_
      refine V.iconst (v := 2) dX9_isRoom_31 rfl rfl ?_
      refine V.callv_i (M1 := M) (v := setG (col M 4) 2 c 0 0) (md' := m_X9_placed) (As := [.int 2]) (rest := []) dX9_isRoom_32 ml_X9_86 mo_X9_placed ⟨Nat.le_of_ble_eq_true rfl, Nat.le_of_ble_eq_true rfl⟩ rfl ⟨_, _, rfl⟩ (Nat.le_of_ble_eq_true rfl) rfl rfl (Nat.le_of_ble_eq_true rfl) (v_X9_placed hc _ M hM) rfl ?_
      refine V.calls_i (M1 := M) (v := onesF (setG (col M 4) 2 c 0 0)) (md' := m_X9_ones) (As := [.int (setG (col M 4) 2 c 0 0)]) (rest := []) dX9_isRoom_35 ml_X9_89 mo_X9_ones ⟨Nat.le_of_ble_eq_true rfl, Nat.le_of_ble_eq_true rfl⟩ (Nat.le_of_ble_eq_true rfl) rfl rfl (Nat.le_of_ble_eq_true rfl) (v_X9_ones' hc _) rfl ?_
      refine V.iconst (v := 4) dX9_isRoom_38 rfl rfl ?_
      refine V.icmp_ge (tgt := 46) dX9_isRoom_39 rfl rfl (fun c39 => ?_) (fun c39 => ?_)
      · have d39 := Int32.not_lt.mpr c39
        refine V.iconst (v := 0) dX9_isRoom_46 rfl rfl ?_
        exact V.ret dX9_isRoom_47 rfl rfl ⟨(by simp_all), rfl⟩
      · have d39 := Int32.not_le.mp c39
        refine V.iconst (v := 1) dX9_isRoom_42 rfl rfl ?_
        refine V.goto (pc' := 47) dX9_isRoom_43 rfl ?_
        exact V.ret dX9_isRoom_47 rfl rfl ⟨(by simp_all), rfl⟩
  · skip
    refine V.aload_n dX9_isRoom_5 rfl rfl rfl ?_
    refine V.iconst (v := 1) dX9_isRoom_6 rfl rfl ?_
    refine V.callv_i (M1 := M) (v := setG (col M 4) 1 c 0 0) (md' := m_X9_placed) (As := [.int 1]) (rest := []) dX9_isRoom_7 ml_X9_86 mo_X9_placed ⟨Nat.le_of_ble_eq_true rfl, Nat.le_of_ble_eq_true rfl⟩ rfl ⟨_, _, rfl⟩ (Nat.le_of_ble_eq_true rfl) rfl rfl (Nat.le_of_ble_eq_true rfl) (v_X9_placed hc _ M hM) rfl ?_
    refine V.calls_i (M1 := M) (v := onesF (setG (col M 4) 1 c 0 0)) (md' := m_X9_ones) (As := [.int (setG (col M 4) 1 c 0 0)]) (rest := []) dX9_isRoom_10 ml_X9_89 mo_X9_ones ⟨Nat.le_of_ble_eq_true rfl, Nat.le_of_ble_eq_true rfl⟩ (Nat.le_of_ble_eq_true rfl) rfl rfl (Nat.le_of_ble_eq_true rfl) (v_X9_ones' hc _) rfl ?_
    refine V.iconst (v := 2) dX9_isRoom_13 rfl rfl ?_
    refine V.icmp_ge (tgt := 21) dX9_isRoom_14 rfl rfl (fun c14 => ?_) (fun c14 => ?_)
    · have d14 := Int32.not_lt.mpr c14
      refine V.iconst (v := 0) dX9_isRoom_21 rfl rfl ?_
      refine V.goto (pc' := 47) dX9_isRoom_22 rfl ?_
      exact V.ret dX9_isRoom_47 rfl rfl ⟨(by simp_all), rfl⟩
    · have d14 := Int32.not_le.mp c14
      refine V.iconst (v := 1) dX9_isRoom_17 rfl rfl ?_
      refine V.goto (pc' := 47) dX9_isRoom_18 rfl ?_
      exact V.ret dX9_isRoom_47 rfl rfl ⟨(by simp_all), rfl⟩
def mGoesM (b : Nat) (M : Mem) : Mem := ms (ms (ms M 63 11 (M 63 11 + M 63 (20 + 5 * b + 1))) 63 (20 + 5 * b + 1) 0) 63 (20 + 5 * b + 4) 4
def mPutM (b : Nat) (p : Int32) (M : Mem) : Mem := if p = 4 then mGoesM b M else ms (ms M 63 (20 + 5 * b + 4) p) 63 (20 + 5 * b + 3) (if p = 3 then 0 else M 63 (20 + 5 * b + 3))
theorem v_X9_goes {b : Nat} (hb : b < 10) (M : Mem) : V m_X9_goes 0 [(0, .ref 62), (1, .int (nI b))] [] M (RT none (mGoesM b M)) := by
  refine V.aload_n dX9_goes_0 rfl rfl rfl ?_
  refine V.getr dX9_goes_1 fg_X9_7 rfl rfl rfl ?_
  refine V.bipush (v := 11) dX9_goes_4 (by decide) rfl ?_
  refine V.dup2 dX9_goes_6 rfl rfl rfl ?_
  refine V.ialdN (j := 11) (v := M 63 11) dX9_goes_7 rfl (by decide) (by decide) rfl rfl rfl ?_
  refine V.aload_n dX9_goes_8 rfl rfl rfl ?_
  refine V.iload_n dX9_goes_9 rfl rfl rfl ?_
  refine V.iconst (v := 1) dX9_goes_10 rfl rfl ?_
  refine V.callv_i (M1 := M) (v := M 63 (20 + 5 * b + 1)) (md' := m_X9_its) (As := [.int (nI b), .int 1]) (rest := [.int (M 63 11), .int 11, .ref 63]) dX9_goes_11 ml_X9_60 mo_X9_its ⟨Nat.le_of_ble_eq_true rfl, Nat.le_of_ble_eq_true rfl⟩ rfl ⟨_, _, rfl⟩ (Nat.le_of_ble_eq_true rfl) rfl rfl (Nat.le_of_ble_eq_true rfl) (v_X9_its (b := b) (w := 1) (by omega) (by omega) _) rfl ?_
  refine V.iadd (v := (M 63 11) + (M 63 (20 + 5 * b + 1))) dX9_goes_14 rfl rfl ?_
  refine V.iastN (j := 11) dX9_goes_15 rfl (by decide) (by decide) rfl (M' := (ms M 63 11 ((M 63 11) + (M 63 (20 + 5 * b + 1))))) rfl rfl ?_
  refine V.aload_n dX9_goes_16 rfl rfl rfl ?_
  refine V.getr dX9_goes_17 fg_X9_7 rfl rfl rfl ?_
  refine V.iload_n dX9_goes_20 rfl rfl rfl ?_
  refine V.iconst (v := 1) dX9_goes_21 rfl rfl ?_
  refine V.calls_i (M1 := (ms M 63 11 ((M 63 11) + (M 63 (20 + 5 * b + 1))))) (v := nI (20 + 5 * b + 1)) (md' := m_X9_where) (As := [.int (nI b), .int 1]) (rest := [.ref 63]) dX9_goes_22 ml_X9_45 mo_X9_where ⟨Nat.le_of_ble_eq_true rfl, Nat.le_of_ble_eq_true rfl⟩ (Nat.le_of_ble_eq_true rfl) rfl rfl (Nat.le_of_ble_eq_true rfl) (v_X9_where b 1 _) rfl ?_
  refine V.iconst (v := 0) dX9_goes_25 rfl rfl ?_
  refine V.iastN (j := 20 + 5 * b + 1) dX9_goes_26 rfl (by omega) (by decide) rfl (M' := (ms (ms M 63 11 ((M 63 11) + (M 63 (20 + 5 * b + 1)))) 63 (20 + 5 * b + 1) 0)) rfl rfl ?_
  refine V.aload_n dX9_goes_27 rfl rfl rfl ?_
  refine V.getr dX9_goes_28 fg_X9_7 rfl rfl rfl ?_
  refine V.iload_n dX9_goes_31 rfl rfl rfl ?_
  refine V.iconst (v := 4) dX9_goes_32 rfl rfl ?_
  refine V.calls_i (M1 := (ms (ms M 63 11 ((M 63 11) + (M 63 (20 + 5 * b + 1)))) 63 (20 + 5 * b + 1) 0)) (v := nI (20 + 5 * b + 4)) (md' := m_X9_where) (As := [.int (nI b), .int 4]) (rest := [.ref 63]) dX9_goes_33 ml_X9_45 mo_X9_where ⟨Nat.le_of_ble_eq_true rfl, Nat.le_of_ble_eq_true rfl⟩ (Nat.le_of_ble_eq_true rfl) rfl rfl (Nat.le_of_ble_eq_true rfl) (v_X9_where b 4 _) rfl ?_
  refine V.iconst (v := 4) dX9_goes_36 rfl rfl ?_
  refine V.iastN (j := 20 + 5 * b + 4) dX9_goes_37 rfl (by omega) (by decide) rfl (M' := (ms (ms (ms M 63 11 ((M 63 11) + (M 63 (20 + 5 * b + 1)))) 63 (20 + 5 * b + 1) 0) 63 (20 + 5 * b + 4) 4)) rfl rfl ?_
  exact V.vret dX9_goes_38 rfl ⟨rfl, rfl⟩
theorem v_X9_putsAt {b : Nat} (hb : b < 10) (p : Int32) (M : Mem) : V m_X9_putsAt 0 [(0, .ref 62), (1, .int (nI b)), (2, .int p)] [] M (RT none (mPutM b p M)) := by
  refine V.iload_n dX9_putsAt_0 rfl rfl rfl ?_
  refine V.iconst (v := 4) dX9_putsAt_1 rfl rfl ?_
  refine V.icmp_ne (tgt := 13) dX9_putsAt_2 rfl rfl (fun c2 => ?_) (fun c2 => ?_)
  · skip
    refine V.aload_n dX9_putsAt_13 rfl rfl rfl ?_
    refine V.getr dX9_putsAt_14 fg_X9_7 rfl rfl rfl ?_
    refine V.iload_n dX9_putsAt_17 rfl rfl rfl ?_
    refine V.iconst (v := 4) dX9_putsAt_18 rfl rfl ?_
    refine V.calls_i (M1 := M) (v := nI (20 + 5 * b + 4)) (md' := m_X9_where) (As := [.int (nI b), .int 4]) (rest := [.ref 63]) dX9_putsAt_19 ml_X9_45 mo_X9_where ⟨Nat.le_of_ble_eq_true rfl, Nat.le_of_ble_eq_true rfl⟩ (Nat.le_of_ble_eq_true rfl) rfl rfl (Nat.le_of_ble_eq_true rfl) (v_X9_where b 4 _) rfl ?_
    refine V.iload_n dX9_putsAt_22 rfl rfl rfl ?_
    refine V.iastN (j := 20 + 5 * b + 4) dX9_putsAt_23 rfl (by omega) (by decide) rfl (M' := (ms M 63 (20 + 5 * b + 4) p)) rfl rfl ?_
    refine V.aload_n dX9_putsAt_24 rfl rfl rfl ?_
    refine V.getr dX9_putsAt_25 fg_X9_7 rfl rfl rfl ?_
    refine V.iload_n dX9_putsAt_28 rfl rfl rfl ?_
    refine V.iconst (v := 3) dX9_putsAt_29 rfl rfl ?_
    refine V.calls_i (M1 := (ms M 63 (20 + 5 * b + 4) p)) (v := nI (20 + 5 * b + 3)) (md' := m_X9_where) (As := [.int (nI b), .int 3]) (rest := [.ref 63]) dX9_putsAt_30 ml_X9_45 mo_X9_where ⟨Nat.le_of_ble_eq_true rfl, Nat.le_of_ble_eq_true rfl⟩ (Nat.le_of_ble_eq_true rfl) rfl rfl (Nat.le_of_ble_eq_true rfl) (v_X9_where b 3 _) rfl ?_
    refine V.iload_n dX9_putsAt_33 rfl rfl rfl ?_
    refine V.iconst (v := 3) dX9_putsAt_34 rfl rfl ?_
    refine V.icmp_ne (tgt := 42) dX9_putsAt_35 rfl rfl (fun c35 => ?_) (fun c35 => ?_)
    · skip
      refine V.aload_n dX9_putsAt_42 rfl rfl rfl ?_
      refine V.iload_n dX9_putsAt_43 rfl rfl rfl ?_
      refine V.iconst (v := 3) dX9_putsAt_44 rfl rfl ?_
      refine V.callv_i (M1 := (ms M 63 (20 + 5 * b + 4) p)) (v := M 63 (20 + 5 * b + 3)) (md' := m_X9_its) (As := [.int (nI b), .int 3]) (rest := [.int (nI (20 + 5 * b + 3)), .ref 63]) dX9_putsAt_45 ml_X9_60 mo_X9_its ⟨Nat.le_of_ble_eq_true rfl, Nat.le_of_ble_eq_true rfl⟩ rfl ⟨_, _, rfl⟩ (Nat.le_of_ble_eq_true rfl) rfl rfl (Nat.le_of_ble_eq_true rfl) (by rw [show M 63 (20 + 5 * b + 3) = ms M 63 (20 + 5 * b + 4) p 63 (20 + 5 * b + 3) from by rw [ms_j (by omega)]]; exact v_X9_its (b := b) (w := 3) (by omega) (by omega) _) rfl ?_
      refine V.iastN (j := 20 + 5 * b + 3) dX9_putsAt_48 rfl (by omega) (by decide) rfl (M' := (ms (ms M 63 (20 + 5 * b + 4) p) 63 (20 + 5 * b + 3) (M 63 (20 + 5 * b + 3)))) rfl rfl ?_
      exact V.vret dX9_putsAt_49 rfl ⟨rfl, (by simp [mPutM, *])⟩
    · skip
      refine V.iconst (v := 0) dX9_putsAt_38 rfl rfl ?_
      refine V.goto (pc' := 48) dX9_putsAt_39 rfl ?_
      refine V.iastN (j := 20 + 5 * b + 3) dX9_putsAt_48 rfl (by omega) (by decide) rfl (M' := (ms (ms M 63 (20 + 5 * b + 4) p) 63 (20 + 5 * b + 3) 0)) rfl rfl ?_
      exact V.vret dX9_putsAt_49 rfl ⟨rfl, (by simp [mPutM, *])⟩
  · skip
    refine V.aload_n dX9_putsAt_5 rfl rfl rfl ?_
    refine V.iload_n dX9_putsAt_6 rfl rfl rfl ?_
    refine V.callv_v (M1 := mGoesM b M) (md' := m_X9_goes) (As := [.int (nI b)]) (rest := []) dX9_putsAt_7 ml_X9_92 mo_X9_goes ⟨Nat.le_of_ble_eq_true rfl, Nat.le_of_ble_eq_true rfl⟩ rfl ⟨_, _, rfl⟩ (Nat.le_of_ble_eq_true rfl) rfl rfl (Nat.le_of_ble_eq_true rfl) (v_X9_goes hb M) rfl ?_
    refine V.goto (pc' := 49) dX9_putsAt_10 rfl ?_
    exact V.vret dX9_putsAt_49 rfl ⟨rfl, (by simp [mPutM, *])⟩
theorem v_X9_isReady {b : Nat} (hb : b < 10) (M : Mem) : V m_X9_isReady 0 [(0, .ref 62), (1, .int (nI b))] [] M (RT (some (.int (if readyF (M 63 (20 + 5 * b)) ≤ M 63 (20 + 5 * b + 2) then 1 else 0))) M) := by
  refine V.aload_n dX9_isReady_0 rfl rfl rfl ?_
  refine V.iload_n dX9_isReady_1 rfl rfl rfl ?_
  refine V.iconst (v := 2) dX9_isReady_2 rfl rfl ?_
  refine V.callv_i (M1 := M) (v := M 63 (20 + 5 * b + 2)) (md' := m_X9_its) (As := [.int (nI b), .int 2]) (rest := []) dX9_isReady_3 ml_X9_60 mo_X9_its ⟨Nat.le_of_ble_eq_true rfl, Nat.le_of_ble_eq_true rfl⟩ rfl ⟨_, _, rfl⟩ (Nat.le_of_ble_eq_true rfl) rfl rfl (Nat.le_of_ble_eq_true rfl) (v_X9_its (b := b) (w := 2) (by omega) (by omega) _) rfl ?_
  refine V.aload_n dX9_isReady_6 rfl rfl rfl ?_
  refine V.iload_n dX9_isReady_7 rfl rfl rfl ?_
  refine V.callv_i (M1 := M) (v := readyF (M 63 (20 + 5 * b))) (md' := m_X9_readyAt) (As := [.int (nI b)]) (rest := [.int (M 63 (20 + 5 * b + 2))]) dX9_isReady_8 ml_X9_63 mo_X9_readyAt ⟨Nat.le_of_ble_eq_true rfl, Nat.le_of_ble_eq_true rfl⟩ rfl ⟨_, _, rfl⟩ (Nat.le_of_ble_eq_true rfl) rfl rfl (Nat.le_of_ble_eq_true rfl) (v_X9_readyAt (b := b) (by omega) _) rfl ?_
  refine V.icmp_lt (tgt := 18) dX9_isReady_11 rfl rfl (fun c11 => ?_) (fun c11 => ?_)
  · have d11 := Int32.not_le.mpr c11
    refine V.iconst (v := 0) dX9_isReady_18 rfl rfl ?_
    exact V.ret dX9_isReady_19 rfl rfl ⟨(by simp [*]), rfl⟩
  · have d11 := Int32.not_lt.mp c11
    refine V.iconst (v := 1) dX9_isReady_14 rfl rfl ?_
    refine V.goto (pc' := 19) dX9_isReady_15 rfl ?_
    exact V.ret dX9_isReady_19 rfl rfl ⟨(by simp [*]), rfl⟩
theorem v_X9_isBurnt {b : Nat} (hb : b < 10) (M : Mem) : V m_X9_isBurnt 0 [(0, .ref 62), (1, .int (nI b))] [] M (RT (some (.int (if burntF (M 63 (20 + 5 * b)) ≤ M 63 (20 + 5 * b + 2) then 1 else 0))) M) := by
  refine V.aload_n dX9_isBurnt_0 rfl rfl rfl ?_
  refine V.iload_n dX9_isBurnt_1 rfl rfl rfl ?_
  refine V.iconst (v := 2) dX9_isBurnt_2 rfl rfl ?_
  refine V.callv_i (M1 := M) (v := M 63 (20 + 5 * b + 2)) (md' := m_X9_its) (As := [.int (nI b), .int 2]) (rest := []) dX9_isBurnt_3 ml_X9_60 mo_X9_its ⟨Nat.le_of_ble_eq_true rfl, Nat.le_of_ble_eq_true rfl⟩ rfl ⟨_, _, rfl⟩ (Nat.le_of_ble_eq_true rfl) rfl rfl (Nat.le_of_ble_eq_true rfl) (v_X9_its (b := b) (w := 2) (by omega) (by omega) _) rfl ?_
  refine V.aload_n dX9_isBurnt_6 rfl rfl rfl ?_
  refine V.iload_n dX9_isBurnt_7 rfl rfl rfl ?_
  refine V.callv_i (M1 := M) (v := burntF (M 63 (20 + 5 * b))) (md' := m_X9_burntAt) (As := [.int (nI b)]) (rest := [.int (M 63 (20 + 5 * b + 2))]) dX9_isBurnt_8 ml_X9_72 mo_X9_burntAt ⟨Nat.le_of_ble_eq_true rfl, Nat.le_of_ble_eq_true rfl⟩ rfl ⟨_, _, rfl⟩ (Nat.le_of_ble_eq_true rfl) rfl rfl (Nat.le_of_ble_eq_true rfl) (v_X9_burntAt (b := b) (by omega) _) rfl ?_
  refine V.icmp_lt (tgt := 18) dX9_isBurnt_11 rfl rfl (fun c11 => ?_) (fun c11 => ?_)
  · have d11 := Int32.not_le.mpr c11
    refine V.iconst (v := 0) dX9_isBurnt_18 rfl rfl ?_
    exact V.ret dX9_isBurnt_19 rfl rfl ⟨(by simp [*]), rfl⟩
  · have d11 := Int32.not_lt.mp c11
    refine V.iconst (v := 1) dX9_isBurnt_14 rfl rfl ?_
    refine V.goto (pc' := 19) dX9_isBurnt_15 rfl ?_
    exact V.ret dX9_isBurnt_19 rfl rfl ⟨(by simp [*]), rfl⟩
def hwF (k ro ag pl : Int32) : Int32 := if pl = 4 then 5 else if burntF k ≤ ro then 4 else if readyF k ≤ ro then (if ag < 11 then 1 else if ag < 26 then 2 else 3) else 0
theorem v_X9_howIs {b : Nat} (hb : b < 10) (M : Mem) : V m_X9_howIs 0 [(0, .ref 62), (1, .int (nI b))] [] M (RT (some (.int (hwF (M 63 (20 + 5 * b)) (M 63 (20 + 5 * b + 2)) (M 63 (20 + 5 * b + 3)) (M 63 (20 + 5 * b + 4))))) M) := by
  refine V.aload_n dX9_howIs_0 rfl rfl rfl ?_
  refine V.iload_n dX9_howIs_1 rfl rfl rfl ?_
  refine V.iconst (v := 3) dX9_howIs_2 rfl rfl ?_
  refine V.callv_i (M1 := M) (v := M 63 (20 + 5 * b + 3)) (md' := m_X9_its) (As := [.int (nI b), .int 3]) (rest := []) dX9_howIs_3 ml_X9_60 mo_X9_its ⟨Nat.le_of_ble_eq_true rfl, Nat.le_of_ble_eq_true rfl⟩ rfl ⟨_, _, rfl⟩ (Nat.le_of_ble_eq_true rfl) rfl rfl (Nat.le_of_ble_eq_true rfl) (v_X9_its (b := b) (w := 3) (by omega) (by omega) _) rfl ?_
  refine V.ist_n dX9_howIs_6 rfl (by decide) (L' := [(0, .ref 62), (1, .int (nI b)), (2, .int (M 63 (20 + 5 * b + 3)))]) rfl rfl ?_
  refine V.aload_n dX9_howIs_7 rfl rfl rfl ?_
  refine V.iload_n dX9_howIs_8 rfl rfl rfl ?_
  refine V.iconst (v := 4) dX9_howIs_9 rfl rfl ?_
  refine V.callv_i (M1 := M) (v := M 63 (20 + 5 * b + 4)) (md' := m_X9_its) (As := [.int (nI b), .int 4]) (rest := []) dX9_howIs_10 ml_X9_60 mo_X9_its ⟨Nat.le_of_ble_eq_true rfl, Nat.le_of_ble_eq_true rfl⟩ rfl ⟨_, _, rfl⟩ (Nat.le_of_ble_eq_true rfl) rfl rfl (Nat.le_of_ble_eq_true rfl) (v_X9_its (b := b) (w := 4) (by omega) (by omega) _) rfl ?_
  refine V.iconst (v := 4) dX9_howIs_13 rfl rfl ?_
  refine V.icmp_ne (tgt := 19) dX9_howIs_14 rfl rfl (fun c14 => ?_) (fun c14 => ?_)
  · skip
    refine V.aload_n dX9_howIs_19 rfl rfl rfl ?_
    refine V.iload_n dX9_howIs_20 rfl rfl rfl ?_
    refine V.callv_i (M1 := M) (v := if burntF (M 63 (20 + 5 * b)) ≤ M 63 (20 + 5 * b + 2) then 1 else 0) (md' := m_X9_isBurnt) (As := [.int (nI b)]) (rest := []) dX9_howIs_21 ml_X9_111 mo_X9_isBurnt ⟨Nat.le_of_ble_eq_true rfl, Nat.le_of_ble_eq_true rfl⟩ rfl ⟨_, _, rfl⟩ (Nat.le_of_ble_eq_true rfl) rfl rfl (Nat.le_of_ble_eq_true rfl) (v_X9_isBurnt (b := b) (by omega) _) rfl ?_
    refine V.ifb_eq (tgt := 31) dX9_howIs_24 rfl rfl (fun c24 => ?_) (fun c24 => ?_)
    · skip
      refine V.aload_n dX9_howIs_31 rfl rfl rfl ?_
      refine V.iload_n dX9_howIs_32 rfl rfl rfl ?_
      refine V.callv_i (M1 := M) (v := if readyF (M 63 (20 + 5 * b)) ≤ M 63 (20 + 5 * b + 2) then 1 else 0) (md' := m_X9_isReady) (As := [.int (nI b)]) (rest := []) dX9_howIs_33 ml_X9_114 mo_X9_isReady ⟨Nat.le_of_ble_eq_true rfl, Nat.le_of_ble_eq_true rfl⟩ rfl ⟨_, _, rfl⟩ (Nat.le_of_ble_eq_true rfl) rfl rfl (Nat.le_of_ble_eq_true rfl) (v_X9_isReady (b := b) (by omega) _) rfl ?_
      refine V.ifb_ne (tgt := 43) dX9_howIs_36 rfl rfl (fun c36 => ?_) (fun c36 => ?_)
      · skip
        refine V.iload_n dX9_howIs_43 rfl rfl rfl ?_
        refine V.bipush (v := 11) dX9_howIs_44 (by decide) rfl ?_
        refine V.icmp_ge (tgt := 53) dX9_howIs_46 rfl rfl (fun c46 => ?_) (fun c46 => ?_)
        · have d46 := Int32.not_lt.mpr c46
          refine V.iload_n dX9_howIs_53 rfl rfl rfl ?_
          refine V.bipush (v := 26) dX9_howIs_54 (by decide) rfl ?_
          refine V.icmp_ge (tgt := 63) dX9_howIs_56 rfl rfl (fun c56 => ?_) (fun c56 => ?_)
          · have d56 := Int32.not_lt.mpr c56
            refine V.iconst (v := 3) dX9_howIs_63 rfl rfl ?_
            exact V.ret dX9_howIs_64 rfl rfl ⟨(by simp only [hwF]; simp [*]), rfl⟩
          · have d56 := Int32.not_le.mp c56
            refine V.iconst (v := 2) dX9_howIs_59 rfl rfl ?_
            refine V.goto (pc' := 64) dX9_howIs_60 rfl ?_
            exact V.ret dX9_howIs_64 rfl rfl ⟨(by simp only [hwF]; simp [*]), rfl⟩
        · have d46 := Int32.not_le.mp c46
          refine V.iconst (v := 1) dX9_howIs_49 rfl rfl ?_
          refine V.goto (pc' := 64) dX9_howIs_50 rfl ?_
          exact V.ret dX9_howIs_64 rfl rfl ⟨(by simp only [hwF]; simp [*]), rfl⟩
      · skip
        refine V.iconst (v := 0) dX9_howIs_39 rfl rfl ?_
        refine V.goto (pc' := 64) dX9_howIs_40 rfl ?_
        exact V.ret dX9_howIs_64 rfl rfl ⟨(by simp only [hwF]; simp [*]), rfl⟩
    · skip
      refine V.iconst (v := 4) dX9_howIs_27 rfl rfl ?_
      refine V.goto (pc' := 64) dX9_howIs_28 rfl ?_
      exact V.ret dX9_howIs_64 rfl rfl ⟨(by simp only [hwF]; simp [*]), rfl⟩
  · skip
    refine V.iconst (v := 5) dX9_howIs_17 rfl rfl ?_
    exact V.ret dX9_howIs_18 rfl rfl ⟨(by simp only [hwF]; simp [*]), rfl⟩
def dueC (M : Mem) : Nat → Int32 := fun k => M 63 (13 + k)
theorem l_X9_dueAll (M : Mem) : ∀ (n i : Nat) (s : Int32), i + n = 7 → V m_X9_dueAll 4 [(0, .ref 62), (1, .int s), (2, .int (nI i))] [] M (RT (some (.int (sumG (dueC M) n i s))) M) := by
  intro n
  induction n with
  | zero =>
    intro i s hi
    refine V.iload_n dX9_dueAll_4 rfl rfl rfl ?_
    refine V.bipush (v := 7) dX9_dueAll_5 (by decide) rfl ?_
    refine V.icmp_ge (tgt := 28) dX9_dueAll_7 rfl rfl (fun c7 => ?_) (fun c7 => absurd ((nI_leI (a := 7) (b := i) (by omega) (by omega)).mpr (by omega)) c7)
    have c7 : 7 ≤ i := (nI_leI (a := 7) (b := i) (by omega) (by omega)).mp c7
    refine V.iload_n dX9_dueAll_28 rfl rfl rfl ?_
    exact V.ret dX9_dueAll_29 rfl rfl ⟨rfl, rfl⟩
  | succ n ih =>
    intro i s hi
    refine V.iload_n dX9_dueAll_4 rfl rfl rfl ?_
    refine V.bipush (v := 7) dX9_dueAll_5 (by decide) rfl ?_
    refine V.icmp_ge (tgt := 28) dX9_dueAll_7 rfl rfl (fun c7 => absurd ((nI_leI (a := 7) (b := i) (by omega) (by omega)).mp c7) (by omega)) (fun c7 => ?_)
    have c7 : ¬ 7 ≤ i := fun q => c7 ((nI_leI (a := 7) (b := i) (by omega) (by omega)).mpr q)
    refine V.iload_n dX9_dueAll_10 rfl rfl rfl ?_
    refine V.aload_n dX9_dueAll_11 rfl rfl rfl ?_
    refine V.getr dX9_dueAll_12 fg_X9_7 rfl rfl rfl ?_
    refine V.bipush (v := 13) dX9_dueAll_15 (by decide) rfl ?_
    refine V.iload_n dX9_dueAll_17 rfl rfl rfl ?_
    refine V.iadd (v := nI (13 + i)) dX9_dueAll_18 (nI_add _ _) rfl ?_
    refine V.ialdN (j := 13 + i) (v := M 63 (13 + i)) dX9_dueAll_19 rfl (by omega) (by decide) rfl rfl rfl ?_
    refine V.iadd (v := s + (M 63 (13 + i))) dX9_dueAll_20 rfl rfl ?_
    refine V.ist_n dX9_dueAll_21 rfl (by decide) (L' := [(0, .ref 62), (1, .int (s + (M 63 (13 + i)))), (2, .int (nI i))]) rfl rfl ?_
    refine V.inc (v := nI (i + 1)) dX9_dueAll_22 rfl (nI_1 _) (by decide) (L' := [(0, .ref 62), (1, .int (s + (M 63 (13 + i)))), (2, .int (nI (i + 1)))]) rfl rfl ?_
    refine V.goto (pc' := 4) dX9_dueAll_25 rfl ?_
    exact ih (i + 1) _ (by omega)
theorem v_X9_dueAll (M : Mem) : V m_X9_dueAll 0 [(0, .ref 62)] [] M (RT (some (.int (sumG (dueC M) 7 0 0))) M) := by
  refine V.iconst (v := 0) dX9_dueAll_0 rfl rfl ?_
  refine V.ist_n dX9_dueAll_1 rfl (by decide) (L' := [(0, .ref 62), (1, .int 0)]) rfl rfl ?_
  refine V.iconst (v := 0) dX9_dueAll_2 rfl rfl ?_
  refine V.ist_n dX9_dueAll_3 rfl (by decide) (L' := [(0, .ref 62), (1, .int 0), (2, .int 0)]) rfl rfl ?_
  exact l_X9_dueAll M 7 0 0 rfl
def mWalkM (t : Int32) (M : Mem) : Mem := ms (ms M 63 9 (3 * (if t < M 63 8 then M 63 8 - t else t - M 63 8))) 63 8 t
theorem v_X9_walks (t : Int32) (M : Mem) : V m_X9_walks 0 [(0, .ref 62), (1, .int t)] [] M (RT none (mWalkM t M)) := by
  refine V.iload_n dX9_walks_0 rfl rfl rfl ?_
  refine V.aload_n dX9_walks_1 rfl rfl rfl ?_
  refine V.getr dX9_walks_2 fg_X9_7 rfl rfl rfl ?_
  refine V.bipush (v := 8) dX9_walks_5 (by decide) rfl ?_
  refine V.ialdN (j := 8) (v := M 63 8) dX9_walks_7 rfl (by decide) (by decide) rfl rfl rfl ?_
  refine V.icmp_ge (tgt := 23) dX9_walks_8 rfl rfl (fun c8 => ?_) (fun c8 => ?_)
  · have d8 := Int32.not_lt.mpr c8
    refine V.iload_n dX9_walks_23 rfl rfl rfl ?_
    refine V.aload_n dX9_walks_24 rfl rfl rfl ?_
    refine V.getr dX9_walks_25 fg_X9_7 rfl rfl rfl ?_
    refine V.bipush (v := 8) dX9_walks_28 (by decide) rfl ?_
    refine V.ialdN (j := 8) (v := M 63 8) dX9_walks_30 rfl (by decide) (by decide) rfl rfl rfl ?_
    refine V.isub (v := t - (M 63 8)) dX9_walks_31 rfl rfl ?_
    refine V.ist_n dX9_walks_32 rfl (by decide) (L' := [(0, .ref 62), (1, .int t), (2, .int (t - (M 63 8)))]) rfl rfl ?_
    refine V.aload_n dX9_walks_33 rfl rfl rfl ?_
    refine V.getr dX9_walks_34 fg_X9_7 rfl rfl rfl ?_
    refine V.bipush (v := 9) dX9_walks_37 (by decide) rfl ?_
    refine V.iconst (v := 3) dX9_walks_39 rfl rfl ?_
    refine V.iload_n dX9_walks_40 rfl rfl rfl ?_
    refine V.imul (v := 3 * (t - (M 63 8))) dX9_walks_41 rfl rfl ?_
    refine V.iastN (j := 9) dX9_walks_42 rfl (by decide) (by decide) rfl (M' := (ms M 63 9 (3 * (t - (M 63 8))))) rfl rfl ?_
    refine V.aload_n dX9_walks_43 rfl rfl rfl ?_
    refine V.getr dX9_walks_44 fg_X9_7 rfl rfl rfl ?_
    refine V.bipush (v := 8) dX9_walks_47 (by decide) rfl ?_
    refine V.iload_n dX9_walks_49 rfl rfl rfl ?_
    refine V.iastN (j := 8) dX9_walks_50 rfl (by decide) (by decide) rfl (M' := (ms (ms M 63 9 (3 * (t - (M 63 8)))) 63 8 t)) rfl rfl ?_
    exact V.vret dX9_walks_51 rfl ⟨rfl, (by simp only [mWalkM]; rw [if_neg d8])⟩
  · have d8 := Int32.not_le.mp c8
    refine V.aload_n dX9_walks_11 rfl rfl rfl ?_
    refine V.getr dX9_walks_12 fg_X9_7 rfl rfl rfl ?_
    refine V.bipush (v := 8) dX9_walks_15 (by decide) rfl ?_
    refine V.ialdN (j := 8) (v := M 63 8) dX9_walks_17 rfl (by decide) (by decide) rfl rfl rfl ?_
    refine V.iload_n dX9_walks_18 rfl rfl rfl ?_
    refine V.isub (v := (M 63 8) - t) dX9_walks_19 rfl rfl ?_
    refine V.goto (pc' := 32) dX9_walks_20 rfl ?_
    refine V.ist_n dX9_walks_32 rfl (by decide) (L' := [(0, .ref 62), (1, .int t), (2, .int ((M 63 8) - t))]) rfl rfl ?_
    refine V.aload_n dX9_walks_33 rfl rfl rfl ?_
    refine V.getr dX9_walks_34 fg_X9_7 rfl rfl rfl ?_
    refine V.bipush (v := 9) dX9_walks_37 (by decide) rfl ?_
    refine V.iconst (v := 3) dX9_walks_39 rfl rfl ?_
    refine V.iload_n dX9_walks_40 rfl rfl rfl ?_
    refine V.imul (v := 3 * ((M 63 8) - t)) dX9_walks_41 rfl rfl ?_
    refine V.iastN (j := 9) dX9_walks_42 rfl (by decide) (by decide) rfl (M' := (ms M 63 9 (3 * ((M 63 8) - t)))) rfl rfl ?_
    refine V.aload_n dX9_walks_43 rfl rfl rfl ?_
    refine V.getr dX9_walks_44 fg_X9_7 rfl rfl rfl ?_
    refine V.bipush (v := 8) dX9_walks_47 (by decide) rfl ?_
    refine V.iload_n dX9_walks_49 rfl rfl rfl ?_
    refine V.iastN (j := 8) dX9_walks_50 rfl (by decide) (by decide) rfl (M' := (ms (ms M 63 9 (3 * ((M 63 8) - t))) 63 8 t)) rfl rfl ?_
    exact V.vret dX9_walks_51 rfl ⟨rfl, (by simp only [mWalkM]; rw [if_pos d8])⟩
theorem v_X9_come {b : Nat} (hb : b < 12) (M : Mem) : V m_X9_come 0 [(0, .ref 62), (1, .int (nI b))] [] M (RT (some (.int (comeF (M 63 (70 + 3 * b + 2)) (M 63 6) (M 63 5)))) M) := by
  refine V.aload_n dX9_come_0 rfl rfl rfl ?_
  refine V.iload_n dX9_come_1 rfl rfl rfl ?_
  refine V.iconst (v := 2) dX9_come_2 rfl rfl ?_
  refine V.callv_i (M1 := M) (v := M 63 (70 + 3 * b + 2)) (md' := m_X9_told) (As := [.int (nI b), .int 2]) (rest := []) dX9_come_3 ml_X9_145 mo_X9_told ⟨Nat.le_of_ble_eq_true rfl, Nat.le_of_ble_eq_true rfl⟩ rfl ⟨_, _, rfl⟩ (Nat.le_of_ble_eq_true rfl) rfl rfl (Nat.le_of_ble_eq_true rfl) (v_X9_told (b := b) (w := 2) (by omega) (by omega) _) rfl ?_
  refine V.aload_n dX9_come_6 rfl rfl rfl ?_
  refine V.getr dX9_come_7 fg_X9_7 rfl rfl rfl ?_
  refine V.bipush (v := 6) dX9_come_10 (by decide) rfl ?_
  refine V.ialdN (j := 6) (v := M 63 6) dX9_come_12 rfl (by decide) (by decide) rfl rfl rfl ?_
  refine V.iconst (v := 1) dX9_come_13 rfl rfl ?_
  refine V.iadd (v := (M 63 6) + 1) dX9_come_14 rfl rfl ?_
  refine V.imul (v := (M 63 (70 + 3 * b + 2)) * ((M 63 6) + 1)) dX9_come_15 rfl rfl ?_
  refine V.bipush (v := 11) dX9_come_16 (by decide) rfl ?_
  refine V.idiv (v := ((M 63 (70 + 3 * b + 2)) * ((M 63 6) + 1)) / 11) dX9_come_18 (by decide) rfl rfl ?_
  refine V.ist_n dX9_come_19 rfl (by decide) (L' := [(0, .ref 62), (1, .int (nI b)), (2, .int (((M 63 (70 + 3 * b + 2)) * ((M 63 6) + 1)) / 11))]) rfl rfl ?_
  refine V.iload_n dX9_come_20 rfl rfl rfl ?_
  refine V.iload_n dX9_come_21 rfl rfl rfl ?_
  refine V.aload_n dX9_come_22 rfl rfl rfl ?_
  refine V.getr dX9_come_23 fg_X9_7 rfl rfl rfl ?_
  refine V.iconst (v := 5) dX9_come_26 rfl rfl ?_
  refine V.ialdN (j := 5) (v := M 63 5) dX9_come_27 rfl (by decide) (by decide) rfl rfl rfl ?_
  refine V.imul (v := (((M 63 (70 + 3 * b + 2)) * ((M 63 6) + 1)) / 11) * (M 63 5)) dX9_come_28 rfl rfl ?_
  refine V.bipush (v := 100) dX9_come_29 (by decide) rfl ?_
  refine V.idiv (v := ((((M 63 (70 + 3 * b + 2)) * ((M 63 6) + 1)) / 11) * (M 63 5)) / 100) dX9_come_31 (by decide) rfl rfl ?_
  refine V.isub (v := (((M 63 (70 + 3 * b + 2)) * ((M 63 6) + 1)) / 11) - (((((M 63 (70 + 3 * b + 2)) * ((M 63 6) + 1)) / 11) * (M 63 5)) / 100)) dX9_come_32 rfl rfl ?_
  exact V.ret dX9_come_33 rfl rfl ⟨rfl, rfl⟩
