/-! The reference: the tape, sheets, images, counts -/
def dI : Nat → Int32
  | 0 => -1
  | k + 1 => nI k
theorem dI_dec : ∀ k : Nat, nI k + -1 = dI k
  | 0 => by decide
  | k + 1 => by
    show nI (k + 1) + -1 = nI k
    rw [← nI_1 k, Int32.add_assoc, show (1 : Int32) + -1 = 0 by decide, Int32.add_zero]
theorem dI_sub : ∀ k : Nat, nI k - 1 = dI k := fun k => by rw [← dI_dec, Int32.sub_eq_add_neg]
def feedG (x : Int32) : Nat → Nat → Mem → Mem
  | 0, _, M => M
  | k + 1, t, M => feedG x k (t + 1) (ms (ms M 67 t ((x >>> (nI (8 * k) &&& 31)) &&& 255)) 62 6 (nI (t + 1)))
theorem l_X9_feed (x n : Int32) : ∀ (k t : Nat) (M : Mem), M 62 6 = nI t → t + k ≤ 120 → k ≤ 4 → V m_X9_feed 41 [(0, .ref 62), (1, .int x), (2, .int n), (3, .int (dI k))] [] M (RT (some (.int (nI (t + k)))) (feedG x k t M)) := by
  intro k
  induction k with
  | zero =>
    intro t M h6 ht hk
    refine V.iload_n dX9_feed_41 rfl rfl rfl ?_
    refine V.if_lt (tgt := 80) dX9_feed_42 rfl rfl (fun _ => ?_) (fun c42 => absurd c42 (by decide))
    refine V.aload_n dX9_feed_80 rfl rfl rfl ?_
    refine V.geti (v := nI t) dX9_feed_81 fg_X9_218 rfl rfl h6 rfl ?_
    exact V.ret dX9_feed_84 rfl rfl ⟨rfl, rfl⟩
  | succ k ih =>
    intro t M h6 ht hk
    refine V.iload_n dX9_feed_41 rfl rfl rfl ?_
    refine V.if_lt (tgt := 80) dX9_feed_42 rfl rfl (fun c42 => absurd ((nI_ltI (a := k) (b := 0) (by omega) (by omega)).mp c42) (by omega)) (fun c42 => ?_)
    have c42 : ¬ k < 0 := fun zq => c42 ((nI_ltI (a := k) (b := 0) (by omega) (by omega)).mpr zq)
    refine V.aload_n dX9_feed_45 rfl rfl rfl ?_
    refine V.getr dX9_feed_46 fg_X9_22 rfl rfl rfl ?_
    refine V.aload_n dX9_feed_49 rfl rfl rfl ?_
    refine V.geti (v := nI t) dX9_feed_50 fg_X9_218 rfl rfl h6 rfl ?_
    refine V.iload_n dX9_feed_53 rfl rfl rfl ?_
    refine V.bipush (v := 8) dX9_feed_54 (by decide) rfl ?_
    refine V.iload_n dX9_feed_56 rfl rfl rfl ?_
    refine V.imul (v := nI (8 * k)) dX9_feed_57 (pk_mul _ _) rfl ?_
    refine V.ishr (v := x >>> ((nI (8 * k)) &&& 31)) dX9_feed_58 rfl rfl ?_
    refine V.sipush (v := 255) dX9_feed_59 (by decide) rfl ?_
    refine V.iand (v := (x >>> ((nI (8 * k)) &&& 31)) &&& 255) dX9_feed_62 rfl rfl ?_
    refine V.iastN (j := t) dX9_feed_63 rfl (by omega) (by decide) rfl (M' := (ms M 67 t ((x >>> ((nI (8 * k)) &&& 31)) &&& 255))) rfl rfl ?_
    refine V.aload_n dX9_feed_64 rfl rfl rfl ?_
    refine V.dup dX9_feed_65 rfl rfl ?_
    refine V.geti (v := nI t) dX9_feed_66 fg_X9_218 rfl rfl (by simp [ms, h6]) rfl ?_
    refine V.iconst (v := 1) dX9_feed_69 rfl rfl ?_
    refine V.iadd (v := nI (t + 1)) dX9_feed_70 (nI_add _ _) rfl ?_
    refine V.puti dX9_feed_71 fp_X9_218 rfl rfl rfl rfl (M' := (ms (ms M 67 t ((x >>> ((nI (8 * k)) &&& 31)) &&& 255)) 62 6 (nI (t + 1)))) rfl rfl ?_
    refine V.inc (v := dI k) dX9_feed_74 rfl (dI_dec k) (by decide) (L' := [(0, .ref 62), (1, .int x), (2, .int n), (3, .int (dI k))]) rfl rfl ?_
    refine V.goto (pc' := 41) dX9_feed_77 rfl ?_
    rw [show t + (k + 1) = t + 1 + k by omega]
    exact ih (t + 1) _ (by rw [ms_s]) (by omega) (by omega)
def pFeed (c t : Nat) (x n : Int32) (M : Mem) : Int32 × Mem := if ¬ rng 1 4 n then (-1000001, fdM 0 M) else if 120 < t + n.toNatClampNeg then (-1000002, fdM 1 M) else (nI (t + n.toNatClampNeg), feedG x n.toNatClampNeg t M)
theorem v_X9_feed {c : Nat} (hc : c ≤ 10) {t : Nat} (ht : t ≤ 120) (x n : Int32) (M : Mem) (hM : M 63 1 = nI c) (h6 : M 62 6 = nI t) : V m_X9_feed 0 [(0, .ref 62), (1, .int x), (2, .int n)] [] M (RT (some (.int ((pFeed c t x n M).1))) ((pFeed c t x n M).2)) := by
  refine V.iload_n dX9_feed_0 rfl rfl rfl ?_
  refine V.i2l (v := Int32.toInt64 n) dX9_feed_1 rfl rfl ?_
  refine V.lconst (v := 1) dX9_feed_2 rfl rfl ?_
  refine V.ldc2 (v := 4) dX9_feed_3 cl_X9_96 rfl ?_
  refine V.calls_i (M1 := M) (v := if rng 1 4 n then 1 else 0) (md' := m_X9_in) (As := [.long (Int32.toInt64 n), .long 1, .long 4]) (rest := []) dX9_feed_6 ml_X9_38 mo_X9_in ⟨Nat.le_of_ble_eq_true rfl, Nat.le_of_ble_eq_true rfl⟩ (Nat.le_of_ble_eq_true rfl) rfl rfl (Nat.le_of_ble_eq_true rfl) (v_X9_in (x := n) (a := 1) (b := 4) rfl rfl _) rfl ?_
  refine V.ifb_ne (tgt := 19) dX9_feed_9 rfl rfl (fun c9 => ?_) (fun c9 => ?_)
  · skip
    obtain ⟨k, hk, rfl⟩ := of_rng1 (b := 4) c9
    · have ek : (nI k).toNatClampNeg = k := nI_clamp (by omega)
      refine V.aload_n dX9_feed_19 rfl rfl rfl ?_
      refine V.geti (v := nI t) dX9_feed_20 fg_X9_218 rfl rfl h6 rfl ?_
      refine V.iload_n dX9_feed_23 rfl rfl rfl ?_
      refine V.iadd (v := nI (t + k)) dX9_feed_24 (nI_add _ _) rfl ?_
      refine V.bipush (v := 120) dX9_feed_25 (by decide) rfl ?_
      refine V.icmp_le (tgt := 37) dX9_feed_27 rfl rfl (fun c27 => ?_) (fun c27 => ?_)
      · have d27 := c27
        have c27 : t + k ≤ 120 := (nI_leI (a := t + k) (b := 120) (by omega) (by omega)).mp c27
        refine V.iload_n dX9_feed_37 rfl rfl rfl ?_
        refine V.iconst (v := 1) dX9_feed_38 rfl rfl ?_
        refine V.isub (v := dI k) dX9_feed_39 (dI_sub k) rfl ?_
        refine V.ist_n dX9_feed_40 rfl (by decide) (L' := [(0, .ref 62), (1, .int x), (2, .int (nI k)), (3, .int (dI k))]) rfl rfl ?_
        rw [show pFeed c t x (nI k) M = (nI (t + k), feedG x k t M) from by simp [pFeed, c9, ek, Nat.not_lt.mpr c27]]
        exact l_X9_feed x _ k t M h6 (by omega) (by omega)
      · have d27 := c27
        have c27 : ¬ t + k ≤ 120 := fun zq => c27 ((nI_leI (a := t + k) (b := 120) (by omega) (by omega)).mpr zq)
        refine V.aload_n dX9_feed_30 rfl rfl rfl ?_
        refine V.ldc (v := -1000002) dX9_feed_31 cn_X9_55 rfl ?_
        refine V.callv_i (M1 := fdM 1 M) (v := -1000002) (md' := m_X9_finds) (As := [.int (-1000002)]) (rest := []) dX9_feed_33 ml_X9_51 mo_X9_finds ⟨Nat.le_of_ble_eq_true rfl, Nat.le_of_ble_eq_true rfl⟩ rfl ⟨_, _, rfl⟩ (Nat.le_of_ble_eq_true rfl) rfl rfl (Nat.le_of_ble_eq_true rfl) (v_X9_finds (w := 1) (by decide) (-1000002) (by decide +kernel) _) rfl ?_
        exact V.ret dX9_feed_36 rfl rfl ⟨(by first | (simp (decide := true) [pFeed, c9, ek, d27]; done) | (simp (decide := true) [pFeed, c9, ek, c27]; done) | (simp (decide := true) [pFeed, c9, ek, d27, c27]; done) | (simp_all (decide := true) [pFeed]; done) | (simp_all (decide := true) [pFeed, ltF, leF]; done)), (by first | (simp (decide := true) [pFeed, c9, ek, d27]; done) | (simp (decide := true) [pFeed, c9, ek, c27]; done) | (simp (decide := true) [pFeed, c9, ek, d27, c27]; done) | (simp_all (decide := true) [pFeed]; done) | (simp_all (decide := true) [pFeed, ltF, leF]; done))⟩
  · skip
    refine V.aload_n dX9_feed_12 rfl rfl rfl ?_
    refine V.ldc (v := -1000001) dX9_feed_13 cn_X9_37 rfl ?_
    refine V.callv_i (M1 := fdM 0 M) (v := -1000001) (md' := m_X9_finds) (As := [.int (-1000001)]) (rest := []) dX9_feed_15 ml_X9_51 mo_X9_finds ⟨Nat.le_of_ble_eq_true rfl, Nat.le_of_ble_eq_true rfl⟩ rfl ⟨_, _, rfl⟩ (Nat.le_of_ble_eq_true rfl) rfl rfl (Nat.le_of_ble_eq_true rfl) (v_X9_finds (w := 0) (by decide) (-1000001) (by decide +kernel) _) rfl ?_
    exact V.ret dX9_feed_18 rfl rfl ⟨(by first | (simp (decide := true) [pFeed, c9]; done) | (simp (decide := true) [pFeed, c9]; done) | (simp (decide := true) [pFeed, c9]; done) | (simp_all (decide := true) [pFeed]; done) | (simp_all (decide := true) [pFeed, ltF, leF]; done)), (by first | (simp (decide := true) [pFeed, c9]; done) | (simp (decide := true) [pFeed, c9]; done) | (simp (decide := true) [pFeed, c9]; done) | (simp_all (decide := true) [pFeed]; done) | (simp_all (decide := true) [pFeed, ltF, leF]; done))⟩
def pWrite (c : Nat) (x i v : Int32) (M : Mem) : Int32 × Mem := if ¬ rng 0 3 x then (-1000001, fdM 0 M) else if M 68 x.toNatClampNeg = 0 then (-1000006, fdM 5 M) else if ¬ isB (M 69 x.toNatClampNeg).toNatClampNeg i then (-1000001, fdM 0 M) else (1, ms M 70 (40 * x.toNatClampNeg + i.toNatClampNeg) (nwF (M 68 x.toNatClampNeg) v))
theorem v_X9_write {c : Nat} (hc : c ≤ 10) (x i v : Int32) (M : Mem) (hM : M 63 1 = nI c) (hZ : ∀ k, k < 4 → ∃ z, z ≤ 40 ∧ M 69 k = nI z) : V m_X9_write 0 [(0, .ref 62), (1, .int x), (2, .int i), (3, .int v)] [] M (RT (some (.int ((pWrite c x i v M).1))) ((pWrite c x i v M).2)) := by
  refine V.aload_n dX9_write_0 rfl rfl rfl ?_
  refine V.iload_n dX9_write_1 rfl rfl rfl ?_
  refine V.callv_i (M1 := M) (v := wrF x M) (md' := m_X9_wrong) (As := [.int x]) (rest := []) dX9_write_2 ml_X9_331 mo_X9_wrong ⟨Nat.le_of_ble_eq_true rfl, Nat.le_of_ble_eq_true rfl⟩ rfl ⟨_, _, rfl⟩ (Nat.le_of_ble_eq_true rfl) rfl rfl (Nat.le_of_ble_eq_true rfl) (v_X9_wrong x _) rfl ?_
  rcases wr_cases x M with ⟨hr, e⟩ | ⟨k, hk, rfl, hr, e⟩ | ⟨k, hk, rfl, hr, e⟩ <;> rw [e]
  · skip
    refine V.ist dX9_write_5 (by decide) (L' := [(0, .ref 62), (1, .int x), (2, .int i), (3, .int v), (4, .int (-1000001))]) rfl rfl ?_
    refine V.iload dX9_write_7 rfl rfl ?_
    refine V.if_eq (tgt := 19) dX9_write_9 rfl rfl (fun c9 => absurd c9 (by decide)) (fun _ => ?_)
    refine V.aload_n dX9_write_12 rfl rfl rfl ?_
    refine V.iload dX9_write_13 rfl rfl ?_
    refine V.callv_i (M1 := fdM 0 M) (v := -1000001) (md' := m_X9_finds) (As := [.int (-1000001)]) (rest := []) dX9_write_15 ml_X9_51 mo_X9_finds ⟨Nat.le_of_ble_eq_true rfl, Nat.le_of_ble_eq_true rfl⟩ rfl ⟨_, _, rfl⟩ (Nat.le_of_ble_eq_true rfl) rfl rfl (Nat.le_of_ble_eq_true rfl) (v_X9_finds (w := 0) (by decide) (-1000001) (by decide +kernel) _) rfl ?_
    exact V.ret dX9_write_18 rfl rfl ⟨(by first | (simp (decide := true) [pWrite, hr]; done) | (simp (decide := true) [pWrite, hr]; done) | (simp (decide := true) [pWrite, hr]; done) | (simp_all (decide := true) [pWrite]; done) | (simp_all (decide := true) [pWrite, ltF, leF]; done)), (by first | (simp (decide := true) [pWrite, hr]; done) | (simp (decide := true) [pWrite, hr]; done) | (simp (decide := true) [pWrite, hr]; done) | (simp_all (decide := true) [pWrite]; done) | (simp_all (decide := true) [pWrite, ltF, leF]; done))⟩
  · have ek : (nI k).toNatClampNeg = k := nI_clamp (by omega)
    have h3 := rng3 hk
    refine V.ist dX9_write_5 (by decide) (L' := [(0, .ref 62), (1, .int (nI k)), (2, .int i), (3, .int v), (4, .int (-1000006))]) rfl rfl ?_
    refine V.iload dX9_write_7 rfl rfl ?_
    refine V.if_eq (tgt := 19) dX9_write_9 rfl rfl (fun c9 => absurd c9 (by decide)) (fun _ => ?_)
    refine V.aload_n dX9_write_12 rfl rfl rfl ?_
    refine V.iload dX9_write_13 rfl rfl ?_
    refine V.callv_i (M1 := fdM 5 M) (v := -1000006) (md' := m_X9_finds) (As := [.int (-1000006)]) (rest := []) dX9_write_15 ml_X9_51 mo_X9_finds ⟨Nat.le_of_ble_eq_true rfl, Nat.le_of_ble_eq_true rfl⟩ rfl ⟨_, _, rfl⟩ (Nat.le_of_ble_eq_true rfl) rfl rfl (Nat.le_of_ble_eq_true rfl) (v_X9_finds (w := 5) (by decide) (-1000006) (by decide +kernel) _) rfl ?_
    exact V.ret dX9_write_18 rfl rfl ⟨(by first | (simp (decide := true) [pWrite, hr, ek, h3]; done) | (simp (decide := true) [pWrite, hr, ek, h3]; done) | (simp (decide := true) [pWrite, hr, ek, h3]; done) | (simp_all (decide := true) [pWrite]; done) | (simp_all (decide := true) [pWrite, ltF, leF]; done)), (by first | (simp (decide := true) [pWrite, hr, ek, h3]; done) | (simp (decide := true) [pWrite, hr, ek, h3]; done) | (simp (decide := true) [pWrite, hr, ek, h3]; done) | (simp_all (decide := true) [pWrite]; done) | (simp_all (decide := true) [pWrite, ltF, leF]; done))⟩
  · have ek : (nI k).toNatClampNeg = k := nI_clamp (by omega)
    have h3 := rng3 hk
    refine V.ist dX9_write_5 (by decide) (L' := [(0, .ref 62), (1, .int (nI k)), (2, .int i), (3, .int v), (4, .int 0)]) rfl rfl ?_
    refine V.iload dX9_write_7 rfl rfl ?_
    refine V.if_eq (tgt := 19) dX9_write_9 rfl rfl (fun _ => ?_) (fun c9 => absurd c9 (by decide))
    obtain ⟨z, hz, ez⟩ := hZ k hk
    · have ezz : (nI z).toNatClampNeg = z := nI_clamp (by omega)
      refine V.iload_n dX9_write_19 rfl rfl rfl ?_
      refine V.i2l (v := Int32.toInt64 i) dX9_write_20 rfl rfl ?_
      refine V.lconst (v := 0) dX9_write_21 rfl rfl ?_
      refine V.aload_n dX9_write_22 rfl rfl rfl ?_
      refine V.getr dX9_write_23 fg_X9_28 rfl rfl rfl ?_
      refine V.iload_n dX9_write_26 rfl rfl rfl ?_
      refine V.ialdN (j := k) (v := nI z) dX9_write_27 rfl (by omega) (by decide) rfl ez rfl ?_
      refine V.iconst (v := 1) dX9_write_28 rfl rfl ?_
      refine V.isub (v := nI z - 1) dX9_write_29 rfl rfl ?_
      refine V.i2l (v := Int32.toInt64 (nI z - 1)) dX9_write_30 rfl rfl ?_
      refine V.calls_i (M1 := M) (v := if rng 0 (z - 1) i then 1 else 0) (md' := m_X9_in) (As := [.long (Int32.toInt64 i), .long 0, .long (Int32.toInt64 (nI z - 1))]) (rest := []) dX9_write_31 ml_X9_38 mo_X9_in ⟨Nat.le_of_ble_eq_true rfl, Nat.le_of_ble_eq_true rfl⟩ (Nat.le_of_ble_eq_true rfl) rfl rfl (Nat.le_of_ble_eq_true rfl) (v_X9_in (x := i) (lo := 0) (hi := (nI z - 1).toInt64) (a := 0) (b := z - 1) rfl (cm1 (by omega)) _) rfl ?_
      refine V.ifb_ne (tgt := 44) dX9_write_34 rfl rfl (fun c34 => ?_) (fun c34 => ?_)
      · skip
        obtain ⟨j, hj, rfl⟩ := of_isB (rng_isB.mp c34)
        · have ej : (nI j).toNatClampNeg = j := nI_clamp (by omega)
          refine V.aload_n dX9_write_44 rfl rfl rfl ?_
          refine V.getr dX9_write_45 fg_X9_31 rfl rfl rfl ?_
          refine V.bipush (v := 40) dX9_write_48 (by decide) rfl ?_
          refine V.iload_n dX9_write_50 rfl rfl rfl ?_
          refine V.imul (v := nI (40 * k)) dX9_write_51 (pk_mul _ _) rfl ?_
          refine V.iload_n dX9_write_52 rfl rfl rfl ?_
          refine V.iadd (v := nI ((40 * k) + j)) dX9_write_53 (nI_add _ _) rfl ?_
          refine V.aload_n dX9_write_54 rfl rfl rfl ?_
          refine V.getr dX9_write_55 fg_X9_25 rfl rfl rfl ?_
          refine V.iload_n dX9_write_58 rfl rfl rfl ?_
          refine V.ialdN (j := k) (v := M 68 k) dX9_write_59 rfl (by omega) (by decide) rfl rfl rfl ?_
          refine V.iload_n dX9_write_60 rfl rfl rfl ?_
          refine V.calls_i (M1 := M) (v := nwF (M 68 k) v) (md' := m_X9_narrowed) (As := [.int (M 68 k), .int v]) (rest := [.int (nI ((40 * k) + j)), .ref 70]) dX9_write_61 ml_X9_334 mo_X9_narrowed ⟨Nat.le_of_ble_eq_true rfl, Nat.le_of_ble_eq_true rfl⟩ (Nat.le_of_ble_eq_true rfl) rfl rfl (Nat.le_of_ble_eq_true rfl) (v_X9_narrowed (M 68 k) v _) rfl ?_
          refine V.iastN (j := (40 * k) + j) dX9_write_64 rfl (by omega) (by decide) rfl (M' := (ms M 70 ((40 * k) + j) (nwF (M 68 k) v))) rfl rfl ?_
          refine V.iconst (v := 1) dX9_write_65 rfl rfl ?_
          exact V.ret dX9_write_66 rfl rfl ⟨(by first | (simp (decide := true) [pWrite, hr, ek, h3, ez, ezz, ← rng_isB, c34, ej]; done) | (simp (decide := true) [pWrite, hr, ek, h3, ez, ezz, ← rng_isB, c34, ej]; done) | (simp (decide := true) [pWrite, hr, ek, h3, ez, ezz, ← rng_isB, c34, ej]; done) | (simp_all (decide := true) [pWrite]; done) | (simp_all (decide := true) [pWrite, ltF, leF]; done)), (by first | (simp (decide := true) [pWrite, hr, ek, h3, ez, ezz, ← rng_isB, c34, ej]; done) | (simp (decide := true) [pWrite, hr, ek, h3, ez, ezz, ← rng_isB, c34, ej]; done) | (simp (decide := true) [pWrite, hr, ek, h3, ez, ezz, ← rng_isB, c34, ej]; done) | (simp_all (decide := true) [pWrite]; done) | (simp_all (decide := true) [pWrite, ltF, leF]; done))⟩
      · skip
        refine V.aload_n dX9_write_37 rfl rfl rfl ?_
        refine V.ldc (v := -1000001) dX9_write_38 cn_X9_37 rfl ?_
        refine V.callv_i (M1 := fdM 0 M) (v := -1000001) (md' := m_X9_finds) (As := [.int (-1000001)]) (rest := []) dX9_write_40 ml_X9_51 mo_X9_finds ⟨Nat.le_of_ble_eq_true rfl, Nat.le_of_ble_eq_true rfl⟩ rfl ⟨_, _, rfl⟩ (Nat.le_of_ble_eq_true rfl) rfl rfl (Nat.le_of_ble_eq_true rfl) (v_X9_finds (w := 0) (by decide) (-1000001) (by decide +kernel) _) rfl ?_
        exact V.ret dX9_write_43 rfl rfl ⟨(by first | (simp (decide := true) [pWrite, hr, ek, h3, ez, ezz, ← rng_isB, c34]; done) | (simp (decide := true) [pWrite, hr, ek, h3, ez, ezz, ← rng_isB, c34]; done) | (simp (decide := true) [pWrite, hr, ek, h3, ez, ezz, ← rng_isB, c34]; done) | (simp_all (decide := true) [pWrite]; done) | (simp_all (decide := true) [pWrite, ltF, leF]; done)), (by first | (simp (decide := true) [pWrite, hr, ek, h3, ez, ezz, ← rng_isB, c34]; done) | (simp (decide := true) [pWrite, hr, ek, h3, ez, ezz, ← rng_isB, c34]; done) | (simp (decide := true) [pWrite, hr, ek, h3, ez, ezz, ← rng_isB, c34]; done) | (simp_all (decide := true) [pWrite]; done) | (simp_all (decide := true) [pWrite, ltF, leF]; done))⟩
def loadG (s z c : Nat) : Nat → Nat → Mem → Int32 × Mem
  | 0, i, M => (nI i, M)
  | n + 1, i, M => if i < z ∧ rng 0 9 (M 70 (40 * s + i)) then loadG s z c n (i + 1) (ms M 63 (20 + 5 * i + 1) (M 70 (40 * s + i))) else (nI i, M)
theorem l_X9_load {s z c : Nat} (hs : s < 4) (hz : z ≤ 40) (hc : c ≤ 10) (y : Int32) : ∀ (n i : Nat) (M : Mem), M 63 1 = nI c → M 69 s = nI z → i + n = c → V m_X9_load 18 [(0, .ref 62), (1, .int (nI s)), (2, .int y), (3, .int (nI i))] [] M (RT (some (.int ((loadG s z c n i M).1))) ((loadG s z c n i M).2)) := by
  intro n
  induction n with
  | zero =>
    intro i M hM h9 hi
    refine V.iload_n dX9_load_18 rfl rfl rfl ?_
    refine V.aload_n dX9_load_19 rfl rfl rfl ?_
    refine V.getr dX9_load_20 fg_X9_28 rfl rfl rfl ?_
    refine V.iload_n dX9_load_23 rfl rfl rfl ?_
    refine V.ialdN (j := s) (v := nI z) dX9_load_24 rfl (by omega) (by decide) rfl h9 rfl ?_
    refine V.icmp_ge (tgt := 87) dX9_load_25 rfl rfl (fun c25 => ?_) (fun c25 => ?_)
    · have c25 : z ≤ i := (nI_leI (a := z) (b := i) (by omega) (by omega)).mp c25
      refine V.iload_n dX9_load_87 rfl rfl rfl ?_
      exact V.ret dX9_load_88 rfl rfl ⟨rfl, (by first | rfl | (simp only [loadG]; rw [if_neg (fun q => by have := q.1; omega)]))⟩
    · have c25 : ¬ z ≤ i := fun zq => c25 ((nI_leI (a := z) (b := i) (by omega) (by omega)).mpr zq)
      refine V.iload_n dX9_load_28 rfl rfl rfl ?_
      refine V.aload_n dX9_load_29 rfl rfl rfl ?_
      refine V.getr dX9_load_30 fg_X9_7 rfl rfl rfl ?_
      refine V.iconst (v := 1) dX9_load_33 rfl rfl ?_
      refine V.ialdN (j := 1) (v := nI c) dX9_load_34 rfl (by decide) (by decide) rfl hM rfl ?_
      refine V.icmp_ge (tgt := 87) dX9_load_35 rfl rfl (fun c35 => ?_) (fun c35 => absurd ((nI_leI (a := c) (b := i) (by omega) (by omega)).mpr (by omega)) c35)
      have c35 : c ≤ i := (nI_leI (a := c) (b := i) (by omega) (by omega)).mp c35
      refine V.iload_n dX9_load_87 rfl rfl rfl ?_
      exact V.ret dX9_load_88 rfl rfl ⟨rfl, (by first | rfl | (simp only [loadG]; rw [if_neg (fun q => c57 q.2)]))⟩
  | succ n ih =>
    intro i M hM h9 hi
    refine V.iload_n dX9_load_18 rfl rfl rfl ?_
    refine V.aload_n dX9_load_19 rfl rfl rfl ?_
    refine V.getr dX9_load_20 fg_X9_28 rfl rfl rfl ?_
    refine V.iload_n dX9_load_23 rfl rfl rfl ?_
    refine V.ialdN (j := s) (v := nI z) dX9_load_24 rfl (by omega) (by decide) rfl h9 rfl ?_
    refine V.icmp_ge (tgt := 87) dX9_load_25 rfl rfl (fun c25 => ?_) (fun c25 => ?_)
    · have c25 : z ≤ i := (nI_leI (a := z) (b := i) (by omega) (by omega)).mp c25
      refine V.iload_n dX9_load_87 rfl rfl rfl ?_
      exact V.ret dX9_load_88 rfl rfl ⟨(by simp only [loadG]; rw [if_neg (fun q => by have := q.1; omega)]), (by first | rfl | (simp only [loadG]; rw [if_neg (fun q => by have := q.1; omega)]))⟩
    · have c25 : ¬ z ≤ i := fun zq => c25 ((nI_leI (a := z) (b := i) (by omega) (by omega)).mpr zq)
      refine V.iload_n dX9_load_28 rfl rfl rfl ?_
      refine V.aload_n dX9_load_29 rfl rfl rfl ?_
      refine V.getr dX9_load_30 fg_X9_7 rfl rfl rfl ?_
      refine V.iconst (v := 1) dX9_load_33 rfl rfl ?_
      refine V.ialdN (j := 1) (v := nI c) dX9_load_34 rfl (by decide) (by decide) rfl hM rfl ?_
      refine V.icmp_ge (tgt := 87) dX9_load_35 rfl rfl (fun c35 => absurd ((nI_leI (a := c) (b := i) (by omega) (by omega)).mp c35) (by omega)) (fun c35 => ?_)
      have c35 : ¬ c ≤ i := fun zq => c35 ((nI_leI (a := c) (b := i) (by omega) (by omega)).mpr zq)
      refine V.aload_n dX9_load_38 rfl rfl rfl ?_
      refine V.getr dX9_load_39 fg_X9_31 rfl rfl rfl ?_
      refine V.bipush (v := 40) dX9_load_42 (by decide) rfl ?_
      refine V.iload_n dX9_load_44 rfl rfl rfl ?_
      refine V.imul (v := nI (40 * s)) dX9_load_45 (pk_mul _ _) rfl ?_
      refine V.iload_n dX9_load_46 rfl rfl rfl ?_
      refine V.iadd (v := nI ((40 * s) + i)) dX9_load_47 (nI_add _ _) rfl ?_
      refine V.ialdN (j := (40 * s) + i) (v := M 70 ((40 * s) + i)) dX9_load_48 rfl (by omega) (by decide) rfl rfl rfl ?_
      refine V.i2l (v := Int32.toInt64 (M 70 ((40 * s) + i))) dX9_load_49 rfl rfl ?_
      refine V.lconst (v := 0) dX9_load_50 rfl rfl ?_
      refine V.ldc2 (v := 9) dX9_load_51 cl_X9_78 rfl ?_
      refine V.calls_i (M1 := M) (v := if rng 0 9 (M 70 (40 * s + i)) then 1 else 0) (md' := m_X9_in) (As := [.long (Int32.toInt64 (M 70 ((40 * s) + i))), .long 0, .long 9]) (rest := []) dX9_load_54 ml_X9_38 mo_X9_in ⟨Nat.le_of_ble_eq_true rfl, Nat.le_of_ble_eq_true rfl⟩ (Nat.le_of_ble_eq_true rfl) rfl rfl (Nat.le_of_ble_eq_true rfl) (v_X9_in (x := M 70 (40 * s + i)) (a := 0) (b := 9) rfl rfl _) rfl ?_
      refine V.ifb_eq (tgt := 87) dX9_load_57 rfl rfl (fun c57 => ?_) (fun c57 => ?_)
      · skip
        refine V.iload_n dX9_load_87 rfl rfl rfl ?_
        exact V.ret dX9_load_88 rfl rfl ⟨(by simp only [loadG]; rw [if_neg (fun q => c57 q.2)]), (by first | rfl | (simp only [loadG]; rw [if_neg (fun q => c57 q.2)]))⟩
      · skip
        refine V.aload_n dX9_load_60 rfl rfl rfl ?_
        refine V.getr dX9_load_61 fg_X9_7 rfl rfl rfl ?_
        refine V.iload_n dX9_load_64 rfl rfl rfl ?_
        refine V.iconst (v := 1) dX9_load_65 rfl rfl ?_
        refine V.calls_i (M1 := M) (v := nI (20 + 5 * i + 1)) (md' := m_X9_where) (As := [.int (nI i), .int 1]) (rest := [.ref 63]) dX9_load_66 ml_X9_45 mo_X9_where ⟨Nat.le_of_ble_eq_true rfl, Nat.le_of_ble_eq_true rfl⟩ (Nat.le_of_ble_eq_true rfl) rfl rfl (Nat.le_of_ble_eq_true rfl) (v_X9_where i 1 _) rfl ?_
        refine V.aload_n dX9_load_69 rfl rfl rfl ?_
        refine V.getr dX9_load_70 fg_X9_31 rfl rfl rfl ?_
        refine V.bipush (v := 40) dX9_load_73 (by decide) rfl ?_
        refine V.iload_n dX9_load_75 rfl rfl rfl ?_
        refine V.imul (v := nI (40 * s)) dX9_load_76 (pk_mul _ _) rfl ?_
        refine V.iload_n dX9_load_77 rfl rfl rfl ?_
        refine V.iadd (v := nI ((40 * s) + i)) dX9_load_78 (nI_add _ _) rfl ?_
        refine V.ialdN (j := (40 * s) + i) (v := M 70 ((40 * s) + i)) dX9_load_79 rfl (by omega) (by decide) rfl rfl rfl ?_
        refine V.iastN (j := 20 + 5 * i + 1) dX9_load_80 rfl (by omega) (by decide) rfl (M' := (ms M 63 (20 + 5 * i + 1) (M 70 ((40 * s) + i)))) rfl rfl ?_
        refine V.inc (v := nI (i + 1)) dX9_load_81 rfl (nI_1 _) (by decide) (L' := [(0, .ref 62), (1, .int (nI s)), (2, .int y), (3, .int (nI (i + 1)))]) rfl rfl ?_
        refine V.goto (pc' := 18) dX9_load_84 rfl ?_
        rw [show loadG s z c (n + 1) i M = loadG s z c n (i + 1) (ms M 63 (20 + 5 * i + 1) (M 70 (40 * s + i))) from by simp only [loadG]; rw [if_pos ⟨by omega, c57⟩]]
        exact ih (i + 1) _ (by rw [ms_j (by omega)]; exact hM) (by rw [ms_k (by decide)]; exact h9) (by omega)
def pLoad (c : Nat) (x : Int32) (M : Mem) : Int32 × Mem := if ¬ rng 0 3 x then (-1000001, fdM 0 M) else if M 68 x.toNatClampNeg = 0 then (-1000006, fdM 5 M) else loadG x.toNatClampNeg (M 69 x.toNatClampNeg).toNatClampNeg c c 0 M
theorem v_X9_load {c : Nat} (hc : c ≤ 10) (x : Int32) (M : Mem) (hM : M 63 1 = nI c) (hZ : ∀ k, k < 4 → ∃ z, z ≤ 40 ∧ M 69 k = nI z) : V m_X9_load 0 [(0, .ref 62), (1, .int x)] [] M (RT (some (.int ((pLoad c x M).1))) ((pLoad c x M).2)) := by
  refine V.aload_n dX9_load_0 rfl rfl rfl ?_
  refine V.iload_n dX9_load_1 rfl rfl rfl ?_
  refine V.callv_i (M1 := M) (v := wrF x M) (md' := m_X9_wrong) (As := [.int x]) (rest := []) dX9_load_2 ml_X9_331 mo_X9_wrong ⟨Nat.le_of_ble_eq_true rfl, Nat.le_of_ble_eq_true rfl⟩ rfl ⟨_, _, rfl⟩ (Nat.le_of_ble_eq_true rfl) rfl rfl (Nat.le_of_ble_eq_true rfl) (v_X9_wrong x _) rfl ?_
  rcases wr_cases x M with ⟨hr, e⟩ | ⟨k, hk, rfl, hr, e⟩ | ⟨k, hk, rfl, hr, e⟩ <;> rw [e]
  · skip
    refine V.ist_n dX9_load_5 rfl (by decide) (L' := [(0, .ref 62), (1, .int x), (2, .int (-1000001))]) rfl rfl ?_
    refine V.iload_n dX9_load_6 rfl rfl rfl ?_
    refine V.if_eq (tgt := 16) dX9_load_7 rfl rfl (fun c7 => absurd c7 (by decide)) (fun _ => ?_)
    refine V.aload_n dX9_load_10 rfl rfl rfl ?_
    refine V.iload_n dX9_load_11 rfl rfl rfl ?_
    refine V.callv_i (M1 := fdM 0 M) (v := -1000001) (md' := m_X9_finds) (As := [.int (-1000001)]) (rest := []) dX9_load_12 ml_X9_51 mo_X9_finds ⟨Nat.le_of_ble_eq_true rfl, Nat.le_of_ble_eq_true rfl⟩ rfl ⟨_, _, rfl⟩ (Nat.le_of_ble_eq_true rfl) rfl rfl (Nat.le_of_ble_eq_true rfl) (v_X9_finds (w := 0) (by decide) (-1000001) (by decide +kernel) _) rfl ?_
    exact V.ret dX9_load_15 rfl rfl ⟨(by first | (simp (decide := true) [pLoad, hr]; done) | (simp (decide := true) [pLoad, hr]; done) | (simp (decide := true) [pLoad, hr]; done) | (simp_all (decide := true) [pLoad]; done) | (simp_all (decide := true) [pLoad, ltF, leF]; done)), (by first | (simp (decide := true) [pLoad, hr]; done) | (simp (decide := true) [pLoad, hr]; done) | (simp (decide := true) [pLoad, hr]; done) | (simp_all (decide := true) [pLoad]; done) | (simp_all (decide := true) [pLoad, ltF, leF]; done))⟩
  · have ek : (nI k).toNatClampNeg = k := nI_clamp (by omega)
    have h3 := rng3 hk
    refine V.ist_n dX9_load_5 rfl (by decide) (L' := [(0, .ref 62), (1, .int (nI k)), (2, .int (-1000006))]) rfl rfl ?_
    refine V.iload_n dX9_load_6 rfl rfl rfl ?_
    refine V.if_eq (tgt := 16) dX9_load_7 rfl rfl (fun c7 => absurd c7 (by decide)) (fun _ => ?_)
    refine V.aload_n dX9_load_10 rfl rfl rfl ?_
    refine V.iload_n dX9_load_11 rfl rfl rfl ?_
    refine V.callv_i (M1 := fdM 5 M) (v := -1000006) (md' := m_X9_finds) (As := [.int (-1000006)]) (rest := []) dX9_load_12 ml_X9_51 mo_X9_finds ⟨Nat.le_of_ble_eq_true rfl, Nat.le_of_ble_eq_true rfl⟩ rfl ⟨_, _, rfl⟩ (Nat.le_of_ble_eq_true rfl) rfl rfl (Nat.le_of_ble_eq_true rfl) (v_X9_finds (w := 5) (by decide) (-1000006) (by decide +kernel) _) rfl ?_
    exact V.ret dX9_load_15 rfl rfl ⟨(by first | (simp (decide := true) [pLoad, hr, ek, h3]; done) | (simp (decide := true) [pLoad, hr, ek, h3]; done) | (simp (decide := true) [pLoad, hr, ek, h3]; done) | (simp_all (decide := true) [pLoad]; done) | (simp_all (decide := true) [pLoad, ltF, leF]; done)), (by first | (simp (decide := true) [pLoad, hr, ek, h3]; done) | (simp (decide := true) [pLoad, hr, ek, h3]; done) | (simp (decide := true) [pLoad, hr, ek, h3]; done) | (simp_all (decide := true) [pLoad]; done) | (simp_all (decide := true) [pLoad, ltF, leF]; done))⟩
  · have ek : (nI k).toNatClampNeg = k := nI_clamp (by omega)
    have h3 := rng3 hk
    refine V.ist_n dX9_load_5 rfl (by decide) (L' := [(0, .ref 62), (1, .int (nI k)), (2, .int 0)]) rfl rfl ?_
    refine V.iload_n dX9_load_6 rfl rfl rfl ?_
    refine V.if_eq (tgt := 16) dX9_load_7 rfl rfl (fun _ => ?_) (fun c7 => absurd c7 (by decide))
    obtain ⟨z, ez⟩ := hZ k hk
    · skip
      refine V.iconst (v := 0) dX9_load_16 rfl rfl ?_
      refine V.ist_n dX9_load_17 rfl (by decide) (L' := [(0, .ref 62), (1, .int (nI k)), (2, .int 0), (3, .int 0)]) rfl rfl ?_
      refine V.mono ?_ (l_X9_load hk ez.1 hc 0 c 0 M hM ez.2 (by omega))
      intro rv M1 h
      obtain ⟨h1, h2⟩ := h
      subst h1 h2
      have e9 : (M 69 k).toNatClampNeg = z := by rw [ez.2]; exact nI_clamp (by omega)
      exact ⟨by simp [pLoad, hr, ek, h3, e9], by simp [pLoad, hr, ek, h3, e9]⟩
def mvG (s f : Nat) : Nat → Nat → Mem → Mem
  | 0, _, M => M
  | n + 1, i, M => mvG s f n (i + 1) (ms M 71 i (M 70 (40 * s + f + i)))
def bkG (t g : Nat) : Nat → Nat → Mem → Mem
  | 0, _, M => M
  | n + 1, i, M => bkG t g n (i + 1) (ms M 70 (40 * t + g + i) (M 71 i))
theorem bkG_k {t g k : Nat} (hk : k ≠ 70) : ∀ (n i : Nat) (M : Mem), bkG t g n i M k = M k := by
  intro n
  induction n with
  | zero => intro i M; rfl
  | succ n ih => intro i M; simp only [bkG]; rw [ih, ms_k hk]
theorem mvG_k {t g k : Nat} (hk : k ≠ 71) : ∀ (n i : Nat) (M : Mem), mvG t g n i M k = M k := by
  intro n
  induction n with
  | zero => intro i M; rfl
  | succ n ih => intro i M; simp only [mvG]; rw [ih, ms_k hk]
def cpyP (x f y g n : Int32) (M : Mem) : Bool := decide (0 ≤ f ∧ 0 ≤ g ∧ 0 ≤ n ∧ n ≤ M 69 x.toNatClampNeg - f ∧ n ≤ M 69 y.toNatClampNeg - g)
theorem cpy_nat {z : Nat} {f n : Int32} (hz : z ≤ 40) (hf : 0 ≤ f) (hn : 0 ≤ n) (h : n ≤ nI z - f) : ∃ a b, f = nI a ∧ n = nI b ∧ a + b ≤ z := by
  have h1 := Int32.le_iff_toInt_le.mp hf
  have h2 := Int32.le_iff_toInt_le.mp hn
  have h3 := Int32.le_iff_toInt_le.mp h
  have h4 := Int32.toInt_lt f
  have h5 := Int32.toInt_lt n
  have h0 : (0 : Int32).toInt = 0 := rfl
  obtain ⟨a, ha, rfl⟩ : ∃ a : Nat, a < 2 ^ 31 ∧ f = nI a := by
    refine ⟨f.toInt.toNat, by omega, ?_⟩
    apply Int32.toInt_inj.mp
    rw [nI_toInt (by omega)]
    omega
  obtain ⟨b, hb, rfl⟩ : ∃ b : Nat, b < 2 ^ 31 ∧ n = nI b := by
    refine ⟨n.toInt.toNat, by omega, ?_⟩
    apply Int32.toInt_inj.mp
    rw [nI_toInt (by omega)]
    omega
  rw [Int32.toInt_sub, nI_toInt (by omega), nI_toInt (by omega), nI_toInt (by omega), Int.bmod_eq_of_le (by omega) (by omega)] at h3
  exact ⟨a, b, rfl, rfl, by omega⟩
theorem l_X9_copyB {s f t g n0 : Nat} (hs : s < 4) (ht : t < 4) (hf : f + n0 ≤ 40) (hg : g + n0 ≤ 40) : ∀ (n i : Nat) (M : Mem), i + n = n0 → V m_X9_copy 158 [(0, .ref 62), (1, .int (nI s)), (2, .int (nI f)), (3, .int (nI t)), (4, .int (nI g)), (5, .int (nI n0)), (6, .int (nI i))] [] M (RT (some (.int (nI n0))) (bkG t g n i M)) := by
  intro n
  induction n with
  | zero =>
    intro i M hi
    refine V.iload dX9_copy_158 rfl rfl ?_
    refine V.iload dX9_copy_160 rfl rfl ?_
    refine V.icmp_ge (tgt := 193) dX9_copy_162 rfl rfl (fun c162 => ?_) (fun c162 => absurd ((nI_leI (a := n0) (b := i) (by omega) (by omega)).mpr (by omega)) c162)
    have c162 : n0 ≤ i := (nI_leI (a := n0) (b := i) (by omega) (by omega)).mp c162
    refine V.iload dX9_copy_193 rfl rfl ?_
    exact V.ret dX9_copy_195 rfl rfl ⟨rfl, rfl⟩
  | succ n ih =>
    intro i M hi
    refine V.iload dX9_copy_158 rfl rfl ?_
    refine V.iload dX9_copy_160 rfl rfl ?_
    refine V.icmp_ge (tgt := 193) dX9_copy_162 rfl rfl (fun c162 => absurd ((nI_leI (a := n0) (b := i) (by omega) (by omega)).mp c162) (by omega)) (fun c162 => ?_)
    have c162 : ¬ n0 ≤ i := fun zq => c162 ((nI_leI (a := n0) (b := i) (by omega) (by omega)).mpr zq)
    refine V.aload_n dX9_copy_165 rfl rfl rfl ?_
    refine V.getr dX9_copy_166 fg_X9_31 rfl rfl rfl ?_
    refine V.bipush (v := 40) dX9_copy_169 (by decide) rfl ?_
    refine V.iload_n dX9_copy_171 rfl rfl rfl ?_
    refine V.imul (v := nI (40 * t)) dX9_copy_172 (pk_mul _ _) rfl ?_
    refine V.iload dX9_copy_173 rfl rfl ?_
    refine V.iadd (v := nI ((40 * t) + g)) dX9_copy_175 (nI_add _ _) rfl ?_
    refine V.iload dX9_copy_176 rfl rfl ?_
    refine V.iadd (v := nI (((40 * t) + g) + i)) dX9_copy_178 (nI_add _ _) rfl ?_
    refine V.aload_n dX9_copy_179 rfl rfl rfl ?_
    refine V.getr dX9_copy_180 fg_X9_34 rfl rfl rfl ?_
    refine V.iload dX9_copy_183 rfl rfl ?_
    refine V.ialdN (j := i) (v := M 71 i) dX9_copy_185 rfl (by omega) (by decide) rfl rfl rfl ?_
    refine V.iastN (j := ((40 * t) + g) + i) dX9_copy_186 rfl (by omega) (by decide) rfl (M' := (ms M 70 (((40 * t) + g) + i) (M 71 i))) rfl rfl ?_
    refine V.inc (v := nI (i + 1)) dX9_copy_187 rfl (nI_1 _) (by decide) (L' := [(0, .ref 62), (1, .int (nI s)), (2, .int (nI f)), (3, .int (nI t)), (4, .int (nI g)), (5, .int (nI n0)), (6, .int (nI (i + 1)))]) rfl rfl ?_
    refine V.goto (pc' := 158) dX9_copy_190 rfl ?_
    exact ih (i + 1) _ (by omega)
theorem l_X9_copyA {s f t g n0 : Nat} (hs : s < 4) (ht : t < 4) (hf : f + n0 ≤ 40) (hg : g + n0 ≤ 40) : ∀ (n i : Nat) (M : Mem), i + n = n0 → V m_X9_copy 121 [(0, .ref 62), (1, .int (nI s)), (2, .int (nI f)), (3, .int (nI t)), (4, .int (nI g)), (5, .int (nI n0)), (6, .int (nI i))] [] M (RT (some (.int (nI n0))) (bkG t g n0 0 (mvG s f n i M))) := by
  intro n
  induction n with
  | zero =>
    intro i M hi
    refine V.iload dX9_copy_121 rfl rfl ?_
    refine V.iload dX9_copy_123 rfl rfl ?_
    refine V.icmp_ge (tgt := 155) dX9_copy_125 rfl rfl (fun c125 => ?_) (fun c125 => absurd ((nI_leI (a := n0) (b := i) (by omega) (by omega)).mpr (by omega)) c125)
    have c125 : n0 ≤ i := (nI_leI (a := n0) (b := i) (by omega) (by omega)).mp c125
    refine V.iconst (v := 0) dX9_copy_155 rfl rfl ?_
    refine V.ist dX9_copy_156 (by decide) (L' := [(0, .ref 62), (1, .int (nI s)), (2, .int (nI f)), (3, .int (nI t)), (4, .int (nI g)), (5, .int (nI n0)), (6, .int 0)]) rfl rfl ?_
    exact l_X9_copyB hs ht hf hg n0 0 M (by omega)
  | succ n ih =>
    intro i M hi
    refine V.iload dX9_copy_121 rfl rfl ?_
    refine V.iload dX9_copy_123 rfl rfl ?_
    refine V.icmp_ge (tgt := 155) dX9_copy_125 rfl rfl (fun c125 => absurd ((nI_leI (a := n0) (b := i) (by omega) (by omega)).mp c125) (by omega)) (fun c125 => ?_)
    have c125 : ¬ n0 ≤ i := fun zq => c125 ((nI_leI (a := n0) (b := i) (by omega) (by omega)).mpr zq)
    refine V.aload_n dX9_copy_128 rfl rfl rfl ?_
    refine V.getr dX9_copy_129 fg_X9_34 rfl rfl rfl ?_
    refine V.iload dX9_copy_132 rfl rfl ?_
    refine V.aload_n dX9_copy_134 rfl rfl rfl ?_
    refine V.getr dX9_copy_135 fg_X9_31 rfl rfl rfl ?_
    refine V.bipush (v := 40) dX9_copy_138 (by decide) rfl ?_
    refine V.iload_n dX9_copy_140 rfl rfl rfl ?_
    refine V.imul (v := nI (40 * s)) dX9_copy_141 (pk_mul _ _) rfl ?_
    refine V.iload_n dX9_copy_142 rfl rfl rfl ?_
    refine V.iadd (v := nI ((40 * s) + f)) dX9_copy_143 (nI_add _ _) rfl ?_
    refine V.iload dX9_copy_144 rfl rfl ?_
    refine V.iadd (v := nI (((40 * s) + f) + i)) dX9_copy_146 (nI_add _ _) rfl ?_
    refine V.ialdN (j := ((40 * s) + f) + i) (v := M 70 (((40 * s) + f) + i)) dX9_copy_147 rfl (by omega) (by decide) rfl rfl rfl ?_
    refine V.iastN (j := i) dX9_copy_148 rfl (by omega) (by decide) rfl (M' := (ms M 71 i (M 70 (((40 * s) + f) + i)))) rfl rfl ?_
    refine V.inc (v := nI (i + 1)) dX9_copy_149 rfl (nI_1 _) (by decide) (L' := [(0, .ref 62), (1, .int (nI s)), (2, .int (nI f)), (3, .int (nI t)), (4, .int (nI g)), (5, .int (nI n0)), (6, .int (nI (i + 1)))]) rfl rfl ?_
    refine V.goto (pc' := 121) dX9_copy_152 rfl ?_
    exact ih (i + 1) _ (by omega)
def pCopy (c : Nat) (x f y g n : Int32) (M : Mem) : Int32 × Mem := if ¬ (rng 0 3 x ∧ rng 0 3 y) then (-1000001, fdM 0 M) else if M 68 x.toNatClampNeg = 0 ∨ M 68 y.toNatClampNeg = 0 then (-1000006, fdM 5 M) else if ¬ M 68 x.toNatClampNeg = M 68 y.toNatClampNeg then (-1000003, fdM 2 M) else if ¬ cpyP x f y g n M then (-1000001, fdM 0 M) else (n, bkG y.toNatClampNeg g.toNatClampNeg n.toNatClampNeg 0 (mvG x.toNatClampNeg f.toNatClampNeg n.toNatClampNeg 0 M))
theorem v_X9_copy {c : Nat} (hc : c ≤ 10) (x f y g n : Int32) (M : Mem) (hM : M 63 1 = nI c) (hZ : ∀ k, k < 4 → ∃ z, z ≤ 40 ∧ M 69 k = nI z) : V m_X9_copy 0 [(0, .ref 62), (1, .int x), (2, .int f), (3, .int y), (4, .int g), (5, .int n)] [] M (RT (some (.int ((pCopy c x f y g n M).1))) ((pCopy c x f y g n M).2)) := by
  refine V.iload_n dX9_copy_0 rfl rfl rfl ?_
  refine V.calls_i (M1 := M) (v := if rng 0 3 x then 1 else 0) (md' := m_X9_isOne) (As := [.int x]) (rest := []) dX9_copy_1 ml_X9_327 mo_X9_isOne ⟨Nat.le_of_ble_eq_true rfl, Nat.le_of_ble_eq_true rfl⟩ (Nat.le_of_ble_eq_true rfl) rfl rfl (Nat.le_of_ble_eq_true rfl) (v_X9_isOne x _) rfl ?_
  refine V.ifb_eq (tgt := 14) dX9_copy_4 rfl rfl (fun c4 => ?_) (fun c4 => ?_)
  · skip
    refine V.aload_n dX9_copy_14 rfl rfl rfl ?_
    refine V.ldc (v := -1000001) dX9_copy_15 cn_X9_37 rfl ?_
    refine V.callv_i (M1 := fdM 0 M) (v := -1000001) (md' := m_X9_finds) (As := [.int (-1000001)]) (rest := []) dX9_copy_17 ml_X9_51 mo_X9_finds ⟨Nat.le_of_ble_eq_true rfl, Nat.le_of_ble_eq_true rfl⟩ rfl ⟨_, _, rfl⟩ (Nat.le_of_ble_eq_true rfl) rfl rfl (Nat.le_of_ble_eq_true rfl) (v_X9_finds (w := 0) (by decide) (-1000001) (by decide +kernel) _) rfl ?_
    exact V.ret dX9_copy_20 rfl rfl ⟨(by first | (simp (decide := true) [pCopy, cpyP, c4]; done) | (simp (decide := true) [pCopy, cpyP, c4]; done) | (simp (decide := true) [pCopy, cpyP, c4]; done) | (simp_all (decide := true) [pCopy, cpyP]; done) | (simp_all (decide := true) [pCopy, cpyP, ltF, leF]; done)), (by first | (simp (decide := true) [pCopy, cpyP, c4]; done) | (simp (decide := true) [pCopy, cpyP, c4]; done) | (simp (decide := true) [pCopy, cpyP, c4]; done) | (simp_all (decide := true) [pCopy, cpyP]; done) | (simp_all (decide := true) [pCopy, cpyP, ltF, leF]; done))⟩
  · skip
    refine V.iload_n dX9_copy_7 rfl rfl rfl ?_
    refine V.calls_i (M1 := M) (v := if rng 0 3 y then 1 else 0) (md' := m_X9_isOne) (As := [.int y]) (rest := []) dX9_copy_8 ml_X9_327 mo_X9_isOne ⟨Nat.le_of_ble_eq_true rfl, Nat.le_of_ble_eq_true rfl⟩ (Nat.le_of_ble_eq_true rfl) rfl rfl (Nat.le_of_ble_eq_true rfl) (v_X9_isOne y _) rfl ?_
    refine V.ifb_ne (tgt := 21) dX9_copy_11 rfl rfl (fun c11 => ?_) (fun c11 => ?_)
    · skip
      obtain ⟨s, hs, rfl⟩ := of_rng (b := 3) c4
      · have es : (nI s).toNatClampNeg = s := nI_clamp (by omega)
        obtain ⟨t, ht, rfl⟩ := of_rng (b := 3) c11
        have et : (nI t).toNatClampNeg = t := nI_clamp (by omega)
        refine V.aload_n dX9_copy_21 rfl rfl rfl ?_
        refine V.getr dX9_copy_22 fg_X9_25 rfl rfl rfl ?_
        refine V.iload_n dX9_copy_25 rfl rfl rfl ?_
        refine V.ialdN (j := s) (v := M 68 s) dX9_copy_26 rfl (by omega) (by decide) rfl rfl rfl ?_
        refine V.if_eq (tgt := 39) dX9_copy_27 rfl rfl (fun c27 => ?_) (fun c27 => ?_)
        · skip
          refine V.aload_n dX9_copy_39 rfl rfl rfl ?_
          refine V.ldcw (v := -1000006) dX9_copy_40 cn_X9_325 rfl ?_
          refine V.callv_i (M1 := fdM 5 M) (v := -1000006) (md' := m_X9_finds) (As := [.int (-1000006)]) (rest := []) dX9_copy_43 ml_X9_51 mo_X9_finds ⟨Nat.le_of_ble_eq_true rfl, Nat.le_of_ble_eq_true rfl⟩ rfl ⟨_, _, rfl⟩ (Nat.le_of_ble_eq_true rfl) rfl rfl (Nat.le_of_ble_eq_true rfl) (v_X9_finds (w := 5) (by decide) (-1000006) (by decide +kernel) _) rfl ?_
          exact V.ret dX9_copy_46 rfl rfl ⟨(by first | (simp (decide := true) [pCopy, cpyP, c4, c11, es, et, c27]; done) | (simp (decide := true) [pCopy, cpyP, c4, c11, es, et, c27]; done) | (simp (decide := true) [pCopy, cpyP, c4, c11, es, et, c27]; done) | (simp_all (decide := true) [pCopy, cpyP]; done) | (simp_all (decide := true) [pCopy, cpyP, ltF, leF]; done)), (by first | (simp (decide := true) [pCopy, cpyP, c4, c11, es, et, c27]; done) | (simp (decide := true) [pCopy, cpyP, c4, c11, es, et, c27]; done) | (simp (decide := true) [pCopy, cpyP, c4, c11, es, et, c27]; done) | (simp_all (decide := true) [pCopy, cpyP]; done) | (simp_all (decide := true) [pCopy, cpyP, ltF, leF]; done))⟩
        · skip
          refine V.aload_n dX9_copy_30 rfl rfl rfl ?_
          refine V.getr dX9_copy_31 fg_X9_25 rfl rfl rfl ?_
          refine V.iload_n dX9_copy_34 rfl rfl rfl ?_
          refine V.ialdN (j := t) (v := M 68 t) dX9_copy_35 rfl (by omega) (by decide) rfl rfl rfl ?_
          refine V.if_ne (tgt := 47) dX9_copy_36 rfl rfl (fun c36 => ?_) (fun c36 => ?_)
          · skip
            refine V.aload_n dX9_copy_47 rfl rfl rfl ?_
            refine V.getr dX9_copy_48 fg_X9_25 rfl rfl rfl ?_
            refine V.iload_n dX9_copy_51 rfl rfl rfl ?_
            refine V.ialdN (j := s) (v := M 68 s) dX9_copy_52 rfl (by omega) (by decide) rfl rfl rfl ?_
            refine V.aload_n dX9_copy_53 rfl rfl rfl ?_
            refine V.getr dX9_copy_54 fg_X9_25 rfl rfl rfl ?_
            refine V.iload_n dX9_copy_57 rfl rfl rfl ?_
            refine V.ialdN (j := t) (v := M 68 t) dX9_copy_58 rfl (by omega) (by decide) rfl rfl rfl ?_
            refine V.icmp_eq (tgt := 70) dX9_copy_59 rfl rfl (fun c59 => ?_) (fun c59 => ?_)
            · skip
              refine V.iload_n dX9_copy_70 rfl rfl rfl ?_
              refine V.if_lt (tgt := 111) dX9_copy_71 rfl rfl (fun c71 => ?_) (fun c71 => ?_)
              · have d71 := Int32.not_le.mpr c71
                refine V.aload_n dX9_copy_111 rfl rfl rfl ?_
                refine V.ldc (v := -1000001) dX9_copy_112 cn_X9_37 rfl ?_
                refine V.callv_i (M1 := fdM 0 M) (v := -1000001) (md' := m_X9_finds) (As := [.int (-1000001)]) (rest := []) dX9_copy_114 ml_X9_51 mo_X9_finds ⟨Nat.le_of_ble_eq_true rfl, Nat.le_of_ble_eq_true rfl⟩ rfl ⟨_, _, rfl⟩ (Nat.le_of_ble_eq_true rfl) rfl rfl (Nat.le_of_ble_eq_true rfl) (v_X9_finds (w := 0) (by decide) (-1000001) (by decide +kernel) _) rfl ?_
                exact V.ret dX9_copy_117 rfl rfl ⟨(by first | (simp (decide := true) [pCopy, cpyP, c4, c11, es, et, c27, c36, c59, c71, d71]; done) | (simp (decide := true) [pCopy, cpyP, c4, c11, es, et, c27, c36, c59, c71, c71]; done) | (simp (decide := true) [pCopy, cpyP, c4, c11, es, et, c27, c36, c59, c71, d71, c71]; done) | (simp_all (decide := true) [pCopy, cpyP]; done) | (simp_all (decide := true) [pCopy, cpyP, ltF, leF]; done)), (by first | (simp (decide := true) [pCopy, cpyP, c4, c11, es, et, c27, c36, c59, c71, d71]; done) | (simp (decide := true) [pCopy, cpyP, c4, c11, es, et, c27, c36, c59, c71, c71]; done) | (simp (decide := true) [pCopy, cpyP, c4, c11, es, et, c27, c36, c59, c71, d71, c71]; done) | (simp_all (decide := true) [pCopy, cpyP]; done) | (simp_all (decide := true) [pCopy, cpyP, ltF, leF]; done))⟩
              · have d71 := Int32.not_lt.mp c71
                refine V.iload dX9_copy_74 rfl rfl ?_
                refine V.if_lt (tgt := 111) dX9_copy_76 rfl rfl (fun c76 => ?_) (fun c76 => ?_)
                · have d76 := Int32.not_le.mpr c76
                  refine V.aload_n dX9_copy_111 rfl rfl rfl ?_
                  refine V.ldc (v := -1000001) dX9_copy_112 cn_X9_37 rfl ?_
                  refine V.callv_i (M1 := fdM 0 M) (v := -1000001) (md' := m_X9_finds) (As := [.int (-1000001)]) (rest := []) dX9_copy_114 ml_X9_51 mo_X9_finds ⟨Nat.le_of_ble_eq_true rfl, Nat.le_of_ble_eq_true rfl⟩ rfl ⟨_, _, rfl⟩ (Nat.le_of_ble_eq_true rfl) rfl rfl (Nat.le_of_ble_eq_true rfl) (v_X9_finds (w := 0) (by decide) (-1000001) (by decide +kernel) _) rfl ?_
                  exact V.ret dX9_copy_117 rfl rfl ⟨(by first | (simp (decide := true) [pCopy, cpyP, c4, c11, es, et, c27, c36, c59, c71, d71, c76, d76]; done) | (simp (decide := true) [pCopy, cpyP, c4, c11, es, et, c27, c36, c59, c71, c71, c76, c76]; done) | (simp (decide := true) [pCopy, cpyP, c4, c11, es, et, c27, c36, c59, c71, d71, c76, d76, c71, c76]; done) | (simp_all (decide := true) [pCopy, cpyP]; done) | (simp_all (decide := true) [pCopy, cpyP, ltF, leF]; done)), (by first | (simp (decide := true) [pCopy, cpyP, c4, c11, es, et, c27, c36, c59, c71, d71, c76, d76]; done) | (simp (decide := true) [pCopy, cpyP, c4, c11, es, et, c27, c36, c59, c71, c71, c76, c76]; done) | (simp (decide := true) [pCopy, cpyP, c4, c11, es, et, c27, c36, c59, c71, d71, c76, d76, c71, c76]; done) | (simp_all (decide := true) [pCopy, cpyP]; done) | (simp_all (decide := true) [pCopy, cpyP, ltF, leF]; done))⟩
                · have d76 := Int32.not_lt.mp c76
                  refine V.iload dX9_copy_79 rfl rfl ?_
                  refine V.if_lt (tgt := 111) dX9_copy_81 rfl rfl (fun c81 => ?_) (fun c81 => ?_)
                  · have d81 := Int32.not_le.mpr c81
                    refine V.aload_n dX9_copy_111 rfl rfl rfl ?_
                    refine V.ldc (v := -1000001) dX9_copy_112 cn_X9_37 rfl ?_
                    refine V.callv_i (M1 := fdM 0 M) (v := -1000001) (md' := m_X9_finds) (As := [.int (-1000001)]) (rest := []) dX9_copy_114 ml_X9_51 mo_X9_finds ⟨Nat.le_of_ble_eq_true rfl, Nat.le_of_ble_eq_true rfl⟩ rfl ⟨_, _, rfl⟩ (Nat.le_of_ble_eq_true rfl) rfl rfl (Nat.le_of_ble_eq_true rfl) (v_X9_finds (w := 0) (by decide) (-1000001) (by decide +kernel) _) rfl ?_
                    exact V.ret dX9_copy_117 rfl rfl ⟨(by first | (simp (decide := true) [pCopy, cpyP, c4, c11, es, et, c27, c36, c59, c71, d71, c76, d76, c81, d81]; done) | (simp (decide := true) [pCopy, cpyP, c4, c11, es, et, c27, c36, c59, c71, c71, c76, c76, c81, c81]; done) | (simp (decide := true) [pCopy, cpyP, c4, c11, es, et, c27, c36, c59, c71, d71, c76, d76, c81, d81, c71, c76, c81]; done) | (simp_all (decide := true) [pCopy, cpyP]; done) | (simp_all (decide := true) [pCopy, cpyP, ltF, leF]; done)), (by first | (simp (decide := true) [pCopy, cpyP, c4, c11, es, et, c27, c36, c59, c71, d71, c76, d76, c81, d81]; done) | (simp (decide := true) [pCopy, cpyP, c4, c11, es, et, c27, c36, c59, c71, c71, c76, c76, c81, c81]; done) | (simp (decide := true) [pCopy, cpyP, c4, c11, es, et, c27, c36, c59, c71, d71, c76, d76, c81, d81, c71, c76, c81]; done) | (simp_all (decide := true) [pCopy, cpyP]; done) | (simp_all (decide := true) [pCopy, cpyP, ltF, leF]; done))⟩
                  · have d81 := Int32.not_lt.mp c81
                    refine V.iload dX9_copy_84 rfl rfl ?_
                    refine V.aload_n dX9_copy_86 rfl rfl rfl ?_
                    refine V.getr dX9_copy_87 fg_X9_28 rfl rfl rfl ?_
                    refine V.iload_n dX9_copy_90 rfl rfl rfl ?_
                    refine V.ialdN (j := s) (v := M 69 s) dX9_copy_91 rfl (by omega) (by decide) rfl rfl rfl ?_
                    refine V.iload_n dX9_copy_92 rfl rfl rfl ?_
                    refine V.isub (v := (M 69 s) - f) dX9_copy_93 rfl rfl ?_
                    refine V.icmp_gt (tgt := 111) dX9_copy_94 rfl rfl (fun c94 => ?_) (fun c94 => ?_)
                    · have d94 := Int32.not_le.mpr c94
                      refine V.aload_n dX9_copy_111 rfl rfl rfl ?_
                      refine V.ldc (v := -1000001) dX9_copy_112 cn_X9_37 rfl ?_
                      refine V.callv_i (M1 := fdM 0 M) (v := -1000001) (md' := m_X9_finds) (As := [.int (-1000001)]) (rest := []) dX9_copy_114 ml_X9_51 mo_X9_finds ⟨Nat.le_of_ble_eq_true rfl, Nat.le_of_ble_eq_true rfl⟩ rfl ⟨_, _, rfl⟩ (Nat.le_of_ble_eq_true rfl) rfl rfl (Nat.le_of_ble_eq_true rfl) (v_X9_finds (w := 0) (by decide) (-1000001) (by decide +kernel) _) rfl ?_
                      exact V.ret dX9_copy_117 rfl rfl ⟨(by first | (simp (decide := true) [pCopy, cpyP, c4, c11, es, et, c27, c36, c59, c71, d71, c76, d76, c81, d81, c94, d94]; done) | (simp (decide := true) [pCopy, cpyP, c4, c11, es, et, c27, c36, c59, c71, c71, c76, c76, c81, c81, c94, c94]; done) | (simp (decide := true) [pCopy, cpyP, c4, c11, es, et, c27, c36, c59, c71, d71, c76, d76, c81, d81, c94, d94, c71, c76, c81, c94]; done) | (simp_all (decide := true) [pCopy, cpyP]; done) | (simp_all (decide := true) [pCopy, cpyP, ltF, leF]; done)), (by first | (simp (decide := true) [pCopy, cpyP, c4, c11, es, et, c27, c36, c59, c71, d71, c76, d76, c81, d81, c94, d94]; done) | (simp (decide := true) [pCopy, cpyP, c4, c11, es, et, c27, c36, c59, c71, c71, c76, c76, c81, c81, c94, c94]; done) | (simp (decide := true) [pCopy, cpyP, c4, c11, es, et, c27, c36, c59, c71, d71, c76, d76, c81, d81, c94, d94, c71, c76, c81, c94]; done) | (simp_all (decide := true) [pCopy, cpyP]; done) | (simp_all (decide := true) [pCopy, cpyP, ltF, leF]; done))⟩
                    · have d94 := Int32.not_lt.mp c94
                      refine V.iload dX9_copy_97 rfl rfl ?_
                      refine V.aload_n dX9_copy_99 rfl rfl rfl ?_
                      refine V.getr dX9_copy_100 fg_X9_28 rfl rfl rfl ?_
                      refine V.iload_n dX9_copy_103 rfl rfl rfl ?_
                      refine V.ialdN (j := t) (v := M 69 t) dX9_copy_104 rfl (by omega) (by decide) rfl rfl rfl ?_
                      refine V.iload dX9_copy_105 rfl rfl ?_
                      refine V.isub (v := (M 69 t) - g) dX9_copy_107 rfl rfl ?_
                      refine V.icmp_le (tgt := 118) dX9_copy_108 rfl rfl (fun c108 => ?_) (fun c108 => ?_)
                      · have d108 := Int32.not_lt.mpr c108
                        obtain ⟨zs, hzs, ezs⟩ := hZ s (by omega)
                        · obtain ⟨zt, hzt, ezt⟩ := hZ t (by omega)
                          have hcp : cpyP (nI s) f (nI t) g n M = true := decide_eq_true_iff.mpr ⟨d71, d76, d81, by rw [es]; exact d94, by rw [et]; exact c108⟩
                          have hp : pCopy c (nI s) f (nI t) g n M = (n, bkG t g.toNatClampNeg n.toNatClampNeg 0 (mvG s f.toNatClampNeg n.toNatClampNeg 0 M)) := by simp only [pCopy, hcp, es, et]; simp [c4, c11, c27, c36, c59] ; done
                          rw [hp]
                          rw [ezs] at d94
                          rw [ezt] at c108
                          obtain ⟨a, b, rfl, rfl, hab⟩ := cpy_nat hzs d71 d81 d94
                          obtain ⟨a2, b2, rfl, hb2, hab2⟩ := cpy_nat hzt d76 d81 c108
                          have ebb : b = b2 := (nI_eq (by omega) (by omega)).mp hb2
                          have ea : (nI a).toNatClampNeg = a := nI_clamp (by omega)
                          have ea2 : (nI a2).toNatClampNeg = a2 := nI_clamp (by omega)
                          have eb : (nI b).toNatClampNeg = b := nI_clamp (by omega)
                          rw [ea, ea2, eb]
                          refine V.iconst (v := 0) dX9_copy_118 rfl rfl ?_
                          refine V.ist dX9_copy_119 (by decide) (L' := [(0, .ref 62), (1, .int (nI s)), (2, .int (nI a)), (3, .int (nI t)), (4, .int (nI a2)), (5, .int (nI b)), (6, .int 0)]) rfl rfl ?_
                          exact l_X9_copyA (by omega) (by omega) (by omega) (by omega) b 0 M (by omega)
                      · have d108 := Int32.not_le.mp c108
                        refine V.aload_n dX9_copy_111 rfl rfl rfl ?_
                        refine V.ldc (v := -1000001) dX9_copy_112 cn_X9_37 rfl ?_
                        refine V.callv_i (M1 := fdM 0 M) (v := -1000001) (md' := m_X9_finds) (As := [.int (-1000001)]) (rest := []) dX9_copy_114 ml_X9_51 mo_X9_finds ⟨Nat.le_of_ble_eq_true rfl, Nat.le_of_ble_eq_true rfl⟩ rfl ⟨_, _, rfl⟩ (Nat.le_of_ble_eq_true rfl) rfl rfl (Nat.le_of_ble_eq_true rfl) (v_X9_finds (w := 0) (by decide) (-1000001) (by decide +kernel) _) rfl ?_
                        exact V.ret dX9_copy_117 rfl rfl ⟨(by first | (simp (decide := true) [pCopy, cpyP, c4, c11, es, et, c27, c36, c59, c71, d71, c76, d76, c81, d81, c94, d94, c108, d108]; done) | (simp (decide := true) [pCopy, cpyP, c4, c11, es, et, c27, c36, c59, c71, c71, c76, c76, c81, c81, c94, c94, c108, c108]; done) | (simp (decide := true) [pCopy, cpyP, c4, c11, es, et, c27, c36, c59, c71, d71, c76, d76, c81, d81, c94, d94, c108, d108, c71, c76, c81, c94, c108]; done) | (simp_all (decide := true) [pCopy, cpyP]; done) | (simp_all (decide := true) [pCopy, cpyP, ltF, leF]; done)), (by first | (simp (decide := true) [pCopy, cpyP, c4, c11, es, et, c27, c36, c59, c71, d71, c76, d76, c81, d81, c94, d94, c108, d108]; done) | (simp (decide := true) [pCopy, cpyP, c4, c11, es, et, c27, c36, c59, c71, c71, c76, c76, c81, c81, c94, c94, c108, c108]; done) | (simp (decide := true) [pCopy, cpyP, c4, c11, es, et, c27, c36, c59, c71, d71, c76, d76, c81, d81, c94, d94, c108, d108, c71, c76, c81, c94, c108]; done) | (simp_all (decide := true) [pCopy, cpyP]; done) | (simp_all (decide := true) [pCopy, cpyP, ltF, leF]; done))⟩
            · skip
              refine V.aload_n dX9_copy_62 rfl rfl rfl ?_
              refine V.ldcw (v := -1000003) dX9_copy_63 cn_X9_326 rfl ?_
              refine V.callv_i (M1 := fdM 2 M) (v := -1000003) (md' := m_X9_finds) (As := [.int (-1000003)]) (rest := []) dX9_copy_66 ml_X9_51 mo_X9_finds ⟨Nat.le_of_ble_eq_true rfl, Nat.le_of_ble_eq_true rfl⟩ rfl ⟨_, _, rfl⟩ (Nat.le_of_ble_eq_true rfl) rfl rfl (Nat.le_of_ble_eq_true rfl) (v_X9_finds (w := 2) (by decide) (-1000003) (by decide +kernel) _) rfl ?_
              exact V.ret dX9_copy_69 rfl rfl ⟨(by first | (simp (decide := true) [pCopy, cpyP, c4, c11, es, et, c27, c36, c59]; done) | (simp (decide := true) [pCopy, cpyP, c4, c11, es, et, c27, c36, c59]; done) | (simp (decide := true) [pCopy, cpyP, c4, c11, es, et, c27, c36, c59]; done) | (simp_all (decide := true) [pCopy, cpyP]; done) | (simp_all (decide := true) [pCopy, cpyP, ltF, leF]; done)), (by first | (simp (decide := true) [pCopy, cpyP, c4, c11, es, et, c27, c36, c59]; done) | (simp (decide := true) [pCopy, cpyP, c4, c11, es, et, c27, c36, c59]; done) | (simp (decide := true) [pCopy, cpyP, c4, c11, es, et, c27, c36, c59]; done) | (simp_all (decide := true) [pCopy, cpyP]; done) | (simp_all (decide := true) [pCopy, cpyP, ltF, leF]; done))⟩
          · skip
            refine V.aload_n dX9_copy_39 rfl rfl rfl ?_
            refine V.ldcw (v := -1000006) dX9_copy_40 cn_X9_325 rfl ?_
            refine V.callv_i (M1 := fdM 5 M) (v := -1000006) (md' := m_X9_finds) (As := [.int (-1000006)]) (rest := []) dX9_copy_43 ml_X9_51 mo_X9_finds ⟨Nat.le_of_ble_eq_true rfl, Nat.le_of_ble_eq_true rfl⟩ rfl ⟨_, _, rfl⟩ (Nat.le_of_ble_eq_true rfl) rfl rfl (Nat.le_of_ble_eq_true rfl) (v_X9_finds (w := 5) (by decide) (-1000006) (by decide +kernel) _) rfl ?_
            exact V.ret dX9_copy_46 rfl rfl ⟨(by first | (simp (decide := true) [pCopy, cpyP, c4, c11, es, et, c27, c36]; done) | (simp (decide := true) [pCopy, cpyP, c4, c11, es, et, c27, c36]; done) | (simp (decide := true) [pCopy, cpyP, c4, c11, es, et, c27, c36]; done) | (simp_all (decide := true) [pCopy, cpyP]; done) | (simp_all (decide := true) [pCopy, cpyP, ltF, leF]; done)), (by first | (simp (decide := true) [pCopy, cpyP, c4, c11, es, et, c27, c36]; done) | (simp (decide := true) [pCopy, cpyP, c4, c11, es, et, c27, c36]; done) | (simp (decide := true) [pCopy, cpyP, c4, c11, es, et, c27, c36]; done) | (simp_all (decide := true) [pCopy, cpyP]; done) | (simp_all (decide := true) [pCopy, cpyP, ltF, leF]; done))⟩
    · skip
      refine V.aload_n dX9_copy_14 rfl rfl rfl ?_
      refine V.ldc (v := -1000001) dX9_copy_15 cn_X9_37 rfl ?_
      refine V.callv_i (M1 := fdM 0 M) (v := -1000001) (md' := m_X9_finds) (As := [.int (-1000001)]) (rest := []) dX9_copy_17 ml_X9_51 mo_X9_finds ⟨Nat.le_of_ble_eq_true rfl, Nat.le_of_ble_eq_true rfl⟩ rfl ⟨_, _, rfl⟩ (Nat.le_of_ble_eq_true rfl) rfl rfl (Nat.le_of_ble_eq_true rfl) (v_X9_finds (w := 0) (by decide) (-1000001) (by decide +kernel) _) rfl ?_
      exact V.ret dX9_copy_20 rfl rfl ⟨(by first | (simp (decide := true) [pCopy, cpyP, c4, c11]; done) | (simp (decide := true) [pCopy, cpyP, c4, c11]; done) | (simp (decide := true) [pCopy, cpyP, c4, c11]; done) | (simp_all (decide := true) [pCopy, cpyP]; done) | (simp_all (decide := true) [pCopy, cpyP, ltF, leF]; done)), (by first | (simp (decide := true) [pCopy, cpyP, c4, c11]; done) | (simp (decide := true) [pCopy, cpyP, c4, c11]; done) | (simp (decide := true) [pCopy, cpyP, c4, c11]; done) | (simp_all (decide := true) [pCopy, cpyP]; done) | (simp_all (decide := true) [pCopy, cpyP, ltF, leF]; done))⟩
theorem l_X9_image  : ∀ (n i : Nat) (M : Mem), i + n = 116 → V m_X9_image 2 [(0, .ref 62), (1, .int (nI i))] [] M (RT (some (.int 1)) (ms (rowG 64 63 n i M) 62 4 1)) := by
  intro n
  induction n with
  | zero =>
    intro i M hi
    refine V.iload_n dX9_image_2 rfl rfl rfl ?_
    refine V.bipush (v := 116) dX9_image_3 (by decide) rfl ?_
    refine V.icmp_ge (tgt := 26) dX9_image_5 rfl rfl (fun c5 => ?_) (fun c5 => absurd ((nI_leI (a := 116) (b := i) (by omega) (by omega)).mpr (by omega)) c5)
    have c5 : 116 ≤ i := (nI_leI (a := 116) (b := i) (by omega) (by omega)).mp c5
    refine V.aload_n dX9_image_26 rfl rfl rfl ?_
    refine V.iconst (v := 1) dX9_image_27 rfl rfl ?_
    refine V.puti dX9_image_28 fp_X9_337 rfl rfl rfl rfl (M' := (ms M 62 4 1)) rfl rfl ?_
    refine V.iconst (v := 1) dX9_image_31 rfl rfl ?_
    exact V.ret dX9_image_32 rfl rfl ⟨rfl, rfl⟩
  | succ n ih =>
    intro i M hi
    refine V.iload_n dX9_image_2 rfl rfl rfl ?_
    refine V.bipush (v := 116) dX9_image_3 (by decide) rfl ?_
    refine V.icmp_ge (tgt := 26) dX9_image_5 rfl rfl (fun c5 => absurd ((nI_leI (a := 116) (b := i) (by omega) (by omega)).mp c5) (by omega)) (fun c5 => ?_)
    have c5 : ¬ 116 ≤ i := fun zq => c5 ((nI_leI (a := 116) (b := i) (by omega) (by omega)).mpr zq)
    refine V.aload_n dX9_image_8 rfl rfl rfl ?_
    refine V.getr dX9_image_9 fg_X9_13 rfl rfl rfl ?_
    refine V.iload_n dX9_image_12 rfl rfl rfl ?_
    refine V.aload_n dX9_image_13 rfl rfl rfl ?_
    refine V.getr dX9_image_14 fg_X9_7 rfl rfl rfl ?_
    refine V.iload_n dX9_image_17 rfl rfl rfl ?_
    refine V.ialdN (j := i) (v := M 63 i) dX9_image_18 rfl (by omega) (by decide) rfl rfl rfl ?_
    refine V.iastN (j := i) dX9_image_19 rfl (by omega) (by decide) rfl (M' := (ms M 64 i (M 63 i))) rfl rfl ?_
    refine V.inc (v := nI (i + 1)) dX9_image_20 rfl (nI_1 _) (by decide) (L' := [(0, .ref 62), (1, .int (nI (i + 1)))]) rfl rfl ?_
    refine V.goto (pc' := 2) dX9_image_23 rfl ?_
    exact ih (i + 1) _ (by omega)
def pImage (c : Nat) (M : Mem) : Int32 × Mem := (1, ms (rowG 64 63 116 0 M) 62 4 1)
theorem v_X9_image {c : Nat} (hc : c ≤ 10)  (M : Mem) (hM : M 63 1 = nI c) : V m_X9_image 0 [(0, .ref 62)] [] M (RT (some (.int ((pImage c M).1))) ((pImage c M).2)) := by
  refine V.iconst (v := 0) dX9_image_0 rfl rfl ?_
  refine V.ist_n dX9_image_1 rfl (by decide) (L' := [(0, .ref 62), (1, .int 0)]) rfl rfl ?_
  exact l_X9_image 116 0 M rfl
theorem l_X9_undo  : ∀ (n i : Nat) (M : Mem), i + n = 116 → V m_X9_undo 16 [(0, .ref 62), (1, .int (nI i))] [] M (RT (some (.int (rowG 63 64 n i M 63 0))) (rowG 63 64 n i M)) := by
  intro n
  induction n with
  | zero =>
    intro i M hi
    refine V.iload_n dX9_undo_16 rfl rfl rfl ?_
    refine V.bipush (v := 116) dX9_undo_17 (by decide) rfl ?_
    refine V.icmp_ge (tgt := 40) dX9_undo_19 rfl rfl (fun c19 => ?_) (fun c19 => absurd ((nI_leI (a := 116) (b := i) (by omega) (by omega)).mpr (by omega)) c19)
    have c19 : 116 ≤ i := (nI_leI (a := 116) (b := i) (by omega) (by omega)).mp c19
    refine V.aload_n dX9_undo_40 rfl rfl rfl ?_
    refine V.getr dX9_undo_41 fg_X9_7 rfl rfl rfl ?_
    refine V.iconst (v := 0) dX9_undo_44 rfl rfl ?_
    refine V.ialdN (j := 0) (v := M 63 0) dX9_undo_45 rfl (by decide) (by decide) rfl rfl rfl ?_
    exact V.ret dX9_undo_46 rfl rfl ⟨rfl, rfl⟩
  | succ n ih =>
    intro i M hi
    refine V.iload_n dX9_undo_16 rfl rfl rfl ?_
    refine V.bipush (v := 116) dX9_undo_17 (by decide) rfl ?_
    refine V.icmp_ge (tgt := 40) dX9_undo_19 rfl rfl (fun c19 => absurd ((nI_leI (a := 116) (b := i) (by omega) (by omega)).mp c19) (by omega)) (fun c19 => ?_)
    have c19 : ¬ 116 ≤ i := fun zq => c19 ((nI_leI (a := 116) (b := i) (by omega) (by omega)).mpr zq)
    refine V.aload_n dX9_undo_22 rfl rfl rfl ?_
    refine V.getr dX9_undo_23 fg_X9_7 rfl rfl rfl ?_
    refine V.iload_n dX9_undo_26 rfl rfl rfl ?_
    refine V.aload_n dX9_undo_27 rfl rfl rfl ?_
    refine V.getr dX9_undo_28 fg_X9_13 rfl rfl rfl ?_
    refine V.iload_n dX9_undo_31 rfl rfl rfl ?_
    refine V.ialdN (j := i) (v := M 64 i) dX9_undo_32 rfl (by omega) (by decide) rfl rfl rfl ?_
    refine V.iastN (j := i) dX9_undo_33 rfl (by omega) (by decide) rfl (M' := (ms M 63 i (M 64 i))) rfl rfl ?_
    refine V.inc (v := nI (i + 1)) dX9_undo_34 rfl (nI_1 _) (by decide) (L' := [(0, .ref 62), (1, .int (nI (i + 1)))]) rfl rfl ?_
    refine V.goto (pc' := 16) dX9_undo_37 rfl ?_
    exact ih (i + 1) _ (by omega)
def pUndo (c : Nat) (M : Mem) : Int32 × Mem := if M 62 4 = 0 then (-1000004, fdM 3 M) else (rowG 63 64 116 0 M 63 0, rowG 63 64 116 0 M)
theorem v_X9_undo {c : Nat} (hc : c ≤ 10)  (M : Mem) (hM : M 63 1 = nI c) : V m_X9_undo 0 [(0, .ref 62)] [] M (RT (some (.int ((pUndo c M).1))) ((pUndo c M).2)) := by
  refine V.aload_n dX9_undo_0 rfl rfl rfl ?_
  refine V.geti (v := M 62 4) dX9_undo_1 fg_X9_337 rfl rfl rfl rfl ?_
  refine V.if_ne (tgt := 14) dX9_undo_4 rfl rfl (fun c4 => ?_) (fun c4 => ?_)
  · skip
    refine V.iconst (v := 0) dX9_undo_14 rfl rfl ?_
    refine V.ist_n dX9_undo_15 rfl (by decide) (L' := [(0, .ref 62), (1, .int 0)]) rfl rfl ?_
    rw [show pUndo c M = (rowG 63 64 116 0 M 63 0, rowG 63 64 116 0 M) from by rw [pUndo, if_neg c4]]
    dsimp only
    exact l_X9_undo 116 0 M rfl
  · skip
    refine V.aload_n dX9_undo_7 rfl rfl rfl ?_
    refine V.ldc (v := -1000004) dX9_undo_8 cn_X9_195 rfl ?_
    refine V.callv_i (M1 := fdM 3 M) (v := -1000004) (md' := m_X9_finds) (As := [.int (-1000004)]) (rest := []) dX9_undo_10 ml_X9_51 mo_X9_finds ⟨Nat.le_of_ble_eq_true rfl, Nat.le_of_ble_eq_true rfl⟩ rfl ⟨_, _, rfl⟩ (Nat.le_of_ble_eq_true rfl) rfl rfl (Nat.le_of_ble_eq_true rfl) (v_X9_finds (w := 3) (by decide) (-1000004) (by decide +kernel) _) rfl ?_
    exact V.ret dX9_undo_13 rfl rfl ⟨(by first | (simp (decide := true) [pUndo, c4]; done) | (simp (decide := true) [pUndo, c4]; done) | (simp (decide := true) [pUndo, c4]; done) | (simp_all (decide := true) [pUndo]; done) | (simp_all (decide := true) [pUndo, ltF, leF]; done)), (by first | (simp (decide := true) [pUndo, c4]; done) | (simp (decide := true) [pUndo, c4]; done) | (simp (decide := true) [pUndo, c4]; done) | (simp_all (decide := true) [pUndo]; done) | (simp_all (decide := true) [pUndo, ltF, leF]; done))⟩
def pTear (c : Nat) (M : Mem) : Int32 × Mem := (if M 62 4 = 0 then 0 else 1, ms M 62 4 0)
theorem v_X9_tear {c : Nat} (hc : c ≤ 10)  (M : Mem) (hM : M 63 1 = nI c) : V m_X9_tear 0 [(0, .ref 62)] [] M (RT (some (.int ((pTear c M).1))) ((pTear c M).2)) := by
  refine V.aload_n dX9_tear_0 rfl rfl rfl ?_
  refine V.geti (v := M 62 4) dX9_tear_1 fg_X9_337 rfl rfl rfl rfl ?_
  refine V.if_eq (tgt := 11) dX9_tear_4 rfl rfl (fun c4 => ?_) (fun c4 => ?_)
  · skip
    refine V.iconst (v := 0) dX9_tear_11 rfl rfl ?_
    refine V.ist_n dX9_tear_12 rfl (by decide) (L' := [(0, .ref 62), (1, .int 0)]) rfl rfl ?_
    refine V.aload_n dX9_tear_13 rfl rfl rfl ?_
    refine V.iconst (v := 0) dX9_tear_14 rfl rfl ?_
    refine V.puti dX9_tear_15 fp_X9_337 rfl rfl rfl rfl (M' := (ms M 62 4 0)) rfl rfl ?_
    refine V.iload_n dX9_tear_18 rfl rfl rfl ?_
    exact V.ret dX9_tear_19 rfl rfl ⟨(by first | (simp (decide := true) [pTear, c4]; done) | (simp (decide := true) [pTear, c4]; done) | (simp (decide := true) [pTear, c4]; done) | (simp_all (decide := true) [pTear]; done) | (simp_all (decide := true) [pTear, ltF, leF]; done)), (by first | (simp (decide := true) [pTear, c4]; done) | (simp (decide := true) [pTear, c4]; done) | (simp (decide := true) [pTear, c4]; done) | (simp_all (decide := true) [pTear]; done) | (simp_all (decide := true) [pTear, ltF, leF]; done))⟩
  · skip
    refine V.iconst (v := 1) dX9_tear_7 rfl rfl ?_
    refine V.goto (pc' := 12) dX9_tear_8 rfl ?_
    refine V.ist_n dX9_tear_12 rfl (by decide) (L' := [(0, .ref 62), (1, .int 1)]) rfl rfl ?_
    refine V.aload_n dX9_tear_13 rfl rfl rfl ?_
    refine V.iconst (v := 0) dX9_tear_14 rfl rfl ?_
    refine V.puti dX9_tear_15 fp_X9_337 rfl rfl rfl rfl (M' := (ms M 62 4 0)) rfl rfl ?_
    refine V.iload_n dX9_tear_18 rfl rfl rfl ?_
    exact V.ret dX9_tear_19 rfl rfl ⟨(by first | (simp (decide := true) [pTear, c4]; done) | (simp (decide := true) [pTear, c4]; done) | (simp (decide := true) [pTear, c4]; done) | (simp_all (decide := true) [pTear]; done) | (simp_all (decide := true) [pTear, ltF, leF]; done)), (by first | (simp (decide := true) [pTear, c4]; done) | (simp (decide := true) [pTear, c4]; done) | (simp (decide := true) [pTear, c4]; done) | (simp_all (decide := true) [pTear]; done) | (simp_all (decide := true) [pTear, ltF, leF]; done))⟩
def spF (M : Mem) : Nat → Int32 := fun k => M 63 (106 + k)
theorem l_X9_held (M : Mem) : ∀ (n i : Nat) (s : Int32), i + n = 10 → V m_X9_held 4 [(0, .ref 62), (1, .int s), (2, .int (nI i))] [] M (RT (some (.int (heldG (spF M) n i s))) M) := by
  intro n
  induction n with
  | zero =>
    intro i s hi
    refine V.iload_n dX9_held_4 rfl rfl rfl ?_
    refine V.bipush (v := 10) dX9_held_5 (by decide) rfl ?_
    refine V.icmp_ge (tgt := 36) dX9_held_7 rfl rfl (fun c7 => ?_) (fun c7 => absurd ((nI_leI (a := 10) (b := i) (by omega) (by omega)).mpr (by omega)) c7)
    have c7 : 10 ≤ i := (nI_leI (a := 10) (b := i) (by omega) (by omega)).mp c7
    refine V.iload_n dX9_held_36 rfl rfl rfl ?_
    exact V.ret dX9_held_37 rfl rfl ⟨(by simp only [heldG]), rfl⟩
  | succ n ih =>
    intro i s hi
    refine V.iload_n dX9_held_4 rfl rfl rfl ?_
    refine V.bipush (v := 10) dX9_held_5 (by decide) rfl ?_
    refine V.icmp_ge (tgt := 36) dX9_held_7 rfl rfl (fun c7 => absurd ((nI_leI (a := 10) (b := i) (by omega) (by omega)).mp c7) (by omega)) (fun c7 => ?_)
    have c7 : ¬ 10 ≤ i := fun zq => c7 ((nI_leI (a := 10) (b := i) (by omega) (by omega)).mpr zq)
    refine V.iload_n dX9_held_10 rfl rfl rfl ?_
    refine V.aload_n dX9_held_11 rfl rfl rfl ?_
    refine V.getr dX9_held_12 fg_X9_7 rfl rfl rfl ?_
    refine V.bipush (v := 106) dX9_held_15 (by decide) rfl ?_
    refine V.iload_n dX9_held_17 rfl rfl rfl ?_
    refine V.iadd (v := nI (106 + i)) dX9_held_18 (nI_add _ _) rfl ?_
    refine V.ialdN (j := 106 + i) (v := M 63 (106 + i)) dX9_held_19 rfl (by omega) (by decide) rfl rfl rfl ?_
    refine V.if_ge (tgt := 27) dX9_held_20 rfl rfl (fun c20 => ?_) (fun c20 => ?_)
    · skip
      refine V.iconst (v := 1) dX9_held_27 rfl rfl ?_
      refine V.iadd (v := s + 1) dX9_held_28 rfl rfl ?_
      refine V.ist_n dX9_held_29 rfl (by decide) (L' := [(0, .ref 62), (1, .int (s + 1)), (2, .int (nI i))]) rfl rfl ?_
      refine V.inc (v := nI (i + 1)) dX9_held_30 rfl (nI_1 _) (by decide) (L' := [(0, .ref 62), (1, .int (s + 1)), (2, .int (nI (i + 1)))]) rfl rfl ?_
      refine V.goto (pc' := 4) dX9_held_33 rfl ?_
      rw [show heldG (spF M) (n + 1) i s = heldG (spF M) n (i + 1) (s + 1) from by simp only [heldG]; rw [if_neg (show ¬ spF M i < 0 from Int32.not_lt.mpr c20)]]
      exact ih (i + 1) _ (by omega)
    · skip
      refine V.iconst (v := 0) dX9_held_23 rfl rfl ?_
      refine V.goto (pc' := 28) dX9_held_24 rfl ?_
      refine V.iadd (v := s + 0) dX9_held_28 rfl rfl ?_
      refine V.ist_n dX9_held_29 rfl (by decide) (L' := [(0, .ref 62), (1, .int (s + 0)), (2, .int (nI i))]) rfl rfl ?_
      refine V.inc (v := nI (i + 1)) dX9_held_30 rfl (nI_1 _) (by decide) (L' := [(0, .ref 62), (1, .int (s + 0)), (2, .int (nI (i + 1)))]) rfl rfl ?_
      refine V.goto (pc' := 4) dX9_held_33 rfl ?_
      rw [show heldG (spF M) (n + 1) i s = heldG (spF M) n (i + 1) (s + 0) from by simp only [heldG]; rw [if_pos (show spF M i < 0 from Int32.not_le.mp c20), Int32.add_zero]]
      exact ih (i + 1) _ (by omega)
theorem v_X9_held (M : Mem) : V m_X9_held 0 [(0, .ref 62)] [] M (RT (some (.int (heldG (spF M) 10 0 0))) M) := by
  refine V.iconst (v := 0) dX9_held_0 rfl rfl ?_
  refine V.ist_n dX9_held_1 rfl (by decide) (L' := [(0, .ref 62), (1, .int 0)]) rfl rfl ?_
  refine V.iconst (v := 0) dX9_held_2 rfl rfl ?_
  refine V.ist_n dX9_held_3 rfl (by decide) (L' := [(0, .ref 62), (1, .int 0), (2, .int 0)]) rfl rfl ?_
  exact l_X9_held M 10 0 0 rfl
theorem l_X9_bagsOfAll {c : Nat} (hc : c ≤ 10) (M : Mem) (hM : M 63 1 = nI c) : ∀ (n i : Nat) (s : Int32), i + n = c → V m_X9_bagsOfAll 4 [(0, .ref 62), (1, .int s), (2, .int (nI i))] [] M (RT (some (.int (sumG (col M 1) n i s))) M) := by
  intro n
  induction n with
  | zero =>
    intro i s hi
    refine V.iload_n dX9_bagsOfAll_4 rfl rfl rfl ?_
    refine V.aload_n dX9_bagsOfAll_5 rfl rfl rfl ?_
    refine V.getr dX9_bagsOfAll_6 fg_X9_7 rfl rfl rfl ?_
    refine V.iconst (v := 1) dX9_bagsOfAll_9 rfl rfl ?_
    refine V.ialdN (j := 1) (v := nI c) dX9_bagsOfAll_10 rfl (by decide) (by decide) rfl hM rfl ?_
    refine V.icmp_ge (tgt := 29) dX9_bagsOfAll_11 rfl rfl (fun c11 => ?_) (fun c11 => absurd ((nI_leI (a := c) (b := i) (by omega) (by omega)).mpr (by omega)) c11)
    have c11 : c ≤ i := (nI_leI (a := c) (b := i) (by omega) (by omega)).mp c11
    refine V.iload_n dX9_bagsOfAll_29 rfl rfl rfl ?_
    exact V.ret dX9_bagsOfAll_30 rfl rfl ⟨rfl, rfl⟩
  | succ n ih =>
    intro i s hi
    refine V.iload_n dX9_bagsOfAll_4 rfl rfl rfl ?_
    refine V.aload_n dX9_bagsOfAll_5 rfl rfl rfl ?_
    refine V.getr dX9_bagsOfAll_6 fg_X9_7 rfl rfl rfl ?_
    refine V.iconst (v := 1) dX9_bagsOfAll_9 rfl rfl ?_
    refine V.ialdN (j := 1) (v := nI c) dX9_bagsOfAll_10 rfl (by decide) (by decide) rfl hM rfl ?_
    refine V.icmp_ge (tgt := 29) dX9_bagsOfAll_11 rfl rfl (fun c11 => absurd ((nI_leI (a := c) (b := i) (by omega) (by omega)).mp c11) (by omega)) (fun c11 => ?_)
    have c11 : ¬ c ≤ i := fun zq => c11 ((nI_leI (a := c) (b := i) (by omega) (by omega)).mpr zq)
    refine V.iload_n dX9_bagsOfAll_14 rfl rfl rfl ?_
    refine V.aload_n dX9_bagsOfAll_15 rfl rfl rfl ?_
    refine V.iload_n dX9_bagsOfAll_16 rfl rfl rfl ?_
    refine V.iconst (v := 1) dX9_bagsOfAll_17 rfl rfl ?_
    refine V.callv_i (M1 := M) (v := M 63 (20 + 5 * i + 1)) (md' := m_X9_its) (As := [.int (nI i), .int 1]) (rest := [.int s]) dX9_bagsOfAll_18 ml_X9_60 mo_X9_its ⟨Nat.le_of_ble_eq_true rfl, Nat.le_of_ble_eq_true rfl⟩ rfl ⟨_, _, rfl⟩ (Nat.le_of_ble_eq_true rfl) rfl rfl (Nat.le_of_ble_eq_true rfl) (v_X9_its (b := i) (w := 1) (by omega) (by omega) _) rfl ?_
    refine V.iadd (v := s + (M 63 (20 + 5 * i + 1))) dX9_bagsOfAll_21 rfl rfl ?_
    refine V.ist_n dX9_bagsOfAll_22 rfl (by decide) (L' := [(0, .ref 62), (1, .int (s + (M 63 (20 + 5 * i + 1)))), (2, .int (nI i))]) rfl rfl ?_
    refine V.inc (v := nI (i + 1)) dX9_bagsOfAll_23 rfl (nI_1 _) (by decide) (L' := [(0, .ref 62), (1, .int (s + (M 63 (20 + 5 * i + 1)))), (2, .int (nI (i + 1)))]) rfl rfl ?_
    refine V.goto (pc' := 4) dX9_bagsOfAll_26 rfl ?_
    exact ih (i + 1) _ (by omega)
theorem v_X9_bagsOfAll {c : Nat} (hc : c ≤ 10) (M : Mem) (hM : M 63 1 = nI c) : V m_X9_bagsOfAll 0 [(0, .ref 62)] [] M (RT (some (.int (sumG (col M 1) c 0 0))) M) := by
  refine V.iconst (v := 0) dX9_bagsOfAll_0 rfl rfl ?_
  refine V.ist_n dX9_bagsOfAll_1 rfl (by decide) (L' := [(0, .ref 62), (1, .int 0)]) rfl rfl ?_
  refine V.iconst (v := 0) dX9_bagsOfAll_2 rfl rfl ?_
  refine V.ist_n dX9_bagsOfAll_3 rfl (by decide) (L' := [(0, .ref 62), (1, .int 0), (2, .int 0)]) rfl rfl ?_
  exact l_X9_bagsOfAll hc M hM c 0 0 (by omega)
theorem l_X9_peopleOfAll {cc : Nat} (hcc : cc ≤ 12) (M : Mem) (h2 : M 63 2 = nI cc) : ∀ (n i : Nat) (s : Int32), i + n = cc → V m_X9_peopleOfAll 4 [(0, .ref 62), (1, .int s), (2, .int (nI i))] [] M (RT (some (.int (sumG (cco M 2) n i s))) M) := by
  intro n
  induction n with
  | zero =>
    intro i s hi
    refine V.iload_n dX9_peopleOfAll_4 rfl rfl rfl ?_
    refine V.aload_n dX9_peopleOfAll_5 rfl rfl rfl ?_
    refine V.getr dX9_peopleOfAll_6 fg_X9_7 rfl rfl rfl ?_
    refine V.iconst (v := 2) dX9_peopleOfAll_9 rfl rfl ?_
    refine V.ialdN (j := 2) (v := nI cc) dX9_peopleOfAll_10 rfl (by decide) (by decide) rfl h2 rfl ?_
    refine V.icmp_ge (tgt := 29) dX9_peopleOfAll_11 rfl rfl (fun c11 => ?_) (fun c11 => absurd ((nI_leI (a := cc) (b := i) (by omega) (by omega)).mpr (by omega)) c11)
    have c11 : cc ≤ i := (nI_leI (a := cc) (b := i) (by omega) (by omega)).mp c11
    refine V.iload_n dX9_peopleOfAll_29 rfl rfl rfl ?_
    exact V.ret dX9_peopleOfAll_30 rfl rfl ⟨rfl, rfl⟩
  | succ n ih =>
    intro i s hi
    refine V.iload_n dX9_peopleOfAll_4 rfl rfl rfl ?_
    refine V.aload_n dX9_peopleOfAll_5 rfl rfl rfl ?_
    refine V.getr dX9_peopleOfAll_6 fg_X9_7 rfl rfl rfl ?_
    refine V.iconst (v := 2) dX9_peopleOfAll_9 rfl rfl ?_
    refine V.ialdN (j := 2) (v := nI cc) dX9_peopleOfAll_10 rfl (by decide) (by decide) rfl h2 rfl ?_
    refine V.icmp_ge (tgt := 29) dX9_peopleOfAll_11 rfl rfl (fun c11 => absurd ((nI_leI (a := cc) (b := i) (by omega) (by omega)).mp c11) (by omega)) (fun c11 => ?_)
    have c11 : ¬ cc ≤ i := fun zq => c11 ((nI_leI (a := cc) (b := i) (by omega) (by omega)).mpr zq)
    refine V.iload_n dX9_peopleOfAll_14 rfl rfl rfl ?_
    refine V.aload_n dX9_peopleOfAll_15 rfl rfl rfl ?_
    refine V.iload_n dX9_peopleOfAll_16 rfl rfl rfl ?_
    refine V.iconst (v := 2) dX9_peopleOfAll_17 rfl rfl ?_
    refine V.callv_i (M1 := M) (v := M 63 (70 + 3 * i + 2)) (md' := m_X9_told) (As := [.int (nI i), .int 2]) (rest := [.int s]) dX9_peopleOfAll_18 ml_X9_145 mo_X9_told ⟨Nat.le_of_ble_eq_true rfl, Nat.le_of_ble_eq_true rfl⟩ rfl ⟨_, _, rfl⟩ (Nat.le_of_ble_eq_true rfl) rfl rfl (Nat.le_of_ble_eq_true rfl) (v_X9_told (b := i) (w := 2) (by omega) (by omega) _) rfl ?_
    refine V.iadd (v := s + (M 63 (70 + 3 * i + 2))) dX9_peopleOfAll_21 rfl rfl ?_
    refine V.ist_n dX9_peopleOfAll_22 rfl (by decide) (L' := [(0, .ref 62), (1, .int (s + (M 63 (70 + 3 * i + 2)))), (2, .int (nI i))]) rfl rfl ?_
    refine V.inc (v := nI (i + 1)) dX9_peopleOfAll_23 rfl (nI_1 _) (by decide) (L' := [(0, .ref 62), (1, .int (s + (M 63 (70 + 3 * i + 2)))), (2, .int (nI (i + 1)))]) rfl rfl ?_
    refine V.goto (pc' := 4) dX9_peopleOfAll_26 rfl ?_
    exact ih (i + 1) _ (by omega)
theorem v_X9_peopleOfAll {cc : Nat} (hcc : cc ≤ 12) (M : Mem) (h2 : M 63 2 = nI cc) : V m_X9_peopleOfAll 0 [(0, .ref 62)] [] M (RT (some (.int (sumG (cco M 2) cc 0 0))) M) := by
  refine V.iconst (v := 0) dX9_peopleOfAll_0 rfl rfl ?_
  refine V.ist_n dX9_peopleOfAll_1 rfl (by decide) (L' := [(0, .ref 62), (1, .int 0)]) rfl rfl ?_
  refine V.iconst (v := 0) dX9_peopleOfAll_2 rfl rfl ?_
  refine V.ist_n dX9_peopleOfAll_3 rfl (by decide) (L' := [(0, .ref 62), (1, .int 0), (2, .int 0)]) rfl rfl ?_
  exact l_X9_peopleOfAll hcc M h2 cc 0 0 (by omega)
def pCount (c cc : Nat) (w : Int32) (M : Mem) : Int32 × Mem := (if w = 0 then (nI c, M) else if w = 1 then (nI cc, M) else if w = 2 then (sumG (col M 1) c 0 0, M) else if w = 3 then (sumG (cco M 2) cc 0 0, M) else if w = 4 then (M 63 5, M) else if w = 5 then (M 63 6, M) else if w = 6 then (M 62 6, M) else if w = 7 then (M 63 3, M) else if w = 8 then (heldG (spF M) 10 0 0, M) else (-1000001, fdM 0 M))
theorem v_X9_count {c : Nat} (hc : c ≤ 10) {cc : Nat} (hcc : cc ≤ 12) (w : Int32) (M : Mem) (hM : M 63 1 = nI c) (h2 : M 63 2 = nI cc) : V m_X9_count 0 [(0, .ref 62), (1, .int w)] [] M (RT (some (.int ((pCount c cc w M).1))) ((pCount c cc w M).2)) := by
  refine V.iload_n dX9_count_0 rfl rfl rfl ?_
  by_cases s1_0 : w = 0
  · refine V.tabIn (pc' := 52) dX9_count_1 (by rw [s1_0]; decide) (by rw [s1_0]; decide) (by rw [s1_0]; rfl) rfl ?_
    refine V.aload_n dX9_count_52 rfl rfl rfl ?_
    refine V.getr dX9_count_53 fg_X9_7 rfl rfl rfl ?_
    refine V.iconst (v := 1) dX9_count_56 rfl rfl ?_
    refine V.ialdN (j := 1) (v := nI c) dX9_count_57 rfl (by decide) (by decide) rfl hM rfl ?_
    exact V.ret dX9_count_58 rfl rfl ⟨(by first | (simp (decide := true) [pCount, s1_0]; done) | (simp (decide := true) [pCount, s1_0]; done) | (simp (decide := true) [pCount, s1_0]; done) | (simp_all (decide := true) [pCount]; done) | (simp_all (decide := true) [pCount, ltF, leF]; done)), (by first | (simp (decide := true) [pCount, s1_0]; done) | (simp (decide := true) [pCount, s1_0]; done) | (simp (decide := true) [pCount, s1_0]; done) | (simp_all (decide := true) [pCount]; done) | (simp_all (decide := true) [pCount, ltF, leF]; done))⟩
  by_cases s1_1 : w = 1
  · refine V.tabIn (pc' := 59) dX9_count_1 (by rw [s1_1]; decide) (by rw [s1_1]; decide) (by rw [s1_1]; rfl) rfl ?_
    refine V.aload_n dX9_count_59 rfl rfl rfl ?_
    refine V.getr dX9_count_60 fg_X9_7 rfl rfl rfl ?_
    refine V.iconst (v := 2) dX9_count_63 rfl rfl ?_
    refine V.ialdN (j := 2) (v := nI cc) dX9_count_64 rfl (by decide) (by decide) rfl h2 rfl ?_
    exact V.ret dX9_count_65 rfl rfl ⟨(by first | (simp (decide := true) [pCount, s1_1]; done) | (simp (decide := true) [pCount, s1_1]; done) | (simp (decide := true) [pCount, s1_1]; done) | (simp_all (decide := true) [pCount]; done) | (simp_all (decide := true) [pCount, ltF, leF]; done)), (by first | (simp (decide := true) [pCount, s1_1]; done) | (simp (decide := true) [pCount, s1_1]; done) | (simp (decide := true) [pCount, s1_1]; done) | (simp_all (decide := true) [pCount]; done) | (simp_all (decide := true) [pCount, ltF, leF]; done))⟩
  by_cases s1_2 : w = 2
  · refine V.tabIn (pc' := 66) dX9_count_1 (by rw [s1_2]; decide) (by rw [s1_2]; decide) (by rw [s1_2]; rfl) rfl ?_
    refine V.aload_n dX9_count_66 rfl rfl rfl ?_
    refine V.callv_i (M1 := M) (v := sumG (col M 1) c 0 0) (md' := m_X9_bagsOfAll) (As := []) (rest := []) dX9_count_67 ml_X9_340 mo_X9_bagsOfAll ⟨Nat.le_of_ble_eq_true rfl, Nat.le_of_ble_eq_true rfl⟩ rfl ⟨_, _, rfl⟩ (Nat.le_of_ble_eq_true rfl) rfl rfl (Nat.le_of_ble_eq_true rfl) (v_X9_bagsOfAll hc M hM) rfl ?_
    exact V.ret dX9_count_70 rfl rfl ⟨(by first | (simp (decide := true) [pCount, s1_2]; done) | (simp (decide := true) [pCount, s1_2]; done) | (simp (decide := true) [pCount, s1_2]; done) | (simp_all (decide := true) [pCount]; done) | (simp_all (decide := true) [pCount, ltF, leF]; done)), (by first | (simp (decide := true) [pCount, s1_2]; done) | (simp (decide := true) [pCount, s1_2]; done) | (simp (decide := true) [pCount, s1_2]; done) | (simp_all (decide := true) [pCount]; done) | (simp_all (decide := true) [pCount, ltF, leF]; done))⟩
  by_cases s1_3 : w = 3
  · refine V.tabIn (pc' := 71) dX9_count_1 (by rw [s1_3]; decide) (by rw [s1_3]; decide) (by rw [s1_3]; rfl) rfl ?_
    refine V.aload_n dX9_count_71 rfl rfl rfl ?_
    refine V.callv_i (M1 := M) (v := sumG (cco M 2) cc 0 0) (md' := m_X9_peopleOfAll) (As := []) (rest := []) dX9_count_72 ml_X9_343 mo_X9_peopleOfAll ⟨Nat.le_of_ble_eq_true rfl, Nat.le_of_ble_eq_true rfl⟩ rfl ⟨_, _, rfl⟩ (Nat.le_of_ble_eq_true rfl) rfl rfl (Nat.le_of_ble_eq_true rfl) (v_X9_peopleOfAll hcc M h2) rfl ?_
    exact V.ret dX9_count_75 rfl rfl ⟨(by first | (simp (decide := true) [pCount, s1_3]; done) | (simp (decide := true) [pCount, s1_3]; done) | (simp (decide := true) [pCount, s1_3]; done) | (simp_all (decide := true) [pCount]; done) | (simp_all (decide := true) [pCount, ltF, leF]; done)), (by first | (simp (decide := true) [pCount, s1_3]; done) | (simp (decide := true) [pCount, s1_3]; done) | (simp (decide := true) [pCount, s1_3]; done) | (simp_all (decide := true) [pCount]; done) | (simp_all (decide := true) [pCount, ltF, leF]; done))⟩
  by_cases s1_4 : w = 4
  · refine V.tabIn (pc' := 76) dX9_count_1 (by rw [s1_4]; decide) (by rw [s1_4]; decide) (by rw [s1_4]; rfl) rfl ?_
    refine V.aload_n dX9_count_76 rfl rfl rfl ?_
    refine V.getr dX9_count_77 fg_X9_7 rfl rfl rfl ?_
    refine V.iconst (v := 5) dX9_count_80 rfl rfl ?_
    refine V.ialdN (j := 5) (v := M 63 5) dX9_count_81 rfl (by decide) (by decide) rfl rfl rfl ?_
    exact V.ret dX9_count_82 rfl rfl ⟨(by first | (simp (decide := true) [pCount, s1_4]; done) | (simp (decide := true) [pCount, s1_4]; done) | (simp (decide := true) [pCount, s1_4]; done) | (simp_all (decide := true) [pCount]; done) | (simp_all (decide := true) [pCount, ltF, leF]; done)), (by first | (simp (decide := true) [pCount, s1_4]; done) | (simp (decide := true) [pCount, s1_4]; done) | (simp (decide := true) [pCount, s1_4]; done) | (simp_all (decide := true) [pCount]; done) | (simp_all (decide := true) [pCount, ltF, leF]; done))⟩
  by_cases s1_5 : w = 5
  · refine V.tabIn (pc' := 83) dX9_count_1 (by rw [s1_5]; decide) (by rw [s1_5]; decide) (by rw [s1_5]; rfl) rfl ?_
    refine V.aload_n dX9_count_83 rfl rfl rfl ?_
    refine V.getr dX9_count_84 fg_X9_7 rfl rfl rfl ?_
    refine V.bipush (v := 6) dX9_count_87 (by decide) rfl ?_
    refine V.ialdN (j := 6) (v := M 63 6) dX9_count_89 rfl (by decide) (by decide) rfl rfl rfl ?_
    exact V.ret dX9_count_90 rfl rfl ⟨(by first | (simp (decide := true) [pCount, s1_5]; done) | (simp (decide := true) [pCount, s1_5]; done) | (simp (decide := true) [pCount, s1_5]; done) | (simp_all (decide := true) [pCount]; done) | (simp_all (decide := true) [pCount, ltF, leF]; done)), (by first | (simp (decide := true) [pCount, s1_5]; done) | (simp (decide := true) [pCount, s1_5]; done) | (simp (decide := true) [pCount, s1_5]; done) | (simp_all (decide := true) [pCount]; done) | (simp_all (decide := true) [pCount, ltF, leF]; done))⟩
  by_cases s1_6 : w = 6
  · refine V.tabIn (pc' := 91) dX9_count_1 (by rw [s1_6]; decide) (by rw [s1_6]; decide) (by rw [s1_6]; rfl) rfl ?_
    refine V.aload_n dX9_count_91 rfl rfl rfl ?_
    refine V.geti (v := M 62 6) dX9_count_92 fg_X9_218 rfl rfl rfl rfl ?_
    exact V.ret dX9_count_95 rfl rfl ⟨(by first | (simp (decide := true) [pCount, s1_6]; done) | (simp (decide := true) [pCount, s1_6]; done) | (simp (decide := true) [pCount, s1_6]; done) | (simp_all (decide := true) [pCount]; done) | (simp_all (decide := true) [pCount, ltF, leF]; done)), (by first | (simp (decide := true) [pCount, s1_6]; done) | (simp (decide := true) [pCount, s1_6]; done) | (simp (decide := true) [pCount, s1_6]; done) | (simp_all (decide := true) [pCount]; done) | (simp_all (decide := true) [pCount, ltF, leF]; done))⟩
  by_cases s1_7 : w = 7
  · refine V.tabIn (pc' := 96) dX9_count_1 (by rw [s1_7]; decide) (by rw [s1_7]; decide) (by rw [s1_7]; rfl) rfl ?_
    refine V.aload_n dX9_count_96 rfl rfl rfl ?_
    refine V.getr dX9_count_97 fg_X9_7 rfl rfl rfl ?_
    refine V.iconst (v := 3) dX9_count_100 rfl rfl ?_
    refine V.ialdN (j := 3) (v := M 63 3) dX9_count_101 rfl (by decide) (by decide) rfl rfl rfl ?_
    exact V.ret dX9_count_102 rfl rfl ⟨(by first | (simp (decide := true) [pCount, s1_7]; done) | (simp (decide := true) [pCount, s1_7]; done) | (simp (decide := true) [pCount, s1_7]; done) | (simp_all (decide := true) [pCount]; done) | (simp_all (decide := true) [pCount, ltF, leF]; done)), (by first | (simp (decide := true) [pCount, s1_7]; done) | (simp (decide := true) [pCount, s1_7]; done) | (simp (decide := true) [pCount, s1_7]; done) | (simp_all (decide := true) [pCount]; done) | (simp_all (decide := true) [pCount, ltF, leF]; done))⟩
  by_cases s1_8 : w = 8
  · refine V.tabIn (pc' := 103) dX9_count_1 (by rw [s1_8]; decide) (by rw [s1_8]; decide) (by rw [s1_8]; rfl) rfl ?_
    refine V.aload_n dX9_count_103 rfl rfl rfl ?_
    refine V.callv_i (M1 := M) (v := heldG (spF M) 10 0 0) (md' := m_X9_held) (As := []) (rest := []) dX9_count_104 ml_X9_346 mo_X9_held ⟨Nat.le_of_ble_eq_true rfl, Nat.le_of_ble_eq_true rfl⟩ rfl ⟨_, _, rfl⟩ (Nat.le_of_ble_eq_true rfl) rfl rfl (Nat.le_of_ble_eq_true rfl) (v_X9_held M) rfl ?_
    exact V.ret dX9_count_107 rfl rfl ⟨(by first | (simp (decide := true) [pCount, s1_8]; done) | (simp (decide := true) [pCount, s1_8]; done) | (simp (decide := true) [pCount, s1_8]; done) | (simp_all (decide := true) [pCount]; done) | (simp_all (decide := true) [pCount, ltF, leF]; done)), (by first | (simp (decide := true) [pCount, s1_8]; done) | (simp (decide := true) [pCount, s1_8]; done) | (simp (decide := true) [pCount, s1_8]; done) | (simp_all (decide := true) [pCount]; done) | (simp_all (decide := true) [pCount, ltF, leF]; done))⟩
  refine V.tabOut (pc' := 108) dX9_count_1 (by have q0 := lv_neT (a := 0) s1_0 rfl; have q1 := lv_neT (a := 1) s1_1 rfl; have q2 := lv_neT (a := 2) s1_2 rfl; have q3 := lv_neT (a := 3) s1_3 rfl; have q4 := lv_neT (a := 4) s1_4 rfl; have q5 := lv_neT (a := 5) s1_5 rfl; have q6 := lv_neT (a := 6) s1_6 rfl; have q7 := lv_neT (a := 7) s1_7 rfl; have q8 := lv_neT (a := 8) s1_8 rfl; omega) rfl ?_
  refine V.aload_n dX9_count_108 rfl rfl rfl ?_
  refine V.ldc (v := -1000001) dX9_count_109 cn_X9_37 rfl ?_
  refine V.callv_i (M1 := fdM 0 M) (v := -1000001) (md' := m_X9_finds) (As := [.int (-1000001)]) (rest := []) dX9_count_111 ml_X9_51 mo_X9_finds ⟨Nat.le_of_ble_eq_true rfl, Nat.le_of_ble_eq_true rfl⟩ rfl ⟨_, _, rfl⟩ (Nat.le_of_ble_eq_true rfl) rfl rfl (Nat.le_of_ble_eq_true rfl) (v_X9_finds (w := 0) (by decide) (-1000001) (by decide +kernel) _) rfl ?_
  exact V.ret dX9_count_114 rfl rfl ⟨(by first | (simp (decide := true) [pCount, s1_0, s1_1, s1_2, s1_3, s1_4, s1_5, s1_6, s1_7, s1_8]; done) | (simp (decide := true) [pCount, s1_0, s1_1, s1_2, s1_3, s1_4, s1_5, s1_6, s1_7, s1_8]; done) | (simp (decide := true) [pCount, s1_0, s1_1, s1_2, s1_3, s1_4, s1_5, s1_6, s1_7, s1_8]; done) | (simp_all (decide := true) [pCount]; done) | (simp_all (decide := true) [pCount, ltF, leF]; done)), (by first | (simp (decide := true) [pCount, s1_0, s1_1, s1_2, s1_3, s1_4, s1_5, s1_6, s1_7, s1_8]; done) | (simp (decide := true) [pCount, s1_0, s1_1, s1_2, s1_3, s1_4, s1_5, s1_6, s1_7, s1_8]; done) | (simp (decide := true) [pCount, s1_0, s1_1, s1_2, s1_3, s1_4, s1_5, s1_6, s1_7, s1_8]; done) | (simp_all (decide := true) [pCount]; done) | (simp_all (decide := true) [pCount, ltF, leF]; done))⟩
def staG (w : Int32) (f : Nat → Int32) : Nat → Nat → Int32 → Int32
  | 0, _, s => s
  | n + 1, i, s => staG w f n (i + 1) (if w < 0 ∨ nI i = w then s + f i else s)
theorem l_X9_status (w : Int32) (M : Mem) : ∀ (n i : Nat) (s : Int32), i + n = 7 → V m_X9_status 25 [(0, .ref 62), (1, .int w), (2, .int s), (3, .int (nI i))] [] M (RT (some (.int (staG w (M 66) n i s))) M) := by
  intro n
  induction n with
  | zero =>
    intro i s hi
    refine V.iload_n dX9_status_25 rfl rfl rfl ?_
    refine V.bipush (v := 7) dX9_status_26 (by decide) rfl ?_
    refine V.icmp_ge (tgt := 59) dX9_status_28 rfl rfl (fun c28 => ?_) (fun c28 => absurd ((nI_leI (a := 7) (b := i) (by omega) (by omega)).mpr (by omega)) c28)
    have c28 : 7 ≤ i := (nI_leI (a := 7) (b := i) (by omega) (by omega)).mp c28
    refine V.iload_n dX9_status_59 rfl rfl rfl ?_
    exact V.ret dX9_status_60 rfl rfl ⟨rfl, rfl⟩
  | succ n ih =>
    intro i s hi
    refine V.iload_n dX9_status_25 rfl rfl rfl ?_
    refine V.bipush (v := 7) dX9_status_26 (by decide) rfl ?_
    refine V.icmp_ge (tgt := 59) dX9_status_28 rfl rfl (fun c28 => absurd ((nI_leI (a := 7) (b := i) (by omega) (by omega)).mp c28) (by omega)) (fun c28 => ?_)
    have c28 : ¬ 7 ≤ i := fun zq => c28 ((nI_leI (a := 7) (b := i) (by omega) (by omega)).mpr zq)
    refine V.iload_n dX9_status_31 rfl rfl rfl ?_
    refine V.iload_n dX9_status_32 rfl rfl rfl ?_
    refine V.if_lt (tgt := 41) dX9_status_33 rfl rfl (fun c33 => ?_) (fun c33 => ?_)
    · skip
      refine V.aload_n dX9_status_41 rfl rfl rfl ?_
      refine V.getr dX9_status_42 fg_X9_19 rfl rfl rfl ?_
      refine V.iload_n dX9_status_45 rfl rfl rfl ?_
      refine V.ialdN (j := i) (v := M 66 i) dX9_status_46 rfl (by omega) (by decide) rfl rfl rfl ?_
      refine V.goto (pc' := 51) dX9_status_47 rfl ?_
      refine V.iadd (v := s + (M 66 i)) dX9_status_51 rfl rfl ?_
      refine V.ist_n dX9_status_52 rfl (by decide) (L' := [(0, .ref 62), (1, .int w), (2, .int (s + (M 66 i))), (3, .int (nI i))]) rfl rfl ?_
      refine V.inc (v := nI (i + 1)) dX9_status_53 rfl (nI_1 _) (by decide) (L' := [(0, .ref 62), (1, .int w), (2, .int (s + (M 66 i))), (3, .int (nI (i + 1)))]) rfl rfl ?_
      refine V.goto (pc' := 25) dX9_status_56 rfl ?_
      rw [show staG w (M 66) (n + 1) i s = staG w (M 66) n (i + 1) (s + (M 66 i)) from by simp only [staG]; rw [if_pos (Or.inl c33)]]
      exact ih (i + 1) _ (by omega)
    · skip
      refine V.iload_n dX9_status_36 rfl rfl rfl ?_
      refine V.iload_n dX9_status_37 rfl rfl rfl ?_
      refine V.icmp_ne (tgt := 50) dX9_status_38 rfl rfl (fun c38 => ?_) (fun c38 => ?_)
      · skip
        refine V.iconst (v := 0) dX9_status_50 rfl rfl ?_
        refine V.iadd (v := s + 0) dX9_status_51 rfl rfl ?_
        refine V.ist_n dX9_status_52 rfl (by decide) (L' := [(0, .ref 62), (1, .int w), (2, .int (s + 0)), (3, .int (nI i))]) rfl rfl ?_
        refine V.inc (v := nI (i + 1)) dX9_status_53 rfl (nI_1 _) (by decide) (L' := [(0, .ref 62), (1, .int w), (2, .int (s + 0)), (3, .int (nI (i + 1)))]) rfl rfl ?_
        refine V.goto (pc' := 25) dX9_status_56 rfl ?_
        rw [show staG w (M 66) (n + 1) i s = staG w (M 66) n (i + 1) (s + 0) from by simp only [staG]; rw [if_neg (fun q => q.elim c33 c38), Int32.add_zero]]
        exact ih (i + 1) _ (by omega)
      · skip
        refine V.aload_n dX9_status_41 rfl rfl rfl ?_
        refine V.getr dX9_status_42 fg_X9_19 rfl rfl rfl ?_
        refine V.iload_n dX9_status_45 rfl rfl rfl ?_
        refine V.ialdN (j := i) (v := M 66 i) dX9_status_46 rfl (by omega) (by decide) rfl rfl rfl ?_
        refine V.goto (pc' := 51) dX9_status_47 rfl ?_
        refine V.iadd (v := s + (M 66 i)) dX9_status_51 rfl rfl ?_
        refine V.ist_n dX9_status_52 rfl (by decide) (L' := [(0, .ref 62), (1, .int w), (2, .int (s + (M 66 i))), (3, .int (nI i))]) rfl rfl ?_
        refine V.inc (v := nI (i + 1)) dX9_status_53 rfl (nI_1 _) (by decide) (L' := [(0, .ref 62), (1, .int w), (2, .int (s + (M 66 i))), (3, .int (nI (i + 1)))]) rfl rfl ?_
        refine V.goto (pc' := 25) dX9_status_56 rfl ?_
        rw [show staG w (M 66) (n + 1) i s = staG w (M 66) n (i + 1) (s + (M 66 i)) from by simp only [staG]; rw [if_pos (Or.inr c38)]]
        exact ih (i + 1) _ (by omega)
def pStatus (c : Nat) (w : Int32) (M : Mem) : Int32 × Mem := if ¬ rng (-1) 6 w then (-1000001, fdM 0 M) else (staG w (M 66) 7 0 0, M)
theorem v_X9_status {c : Nat} (hc : c ≤ 10) (w : Int32) (M : Mem) (hM : M 63 1 = nI c) : V m_X9_status 0 [(0, .ref 62), (1, .int w)] [] M (RT (some (.int ((pStatus c w M).1))) ((pStatus c w M).2)) := by
  refine V.iload_n dX9_status_0 rfl rfl rfl ?_
  refine V.i2l (v := Int32.toInt64 w) dX9_status_1 rfl rfl ?_
  refine V.ldc2 (v := -1) dX9_status_2 cl_X9_349 rfl ?_
  refine V.ldc2 (v := 6) dX9_status_5 cl_X9_49 rfl ?_
  refine V.calls_i (M1 := M) (v := if rng (-1) 6 w then 1 else 0) (md' := m_X9_in) (As := [.long (Int32.toInt64 w), .long (-1), .long 6]) (rest := []) dX9_status_8 ml_X9_38 mo_X9_in ⟨Nat.le_of_ble_eq_true rfl, Nat.le_of_ble_eq_true rfl⟩ (Nat.le_of_ble_eq_true rfl) rfl rfl (Nat.le_of_ble_eq_true rfl) (v_X9_in (x := w) (a := -1) (b := 6) rfl rfl _) rfl ?_
  refine V.ifb_ne (tgt := 21) dX9_status_11 rfl rfl (fun c11 => ?_) (fun c11 => ?_)
  · skip
    refine V.iconst (v := 0) dX9_status_21 rfl rfl ?_
    refine V.ist_n dX9_status_22 rfl (by decide) (L' := [(0, .ref 62), (1, .int w), (2, .int 0)]) rfl rfl ?_
    refine V.iconst (v := 0) dX9_status_23 rfl rfl ?_
    refine V.ist_n dX9_status_24 rfl (by decide) (L' := [(0, .ref 62), (1, .int w), (2, .int 0), (3, .int 0)]) rfl rfl ?_
    rw [show pStatus c w M = (staG w (M 66) 7 0 0, M) from by simp [pStatus, c11]]
    exact l_X9_status w M 7 0 0 rfl
  · skip
    refine V.aload_n dX9_status_14 rfl rfl rfl ?_
    refine V.ldc (v := -1000001) dX9_status_15 cn_X9_37 rfl ?_
    refine V.callv_i (M1 := fdM 0 M) (v := -1000001) (md' := m_X9_finds) (As := [.int (-1000001)]) (rest := []) dX9_status_17 ml_X9_51 mo_X9_finds ⟨Nat.le_of_ble_eq_true rfl, Nat.le_of_ble_eq_true rfl⟩ rfl ⟨_, _, rfl⟩ (Nat.le_of_ble_eq_true rfl) rfl rfl (Nat.le_of_ble_eq_true rfl) (v_X9_finds (w := 0) (by decide) (-1000001) (by decide +kernel) _) rfl ?_
    exact V.ret dX9_status_20 rfl rfl ⟨(by first | (simp (decide := true) [pStatus, c11]; done) | (simp (decide := true) [pStatus, c11]; done) | (simp (decide := true) [pStatus, c11]; done) | (simp_all (decide := true) [pStatus]; done) | (simp_all (decide := true) [pStatus, ltF, leF]; done)), (by first | (simp (decide := true) [pStatus, c11]; done) | (simp (decide := true) [pStatus, c11]; done) | (simp (decide := true) [pStatus, c11]; done) | (simp_all (decide := true) [pStatus]; done) | (simp_all (decide := true) [pStatus, ltF, leF]; done))⟩
def boyP (c : Nat) (M : Mem) : Int32 := let z := drawF (M 63 3 * 1103515245 + 12345); z - z / nI c * nI c
def boyM (c : Nat) (M : Mem) : Bool × Mem := if M 63 (20 + 5 * (boyP c M).toNatClampNeg + 4) = 3 ∧ 0 < M 63 (20 + 5 * (boyP c M).toNatClampNeg + 1) then (true, ms (mDrawM M) 63 (20 + 5 * (boyP c M).toNatClampNeg + 1) (M 63 (20 + 5 * (boyP c M).toNatClampNeg + 1) - 1)) else (false, mDrawM M)
def boyG (c : Nat) : Nat → Int32 → Mem → Int32 × Mem
  | 0, s, M => (s, M)
  | n + 1, s, M => boyG c n (if (boyM c M).1 then s + 1 else s) (boyM c M).2
theorem draw_nat (z : Int32) : ∃ k, k < 2 ^ 24 ∧ drawF z = nI k := by
  refine ⟨z.toUInt32.toNat / 2 ^ 8, by have := z.toUInt32.toNat_lt; omega, ?_⟩
  apply Int32.toInt_inj.mp
  rw [nI_toInt (by have := z.toUInt32.toNat_lt; omega)]
  unfold drawF
  have e : (z.toUInt32 >>> (Int32.toUInt32 8 &&& Int32.toUInt32 31)).toNat = z.toUInt32.toNat / 2 ^ 8 := by
    rw [UInt32.toNat_shiftRight, show (Int32.toUInt32 8 &&& Int32.toUInt32 31).toNat % 32 = 8 from by decide, Nat.shiftRight_eq_div_pow]
  have h : (z.toUInt32 >>> (Int32.toUInt32 8 &&& Int32.toUInt32 31)).toNat < 2 ^ 31 := by rw [e]; have := z.toUInt32.toNat_lt; omega
  rw [← e]
  generalize (z.toUInt32 >>> (Int32.toUInt32 8 &&& Int32.toUInt32 31)) = u at h
  show u.toBitVec.toInt = _
  rw [BitVec.toInt_eq_toNat_of_lt (by show 2 * u.toNat < 2 ^ 32; omega)]
  rfl
theorem boy_lt {c : Nat} (hc0 : 0 < c) (hc : c ≤ 10) (M : Mem) : ∃ b, b < c ∧ boyP c M = nI b := by
  obtain ⟨k, hk, e⟩ := draw_nat (M 63 3 * 1103515245 + 12345)
  exact ⟨k % c, Nat.mod_lt _ hc0, by show drawF (M 63 3 * 1103515245 + 12345) - drawF (M 63 3 * 1103515245 + 12345) / nI c * nI c = _; rw [e]; exact pk_rem (by omega) hc0 (by omega)⟩
theorem l_X9_boys {c : Nat} (hc0 : 0 < c) (hc : c ≤ 10) {k : Nat} (hk : k ≤ 12) : ∀ (n i : Nat) (s : Int32) (M : Mem), M 63 1 = nI c → i + n = k → V m_X9_boys 39 [(0, .ref 62), (1, .int (nI k)), (2, .int s), (3, .int (nI i))] [] M (RT (some (.int ((boyG c n s M).1))) ((boyG c n s M).2)) := by
  intro n
  induction n with
  | zero =>
    intro i s M hM hi
    obtain ⟨b, hb, hbb⟩ := boy_lt hc0 hc M
    have ebb : (nI b).toNatClampNeg = b := nI_clamp (by omega)
    refine V.iload_n dX9_boys_39 rfl rfl rfl ?_
    refine V.iload_n dX9_boys_40 rfl rfl rfl ?_
    refine V.icmp_ge (tgt := 102) dX9_boys_41 rfl rfl (fun c41 => ?_) (fun c41 => absurd ((nI_leI (a := k) (b := i) (by omega) (by omega)).mpr (by omega)) c41)
    have c41 : k ≤ i := (nI_leI (a := k) (b := i) (by omega) (by omega)).mp c41
    refine V.iload_n dX9_boys_102 rfl rfl rfl ?_
    exact V.ret dX9_boys_103 rfl rfl ⟨rfl, rfl⟩
  | succ n ih =>
    intro i s M hM hi
    obtain ⟨b, hb, hbb⟩ := boy_lt hc0 hc M
    have ebb : (nI b).toNatClampNeg = b := nI_clamp (by omega)
    refine V.iload_n dX9_boys_39 rfl rfl rfl ?_
    refine V.iload_n dX9_boys_40 rfl rfl rfl ?_
    refine V.icmp_ge (tgt := 102) dX9_boys_41 rfl rfl (fun c41 => absurd ((nI_leI (a := k) (b := i) (by omega) (by omega)).mp c41) (by omega)) (fun c41 => ?_)
    have c41 : ¬ k ≤ i := fun zq => c41 ((nI_leI (a := k) (b := i) (by omega) (by omega)).mpr zq)
    refine V.aload_n dX9_boys_44 rfl rfl rfl ?_
    refine V.callv_i (M1 := mDrawM M) (v := drawF (M 63 3 * 1103515245 + 12345)) (md' := m_X9_draw) (As := []) (rest := []) dX9_boys_45 ml_X9_215 mo_X9_draw ⟨Nat.le_of_ble_eq_true rfl, Nat.le_of_ble_eq_true rfl⟩ rfl ⟨_, _, rfl⟩ (Nat.le_of_ble_eq_true rfl) rfl rfl (Nat.le_of_ble_eq_true rfl) (v_X9_draw M) rfl ?_
    refine V.aload_n dX9_boys_48 rfl rfl rfl ?_
    refine V.getr dX9_boys_49 fg_X9_7 rfl rfl rfl ?_
    refine V.iconst (v := 1) dX9_boys_52 rfl rfl ?_
    refine V.ialdN (j := 1) (v := nI c) dX9_boys_53 rfl (by decide) (by decide) rfl (by rw [mDrawM, ms_j (by decide)]; exact hM) rfl ?_
    refine V.irem (v := nI b) dX9_boys_54 (by exact fun q => absurd ((nI_eq (a := c) (b := 0) (by omega) (by decide)).mp q) (by omega)) (by rw [← hbb]; rfl) rfl ?_
    refine V.ist dX9_boys_55 (by decide) (L' := [(0, .ref 62), (1, .int (nI k)), (2, .int s), (3, .int (nI i)), (4, .int (nI b))]) rfl rfl ?_
    refine V.aload_n dX9_boys_57 rfl rfl rfl ?_
    refine V.iload dX9_boys_58 rfl rfl ?_
    refine V.iconst (v := 4) dX9_boys_60 rfl rfl ?_
    refine V.callv_i (M1 := mDrawM M) (v := M 63 (20 + 5 * b + 4)) (md' := m_X9_its) (As := [.int (nI b), .int 4]) (rest := []) dX9_boys_61 ml_X9_60 mo_X9_its ⟨Nat.le_of_ble_eq_true rfl, Nat.le_of_ble_eq_true rfl⟩ rfl ⟨_, _, rfl⟩ (Nat.le_of_ble_eq_true rfl) rfl rfl (Nat.le_of_ble_eq_true rfl) (by rw [show M 63 (20 + 5 * b + 4) = mDrawM M 63 (20 + 5 * b + 4) from by rw [mDrawM, ms_j (by omega)]]; exact v_X9_its (b := b) (w := 4) (by omega) (by omega) _) rfl ?_
    refine V.iconst (v := 3) dX9_boys_64 rfl rfl ?_
    refine V.icmp_ne (tgt := 96) dX9_boys_65 rfl rfl (fun c65 => ?_) (fun c65 => ?_)
    · skip
      refine V.inc (v := nI (i + 1)) dX9_boys_96 rfl (nI_1 _) (by decide) (L' := [(0, .ref 62), (1, .int (nI k)), (2, .int s), (3, .int (nI (i + 1))), (4, .int (nI b))]) rfl rfl ?_
      refine V.goto (pc' := 39) dX9_boys_99 rfl ?_
      refine V.loc (L' := [(0, .ref 62), (1, .int (nI k)), (2, .int s), (3, .int (nI (i + 1)))]) (fun zq zh => List.mem_append_left [(4, Value.int (nI b))] zh) ?_
      have e1 : boyM c M = (false, mDrawM M) := by rw [boyM, hbb, ebb]; exact if_neg (fun q => c65 q.1)
      rw [show boyG c (n + 1) s M = boyG c n s (mDrawM M) from by simp only [boyG]; rw [e1]; rfl]
      exact ih (i + 1) _ _ (by simp (disch := omega) only [mDrawM, ms_j]; exact hM) (by omega)
    · skip
      refine V.aload_n dX9_boys_68 rfl rfl rfl ?_
      refine V.iload dX9_boys_69 rfl rfl ?_
      refine V.iconst (v := 1) dX9_boys_71 rfl rfl ?_
      refine V.callv_i (M1 := mDrawM M) (v := M 63 (20 + 5 * b + 1)) (md' := m_X9_its) (As := [.int (nI b), .int 1]) (rest := []) dX9_boys_72 ml_X9_60 mo_X9_its ⟨Nat.le_of_ble_eq_true rfl, Nat.le_of_ble_eq_true rfl⟩ rfl ⟨_, _, rfl⟩ (Nat.le_of_ble_eq_true rfl) rfl rfl (Nat.le_of_ble_eq_true rfl) (by rw [show M 63 (20 + 5 * b + 1) = mDrawM M 63 (20 + 5 * b + 1) from by rw [mDrawM, ms_j (by omega)]]; exact v_X9_its (b := b) (w := 1) (by omega) (by omega) _) rfl ?_
      refine V.if_le (tgt := 96) dX9_boys_75 rfl rfl (fun c75 => ?_) (fun c75 => ?_)
      · skip
        refine V.inc (v := nI (i + 1)) dX9_boys_96 rfl (nI_1 _) (by decide) (L' := [(0, .ref 62), (1, .int (nI k)), (2, .int s), (3, .int (nI (i + 1))), (4, .int (nI b))]) rfl rfl ?_
        refine V.goto (pc' := 39) dX9_boys_99 rfl ?_
        refine V.loc (L' := [(0, .ref 62), (1, .int (nI k)), (2, .int s), (3, .int (nI (i + 1)))]) (fun zq zh => List.mem_append_left [(4, Value.int (nI b))] zh) ?_
        have e1 : boyM c M = (false, mDrawM M) := by rw [boyM, hbb, ebb]; exact if_neg (fun q => Int32.not_lt.mpr c75 q.2)
        rw [show boyG c (n + 1) s M = boyG c n s (mDrawM M) from by simp only [boyG]; rw [e1]; rfl]
        exact ih (i + 1) _ _ (by simp (disch := omega) only [mDrawM, ms_j]; exact hM) (by omega)
      · skip
        refine V.aload_n dX9_boys_78 rfl rfl rfl ?_
        refine V.getr dX9_boys_79 fg_X9_7 rfl rfl rfl ?_
        refine V.iload dX9_boys_82 rfl rfl ?_
        refine V.iconst (v := 1) dX9_boys_84 rfl rfl ?_
        refine V.calls_i (M1 := mDrawM M) (v := nI (20 + 5 * b + 1)) (md' := m_X9_where) (As := [.int (nI b), .int 1]) (rest := [.ref 63]) dX9_boys_85 ml_X9_45 mo_X9_where ⟨Nat.le_of_ble_eq_true rfl, Nat.le_of_ble_eq_true rfl⟩ (Nat.le_of_ble_eq_true rfl) rfl rfl (Nat.le_of_ble_eq_true rfl) (v_X9_where b 1 _) rfl ?_
        refine V.dup2 dX9_boys_88 rfl rfl rfl ?_
        refine V.ialdN (j := 20 + 5 * b + 1) (v := M 63 (20 + 5 * b + 1)) dX9_boys_89 rfl (by omega) (by decide) rfl (by rw [mDrawM, ms_j (by omega)]) rfl ?_
        refine V.iconst (v := 1) dX9_boys_90 rfl rfl ?_
        refine V.isub (v := (M 63 (20 + 5 * b + 1)) - 1) dX9_boys_91 rfl rfl ?_
        refine V.iastN (j := 20 + 5 * b + 1) dX9_boys_92 rfl (by omega) (by decide) rfl (M' := (ms (mDrawM M) 63 (20 + 5 * b + 1) ((M 63 (20 + 5 * b + 1)) - 1))) rfl rfl ?_
        refine V.inc (v := s + 1) dX9_boys_93 rfl rfl (by decide) (L' := [(0, .ref 62), (1, .int (nI k)), (2, .int (s + 1)), (3, .int (nI i)), (4, .int (nI b))]) rfl rfl ?_
        refine V.inc (v := nI (i + 1)) dX9_boys_96 rfl (nI_1 _) (by decide) (L' := [(0, .ref 62), (1, .int (nI k)), (2, .int (s + 1)), (3, .int (nI (i + 1))), (4, .int (nI b))]) rfl rfl ?_
        refine V.goto (pc' := 39) dX9_boys_99 rfl ?_
        refine V.loc (L' := [(0, .ref 62), (1, .int (nI k)), (2, .int (s + 1)), (3, .int (nI (i + 1)))]) (fun zq zh => List.mem_append_left [(4, Value.int (nI b))] zh) ?_
        have e1 : boyM c M = (true, (ms (mDrawM M) 63 (20 + 5 * b + 1) ((M 63 (20 + 5 * b + 1)) - 1))) := by rw [boyM, hbb, ebb]; exact if_pos ⟨c65, Int32.not_le.mp c75⟩
        rw [show boyG c (n + 1) s M = boyG c n (s + 1) (ms (mDrawM M) 63 (20 + 5 * b + 1) ((M 63 (20 + 5 * b + 1)) - 1)) from by simp only [boyG]; rw [e1]; rfl]
        exact ih (i + 1) _ _ (by simp (disch := omega) only [mDrawM, ms_j]; exact hM) (by omega)
def pBoys (c : Nat) (n : Int32) (M : Mem) : Int32 × Mem := if ¬ rng 1 12 n then (-1000001, fdM 0 M) else if c = 0 then (-1000005, fdM 4 M) else boyG c n.toNatClampNeg 0 M
theorem v_X9_boys {c : Nat} (hc : c ≤ 10) (n : Int32) (M : Mem) (hM : M 63 1 = nI c) : V m_X9_boys 0 [(0, .ref 62), (1, .int n)] [] M (RT (some (.int ((pBoys c n M).1))) ((pBoys c n M).2)) := by
  refine V.iload_n dX9_boys_0 rfl rfl rfl ?_
  refine V.i2l (v := Int32.toInt64 n) dX9_boys_1 rfl rfl ?_
  refine V.lconst (v := 1) dX9_boys_2 rfl rfl ?_
  refine V.ldc2 (v := 12) dX9_boys_3 cl_X9_213 rfl ?_
  refine V.calls_i (M1 := M) (v := if rng 1 12 n then 1 else 0) (md' := m_X9_in) (As := [.long (Int32.toInt64 n), .long 1, .long 12]) (rest := []) dX9_boys_6 ml_X9_38 mo_X9_in ⟨Nat.le_of_ble_eq_true rfl, Nat.le_of_ble_eq_true rfl⟩ (Nat.le_of_ble_eq_true rfl) rfl rfl (Nat.le_of_ble_eq_true rfl) (v_X9_in (x := n) (a := 1) (b := 12) rfl rfl _) rfl ?_
  refine V.ifb_ne (tgt := 19) dX9_boys_9 rfl rfl (fun c9 => ?_) (fun c9 => ?_)
  · skip
    obtain ⟨k, hk, rfl⟩ := of_rng1 (b := 12) c9
    · have ek : (nI k).toNatClampNeg = k := nI_clamp (by omega)
      refine V.aload_n dX9_boys_19 rfl rfl rfl ?_
      refine V.getr dX9_boys_20 fg_X9_7 rfl rfl rfl ?_
      refine V.iconst (v := 1) dX9_boys_23 rfl rfl ?_
      refine V.ialdN (j := 1) (v := nI c) dX9_boys_24 rfl (by decide) (by decide) rfl hM rfl ?_
      refine V.if_ne (tgt := 35) dX9_boys_25 rfl rfl (fun c25 => ?_) (fun c25 => ?_)
      · have d25 := c25
        have c25 : ¬ c = 0 := fun zq => c25 ((nI_eq (a := c) (b := 0) (by omega) (by omega)).mpr zq)
        refine V.iconst (v := 0) dX9_boys_35 rfl rfl ?_
        refine V.ist_n dX9_boys_36 rfl (by decide) (L' := [(0, .ref 62), (1, .int (nI k)), (2, .int 0)]) rfl rfl ?_
        refine V.iconst (v := 0) dX9_boys_37 rfl rfl ?_
        refine V.ist_n dX9_boys_38 rfl (by decide) (L' := [(0, .ref 62), (1, .int (nI k)), (2, .int 0), (3, .int 0)]) rfl rfl ?_
        rw [show pBoys c (nI k) M = boyG c k 0 M from by simp [pBoys, c9, ek, c25]]
        exact l_X9_boys (by omega) hc (by omega) k 0 0 M hM (by omega)
      · have d25 := c25
        have c25 : c = 0 := (nI_eq (a := c) (b := 0) (by omega) (by omega)).mp c25
        refine V.aload_n dX9_boys_28 rfl rfl rfl ?_
        refine V.ldc (v := -1000005) dX9_boys_29 cn_X9_98 rfl ?_
        refine V.callv_i (M1 := fdM 4 M) (v := -1000005) (md' := m_X9_finds) (As := [.int (-1000005)]) (rest := []) dX9_boys_31 ml_X9_51 mo_X9_finds ⟨Nat.le_of_ble_eq_true rfl, Nat.le_of_ble_eq_true rfl⟩ rfl ⟨_, _, rfl⟩ (Nat.le_of_ble_eq_true rfl) rfl rfl (Nat.le_of_ble_eq_true rfl) (v_X9_finds (w := 4) (by decide) (-1000005) (by decide +kernel) _) rfl ?_
        exact V.ret dX9_boys_34 rfl rfl ⟨(by first | (simp (decide := true) [pBoys, c9, ek, d25]; done) | (simp (decide := true) [pBoys, c9, ek, c25]; done) | (simp (decide := true) [pBoys, c9, ek, d25, c25]; done) | (simp_all (decide := true) [pBoys]; done) | (simp_all (decide := true) [pBoys, ltF, leF]; done)), (by first | (simp (decide := true) [pBoys, c9, ek, d25]; done) | (simp (decide := true) [pBoys, c9, ek, c25]; done) | (simp (decide := true) [pBoys, c9, ek, d25, c25]; done) | (simp_all (decide := true) [pBoys]; done) | (simp_all (decide := true) [pBoys, ltF, leF]; done))⟩
  · skip
    refine V.aload_n dX9_boys_12 rfl rfl rfl ?_
    refine V.ldc (v := -1000001) dX9_boys_13 cn_X9_37 rfl ?_
    refine V.callv_i (M1 := fdM 0 M) (v := -1000001) (md' := m_X9_finds) (As := [.int (-1000001)]) (rest := []) dX9_boys_15 ml_X9_51 mo_X9_finds ⟨Nat.le_of_ble_eq_true rfl, Nat.le_of_ble_eq_true rfl⟩ rfl ⟨_, _, rfl⟩ (Nat.le_of_ble_eq_true rfl) rfl rfl (Nat.le_of_ble_eq_true rfl) (v_X9_finds (w := 0) (by decide) (-1000001) (by decide +kernel) _) rfl ?_
    exact V.ret dX9_boys_18 rfl rfl ⟨(by first | (simp (decide := true) [pBoys, c9]; done) | (simp (decide := true) [pBoys, c9]; done) | (simp (decide := true) [pBoys, c9]; done) | (simp_all (decide := true) [pBoys]; done) | (simp_all (decide := true) [pBoys, ltF, leF]; done)), (by first | (simp (decide := true) [pBoys, c9]; done) | (simp (decide := true) [pBoys, c9]; done) | (simp (decide := true) [pBoys, c9]; done) | (simp_all (decide := true) [pBoys]; done) | (simp_all (decide := true) [pBoys, ltF, leF]; done))⟩
