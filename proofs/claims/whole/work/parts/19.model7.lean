/-! The reference: minutes, what is asked for, spots, sheets, images -/
theorem of_rng1 {x : Int32} {b : Nat} (h : rng 1 b x) : ∃ k, (1 ≤ k ∧ k ≤ b) ∧ x = nI k := by
  have h' := rng_def.mp h
  obtain ⟨k, hk, e⟩ := of_rng (b := b) (rng_def.mpr ⟨Int.le_trans (by decide) h'.1, h'.2⟩)
  refine ⟨k, ⟨?_, hk⟩, e⟩
  rcases Nat.eq_zero_or_pos k with q | q
  · rw [e, q] at h'
    exact absurd h'.1 (by decide)
  · exact q
theorem v_X9_isTooLate {m n : Nat} (hm : m ≤ 3000) (hn : n ≤ 300) (M : Mem) (h0 : M 63 0 = nI m) : V m_X9_isTooLate 0 [(0, .ref 62), (1, .int (nI n))] [] M (RT (some (.int (if 999 < m + n then 1 else 0))) M) := by
  refine V.aload_n dX9_isTooLate_0 rfl rfl rfl ?_
  refine V.getr dX9_isTooLate_1 fg_X9_7 rfl rfl rfl ?_
  refine V.iconst (v := 0) dX9_isTooLate_4 rfl rfl ?_
  refine V.ialdN (j := 0) (v := nI m) dX9_isTooLate_5 rfl (by decide) (by decide) rfl h0 rfl ?_
  refine V.iload_n dX9_isTooLate_6 rfl rfl rfl ?_
  refine V.iadd (v := nI (m + n)) dX9_isTooLate_7 (nI_add _ _) rfl ?_
  refine V.sipush (v := 999) dX9_isTooLate_8 (by decide) rfl ?_
  refine V.icmp_le (tgt := 18) dX9_isTooLate_11 rfl rfl (fun c11 => ?_) (fun c11 => ?_)
  · have c11 : m + n ≤ 999 := (nI_leI (a := m + n) (b := 999) (by omega) (by omega)).mp c11
    refine V.iconst (v := 0) dX9_isTooLate_18 rfl rfl ?_
    exact V.ret dX9_isTooLate_19 rfl rfl ⟨(by first | rw [if_pos (by omega)] | rw [if_neg (by omega)]), rfl⟩
  · have c11 : ¬ m + n ≤ 999 := fun zq => c11 ((nI_leI (a := m + n) (b := 999) (by omega) (by omega)).mpr zq)
    refine V.iconst (v := 1) dX9_isTooLate_14 rfl rfl ?_
    refine V.goto (pc' := 19) dX9_isTooLate_15 rfl ?_
    exact V.ret dX9_isTooLate_19 rfl rfl ⟨(by first | rw [if_pos (by omega)] | rw [if_neg (by omega)]), rfl⟩
theorem v_X9_isSpan (x : Int32) (M : Mem) : V m_X9_isSpan 0 [(0, .int x)] [] M (RT (some (.int (if rng 1 120 x then 1 else 0))) M) := by
  refine V.iload_n dX9_isSpan_0 rfl rfl rfl ?_
  refine V.i2l (v := Int32.toInt64 x) dX9_isSpan_1 rfl rfl ?_
  refine V.lconst (v := 1) dX9_isSpan_2 rfl rfl ?_
  refine V.ldc2 (v := 120) dX9_isSpan_3 cl_X9_169 rfl ?_
  refine V.calls_i (M1 := M) (v := if rng 1 120 x then 1 else 0) (md' := m_X9_in) (As := [.long (Int32.toInt64 x), .long 1, .long 120]) (rest := []) dX9_isSpan_6 ml_X9_38 mo_X9_in ⟨Nat.le_of_ble_eq_true rfl, Nat.le_of_ble_eq_true rfl⟩ (Nat.le_of_ble_eq_true rfl) rfl rfl (Nat.le_of_ble_eq_true rfl) (v_X9_in (x := x) (a := 1) (b := 120) rfl rfl _) rfl ?_
  exact V.ret dX9_isSpan_9 rfl (nb_if _) ⟨rfl, rfl⟩
theorem v_X9_isOne (x : Int32) (M : Mem) : V m_X9_isOne 0 [(0, .int x)] [] M (RT (some (.int (if rng 0 3 x then 1 else 0))) M) := by
  refine V.iload_n dX9_isOne_0 rfl rfl rfl ?_
  refine V.i2l (v := Int32.toInt64 x) dX9_isOne_1 rfl rfl ?_
  refine V.lconst (v := 0) dX9_isOne_2 rfl rfl ?_
  refine V.ldc2 (v := 3) dX9_isOne_3 cl_X9_42 rfl ?_
  refine V.calls_i (M1 := M) (v := if rng 0 3 x then 1 else 0) (md' := m_X9_in) (As := [.long (Int32.toInt64 x), .long 0, .long 3]) (rest := []) dX9_isOne_6 ml_X9_38 mo_X9_in ⟨Nat.le_of_ble_eq_true rfl, Nat.le_of_ble_eq_true rfl⟩ (Nat.le_of_ble_eq_true rfl) rfl rfl (Nat.le_of_ble_eq_true rfl) (v_X9_in (x := x) (a := 0) (b := 3) rfl rfl _) rfl ?_
  exact V.ret dX9_isOne_9 rfl (nb_if _) ⟨rfl, rfl⟩
theorem v_X9_isRoasting {b : Nat} (hb : b < 10) (M : Mem) : V m_X9_isRoasting 0 [(0, .ref 62), (1, .int (nI b))] [] M (RT (some (.int (if M 63 (20 + 5 * b + 4) = 1 ∨ M 63 (20 + 5 * b + 4) = 2 then 1 else 0))) M) := by
  refine V.aload_n dX9_isRoasting_0 rfl rfl rfl ?_
  refine V.iload_n dX9_isRoasting_1 rfl rfl rfl ?_
  refine V.iconst (v := 4) dX9_isRoasting_2 rfl rfl ?_
  refine V.callv_i (M1 := M) (v := M 63 (20 + 5 * b + 4)) (md' := m_X9_its) (As := [.int (nI b), .int 4]) (rest := []) dX9_isRoasting_3 ml_X9_60 mo_X9_its ⟨Nat.le_of_ble_eq_true rfl, Nat.le_of_ble_eq_true rfl⟩ rfl ⟨_, _, rfl⟩ (Nat.le_of_ble_eq_true rfl) rfl rfl (Nat.le_of_ble_eq_true rfl) (v_X9_its (b := b) (w := 4) (by omega) (by omega) _) rfl ?_
  refine V.iconst (v := 1) dX9_isRoasting_6 rfl rfl ?_
  refine V.icmp_eq (tgt := 20) dX9_isRoasting_7 rfl rfl (fun c7 => ?_) (fun c7 => ?_)
  · skip
    refine V.iconst (v := 1) dX9_isRoasting_20 rfl rfl ?_
    refine V.goto (pc' := 25) dX9_isRoasting_21 rfl ?_
    exact V.ret dX9_isRoasting_25 rfl rfl ⟨(by simp [*]), rfl⟩
  · skip
    refine V.aload_n dX9_isRoasting_10 rfl rfl rfl ?_
    refine V.iload_n dX9_isRoasting_11 rfl rfl rfl ?_
    refine V.iconst (v := 4) dX9_isRoasting_12 rfl rfl ?_
    refine V.callv_i (M1 := M) (v := M 63 (20 + 5 * b + 4)) (md' := m_X9_its) (As := [.int (nI b), .int 4]) (rest := []) dX9_isRoasting_13 ml_X9_60 mo_X9_its ⟨Nat.le_of_ble_eq_true rfl, Nat.le_of_ble_eq_true rfl⟩ rfl ⟨_, _, rfl⟩ (Nat.le_of_ble_eq_true rfl) rfl rfl (Nat.le_of_ble_eq_true rfl) (v_X9_its (b := b) (w := 4) (by omega) (by omega) _) rfl ?_
    refine V.iconst (v := 2) dX9_isRoasting_16 rfl rfl ?_
    refine V.icmp_ne (tgt := 24) dX9_isRoasting_17 rfl rfl (fun c17 => ?_) (fun c17 => ?_)
    · skip
      refine V.iconst (v := 0) dX9_isRoasting_24 rfl rfl ?_
      exact V.ret dX9_isRoasting_25 rfl rfl ⟨(by simp [*]), rfl⟩
    · skip
      refine V.iconst (v := 1) dX9_isRoasting_20 rfl rfl ?_
      refine V.goto (pc' := 25) dX9_isRoasting_21 rfl ?_
      exact V.ret dX9_isRoasting_25 rfl rfl ⟨(by simp [*]), rfl⟩
def pMinutes (c cc m : Nat) (n : Int32) (M : Mem) : Int32 × Mem := if ¬ rng 1 120 n then (-1000001, fdM 0 M) else if 999 < m + n.toNatClampNeg then (-1000005, fdM 4 M) else (mGo c cc n.toNatClampNeg m M 63 10 - M 63 10, mGo c cc n.toNatClampNeg m M)
theorem v_X9_minutes {c : Nat} (hc : c ≤ 10) {cc : Nat} (hcc : cc ≤ 12) {m : Nat} (hm : m ≤ 3000) (n : Int32) (M : Mem) (hM : M 63 1 = nI c) (h2 : M 63 2 = nI cc) (h0 : M 63 0 = nI m) (hW : WM c cc m M) : V m_X9_minutes 0 [(0, .ref 62), (1, .int n)] [] M (RT (some (.int ((pMinutes c cc m n M).1))) ((pMinutes c cc m n M).2)) := by
  refine V.iload_n dX9_minutes_0 rfl rfl rfl ?_
  refine V.i2l (v := Int32.toInt64 n) dX9_minutes_1 rfl rfl ?_
  refine V.lconst (v := 1) dX9_minutes_2 rfl rfl ?_
  refine V.ldc2 (v := 120) dX9_minutes_3 cl_X9_169 rfl ?_
  refine V.calls_i (M1 := M) (v := if rng 1 120 n then 1 else 0) (md' := m_X9_in) (As := [.long (Int32.toInt64 n), .long 1, .long 120]) (rest := []) dX9_minutes_6 ml_X9_38 mo_X9_in ⟨Nat.le_of_ble_eq_true rfl, Nat.le_of_ble_eq_true rfl⟩ (Nat.le_of_ble_eq_true rfl) rfl rfl (Nat.le_of_ble_eq_true rfl) (v_X9_in (x := n) (a := 1) (b := 120) rfl rfl _) rfl ?_
  refine V.ifb_ne (tgt := 19) dX9_minutes_9 rfl rfl (fun c9 => ?_) (fun c9 => ?_)
  · skip
    obtain ⟨k, hk, rfl⟩ := of_rng1 (b := 120) c9
    · have ek : (nI k).toNatClampNeg = k := nI_clamp (by omega)
      refine V.aload_n dX9_minutes_19 rfl rfl rfl ?_
      refine V.iload_n dX9_minutes_20 rfl rfl rfl ?_
      refine V.callv_i (M1 := M) (v := if 999 < m + k then 1 else 0) (md' := m_X9_isTooLate) (As := [.int (nI k)]) (rest := []) dX9_minutes_21 ml_X9_171 mo_X9_isTooLate ⟨Nat.le_of_ble_eq_true rfl, Nat.le_of_ble_eq_true rfl⟩ rfl ⟨_, _, rfl⟩ (Nat.le_of_ble_eq_true rfl) rfl rfl (Nat.le_of_ble_eq_true rfl) (v_X9_isTooLate (by omega) (by omega) M h0) rfl ?_
      refine V.ifb_eq (tgt := 34) dX9_minutes_24 rfl rfl (fun c24 => ?_) (fun c24 => ?_)
      · skip
        refine V.aload_n dX9_minutes_34 rfl rfl rfl ?_
        refine V.getr dX9_minutes_35 fg_X9_7 rfl rfl rfl ?_
        refine V.bipush (v := 10) dX9_minutes_38 (by decide) rfl ?_
        refine V.ialdN (j := 10) (v := M 63 10) dX9_minutes_40 rfl (by decide) (by decide) rfl rfl rfl ?_
        refine V.ist_n dX9_minutes_41 rfl (by decide) (L' := [(0, .ref 62), (1, .int (nI k)), (2, .int (M 63 10))]) rfl rfl ?_
        refine V.aload_n dX9_minutes_42 rfl rfl rfl ?_
        refine V.iload_n dX9_minutes_43 rfl rfl rfl ?_
        refine V.callv_v (M1 := mGo c cc k m M) (md' := m_X9_minutesGo) (As := [.int (nI k)]) (rest := []) dX9_minutes_44 ml_X9_174 mo_X9_minutesGo ⟨Nat.le_of_ble_eq_true rfl, Nat.le_of_ble_eq_true rfl⟩ rfl ⟨_, _, rfl⟩ (Nat.le_of_ble_eq_true rfl) rfl rfl (Nat.le_of_ble_eq_true rfl) (v_X9_minutesGo hc hcc (by omega) M hW (by omega)) rfl ?_
        refine V.aload_n dX9_minutes_47 rfl rfl rfl ?_
        refine V.getr dX9_minutes_48 fg_X9_7 rfl rfl rfl ?_
        refine V.bipush (v := 10) dX9_minutes_51 (by decide) rfl ?_
        refine V.ialdN (j := 10) (v := (mGo c cc k m M) 63 10) dX9_minutes_53 rfl (by decide) (by decide) rfl rfl rfl ?_
        refine V.iload_n dX9_minutes_54 rfl rfl rfl ?_
        refine V.isub (v := ((mGo c cc k m M) 63 10) - (M 63 10)) dX9_minutes_55 rfl rfl ?_
        exact V.ret dX9_minutes_56 rfl rfl ⟨(by first | (simp (decide := true) [pMinutes, c9, ek, c24]; done) | (simp (decide := true) [pMinutes, c9, ek, c24]; done) | (simp (decide := true) [pMinutes, c9, ek, c24]; done) | (simp_all (decide := true) [pMinutes]; done) | (simp_all (decide := true) [pMinutes, ltF, leF]; done)), (by first | (simp (decide := true) [pMinutes, c9, ek, c24]; done) | (simp (decide := true) [pMinutes, c9, ek, c24]; done) | (simp (decide := true) [pMinutes, c9, ek, c24]; done) | (simp_all (decide := true) [pMinutes]; done) | (simp_all (decide := true) [pMinutes, ltF, leF]; done))⟩
      · skip
        refine V.aload_n dX9_minutes_27 rfl rfl rfl ?_
        refine V.ldc (v := -1000005) dX9_minutes_28 cn_X9_98 rfl ?_
        refine V.callv_i (M1 := fdM 4 M) (v := -1000005) (md' := m_X9_finds) (As := [.int (-1000005)]) (rest := []) dX9_minutes_30 ml_X9_51 mo_X9_finds ⟨Nat.le_of_ble_eq_true rfl, Nat.le_of_ble_eq_true rfl⟩ rfl ⟨_, _, rfl⟩ (Nat.le_of_ble_eq_true rfl) rfl rfl (Nat.le_of_ble_eq_true rfl) (v_X9_finds (w := 4) (by decide) (-1000005) (by decide +kernel) _) rfl ?_
        exact V.ret dX9_minutes_33 rfl rfl ⟨(by first | (simp (decide := true) [pMinutes, c9, ek, c24]; done) | (simp (decide := true) [pMinutes, c9, ek, c24]; done) | (simp (decide := true) [pMinutes, c9, ek, c24]; done) | (simp_all (decide := true) [pMinutes]; done) | (simp_all (decide := true) [pMinutes, ltF, leF]; done)), (by first | (simp (decide := true) [pMinutes, c9, ek, c24]; done) | (simp (decide := true) [pMinutes, c9, ek, c24]; done) | (simp (decide := true) [pMinutes, c9, ek, c24]; done) | (simp_all (decide := true) [pMinutes]; done) | (simp_all (decide := true) [pMinutes, ltF, leF]; done))⟩
  · skip
    refine V.aload_n dX9_minutes_12 rfl rfl rfl ?_
    refine V.ldc (v := -1000001) dX9_minutes_13 cn_X9_37 rfl ?_
    refine V.callv_i (M1 := fdM 0 M) (v := -1000001) (md' := m_X9_finds) (As := [.int (-1000001)]) (rest := []) dX9_minutes_15 ml_X9_51 mo_X9_finds ⟨Nat.le_of_ble_eq_true rfl, Nat.le_of_ble_eq_true rfl⟩ rfl ⟨_, _, rfl⟩ (Nat.le_of_ble_eq_true rfl) rfl rfl (Nat.le_of_ble_eq_true rfl) (v_X9_finds (w := 0) (by decide) (-1000001) (by decide +kernel) _) rfl ?_
    exact V.ret dX9_minutes_18 rfl rfl ⟨(by first | (simp (decide := true) [pMinutes, c9]; done) | (simp (decide := true) [pMinutes, c9]; done) | (simp (decide := true) [pMinutes, c9]; done) | (simp_all (decide := true) [pMinutes]; done) | (simp_all (decide := true) [pMinutes, ltF, leF]; done)), (by first | (simp (decide := true) [pMinutes, c9]; done) | (simp (decide := true) [pMinutes, c9]; done) | (simp (decide := true) [pMinutes, c9]; done) | (simp_all (decide := true) [pMinutes]; done) | (simp_all (decide := true) [pMinutes, ltF, leF]; done))⟩
def pNow (c : Nat) (w : Int32) (M : Mem) : Int32 × Mem := (if w = 0 then (M 63 0, M) else if w = 1 then (M 63 7, M) else if w = 2 then (M 63 4, M) else if w = 3 then (M 63 8, M) else if w = 4 then (M 63 9, M) else if w = 5 then (M 63 10, M) else if w = 6 then (M 63 11, M) else if w = 7 then (M 63 12, M) else if w = 8 then (sumG (dueC M) 7 0 0, M) else (-1000001, fdM 0 M))
theorem v_X9_now {c : Nat} (hc : c ≤ 10) (w : Int32) (M : Mem) (hM : M 63 1 = nI c) : V m_X9_now 0 [(0, .ref 62), (1, .int w)] [] M (RT (some (.int ((pNow c w M).1))) ((pNow c w M).2)) := by
  refine V.iload_n dX9_now_0 rfl rfl rfl ?_
  by_cases s1_0 : w = 0
  · refine V.tabIn (pc' := 52) dX9_now_1 (by rw [s1_0]; decide) (by rw [s1_0]; decide) (by rw [s1_0]; rfl) rfl ?_
    refine V.aload_n dX9_now_52 rfl rfl rfl ?_
    refine V.getr dX9_now_53 fg_X9_7 rfl rfl rfl ?_
    refine V.iconst (v := 0) dX9_now_56 rfl rfl ?_
    refine V.ialdN (j := 0) (v := M 63 0) dX9_now_57 rfl (by decide) (by decide) rfl rfl rfl ?_
    exact V.ret dX9_now_58 rfl rfl ⟨(by first | (simp (decide := true) [pNow, s1_0]; done) | (simp (decide := true) [pNow, s1_0]; done) | (simp (decide := true) [pNow, s1_0]; done) | (simp_all (decide := true) [pNow]; done) | (simp_all (decide := true) [pNow, ltF, leF]; done)), (by first | (simp (decide := true) [pNow, s1_0]; done) | (simp (decide := true) [pNow, s1_0]; done) | (simp (decide := true) [pNow, s1_0]; done) | (simp_all (decide := true) [pNow]; done) | (simp_all (decide := true) [pNow, ltF, leF]; done))⟩
  by_cases s1_1 : w = 1
  · refine V.tabIn (pc' := 59) dX9_now_1 (by rw [s1_1]; decide) (by rw [s1_1]; decide) (by rw [s1_1]; rfl) rfl ?_
    refine V.aload_n dX9_now_59 rfl rfl rfl ?_
    refine V.getr dX9_now_60 fg_X9_7 rfl rfl rfl ?_
    refine V.bipush (v := 7) dX9_now_63 (by decide) rfl ?_
    refine V.ialdN (j := 7) (v := M 63 7) dX9_now_65 rfl (by decide) (by decide) rfl rfl rfl ?_
    exact V.ret dX9_now_66 rfl rfl ⟨(by first | (simp (decide := true) [pNow, s1_1]; done) | (simp (decide := true) [pNow, s1_1]; done) | (simp (decide := true) [pNow, s1_1]; done) | (simp_all (decide := true) [pNow]; done) | (simp_all (decide := true) [pNow, ltF, leF]; done)), (by first | (simp (decide := true) [pNow, s1_1]; done) | (simp (decide := true) [pNow, s1_1]; done) | (simp (decide := true) [pNow, s1_1]; done) | (simp_all (decide := true) [pNow]; done) | (simp_all (decide := true) [pNow, ltF, leF]; done))⟩
  by_cases s1_2 : w = 2
  · refine V.tabIn (pc' := 67) dX9_now_1 (by rw [s1_2]; decide) (by rw [s1_2]; decide) (by rw [s1_2]; rfl) rfl ?_
    refine V.aload_n dX9_now_67 rfl rfl rfl ?_
    refine V.getr dX9_now_68 fg_X9_7 rfl rfl rfl ?_
    refine V.iconst (v := 4) dX9_now_71 rfl rfl ?_
    refine V.ialdN (j := 4) (v := M 63 4) dX9_now_72 rfl (by decide) (by decide) rfl rfl rfl ?_
    exact V.ret dX9_now_73 rfl rfl ⟨(by first | (simp (decide := true) [pNow, s1_2]; done) | (simp (decide := true) [pNow, s1_2]; done) | (simp (decide := true) [pNow, s1_2]; done) | (simp_all (decide := true) [pNow]; done) | (simp_all (decide := true) [pNow, ltF, leF]; done)), (by first | (simp (decide := true) [pNow, s1_2]; done) | (simp (decide := true) [pNow, s1_2]; done) | (simp (decide := true) [pNow, s1_2]; done) | (simp_all (decide := true) [pNow]; done) | (simp_all (decide := true) [pNow, ltF, leF]; done))⟩
  by_cases s1_3 : w = 3
  · refine V.tabIn (pc' := 74) dX9_now_1 (by rw [s1_3]; decide) (by rw [s1_3]; decide) (by rw [s1_3]; rfl) rfl ?_
    refine V.aload_n dX9_now_74 rfl rfl rfl ?_
    refine V.getr dX9_now_75 fg_X9_7 rfl rfl rfl ?_
    refine V.bipush (v := 8) dX9_now_78 (by decide) rfl ?_
    refine V.ialdN (j := 8) (v := M 63 8) dX9_now_80 rfl (by decide) (by decide) rfl rfl rfl ?_
    exact V.ret dX9_now_81 rfl rfl ⟨(by first | (simp (decide := true) [pNow, s1_3]; done) | (simp (decide := true) [pNow, s1_3]; done) | (simp (decide := true) [pNow, s1_3]; done) | (simp_all (decide := true) [pNow]; done) | (simp_all (decide := true) [pNow, ltF, leF]; done)), (by first | (simp (decide := true) [pNow, s1_3]; done) | (simp (decide := true) [pNow, s1_3]; done) | (simp (decide := true) [pNow, s1_3]; done) | (simp_all (decide := true) [pNow]; done) | (simp_all (decide := true) [pNow, ltF, leF]; done))⟩
  by_cases s1_4 : w = 4
  · refine V.tabIn (pc' := 82) dX9_now_1 (by rw [s1_4]; decide) (by rw [s1_4]; decide) (by rw [s1_4]; rfl) rfl ?_
    refine V.aload_n dX9_now_82 rfl rfl rfl ?_
    refine V.getr dX9_now_83 fg_X9_7 rfl rfl rfl ?_
    refine V.bipush (v := 9) dX9_now_86 (by decide) rfl ?_
    refine V.ialdN (j := 9) (v := M 63 9) dX9_now_88 rfl (by decide) (by decide) rfl rfl rfl ?_
    exact V.ret dX9_now_89 rfl rfl ⟨(by first | (simp (decide := true) [pNow, s1_4]; done) | (simp (decide := true) [pNow, s1_4]; done) | (simp (decide := true) [pNow, s1_4]; done) | (simp_all (decide := true) [pNow]; done) | (simp_all (decide := true) [pNow, ltF, leF]; done)), (by first | (simp (decide := true) [pNow, s1_4]; done) | (simp (decide := true) [pNow, s1_4]; done) | (simp (decide := true) [pNow, s1_4]; done) | (simp_all (decide := true) [pNow]; done) | (simp_all (decide := true) [pNow, ltF, leF]; done))⟩
  by_cases s1_5 : w = 5
  · refine V.tabIn (pc' := 90) dX9_now_1 (by rw [s1_5]; decide) (by rw [s1_5]; decide) (by rw [s1_5]; rfl) rfl ?_
    refine V.aload_n dX9_now_90 rfl rfl rfl ?_
    refine V.getr dX9_now_91 fg_X9_7 rfl rfl rfl ?_
    refine V.bipush (v := 10) dX9_now_94 (by decide) rfl ?_
    refine V.ialdN (j := 10) (v := M 63 10) dX9_now_96 rfl (by decide) (by decide) rfl rfl rfl ?_
    exact V.ret dX9_now_97 rfl rfl ⟨(by first | (simp (decide := true) [pNow, s1_5]; done) | (simp (decide := true) [pNow, s1_5]; done) | (simp (decide := true) [pNow, s1_5]; done) | (simp_all (decide := true) [pNow]; done) | (simp_all (decide := true) [pNow, ltF, leF]; done)), (by first | (simp (decide := true) [pNow, s1_5]; done) | (simp (decide := true) [pNow, s1_5]; done) | (simp (decide := true) [pNow, s1_5]; done) | (simp_all (decide := true) [pNow]; done) | (simp_all (decide := true) [pNow, ltF, leF]; done))⟩
  by_cases s1_6 : w = 6
  · refine V.tabIn (pc' := 98) dX9_now_1 (by rw [s1_6]; decide) (by rw [s1_6]; decide) (by rw [s1_6]; rfl) rfl ?_
    refine V.aload_n dX9_now_98 rfl rfl rfl ?_
    refine V.getr dX9_now_99 fg_X9_7 rfl rfl rfl ?_
    refine V.bipush (v := 11) dX9_now_102 (by decide) rfl ?_
    refine V.ialdN (j := 11) (v := M 63 11) dX9_now_104 rfl (by decide) (by decide) rfl rfl rfl ?_
    exact V.ret dX9_now_105 rfl rfl ⟨(by first | (simp (decide := true) [pNow, s1_6]; done) | (simp (decide := true) [pNow, s1_6]; done) | (simp (decide := true) [pNow, s1_6]; done) | (simp_all (decide := true) [pNow]; done) | (simp_all (decide := true) [pNow, ltF, leF]; done)), (by first | (simp (decide := true) [pNow, s1_6]; done) | (simp (decide := true) [pNow, s1_6]; done) | (simp (decide := true) [pNow, s1_6]; done) | (simp_all (decide := true) [pNow]; done) | (simp_all (decide := true) [pNow, ltF, leF]; done))⟩
  by_cases s1_7 : w = 7
  · refine V.tabIn (pc' := 106) dX9_now_1 (by rw [s1_7]; decide) (by rw [s1_7]; decide) (by rw [s1_7]; rfl) rfl ?_
    refine V.aload_n dX9_now_106 rfl rfl rfl ?_
    refine V.getr dX9_now_107 fg_X9_7 rfl rfl rfl ?_
    refine V.bipush (v := 12) dX9_now_110 (by decide) rfl ?_
    refine V.ialdN (j := 12) (v := M 63 12) dX9_now_112 rfl (by decide) (by decide) rfl rfl rfl ?_
    exact V.ret dX9_now_113 rfl rfl ⟨(by first | (simp (decide := true) [pNow, s1_7]; done) | (simp (decide := true) [pNow, s1_7]; done) | (simp (decide := true) [pNow, s1_7]; done) | (simp_all (decide := true) [pNow]; done) | (simp_all (decide := true) [pNow, ltF, leF]; done)), (by first | (simp (decide := true) [pNow, s1_7]; done) | (simp (decide := true) [pNow, s1_7]; done) | (simp (decide := true) [pNow, s1_7]; done) | (simp_all (decide := true) [pNow]; done) | (simp_all (decide := true) [pNow, ltF, leF]; done))⟩
  by_cases s1_8 : w = 8
  · refine V.tabIn (pc' := 114) dX9_now_1 (by rw [s1_8]; decide) (by rw [s1_8]; decide) (by rw [s1_8]; rfl) rfl ?_
    refine V.aload_n dX9_now_114 rfl rfl rfl ?_
    refine V.callv_i (M1 := M) (v := sumG (dueC M) 7 0 0) (md' := m_X9_dueAll) (As := []) (rest := []) dX9_now_115 ml_X9_120 mo_X9_dueAll ⟨Nat.le_of_ble_eq_true rfl, Nat.le_of_ble_eq_true rfl⟩ rfl ⟨_, _, rfl⟩ (Nat.le_of_ble_eq_true rfl) rfl rfl (Nat.le_of_ble_eq_true rfl) (v_X9_dueAll _) rfl ?_
    exact V.ret dX9_now_118 rfl rfl ⟨(by first | (simp (decide := true) [pNow, s1_8]; done) | (simp (decide := true) [pNow, s1_8]; done) | (simp (decide := true) [pNow, s1_8]; done) | (simp_all (decide := true) [pNow]; done) | (simp_all (decide := true) [pNow, ltF, leF]; done)), (by first | (simp (decide := true) [pNow, s1_8]; done) | (simp (decide := true) [pNow, s1_8]; done) | (simp (decide := true) [pNow, s1_8]; done) | (simp_all (decide := true) [pNow]; done) | (simp_all (decide := true) [pNow, ltF, leF]; done))⟩
  refine V.tabOut (pc' := 119) dX9_now_1 (by have q0 := lv_neT (a := 0) s1_0 rfl; have q1 := lv_neT (a := 1) s1_1 rfl; have q2 := lv_neT (a := 2) s1_2 rfl; have q3 := lv_neT (a := 3) s1_3 rfl; have q4 := lv_neT (a := 4) s1_4 rfl; have q5 := lv_neT (a := 5) s1_5 rfl; have q6 := lv_neT (a := 6) s1_6 rfl; have q7 := lv_neT (a := 7) s1_7 rfl; have q8 := lv_neT (a := 8) s1_8 rfl; omega) rfl ?_
  refine V.aload_n dX9_now_119 rfl rfl rfl ?_
  refine V.ldc (v := -1000001) dX9_now_120 cn_X9_37 rfl ?_
  refine V.callv_i (M1 := fdM 0 M) (v := -1000001) (md' := m_X9_finds) (As := [.int (-1000001)]) (rest := []) dX9_now_122 ml_X9_51 mo_X9_finds ⟨Nat.le_of_ble_eq_true rfl, Nat.le_of_ble_eq_true rfl⟩ rfl ⟨_, _, rfl⟩ (Nat.le_of_ble_eq_true rfl) rfl rfl (Nat.le_of_ble_eq_true rfl) (v_X9_finds (w := 0) (by decide) (-1000001) (by decide +kernel) _) rfl ?_
  exact V.ret dX9_now_125 rfl rfl ⟨(by first | (simp (decide := true) [pNow, s1_0, s1_1, s1_2, s1_3, s1_4, s1_5, s1_6, s1_7, s1_8]; done) | (simp (decide := true) [pNow, s1_0, s1_1, s1_2, s1_3, s1_4, s1_5, s1_6, s1_7, s1_8]; done) | (simp (decide := true) [pNow, s1_0, s1_1, s1_2, s1_3, s1_4, s1_5, s1_6, s1_7, s1_8]; done) | (simp_all (decide := true) [pNow]; done) | (simp_all (decide := true) [pNow, ltF, leF]; done)), (by first | (simp (decide := true) [pNow, s1_0, s1_1, s1_2, s1_3, s1_4, s1_5, s1_6, s1_7, s1_8]; done) | (simp (decide := true) [pNow, s1_0, s1_1, s1_2, s1_3, s1_4, s1_5, s1_6, s1_7, s1_8]; done) | (simp (decide := true) [pNow, s1_0, s1_1, s1_2, s1_3, s1_4, s1_5, s1_6, s1_7, s1_8]; done) | (simp_all (decide := true) [pNow]; done) | (simp_all (decide := true) [pNow, ltF, leF]; done))⟩
def pAt (c : Nat) (p : Int32) (M : Mem) : Int32 × Mem := if rng 0 4 p then (setG (col M 4) p c 0 0, M) else (-1000001, fdM 0 M)
theorem v_X9_at {c : Nat} (hc : c ≤ 10) (p : Int32) (M : Mem) (hM : M 63 1 = nI c) : V m_X9_at 0 [(0, .ref 62), (1, .int p)] [] M (RT (some (.int ((pAt c p M).1))) ((pAt c p M).2)) := by
  refine V.iload_n dX9_at_0 rfl rfl rfl ?_
  refine V.i2l (v := Int32.toInt64 p) dX9_at_1 rfl rfl ?_
  refine V.lconst (v := 0) dX9_at_2 rfl rfl ?_
  refine V.ldc2 (v := 4) dX9_at_3 cl_X9_96 rfl ?_
  refine V.calls_i (M1 := M) (v := if rng 0 4 p then 1 else 0) (md' := m_X9_in) (As := [.long (Int32.toInt64 p), .long 0, .long 4]) (rest := []) dX9_at_6 ml_X9_38 mo_X9_in ⟨Nat.le_of_ble_eq_true rfl, Nat.le_of_ble_eq_true rfl⟩ (Nat.le_of_ble_eq_true rfl) rfl rfl (Nat.le_of_ble_eq_true rfl) (v_X9_in (x := p) (a := 0) (b := 4) rfl rfl _) rfl ?_
  refine V.ifb_eq (tgt := 20) dX9_at_9 rfl rfl (fun c9 => ?_) (fun c9 => ?_)
  · skip
    refine V.aload_n dX9_at_20 rfl rfl rfl ?_
    refine V.ldc (v := -1000001) dX9_at_21 cn_X9_37 rfl ?_
    refine V.callv_i (M1 := fdM 0 M) (v := -1000001) (md' := m_X9_finds) (As := [.int (-1000001)]) (rest := []) dX9_at_23 ml_X9_51 mo_X9_finds ⟨Nat.le_of_ble_eq_true rfl, Nat.le_of_ble_eq_true rfl⟩ rfl ⟨_, _, rfl⟩ (Nat.le_of_ble_eq_true rfl) rfl rfl (Nat.le_of_ble_eq_true rfl) (v_X9_finds (w := 0) (by decide) (-1000001) (by decide +kernel) _) rfl ?_
    exact V.ret dX9_at_26 rfl rfl ⟨(by first | (simp (decide := true) [pAt, c9]; done) | (simp (decide := true) [pAt, c9]; done) | (simp (decide := true) [pAt, c9]; done) | (simp_all (decide := true) [pAt]; done) | (simp_all (decide := true) [pAt, ltF, leF]; done)), (by first | (simp (decide := true) [pAt, c9]; done) | (simp (decide := true) [pAt, c9]; done) | (simp (decide := true) [pAt, c9]; done) | (simp_all (decide := true) [pAt]; done) | (simp_all (decide := true) [pAt, ltF, leF]; done))⟩
  · skip
    refine V.aload_n dX9_at_12 rfl rfl rfl ?_
    refine V.iload_n dX9_at_13 rfl rfl rfl ?_
    refine V.callv_i (M1 := M) (v := setG (col M 4) p c 0 0) (md' := m_X9_placed) (As := [.int p]) (rest := []) dX9_at_14 ml_X9_86 mo_X9_placed ⟨Nat.le_of_ble_eq_true rfl, Nat.le_of_ble_eq_true rfl⟩ rfl ⟨_, _, rfl⟩ (Nat.le_of_ble_eq_true rfl) rfl rfl (Nat.le_of_ble_eq_true rfl) (v_X9_placed hc p M hM) rfl ?_
    refine V.goto (pc' := 26) dX9_at_17 rfl ?_
    exact V.ret dX9_at_26 rfl rfl ⟨(by first | (simp (decide := true) [pAt, c9]; done) | (simp (decide := true) [pAt, c9]; done) | (simp (decide := true) [pAt, c9]; done) | (simp_all (decide := true) [pAt]; done) | (simp_all (decide := true) [pAt, ltF, leF]; done)), (by first | (simp (decide := true) [pAt, c9]; done) | (simp (decide := true) [pAt, c9]; done) | (simp (decide := true) [pAt, c9]; done) | (simp_all (decide := true) [pAt]; done) | (simp_all (decide := true) [pAt, ltF, leF]; done))⟩
def pSeed (c : Nat) (v : Int32) (M : Mem) : Int32 × Mem := (M 63 3, ms M 63 3 v)
theorem v_X9_seed {c : Nat} (hc : c ≤ 10) (v : Int32) (M : Mem) (hM : M 63 1 = nI c) : V m_X9_seed 0 [(0, .ref 62), (1, .int v)] [] M (RT (some (.int ((pSeed c v M).1))) ((pSeed c v M).2)) := by
  refine V.aload_n dX9_seed_0 rfl rfl rfl ?_
  refine V.getr dX9_seed_1 fg_X9_7 rfl rfl rfl ?_
  refine V.iconst (v := 3) dX9_seed_4 rfl rfl ?_
  refine V.ialdN (j := 3) (v := M 63 3) dX9_seed_5 rfl (by decide) (by decide) rfl rfl rfl ?_
  refine V.ist_n dX9_seed_6 rfl (by decide) (L' := [(0, .ref 62), (1, .int v), (2, .int (M 63 3))]) rfl rfl ?_
  refine V.aload_n dX9_seed_7 rfl rfl rfl ?_
  refine V.getr dX9_seed_8 fg_X9_7 rfl rfl rfl ?_
  refine V.iconst (v := 3) dX9_seed_11 rfl rfl ?_
  refine V.iload_n dX9_seed_12 rfl rfl rfl ?_
  refine V.iastN (j := 3) dX9_seed_13 rfl (by decide) (by decide) rfl (M' := (ms M 63 3 v)) rfl rfl ?_
  refine V.iload_n dX9_seed_14 rfl rfl rfl ?_
  exact V.ret dX9_seed_15 rfl rfl ⟨rfl, rfl⟩
def pWipe (c : Nat) (M : Mem) : Int32 × Mem := (M 62 6, ms M 62 6 0)
theorem v_X9_wipe {c : Nat} (hc : c ≤ 10)  (M : Mem) (hM : M 63 1 = nI c) : V m_X9_wipe 0 [(0, .ref 62)] [] M (RT (some (.int ((pWipe c M).1))) ((pWipe c M).2)) := by
  refine V.aload_n dX9_wipe_0 rfl rfl rfl ?_
  refine V.geti (v := M 62 6) dX9_wipe_1 fg_X9_218 rfl rfl rfl rfl ?_
  refine V.ist_n dX9_wipe_4 rfl (by decide) (L' := [(0, .ref 62), (1, .int (M 62 6))]) rfl rfl ?_
  refine V.aload_n dX9_wipe_5 rfl rfl rfl ?_
  refine V.iconst (v := 0) dX9_wipe_6 rfl rfl ?_
  refine V.puti dX9_wipe_7 fp_X9_218 rfl rfl rfl rfl (M' := (ms M 62 6 0)) rfl rfl ?_
  refine V.iload_n dX9_wipe_10 rfl rfl rfl ?_
  exact V.ret dX9_wipe_11 rfl rfl ⟨rfl, rfl⟩
def pHold (c : Nat) (x b : Int32) (M : Mem) : Int32 × Mem := if ¬ (rng 0 9 x ∧ (b = -1 ∨ isB c b)) then (-1000001, fdM 0 M) else (1, ms M 63 (106 + x.toNatClampNeg) b)
theorem v_X9_hold {c : Nat} (hc : c ≤ 10) (x b : Int32) (M : Mem) (hM : M 63 1 = nI c) : V m_X9_hold 0 [(0, .ref 62), (1, .int x), (2, .int b)] [] M (RT (some (.int ((pHold c x b M).1))) ((pHold c x b M).2)) := by
  refine V.iload_n dX9_hold_0 rfl rfl rfl ?_
  refine V.i2l (v := Int32.toInt64 x) dX9_hold_1 rfl rfl ?_
  refine V.lconst (v := 0) dX9_hold_2 rfl rfl ?_
  refine V.ldc2 (v := 9) dX9_hold_3 cl_X9_78 rfl ?_
  refine V.calls_i (M1 := M) (v := if rng 0 9 x then 1 else 0) (md' := m_X9_in) (As := [.long (Int32.toInt64 x), .long 0, .long 9]) (rest := []) dX9_hold_6 ml_X9_38 mo_X9_in ⟨Nat.le_of_ble_eq_true rfl, Nat.le_of_ble_eq_true rfl⟩ (Nat.le_of_ble_eq_true rfl) rfl rfl (Nat.le_of_ble_eq_true rfl) (v_X9_in (x := x) (a := 0) (b := 9) rfl rfl _) rfl ?_
  refine V.ifb_eq (tgt := 25) dX9_hold_9 rfl rfl (fun c9 => ?_) (fun c9 => ?_)
  · skip
    refine V.aload_n dX9_hold_25 rfl rfl rfl ?_
    refine V.ldc (v := -1000001) dX9_hold_26 cn_X9_37 rfl ?_
    refine V.callv_i (M1 := fdM 0 M) (v := -1000001) (md' := m_X9_finds) (As := [.int (-1000001)]) (rest := []) dX9_hold_28 ml_X9_51 mo_X9_finds ⟨Nat.le_of_ble_eq_true rfl, Nat.le_of_ble_eq_true rfl⟩ rfl ⟨_, _, rfl⟩ (Nat.le_of_ble_eq_true rfl) rfl rfl (Nat.le_of_ble_eq_true rfl) (v_X9_finds (w := 0) (by decide) (-1000001) (by decide +kernel) _) rfl ?_
    exact V.ret dX9_hold_31 rfl rfl ⟨(by first | (simp (decide := true) [pHold, c9]; done) | (simp (decide := true) [pHold, c9]; done) | (simp (decide := true) [pHold, c9]; done) | (simp_all (decide := true) [pHold]; done) | (simp_all (decide := true) [pHold, ltF, leF]; done)), (by first | (simp (decide := true) [pHold, c9]; done) | (simp (decide := true) [pHold, c9]; done) | (simp (decide := true) [pHold, c9]; done) | (simp_all (decide := true) [pHold]; done) | (simp_all (decide := true) [pHold, ltF, leF]; done))⟩
  · skip
    refine V.iload_n dX9_hold_12 rfl rfl rfl ?_
    refine V.iconst (v := -1) dX9_hold_13 rfl rfl ?_
    refine V.icmp_eq (tgt := 32) dX9_hold_14 rfl rfl (fun c14 => ?_) (fun c14 => ?_)
    · skip
      obtain ⟨k, hk, rfl⟩ := of_rng (b := 9) c9
      · have ek : (nI k).toNatClampNeg = k := nI_clamp (by omega)
        refine V.aload_n dX9_hold_32 rfl rfl rfl ?_
        refine V.getr dX9_hold_33 fg_X9_7 rfl rfl rfl ?_
        refine V.bipush (v := 106) dX9_hold_36 (by decide) rfl ?_
        refine V.iload_n dX9_hold_38 rfl rfl rfl ?_
        refine V.iadd (v := nI (106 + k)) dX9_hold_39 (nI_add _ _) rfl ?_
        refine V.iload_n dX9_hold_40 rfl rfl rfl ?_
        refine V.iastN (j := 106 + k) dX9_hold_41 rfl (by omega) (by decide) rfl (M' := (ms M 63 (106 + k) b)) rfl rfl ?_
        refine V.iconst (v := 1) dX9_hold_42 rfl rfl ?_
        exact V.ret dX9_hold_43 rfl rfl ⟨(by first | (simp (decide := true) [pHold, c9, c14, ek]; done) | (simp (decide := true) [pHold, c9, c14, ek]; done) | (simp (decide := true) [pHold, c9, c14, ek]; done) | (simp_all (decide := true) [pHold]; done) | (simp_all (decide := true) [pHold, ltF, leF]; done)), (by first | (simp (decide := true) [pHold, c9, c14, ek]; done) | (simp (decide := true) [pHold, c9, c14, ek]; done) | (simp (decide := true) [pHold, c9, c14, ek]; done) | (simp_all (decide := true) [pHold]; done) | (simp_all (decide := true) [pHold, ltF, leF]; done))⟩
    · skip
      refine V.aload_n dX9_hold_17 rfl rfl rfl ?_
      refine V.iload_n dX9_hold_18 rfl rfl rfl ?_
      refine V.callv_i (M1 := M) (v := if isB c b then 1 else 0) (md' := m_X9_isBatch) (As := [.int b]) (rest := []) dX9_hold_19 ml_X9_66 mo_X9_isBatch ⟨Nat.le_of_ble_eq_true rfl, Nat.le_of_ble_eq_true rfl⟩ rfl ⟨_, _, rfl⟩ (Nat.le_of_ble_eq_true rfl) rfl rfl (Nat.le_of_ble_eq_true rfl) (v_X9_isBatch hc b M hM) rfl ?_
      refine V.ifb_ne (tgt := 32) dX9_hold_22 rfl rfl (fun c22 => ?_) (fun c22 => ?_)
      · skip
        obtain ⟨k, hk, rfl⟩ := of_rng (b := 9) c9
        · have ek : (nI k).toNatClampNeg = k := nI_clamp (by omega)
          refine V.aload_n dX9_hold_32 rfl rfl rfl ?_
          refine V.getr dX9_hold_33 fg_X9_7 rfl rfl rfl ?_
          refine V.bipush (v := 106) dX9_hold_36 (by decide) rfl ?_
          refine V.iload_n dX9_hold_38 rfl rfl rfl ?_
          refine V.iadd (v := nI (106 + k)) dX9_hold_39 (nI_add _ _) rfl ?_
          refine V.iload_n dX9_hold_40 rfl rfl rfl ?_
          refine V.iastN (j := 106 + k) dX9_hold_41 rfl (by omega) (by decide) rfl (M' := (ms M 63 (106 + k) b)) rfl rfl ?_
          refine V.iconst (v := 1) dX9_hold_42 rfl rfl ?_
          exact V.ret dX9_hold_43 rfl rfl ⟨(by first | (simp (decide := true) [pHold, c9, c14, c22, ek]; done) | (simp (decide := true) [pHold, c9, c14, c22, ek]; done) | (simp (decide := true) [pHold, c9, c14, c22, ek]; done) | (simp_all (decide := true) [pHold]; done) | (simp_all (decide := true) [pHold, ltF, leF]; done)), (by first | (simp (decide := true) [pHold, c9, c14, c22, ek]; done) | (simp (decide := true) [pHold, c9, c14, c22, ek]; done) | (simp (decide := true) [pHold, c9, c14, c22, ek]; done) | (simp_all (decide := true) [pHold]; done) | (simp_all (decide := true) [pHold, ltF, leF]; done))⟩
      · skip
        refine V.aload_n dX9_hold_25 rfl rfl rfl ?_
        refine V.ldc (v := -1000001) dX9_hold_26 cn_X9_37 rfl ?_
        refine V.callv_i (M1 := fdM 0 M) (v := -1000001) (md' := m_X9_finds) (As := [.int (-1000001)]) (rest := []) dX9_hold_28 ml_X9_51 mo_X9_finds ⟨Nat.le_of_ble_eq_true rfl, Nat.le_of_ble_eq_true rfl⟩ rfl ⟨_, _, rfl⟩ (Nat.le_of_ble_eq_true rfl) rfl rfl (Nat.le_of_ble_eq_true rfl) (v_X9_finds (w := 0) (by decide) (-1000001) (by decide +kernel) _) rfl ?_
        exact V.ret dX9_hold_31 rfl rfl ⟨(by first | (simp (decide := true) [pHold, c9, c14, c22]; done) | (simp (decide := true) [pHold, c9, c14, c22]; done) | (simp (decide := true) [pHold, c9, c14, c22]; done) | (simp_all (decide := true) [pHold]; done) | (simp_all (decide := true) [pHold, ltF, leF]; done)), (by first | (simp (decide := true) [pHold, c9, c14, c22]; done) | (simp (decide := true) [pHold, c9, c14, c22]; done) | (simp (decide := true) [pHold, c9, c14, c22]; done) | (simp_all (decide := true) [pHold]; done) | (simp_all (decide := true) [pHold, ltF, leF]; done))⟩
def undP (kd k : Int32) : Bool := decide (k = 0 ∨ kd = k ∨ (k = 1 ∧ kd = 3) ∨ (k = 2 ∧ kd = 4) ∨ (k = 5 ∧ kd = 6))
def pAs (c : Nat) (x w : Int32) (M : Mem) : Int32 × Mem := if ¬ (rng 0 9 x ∧ rng 0 6 w) then (-1000001, fdM 0 M) else if M 63 (106 + x.toNatClampNeg) < 0 then (-1000006, fdM 5 M) else if undP (M 63 (20 + 5 * (M 63 (106 + x.toNatClampNeg)).toNatClampNeg)) w then (M 63 (106 + x.toNatClampNeg), M) else (-1000003, fdM 2 M)
theorem v_X9_as {c : Nat} (hc : c ≤ 10) (x w : Int32) (M : Mem) (hM : M 63 1 = nI c) (hS : ∀ k, k < 10 → ∃ o : Option Nat, M 63 (106 + k) = bI o ∧ ∀ b, o = some b → b < 10) : V m_X9_as 0 [(0, .ref 62), (1, .int x), (2, .int w)] [] M (RT (some (.int ((pAs c x w M).1))) ((pAs c x w M).2)) := by
  refine V.iload_n dX9_as_0 rfl rfl rfl ?_
  refine V.i2l (v := Int32.toInt64 x) dX9_as_1 rfl rfl ?_
  refine V.lconst (v := 0) dX9_as_2 rfl rfl ?_
  refine V.ldc2 (v := 9) dX9_as_3 cl_X9_78 rfl ?_
  refine V.calls_i (M1 := M) (v := if rng 0 9 x then 1 else 0) (md' := m_X9_in) (As := [.long (Int32.toInt64 x), .long 0, .long 9]) (rest := []) dX9_as_6 ml_X9_38 mo_X9_in ⟨Nat.le_of_ble_eq_true rfl, Nat.le_of_ble_eq_true rfl⟩ (Nat.le_of_ble_eq_true rfl) rfl rfl (Nat.le_of_ble_eq_true rfl) (v_X9_in (x := x) (a := 0) (b := 9) rfl rfl _) rfl ?_
  refine V.ifb_eq (tgt := 24) dX9_as_9 rfl rfl (fun c9 => ?_) (fun c9 => ?_)
  · skip
    refine V.aload_n dX9_as_24 rfl rfl rfl ?_
    refine V.ldc (v := -1000001) dX9_as_25 cn_X9_37 rfl ?_
    refine V.callv_i (M1 := fdM 0 M) (v := -1000001) (md' := m_X9_finds) (As := [.int (-1000001)]) (rest := []) dX9_as_27 ml_X9_51 mo_X9_finds ⟨Nat.le_of_ble_eq_true rfl, Nat.le_of_ble_eq_true rfl⟩ rfl ⟨_, _, rfl⟩ (Nat.le_of_ble_eq_true rfl) rfl rfl (Nat.le_of_ble_eq_true rfl) (v_X9_finds (w := 0) (by decide) (-1000001) (by decide +kernel) _) rfl ?_
    exact V.ret dX9_as_30 rfl rfl ⟨(by first | (simp (decide := true) [pAs, undP, c9]; done) | (simp (decide := true) [pAs, undP, c9]; done) | (simp (decide := true) [pAs, undP, c9]; done) | (simp_all (decide := true) [pAs, undP]; done) | (simp_all (decide := true) [pAs, undP, ltF, leF]; done)), (by first | (simp (decide := true) [pAs, undP, c9]; done) | (simp (decide := true) [pAs, undP, c9]; done) | (simp (decide := true) [pAs, undP, c9]; done) | (simp_all (decide := true) [pAs, undP]; done) | (simp_all (decide := true) [pAs, undP, ltF, leF]; done))⟩
  · skip
    refine V.iload_n dX9_as_12 rfl rfl rfl ?_
    refine V.i2l (v := Int32.toInt64 w) dX9_as_13 rfl rfl ?_
    refine V.lconst (v := 0) dX9_as_14 rfl rfl ?_
    refine V.ldc2 (v := 6) dX9_as_15 cl_X9_49 rfl ?_
    refine V.calls_i (M1 := M) (v := if rng 0 6 w then 1 else 0) (md' := m_X9_in) (As := [.long (Int32.toInt64 w), .long 0, .long 6]) (rest := []) dX9_as_18 ml_X9_38 mo_X9_in ⟨Nat.le_of_ble_eq_true rfl, Nat.le_of_ble_eq_true rfl⟩ (Nat.le_of_ble_eq_true rfl) rfl rfl (Nat.le_of_ble_eq_true rfl) (v_X9_in (x := w) (a := 0) (b := 6) rfl rfl _) rfl ?_
    refine V.ifb_ne (tgt := 31) dX9_as_21 rfl rfl (fun c21 => ?_) (fun c21 => ?_)
    · skip
      obtain ⟨k, hk, rfl⟩ := of_rng (b := 9) c9
      · have ek : (nI k).toNatClampNeg = k := nI_clamp (by omega)
        obtain ⟨o, ho, hob⟩ := hS k (by omega)
        refine V.aload_n dX9_as_31 rfl rfl rfl ?_
        refine V.getr dX9_as_32 fg_X9_7 rfl rfl rfl ?_
        refine V.bipush (v := 106) dX9_as_35 (by decide) rfl ?_
        refine V.iload_n dX9_as_37 rfl rfl rfl ?_
        refine V.iadd (v := nI (106 + k)) dX9_as_38 (nI_add _ _) rfl ?_
        refine V.ialdN (j := 106 + k) (v := bI o) dX9_as_39 rfl (by omega) (by decide) rfl ho rfl ?_
        refine V.ist_n dX9_as_40 rfl (by decide) (L' := [(0, .ref 62), (1, .int (nI k)), (2, .int w), (3, .int (bI o))]) rfl rfl ?_
        refine V.iload_n dX9_as_41 rfl rfl rfl ?_
        rcases o with _ | b
        · have ho2 : M 63 (106 + k) = -1 := ho
          refine V.if_ge (tgt := 53) dX9_as_42 rfl rfl (fun c42 => absurd c42 (by decide)) (fun _ => ?_)
          refine V.aload_n dX9_as_45 rfl rfl rfl ?_
          refine V.ldcw (v := -1000006) dX9_as_46 cn_X9_325 rfl ?_
          refine V.callv_i (M1 := fdM 5 M) (v := -1000006) (md' := m_X9_finds) (As := [.int (-1000006)]) (rest := []) dX9_as_49 ml_X9_51 mo_X9_finds ⟨Nat.le_of_ble_eq_true rfl, Nat.le_of_ble_eq_true rfl⟩ rfl ⟨_, _, rfl⟩ (Nat.le_of_ble_eq_true rfl) rfl rfl (Nat.le_of_ble_eq_true rfl) (v_X9_finds (w := 5) (by decide) (-1000006) (by decide +kernel) _) rfl ?_
          exact V.ret dX9_as_52 rfl rfl ⟨(by first | (simp (decide := true) [pAs, undP, c9, c21, ek, ho2]; done) | (simp (decide := true) [pAs, undP, c9, c21, ek, ho2]; done) | (simp (decide := true) [pAs, undP, c9, c21, ek, ho2]; done) | (simp_all (decide := true) [pAs, undP]; done) | (simp_all (decide := true) [pAs, undP, ltF, leF]; done)), (by first | (simp (decide := true) [pAs, undP, c9, c21, ek, ho2]; done) | (simp (decide := true) [pAs, undP, c9, c21, ek, ho2]; done) | (simp (decide := true) [pAs, undP, c9, c21, ek, ho2]; done) | (simp_all (decide := true) [pAs, undP]; done) | (simp_all (decide := true) [pAs, undP, ltF, leF]; done))⟩
        · have hb : b < 10 := hob b rfl
          have ho2 : M 63 (106 + k) = nI b := ho
          clear ho hob
          have eb : (nI b).toNatClampNeg = b := nI_clamp (by omega)
          have hn : ¬ nI b < 0 := Int32.not_lt.mpr ((nI_leI (a := 0) (b := b) (by decide) (by omega)).mpr (Nat.zero_le b))
          refine V.if_ge (tgt := 53) dX9_as_42 rfl rfl (fun c42 => ?_) (fun c42 => absurd ((nI_leI (a := 0) (b := b) (by omega) (by omega)).mpr (by omega)) c42)
          have d42 := c42
          have c42 : 0 ≤ b := (nI_leI (a := 0) (b := b) (by omega) (by omega)).mp c42
          refine V.aload_n dX9_as_53 rfl rfl rfl ?_
          refine V.iload_n dX9_as_54 rfl rfl rfl ?_
          refine V.iconst (v := 0) dX9_as_55 rfl rfl ?_
          refine V.callv_i (M1 := M) (v := M 63 (20 + 5 * b)) (md' := m_X9_its) (As := [.int (nI b), .int 0]) (rest := []) dX9_as_56 ml_X9_60 mo_X9_its ⟨Nat.le_of_ble_eq_true rfl, Nat.le_of_ble_eq_true rfl⟩ rfl ⟨_, _, rfl⟩ (Nat.le_of_ble_eq_true rfl) rfl rfl (Nat.le_of_ble_eq_true rfl) (v_X9_its (b := b) (w := 0) (by omega) (by omega) _) rfl ?_
          refine V.ist dX9_as_59 (by decide) (L' := [(0, .ref 62), (1, .int (nI k)), (2, .int w), (3, .int (nI b)), (4, .int (M 63 (20 + 5 * b)))]) rfl rfl ?_
          refine V.iload_n dX9_as_61 rfl rfl rfl ?_
          refine V.if_eq (tgt := 105) dX9_as_62 rfl rfl (fun c62 => ?_) (fun c62 => ?_)
          · skip
            refine V.iconst (v := 1) dX9_as_105 rfl rfl ?_
            refine V.goto (pc' := 110) dX9_as_106 rfl ?_
            refine V.ist dX9_as_110 (by decide) (L' := [(0, .ref 62), (1, .int (nI k)), (2, .int w), (3, .int (nI b)), (4, .int (M 63 (20 + 5 * b))), (5, .int 1)]) rfl rfl ?_
            refine V.iload dX9_as_112 rfl rfl ?_
            refine V.if_eq (tgt := 121) dX9_as_114 rfl rfl (fun c114 => absurd c114 (by decide)) (fun _ => ?_)
            refine V.iload_n dX9_as_117 rfl rfl rfl ?_
            refine V.goto (pc' := 128) dX9_as_118 rfl ?_
            exact V.ret dX9_as_128 rfl rfl ⟨(by first | (simp (decide := true) [pAs, undP, c9, c21, ek, ho2, hn, eb, d42, c62]; done) | (simp (decide := true) [pAs, undP, c9, c21, ek, ho2, hn, eb, c42, c62]; done) | (simp (decide := true) [pAs, undP, c9, c21, ek, ho2, hn, eb, d42, c62, c42]; done) | (simp_all (decide := true) [pAs, undP]; done) | (simp_all (decide := true) [pAs, undP, ltF, leF]; done)), (by first | (simp (decide := true) [pAs, undP, c9, c21, ek, ho2, hn, eb, d42, c62]; done) | (simp (decide := true) [pAs, undP, c9, c21, ek, ho2, hn, eb, c42, c62]; done) | (simp (decide := true) [pAs, undP, c9, c21, ek, ho2, hn, eb, d42, c62, c42]; done) | (simp_all (decide := true) [pAs, undP]; done) | (simp_all (decide := true) [pAs, undP, ltF, leF]; done))⟩
          · skip
            refine V.iload dX9_as_65 rfl rfl ?_
            refine V.iload_n dX9_as_67 rfl rfl rfl ?_
            refine V.icmp_eq (tgt := 105) dX9_as_68 rfl rfl (fun c68 => ?_) (fun c68 => ?_)
            · skip
              refine V.iconst (v := 1) dX9_as_105 rfl rfl ?_
              refine V.goto (pc' := 110) dX9_as_106 rfl ?_
              refine V.ist dX9_as_110 (by decide) (L' := [(0, .ref 62), (1, .int (nI k)), (2, .int w), (3, .int (nI b)), (4, .int (M 63 (20 + 5 * b))), (5, .int 1)]) rfl rfl ?_
              refine V.iload dX9_as_112 rfl rfl ?_
              refine V.if_eq (tgt := 121) dX9_as_114 rfl rfl (fun c114 => absurd c114 (by decide)) (fun _ => ?_)
              refine V.iload_n dX9_as_117 rfl rfl rfl ?_
              refine V.goto (pc' := 128) dX9_as_118 rfl ?_
              exact V.ret dX9_as_128 rfl rfl ⟨(by first | (simp (decide := true) [pAs, undP, c9, c21, ek, ho2, hn, eb, d42, c62, c68]; done) | (simp (decide := true) [pAs, undP, c9, c21, ek, ho2, hn, eb, c42, c62, c68]; done) | (simp (decide := true) [pAs, undP, c9, c21, ek, ho2, hn, eb, d42, c62, c68, c42]; done) | (simp_all (decide := true) [pAs, undP]; done) | (simp_all (decide := true) [pAs, undP, ltF, leF]; done)), (by first | (simp (decide := true) [pAs, undP, c9, c21, ek, ho2, hn, eb, d42, c62, c68]; done) | (simp (decide := true) [pAs, undP, c9, c21, ek, ho2, hn, eb, c42, c62, c68]; done) | (simp (decide := true) [pAs, undP, c9, c21, ek, ho2, hn, eb, d42, c62, c68, c42]; done) | (simp_all (decide := true) [pAs, undP]; done) | (simp_all (decide := true) [pAs, undP, ltF, leF]; done))⟩
            · skip
              refine V.iload_n dX9_as_71 rfl rfl rfl ?_
              refine V.iconst (v := 1) dX9_as_72 rfl rfl ?_
              refine V.icmp_ne (tgt := 82) dX9_as_73 rfl rfl (fun c73 => ?_) (fun c73 => ?_)
              · skip
                refine V.iload_n dX9_as_82 rfl rfl rfl ?_
                refine V.iconst (v := 2) dX9_as_83 rfl rfl ?_
                refine V.icmp_ne (tgt := 93) dX9_as_84 rfl rfl (fun c84 => ?_) (fun c84 => ?_)
                · skip
                  refine V.iload_n dX9_as_93 rfl rfl rfl ?_
                  refine V.iconst (v := 5) dX9_as_94 rfl rfl ?_
                  refine V.icmp_ne (tgt := 109) dX9_as_95 rfl rfl (fun c95 => ?_) (fun c95 => ?_)
                  · skip
                    refine V.iconst (v := 0) dX9_as_109 rfl rfl ?_
                    refine V.ist dX9_as_110 (by decide) (L' := [(0, .ref 62), (1, .int (nI k)), (2, .int w), (3, .int (nI b)), (4, .int (M 63 (20 + 5 * b))), (5, .int 0)]) rfl rfl ?_
                    refine V.iload dX9_as_112 rfl rfl ?_
                    refine V.if_eq (tgt := 121) dX9_as_114 rfl rfl (fun _ => ?_) (fun c114 => absurd c114 (by decide))
                    refine V.aload_n dX9_as_121 rfl rfl rfl ?_
                    refine V.ldcw (v := -1000003) dX9_as_122 cn_X9_326 rfl ?_
                    refine V.callv_i (M1 := fdM 2 M) (v := -1000003) (md' := m_X9_finds) (As := [.int (-1000003)]) (rest := []) dX9_as_125 ml_X9_51 mo_X9_finds ⟨Nat.le_of_ble_eq_true rfl, Nat.le_of_ble_eq_true rfl⟩ rfl ⟨_, _, rfl⟩ (Nat.le_of_ble_eq_true rfl) rfl rfl (Nat.le_of_ble_eq_true rfl) (v_X9_finds (w := 2) (by decide) (-1000003) (by decide +kernel) _) rfl ?_
                    exact V.ret dX9_as_128 rfl rfl ⟨(by first | (simp (decide := true) [pAs, undP, c9, c21, ek, ho2, hn, eb, d42, c62, c68, c73, c84, c95]; done) | (simp (decide := true) [pAs, undP, c9, c21, ek, ho2, hn, eb, c42, c62, c68, c73, c84, c95]; done) | (simp (decide := true) [pAs, undP, c9, c21, ek, ho2, hn, eb, d42, c62, c68, c73, c84, c95, c42]; done) | (simp_all (decide := true) [pAs, undP]; done) | (simp_all (decide := true) [pAs, undP, ltF, leF]; done)), (by first | (simp (decide := true) [pAs, undP, c9, c21, ek, ho2, hn, eb, d42, c62, c68, c73, c84, c95]; done) | (simp (decide := true) [pAs, undP, c9, c21, ek, ho2, hn, eb, c42, c62, c68, c73, c84, c95]; done) | (simp (decide := true) [pAs, undP, c9, c21, ek, ho2, hn, eb, d42, c62, c68, c73, c84, c95, c42]; done) | (simp_all (decide := true) [pAs, undP]; done) | (simp_all (decide := true) [pAs, undP, ltF, leF]; done))⟩
                  · skip
                    refine V.iload dX9_as_98 rfl rfl ?_
                    refine V.bipush (v := 6) dX9_as_100 (by decide) rfl ?_
                    refine V.icmp_ne (tgt := 109) dX9_as_102 rfl rfl (fun c102 => ?_) (fun c102 => ?_)
                    · skip
                      refine V.iconst (v := 0) dX9_as_109 rfl rfl ?_
                      refine V.ist dX9_as_110 (by decide) (L' := [(0, .ref 62), (1, .int (nI k)), (2, .int w), (3, .int (nI b)), (4, .int (M 63 (20 + 5 * b))), (5, .int 0)]) rfl rfl ?_
                      refine V.iload dX9_as_112 rfl rfl ?_
                      refine V.if_eq (tgt := 121) dX9_as_114 rfl rfl (fun _ => ?_) (fun c114 => absurd c114 (by decide))
                      refine V.aload_n dX9_as_121 rfl rfl rfl ?_
                      refine V.ldcw (v := -1000003) dX9_as_122 cn_X9_326 rfl ?_
                      refine V.callv_i (M1 := fdM 2 M) (v := -1000003) (md' := m_X9_finds) (As := [.int (-1000003)]) (rest := []) dX9_as_125 ml_X9_51 mo_X9_finds ⟨Nat.le_of_ble_eq_true rfl, Nat.le_of_ble_eq_true rfl⟩ rfl ⟨_, _, rfl⟩ (Nat.le_of_ble_eq_true rfl) rfl rfl (Nat.le_of_ble_eq_true rfl) (v_X9_finds (w := 2) (by decide) (-1000003) (by decide +kernel) _) rfl ?_
                      exact V.ret dX9_as_128 rfl rfl ⟨(by first | (simp (decide := true) [pAs, undP, c9, c21, ek, ho2, hn, eb, d42, c62, c68, c73, c84, c95, c102]; done) | (simp (decide := true) [pAs, undP, c9, c21, ek, ho2, hn, eb, c42, c62, c68, c73, c84, c95, c102]; done) | (simp (decide := true) [pAs, undP, c9, c21, ek, ho2, hn, eb, d42, c62, c68, c73, c84, c95, c102, c42]; done) | (simp_all (decide := true) [pAs, undP]; done) | (simp_all (decide := true) [pAs, undP, ltF, leF]; done)), (by first | (simp (decide := true) [pAs, undP, c9, c21, ek, ho2, hn, eb, d42, c62, c68, c73, c84, c95, c102]; done) | (simp (decide := true) [pAs, undP, c9, c21, ek, ho2, hn, eb, c42, c62, c68, c73, c84, c95, c102]; done) | (simp (decide := true) [pAs, undP, c9, c21, ek, ho2, hn, eb, d42, c62, c68, c73, c84, c95, c102, c42]; done) | (simp_all (decide := true) [pAs, undP]; done) | (simp_all (decide := true) [pAs, undP, ltF, leF]; done))⟩
                    · skip
                      refine V.iconst (v := 1) dX9_as_105 rfl rfl ?_
                      refine V.goto (pc' := 110) dX9_as_106 rfl ?_
                      refine V.ist dX9_as_110 (by decide) (L' := [(0, .ref 62), (1, .int (nI k)), (2, .int w), (3, .int (nI b)), (4, .int (M 63 (20 + 5 * b))), (5, .int 1)]) rfl rfl ?_
                      refine V.iload dX9_as_112 rfl rfl ?_
                      refine V.if_eq (tgt := 121) dX9_as_114 rfl rfl (fun c114 => absurd c114 (by decide)) (fun _ => ?_)
                      refine V.iload_n dX9_as_117 rfl rfl rfl ?_
                      refine V.goto (pc' := 128) dX9_as_118 rfl ?_
                      exact V.ret dX9_as_128 rfl rfl ⟨(by first | (simp (decide := true) [pAs, undP, c9, c21, ek, ho2, hn, eb, d42, c62, c68, c73, c84, c95, c102]; done) | (simp (decide := true) [pAs, undP, c9, c21, ek, ho2, hn, eb, c42, c62, c68, c73, c84, c95, c102]; done) | (simp (decide := true) [pAs, undP, c9, c21, ek, ho2, hn, eb, d42, c62, c68, c73, c84, c95, c102, c42]; done) | (simp_all (decide := true) [pAs, undP]; done) | (simp_all (decide := true) [pAs, undP, ltF, leF]; done)), (by first | (simp (decide := true) [pAs, undP, c9, c21, ek, ho2, hn, eb, d42, c62, c68, c73, c84, c95, c102]; done) | (simp (decide := true) [pAs, undP, c9, c21, ek, ho2, hn, eb, c42, c62, c68, c73, c84, c95, c102]; done) | (simp (decide := true) [pAs, undP, c9, c21, ek, ho2, hn, eb, d42, c62, c68, c73, c84, c95, c102, c42]; done) | (simp_all (decide := true) [pAs, undP]; done) | (simp_all (decide := true) [pAs, undP, ltF, leF]; done))⟩
                · skip
                  refine V.iload dX9_as_87 rfl rfl ?_
                  refine V.iconst (v := 4) dX9_as_89 rfl rfl ?_
                  refine V.icmp_eq (tgt := 105) dX9_as_90 rfl rfl (fun c90 => ?_) (fun c90 => ?_)
                  · skip
                    refine V.iconst (v := 1) dX9_as_105 rfl rfl ?_
                    refine V.goto (pc' := 110) dX9_as_106 rfl ?_
                    refine V.ist dX9_as_110 (by decide) (L' := [(0, .ref 62), (1, .int (nI k)), (2, .int w), (3, .int (nI b)), (4, .int (M 63 (20 + 5 * b))), (5, .int 1)]) rfl rfl ?_
                    refine V.iload dX9_as_112 rfl rfl ?_
                    refine V.if_eq (tgt := 121) dX9_as_114 rfl rfl (fun c114 => absurd c114 (by decide)) (fun _ => ?_)
                    refine V.iload_n dX9_as_117 rfl rfl rfl ?_
                    refine V.goto (pc' := 128) dX9_as_118 rfl ?_
                    exact V.ret dX9_as_128 rfl rfl ⟨(by first | (simp (decide := true) [pAs, undP, c9, c21, ek, ho2, hn, eb, d42, c62, c68, c73, c84, c90]; done) | (simp (decide := true) [pAs, undP, c9, c21, ek, ho2, hn, eb, c42, c62, c68, c73, c84, c90]; done) | (simp (decide := true) [pAs, undP, c9, c21, ek, ho2, hn, eb, d42, c62, c68, c73, c84, c90, c42]; done) | (simp_all (decide := true) [pAs, undP]; done) | (simp_all (decide := true) [pAs, undP, ltF, leF]; done)), (by first | (simp (decide := true) [pAs, undP, c9, c21, ek, ho2, hn, eb, d42, c62, c68, c73, c84, c90]; done) | (simp (decide := true) [pAs, undP, c9, c21, ek, ho2, hn, eb, c42, c62, c68, c73, c84, c90]; done) | (simp (decide := true) [pAs, undP, c9, c21, ek, ho2, hn, eb, d42, c62, c68, c73, c84, c90, c42]; done) | (simp_all (decide := true) [pAs, undP]; done) | (simp_all (decide := true) [pAs, undP, ltF, leF]; done))⟩
                  · skip
                    refine V.iload_n dX9_as_93 rfl rfl rfl ?_
                    refine V.iconst (v := 5) dX9_as_94 rfl rfl ?_
                    refine V.icmp_ne (tgt := 109) dX9_as_95 rfl rfl (fun c95 => ?_) (fun c95 => ?_)
                    · skip
                      refine V.iconst (v := 0) dX9_as_109 rfl rfl ?_
                      refine V.ist dX9_as_110 (by decide) (L' := [(0, .ref 62), (1, .int (nI k)), (2, .int w), (3, .int (nI b)), (4, .int (M 63 (20 + 5 * b))), (5, .int 0)]) rfl rfl ?_
                      refine V.iload dX9_as_112 rfl rfl ?_
                      refine V.if_eq (tgt := 121) dX9_as_114 rfl rfl (fun _ => ?_) (fun c114 => absurd c114 (by decide))
                      refine V.aload_n dX9_as_121 rfl rfl rfl ?_
                      refine V.ldcw (v := -1000003) dX9_as_122 cn_X9_326 rfl ?_
                      refine V.callv_i (M1 := fdM 2 M) (v := -1000003) (md' := m_X9_finds) (As := [.int (-1000003)]) (rest := []) dX9_as_125 ml_X9_51 mo_X9_finds ⟨Nat.le_of_ble_eq_true rfl, Nat.le_of_ble_eq_true rfl⟩ rfl ⟨_, _, rfl⟩ (Nat.le_of_ble_eq_true rfl) rfl rfl (Nat.le_of_ble_eq_true rfl) (v_X9_finds (w := 2) (by decide) (-1000003) (by decide +kernel) _) rfl ?_
                      exact V.ret dX9_as_128 rfl rfl ⟨(by first | (simp (decide := true) [pAs, undP, c9, c21, ek, ho2, hn, eb, d42, c62, c68, c73, c84, c90, c95]; done) | (simp (decide := true) [pAs, undP, c9, c21, ek, ho2, hn, eb, c42, c62, c68, c73, c84, c90, c95]; done) | (simp (decide := true) [pAs, undP, c9, c21, ek, ho2, hn, eb, d42, c62, c68, c73, c84, c90, c95, c42]; done) | (simp_all (decide := true) [pAs, undP]; done) | (simp_all (decide := true) [pAs, undP, ltF, leF]; done)), (by first | (simp (decide := true) [pAs, undP, c9, c21, ek, ho2, hn, eb, d42, c62, c68, c73, c84, c90, c95]; done) | (simp (decide := true) [pAs, undP, c9, c21, ek, ho2, hn, eb, c42, c62, c68, c73, c84, c90, c95]; done) | (simp (decide := true) [pAs, undP, c9, c21, ek, ho2, hn, eb, d42, c62, c68, c73, c84, c90, c95, c42]; done) | (simp_all (decide := true) [pAs, undP]; done) | (simp_all (decide := true) [pAs, undP, ltF, leF]; done))⟩
                    · skip
                      refine V.iload dX9_as_98 rfl rfl ?_
                      refine V.bipush (v := 6) dX9_as_100 (by decide) rfl ?_
                      refine V.icmp_ne (tgt := 109) dX9_as_102 rfl rfl (fun c102 => ?_) (fun c102 => ?_)
                      · skip
                        refine V.iconst (v := 0) dX9_as_109 rfl rfl ?_
                        refine V.ist dX9_as_110 (by decide) (L' := [(0, .ref 62), (1, .int (nI k)), (2, .int w), (3, .int (nI b)), (4, .int (M 63 (20 + 5 * b))), (5, .int 0)]) rfl rfl ?_
                        refine V.iload dX9_as_112 rfl rfl ?_
                        refine V.if_eq (tgt := 121) dX9_as_114 rfl rfl (fun _ => ?_) (fun c114 => absurd c114 (by decide))
                        refine V.aload_n dX9_as_121 rfl rfl rfl ?_
                        refine V.ldcw (v := -1000003) dX9_as_122 cn_X9_326 rfl ?_
                        refine V.callv_i (M1 := fdM 2 M) (v := -1000003) (md' := m_X9_finds) (As := [.int (-1000003)]) (rest := []) dX9_as_125 ml_X9_51 mo_X9_finds ⟨Nat.le_of_ble_eq_true rfl, Nat.le_of_ble_eq_true rfl⟩ rfl ⟨_, _, rfl⟩ (Nat.le_of_ble_eq_true rfl) rfl rfl (Nat.le_of_ble_eq_true rfl) (v_X9_finds (w := 2) (by decide) (-1000003) (by decide +kernel) _) rfl ?_
                        exact V.ret dX9_as_128 rfl rfl ⟨(by first | (simp (decide := true) [pAs, undP, c9, c21, ek, ho2, hn, eb, d42, c62, c68, c73, c84, c90, c95, c102]; done) | (simp (decide := true) [pAs, undP, c9, c21, ek, ho2, hn, eb, c42, c62, c68, c73, c84, c90, c95, c102]; done) | (simp (decide := true) [pAs, undP, c9, c21, ek, ho2, hn, eb, d42, c62, c68, c73, c84, c90, c95, c102, c42]; done) | (simp_all (decide := true) [pAs, undP]; done) | (simp_all (decide := true) [pAs, undP, ltF, leF]; done)), (by first | (simp (decide := true) [pAs, undP, c9, c21, ek, ho2, hn, eb, d42, c62, c68, c73, c84, c90, c95, c102]; done) | (simp (decide := true) [pAs, undP, c9, c21, ek, ho2, hn, eb, c42, c62, c68, c73, c84, c90, c95, c102]; done) | (simp (decide := true) [pAs, undP, c9, c21, ek, ho2, hn, eb, d42, c62, c68, c73, c84, c90, c95, c102, c42]; done) | (simp_all (decide := true) [pAs, undP]; done) | (simp_all (decide := true) [pAs, undP, ltF, leF]; done))⟩
                      · skip
                        refine V.iconst (v := 1) dX9_as_105 rfl rfl ?_
                        refine V.goto (pc' := 110) dX9_as_106 rfl ?_
                        refine V.ist dX9_as_110 (by decide) (L' := [(0, .ref 62), (1, .int (nI k)), (2, .int w), (3, .int (nI b)), (4, .int (M 63 (20 + 5 * b))), (5, .int 1)]) rfl rfl ?_
                        refine V.iload dX9_as_112 rfl rfl ?_
                        refine V.if_eq (tgt := 121) dX9_as_114 rfl rfl (fun c114 => absurd c114 (by decide)) (fun _ => ?_)
                        refine V.iload_n dX9_as_117 rfl rfl rfl ?_
                        refine V.goto (pc' := 128) dX9_as_118 rfl ?_
                        exact V.ret dX9_as_128 rfl rfl ⟨(by first | (simp (decide := true) [pAs, undP, c9, c21, ek, ho2, hn, eb, d42, c62, c68, c73, c84, c90, c95, c102]; done) | (simp (decide := true) [pAs, undP, c9, c21, ek, ho2, hn, eb, c42, c62, c68, c73, c84, c90, c95, c102]; done) | (simp (decide := true) [pAs, undP, c9, c21, ek, ho2, hn, eb, d42, c62, c68, c73, c84, c90, c95, c102, c42]; done) | (simp_all (decide := true) [pAs, undP]; done) | (simp_all (decide := true) [pAs, undP, ltF, leF]; done)), (by first | (simp (decide := true) [pAs, undP, c9, c21, ek, ho2, hn, eb, d42, c62, c68, c73, c84, c90, c95, c102]; done) | (simp (decide := true) [pAs, undP, c9, c21, ek, ho2, hn, eb, c42, c62, c68, c73, c84, c90, c95, c102]; done) | (simp (decide := true) [pAs, undP, c9, c21, ek, ho2, hn, eb, d42, c62, c68, c73, c84, c90, c95, c102, c42]; done) | (simp_all (decide := true) [pAs, undP]; done) | (simp_all (decide := true) [pAs, undP, ltF, leF]; done))⟩
              · skip
                refine V.iload dX9_as_76 rfl rfl ?_
                refine V.iconst (v := 3) dX9_as_78 rfl rfl ?_
                refine V.icmp_eq (tgt := 105) dX9_as_79 rfl rfl (fun c79 => ?_) (fun c79 => ?_)
                · skip
                  refine V.iconst (v := 1) dX9_as_105 rfl rfl ?_
                  refine V.goto (pc' := 110) dX9_as_106 rfl ?_
                  refine V.ist dX9_as_110 (by decide) (L' := [(0, .ref 62), (1, .int (nI k)), (2, .int w), (3, .int (nI b)), (4, .int (M 63 (20 + 5 * b))), (5, .int 1)]) rfl rfl ?_
                  refine V.iload dX9_as_112 rfl rfl ?_
                  refine V.if_eq (tgt := 121) dX9_as_114 rfl rfl (fun c114 => absurd c114 (by decide)) (fun _ => ?_)
                  refine V.iload_n dX9_as_117 rfl rfl rfl ?_
                  refine V.goto (pc' := 128) dX9_as_118 rfl ?_
                  exact V.ret dX9_as_128 rfl rfl ⟨(by first | (simp (decide := true) [pAs, undP, c9, c21, ek, ho2, hn, eb, d42, c62, c68, c73, c79]; done) | (simp (decide := true) [pAs, undP, c9, c21, ek, ho2, hn, eb, c42, c62, c68, c73, c79]; done) | (simp (decide := true) [pAs, undP, c9, c21, ek, ho2, hn, eb, d42, c62, c68, c73, c79, c42]; done) | (simp_all (decide := true) [pAs, undP]; done) | (simp_all (decide := true) [pAs, undP, ltF, leF]; done)), (by first | (simp (decide := true) [pAs, undP, c9, c21, ek, ho2, hn, eb, d42, c62, c68, c73, c79]; done) | (simp (decide := true) [pAs, undP, c9, c21, ek, ho2, hn, eb, c42, c62, c68, c73, c79]; done) | (simp (decide := true) [pAs, undP, c9, c21, ek, ho2, hn, eb, d42, c62, c68, c73, c79, c42]; done) | (simp_all (decide := true) [pAs, undP]; done) | (simp_all (decide := true) [pAs, undP, ltF, leF]; done))⟩
                · skip
                  refine V.iload_n dX9_as_82 rfl rfl rfl ?_
                  refine V.iconst (v := 2) dX9_as_83 rfl rfl ?_
                  refine V.icmp_ne (tgt := 93) dX9_as_84 rfl rfl (fun c84 => ?_) (fun c84 => ?_)
                  · skip
                    refine V.iload_n dX9_as_93 rfl rfl rfl ?_
                    refine V.iconst (v := 5) dX9_as_94 rfl rfl ?_
                    refine V.icmp_ne (tgt := 109) dX9_as_95 rfl rfl (fun c95 => ?_) (fun c95 => ?_)
                    · skip
                      refine V.iconst (v := 0) dX9_as_109 rfl rfl ?_
                      refine V.ist dX9_as_110 (by decide) (L' := [(0, .ref 62), (1, .int (nI k)), (2, .int w), (3, .int (nI b)), (4, .int (M 63 (20 + 5 * b))), (5, .int 0)]) rfl rfl ?_
                      refine V.iload dX9_as_112 rfl rfl ?_
                      refine V.if_eq (tgt := 121) dX9_as_114 rfl rfl (fun _ => ?_) (fun c114 => absurd c114 (by decide))
                      refine V.aload_n dX9_as_121 rfl rfl rfl ?_
                      refine V.ldcw (v := -1000003) dX9_as_122 cn_X9_326 rfl ?_
                      refine V.callv_i (M1 := fdM 2 M) (v := -1000003) (md' := m_X9_finds) (As := [.int (-1000003)]) (rest := []) dX9_as_125 ml_X9_51 mo_X9_finds ⟨Nat.le_of_ble_eq_true rfl, Nat.le_of_ble_eq_true rfl⟩ rfl ⟨_, _, rfl⟩ (Nat.le_of_ble_eq_true rfl) rfl rfl (Nat.le_of_ble_eq_true rfl) (v_X9_finds (w := 2) (by decide) (-1000003) (by decide +kernel) _) rfl ?_
                      exact V.ret dX9_as_128 rfl rfl ⟨(by first | (simp (decide := true) [pAs, undP, c9, c21, ek, ho2, hn, eb, d42, c62, c68, c73, c79, c84, c95]; done) | (simp (decide := true) [pAs, undP, c9, c21, ek, ho2, hn, eb, c42, c62, c68, c73, c79, c84, c95]; done) | (simp (decide := true) [pAs, undP, c9, c21, ek, ho2, hn, eb, d42, c62, c68, c73, c79, c84, c95, c42]; done) | (simp_all (decide := true) [pAs, undP]; done) | (simp_all (decide := true) [pAs, undP, ltF, leF]; done)), (by first | (simp (decide := true) [pAs, undP, c9, c21, ek, ho2, hn, eb, d42, c62, c68, c73, c79, c84, c95]; done) | (simp (decide := true) [pAs, undP, c9, c21, ek, ho2, hn, eb, c42, c62, c68, c73, c79, c84, c95]; done) | (simp (decide := true) [pAs, undP, c9, c21, ek, ho2, hn, eb, d42, c62, c68, c73, c79, c84, c95, c42]; done) | (simp_all (decide := true) [pAs, undP]; done) | (simp_all (decide := true) [pAs, undP, ltF, leF]; done))⟩
                    · skip
                      refine V.iload dX9_as_98 rfl rfl ?_
                      refine V.bipush (v := 6) dX9_as_100 (by decide) rfl ?_
                      refine V.icmp_ne (tgt := 109) dX9_as_102 rfl rfl (fun c102 => ?_) (fun c102 => ?_)
                      · skip
                        refine V.iconst (v := 0) dX9_as_109 rfl rfl ?_
                        refine V.ist dX9_as_110 (by decide) (L' := [(0, .ref 62), (1, .int (nI k)), (2, .int w), (3, .int (nI b)), (4, .int (M 63 (20 + 5 * b))), (5, .int 0)]) rfl rfl ?_
                        refine V.iload dX9_as_112 rfl rfl ?_
                        refine V.if_eq (tgt := 121) dX9_as_114 rfl rfl (fun _ => ?_) (fun c114 => absurd c114 (by decide))
                        refine V.aload_n dX9_as_121 rfl rfl rfl ?_
                        refine V.ldcw (v := -1000003) dX9_as_122 cn_X9_326 rfl ?_
                        refine V.callv_i (M1 := fdM 2 M) (v := -1000003) (md' := m_X9_finds) (As := [.int (-1000003)]) (rest := []) dX9_as_125 ml_X9_51 mo_X9_finds ⟨Nat.le_of_ble_eq_true rfl, Nat.le_of_ble_eq_true rfl⟩ rfl ⟨_, _, rfl⟩ (Nat.le_of_ble_eq_true rfl) rfl rfl (Nat.le_of_ble_eq_true rfl) (v_X9_finds (w := 2) (by decide) (-1000003) (by decide +kernel) _) rfl ?_
                        exact V.ret dX9_as_128 rfl rfl ⟨(by first | (simp (decide := true) [pAs, undP, c9, c21, ek, ho2, hn, eb, d42, c62, c68, c73, c79, c84, c95, c102]; done) | (simp (decide := true) [pAs, undP, c9, c21, ek, ho2, hn, eb, c42, c62, c68, c73, c79, c84, c95, c102]; done) | (simp (decide := true) [pAs, undP, c9, c21, ek, ho2, hn, eb, d42, c62, c68, c73, c79, c84, c95, c102, c42]; done) | (simp_all (decide := true) [pAs, undP]; done) | (simp_all (decide := true) [pAs, undP, ltF, leF]; done)), (by first | (simp (decide := true) [pAs, undP, c9, c21, ek, ho2, hn, eb, d42, c62, c68, c73, c79, c84, c95, c102]; done) | (simp (decide := true) [pAs, undP, c9, c21, ek, ho2, hn, eb, c42, c62, c68, c73, c79, c84, c95, c102]; done) | (simp (decide := true) [pAs, undP, c9, c21, ek, ho2, hn, eb, d42, c62, c68, c73, c79, c84, c95, c102, c42]; done) | (simp_all (decide := true) [pAs, undP]; done) | (simp_all (decide := true) [pAs, undP, ltF, leF]; done))⟩
                      · skip
                        refine V.iconst (v := 1) dX9_as_105 rfl rfl ?_
                        refine V.goto (pc' := 110) dX9_as_106 rfl ?_
                        refine V.ist dX9_as_110 (by decide) (L' := [(0, .ref 62), (1, .int (nI k)), (2, .int w), (3, .int (nI b)), (4, .int (M 63 (20 + 5 * b))), (5, .int 1)]) rfl rfl ?_
                        refine V.iload dX9_as_112 rfl rfl ?_
                        refine V.if_eq (tgt := 121) dX9_as_114 rfl rfl (fun c114 => absurd c114 (by decide)) (fun _ => ?_)
                        refine V.iload_n dX9_as_117 rfl rfl rfl ?_
                        refine V.goto (pc' := 128) dX9_as_118 rfl ?_
                        exact V.ret dX9_as_128 rfl rfl ⟨(by first | (simp (decide := true) [pAs, undP, c9, c21, ek, ho2, hn, eb, d42, c62, c68, c73, c79, c84, c95, c102]; done) | (simp (decide := true) [pAs, undP, c9, c21, ek, ho2, hn, eb, c42, c62, c68, c73, c79, c84, c95, c102]; done) | (simp (decide := true) [pAs, undP, c9, c21, ek, ho2, hn, eb, d42, c62, c68, c73, c79, c84, c95, c102, c42]; done) | (simp_all (decide := true) [pAs, undP]; done) | (simp_all (decide := true) [pAs, undP, ltF, leF]; done)), (by first | (simp (decide := true) [pAs, undP, c9, c21, ek, ho2, hn, eb, d42, c62, c68, c73, c79, c84, c95, c102]; done) | (simp (decide := true) [pAs, undP, c9, c21, ek, ho2, hn, eb, c42, c62, c68, c73, c79, c84, c95, c102]; done) | (simp (decide := true) [pAs, undP, c9, c21, ek, ho2, hn, eb, d42, c62, c68, c73, c79, c84, c95, c102, c42]; done) | (simp_all (decide := true) [pAs, undP]; done) | (simp_all (decide := true) [pAs, undP, ltF, leF]; done))⟩
                  · skip
                    refine V.iload dX9_as_87 rfl rfl ?_
                    refine V.iconst (v := 4) dX9_as_89 rfl rfl ?_
                    refine V.icmp_eq (tgt := 105) dX9_as_90 rfl rfl (fun c90 => ?_) (fun c90 => ?_)
                    · skip
                      refine V.iconst (v := 1) dX9_as_105 rfl rfl ?_
                      refine V.goto (pc' := 110) dX9_as_106 rfl ?_
                      refine V.ist dX9_as_110 (by decide) (L' := [(0, .ref 62), (1, .int (nI k)), (2, .int w), (3, .int (nI b)), (4, .int (M 63 (20 + 5 * b))), (5, .int 1)]) rfl rfl ?_
                      refine V.iload dX9_as_112 rfl rfl ?_
                      refine V.if_eq (tgt := 121) dX9_as_114 rfl rfl (fun c114 => absurd c114 (by decide)) (fun _ => ?_)
                      refine V.iload_n dX9_as_117 rfl rfl rfl ?_
                      refine V.goto (pc' := 128) dX9_as_118 rfl ?_
                      exact V.ret dX9_as_128 rfl rfl ⟨(by first | (simp (decide := true) [pAs, undP, c9, c21, ek, ho2, hn, eb, d42, c62, c68, c73, c79, c84, c90]; done) | (simp (decide := true) [pAs, undP, c9, c21, ek, ho2, hn, eb, c42, c62, c68, c73, c79, c84, c90]; done) | (simp (decide := true) [pAs, undP, c9, c21, ek, ho2, hn, eb, d42, c62, c68, c73, c79, c84, c90, c42]; done) | (simp_all (decide := true) [pAs, undP]; done) | (simp_all (decide := true) [pAs, undP, ltF, leF]; done)), (by first | (simp (decide := true) [pAs, undP, c9, c21, ek, ho2, hn, eb, d42, c62, c68, c73, c79, c84, c90]; done) | (simp (decide := true) [pAs, undP, c9, c21, ek, ho2, hn, eb, c42, c62, c68, c73, c79, c84, c90]; done) | (simp (decide := true) [pAs, undP, c9, c21, ek, ho2, hn, eb, d42, c62, c68, c73, c79, c84, c90, c42]; done) | (simp_all (decide := true) [pAs, undP]; done) | (simp_all (decide := true) [pAs, undP, ltF, leF]; done))⟩
                    · skip
                      refine V.iload_n dX9_as_93 rfl rfl rfl ?_
                      refine V.iconst (v := 5) dX9_as_94 rfl rfl ?_
                      refine V.icmp_ne (tgt := 109) dX9_as_95 rfl rfl (fun c95 => ?_) (fun c95 => ?_)
                      · skip
                        refine V.iconst (v := 0) dX9_as_109 rfl rfl ?_
                        refine V.ist dX9_as_110 (by decide) (L' := [(0, .ref 62), (1, .int (nI k)), (2, .int w), (3, .int (nI b)), (4, .int (M 63 (20 + 5 * b))), (5, .int 0)]) rfl rfl ?_
                        refine V.iload dX9_as_112 rfl rfl ?_
                        refine V.if_eq (tgt := 121) dX9_as_114 rfl rfl (fun _ => ?_) (fun c114 => absurd c114 (by decide))
                        refine V.aload_n dX9_as_121 rfl rfl rfl ?_
                        refine V.ldcw (v := -1000003) dX9_as_122 cn_X9_326 rfl ?_
                        refine V.callv_i (M1 := fdM 2 M) (v := -1000003) (md' := m_X9_finds) (As := [.int (-1000003)]) (rest := []) dX9_as_125 ml_X9_51 mo_X9_finds ⟨Nat.le_of_ble_eq_true rfl, Nat.le_of_ble_eq_true rfl⟩ rfl ⟨_, _, rfl⟩ (Nat.le_of_ble_eq_true rfl) rfl rfl (Nat.le_of_ble_eq_true rfl) (v_X9_finds (w := 2) (by decide) (-1000003) (by decide +kernel) _) rfl ?_
                        exact V.ret dX9_as_128 rfl rfl ⟨(by first | (simp (decide := true) [pAs, undP, c9, c21, ek, ho2, hn, eb, d42, c62, c68, c73, c79, c84, c90, c95]; done) | (simp (decide := true) [pAs, undP, c9, c21, ek, ho2, hn, eb, c42, c62, c68, c73, c79, c84, c90, c95]; done) | (simp (decide := true) [pAs, undP, c9, c21, ek, ho2, hn, eb, d42, c62, c68, c73, c79, c84, c90, c95, c42]; done) | (simp_all (decide := true) [pAs, undP]; done) | (simp_all (decide := true) [pAs, undP, ltF, leF]; done)), (by first | (simp (decide := true) [pAs, undP, c9, c21, ek, ho2, hn, eb, d42, c62, c68, c73, c79, c84, c90, c95]; done) | (simp (decide := true) [pAs, undP, c9, c21, ek, ho2, hn, eb, c42, c62, c68, c73, c79, c84, c90, c95]; done) | (simp (decide := true) [pAs, undP, c9, c21, ek, ho2, hn, eb, d42, c62, c68, c73, c79, c84, c90, c95, c42]; done) | (simp_all (decide := true) [pAs, undP]; done) | (simp_all (decide := true) [pAs, undP, ltF, leF]; done))⟩
                      · skip
                        refine V.iload dX9_as_98 rfl rfl ?_
                        refine V.bipush (v := 6) dX9_as_100 (by decide) rfl ?_
                        refine V.icmp_ne (tgt := 109) dX9_as_102 rfl rfl (fun c102 => ?_) (fun c102 => ?_)
                        · skip
                          refine V.iconst (v := 0) dX9_as_109 rfl rfl ?_
                          refine V.ist dX9_as_110 (by decide) (L' := [(0, .ref 62), (1, .int (nI k)), (2, .int w), (3, .int (nI b)), (4, .int (M 63 (20 + 5 * b))), (5, .int 0)]) rfl rfl ?_
                          refine V.iload dX9_as_112 rfl rfl ?_
                          refine V.if_eq (tgt := 121) dX9_as_114 rfl rfl (fun _ => ?_) (fun c114 => absurd c114 (by decide))
                          refine V.aload_n dX9_as_121 rfl rfl rfl ?_
                          refine V.ldcw (v := -1000003) dX9_as_122 cn_X9_326 rfl ?_
                          refine V.callv_i (M1 := fdM 2 M) (v := -1000003) (md' := m_X9_finds) (As := [.int (-1000003)]) (rest := []) dX9_as_125 ml_X9_51 mo_X9_finds ⟨Nat.le_of_ble_eq_true rfl, Nat.le_of_ble_eq_true rfl⟩ rfl ⟨_, _, rfl⟩ (Nat.le_of_ble_eq_true rfl) rfl rfl (Nat.le_of_ble_eq_true rfl) (v_X9_finds (w := 2) (by decide) (-1000003) (by decide +kernel) _) rfl ?_
                          exact V.ret dX9_as_128 rfl rfl ⟨(by first | (simp (decide := true) [pAs, undP, c9, c21, ek, ho2, hn, eb, d42, c62, c68, c73, c79, c84, c90, c95, c102]; done) | (simp (decide := true) [pAs, undP, c9, c21, ek, ho2, hn, eb, c42, c62, c68, c73, c79, c84, c90, c95, c102]; done) | (simp (decide := true) [pAs, undP, c9, c21, ek, ho2, hn, eb, d42, c62, c68, c73, c79, c84, c90, c95, c102, c42]; done) | (simp_all (decide := true) [pAs, undP]; done) | (simp_all (decide := true) [pAs, undP, ltF, leF]; done)), (by first | (simp (decide := true) [pAs, undP, c9, c21, ek, ho2, hn, eb, d42, c62, c68, c73, c79, c84, c90, c95, c102]; done) | (simp (decide := true) [pAs, undP, c9, c21, ek, ho2, hn, eb, c42, c62, c68, c73, c79, c84, c90, c95, c102]; done) | (simp (decide := true) [pAs, undP, c9, c21, ek, ho2, hn, eb, d42, c62, c68, c73, c79, c84, c90, c95, c102, c42]; done) | (simp_all (decide := true) [pAs, undP]; done) | (simp_all (decide := true) [pAs, undP, ltF, leF]; done))⟩
                        · skip
                          refine V.iconst (v := 1) dX9_as_105 rfl rfl ?_
                          refine V.goto (pc' := 110) dX9_as_106 rfl ?_
                          refine V.ist dX9_as_110 (by decide) (L' := [(0, .ref 62), (1, .int (nI k)), (2, .int w), (3, .int (nI b)), (4, .int (M 63 (20 + 5 * b))), (5, .int 1)]) rfl rfl ?_
                          refine V.iload dX9_as_112 rfl rfl ?_
                          refine V.if_eq (tgt := 121) dX9_as_114 rfl rfl (fun c114 => absurd c114 (by decide)) (fun _ => ?_)
                          refine V.iload_n dX9_as_117 rfl rfl rfl ?_
                          refine V.goto (pc' := 128) dX9_as_118 rfl ?_
                          exact V.ret dX9_as_128 rfl rfl ⟨(by first | (simp (decide := true) [pAs, undP, c9, c21, ek, ho2, hn, eb, d42, c62, c68, c73, c79, c84, c90, c95, c102]; done) | (simp (decide := true) [pAs, undP, c9, c21, ek, ho2, hn, eb, c42, c62, c68, c73, c79, c84, c90, c95, c102]; done) | (simp (decide := true) [pAs, undP, c9, c21, ek, ho2, hn, eb, d42, c62, c68, c73, c79, c84, c90, c95, c102, c42]; done) | (simp_all (decide := true) [pAs, undP]; done) | (simp_all (decide := true) [pAs, undP, ltF, leF]; done)), (by first | (simp (decide := true) [pAs, undP, c9, c21, ek, ho2, hn, eb, d42, c62, c68, c73, c79, c84, c90, c95, c102]; done) | (simp (decide := true) [pAs, undP, c9, c21, ek, ho2, hn, eb, c42, c62, c68, c73, c79, c84, c90, c95, c102]; done) | (simp (decide := true) [pAs, undP, c9, c21, ek, ho2, hn, eb, d42, c62, c68, c73, c79, c84, c90, c95, c102, c42]; done) | (simp_all (decide := true) [pAs, undP]; done) | (simp_all (decide := true) [pAs, undP, ltF, leF]; done))⟩
    · skip
      refine V.aload_n dX9_as_24 rfl rfl rfl ?_
      refine V.ldc (v := -1000001) dX9_as_25 cn_X9_37 rfl ?_
      refine V.callv_i (M1 := fdM 0 M) (v := -1000001) (md' := m_X9_finds) (As := [.int (-1000001)]) (rest := []) dX9_as_27 ml_X9_51 mo_X9_finds ⟨Nat.le_of_ble_eq_true rfl, Nat.le_of_ble_eq_true rfl⟩ rfl ⟨_, _, rfl⟩ (Nat.le_of_ble_eq_true rfl) rfl rfl (Nat.le_of_ble_eq_true rfl) (v_X9_finds (w := 0) (by decide) (-1000001) (by decide +kernel) _) rfl ?_
      exact V.ret dX9_as_30 rfl rfl ⟨(by first | (simp (decide := true) [pAs, undP, c9, c21]; done) | (simp (decide := true) [pAs, undP, c9, c21]; done) | (simp (decide := true) [pAs, undP, c9, c21]; done) | (simp_all (decide := true) [pAs, undP]; done) | (simp_all (decide := true) [pAs, undP, ltF, leF]; done)), (by first | (simp (decide := true) [pAs, undP, c9, c21]; done) | (simp (decide := true) [pAs, undP, c9, c21]; done) | (simp (decide := true) [pAs, undP, c9, c21]; done) | (simp_all (decide := true) [pAs, undP]; done) | (simp_all (decide := true) [pAs, undP, ltF, leF]; done))⟩
def nwF (b v : Int32) : Int32 := if b = 8 then (Int32.toInt8 v).toInt32 else if b = 16 then (Int32.toInt16 v).toInt32 else v
def wrF (x : Int32) (M : Mem) : Int32 := if rng 0 3 x then (if M 68 x.toNatClampNeg = 0 then -1000006 else 0) else -1000001
theorem v_X9_narrowed (b v : Int32) (M : Mem) : V m_X9_narrowed 0 [(0, .int b), (1, .int v)] [] M (RT (some (.int (nwF b v))) M) := by
  refine V.iload_n dX9_narrowed_0 rfl rfl rfl ?_
  refine V.bipush (v := 8) dX9_narrowed_1 (by decide) rfl ?_
  refine V.icmp_ne (tgt := 11) dX9_narrowed_3 rfl rfl (fun c3 => ?_) (fun c3 => ?_)
  · skip
    refine V.iload_n dX9_narrowed_11 rfl rfl rfl ?_
    refine V.bipush (v := 16) dX9_narrowed_12 (by decide) rfl ?_
    refine V.icmp_ne (tgt := 22) dX9_narrowed_14 rfl rfl (fun c14 => ?_) (fun c14 => ?_)
    · skip
      refine V.iload_n dX9_narrowed_22 rfl rfl rfl ?_
      exact V.ret dX9_narrowed_23 rfl rfl ⟨(by simp [nwF, *]), rfl⟩
    · skip
      refine V.iload_n dX9_narrowed_17 rfl rfl rfl ?_
      refine V.i2s (v := (Int32.toInt16 v).toInt32) dX9_narrowed_18 rfl rfl ?_
      refine V.goto (pc' := 23) dX9_narrowed_19 rfl ?_
      exact V.ret dX9_narrowed_23 rfl rfl ⟨(by simp [nwF, *]), rfl⟩
  · skip
    refine V.iload_n dX9_narrowed_6 rfl rfl rfl ?_
    refine V.i2b (v := (Int32.toInt8 v).toInt32) dX9_narrowed_7 rfl rfl ?_
    refine V.goto (pc' := 23) dX9_narrowed_8 rfl ?_
    exact V.ret dX9_narrowed_23 rfl rfl ⟨(by simp [nwF, *]), rfl⟩
theorem v_X9_wrong (x : Int32) (M : Mem) : V m_X9_wrong 0 [(0, .ref 62), (1, .int x)] [] M (RT (some (.int (wrF x M))) M) := by
  refine V.iload_n dX9_wrong_0 rfl rfl rfl ?_
  refine V.calls_i (M1 := M) (v := if rng 0 3 x then 1 else 0) (md' := m_X9_isOne) (As := [.int x]) (rest := []) dX9_wrong_1 ml_X9_327 mo_X9_isOne ⟨Nat.le_of_ble_eq_true rfl, Nat.le_of_ble_eq_true rfl⟩ (Nat.le_of_ble_eq_true rfl) rfl rfl (Nat.le_of_ble_eq_true rfl) (v_X9_isOne x _) rfl ?_
  refine V.ifb_ne (tgt := 12) dX9_wrong_4 rfl rfl (fun c4 => ?_) (fun c4 => ?_)
  · skip
    obtain ⟨k, hk, rfl⟩ := of_rng (b := 3) c4
    · have ek : (nI k).toNatClampNeg = k := nI_clamp (by omega)
      refine V.aload_n dX9_wrong_12 rfl rfl rfl ?_
      refine V.getr dX9_wrong_13 fg_X9_25 rfl rfl rfl ?_
      refine V.iload_n dX9_wrong_16 rfl rfl rfl ?_
      refine V.ialdN (j := k) (v := M 68 k) dX9_wrong_17 rfl (by omega) (by decide) rfl rfl rfl ?_
      refine V.if_ne (tgt := 27) dX9_wrong_18 rfl rfl (fun c18 => ?_) (fun c18 => ?_)
      · skip
        refine V.iconst (v := 0) dX9_wrong_27 rfl rfl ?_
        exact V.ret dX9_wrong_28 rfl rfl ⟨(by simp [wrF, c4, ek, c18]), rfl⟩
      · skip
        refine V.ldcw (v := -1000006) dX9_wrong_21 cn_X9_325 rfl ?_
        refine V.goto (pc' := 28) dX9_wrong_24 rfl ?_
        exact V.ret dX9_wrong_28 rfl rfl ⟨(by simp [wrF, c4, ek, c18]), rfl⟩
  · skip
    refine V.ldc (v := -1000001) dX9_wrong_7 cn_X9_37 rfl ?_
    refine V.goto (pc' := 28) dX9_wrong_9 rfl ?_
    exact V.ret dX9_wrong_28 rfl rfl ⟨(by simp [wrF, c4]), rfl⟩
theorem wr_cases (x : Int32) (M : Mem) : (¬ rng 0 3 x ∧ wrF x M = -1000001) ∨ (∃ k, k < 4 ∧ x = nI k ∧ M 68 k = 0 ∧ wrF x M = -1000006) ∨ ∃ k, k < 4 ∧ x = nI k ∧ ¬ M 68 k = 0 ∧ wrF x M = 0 := by
  by_cases h : rng 0 3 x
  · refine .inr ?_
    obtain ⟨k, hk, rfl⟩ := of_rng (b := 3) h
    have e : (nI k).toNatClampNeg = k := nI_clamp (by omega)
    by_cases q : M 68 k = 0
    · exact .inl ⟨k, by omega, rfl, q, by rw [wrF, if_pos h, e, if_pos q]⟩
    · exact .inr ⟨k, by omega, rfl, q, by rw [wrF, if_pos h, e, if_neg q]⟩
  · exact .inl ⟨h, by rw [wrF, if_neg h]⟩
theorem rng3 {k : Nat} (hk : k < 4) : rng 0 3 (nI k) := (rng_nI (by omega)).mpr ⟨by omega, by omega⟩
def zerG (s : Nat) : Nat → Nat → Mem → Mem
  | 0, _, M => M
  | n + 1, i, M => zerG s n (i + 1) (ms M 70 (40 * s + i) 0)
theorem zerG_k {s k : Nat} (hk : k ≠ 70) : ∀ (n i : Nat) (M : Mem), zerG s n i M k = M k := by
  intro n
  induction n with
  | zero => intro i M; rfl
  | succ n ih => intro i M; simp only [zerG]; rw [ih, ms_k hk]
def sz1 (s : Nat) (bits n : Int32) (M : Mem) : Mem := ms (ms M 68 s bits) 69 s (if bits = 0 then 0 else n)
theorem l_X9_sheet {s : Nat} (hs : s < 4) (bits w : Int32) : ∀ (n i : Nat) (M : Mem), i + n = 40 → V m_X9_sheet 86 [(0, .ref 62), (1, .int (nI s)), (2, .int bits), (3, .int w), (4, .int (nI i))] [] M (RT (some (.int (zerG s n i M 69 s))) (zerG s n i M)) := by
  intro n
  induction n with
  | zero =>
    intro i M hi
    refine V.iload dX9_sheet_86 rfl rfl ?_
    refine V.bipush (v := 40) dX9_sheet_88 (by decide) rfl ?_
    refine V.icmp_ge (tgt := 112) dX9_sheet_90 rfl rfl (fun c90 => ?_) (fun c90 => absurd ((nI_leI (a := 40) (b := i) (by omega) (by omega)).mpr (by omega)) c90)
    have c90 : 40 ≤ i := (nI_leI (a := 40) (b := i) (by omega) (by omega)).mp c90
    refine V.aload_n dX9_sheet_112 rfl rfl rfl ?_
    refine V.getr dX9_sheet_113 fg_X9_28 rfl rfl rfl ?_
    refine V.iload_n dX9_sheet_116 rfl rfl rfl ?_
    refine V.ialdN (j := s) (v := M 69 s) dX9_sheet_117 rfl (by omega) (by decide) rfl rfl rfl ?_
    exact V.ret dX9_sheet_118 rfl rfl ⟨rfl, rfl⟩
  | succ n ih =>
    intro i M hi
    refine V.iload dX9_sheet_86 rfl rfl ?_
    refine V.bipush (v := 40) dX9_sheet_88 (by decide) rfl ?_
    refine V.icmp_ge (tgt := 112) dX9_sheet_90 rfl rfl (fun c90 => absurd ((nI_leI (a := 40) (b := i) (by omega) (by omega)).mp c90) (by omega)) (fun c90 => ?_)
    have c90 : ¬ 40 ≤ i := fun zq => c90 ((nI_leI (a := 40) (b := i) (by omega) (by omega)).mpr zq)
    refine V.aload_n dX9_sheet_93 rfl rfl rfl ?_
    refine V.getr dX9_sheet_94 fg_X9_31 rfl rfl rfl ?_
    refine V.bipush (v := 40) dX9_sheet_97 (by decide) rfl ?_
    refine V.iload_n dX9_sheet_99 rfl rfl rfl ?_
    refine V.imul (v := nI (40 * s)) dX9_sheet_100 (pk_mul _ _) rfl ?_
    refine V.iload dX9_sheet_101 rfl rfl ?_
    refine V.iadd (v := nI ((40 * s) + i)) dX9_sheet_103 (nI_add _ _) rfl ?_
    refine V.iconst (v := 0) dX9_sheet_104 rfl rfl ?_
    refine V.iastN (j := (40 * s) + i) dX9_sheet_105 rfl (by omega) (by decide) rfl (M' := (ms M 70 ((40 * s) + i) 0)) rfl rfl ?_
    refine V.inc (v := nI (i + 1)) dX9_sheet_106 rfl (nI_1 _) (by decide) (L' := [(0, .ref 62), (1, .int (nI s)), (2, .int bits), (3, .int w), (4, .int (nI (i + 1)))]) rfl rfl ?_
    refine V.goto (pc' := 86) dX9_sheet_109 rfl ?_
    rw [show zerG s (n + 1) i M = zerG s n (i + 1) (ms M 70 (40 * s + i) 0) from rfl]
    exact ih (i + 1) _ (by omega)
def pSheet (c : Nat) (x bits n : Int32) (M : Mem) : Int32 × Mem := if ¬ (rng 0 3 x ∧ (bits = 0 ∨ bits = 8 ∨ bits = 16 ∨ bits = 32)) then (-1000001, fdM 0 M) else if n < 0 then (-1000007, fdM 6 M) else if 40 < n then (-1000001, fdM 0 M) else (zerG x.toNatClampNeg 40 0 (sz1 x.toNatClampNeg bits n M) 69 x.toNatClampNeg, zerG x.toNatClampNeg 40 0 (sz1 x.toNatClampNeg bits n M))
theorem v_X9_sheet {c : Nat} (hc : c ≤ 10) (x bits n : Int32) (M : Mem) (hM : M 63 1 = nI c) : V m_X9_sheet 0 [(0, .ref 62), (1, .int x), (2, .int bits), (3, .int n)] [] M (RT (some (.int ((pSheet c x bits n M).1))) ((pSheet c x bits n M).2)) := by
  refine V.iload_n dX9_sheet_0 rfl rfl rfl ?_
  refine V.calls_i (M1 := M) (v := if rng 0 3 x then 1 else 0) (md' := m_X9_isOne) (As := [.int x]) (rest := []) dX9_sheet_1 ml_X9_327 mo_X9_isOne ⟨Nat.le_of_ble_eq_true rfl, Nat.le_of_ble_eq_true rfl⟩ (Nat.le_of_ble_eq_true rfl) rfl rfl (Nat.le_of_ble_eq_true rfl) (v_X9_isOne x _) rfl ?_
  refine V.ifb_eq (tgt := 29) dX9_sheet_4 rfl rfl (fun c4 => ?_) (fun c4 => ?_)
  · skip
    refine V.aload_n dX9_sheet_29 rfl rfl rfl ?_
    refine V.ldc (v := -1000001) dX9_sheet_30 cn_X9_37 rfl ?_
    refine V.callv_i (M1 := fdM 0 M) (v := -1000001) (md' := m_X9_finds) (As := [.int (-1000001)]) (rest := []) dX9_sheet_32 ml_X9_51 mo_X9_finds ⟨Nat.le_of_ble_eq_true rfl, Nat.le_of_ble_eq_true rfl⟩ rfl ⟨_, _, rfl⟩ (Nat.le_of_ble_eq_true rfl) rfl rfl (Nat.le_of_ble_eq_true rfl) (v_X9_finds (w := 0) (by decide) (-1000001) (by decide +kernel) _) rfl ?_
    exact V.ret dX9_sheet_35 rfl rfl ⟨(by first | (simp (decide := true) [pSheet, c4]; done) | (simp (decide := true) [pSheet, c4]; done) | (simp (decide := true) [pSheet, c4]; done) | (simp_all (decide := true) [pSheet]; done) | (simp_all (decide := true) [pSheet, ltF, leF]; done)), (by first | (simp (decide := true) [pSheet, c4]; done) | (simp (decide := true) [pSheet, c4]; done) | (simp (decide := true) [pSheet, c4]; done) | (simp_all (decide := true) [pSheet]; done) | (simp_all (decide := true) [pSheet, ltF, leF]; done))⟩
  · skip
    refine V.iload_n dX9_sheet_7 rfl rfl rfl ?_
    refine V.if_eq (tgt := 36) dX9_sheet_8 rfl rfl (fun c8 => ?_) (fun c8 => ?_)
    · skip
      refine V.iload_n dX9_sheet_36 rfl rfl rfl ?_
      refine V.if_ge (tgt := 48) dX9_sheet_37 rfl rfl (fun c37 => ?_) (fun c37 => ?_)
      · have d37 := Int32.not_lt.mpr c37
        refine V.iload_n dX9_sheet_48 rfl rfl rfl ?_
        refine V.bipush (v := 40) dX9_sheet_49 (by decide) rfl ?_
        refine V.icmp_le (tgt := 61) dX9_sheet_51 rfl rfl (fun c51 => ?_) (fun c51 => ?_)
        · have d51 := Int32.not_lt.mpr c51
          obtain ⟨s, hs, rfl⟩ := of_rng (b := 3) c4
          · have es : (nI s).toNatClampNeg = s := nI_clamp (by omega)
            refine V.aload_n dX9_sheet_61 rfl rfl rfl ?_
            refine V.getr dX9_sheet_62 fg_X9_25 rfl rfl rfl ?_
            refine V.iload_n dX9_sheet_65 rfl rfl rfl ?_
            refine V.iload_n dX9_sheet_66 rfl rfl rfl ?_
            refine V.iastN (j := s) dX9_sheet_67 rfl (by omega) (by decide) rfl (M' := (ms M 68 s bits)) rfl rfl ?_
            refine V.aload_n dX9_sheet_68 rfl rfl rfl ?_
            refine V.getr dX9_sheet_69 fg_X9_28 rfl rfl rfl ?_
            refine V.iload_n dX9_sheet_72 rfl rfl rfl ?_
            refine V.iload_n dX9_sheet_73 rfl rfl rfl ?_
            refine V.if_ne (tgt := 81) dX9_sheet_74 rfl rfl (fun c74 => ?_) (fun c74 => ?_)
            · skip
              refine V.iload_n dX9_sheet_81 rfl rfl rfl ?_
              refine V.iastN (j := s) dX9_sheet_82 rfl (by omega) (by decide) rfl (M' := (ms (ms M 68 s bits) 69 s n)) rfl rfl ?_
              refine V.iconst (v := 0) dX9_sheet_83 rfl rfl ?_
              refine V.ist dX9_sheet_84 (by decide) (L' := [(0, .ref 62), (1, .int (nI s)), (2, .int bits), (3, .int n), (4, .int 0)]) rfl rfl ?_
              have hz : sz1 s bits n M = (ms (ms M 68 s bits) 69 s n) := by rw [sz1, if_neg c74]
              refine V.mono ?_ (l_X9_sheet (s := s) (by omega) bits n 40 0 _ (by omega))
              intro rv M1 h
              obtain ⟨h1, h2⟩ := h
              subst h1 h2
              rw [← hz]
              exact ⟨by simp [pSheet, c4, c8, c37, d37, c51, d51, es, c74], by simp [pSheet, c4, c8, c37, d37, c51, d51, es, c74]⟩
            · skip
              refine V.iconst (v := 0) dX9_sheet_77 rfl rfl ?_
              refine V.goto (pc' := 82) dX9_sheet_78 rfl ?_
              refine V.iastN (j := s) dX9_sheet_82 rfl (by omega) (by decide) rfl (M' := (ms (ms M 68 s bits) 69 s 0)) rfl rfl ?_
              refine V.iconst (v := 0) dX9_sheet_83 rfl rfl ?_
              refine V.ist dX9_sheet_84 (by decide) (L' := [(0, .ref 62), (1, .int (nI s)), (2, .int bits), (3, .int n), (4, .int 0)]) rfl rfl ?_
              have hz : sz1 s bits n M = (ms (ms M 68 s bits) 69 s 0) := by rw [sz1, if_pos c74]
              refine V.mono ?_ (l_X9_sheet (s := s) (by omega) bits n 40 0 _ (by omega))
              intro rv M1 h
              obtain ⟨h1, h2⟩ := h
              subst h1 h2
              rw [← hz]
              exact ⟨by simp [pSheet, c4, c8, c37, d37, c51, d51, es, c74], by simp [pSheet, c4, c8, c37, d37, c51, d51, es, c74]⟩
        · have d51 := Int32.not_le.mp c51
          refine V.aload_n dX9_sheet_54 rfl rfl rfl ?_
          refine V.ldc (v := -1000001) dX9_sheet_55 cn_X9_37 rfl ?_
          refine V.callv_i (M1 := fdM 0 M) (v := -1000001) (md' := m_X9_finds) (As := [.int (-1000001)]) (rest := []) dX9_sheet_57 ml_X9_51 mo_X9_finds ⟨Nat.le_of_ble_eq_true rfl, Nat.le_of_ble_eq_true rfl⟩ rfl ⟨_, _, rfl⟩ (Nat.le_of_ble_eq_true rfl) rfl rfl (Nat.le_of_ble_eq_true rfl) (v_X9_finds (w := 0) (by decide) (-1000001) (by decide +kernel) _) rfl ?_
          exact V.ret dX9_sheet_60 rfl rfl ⟨(by first | (simp (decide := true) [pSheet, c4, c8, c37, d37, c51, d51]; done) | (simp (decide := true) [pSheet, c4, c8, c37, c37, c51, c51]; done) | (simp (decide := true) [pSheet, c4, c8, c37, d37, c51, d51, c37, c51]; done) | (simp_all (decide := true) [pSheet]; done) | (simp_all (decide := true) [pSheet, ltF, leF]; done)), (by first | (simp (decide := true) [pSheet, c4, c8, c37, d37, c51, d51]; done) | (simp (decide := true) [pSheet, c4, c8, c37, c37, c51, c51]; done) | (simp (decide := true) [pSheet, c4, c8, c37, d37, c51, d51, c37, c51]; done) | (simp_all (decide := true) [pSheet]; done) | (simp_all (decide := true) [pSheet, ltF, leF]; done))⟩
      · have d37 := Int32.not_le.mp c37
        refine V.aload_n dX9_sheet_40 rfl rfl rfl ?_
        refine V.ldcw (v := -1000007) dX9_sheet_41 cn_X9_330 rfl ?_
        refine V.callv_i (M1 := fdM 6 M) (v := -1000007) (md' := m_X9_finds) (As := [.int (-1000007)]) (rest := []) dX9_sheet_44 ml_X9_51 mo_X9_finds ⟨Nat.le_of_ble_eq_true rfl, Nat.le_of_ble_eq_true rfl⟩ rfl ⟨_, _, rfl⟩ (Nat.le_of_ble_eq_true rfl) rfl rfl (Nat.le_of_ble_eq_true rfl) (v_X9_finds (w := 6) (by decide) (-1000007) (by decide +kernel) _) rfl ?_
        exact V.ret dX9_sheet_47 rfl rfl ⟨(by first | (simp (decide := true) [pSheet, c4, c8, c37, d37]; done) | (simp (decide := true) [pSheet, c4, c8, c37, c37]; done) | (simp (decide := true) [pSheet, c4, c8, c37, d37, c37]; done) | (simp_all (decide := true) [pSheet]; done) | (simp_all (decide := true) [pSheet, ltF, leF]; done)), (by first | (simp (decide := true) [pSheet, c4, c8, c37, d37]; done) | (simp (decide := true) [pSheet, c4, c8, c37, c37]; done) | (simp (decide := true) [pSheet, c4, c8, c37, d37, c37]; done) | (simp_all (decide := true) [pSheet]; done) | (simp_all (decide := true) [pSheet, ltF, leF]; done))⟩
    · skip
      refine V.iload_n dX9_sheet_11 rfl rfl rfl ?_
      refine V.bipush (v := 8) dX9_sheet_12 (by decide) rfl ?_
      refine V.icmp_eq (tgt := 36) dX9_sheet_14 rfl rfl (fun c14 => ?_) (fun c14 => ?_)
      · skip
        refine V.iload_n dX9_sheet_36 rfl rfl rfl ?_
        refine V.if_ge (tgt := 48) dX9_sheet_37 rfl rfl (fun c37 => ?_) (fun c37 => ?_)
        · have d37 := Int32.not_lt.mpr c37
          refine V.iload_n dX9_sheet_48 rfl rfl rfl ?_
          refine V.bipush (v := 40) dX9_sheet_49 (by decide) rfl ?_
          refine V.icmp_le (tgt := 61) dX9_sheet_51 rfl rfl (fun c51 => ?_) (fun c51 => ?_)
          · have d51 := Int32.not_lt.mpr c51
            obtain ⟨s, hs, rfl⟩ := of_rng (b := 3) c4
            · have es : (nI s).toNatClampNeg = s := nI_clamp (by omega)
              refine V.aload_n dX9_sheet_61 rfl rfl rfl ?_
              refine V.getr dX9_sheet_62 fg_X9_25 rfl rfl rfl ?_
              refine V.iload_n dX9_sheet_65 rfl rfl rfl ?_
              refine V.iload_n dX9_sheet_66 rfl rfl rfl ?_
              refine V.iastN (j := s) dX9_sheet_67 rfl (by omega) (by decide) rfl (M' := (ms M 68 s bits)) rfl rfl ?_
              refine V.aload_n dX9_sheet_68 rfl rfl rfl ?_
              refine V.getr dX9_sheet_69 fg_X9_28 rfl rfl rfl ?_
              refine V.iload_n dX9_sheet_72 rfl rfl rfl ?_
              refine V.iload_n dX9_sheet_73 rfl rfl rfl ?_
              refine V.if_ne (tgt := 81) dX9_sheet_74 rfl rfl (fun c74 => ?_) (fun c74 => ?_)
              · skip
                refine V.iload_n dX9_sheet_81 rfl rfl rfl ?_
                refine V.iastN (j := s) dX9_sheet_82 rfl (by omega) (by decide) rfl (M' := (ms (ms M 68 s bits) 69 s n)) rfl rfl ?_
                refine V.iconst (v := 0) dX9_sheet_83 rfl rfl ?_
                refine V.ist dX9_sheet_84 (by decide) (L' := [(0, .ref 62), (1, .int (nI s)), (2, .int bits), (3, .int n), (4, .int 0)]) rfl rfl ?_
                have hz : sz1 s bits n M = (ms (ms M 68 s bits) 69 s n) := by rw [sz1, if_neg c74]
                refine V.mono ?_ (l_X9_sheet (s := s) (by omega) bits n 40 0 _ (by omega))
                intro rv M1 h
                obtain ⟨h1, h2⟩ := h
                subst h1 h2
                rw [← hz]
                exact ⟨by simp [pSheet, c4, c8, c14, c37, d37, c51, d51, es, c74], by simp [pSheet, c4, c8, c14, c37, d37, c51, d51, es, c74]⟩
              · skip
                refine V.iconst (v := 0) dX9_sheet_77 rfl rfl ?_
                refine V.goto (pc' := 82) dX9_sheet_78 rfl ?_
                refine V.iastN (j := s) dX9_sheet_82 rfl (by omega) (by decide) rfl (M' := (ms (ms M 68 s bits) 69 s 0)) rfl rfl ?_
                refine V.iconst (v := 0) dX9_sheet_83 rfl rfl ?_
                refine V.ist dX9_sheet_84 (by decide) (L' := [(0, .ref 62), (1, .int (nI s)), (2, .int bits), (3, .int n), (4, .int 0)]) rfl rfl ?_
                have hz : sz1 s bits n M = (ms (ms M 68 s bits) 69 s 0) := by rw [sz1, if_pos c74]
                refine V.mono ?_ (l_X9_sheet (s := s) (by omega) bits n 40 0 _ (by omega))
                intro rv M1 h
                obtain ⟨h1, h2⟩ := h
                subst h1 h2
                rw [← hz]
                exact ⟨by simp [pSheet, c4, c8, c14, c37, d37, c51, d51, es, c74], by simp [pSheet, c4, c8, c14, c37, d37, c51, d51, es, c74]⟩
          · have d51 := Int32.not_le.mp c51
            refine V.aload_n dX9_sheet_54 rfl rfl rfl ?_
            refine V.ldc (v := -1000001) dX9_sheet_55 cn_X9_37 rfl ?_
            refine V.callv_i (M1 := fdM 0 M) (v := -1000001) (md' := m_X9_finds) (As := [.int (-1000001)]) (rest := []) dX9_sheet_57 ml_X9_51 mo_X9_finds ⟨Nat.le_of_ble_eq_true rfl, Nat.le_of_ble_eq_true rfl⟩ rfl ⟨_, _, rfl⟩ (Nat.le_of_ble_eq_true rfl) rfl rfl (Nat.le_of_ble_eq_true rfl) (v_X9_finds (w := 0) (by decide) (-1000001) (by decide +kernel) _) rfl ?_
            exact V.ret dX9_sheet_60 rfl rfl ⟨(by first | (simp (decide := true) [pSheet, c4, c8, c14, c37, d37, c51, d51]; done) | (simp (decide := true) [pSheet, c4, c8, c14, c37, c37, c51, c51]; done) | (simp (decide := true) [pSheet, c4, c8, c14, c37, d37, c51, d51, c37, c51]; done) | (simp_all (decide := true) [pSheet]; done) | (simp_all (decide := true) [pSheet, ltF, leF]; done)), (by first | (simp (decide := true) [pSheet, c4, c8, c14, c37, d37, c51, d51]; done) | (simp (decide := true) [pSheet, c4, c8, c14, c37, c37, c51, c51]; done) | (simp (decide := true) [pSheet, c4, c8, c14, c37, d37, c51, d51, c37, c51]; done) | (simp_all (decide := true) [pSheet]; done) | (simp_all (decide := true) [pSheet, ltF, leF]; done))⟩
        · have d37 := Int32.not_le.mp c37
          refine V.aload_n dX9_sheet_40 rfl rfl rfl ?_
          refine V.ldcw (v := -1000007) dX9_sheet_41 cn_X9_330 rfl ?_
          refine V.callv_i (M1 := fdM 6 M) (v := -1000007) (md' := m_X9_finds) (As := [.int (-1000007)]) (rest := []) dX9_sheet_44 ml_X9_51 mo_X9_finds ⟨Nat.le_of_ble_eq_true rfl, Nat.le_of_ble_eq_true rfl⟩ rfl ⟨_, _, rfl⟩ (Nat.le_of_ble_eq_true rfl) rfl rfl (Nat.le_of_ble_eq_true rfl) (v_X9_finds (w := 6) (by decide) (-1000007) (by decide +kernel) _) rfl ?_
          exact V.ret dX9_sheet_47 rfl rfl ⟨(by first | (simp (decide := true) [pSheet, c4, c8, c14, c37, d37]; done) | (simp (decide := true) [pSheet, c4, c8, c14, c37, c37]; done) | (simp (decide := true) [pSheet, c4, c8, c14, c37, d37, c37]; done) | (simp_all (decide := true) [pSheet]; done) | (simp_all (decide := true) [pSheet, ltF, leF]; done)), (by first | (simp (decide := true) [pSheet, c4, c8, c14, c37, d37]; done) | (simp (decide := true) [pSheet, c4, c8, c14, c37, c37]; done) | (simp (decide := true) [pSheet, c4, c8, c14, c37, d37, c37]; done) | (simp_all (decide := true) [pSheet]; done) | (simp_all (decide := true) [pSheet, ltF, leF]; done))⟩
      · skip
        refine V.iload_n dX9_sheet_17 rfl rfl rfl ?_
        refine V.bipush (v := 16) dX9_sheet_18 (by decide) rfl ?_
        refine V.icmp_eq (tgt := 36) dX9_sheet_20 rfl rfl (fun c20 => ?_) (fun c20 => ?_)
        · skip
          refine V.iload_n dX9_sheet_36 rfl rfl rfl ?_
          refine V.if_ge (tgt := 48) dX9_sheet_37 rfl rfl (fun c37 => ?_) (fun c37 => ?_)
          · have d37 := Int32.not_lt.mpr c37
            refine V.iload_n dX9_sheet_48 rfl rfl rfl ?_
            refine V.bipush (v := 40) dX9_sheet_49 (by decide) rfl ?_
            refine V.icmp_le (tgt := 61) dX9_sheet_51 rfl rfl (fun c51 => ?_) (fun c51 => ?_)
            · have d51 := Int32.not_lt.mpr c51
              obtain ⟨s, hs, rfl⟩ := of_rng (b := 3) c4
              · have es : (nI s).toNatClampNeg = s := nI_clamp (by omega)
                refine V.aload_n dX9_sheet_61 rfl rfl rfl ?_
                refine V.getr dX9_sheet_62 fg_X9_25 rfl rfl rfl ?_
                refine V.iload_n dX9_sheet_65 rfl rfl rfl ?_
                refine V.iload_n dX9_sheet_66 rfl rfl rfl ?_
                refine V.iastN (j := s) dX9_sheet_67 rfl (by omega) (by decide) rfl (M' := (ms M 68 s bits)) rfl rfl ?_
                refine V.aload_n dX9_sheet_68 rfl rfl rfl ?_
                refine V.getr dX9_sheet_69 fg_X9_28 rfl rfl rfl ?_
                refine V.iload_n dX9_sheet_72 rfl rfl rfl ?_
                refine V.iload_n dX9_sheet_73 rfl rfl rfl ?_
                refine V.if_ne (tgt := 81) dX9_sheet_74 rfl rfl (fun c74 => ?_) (fun c74 => ?_)
                · skip
                  refine V.iload_n dX9_sheet_81 rfl rfl rfl ?_
                  refine V.iastN (j := s) dX9_sheet_82 rfl (by omega) (by decide) rfl (M' := (ms (ms M 68 s bits) 69 s n)) rfl rfl ?_
                  refine V.iconst (v := 0) dX9_sheet_83 rfl rfl ?_
                  refine V.ist dX9_sheet_84 (by decide) (L' := [(0, .ref 62), (1, .int (nI s)), (2, .int bits), (3, .int n), (4, .int 0)]) rfl rfl ?_
                  have hz : sz1 s bits n M = (ms (ms M 68 s bits) 69 s n) := by rw [sz1, if_neg c74]
                  refine V.mono ?_ (l_X9_sheet (s := s) (by omega) bits n 40 0 _ (by omega))
                  intro rv M1 h
                  obtain ⟨h1, h2⟩ := h
                  subst h1 h2
                  rw [← hz]
                  exact ⟨by simp [pSheet, c4, c8, c14, c20, c37, d37, c51, d51, es, c74], by simp [pSheet, c4, c8, c14, c20, c37, d37, c51, d51, es, c74]⟩
                · skip
                  refine V.iconst (v := 0) dX9_sheet_77 rfl rfl ?_
                  refine V.goto (pc' := 82) dX9_sheet_78 rfl ?_
                  refine V.iastN (j := s) dX9_sheet_82 rfl (by omega) (by decide) rfl (M' := (ms (ms M 68 s bits) 69 s 0)) rfl rfl ?_
                  refine V.iconst (v := 0) dX9_sheet_83 rfl rfl ?_
                  refine V.ist dX9_sheet_84 (by decide) (L' := [(0, .ref 62), (1, .int (nI s)), (2, .int bits), (3, .int n), (4, .int 0)]) rfl rfl ?_
                  have hz : sz1 s bits n M = (ms (ms M 68 s bits) 69 s 0) := by rw [sz1, if_pos c74]
                  refine V.mono ?_ (l_X9_sheet (s := s) (by omega) bits n 40 0 _ (by omega))
                  intro rv M1 h
                  obtain ⟨h1, h2⟩ := h
                  subst h1 h2
                  rw [← hz]
                  exact ⟨by simp [pSheet, c4, c8, c14, c20, c37, d37, c51, d51, es, c74], by simp [pSheet, c4, c8, c14, c20, c37, d37, c51, d51, es, c74]⟩
            · have d51 := Int32.not_le.mp c51
              refine V.aload_n dX9_sheet_54 rfl rfl rfl ?_
              refine V.ldc (v := -1000001) dX9_sheet_55 cn_X9_37 rfl ?_
              refine V.callv_i (M1 := fdM 0 M) (v := -1000001) (md' := m_X9_finds) (As := [.int (-1000001)]) (rest := []) dX9_sheet_57 ml_X9_51 mo_X9_finds ⟨Nat.le_of_ble_eq_true rfl, Nat.le_of_ble_eq_true rfl⟩ rfl ⟨_, _, rfl⟩ (Nat.le_of_ble_eq_true rfl) rfl rfl (Nat.le_of_ble_eq_true rfl) (v_X9_finds (w := 0) (by decide) (-1000001) (by decide +kernel) _) rfl ?_
              exact V.ret dX9_sheet_60 rfl rfl ⟨(by first | (simp (decide := true) [pSheet, c4, c8, c14, c20, c37, d37, c51, d51]; done) | (simp (decide := true) [pSheet, c4, c8, c14, c20, c37, c37, c51, c51]; done) | (simp (decide := true) [pSheet, c4, c8, c14, c20, c37, d37, c51, d51, c37, c51]; done) | (simp_all (decide := true) [pSheet]; done) | (simp_all (decide := true) [pSheet, ltF, leF]; done)), (by first | (simp (decide := true) [pSheet, c4, c8, c14, c20, c37, d37, c51, d51]; done) | (simp (decide := true) [pSheet, c4, c8, c14, c20, c37, c37, c51, c51]; done) | (simp (decide := true) [pSheet, c4, c8, c14, c20, c37, d37, c51, d51, c37, c51]; done) | (simp_all (decide := true) [pSheet]; done) | (simp_all (decide := true) [pSheet, ltF, leF]; done))⟩
          · have d37 := Int32.not_le.mp c37
            refine V.aload_n dX9_sheet_40 rfl rfl rfl ?_
            refine V.ldcw (v := -1000007) dX9_sheet_41 cn_X9_330 rfl ?_
            refine V.callv_i (M1 := fdM 6 M) (v := -1000007) (md' := m_X9_finds) (As := [.int (-1000007)]) (rest := []) dX9_sheet_44 ml_X9_51 mo_X9_finds ⟨Nat.le_of_ble_eq_true rfl, Nat.le_of_ble_eq_true rfl⟩ rfl ⟨_, _, rfl⟩ (Nat.le_of_ble_eq_true rfl) rfl rfl (Nat.le_of_ble_eq_true rfl) (v_X9_finds (w := 6) (by decide) (-1000007) (by decide +kernel) _) rfl ?_
            exact V.ret dX9_sheet_47 rfl rfl ⟨(by first | (simp (decide := true) [pSheet, c4, c8, c14, c20, c37, d37]; done) | (simp (decide := true) [pSheet, c4, c8, c14, c20, c37, c37]; done) | (simp (decide := true) [pSheet, c4, c8, c14, c20, c37, d37, c37]; done) | (simp_all (decide := true) [pSheet]; done) | (simp_all (decide := true) [pSheet, ltF, leF]; done)), (by first | (simp (decide := true) [pSheet, c4, c8, c14, c20, c37, d37]; done) | (simp (decide := true) [pSheet, c4, c8, c14, c20, c37, c37]; done) | (simp (decide := true) [pSheet, c4, c8, c14, c20, c37, d37, c37]; done) | (simp_all (decide := true) [pSheet]; done) | (simp_all (decide := true) [pSheet, ltF, leF]; done))⟩
        · skip
          refine V.iload_n dX9_sheet_23 rfl rfl rfl ?_
          refine V.bipush (v := 32) dX9_sheet_24 (by decide) rfl ?_
          refine V.icmp_eq (tgt := 36) dX9_sheet_26 rfl rfl (fun c26 => ?_) (fun c26 => ?_)
          · skip
            refine V.iload_n dX9_sheet_36 rfl rfl rfl ?_
            refine V.if_ge (tgt := 48) dX9_sheet_37 rfl rfl (fun c37 => ?_) (fun c37 => ?_)
            · have d37 := Int32.not_lt.mpr c37
              refine V.iload_n dX9_sheet_48 rfl rfl rfl ?_
              refine V.bipush (v := 40) dX9_sheet_49 (by decide) rfl ?_
              refine V.icmp_le (tgt := 61) dX9_sheet_51 rfl rfl (fun c51 => ?_) (fun c51 => ?_)
              · have d51 := Int32.not_lt.mpr c51
                obtain ⟨s, hs, rfl⟩ := of_rng (b := 3) c4
                · have es : (nI s).toNatClampNeg = s := nI_clamp (by omega)
                  refine V.aload_n dX9_sheet_61 rfl rfl rfl ?_
                  refine V.getr dX9_sheet_62 fg_X9_25 rfl rfl rfl ?_
                  refine V.iload_n dX9_sheet_65 rfl rfl rfl ?_
                  refine V.iload_n dX9_sheet_66 rfl rfl rfl ?_
                  refine V.iastN (j := s) dX9_sheet_67 rfl (by omega) (by decide) rfl (M' := (ms M 68 s bits)) rfl rfl ?_
                  refine V.aload_n dX9_sheet_68 rfl rfl rfl ?_
                  refine V.getr dX9_sheet_69 fg_X9_28 rfl rfl rfl ?_
                  refine V.iload_n dX9_sheet_72 rfl rfl rfl ?_
                  refine V.iload_n dX9_sheet_73 rfl rfl rfl ?_
                  refine V.if_ne (tgt := 81) dX9_sheet_74 rfl rfl (fun c74 => ?_) (fun c74 => ?_)
                  · skip
                    refine V.iload_n dX9_sheet_81 rfl rfl rfl ?_
                    refine V.iastN (j := s) dX9_sheet_82 rfl (by omega) (by decide) rfl (M' := (ms (ms M 68 s bits) 69 s n)) rfl rfl ?_
                    refine V.iconst (v := 0) dX9_sheet_83 rfl rfl ?_
                    refine V.ist dX9_sheet_84 (by decide) (L' := [(0, .ref 62), (1, .int (nI s)), (2, .int bits), (3, .int n), (4, .int 0)]) rfl rfl ?_
                    have hz : sz1 s bits n M = (ms (ms M 68 s bits) 69 s n) := by rw [sz1, if_neg c74]
                    refine V.mono ?_ (l_X9_sheet (s := s) (by omega) bits n 40 0 _ (by omega))
                    intro rv M1 h
                    obtain ⟨h1, h2⟩ := h
                    subst h1 h2
                    rw [← hz]
                    exact ⟨by simp [pSheet, c4, c8, c14, c20, c26, c37, d37, c51, d51, es, c74], by simp [pSheet, c4, c8, c14, c20, c26, c37, d37, c51, d51, es, c74]⟩
                  · skip
                    refine V.iconst (v := 0) dX9_sheet_77 rfl rfl ?_
                    refine V.goto (pc' := 82) dX9_sheet_78 rfl ?_
                    refine V.iastN (j := s) dX9_sheet_82 rfl (by omega) (by decide) rfl (M' := (ms (ms M 68 s bits) 69 s 0)) rfl rfl ?_
                    refine V.iconst (v := 0) dX9_sheet_83 rfl rfl ?_
                    refine V.ist dX9_sheet_84 (by decide) (L' := [(0, .ref 62), (1, .int (nI s)), (2, .int bits), (3, .int n), (4, .int 0)]) rfl rfl ?_
                    have hz : sz1 s bits n M = (ms (ms M 68 s bits) 69 s 0) := by rw [sz1, if_pos c74]
                    refine V.mono ?_ (l_X9_sheet (s := s) (by omega) bits n 40 0 _ (by omega))
                    intro rv M1 h
                    obtain ⟨h1, h2⟩ := h
                    subst h1 h2
                    rw [← hz]
                    exact ⟨by simp [pSheet, c4, c8, c14, c20, c26, c37, d37, c51, d51, es, c74], by simp [pSheet, c4, c8, c14, c20, c26, c37, d37, c51, d51, es, c74]⟩
              · have d51 := Int32.not_le.mp c51
                refine V.aload_n dX9_sheet_54 rfl rfl rfl ?_
                refine V.ldc (v := -1000001) dX9_sheet_55 cn_X9_37 rfl ?_
                refine V.callv_i (M1 := fdM 0 M) (v := -1000001) (md' := m_X9_finds) (As := [.int (-1000001)]) (rest := []) dX9_sheet_57 ml_X9_51 mo_X9_finds ⟨Nat.le_of_ble_eq_true rfl, Nat.le_of_ble_eq_true rfl⟩ rfl ⟨_, _, rfl⟩ (Nat.le_of_ble_eq_true rfl) rfl rfl (Nat.le_of_ble_eq_true rfl) (v_X9_finds (w := 0) (by decide) (-1000001) (by decide +kernel) _) rfl ?_
                exact V.ret dX9_sheet_60 rfl rfl ⟨(by first | (simp (decide := true) [pSheet, c4, c8, c14, c20, c26, c37, d37, c51, d51]; done) | (simp (decide := true) [pSheet, c4, c8, c14, c20, c26, c37, c37, c51, c51]; done) | (simp (decide := true) [pSheet, c4, c8, c14, c20, c26, c37, d37, c51, d51, c37, c51]; done) | (simp_all (decide := true) [pSheet]; done) | (simp_all (decide := true) [pSheet, ltF, leF]; done)), (by first | (simp (decide := true) [pSheet, c4, c8, c14, c20, c26, c37, d37, c51, d51]; done) | (simp (decide := true) [pSheet, c4, c8, c14, c20, c26, c37, c37, c51, c51]; done) | (simp (decide := true) [pSheet, c4, c8, c14, c20, c26, c37, d37, c51, d51, c37, c51]; done) | (simp_all (decide := true) [pSheet]; done) | (simp_all (decide := true) [pSheet, ltF, leF]; done))⟩
            · have d37 := Int32.not_le.mp c37
              refine V.aload_n dX9_sheet_40 rfl rfl rfl ?_
              refine V.ldcw (v := -1000007) dX9_sheet_41 cn_X9_330 rfl ?_
              refine V.callv_i (M1 := fdM 6 M) (v := -1000007) (md' := m_X9_finds) (As := [.int (-1000007)]) (rest := []) dX9_sheet_44 ml_X9_51 mo_X9_finds ⟨Nat.le_of_ble_eq_true rfl, Nat.le_of_ble_eq_true rfl⟩ rfl ⟨_, _, rfl⟩ (Nat.le_of_ble_eq_true rfl) rfl rfl (Nat.le_of_ble_eq_true rfl) (v_X9_finds (w := 6) (by decide) (-1000007) (by decide +kernel) _) rfl ?_
              exact V.ret dX9_sheet_47 rfl rfl ⟨(by first | (simp (decide := true) [pSheet, c4, c8, c14, c20, c26, c37, d37]; done) | (simp (decide := true) [pSheet, c4, c8, c14, c20, c26, c37, c37]; done) | (simp (decide := true) [pSheet, c4, c8, c14, c20, c26, c37, d37, c37]; done) | (simp_all (decide := true) [pSheet]; done) | (simp_all (decide := true) [pSheet, ltF, leF]; done)), (by first | (simp (decide := true) [pSheet, c4, c8, c14, c20, c26, c37, d37]; done) | (simp (decide := true) [pSheet, c4, c8, c14, c20, c26, c37, c37]; done) | (simp (decide := true) [pSheet, c4, c8, c14, c20, c26, c37, d37, c37]; done) | (simp_all (decide := true) [pSheet]; done) | (simp_all (decide := true) [pSheet, ltF, leF]; done))⟩
          · skip
            refine V.aload_n dX9_sheet_29 rfl rfl rfl ?_
            refine V.ldc (v := -1000001) dX9_sheet_30 cn_X9_37 rfl ?_
            refine V.callv_i (M1 := fdM 0 M) (v := -1000001) (md' := m_X9_finds) (As := [.int (-1000001)]) (rest := []) dX9_sheet_32 ml_X9_51 mo_X9_finds ⟨Nat.le_of_ble_eq_true rfl, Nat.le_of_ble_eq_true rfl⟩ rfl ⟨_, _, rfl⟩ (Nat.le_of_ble_eq_true rfl) rfl rfl (Nat.le_of_ble_eq_true rfl) (v_X9_finds (w := 0) (by decide) (-1000001) (by decide +kernel) _) rfl ?_
            exact V.ret dX9_sheet_35 rfl rfl ⟨(by first | (simp (decide := true) [pSheet, c4, c8, c14, c20, c26]; done) | (simp (decide := true) [pSheet, c4, c8, c14, c20, c26]; done) | (simp (decide := true) [pSheet, c4, c8, c14, c20, c26]; done) | (simp_all (decide := true) [pSheet]; done) | (simp_all (decide := true) [pSheet, ltF, leF]; done)), (by first | (simp (decide := true) [pSheet, c4, c8, c14, c20, c26]; done) | (simp (decide := true) [pSheet, c4, c8, c14, c20, c26]; done) | (simp (decide := true) [pSheet, c4, c8, c14, c20, c26]; done) | (simp_all (decide := true) [pSheet]; done) | (simp_all (decide := true) [pSheet, ltF, leF]; done))⟩
