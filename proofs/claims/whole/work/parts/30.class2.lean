/-! The class: the tape's filling, spots, images, counts, sheets -/
theorem isE14 : isE 14 := .inr (.inl rfl)
theorem isE27 : isE 27 := .inr (.inr (.inl rfl))
theorem isE40 : isE 40 := .inr (.inr (.inr rfl))
theorem nnI {k : Nat} (h : k < 2 ^ 31) : ¬ nI k < 0 := Int32.not_lt.mpr ((nI_leI (a := 0) (b := k) (by decide) h).mpr (Nat.zero_le k))
theorem of_rngm {x : Int32} {b : Nat} (h : rng (-1) b x = true) (h0 : ¬ x < 0) : ∃ k, k ≤ b ∧ x = nI k := by
  have e := Int32.le_iff_toInt_le.mp (Int32.not_lt.mp h0)
  exact of_rng (rng_def.mpr ⟨e, (rng_def.mp h).2⟩)
def feedC (x : Int32) : Nat → Nat → Mem → Mem
  | 0, _, M => M
  | k + 1, t, M => feedC x k (t + 1) (ms (ms M 55 t ((x >>> (nI (8 * k) &&& 31)) &&& 255)) 54 1 (nI (t + 1)))
theorem feedC_n {x : Int32} : ∀ (k t : Nat) (M : Mem), M 54 1 = nI t → feedC x k t M 54 1 = nI (t + k) := by
  intro k
  induction k with
  | zero => intro t M h; exact h
  | succ k ih =>
    intro t M h
    rw [show t + (k + 1) = t + 1 + k by omega]
    exact ih (t + 1) _ (by rw [ms_s])
def boyC (c : Nat) (M : Mem) : Int32 := let z := drawF (M 1 14 * 1103515245 + 12345); z - z / nI c * nI c
def boyCM (c : Nat) (M : Mem) : Bool × Mem := if M 7 (boyC c M).toNatClampNeg = 3 ∧ 0 < M 4 (boyC c M).toNatClampNeg then (true, ms (drawM 1 M) 4 (boyC c M).toNatClampNeg (M 4 (boyC c M).toNatClampNeg - 1)) else (false, drawM 1 M)
def boyCG (c : Nat) : Nat → Int32 → Mem → Int32 × Mem
  | 0, s, M => (s, M)
  | n + 1, s, M => boyCG c n (if (boyCM c M).1 then s + 1 else s) (boyCM c M).2
theorem boyC_lt {c : Nat} (hc0 : 0 < c) (hc : c ≤ 10) (M : Mem) : ∃ b, b < c ∧ boyC c M = nI b := by
  obtain ⟨k, hk, e⟩ := draw_nat (M 1 14 * 1103515245 + 12345)
  exact ⟨k % c, Nat.mod_lt _ hc0, by show drawF (M 1 14 * 1103515245 + 12345) - drawF (M 1 14 * 1103515245 + 12345) / nI c * nI c = _; rw [e]; exact pk_rem (by omega) hc0 (by omega)⟩
theorem v_X6_hasRoom {t k : Nat} (ht : t ≤ 120) (hk : k ≤ 4) (M : Mem) (h6 : M 54 1 = nI t) : V m_X6_hasRoom 0 [(0, .ref 54), (1, .int (nI k))] [] M (RT (some (.int (if t + k ≤ 120 then 1 else 0))) M) := by
  refine V.aload_n dX6_hasRoom_0 rfl rfl rfl ?_
  refine V.geti (v := nI t) dX6_hasRoom_1 fg_X6_13 rfl rfl h6 rfl ?_
  refine V.iload_n dX6_hasRoom_4 rfl rfl rfl ?_
  refine V.iadd (v := nI (t + k)) dX6_hasRoom_5 (nI_add _ _) rfl ?_
  refine V.bipush (v := 120) dX6_hasRoom_6 (by decide) rfl ?_
  refine V.icmp_gt (tgt := 15) dX6_hasRoom_8 rfl rfl (fun c8 => ?_) (fun c8 => ?_)
  · have c8 : 120 < t + k := (nI_ltI (a := 120) (b := t + k) (by omega) (by omega)).mp c8
    refine V.iconst (v := 0) dX6_hasRoom_15 rfl rfl ?_
    exact V.ret dX6_hasRoom_16 rfl rfl ⟨(by first | rw [if_pos (by omega)] | rw [if_neg (by omega)]), rfl⟩
  · have c8 : ¬ 120 < t + k := fun zq => c8 ((nI_ltI (a := 120) (b := t + k) (by omega) (by omega)).mpr zq)
    refine V.iconst (v := 1) dX6_hasRoom_11 rfl rfl ?_
    refine V.goto (pc' := 16) dX6_hasRoom_12 rfl ?_
    exact V.ret dX6_hasRoom_16 rfl rfl ⟨(by first | rw [if_pos (by omega)] | rw [if_neg (by omega)]), rfl⟩
theorem l_X6_append (x n : Int32) : ∀ (k t : Nat) (M : Mem), M 54 1 = nI t → t + k ≤ 120 → k ≤ 4 → V m_X6_append 4 [(0, .ref 54), (1, .int x), (2, .int n), (3, .int (dI k))] [] M (RT none (feedC x k t M)) := by
  intro k
  induction k with
  | zero =>
    intro t M h6 ht hk
    refine V.iload_n dX6_append_4 rfl rfl rfl ?_
    refine V.if_lt (tgt := 43) dX6_append_5 rfl rfl (fun _ => ?_) (fun c5 => absurd c5 (by decide))
    exact V.vret dX6_append_43 rfl ⟨rfl, rfl⟩
  | succ k ih =>
    intro t M h6 ht hk
    refine V.iload_n dX6_append_4 rfl rfl rfl ?_
    refine V.if_lt (tgt := 43) dX6_append_5 rfl rfl (fun c5 => absurd ((nI_ltI (a := k) (b := 0) (by omega) (by omega)).mp c5) (by omega)) (fun c5 => ?_)
    have c5 : ¬ k < 0 := fun zq => c5 ((nI_ltI (a := k) (b := 0) (by omega) (by omega)).mpr zq)
    refine V.aload_n dX6_append_8 rfl rfl rfl ?_
    refine V.getr dX6_append_9 fg_X6_9 rfl rfl rfl ?_
    refine V.aload_n dX6_append_12 rfl rfl rfl ?_
    refine V.geti (v := nI t) dX6_append_13 fg_X6_13 rfl rfl h6 rfl ?_
    refine V.iload_n dX6_append_16 rfl rfl rfl ?_
    refine V.bipush (v := 8) dX6_append_17 (by decide) rfl ?_
    refine V.iload_n dX6_append_19 rfl rfl rfl ?_
    refine V.imul (v := nI (8 * k)) dX6_append_20 (pk_mul _ _) rfl ?_
    refine V.ishr (v := x >>> ((nI (8 * k)) &&& 31)) dX6_append_21 rfl rfl ?_
    refine V.sipush (v := 255) dX6_append_22 (by decide) rfl ?_
    refine V.iand (v := (x >>> ((nI (8 * k)) &&& 31)) &&& 255) dX6_append_25 rfl rfl ?_
    refine V.iastN (j := t) dX6_append_26 rfl (by omega) (by decide) rfl (M' := (ms M 55 t ((x >>> ((nI (8 * k)) &&& 31)) &&& 255))) rfl rfl ?_
    refine V.aload_n dX6_append_27 rfl rfl rfl ?_
    refine V.dup dX6_append_28 rfl rfl ?_
    refine V.geti (v := nI t) dX6_append_29 fg_X6_13 rfl rfl (by simp [ms, h6]) rfl ?_
    refine V.iconst (v := 1) dX6_append_32 rfl rfl ?_
    refine V.iadd (v := nI (t + 1)) dX6_append_33 (nI_add _ _) rfl ?_
    refine V.puti dX6_append_34 fp_X6_13 rfl rfl rfl rfl (M' := (ms (ms M 55 t ((x >>> ((nI (8 * k)) &&& 31)) &&& 255)) 54 1 (nI (t + 1)))) rfl rfl ?_
    refine V.inc (v := dI k) dX6_append_37 rfl (dI_dec k) (by decide) (L' := [(0, .ref 54), (1, .int x), (2, .int n), (3, .int (dI k))]) rfl rfl ?_
    refine V.goto (pc' := 4) dX6_append_40 rfl ?_
    exact ih (t + 1) _ (by rw [ms_s]) (by omega) (by omega)
theorem v_X6_append {t k : Nat} (x : Int32) (M : Mem) (h6 : M 54 1 = nI t) (ht : t + k ≤ 120) (hk : k ≤ 4) : V m_X6_append 0 [(0, .ref 54), (1, .int x), (2, .int (nI k))] [] M (RT none (feedC x k t M)) := by
  refine V.iload_n dX6_append_0 rfl rfl rfl ?_
  refine V.iconst (v := 1) dX6_append_1 rfl rfl ?_
  refine V.isub (v := dI k) dX6_append_2 (dI_sub k) rfl ?_
  refine V.ist_n dX6_append_3 rfl (by decide) (L' := [(0, .ref 54), (1, .int x), (2, .int (nI k)), (3, .int (dI k))]) rfl rfl ?_
  exact l_X6_append x _ k t M h6 ht hk
def cSeed (c : Nat) (v : Int32) (M : Mem) : Int32 × Mem := (M 1 14, ms M 1 14 v)
theorem v_X8_seed {c : Nat} (hc : c ≤ 10) (v : Int32) (M : Mem) (hM : M 2 5 = nI c) : V m_X8_seed 0 [(0, .ref 0), (1, .int v)] [] M (RT (some (.int ((cSeed c v M).1))) ((cSeed c v M).2)) := by
  refine V.aload_n dX8_seed_0 rfl rfl rfl ?_
  refine V.getr dX8_seed_1 fg_X8_10 rfl rfl rfl ?_
  refine V.geti (v := M 1 14) dX8_seed_4 fg_X8_274 rfl rfl rfl rfl ?_
  refine V.ist_n dX8_seed_7 rfl (by decide) (L' := [(0, .ref 0), (1, .int v), (2, .int (M 1 14))]) rfl rfl ?_
  refine V.aload_n dX8_seed_8 rfl rfl rfl ?_
  refine V.getr dX8_seed_9 fg_X8_10 rfl rfl rfl ?_
  refine V.iload_n dX8_seed_12 rfl rfl rfl ?_
  refine V.puti dX8_seed_13 fp_X8_274 rfl rfl rfl rfl (M' := (ms M 1 14 v)) rfl rfl ?_
  refine V.iload_n dX8_seed_16 rfl rfl rfl ?_
  exact V.ret dX8_seed_17 rfl rfl ⟨rfl, rfl⟩
def cWipe (c : Nat) (M : Mem) : Int32 × Mem := (M 54 1, ms M 54 1 0)
theorem v_X8_wipe {c : Nat} (hc : c ≤ 10)  (M : Mem) (hM : M 2 5 = nI c) : V m_X8_wipe 0 [(0, .ref 0)] [] M (RT (some (.int ((cWipe c M).1))) ((cWipe c M).2)) := by
  refine V.aload_n dX8_wipe_0 rfl rfl rfl ?_
  refine V.getr dX8_wipe_1 fg_X8_35 rfl rfl rfl ?_
  refine V.geti (v := M 54 1) dX8_wipe_4 fg_X8_281 rfl rfl rfl rfl ?_
  refine V.ist_n dX8_wipe_7 rfl (by decide) (L' := [(0, .ref 0), (1, .int (M 54 1))]) rfl rfl ?_
  refine V.aload_n dX8_wipe_8 rfl rfl rfl ?_
  refine V.getr dX8_wipe_9 fg_X8_35 rfl rfl rfl ?_
  refine V.iconst (v := 0) dX8_wipe_12 rfl rfl ?_
  refine V.puti dX8_wipe_13 fp_X8_281 rfl rfl rfl rfl (M' := (ms M 54 1 0)) rfl rfl ?_
  refine V.iload_n dX8_wipe_16 rfl rfl rfl ?_
  exact V.ret dX8_wipe_17 rfl rfl ⟨rfl, rfl⟩
def cFeed (c t : Nat) (x n : Int32) (M : Mem) : Int32 × Mem := if ¬ rng 1 4 n then (-1000001, cfd 0 M) else if ¬ t + n.toNatClampNeg ≤ 120 then (-1000002, cfd 1 M) else (nI (t + n.toNatClampNeg), feedC x n.toNatClampNeg t M)
theorem v_X8_feed {c : Nat} (hc : c ≤ 10) {t : Nat} (ht : t ≤ 120) (x n : Int32) (M : Mem) (hM : M 2 5 = nI c) (h6 : M 54 1 = nI t) : V m_X8_feed 0 [(0, .ref 0), (1, .int x), (2, .int n)] [] M (RT (some (.int ((cFeed c t x n M).1))) ((cFeed c t x n M).2)) := by
  refine V.iload_n dX8_feed_0 rfl rfl rfl ?_
  refine V.iconst (v := 1) dX8_feed_1 rfl rfl ?_
  refine V.iconst (v := 4) dX8_feed_2 rfl rfl ?_
  refine V.calls_i (M1 := M) (v := if rng 1 4 n then 1 else 0) (md' := m_X8_within) (As := [.int n, .int 1, .int 4]) (rest := []) dX8_feed_3 ml_X8_63 mo_X8_within ⟨Nat.le_of_ble_eq_true rfl, Nat.le_of_ble_eq_true rfl⟩ (Nat.le_of_ble_eq_true rfl) rfl rfl (Nat.le_of_ble_eq_true rfl) (v_X8_within (x := n) (a := 1) (b := 4) rfl rfl _) rfl ?_
  refine V.ifb_ne (tgt := 15) dX8_feed_6 rfl rfl (fun c6 => ?_) (fun c6 => ?_)
  · skip
    obtain ⟨k, hk, rfl⟩ := of_rng1 (b := 4) c6
    · have ek : (nI k).toNatClampNeg = k := nI_clamp (by omega)
      refine V.aload_n dX8_feed_15 rfl rfl rfl ?_
      refine V.getr dX8_feed_16 fg_X8_35 rfl rfl rfl ?_
      refine V.iload_n dX8_feed_19 rfl rfl rfl ?_
      refine V.callv_i (M1 := M) (v := if t + k ≤ 120 then 1 else 0) (md' := m_X6_hasRoom) (As := [.int (nI k)]) (rest := []) dX8_feed_20 ml_X8_277 mo_X6_hasRoom ⟨Nat.le_of_ble_eq_true rfl, Nat.le_of_ble_eq_true rfl⟩ rfl ⟨_, _, rfl⟩ (Nat.le_of_ble_eq_true rfl) rfl rfl (Nat.le_of_ble_eq_true rfl) (v_X6_hasRoom ht (k := k) (by omega) M h6) rfl ?_
      refine V.ifb_ne (tgt := 32) dX8_feed_23 rfl rfl (fun c23 => ?_) (fun c23 => ?_)
      · skip
        refine V.aload_n dX8_feed_32 rfl rfl rfl ?_
        refine V.getr dX8_feed_33 fg_X8_35 rfl rfl rfl ?_
        refine V.iload_n dX8_feed_36 rfl rfl rfl ?_
        refine V.iload_n dX8_feed_37 rfl rfl rfl ?_
        refine V.callv_v (M1 := feedC x k t M) (md' := m_X6_append) (As := [.int x, .int (nI k)]) (rest := []) dX8_feed_38 ml_X8_278 mo_X6_append ⟨Nat.le_of_ble_eq_true rfl, Nat.le_of_ble_eq_true rfl⟩ rfl ⟨_, _, rfl⟩ (Nat.le_of_ble_eq_true rfl) rfl rfl (Nat.le_of_ble_eq_true rfl) (v_X6_append x M h6 c23 (by omega)) rfl ?_
        refine V.aload_n dX8_feed_41 rfl rfl rfl ?_
        refine V.getr dX8_feed_42 fg_X8_35 rfl rfl rfl ?_
        refine V.geti (v := nI (t + k)) dX8_feed_45 fg_X8_281 rfl rfl (feedC_n k t M h6) rfl ?_
        exact V.ret dX8_feed_48 rfl rfl ⟨(by first | (simp (decide := true) [cFeed, c6, ek, c23]; done) | (simp (decide := true) [cFeed, c6, ek, c23]; done) | (simp (decide := true) [cFeed, c6, ek, c23]; done) | (simp_all (decide := true) [cFeed]; done) | (simp_all (decide := true) [cFeed, ltF, leF, ltFN, leFN]; done)), (by first | (simp (decide := true) [cFeed, c6, ek, c23]; done) | (simp (decide := true) [cFeed, c6, ek, c23]; done) | (simp (decide := true) [cFeed, c6, ek, c23]; done) | (simp_all (decide := true) [cFeed]; done) | (simp_all (decide := true) [cFeed, ltF, leF, ltFN, leFN]; done))⟩
      · skip
        refine V.aload_n dX8_feed_26 rfl rfl rfl ?_
        refine V.iconst (v := 1) dX8_feed_27 rfl rfl ?_
        refine V.callv_i (M1 := cfd 1 M) (v := -1000002) (md' := m_X8_finding) (As := [.int 1]) (rest := []) dX8_feed_28 ml_X8_67 mo_X8_finding ⟨Nat.le_of_ble_eq_true rfl, Nat.le_of_ble_eq_true rfl⟩ rfl ⟨_, _, rfl⟩ (Nat.le_of_ble_eq_true rfl) rfl rfl (Nat.le_of_ble_eq_true rfl) (v_X8_finding (w := 1) (by decide) (f := -1000002) (by decide +kernel) _) rfl ?_
        exact V.ret dX8_feed_31 rfl rfl ⟨(by first | (simp (decide := true) [cFeed, c6, ek, c23]; done) | (simp (decide := true) [cFeed, c6, ek, c23]; done) | (simp (decide := true) [cFeed, c6, ek, c23]; done) | (simp_all (decide := true) [cFeed]; done) | (simp_all (decide := true) [cFeed, ltF, leF, ltFN, leFN]; done)), (by first | (simp (decide := true) [cFeed, c6, ek, c23]; done) | (simp (decide := true) [cFeed, c6, ek, c23]; done) | (simp (decide := true) [cFeed, c6, ek, c23]; done) | (simp_all (decide := true) [cFeed]; done) | (simp_all (decide := true) [cFeed, ltF, leF, ltFN, leFN]; done))⟩
  · skip
    refine V.aload_n dX8_feed_9 rfl rfl rfl ?_
    refine V.iconst (v := 0) dX8_feed_10 rfl rfl ?_
    refine V.callv_i (M1 := cfd 0 M) (v := -1000001) (md' := m_X8_finding) (As := [.int 0]) (rest := []) dX8_feed_11 ml_X8_67 mo_X8_finding ⟨Nat.le_of_ble_eq_true rfl, Nat.le_of_ble_eq_true rfl⟩ rfl ⟨_, _, rfl⟩ (Nat.le_of_ble_eq_true rfl) rfl rfl (Nat.le_of_ble_eq_true rfl) (v_X8_finding (w := 0) (by decide) (f := -1000001) (by decide +kernel) _) rfl ?_
    exact V.ret dX8_feed_14 rfl rfl ⟨(by first | (simp (decide := true) [cFeed, c6]; done) | (simp (decide := true) [cFeed, c6]; done) | (simp (decide := true) [cFeed, c6]; done) | (simp_all (decide := true) [cFeed]; done) | (simp_all (decide := true) [cFeed, ltF, leF, ltFN, leFN]; done)), (by first | (simp (decide := true) [cFeed, c6]; done) | (simp (decide := true) [cFeed, c6]; done) | (simp (decide := true) [cFeed, c6]; done) | (simp_all (decide := true) [cFeed]; done) | (simp_all (decide := true) [cFeed, ltF, leF, ltFN, leFN]; done))⟩
def cHold (c : Nat) (x b : Int32) (M : Mem) : Int32 × Mem := if ¬ (rng 0 9 x ∧ (b = -1 ∨ isB c b)) then (-1000001, cfd 0 M) else (1, ms M 13 x.toNatClampNeg b)
theorem v_X8_hold {c : Nat} (hc : c ≤ 10) (x b : Int32) (M : Mem) (hM : M 2 5 = nI c) : V m_X8_hold 0 [(0, .ref 0), (1, .int x), (2, .int b)] [] M (RT (some (.int ((cHold c x b M).1))) ((cHold c x b M).2)) := by
  refine V.iload_n dX8_hold_0 rfl rfl rfl ?_
  refine V.calls_i (M1 := M) (v := if rng 0 9 x then 1 else 0) (md' := m_X8_isSpot) (As := [.int x]) (rest := []) dX8_hold_1 ml_X8_287 mo_X8_isSpot ⟨Nat.le_of_ble_eq_true rfl, Nat.le_of_ble_eq_true rfl⟩ (Nat.le_of_ble_eq_true rfl) rfl rfl (Nat.le_of_ble_eq_true rfl) (v_X8_isSpot x _) rfl ?_
  refine V.ifb_eq (tgt := 20) dX8_hold_4 rfl rfl (fun c4 => ?_) (fun c4 => ?_)
  · skip
    refine V.aload_n dX8_hold_20 rfl rfl rfl ?_
    refine V.iconst (v := 0) dX8_hold_21 rfl rfl ?_
    refine V.callv_i (M1 := cfd 0 M) (v := -1000001) (md' := m_X8_finding) (As := [.int 0]) (rest := []) dX8_hold_22 ml_X8_67 mo_X8_finding ⟨Nat.le_of_ble_eq_true rfl, Nat.le_of_ble_eq_true rfl⟩ rfl ⟨_, _, rfl⟩ (Nat.le_of_ble_eq_true rfl) rfl rfl (Nat.le_of_ble_eq_true rfl) (v_X8_finding (w := 0) (by decide) (f := -1000001) (by decide +kernel) _) rfl ?_
    exact V.ret dX8_hold_25 rfl rfl ⟨(by first | (simp (decide := true) [cHold, c4]; done) | (simp (decide := true) [cHold, c4]; done) | (simp (decide := true) [cHold, c4]; done) | (simp_all (decide := true) [cHold]; done) | (simp_all (decide := true) [cHold, ltF, leF, ltFN, leFN]; done)), (by first | (simp (decide := true) [cHold, c4]; done) | (simp (decide := true) [cHold, c4]; done) | (simp (decide := true) [cHold, c4]; done) | (simp_all (decide := true) [cHold]; done) | (simp_all (decide := true) [cHold, ltF, leF, ltFN, leFN]; done))⟩
  · skip
    refine V.iload_n dX8_hold_7 rfl rfl rfl ?_
    refine V.iconst (v := -1) dX8_hold_8 rfl rfl ?_
    refine V.icmp_eq (tgt := 26) dX8_hold_9 rfl rfl (fun c9 => ?_) (fun c9 => ?_)
    · skip
      obtain ⟨k, hk, rfl⟩ := of_rng (b := 9) c4
      · have ek : (nI k).toNatClampNeg = k := nI_clamp (by omega)
        refine V.aload_n dX8_hold_26 rfl rfl rfl ?_
        refine V.getr dX8_hold_27 fg_X8_10 rfl rfl rfl ?_
        refine V.getr dX8_hold_30 fg_X8_290 rfl rfl rfl ?_
        refine V.iload_n dX8_hold_33 rfl rfl rfl ?_
        refine V.iload_n dX8_hold_34 rfl rfl rfl ?_
        refine V.iastN (j := k) dX8_hold_35 rfl (by omega) (by decide) rfl (M' := (ms M 13 k b)) rfl rfl ?_
        refine V.iconst (v := 1) dX8_hold_36 rfl rfl ?_
        exact V.ret dX8_hold_37 rfl rfl ⟨(by first | (simp (decide := true) [cHold, c4, c9, ek]; done) | (simp (decide := true) [cHold, c4, c9, ek]; done) | (simp (decide := true) [cHold, c4, c9, ek]; done) | (simp_all (decide := true) [cHold]; done) | (simp_all (decide := true) [cHold, ltF, leF, ltFN, leFN]; done)), (by first | (simp (decide := true) [cHold, c4, c9, ek]; done) | (simp (decide := true) [cHold, c4, c9, ek]; done) | (simp (decide := true) [cHold, c4, c9, ek]; done) | (simp_all (decide := true) [cHold]; done) | (simp_all (decide := true) [cHold, ltF, leF, ltFN, leFN]; done))⟩
    · skip
      refine V.aload_n dX8_hold_12 rfl rfl rfl ?_
      refine V.iload_n dX8_hold_13 rfl rfl rfl ?_
      refine V.callv_i (M1 := M) (v := if isB c b then 1 else 0) (md' := m_X8_isBatch) (As := [.int b]) (rest := []) dX8_hold_14 ml_X8_84 mo_X8_isBatch ⟨Nat.le_of_ble_eq_true rfl, Nat.le_of_ble_eq_true rfl⟩ rfl ⟨_, _, rfl⟩ (Nat.le_of_ble_eq_true rfl) rfl rfl (Nat.le_of_ble_eq_true rfl) (v_X8_isBatch hc b M hM) rfl ?_
      refine V.ifb_ne (tgt := 26) dX8_hold_17 rfl rfl (fun c17 => ?_) (fun c17 => ?_)
      · skip
        obtain ⟨k, hk, rfl⟩ := of_rng (b := 9) c4
        · have ek : (nI k).toNatClampNeg = k := nI_clamp (by omega)
          refine V.aload_n dX8_hold_26 rfl rfl rfl ?_
          refine V.getr dX8_hold_27 fg_X8_10 rfl rfl rfl ?_
          refine V.getr dX8_hold_30 fg_X8_290 rfl rfl rfl ?_
          refine V.iload_n dX8_hold_33 rfl rfl rfl ?_
          refine V.iload_n dX8_hold_34 rfl rfl rfl ?_
          refine V.iastN (j := k) dX8_hold_35 rfl (by omega) (by decide) rfl (M' := (ms M 13 k b)) rfl rfl ?_
          refine V.iconst (v := 1) dX8_hold_36 rfl rfl ?_
          exact V.ret dX8_hold_37 rfl rfl ⟨(by first | (simp (decide := true) [cHold, c4, c9, c17, ek]; done) | (simp (decide := true) [cHold, c4, c9, c17, ek]; done) | (simp (decide := true) [cHold, c4, c9, c17, ek]; done) | (simp_all (decide := true) [cHold]; done) | (simp_all (decide := true) [cHold, ltF, leF, ltFN, leFN]; done)), (by first | (simp (decide := true) [cHold, c4, c9, c17, ek]; done) | (simp (decide := true) [cHold, c4, c9, c17, ek]; done) | (simp (decide := true) [cHold, c4, c9, c17, ek]; done) | (simp_all (decide := true) [cHold]; done) | (simp_all (decide := true) [cHold, ltF, leF, ltFN, leFN]; done))⟩
      · skip
        refine V.aload_n dX8_hold_20 rfl rfl rfl ?_
        refine V.iconst (v := 0) dX8_hold_21 rfl rfl ?_
        refine V.callv_i (M1 := cfd 0 M) (v := -1000001) (md' := m_X8_finding) (As := [.int 0]) (rest := []) dX8_hold_22 ml_X8_67 mo_X8_finding ⟨Nat.le_of_ble_eq_true rfl, Nat.le_of_ble_eq_true rfl⟩ rfl ⟨_, _, rfl⟩ (Nat.le_of_ble_eq_true rfl) rfl rfl (Nat.le_of_ble_eq_true rfl) (v_X8_finding (w := 0) (by decide) (f := -1000001) (by decide +kernel) _) rfl ?_
        exact V.ret dX8_hold_25 rfl rfl ⟨(by first | (simp (decide := true) [cHold, c4, c9, c17]; done) | (simp (decide := true) [cHold, c4, c9, c17]; done) | (simp (decide := true) [cHold, c4, c9, c17]; done) | (simp_all (decide := true) [cHold]; done) | (simp_all (decide := true) [cHold, ltF, leF, ltFN, leFN]; done)), (by first | (simp (decide := true) [cHold, c4, c9, c17]; done) | (simp (decide := true) [cHold, c4, c9, c17]; done) | (simp (decide := true) [cHold, c4, c9, c17]; done) | (simp_all (decide := true) [cHold]; done) | (simp_all (decide := true) [cHold, ltF, leF, ltFN, leFN]; done))⟩
def undC (kd w : Int32) : Bool := decide (kd = w ∨ aboveF kd = w ∨ aboveF (aboveF kd) = w)
def cAs (c : Nat) (x w : Int32) (M : Mem) : Int32 × Mem := if ¬ (rng 0 9 x ∧ rng 0 6 w) then (-1000001, cfd 0 M) else if ¬ isB c (M 13 x.toNatClampNeg) then (-1000006, cfd 5 M) else if ¬ undC (M 3 (M 13 x.toNatClampNeg).toNatClampNeg) w then (-1000003, cfd 2 M) else (M 13 x.toNatClampNeg, M)
theorem v_X8_as {c : Nat} (hc : c ≤ 10) (x w : Int32) (M : Mem) (hM : M 2 5 = nI c) : V m_X8_as 0 [(0, .ref 0), (1, .int x), (2, .int w)] [] M (RT (some (.int ((cAs c x w M).1))) ((cAs c x w M).2)) := by
  refine V.iload_n dX8_as_0 rfl rfl rfl ?_
  refine V.calls_i (M1 := M) (v := if rng 0 9 x then 1 else 0) (md' := m_X8_isSpot) (As := [.int x]) (rest := []) dX8_as_1 ml_X8_287 mo_X8_isSpot ⟨Nat.le_of_ble_eq_true rfl, Nat.le_of_ble_eq_true rfl⟩ (Nat.le_of_ble_eq_true rfl) rfl rfl (Nat.le_of_ble_eq_true rfl) (v_X8_isSpot x _) rfl ?_
  refine V.ifb_eq (tgt := 17) dX8_as_4 rfl rfl (fun c4 => ?_) (fun c4 => ?_)
  · skip
    refine V.aload_n dX8_as_17 rfl rfl rfl ?_
    refine V.iconst (v := 0) dX8_as_18 rfl rfl ?_
    refine V.callv_i (M1 := cfd 0 M) (v := -1000001) (md' := m_X8_finding) (As := [.int 0]) (rest := []) dX8_as_19 ml_X8_67 mo_X8_finding ⟨Nat.le_of_ble_eq_true rfl, Nat.le_of_ble_eq_true rfl⟩ rfl ⟨_, _, rfl⟩ (Nat.le_of_ble_eq_true rfl) rfl rfl (Nat.le_of_ble_eq_true rfl) (v_X8_finding (w := 0) (by decide) (f := -1000001) (by decide +kernel) _) rfl ?_
    exact V.ret dX8_as_22 rfl rfl ⟨(by first | (simp (decide := true) [cAs, undC, c4]; done) | (simp (decide := true) [cAs, undC, c4]; done) | (simp (decide := true) [cAs, undC, c4]; done) | (simp_all (decide := true) [cAs, undC]; done) | (simp_all (decide := true) [cAs, undC, ltF, leF, ltFN, leFN]; done)), (by first | (simp (decide := true) [cAs, undC, c4]; done) | (simp (decide := true) [cAs, undC, c4]; done) | (simp (decide := true) [cAs, undC, c4]; done) | (simp_all (decide := true) [cAs, undC]; done) | (simp_all (decide := true) [cAs, undC, ltF, leF, ltFN, leFN]; done))⟩
  · skip
    refine V.iload_n dX8_as_7 rfl rfl rfl ?_
    refine V.iconst (v := 0) dX8_as_8 rfl rfl ?_
    refine V.bipush (v := 6) dX8_as_9 (by decide) rfl ?_
    refine V.calls_i (M1 := M) (v := if rng 0 6 w then 1 else 0) (md' := m_X8_within) (As := [.int w, .int 0, .int 6]) (rest := []) dX8_as_11 ml_X8_63 mo_X8_within ⟨Nat.le_of_ble_eq_true rfl, Nat.le_of_ble_eq_true rfl⟩ (Nat.le_of_ble_eq_true rfl) rfl rfl (Nat.le_of_ble_eq_true rfl) (v_X8_within (x := w) (a := 0) (b := 6) rfl rfl _) rfl ?_
    refine V.ifb_ne (tgt := 23) dX8_as_14 rfl rfl (fun c14 => ?_) (fun c14 => ?_)
    · skip
      obtain ⟨k, hk, rfl⟩ := of_rng (b := 9) c4
      · have ek : (nI k).toNatClampNeg = k := nI_clamp (by omega)
        refine V.aload_n dX8_as_23 rfl rfl rfl ?_
        refine V.getr dX8_as_24 fg_X8_10 rfl rfl rfl ?_
        refine V.getr dX8_as_27 fg_X8_290 rfl rfl rfl ?_
        refine V.iload_n dX8_as_30 rfl rfl rfl ?_
        refine V.ialdN (j := k) (v := M 13 k) dX8_as_31 rfl (by omega) (by decide) rfl rfl rfl ?_
        refine V.ist_n dX8_as_32 rfl (by decide) (L' := [(0, .ref 0), (1, .int (nI k)), (2, .int w), (3, .int (M 13 k))]) rfl rfl ?_
        refine V.aload_n dX8_as_33 rfl rfl rfl ?_
        refine V.iload_n dX8_as_34 rfl rfl rfl ?_
        refine V.callv_i (M1 := M) (v := if isB c (M 13 k) then 1 else 0) (md' := m_X8_isBatch) (As := [.int (M 13 k)]) (rest := []) dX8_as_35 ml_X8_84 mo_X8_isBatch ⟨Nat.le_of_ble_eq_true rfl, Nat.le_of_ble_eq_true rfl⟩ rfl ⟨_, _, rfl⟩ (Nat.le_of_ble_eq_true rfl) rfl rfl (Nat.le_of_ble_eq_true rfl) (v_X8_isBatch hc (M 13 k) M hM) rfl ?_
        refine V.ifb_ne (tgt := 47) dX8_as_38 rfl rfl (fun c38 => ?_) (fun c38 => ?_)
        · skip
          obtain ⟨b, hb, ebb⟩ := of_isB c38
          · refine V.loc (L' := [(0, .ref 0), (1, .int (nI k)), (2, .int w), (3, .int (nI b))]) (by rw [ebb]; exact fun _ zh => zh) ?_
            have eb : (nI b).toNatClampNeg = b := nI_clamp (by omega)
            have hbb := isB_nI (c := c) (k := b) (by omega) hb
            refine V.aload_n dX8_as_47 rfl rfl rfl ?_
            refine V.getr dX8_as_48 fg_X8_10 rfl rfl rfl ?_
            refine V.getr dX8_as_51 fg_X8_71 rfl rfl rfl ?_
            refine V.getr dX8_as_54 fg_X8_88 rfl rfl rfl ?_
            refine V.iload_n dX8_as_57 rfl rfl rfl ?_
            refine V.ialdN (j := b) (v := M 3 b) dX8_as_58 rfl (by omega) (by decide) rfl rfl rfl ?_
            refine V.iload_n dX8_as_59 rfl rfl rfl ?_
            refine V.calls_i (M1 := M) (v := if M 3 b = w ∨ aboveF (M 3 b) = w ∨ aboveF (aboveF (M 3 b)) = w then 1 else 0) (md' := m_X3_isUnder) (As := [.int (M 3 b), .int w]) (rest := []) dX8_as_60 ml_X8_293 mo_X3_isUnder ⟨Nat.le_of_ble_eq_true rfl, Nat.le_of_ble_eq_true rfl⟩ (Nat.le_of_ble_eq_true rfl) rfl rfl (Nat.le_of_ble_eq_true rfl) (v_X3_isUnder (M 3 b) w _) rfl ?_
            refine V.ifb_ne (tgt := 72) dX8_as_63 rfl rfl (fun c63 => ?_) (fun c63 => ?_)
            · skip
              refine V.iload_n dX8_as_72 rfl rfl rfl ?_
              exact V.ret dX8_as_73 rfl rfl ⟨(by first | (simp (decide := true) [cAs, undC, c4, c14, ek, c38, ebb, eb, hbb, c63]; done) | (simp (decide := true) [cAs, undC, c4, c14, ek, c38, ebb, eb, hbb, c63]; done) | (simp (decide := true) [cAs, undC, c4, c14, ek, c38, ebb, eb, hbb, c63]; done) | (simp_all (decide := true) [cAs, undC]; done) | (simp_all (decide := true) [cAs, undC, ltF, leF, ltFN, leFN]; done)), (by first | (simp (decide := true) [cAs, undC, c4, c14, ek, c38, ebb, eb, hbb, c63]; done) | (simp (decide := true) [cAs, undC, c4, c14, ek, c38, ebb, eb, hbb, c63]; done) | (simp (decide := true) [cAs, undC, c4, c14, ek, c38, ebb, eb, hbb, c63]; done) | (simp_all (decide := true) [cAs, undC]; done) | (simp_all (decide := true) [cAs, undC, ltF, leF, ltFN, leFN]; done))⟩
            · skip
              refine V.aload_n dX8_as_66 rfl rfl rfl ?_
              refine V.iconst (v := 2) dX8_as_67 rfl rfl ?_
              refine V.callv_i (M1 := cfd 2 M) (v := -1000003) (md' := m_X8_finding) (As := [.int 2]) (rest := []) dX8_as_68 ml_X8_67 mo_X8_finding ⟨Nat.le_of_ble_eq_true rfl, Nat.le_of_ble_eq_true rfl⟩ rfl ⟨_, _, rfl⟩ (Nat.le_of_ble_eq_true rfl) rfl rfl (Nat.le_of_ble_eq_true rfl) (v_X8_finding (w := 2) (by decide) (f := -1000003) (by decide +kernel) _) rfl ?_
              exact V.ret dX8_as_71 rfl rfl ⟨(by first | (simp (decide := true) [cAs, undC, c4, c14, ek, c38, ebb, eb, hbb, c63]; done) | (simp (decide := true) [cAs, undC, c4, c14, ek, c38, ebb, eb, hbb, c63]; done) | (simp (decide := true) [cAs, undC, c4, c14, ek, c38, ebb, eb, hbb, c63]; done) | (simp_all (decide := true) [cAs, undC]; done) | (simp_all (decide := true) [cAs, undC, ltF, leF, ltFN, leFN]; done)), (by first | (simp (decide := true) [cAs, undC, c4, c14, ek, c38, ebb, eb, hbb, c63]; done) | (simp (decide := true) [cAs, undC, c4, c14, ek, c38, ebb, eb, hbb, c63]; done) | (simp (decide := true) [cAs, undC, c4, c14, ek, c38, ebb, eb, hbb, c63]; done) | (simp_all (decide := true) [cAs, undC]; done) | (simp_all (decide := true) [cAs, undC, ltF, leF, ltFN, leFN]; done))⟩
        · skip
          refine V.aload_n dX8_as_41 rfl rfl rfl ?_
          refine V.iconst (v := 5) dX8_as_42 rfl rfl ?_
          refine V.callv_i (M1 := cfd 5 M) (v := -1000006) (md' := m_X8_finding) (As := [.int 5]) (rest := []) dX8_as_43 ml_X8_67 mo_X8_finding ⟨Nat.le_of_ble_eq_true rfl, Nat.le_of_ble_eq_true rfl⟩ rfl ⟨_, _, rfl⟩ (Nat.le_of_ble_eq_true rfl) rfl rfl (Nat.le_of_ble_eq_true rfl) (v_X8_finding (w := 5) (by decide) (f := -1000006) (by decide +kernel) _) rfl ?_
          exact V.ret dX8_as_46 rfl rfl ⟨(by first | (simp (decide := true) [cAs, undC, c4, c14, ek, c38]; done) | (simp (decide := true) [cAs, undC, c4, c14, ek, c38]; done) | (simp (decide := true) [cAs, undC, c4, c14, ek, c38]; done) | (simp_all (decide := true) [cAs, undC]; done) | (simp_all (decide := true) [cAs, undC, ltF, leF, ltFN, leFN]; done)), (by first | (simp (decide := true) [cAs, undC, c4, c14, ek, c38]; done) | (simp (decide := true) [cAs, undC, c4, c14, ek, c38]; done) | (simp (decide := true) [cAs, undC, c4, c14, ek, c38]; done) | (simp_all (decide := true) [cAs, undC]; done) | (simp_all (decide := true) [cAs, undC, ltF, leF, ltFN, leFN]; done))⟩
    · skip
      refine V.aload_n dX8_as_17 rfl rfl rfl ?_
      refine V.iconst (v := 0) dX8_as_18 rfl rfl ?_
      refine V.callv_i (M1 := cfd 0 M) (v := -1000001) (md' := m_X8_finding) (As := [.int 0]) (rest := []) dX8_as_19 ml_X8_67 mo_X8_finding ⟨Nat.le_of_ble_eq_true rfl, Nat.le_of_ble_eq_true rfl⟩ rfl ⟨_, _, rfl⟩ (Nat.le_of_ble_eq_true rfl) rfl rfl (Nat.le_of_ble_eq_true rfl) (v_X8_finding (w := 0) (by decide) (f := -1000001) (by decide +kernel) _) rfl ?_
      exact V.ret dX8_as_22 rfl rfl ⟨(by first | (simp (decide := true) [cAs, undC, c4, c14]; done) | (simp (decide := true) [cAs, undC, c4, c14]; done) | (simp (decide := true) [cAs, undC, c4, c14]; done) | (simp_all (decide := true) [cAs, undC]; done) | (simp_all (decide := true) [cAs, undC, ltF, leF, ltFN, leFN]; done)), (by first | (simp (decide := true) [cAs, undC, c4, c14]; done) | (simp (decide := true) [cAs, undC, c4, c14]; done) | (simp (decide := true) [cAs, undC, c4, c14]; done) | (simp_all (decide := true) [cAs, undC]; done) | (simp_all (decide := true) [cAs, undC, ltF, leF, ltFN, leFN]; done))⟩
def cImage (c : Nat) (M : Mem) : Int32 × Mem := (1, ms (eBecM 14 1 M) 0 9 1)
theorem v_X8_image {c : Nat} (hc : c ≤ 10)  (M : Mem) (hM : M 2 5 = nI c) : V m_X8_image 0 [(0, .ref 0)] [] M (RT (some (.int ((cImage c M).1))) ((cImage c M).2)) := by
  refine V.aload_n dX8_image_0 rfl rfl rfl ?_
  refine V.getr dX8_image_1 fg_X8_16 rfl rfl rfl ?_
  refine V.aload_n dX8_image_4 rfl rfl rfl ?_
  refine V.getr dX8_image_5 fg_X8_10 rfl rfl rfl ?_
  refine V.callv_v (M1 := eBecM 14 1 M) (md' := m_X2_become) (As := [.ref 1]) (rest := []) dX8_image_8 ml_X8_227 mo_X2_become ⟨Nat.le_of_ble_eq_true rfl, Nat.le_of_ble_eq_true rfl⟩ rfl ⟨_, _, rfl⟩ (Nat.le_of_ble_eq_true rfl) rfl rfl (Nat.le_of_ble_eq_true rfl) (v_X2_become isE14 isE1 (by decide) M) rfl ?_
  refine V.aload_n dX8_image_11 rfl rfl rfl ?_
  refine V.iconst (v := 1) dX8_image_12 rfl rfl ?_
  refine V.puti dX8_image_13 fp_X8_59 rfl rfl rfl rfl (M' := (ms (eBecM 14 1 M) 0 9 1)) rfl rfl ?_
  refine V.iconst (v := 1) dX8_image_16 rfl rfl ?_
  exact V.ret dX8_image_17 rfl rfl ⟨rfl, rfl⟩
def cUndo (c : Nat) (M : Mem) : Int32 × Mem := if M 0 9 = 0 then (-1000004, cfd 3 M) else (eBecM 1 14 M 1 7, eBecM 1 14 M)
theorem v_X8_undo {c : Nat} (hc : c ≤ 10)  (M : Mem) (hM : M 2 5 = nI c) : V m_X8_undo 0 [(0, .ref 0)] [] M (RT (some (.int ((cUndo c M).1))) ((cUndo c M).2)) := by
  refine V.aload_n dX8_undo_0 rfl rfl rfl ?_
  refine V.geti (v := M 0 9) dX8_undo_1 fg_X8_59 rfl rfl rfl rfl ?_
  refine V.if_ne (tgt := 13) dX8_undo_4 rfl rfl (fun c4 => ?_) (fun c4 => ?_)
  · skip
    refine V.aload_n dX8_undo_13 rfl rfl rfl ?_
    refine V.getr dX8_undo_14 fg_X8_10 rfl rfl rfl ?_
    refine V.aload_n dX8_undo_17 rfl rfl rfl ?_
    refine V.getr dX8_undo_18 fg_X8_16 rfl rfl rfl ?_
    refine V.callv_v (M1 := eBecM 1 14 M) (md' := m_X2_become) (As := [.ref 14]) (rest := []) dX8_undo_21 ml_X8_227 mo_X2_become ⟨Nat.le_of_ble_eq_true rfl, Nat.le_of_ble_eq_true rfl⟩ rfl ⟨_, _, rfl⟩ (Nat.le_of_ble_eq_true rfl) rfl rfl (Nat.le_of_ble_eq_true rfl) (v_X2_become isE1 isE14 (by decide) M) rfl ?_
    refine V.aload_n dX8_undo_24 rfl rfl rfl ?_
    refine V.getr dX8_undo_25 fg_X8_10 rfl rfl rfl ?_
    refine V.geti (v := (eBecM 1 14 M) 1 7) dX8_undo_28 fg_X8_208 rfl rfl rfl rfl ?_
    exact V.ret dX8_undo_31 rfl rfl ⟨(by first | (simp (decide := true) [cUndo, c4]; done) | (simp (decide := true) [cUndo, c4]; done) | (simp (decide := true) [cUndo, c4]; done) | (simp_all (decide := true) [cUndo]; done) | (simp_all (decide := true) [cUndo, ltF, leF, ltFN, leFN]; done)), (by first | (simp (decide := true) [cUndo, c4]; done) | (simp (decide := true) [cUndo, c4]; done) | (simp (decide := true) [cUndo, c4]; done) | (simp_all (decide := true) [cUndo]; done) | (simp_all (decide := true) [cUndo, ltF, leF, ltFN, leFN]; done))⟩
  · skip
    refine V.aload_n dX8_undo_7 rfl rfl rfl ?_
    refine V.iconst (v := 3) dX8_undo_8 rfl rfl ?_
    refine V.callv_i (M1 := cfd 3 M) (v := -1000004) (md' := m_X8_finding) (As := [.int 3]) (rest := []) dX8_undo_9 ml_X8_67 mo_X8_finding ⟨Nat.le_of_ble_eq_true rfl, Nat.le_of_ble_eq_true rfl⟩ rfl ⟨_, _, rfl⟩ (Nat.le_of_ble_eq_true rfl) rfl rfl (Nat.le_of_ble_eq_true rfl) (v_X8_finding (w := 3) (by decide) (f := -1000004) (by decide +kernel) _) rfl ?_
    exact V.ret dX8_undo_12 rfl rfl ⟨(by first | (simp (decide := true) [cUndo, c4]; done) | (simp (decide := true) [cUndo, c4]; done) | (simp (decide := true) [cUndo, c4]; done) | (simp_all (decide := true) [cUndo]; done) | (simp_all (decide := true) [cUndo, ltF, leF, ltFN, leFN]; done)), (by first | (simp (decide := true) [cUndo, c4]; done) | (simp (decide := true) [cUndo, c4]; done) | (simp (decide := true) [cUndo, c4]; done) | (simp_all (decide := true) [cUndo]; done) | (simp_all (decide := true) [cUndo, ltF, leF, ltFN, leFN]; done))⟩
def cTear (c : Nat) (M : Mem) : Int32 × Mem := (if M 0 9 = 0 then 0 else 1, ms M 0 9 0)
theorem v_X8_tear {c : Nat} (hc : c ≤ 10)  (M : Mem) (hM : M 2 5 = nI c) : V m_X8_tear 0 [(0, .ref 0)] [] M (RT (some (.int ((cTear c M).1))) ((cTear c M).2)) := by
  refine V.aload_n dX8_tear_0 rfl rfl rfl ?_
  refine V.geti (v := M 0 9) dX8_tear_1 fg_X8_59 rfl rfl rfl rfl ?_
  refine V.if_eq (tgt := 11) dX8_tear_4 rfl rfl (fun c4 => ?_) (fun c4 => ?_)
  · skip
    refine V.iconst (v := 0) dX8_tear_11 rfl rfl ?_
    refine V.ist_n dX8_tear_12 rfl (by decide) (L' := [(0, .ref 0), (1, .int 0)]) rfl rfl ?_
    refine V.aload_n dX8_tear_13 rfl rfl rfl ?_
    refine V.iconst (v := 0) dX8_tear_14 rfl rfl ?_
    refine V.puti dX8_tear_15 fp_X8_59 rfl rfl rfl rfl (M' := (ms M 0 9 0)) rfl rfl ?_
    refine V.iload_n dX8_tear_18 rfl rfl rfl ?_
    exact V.ret dX8_tear_19 rfl rfl ⟨(by first | (simp (decide := true) [cTear, c4]; done) | (simp (decide := true) [cTear, c4]; done) | (simp (decide := true) [cTear, c4]; done) | (simp_all (decide := true) [cTear]; done) | (simp_all (decide := true) [cTear, ltF, leF, ltFN, leFN]; done)), (by first | (simp (decide := true) [cTear, c4]; done) | (simp (decide := true) [cTear, c4]; done) | (simp (decide := true) [cTear, c4]; done) | (simp_all (decide := true) [cTear]; done) | (simp_all (decide := true) [cTear, ltF, leF, ltFN, leFN]; done))⟩
  · skip
    refine V.iconst (v := 1) dX8_tear_7 rfl rfl ?_
    refine V.goto (pc' := 12) dX8_tear_8 rfl ?_
    refine V.ist_n dX8_tear_12 rfl (by decide) (L' := [(0, .ref 0), (1, .int 1)]) rfl rfl ?_
    refine V.aload_n dX8_tear_13 rfl rfl rfl ?_
    refine V.iconst (v := 0) dX8_tear_14 rfl rfl ?_
    refine V.puti dX8_tear_15 fp_X8_59 rfl rfl rfl rfl (M' := (ms M 0 9 0)) rfl rfl ?_
    refine V.iload_n dX8_tear_18 rfl rfl rfl ?_
    exact V.ret dX8_tear_19 rfl rfl ⟨(by first | (simp (decide := true) [cTear, c4]; done) | (simp (decide := true) [cTear, c4]; done) | (simp (decide := true) [cTear, c4]; done) | (simp_all (decide := true) [cTear]; done) | (simp_all (decide := true) [cTear, ltF, leF, ltFN, leFN]; done)), (by first | (simp (decide := true) [cTear, c4]; done) | (simp (decide := true) [cTear, c4]; done) | (simp (decide := true) [cTear, c4]; done) | (simp_all (decide := true) [cTear]; done) | (simp_all (decide := true) [cTear, ltF, leF, ltFN, leFN]; done))⟩
def cCount (c cc : Nat) (w : Int32) (M : Mem) : Int32 × Mem := (if w = 0 then (nI c, M) else if w = 1 then (nI cc, M) else if w = 2 then (sumG (M 4) c 0 0, M) else if w = 3 then (sumG (M 11) cc 0 0, M) else if w = 4 then (M 1 5, M) else if w = 5 then (M 1 6, M) else if w = 6 then (M 54 1, M) else if w = 7 then (M 1 14, M) else if w = 8 then (heldG (M 13) 10 0 0, M) else (-1000001, cfd 0 M))
theorem v_X8_count {c : Nat} (hc : c ≤ 10) {cc : Nat} (hcc : cc ≤ 12) (w : Int32) (M : Mem) (hM : M 2 5 = nI c) (h2 : M 8 3 = nI cc) : V m_X8_count 0 [(0, .ref 0), (1, .int w)] [] M (RT (some (.int ((cCount c cc w M).1))) ((cCount c cc w M).2)) := by
  refine V.iload_n dX8_count_0 rfl rfl rfl ?_
  by_cases s1_0 : w = 0
  · refine V.tabIn (pc' := 52) dX8_count_1 (by rw [s1_0]; decide) (by rw [s1_0]; decide) (by rw [s1_0]; rfl) rfl ?_
    refine V.aload_n dX8_count_52 rfl rfl rfl ?_
    refine V.getr dX8_count_53 fg_X8_10 rfl rfl rfl ?_
    refine V.getr dX8_count_56 fg_X8_71 rfl rfl rfl ?_
    refine V.geti (v := nI c) dX8_count_59 fg_X8_224 rfl rfl hM rfl ?_
    exact V.ret dX8_count_62 rfl rfl ⟨(by first | (simp (decide := true) [cCount, s1_0]; done) | (simp (decide := true) [cCount, s1_0]; done) | (simp (decide := true) [cCount, s1_0]; done) | (simp_all (decide := true) [cCount]; done) | (simp_all (decide := true) [cCount, ltF, leF, ltFN, leFN]; done)), (by first | (simp (decide := true) [cCount, s1_0]; done) | (simp (decide := true) [cCount, s1_0]; done) | (simp (decide := true) [cCount, s1_0]; done) | (simp_all (decide := true) [cCount]; done) | (simp_all (decide := true) [cCount, ltF, leF, ltFN, leFN]; done))⟩
  by_cases s1_1 : w = 1
  · refine V.tabIn (pc' := 63) dX8_count_1 (by rw [s1_1]; decide) (by rw [s1_1]; decide) (by rw [s1_1]; rfl) rfl ?_
    refine V.aload_n dX8_count_63 rfl rfl rfl ?_
    refine V.getr dX8_count_64 fg_X8_10 rfl rfl rfl ?_
    refine V.getr dX8_count_67 fg_X8_171 rfl rfl rfl ?_
    refine V.geti (v := nI cc) dX8_count_70 fg_X8_270 rfl rfl h2 rfl ?_
    exact V.ret dX8_count_73 rfl rfl ⟨(by first | (simp (decide := true) [cCount, s1_1]; done) | (simp (decide := true) [cCount, s1_1]; done) | (simp (decide := true) [cCount, s1_1]; done) | (simp_all (decide := true) [cCount]; done) | (simp_all (decide := true) [cCount, ltF, leF, ltFN, leFN]; done)), (by first | (simp (decide := true) [cCount, s1_1]; done) | (simp (decide := true) [cCount, s1_1]; done) | (simp (decide := true) [cCount, s1_1]; done) | (simp_all (decide := true) [cCount]; done) | (simp_all (decide := true) [cCount, ltF, leF, ltFN, leFN]; done))⟩
  by_cases s1_2 : w = 2
  · refine V.tabIn (pc' := 74) dX8_count_1 (by rw [s1_2]; decide) (by rw [s1_2]; decide) (by rw [s1_2]; rfl) rfl ?_
    refine V.aload_n dX8_count_74 rfl rfl rfl ?_
    refine V.getr dX8_count_75 fg_X8_10 rfl rfl rfl ?_
    refine V.getr dX8_count_78 fg_X8_71 rfl rfl rfl ?_
    refine V.callv_i (M1 := M) (v := sumG (M 4) c 0 0) (md' := m_X4_bagsOfAll) (As := []) (rest := []) dX8_count_81 ml_X8_324 mo_X4_bagsOfAll ⟨Nat.le_of_ble_eq_true rfl, Nat.le_of_ble_eq_true rfl⟩ rfl ⟨_, _, rfl⟩ (Nat.le_of_ble_eq_true rfl) rfl rfl (Nat.le_of_ble_eq_true rfl) (v_X4_bagsOfAll isE1 hc M hM) rfl ?_
    exact V.ret dX8_count_84 rfl rfl ⟨(by first | (simp (decide := true) [cCount, s1_2]; done) | (simp (decide := true) [cCount, s1_2]; done) | (simp (decide := true) [cCount, s1_2]; done) | (simp_all (decide := true) [cCount]; done) | (simp_all (decide := true) [cCount, ltF, leF, ltFN, leFN]; done)), (by first | (simp (decide := true) [cCount, s1_2]; done) | (simp (decide := true) [cCount, s1_2]; done) | (simp (decide := true) [cCount, s1_2]; done) | (simp_all (decide := true) [cCount]; done) | (simp_all (decide := true) [cCount, ltF, leF, ltFN, leFN]; done))⟩
  by_cases s1_3 : w = 3
  · refine V.tabIn (pc' := 85) dX8_count_1 (by rw [s1_3]; decide) (by rw [s1_3]; decide) (by rw [s1_3]; rfl) rfl ?_
    refine V.aload_n dX8_count_85 rfl rfl rfl ?_
    refine V.getr dX8_count_86 fg_X8_10 rfl rfl rfl ?_
    refine V.getr dX8_count_89 fg_X8_171 rfl rfl rfl ?_
    refine V.callv_i (M1 := M) (v := sumG (M 11) cc 0 0) (md' := m_X1_manyOfAll) (As := []) (rest := []) dX8_count_92 ml_X8_327 mo_X1_manyOfAll ⟨Nat.le_of_ble_eq_true rfl, Nat.le_of_ble_eq_true rfl⟩ rfl ⟨_, _, rfl⟩ (Nat.le_of_ble_eq_true rfl) rfl rfl (Nat.le_of_ble_eq_true rfl) (v_X1_manyOfAll isE1 hcc M h2) rfl ?_
    exact V.ret dX8_count_95 rfl rfl ⟨(by first | (simp (decide := true) [cCount, s1_3]; done) | (simp (decide := true) [cCount, s1_3]; done) | (simp (decide := true) [cCount, s1_3]; done) | (simp_all (decide := true) [cCount]; done) | (simp_all (decide := true) [cCount, ltF, leF, ltFN, leFN]; done)), (by first | (simp (decide := true) [cCount, s1_3]; done) | (simp (decide := true) [cCount, s1_3]; done) | (simp (decide := true) [cCount, s1_3]; done) | (simp_all (decide := true) [cCount]; done) | (simp_all (decide := true) [cCount, ltF, leF, ltFN, leFN]; done))⟩
  by_cases s1_4 : w = 4
  · refine V.tabIn (pc' := 96) dX8_count_1 (by rw [s1_4]; decide) (by rw [s1_4]; decide) (by rw [s1_4]; rfl) rfl ?_
    refine V.aload_n dX8_count_96 rfl rfl rfl ?_
    refine V.getr dX8_count_97 fg_X8_10 rfl rfl rfl ?_
    refine V.geti (v := M 1 5) dX8_count_100 fg_X8_111 rfl rfl rfl rfl ?_
    exact V.ret dX8_count_103 rfl rfl ⟨(by first | (simp (decide := true) [cCount, s1_4]; done) | (simp (decide := true) [cCount, s1_4]; done) | (simp (decide := true) [cCount, s1_4]; done) | (simp_all (decide := true) [cCount]; done) | (simp_all (decide := true) [cCount, ltF, leF, ltFN, leFN]; done)), (by first | (simp (decide := true) [cCount, s1_4]; done) | (simp (decide := true) [cCount, s1_4]; done) | (simp (decide := true) [cCount, s1_4]; done) | (simp_all (decide := true) [cCount]; done) | (simp_all (decide := true) [cCount, ltF, leF, ltFN, leFN]; done))⟩
  by_cases s1_5 : w = 5
  · refine V.tabIn (pc' := 104) dX8_count_1 (by rw [s1_5]; decide) (by rw [s1_5]; decide) (by rw [s1_5]; rfl) rfl ?_
    refine V.aload_n dX8_count_104 rfl rfl rfl ?_
    refine V.getr dX8_count_105 fg_X8_10 rfl rfl rfl ?_
    refine V.geti (v := M 1 6) dX8_count_108 fg_X8_330 rfl rfl rfl rfl ?_
    exact V.ret dX8_count_111 rfl rfl ⟨(by first | (simp (decide := true) [cCount, s1_5]; done) | (simp (decide := true) [cCount, s1_5]; done) | (simp (decide := true) [cCount, s1_5]; done) | (simp_all (decide := true) [cCount]; done) | (simp_all (decide := true) [cCount, ltF, leF, ltFN, leFN]; done)), (by first | (simp (decide := true) [cCount, s1_5]; done) | (simp (decide := true) [cCount, s1_5]; done) | (simp (decide := true) [cCount, s1_5]; done) | (simp_all (decide := true) [cCount]; done) | (simp_all (decide := true) [cCount, ltF, leF, ltFN, leFN]; done))⟩
  by_cases s1_6 : w = 6
  · refine V.tabIn (pc' := 112) dX8_count_1 (by rw [s1_6]; decide) (by rw [s1_6]; decide) (by rw [s1_6]; rfl) rfl ?_
    refine V.aload_n dX8_count_112 rfl rfl rfl ?_
    refine V.getr dX8_count_113 fg_X8_35 rfl rfl rfl ?_
    refine V.geti (v := M 54 1) dX8_count_116 fg_X8_281 rfl rfl rfl rfl ?_
    exact V.ret dX8_count_119 rfl rfl ⟨(by first | (simp (decide := true) [cCount, s1_6]; done) | (simp (decide := true) [cCount, s1_6]; done) | (simp (decide := true) [cCount, s1_6]; done) | (simp_all (decide := true) [cCount]; done) | (simp_all (decide := true) [cCount, ltF, leF, ltFN, leFN]; done)), (by first | (simp (decide := true) [cCount, s1_6]; done) | (simp (decide := true) [cCount, s1_6]; done) | (simp (decide := true) [cCount, s1_6]; done) | (simp_all (decide := true) [cCount]; done) | (simp_all (decide := true) [cCount, ltF, leF, ltFN, leFN]; done))⟩
  by_cases s1_7 : w = 7
  · refine V.tabIn (pc' := 120) dX8_count_1 (by rw [s1_7]; decide) (by rw [s1_7]; decide) (by rw [s1_7]; rfl) rfl ?_
    refine V.aload_n dX8_count_120 rfl rfl rfl ?_
    refine V.getr dX8_count_121 fg_X8_10 rfl rfl rfl ?_
    refine V.geti (v := M 1 14) dX8_count_124 fg_X8_274 rfl rfl rfl rfl ?_
    exact V.ret dX8_count_127 rfl rfl ⟨(by first | (simp (decide := true) [cCount, s1_7]; done) | (simp (decide := true) [cCount, s1_7]; done) | (simp (decide := true) [cCount, s1_7]; done) | (simp_all (decide := true) [cCount]; done) | (simp_all (decide := true) [cCount, ltF, leF, ltFN, leFN]; done)), (by first | (simp (decide := true) [cCount, s1_7]; done) | (simp (decide := true) [cCount, s1_7]; done) | (simp (decide := true) [cCount, s1_7]; done) | (simp_all (decide := true) [cCount]; done) | (simp_all (decide := true) [cCount, ltF, leF, ltFN, leFN]; done))⟩
  by_cases s1_8 : w = 8
  · refine V.tabIn (pc' := 128) dX8_count_1 (by rw [s1_8]; decide) (by rw [s1_8]; decide) (by rw [s1_8]; rfl) rfl ?_
    refine V.aload_n dX8_count_128 rfl rfl rfl ?_
    refine V.getr dX8_count_129 fg_X8_10 rfl rfl rfl ?_
    refine V.callv_i (M1 := M) (v := heldG (M 13) 10 0 0) (md' := m_X2_spotsHolding) (As := []) (rest := []) dX8_count_132 ml_X8_333 mo_X2_spotsHolding ⟨Nat.le_of_ble_eq_true rfl, Nat.le_of_ble_eq_true rfl⟩ rfl ⟨_, _, rfl⟩ (Nat.le_of_ble_eq_true rfl) rfl rfl (Nat.le_of_ble_eq_true rfl) (v_X2_spotsHolding isE1 M) rfl ?_
    exact V.ret dX8_count_135 rfl rfl ⟨(by first | (simp (decide := true) [cCount, s1_8]; done) | (simp (decide := true) [cCount, s1_8]; done) | (simp (decide := true) [cCount, s1_8]; done) | (simp_all (decide := true) [cCount]; done) | (simp_all (decide := true) [cCount, ltF, leF, ltFN, leFN]; done)), (by first | (simp (decide := true) [cCount, s1_8]; done) | (simp (decide := true) [cCount, s1_8]; done) | (simp (decide := true) [cCount, s1_8]; done) | (simp_all (decide := true) [cCount]; done) | (simp_all (decide := true) [cCount, ltF, leF, ltFN, leFN]; done))⟩
  refine V.tabOut (pc' := 136) dX8_count_1 (by have q0 := lv_neT (a := 0) s1_0 rfl; have q1 := lv_neT (a := 1) s1_1 rfl; have q2 := lv_neT (a := 2) s1_2 rfl; have q3 := lv_neT (a := 3) s1_3 rfl; have q4 := lv_neT (a := 4) s1_4 rfl; have q5 := lv_neT (a := 5) s1_5 rfl; have q6 := lv_neT (a := 6) s1_6 rfl; have q7 := lv_neT (a := 7) s1_7 rfl; have q8 := lv_neT (a := 8) s1_8 rfl; omega) rfl ?_
  refine V.aload_n dX8_count_136 rfl rfl rfl ?_
  refine V.iconst (v := 0) dX8_count_137 rfl rfl ?_
  refine V.callv_i (M1 := cfd 0 M) (v := -1000001) (md' := m_X8_finding) (As := [.int 0]) (rest := []) dX8_count_138 ml_X8_67 mo_X8_finding ⟨Nat.le_of_ble_eq_true rfl, Nat.le_of_ble_eq_true rfl⟩ rfl ⟨_, _, rfl⟩ (Nat.le_of_ble_eq_true rfl) rfl rfl (Nat.le_of_ble_eq_true rfl) (v_X8_finding (w := 0) (by decide) (f := -1000001) (by decide +kernel) _) rfl ?_
  exact V.ret dX8_count_141 rfl rfl ⟨(by first | (simp (decide := true) [cCount, s1_0, s1_1, s1_2, s1_3, s1_4, s1_5, s1_6, s1_7, s1_8]; done) | (simp (decide := true) [cCount, s1_0, s1_1, s1_2, s1_3, s1_4, s1_5, s1_6, s1_7, s1_8]; done) | (simp (decide := true) [cCount, s1_0, s1_1, s1_2, s1_3, s1_4, s1_5, s1_6, s1_7, s1_8]; done) | (simp_all (decide := true) [cCount]; done) | (simp_all (decide := true) [cCount, ltF, leF, ltFN, leFN]; done)), (by first | (simp (decide := true) [cCount, s1_0, s1_1, s1_2, s1_3, s1_4, s1_5, s1_6, s1_7, s1_8]; done) | (simp (decide := true) [cCount, s1_0, s1_1, s1_2, s1_3, s1_4, s1_5, s1_6, s1_7, s1_8]; done) | (simp (decide := true) [cCount, s1_0, s1_1, s1_2, s1_3, s1_4, s1_5, s1_6, s1_7, s1_8]; done) | (simp_all (decide := true) [cCount]; done) | (simp_all (decide := true) [cCount, ltF, leF, ltFN, leFN]; done))⟩
theorem l_X8_status (w : Int32) (M : Mem) : ∀ (n i : Nat) (s : Int32), i + n = 7 → V m_X8_status 31 [(0, .ref 0), (1, .int w), (2, .int s), (3, .int (nI i))] [] M (RT (some (.int (sumG (M 61) n i s))) M) := by
  intro n
  induction n with
  | zero =>
    intro i s hi
    refine V.iload_n dX8_status_31 rfl rfl rfl ?_
    refine V.bipush (v := 7) dX8_status_32 (by decide) rfl ?_
    refine V.icmp_ge (tgt := 52) dX8_status_34 rfl rfl (fun c34 => ?_) (fun c34 => absurd ((nI_leI (a := 7) (b := i) (by omega) (by omega)).mpr (by omega)) c34)
    have c34 : 7 ≤ i := (nI_leI (a := 7) (b := i) (by omega) (by omega)).mp c34
    refine V.iload_n dX8_status_52 rfl rfl rfl ?_
    exact V.ret dX8_status_53 rfl rfl ⟨rfl, rfl⟩
  | succ n ih =>
    intro i s hi
    refine V.iload_n dX8_status_31 rfl rfl rfl ?_
    refine V.bipush (v := 7) dX8_status_32 (by decide) rfl ?_
    refine V.icmp_ge (tgt := 52) dX8_status_34 rfl rfl (fun c34 => absurd ((nI_leI (a := 7) (b := i) (by omega) (by omega)).mp c34) (by omega)) (fun c34 => ?_)
    have c34 : ¬ 7 ≤ i := fun zq => c34 ((nI_leI (a := 7) (b := i) (by omega) (by omega)).mpr zq)
    refine V.iload_n dX8_status_37 rfl rfl rfl ?_
    refine V.aload_n dX8_status_38 rfl rfl rfl ?_
    refine V.getr dX8_status_39 fg_X8_55 rfl rfl rfl ?_
    refine V.iload_n dX8_status_42 rfl rfl rfl ?_
    refine V.ialdN (j := i) (v := M 61 i) dX8_status_43 rfl (by omega) (by decide) rfl rfl rfl ?_
    refine V.iadd (v := s + (M 61 i)) dX8_status_44 rfl rfl ?_
    refine V.ist_n dX8_status_45 rfl (by decide) (L' := [(0, .ref 0), (1, .int w), (2, .int (s + (M 61 i))), (3, .int (nI i))]) rfl rfl ?_
    refine V.inc (v := nI (i + 1)) dX8_status_46 rfl (nI_1 _) (by decide) (L' := [(0, .ref 0), (1, .int w), (2, .int (s + (M 61 i))), (3, .int (nI (i + 1)))]) rfl rfl ?_
    refine V.goto (pc' := 31) dX8_status_49 rfl ?_
    exact ih (i + 1) _ (by omega)
def cStatus (c : Nat) (w : Int32) (M : Mem) : Int32 × Mem := if ¬ rng (-1) 6 w then (-1000001, cfd 0 M) else if w < 0 then (sumG (M 61) 7 0 0, M) else (M 61 w.toNatClampNeg, M)
theorem v_X8_status {c : Nat} (hc : c ≤ 10) (w : Int32) (M : Mem) (hM : M 2 5 = nI c) : V m_X8_status 0 [(0, .ref 0), (1, .int w)] [] M (RT (some (.int ((cStatus c w M).1))) ((cStatus c w M).2)) := by
  refine V.iload_n dX8_status_0 rfl rfl rfl ?_
  refine V.iconst (v := -1) dX8_status_1 rfl rfl ?_
  refine V.bipush (v := 6) dX8_status_2 (by decide) rfl ?_
  refine V.calls_i (M1 := M) (v := if rng (-1) 6 w then 1 else 0) (md' := m_X8_within) (As := [.int w, .int (-1), .int 6]) (rest := []) dX8_status_4 ml_X8_63 mo_X8_within ⟨Nat.le_of_ble_eq_true rfl, Nat.le_of_ble_eq_true rfl⟩ (Nat.le_of_ble_eq_true rfl) rfl rfl (Nat.le_of_ble_eq_true rfl) (v_X8_within (x := w) (a := (-1)) (b := 6) rfl rfl _) rfl ?_
  refine V.ifb_ne (tgt := 16) dX8_status_7 rfl rfl (fun c7 => ?_) (fun c7 => ?_)
  · skip
    refine V.iload_n dX8_status_16 rfl rfl rfl ?_
    refine V.if_lt (tgt := 27) dX8_status_17 rfl rfl (fun c17 => ?_) (fun c17 => ?_)
    · have d17 := Int32.not_le.mpr c17
      refine V.iconst (v := 0) dX8_status_27 rfl rfl ?_
      refine V.ist_n dX8_status_28 rfl (by decide) (L' := [(0, .ref 0), (1, .int w), (2, .int 0)]) rfl rfl ?_
      refine V.iconst (v := 0) dX8_status_29 rfl rfl ?_
      refine V.ist_n dX8_status_30 rfl (by decide) (L' := [(0, .ref 0), (1, .int w), (2, .int 0), (3, .int 0)]) rfl rfl ?_
      rw [show cStatus c w M = (sumG (M 61) 7 0 0, M) from by simp [cStatus, c7, c17]]
      exact l_X8_status w M 7 0 0 rfl
    · have d17 := Int32.not_lt.mp c17
      obtain ⟨k, hk, rfl⟩ := of_rngm (b := 6) c7 c17
      · have ek : (nI k).toNatClampNeg = k := nI_clamp (by omega)
        refine V.aload_n dX8_status_20 rfl rfl rfl ?_
        refine V.getr dX8_status_21 fg_X8_55 rfl rfl rfl ?_
        refine V.iload_n dX8_status_24 rfl rfl rfl ?_
        refine V.ialdN (j := k) (v := M 61 k) dX8_status_25 rfl (by omega) (by decide) rfl rfl rfl ?_
        exact V.ret dX8_status_26 rfl rfl ⟨(by first | (simp (decide := true) [cStatus, c7, c17, d17, ek]; done) | (simp (decide := true) [cStatus, c7, c17, c17, ek]; done) | (simp (decide := true) [cStatus, c7, c17, d17, ek, c17]; done) | (simp_all (decide := true) [cStatus]; done) | (simp_all (decide := true) [cStatus, ltF, leF, ltFN, leFN]; done)), (by first | (simp (decide := true) [cStatus, c7, c17, d17, ek]; done) | (simp (decide := true) [cStatus, c7, c17, c17, ek]; done) | (simp (decide := true) [cStatus, c7, c17, d17, ek, c17]; done) | (simp_all (decide := true) [cStatus]; done) | (simp_all (decide := true) [cStatus, ltF, leF, ltFN, leFN]; done))⟩
  · skip
    refine V.aload_n dX8_status_10 rfl rfl rfl ?_
    refine V.iconst (v := 0) dX8_status_11 rfl rfl ?_
    refine V.callv_i (M1 := cfd 0 M) (v := -1000001) (md' := m_X8_finding) (As := [.int 0]) (rest := []) dX8_status_12 ml_X8_67 mo_X8_finding ⟨Nat.le_of_ble_eq_true rfl, Nat.le_of_ble_eq_true rfl⟩ rfl ⟨_, _, rfl⟩ (Nat.le_of_ble_eq_true rfl) rfl rfl (Nat.le_of_ble_eq_true rfl) (v_X8_finding (w := 0) (by decide) (f := -1000001) (by decide +kernel) _) rfl ?_
    exact V.ret dX8_status_15 rfl rfl ⟨(by first | (simp (decide := true) [cStatus, c7]; done) | (simp (decide := true) [cStatus, c7]; done) | (simp (decide := true) [cStatus, c7]; done) | (simp_all (decide := true) [cStatus]; done) | (simp_all (decide := true) [cStatus, ltF, leF, ltFN, leFN]; done)), (by first | (simp (decide := true) [cStatus, c7]; done) | (simp (decide := true) [cStatus, c7]; done) | (simp (decide := true) [cStatus, c7]; done) | (simp_all (decide := true) [cStatus]; done) | (simp_all (decide := true) [cStatus, ltF, leF, ltFN, leFN]; done))⟩
theorem l_X8_boys {c : Nat} (hc0 : 0 < c) (hc : c ≤ 10) {k : Nat} (hk : k ≤ 12) : ∀ (n i : Nat) (s : Int32) (M : Mem), M 2 5 = nI c → i + n = k → V m_X8_boys 42 [(0, .ref 0), (1, .int (nI k)), (2, .int (nI c)), (3, .int s), (4, .int (nI i))] [] M (RT (some (.int ((boyCG c n s M).1))) ((boyCG c n s M).2)) := by
  intro n
  induction n with
  | zero =>
    intro i s M hM hi
    obtain ⟨b, hb, hbb⟩ := boyC_lt hc0 hc M
    have ebb : (nI b).toNatClampNeg = b := nI_clamp (by omega)
    refine V.iload dX8_boys_42 rfl rfl ?_
    refine V.iload_n dX8_boys_44 rfl rfl rfl ?_
    refine V.icmp_ge (tgt := 118) dX8_boys_45 rfl rfl (fun c45 => ?_) (fun c45 => absurd ((nI_leI (a := k) (b := i) (by omega) (by omega)).mpr (by omega)) c45)
    have c45 : k ≤ i := (nI_leI (a := k) (b := i) (by omega) (by omega)).mp c45
    refine V.iload_n dX8_boys_118 rfl rfl rfl ?_
    exact V.ret dX8_boys_119 rfl rfl ⟨rfl, rfl⟩
  | succ n ih =>
    intro i s M hM hi
    obtain ⟨b, hb, hbb⟩ := boyC_lt hc0 hc M
    have ebb : (nI b).toNatClampNeg = b := nI_clamp (by omega)
    refine V.iload dX8_boys_42 rfl rfl ?_
    refine V.iload_n dX8_boys_44 rfl rfl rfl ?_
    refine V.icmp_ge (tgt := 118) dX8_boys_45 rfl rfl (fun c45 => absurd ((nI_leI (a := k) (b := i) (by omega) (by omega)).mp c45) (by omega)) (fun c45 => ?_)
    have c45 : ¬ k ≤ i := fun zq => c45 ((nI_leI (a := k) (b := i) (by omega) (by omega)).mpr zq)
    refine V.aload_n dX8_boys_48 rfl rfl rfl ?_
    refine V.getr dX8_boys_49 fg_X8_10 rfl rfl rfl ?_
    refine V.callv_i (M1 := drawM 1 M) (v := drawF (M 1 14 * 1103515245 + 12345)) (md' := m_X2_draw) (As := []) (rest := []) dX8_boys_52 ml_X8_271 mo_X2_draw ⟨Nat.le_of_ble_eq_true rfl, Nat.le_of_ble_eq_true rfl⟩ rfl ⟨_, _, rfl⟩ (Nat.le_of_ble_eq_true rfl) rfl rfl (Nat.le_of_ble_eq_true rfl) (v_X2_draw isE1 M) rfl ?_
    refine V.iload_n dX8_boys_55 rfl rfl rfl ?_
    refine V.irem (v := nI b) dX8_boys_56 (by exact fun q => absurd ((nI_eq (a := c) (b := 0) (by omega) (by decide)).mp q) (by omega)) (by rw [← hbb]; rfl) rfl ?_
    refine V.ist dX8_boys_57 (by decide) (L' := [(0, .ref 0), (1, .int (nI k)), (2, .int (nI c)), (3, .int s), (4, .int (nI i)), (5, .int (nI b))]) rfl rfl ?_
    refine V.aload_n dX8_boys_59 rfl rfl rfl ?_
    refine V.getr dX8_boys_60 fg_X8_10 rfl rfl rfl ?_
    refine V.getr dX8_boys_63 fg_X8_71 rfl rfl rfl ?_
    refine V.getr dX8_boys_66 fg_X8_100 rfl rfl rfl ?_
    refine V.iload dX8_boys_69 rfl rfl ?_
    refine V.ialdN (j := b) (v := M 7 b) dX8_boys_71 rfl (by omega) (by decide) rfl (by rw [drawM, ms_k (by decide)]) rfl ?_
    refine V.iconst (v := 3) dX8_boys_72 rfl rfl ?_
    refine V.icmp_ne (tgt := 112) dX8_boys_73 rfl rfl (fun c73 => ?_) (fun c73 => ?_)
    · skip
      refine V.inc (v := nI (i + 1)) dX8_boys_112 rfl (nI_1 _) (by decide) (L' := [(0, .ref 0), (1, .int (nI k)), (2, .int (nI c)), (3, .int s), (4, .int (nI (i + 1))), (5, .int (nI b))]) rfl rfl ?_
      refine V.goto (pc' := 42) dX8_boys_115 rfl ?_
      refine V.loc (L' := [(0, .ref 0), (1, .int (nI k)), (2, .int (nI c)), (3, .int s), (4, .int (nI (i + 1)))]) (fun zq zh => List.mem_append_left [(5, Value.int (nI b))] zh) ?_
      have e1 : boyCM c M = (false, drawM 1 M) := by rw [boyCM, hbb, ebb]; exact if_neg (fun q => c73 q.1)
      rw [show boyCG c (n + 1) s M = boyCG c n s (drawM 1 M) from by simp only [boyCG]; rw [e1]; rfl]
      exact ih (i + 1) _ _ (by simp (disch := decide) only [drawM, ms_k]; exact hM) (by omega)
    · skip
      refine V.aload_n dX8_boys_76 rfl rfl rfl ?_
      refine V.getr dX8_boys_77 fg_X8_10 rfl rfl rfl ?_
      refine V.getr dX8_boys_80 fg_X8_71 rfl rfl rfl ?_
      refine V.getr dX8_boys_83 fg_X8_91 rfl rfl rfl ?_
      refine V.iload dX8_boys_86 rfl rfl ?_
      refine V.ialdN (j := b) (v := M 4 b) dX8_boys_88 rfl (by omega) (by decide) rfl (by rw [drawM, ms_k (by decide)]) rfl ?_
      refine V.if_le (tgt := 112) dX8_boys_89 rfl rfl (fun c89 => ?_) (fun c89 => ?_)
      · skip
        refine V.inc (v := nI (i + 1)) dX8_boys_112 rfl (nI_1 _) (by decide) (L' := [(0, .ref 0), (1, .int (nI k)), (2, .int (nI c)), (3, .int s), (4, .int (nI (i + 1))), (5, .int (nI b))]) rfl rfl ?_
        refine V.goto (pc' := 42) dX8_boys_115 rfl ?_
        refine V.loc (L' := [(0, .ref 0), (1, .int (nI k)), (2, .int (nI c)), (3, .int s), (4, .int (nI (i + 1)))]) (fun zq zh => List.mem_append_left [(5, Value.int (nI b))] zh) ?_
        have e1 : boyCM c M = (false, drawM 1 M) := by rw [boyCM, hbb, ebb]; exact if_neg (fun q => Int32.not_lt.mpr c89 q.2)
        rw [show boyCG c (n + 1) s M = boyCG c n s (drawM 1 M) from by simp only [boyCG]; rw [e1]; rfl]
        exact ih (i + 1) _ _ (by simp (disch := decide) only [drawM, ms_k]; exact hM) (by omega)
      · skip
        refine V.aload_n dX8_boys_92 rfl rfl rfl ?_
        refine V.getr dX8_boys_93 fg_X8_10 rfl rfl rfl ?_
        refine V.getr dX8_boys_96 fg_X8_71 rfl rfl rfl ?_
        refine V.getr dX8_boys_99 fg_X8_91 rfl rfl rfl ?_
        refine V.iload dX8_boys_102 rfl rfl ?_
        refine V.dup2 dX8_boys_104 rfl rfl rfl ?_
        refine V.ialdN (j := b) (v := M 4 b) dX8_boys_105 rfl (by omega) (by decide) rfl (by rw [drawM, ms_k (by decide)]) rfl ?_
        refine V.iconst (v := 1) dX8_boys_106 rfl rfl ?_
        refine V.isub (v := (M 4 b) - 1) dX8_boys_107 rfl rfl ?_
        refine V.iastN (j := b) dX8_boys_108 rfl (by omega) (by decide) rfl (M' := (ms (drawM 1 M) 4 b ((M 4 b) - 1))) rfl rfl ?_
        refine V.inc (v := s + 1) dX8_boys_109 rfl rfl (by decide) (L' := [(0, .ref 0), (1, .int (nI k)), (2, .int (nI c)), (3, .int (s + 1)), (4, .int (nI i)), (5, .int (nI b))]) rfl rfl ?_
        refine V.inc (v := nI (i + 1)) dX8_boys_112 rfl (nI_1 _) (by decide) (L' := [(0, .ref 0), (1, .int (nI k)), (2, .int (nI c)), (3, .int (s + 1)), (4, .int (nI (i + 1))), (5, .int (nI b))]) rfl rfl ?_
        refine V.goto (pc' := 42) dX8_boys_115 rfl ?_
        refine V.loc (L' := [(0, .ref 0), (1, .int (nI k)), (2, .int (nI c)), (3, .int (s + 1)), (4, .int (nI (i + 1)))]) (fun zq zh => List.mem_append_left [(5, Value.int (nI b))] zh) ?_
        have e1 : boyCM c M = (true, (ms (drawM 1 M) 4 b ((M 4 b) - 1))) := by rw [boyCM, hbb, ebb]; exact if_pos ⟨c73, Int32.not_le.mp c89⟩
        rw [show boyCG c (n + 1) s M = boyCG c n (s + 1) (ms (drawM 1 M) 4 b ((M 4 b) - 1)) from by simp only [boyCG]; rw [e1]; rfl]
        exact ih (i + 1) _ _ (by simp (disch := decide) only [drawM, ms_k]; exact hM) (by omega)
def cBoys (c : Nat) (n : Int32) (M : Mem) : Int32 × Mem := if ¬ rng 1 12 n then (-1000001, cfd 0 M) else if c = 0 then (-1000005, cfd 4 M) else boyCG c n.toNatClampNeg 0 M
theorem v_X8_boys {c : Nat} (hc : c ≤ 10) (n : Int32) (M : Mem) (hM : M 2 5 = nI c) : V m_X8_boys 0 [(0, .ref 0), (1, .int n)] [] M (RT (some (.int ((cBoys c n M).1))) ((cBoys c n M).2)) := by
  refine V.iload_n dX8_boys_0 rfl rfl rfl ?_
  refine V.iconst (v := 1) dX8_boys_1 rfl rfl ?_
  refine V.bipush (v := 12) dX8_boys_2 (by decide) rfl ?_
  refine V.calls_i (M1 := M) (v := if rng 1 12 n then 1 else 0) (md' := m_X8_within) (As := [.int n, .int 1, .int 12]) (rest := []) dX8_boys_4 ml_X8_63 mo_X8_within ⟨Nat.le_of_ble_eq_true rfl, Nat.le_of_ble_eq_true rfl⟩ (Nat.le_of_ble_eq_true rfl) rfl rfl (Nat.le_of_ble_eq_true rfl) (v_X8_within (x := n) (a := 1) (b := 12) rfl rfl _) rfl ?_
  refine V.ifb_ne (tgt := 16) dX8_boys_7 rfl rfl (fun c7 => ?_) (fun c7 => ?_)
  · skip
    obtain ⟨k, hk, rfl⟩ := of_rng1 (b := 12) c7
    · have ek : (nI k).toNatClampNeg = k := nI_clamp (by omega)
      refine V.aload_n dX8_boys_16 rfl rfl rfl ?_
      refine V.getr dX8_boys_17 fg_X8_10 rfl rfl rfl ?_
      refine V.getr dX8_boys_20 fg_X8_71 rfl rfl rfl ?_
      refine V.geti (v := nI c) dX8_boys_23 fg_X8_224 rfl rfl hM rfl ?_
      refine V.ist_n dX8_boys_26 rfl (by decide) (L' := [(0, .ref 0), (1, .int (nI k)), (2, .int (nI c))]) rfl rfl ?_
      refine V.iload_n dX8_boys_27 rfl rfl rfl ?_
      refine V.if_ne (tgt := 37) dX8_boys_28 rfl rfl (fun c28 => ?_) (fun c28 => ?_)
      · have d28 := c28
        have c28 : ¬ c = 0 := fun zq => c28 ((nI_eq (a := c) (b := 0) (by omega) (by omega)).mpr zq)
        refine V.iconst (v := 0) dX8_boys_37 rfl rfl ?_
        refine V.ist_n dX8_boys_38 rfl (by decide) (L' := [(0, .ref 0), (1, .int (nI k)), (2, .int (nI c)), (3, .int 0)]) rfl rfl ?_
        refine V.iconst (v := 0) dX8_boys_39 rfl rfl ?_
        refine V.ist dX8_boys_40 (by decide) (L' := [(0, .ref 0), (1, .int (nI k)), (2, .int (nI c)), (3, .int 0), (4, .int 0)]) rfl rfl ?_
        rw [show cBoys c (nI k) M = boyCG c k 0 M from by simp [cBoys, c7, ek, c28]]
        exact l_X8_boys (by omega) hc (by omega) k 0 0 M hM (by omega)
      · have d28 := c28
        have c28 : c = 0 := (nI_eq (a := c) (b := 0) (by omega) (by omega)).mp c28
        refine V.aload_n dX8_boys_31 rfl rfl rfl ?_
        refine V.iconst (v := 4) dX8_boys_32 rfl rfl ?_
        refine V.callv_i (M1 := cfd 4 M) (v := -1000005) (md' := m_X8_finding) (As := [.int 4]) (rest := []) dX8_boys_33 ml_X8_67 mo_X8_finding ⟨Nat.le_of_ble_eq_true rfl, Nat.le_of_ble_eq_true rfl⟩ rfl ⟨_, _, rfl⟩ (Nat.le_of_ble_eq_true rfl) rfl rfl (Nat.le_of_ble_eq_true rfl) (v_X8_finding (w := 4) (by decide) (f := -1000005) (by decide +kernel) _) rfl ?_
        exact V.ret dX8_boys_36 rfl rfl ⟨(by first | (simp (decide := true) [cBoys, c7, ek, d28]; done) | (simp (decide := true) [cBoys, c7, ek, c28]; done) | (simp (decide := true) [cBoys, c7, ek, d28, c28]; done) | (simp_all (decide := true) [cBoys]; done) | (simp_all (decide := true) [cBoys, ltF, leF, ltFN, leFN]; done)), (by first | (simp (decide := true) [cBoys, c7, ek, d28]; done) | (simp (decide := true) [cBoys, c7, ek, c28]; done) | (simp (decide := true) [cBoys, c7, ek, d28, c28]; done) | (simp_all (decide := true) [cBoys]; done) | (simp_all (decide := true) [cBoys, ltF, leF, ltFN, leFN]; done))⟩
  · skip
    refine V.aload_n dX8_boys_10 rfl rfl rfl ?_
    refine V.iconst (v := 0) dX8_boys_11 rfl rfl ?_
    refine V.callv_i (M1 := cfd 0 M) (v := -1000001) (md' := m_X8_finding) (As := [.int 0]) (rest := []) dX8_boys_12 ml_X8_67 mo_X8_finding ⟨Nat.le_of_ble_eq_true rfl, Nat.le_of_ble_eq_true rfl⟩ rfl ⟨_, _, rfl⟩ (Nat.le_of_ble_eq_true rfl) rfl rfl (Nat.le_of_ble_eq_true rfl) (v_X8_finding (w := 0) (by decide) (f := -1000001) (by decide +kernel) _) rfl ?_
    exact V.ret dX8_boys_15 rfl rfl ⟨(by first | (simp (decide := true) [cBoys, c7]; done) | (simp (decide := true) [cBoys, c7]; done) | (simp (decide := true) [cBoys, c7]; done) | (simp_all (decide := true) [cBoys]; done) | (simp_all (decide := true) [cBoys, ltF, leF, ltFN, leFN]; done)), (by first | (simp (decide := true) [cBoys, c7]; done) | (simp (decide := true) [cBoys, c7]; done) | (simp (decide := true) [cBoys, c7]; done) | (simp_all (decide := true) [cBoys]; done) | (simp_all (decide := true) [cBoys, ltF, leF, ltFN, leFN]; done))⟩
