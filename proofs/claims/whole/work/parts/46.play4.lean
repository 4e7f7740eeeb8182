/-! The class's plays: when -/
def rdyG (b : Nat) (Gx : Mem) : Bool := decide (readyF (Gx 63 (20 + 5 * b)) ≤ Gx 63 (20 + 5 * b + 2) ∧ ¬ Gx 63 (20 + 5 * b + 4) = 4)
def mrG (c cc b : Nat) : Nat → Nat → Nat → Mem → Int32
  | 0, i, _, Gx => if rdyG b Gx = true then nI i else -1
  | n + 1, i, m, Gx => if rdyG b Gx = true then nI i else mrG c cc b n (i + 1) (m + 1) (mMin c cc m Gx)
def mrM (c cc p b : Nat) : Nat → Nat → Mem → Mem → Mem
  | 0, _, _, M' => M'
  | n + 1, m, Gx, M' => if rdyG b Gx = true then M' else mrM c cc p b n (m + 1) (mMin c cc m Gx) (passG 27 c cc p 1 m M')
theorem mrM_k {c cc p b a : Nat} (h : a < 27 ∨ 40 ≤ a) : ∀ (n m : Nat) (Gx M' : Mem), mrM c cc p b n m Gx M' a = M' a := by
  intro n
  induction n with
  | zero => intro m Gx M'; rfl
  | succ n ih =>
    intro m Gx M'
    simp only [mrM]
    split
    · rfl
    · rw [ih, pass_k (by omega)]
theorem FR_mr {c cc p b n m : Nat} {Gx M' M : Mem} (h : FR M' M) : FR (mrM c cc p b n m Gx M') M := fun k z => (mrM_k (by omega) n m Gx M').trans (h k z)
theorem v_isReadyT {e : Nat} (he : isE e) {c cc p m A B b : Nat} (hc : c ≤ 10) (hb : b < c) {X Gx : Mem} (hV : ST e c cc p m A B X Gx) : V m_X4_isReady 0 [(0, .ref (e+1)), (1, .int (nI b))] [] X (RT (some (.int (if rdyG b Gx = true then 1 else 0))) X) := by
  have h := v_X4_isReady he (b := b) (by omega) X
  obtain ⟨h1, h2, h3, h4, h5⟩ := ST_b hV hb
  rw [show (if ¬ X (e+6) b = 4 ∧ readyF (X (e+2) b) ≤ X (e+4) b then (1 : Int32) else 0) = if rdyG b Gx = true then 1 else 0 from ifC (by rw [h1, h3, h5, rdyG, decide_eq_true_iff]; exact and_comm)] at h
  exact h
theorem v_isGoneT {e : Nat} (he : isE e) {c cc p m A B b : Nat} (hc : c ≤ 10) (hb : b < c) {X Gx : Mem} (hV : ST e c cc p m A B X Gx) : V m_X4_isGone 0 [(0, .ref (e+1)), (1, .int (nI b))] [] X (RT (some (.int (if Gx 63 (20 + 5 * b + 4) = 4 then 1 else 0))) X) := by
  have h := v_X4_isGone he (b := b) (by omega) X
  obtain ⟨h1, h2, h3, h4, h5⟩ := ST_b hV hb
  rw [h5] at h
  exact h
theorem v_isBurntT {e : Nat} (he : isE e) {c cc p m A B b : Nat} (hc : c ≤ 10) (hb : b < c) {X Gx : Mem} (hV : ST e c cc p m A B X Gx) : V m_X4_isBurnt 0 [(0, .ref (e+1)), (1, .int (nI b))] [] X (RT (some (.int (if burntF (Gx 63 (20 + 5 * b)) ≤ Gx 63 (20 + 5 * b + 2) then 1 else 0))) X) := by
  have h := v_X4_isBurnt he (b := b) (by omega) X
  obtain ⟨h1, h2, h3, h4, h5⟩ := ST_b hV hb
  rw [h1, h3] at h
  exact h
theorem v_overT {e : Nat} (he : isE e) {c cc p m A B b : Nat} (hc : c ≤ 10) (hb : b < c) {X Gx : Mem} (hV : ST e c cc p m A B X Gx) : V m_X4_isOverFire 0 [(0, .ref (e+1)), (1, .int (nI b))] [] X (RT (some (.int (if Gx 63 (20 + 5 * b + 4) = 1 ∨ Gx 63 (20 + 5 * b + 4) = 2 then 1 else 0))) X) := by
  have h := v_X4_isOverFire he (b := b) (by omega) X
  obtain ⟨h1, h2, h3, h4, h5⟩ := ST_b hV hb
  rw [h5] at h
  exact h
theorem l_X8_mtr {c : Nat} (hc : c ≤ 10) {cc : Nat} (hcc : cc ≤ 12) {p : Nat} (hp : p ≤ 99) {B : Nat} (hB : B ≤ 10000) {b N : Nat} (hb : b < c) (hN : N ≤ 300) : ∀ (n i m A : Nat) (M' Gx : Mem), ST 27 c cc p m A B M' Gx → A + n < 50000 → m + n ≤ 4000 → i + n = N → V m_X8_minutesToReady 2 [(0, .ref 0), (1, .int (nI b)), (2, .int (nI N)), (3, .int (nI i))] [] M' (RT (some (.int (mrG c cc b n i m Gx))) (mrM c cc p b n m Gx M')) := by
  intro n
  induction n with
  | zero =>
    intro i m A M' Gx hW hA hm hi
    obtain rfl : i = N := by omega
    refine V.iload_n dX8_minutesToReady_2 rfl rfl rfl ?_
    refine V.iload_n dX8_minutesToReady_3 rfl rfl rfl ?_
    refine V.icmp_ge (tgt := 38) dX8_minutesToReady_4 rfl rfl (fun c4 => ?_) (fun c4 => absurd ((nI_leI (a := i) (b := i) (by omega) (by omega)).mpr (by omega)) c4)
    have c4 : i ≤ i := (nI_leI (a := i) (b := i) (by omega) (by omega)).mp c4
    refine V.aload_n dX8_minutesToReady_38 rfl rfl rfl ?_
    refine V.getr dX8_minutesToReady_39 fg_X8_19 rfl rfl rfl ?_
    refine V.getr dX8_minutesToReady_42 fg_X8_71 rfl rfl rfl ?_
    refine V.iload_n dX8_minutesToReady_45 rfl rfl rfl ?_
    refine V.callv_i (M1 := M') (v := if rdyG b Gx = true then 1 else 0) (md' := m_X4_isReady) (As := [.int (nI b)]) (rest := []) dX8_minutesToReady_46 ml_X8_141 mo_X4_isReady ⟨Nat.le_of_ble_eq_true rfl, Nat.le_of_ble_eq_true rfl⟩ rfl ⟨_, _, rfl⟩ (Nat.le_of_ble_eq_true rfl) rfl rfl (Nat.le_of_ble_eq_true rfl) (v_isReadyT isE27 hc hb hW) rfl ?_
    refine V.ifb_eq (tgt := 56) dX8_minutesToReady_49 rfl rfl (fun c49 => ?_) (fun c49 => ?_)
    · skip
      refine V.iconst (v := -1) dX8_minutesToReady_56 rfl rfl ?_
      exact V.ret dX8_minutesToReady_57 rfl rfl ⟨(by simp [mrG, c4, c49]), rfl⟩
    · skip
      refine V.iload_n dX8_minutesToReady_52 rfl rfl rfl ?_
      refine V.goto (pc' := 57) dX8_minutesToReady_53 rfl ?_
      exact V.ret dX8_minutesToReady_57 rfl rfl ⟨(by simp [mrG, c4, c49]), rfl⟩
  | succ n ih =>
    intro i m A M' Gx hW hA hm hi
    refine V.iload_n dX8_minutesToReady_2 rfl rfl rfl ?_
    refine V.iload_n dX8_minutesToReady_3 rfl rfl rfl ?_
    refine V.icmp_ge (tgt := 38) dX8_minutesToReady_4 rfl rfl (fun c4 => absurd ((nI_leI (a := N) (b := i) (by omega) (by omega)).mp c4) (by omega)) (fun c4 => ?_)
    have c4 : ¬ N ≤ i := fun zq => c4 ((nI_leI (a := N) (b := i) (by omega) (by omega)).mpr zq)
    refine V.aload_n dX8_minutesToReady_7 rfl rfl rfl ?_
    refine V.getr dX8_minutesToReady_8 fg_X8_19 rfl rfl rfl ?_
    refine V.getr dX8_minutesToReady_11 fg_X8_71 rfl rfl rfl ?_
    refine V.iload_n dX8_minutesToReady_14 rfl rfl rfl ?_
    refine V.callv_i (M1 := M') (v := if rdyG b Gx = true then 1 else 0) (md' := m_X4_isReady) (As := [.int (nI b)]) (rest := []) dX8_minutesToReady_15 ml_X8_141 mo_X4_isReady ⟨Nat.le_of_ble_eq_true rfl, Nat.le_of_ble_eq_true rfl⟩ rfl ⟨_, _, rfl⟩ (Nat.le_of_ble_eq_true rfl) rfl rfl (Nat.le_of_ble_eq_true rfl) (v_isReadyT isE27 hc hb hW) rfl ?_
    refine V.ifb_eq (tgt := 23) dX8_minutesToReady_18 rfl rfl (fun c18 => ?_) (fun c18 => ?_)
    · skip
      refine V.aload_n dX8_minutesToReady_23 rfl rfl rfl ?_
      refine V.getr dX8_minutesToReady_24 fg_X8_19 rfl rfl rfl ?_
      refine V.iconst (v := 1) dX8_minutesToReady_27 rfl rfl ?_
      refine V.callv_i (M1 := passG 27 c cc p 1 m M') (v := cnF c cc 1 m Gx Gx) (md' := m_X2_pass) (As := [.int 1]) (rest := []) dX8_minutesToReady_28 ml_X8_205 mo_X2_pass ⟨Nat.le_of_ble_eq_true rfl, Nat.le_of_ble_eq_true rfl⟩ rfl ⟨_, _, rfl⟩ (Nat.le_of_ble_eq_true rfl) rfl rfl (Nat.le_of_ble_eq_true rfl) (v_passT isE27 hc hcc hp (m := m) (A := A) (k := 1) (by omega) (by omega) (by omega) (by omega) hW (R := Gx) (ST_8 hW)) rfl ?_
      refine V.pop dX8_minutesToReady_31 rfl rfl ?_
      refine V.inc (v := nI (i + 1)) dX8_minutesToReady_32 rfl (nI_1 _) (by decide) (L' := [(0, .ref 0), (1, .int (nI b)), (2, .int (nI N)), (3, .int (nI (i + 1)))]) rfl rfl ?_
      refine V.goto (pc' := 2) dX8_minutesToReady_35 rfl ?_
      rw [show mrG c cc b (n + 1) i m Gx = mrG c cc b n (i + 1) (m + 1) (mMin c cc m Gx) from by simp only [mrG]; rw [if_neg c18], show mrM c cc p b (n + 1) m Gx M' = mrM c cc p b n (m + 1) (mMin c cc m Gx) (passG 27 c cc p 1 m M') from by simp only [mrM]; rw [if_neg c18]]
      exact ih (i + 1) (m + 1) (A + 1) _ _ (ST_min hc hp (by omega) (by omega) hW) (by omega) (by omega) (by omega)
    · skip
      refine V.iload_n dX8_minutesToReady_21 rfl rfl rfl ?_
      exact V.ret dX8_minutesToReady_22 rfl rfl ⟨(by simp [mrG, c4, c18]), (by simp [mrM, c4, c18])⟩
theorem v_X8_mtr {c : Nat} (hc : c ≤ 10) {cc : Nat} (hcc : cc ≤ 12) {p : Nat} (hp : p ≤ 99) {B : Nat} (hB : B ≤ 10000) {b n m A : Nat} (hb : b < c) (hn : n ≤ 300) (hA : A ≤ 9000) (hm : m ≤ 2000) (M' Gx : Mem) (hW : ST 27 c cc p m A B M' Gx) : V m_X8_minutesToReady 0 [(0, .ref 0), (1, .int (nI b)), (2, .int (nI n))] [] M' (RT (some (.int (mrG c cc b n 0 m Gx))) (mrM c cc p b n m Gx M')) := by
  refine V.iconst (v := 0) dX8_minutesToReady_0 rfl rfl ?_
  refine V.ist_n dX8_minutesToReady_1 rfl (by decide) (L' := [(0, .ref 0), (1, .int (nI b)), (2, .int (nI n)), (3, .int 0)]) rfl rfl ?_
  exact l_X8_mtr hc hcc hp hB hb hn n 0 m A M' Gx hW (by omega) (by omega) (by omega)
theorem mr_rd {c cc b : Nat} : ∀ (n i m : Nat) (Gx : Mem), i + n ≤ 200 → ∃ K, (i ≤ K ∧ K ≤ 201) ∧ (rdG c cc b (201 - i) i m Gx).1 = nI K ∧ mrG c cc b n i m Gx = if K ≤ i + n then nI K else -1 := by
  intro n
  induction n with
  | zero =>
    intro i m Gx hi
    rw [show 201 - i = (200 - i) + 1 by omega]
    by_cases q : rdyG b Gx = true
    · have q' := of_decide_eq_true q
      exact ⟨i, by omega, by simp only [rdG]; rw [if_pos q'], by simp only [mrG]; rw [if_pos q, if_pos (by omega)]⟩
    · have q' := of_decide_eq_false (Bool.eq_false_iff.mpr q)
      obtain ⟨K, hK, eK⟩ := rd_nat (c := c) (cc := cc) (b := b) (200 - i) (i + 1) (m + 1) (mMin c cc m Gx)
      exact ⟨K, by omega, by simp only [rdG]; rw [if_neg q']; exact eK, by simp only [mrG]; rw [if_neg q, if_neg (by omega)]⟩
  | succ n ih =>
    intro i m Gx hi
    by_cases q : rdyG b Gx = true
    · have q' := of_decide_eq_true q
      rw [show 201 - i = (200 - i) + 1 by omega]
      exact ⟨i, by omega, by simp only [rdG]; rw [if_pos q'], by simp only [mrG]; rw [if_pos q, if_pos (by omega)]⟩
    · have q' := of_decide_eq_false (Bool.eq_false_iff.mpr q)
      obtain ⟨K, hK, e1, e2⟩ := ih (i + 1) (m + 1) (mMin c cc m Gx) (by omega)
      rw [show 201 - (i + 1) = 200 - i by omega] at e1
      rw [show 201 - i = (200 - i) + 1 by omega]
      refine ⟨K, by omega, by simp only [rdG]; rw [if_neg q']; exact e1, ?_⟩
      simp only [mrG]
      rw [if_neg q, e2, show i + 1 + n = i + (n + 1) by omega]
theorem dnP_n {K : Nat} (h : K ≤ 200) (Mx : Mem) : dnP (nI K) Mx = (nI K, Mx) := if_neg (show ¬ (200 : Int32) < nI K from fun z => absurd ((nI_ltI (a := 200) (b := K) (by decide) (by omega)).mp z) (by omega))
theorem dnP_x {K : Nat} (h : 200 < K) (h2 : K < 2 ^ 31) (Mx : Mem) : dnP (nI K) Mx = (-1000004, fdM 3 Mx) := if_pos (show (200 : Int32) < nI K from (nI_ltI (a := 200) (b := K) (by decide) h2).mpr h)
theorem v_X8_ready {c : Nat} (hc : c ≤ 10) {cc : Nat} (hcc : cc ≤ 12) {p : Nat} (hp : p ≤ 99) {m : Nat} (hm : m ≤ 999) {A B : Nat} (hA : A ≤ 5000) (hB : B ≤ 10000) (M R : Mem) (hV : ST 1 c cc p m A B M R) (x : Int32) (hF61 : F61 M R) : V m_X8_ready 0 [(0, .ref 0), (1, .int x)] [] M (PQ (pReady c cc m x R) M) := by
  obtain ⟨hM, h2, h0, hP⟩ := ST_cnt hV
  have hV1 : ST 1 c cc p m A B M (SV R) := ST_R SV_63 hV
  have hV2 := ST_27_1 hc hcc hp hV1
  refine V.aload_n dX8_ready_0 rfl rfl rfl ?_
  refine V.iload_n dX8_ready_1 rfl rfl rfl ?_
  refine V.callv_i (M1 := M) (v := if isB c x then 1 else 0) (md' := m_X8_isBatch) (As := [.int x]) (rest := []) dX8_ready_2 ml_X8_84 mo_X8_isBatch ⟨Nat.le_of_ble_eq_true rfl, Nat.le_of_ble_eq_true rfl⟩ rfl ⟨_, _, rfl⟩ (Nat.le_of_ble_eq_true rfl) rfl rfl (Nat.le_of_ble_eq_true rfl) (v_X8_isBatch hc x M hM) rfl ?_
  refine V.ifb_ne (tgt := 14) dX8_ready_5 rfl rfl (fun c5 => ?_) (fun c5 => ?_)
  · skip
    obtain ⟨x, hx, rfl⟩ := of_isB c5
    · have ex : (nI x).toNatClampNeg = x := nI_clamp (by omega)
      refine V.aload_n dX8_ready_14 rfl rfl rfl ?_
      refine V.getr dX8_ready_15 fg_X8_10 rfl rfl rfl ?_
      refine V.getr dX8_ready_18 fg_X8_71 rfl rfl rfl ?_
      refine V.iload_n dX8_ready_21 rfl rfl rfl ?_
      refine V.callv_i (M1 := M) (v := if R 63 (20 + 5 * x + 4) = 4 then 1 else 0) (md' := m_X4_isGone) (As := [.int (nI x)]) (rest := []) dX8_ready_22 ml_X8_135 mo_X4_isGone ⟨Nat.le_of_ble_eq_true rfl, Nat.le_of_ble_eq_true rfl⟩ rfl ⟨_, _, rfl⟩ (Nat.le_of_ble_eq_true rfl) rfl rfl (Nat.le_of_ble_eq_true rfl) (v_isGoneT isE1 hc hx hV) rfl ?_
      refine V.ifb_ne (tgt := 38) dX8_ready_25 rfl rfl (fun c25 => ?_) (fun c25 => ?_)
      · skip
        refine V.aload_n dX8_ready_38 rfl rfl rfl ?_
        refine V.iconst (v := 4) dX8_ready_39 rfl rfl ?_
        refine V.callv_i (M1 := cfd 4 M) (v := -1000005) (md' := m_X8_finding) (As := [.int 4]) (rest := []) dX8_ready_40 ml_X8_67 mo_X8_finding ⟨Nat.le_of_ble_eq_true rfl, Nat.le_of_ble_eq_true rfl⟩ rfl ⟨_, _, rfl⟩ (Nat.le_of_ble_eq_true rfl) rfl rfl (Nat.le_of_ble_eq_true rfl) (v_X8_finding (w := 4) (by decide) (f := -1000005) (by decide +kernel) _) rfl ?_
        exact V.ret dX8_ready_43 rfl rfl (PQ_f (w := 4) hF61 (by first | (simp (decide := true) [pReady, c5, ex, c25]; done) | (simp (decide := true) [pReady, c5, ex, c25]; done) | (simp (decide := true) [pReady, c5, ex, c25]; done) | (simp_all (decide := true) [pReady]; done) | (simp_all (decide := true) [pReady, ltF, leF, ltFN, leFN]; done)))
      · skip
        obtain ⟨K, hK1, e1, e2⟩ := mr_rd (c := c) (cc := cc) (b := x) 200 0 m (SV R) (by omega)
        refine V.aload_n dX8_ready_28 rfl rfl rfl ?_
        refine V.sipush (v := 200) dX8_ready_29 (by decide) rfl ?_
        refine V.callv_i (M1 := M) (v := if 999 < m + 200 then 1 else 0) (md' := m_X8_isTooLate) (As := [.int 200]) (rest := []) dX8_ready_32 ml_X8_199 mo_X8_isTooLate ⟨Nat.le_of_ble_eq_true rfl, Nat.le_of_ble_eq_true rfl⟩ rfl ⟨_, _, rfl⟩ (Nat.le_of_ble_eq_true rfl) rfl rfl (Nat.le_of_ble_eq_true rfl) (v_X8_isTooLate (n := 200) (by omega) (by decide) M h0) rfl ?_
        refine V.ifb_eq (tgt := 44) dX8_ready_35 rfl rfl (fun c35 => ?_) (fun c35 => ?_)
        · skip
          by_cases hK : K ≤ 200
          · have hz8 : pReady c cc m (nI x) R = dnP (rdG c cc x 201 0 m (SV R)).1 (SV R) := (by first | (simp (decide := true) [pReady, c5, ex, c25, c35]; done) | (simp (decide := true) [pReady, c5, ex, c25, c35]; done) | (simp (decide := true) [pReady, c5, ex, c25, c35]; done) | (simp_all (decide := true) [pReady]; done) | (simp_all (decide := true) [pReady, ltF, leF, ltFN, leFN]; done))
            rw [e1] at hz8
            refine V.aload_n dX8_ready_44 rfl rfl rfl ?_
            refine V.getr dX8_ready_45 fg_X8_19 rfl rfl rfl ?_
            refine V.aload_n dX8_ready_48 rfl rfl rfl ?_
            refine V.getr dX8_ready_49 fg_X8_10 rfl rfl rfl ?_
            refine V.callv_v (M1 := eBecM 27 1 M) (md' := m_X2_become) (As := [.ref 1]) (rest := []) dX8_ready_52 ml_X8_227 mo_X2_become ⟨Nat.le_of_ble_eq_true rfl, Nat.le_of_ble_eq_true rfl⟩ rfl ⟨_, _, rfl⟩ (Nat.le_of_ble_eq_true rfl) rfl rfl (Nat.le_of_ble_eq_true rfl) (v_X2_become isE27 isE1 (by omega) _) rfl ?_
            refine V.aload_n dX8_ready_55 rfl rfl rfl ?_
            refine V.iload_n dX8_ready_56 rfl rfl rfl ?_
            refine V.sipush (v := 200) dX8_ready_57 (by decide) rfl ?_
            refine V.callv_i (M1 := mrM c cc p x 200 m (SV R) (eBecM 27 1 M)) (v := mrG c cc x 200 0 m (SV R)) (md' := m_X8_minutesToReady) (As := [.int (nI x), .int 200]) (rest := []) dX8_ready_60 ml_X8_237 mo_X8_minutesToReady ⟨Nat.le_of_ble_eq_true rfl, Nat.le_of_ble_eq_true rfl⟩ rfl ⟨_, _, rfl⟩ (Nat.le_of_ble_eq_true rfl) rfl rfl (Nat.le_of_ble_eq_true rfl) (v_X8_mtr hc hcc hp hB (b := x) (n := 200) (m := m) (A := A) hx (by omega) (by omega) (by omega) _ _ hV2) rfl ?_
            refine V.top (y := nI K) (by rw [e2, if_pos (by omega)]) ?_
            refine V.ist_n dX8_ready_63 rfl (by decide) (L' := [(0, .ref 0), (1, .int (nI x)), (2, .int (nI K))]) rfl rfl ?_
            refine V.iload_n dX8_ready_64 rfl rfl rfl ?_
            refine V.if_ge (tgt := 76) dX8_ready_65 rfl rfl (fun c65 => ?_) (fun c65 => absurd ((nI_leI (a := 0) (b := K) (by omega) (by omega)).mpr (by omega)) c65)
            have d65 := c65
            have c65 : 0 ≤ K := (nI_leI (a := 0) (b := K) (by omega) (by omega)).mp c65
            refine V.iload_n dX8_ready_76 rfl rfl rfl ?_
            exact V.ret dX8_ready_77 rfl rfl (PQ_v (FR_mr (FR_bec (by decide) (by decide) (FR_rf M))) hF61 SV_66 (by rw [hz8]; exact dnP_n (by omega) _))
          · have hz8 : pReady c cc m (nI x) R = dnP (rdG c cc x 201 0 m (SV R)).1 (SV R) := (by first | (simp (decide := true) [pReady, c5, ex, c25, c35]; done) | (simp (decide := true) [pReady, c5, ex, c25, c35]; done) | (simp (decide := true) [pReady, c5, ex, c25, c35]; done) | (simp_all (decide := true) [pReady]; done) | (simp_all (decide := true) [pReady, ltF, leF, ltFN, leFN]; done))
            rw [e1] at hz8
            refine V.aload_n dX8_ready_44 rfl rfl rfl ?_
            refine V.getr dX8_ready_45 fg_X8_19 rfl rfl rfl ?_
            refine V.aload_n dX8_ready_48 rfl rfl rfl ?_
            refine V.getr dX8_ready_49 fg_X8_10 rfl rfl rfl ?_
            refine V.callv_v (M1 := eBecM 27 1 M) (md' := m_X2_become) (As := [.ref 1]) (rest := []) dX8_ready_52 ml_X8_227 mo_X2_become ⟨Nat.le_of_ble_eq_true rfl, Nat.le_of_ble_eq_true rfl⟩ rfl ⟨_, _, rfl⟩ (Nat.le_of_ble_eq_true rfl) rfl rfl (Nat.le_of_ble_eq_true rfl) (v_X2_become isE27 isE1 (by omega) _) rfl ?_
            refine V.aload_n dX8_ready_55 rfl rfl rfl ?_
            refine V.iload_n dX8_ready_56 rfl rfl rfl ?_
            refine V.sipush (v := 200) dX8_ready_57 (by decide) rfl ?_
            refine V.callv_i (M1 := mrM c cc p x 200 m (SV R) (eBecM 27 1 M)) (v := mrG c cc x 200 0 m (SV R)) (md' := m_X8_minutesToReady) (As := [.int (nI x), .int 200]) (rest := []) dX8_ready_60 ml_X8_237 mo_X8_minutesToReady ⟨Nat.le_of_ble_eq_true rfl, Nat.le_of_ble_eq_true rfl⟩ rfl ⟨_, _, rfl⟩ (Nat.le_of_ble_eq_true rfl) rfl rfl (Nat.le_of_ble_eq_true rfl) (v_X8_mtr hc hcc hp hB (b := x) (n := 200) (m := m) (A := A) hx (by omega) (by omega) (by omega) _ _ hV2) rfl ?_
            refine V.top (y := -1) (by rw [e2, if_neg (by omega)]) ?_
            refine V.ist_n dX8_ready_63 rfl (by decide) (L' := [(0, .ref 0), (1, .int (nI x)), (2, .int (-1))]) rfl rfl ?_
            refine V.iload_n dX8_ready_64 rfl rfl rfl ?_
            refine V.if_ge (tgt := 76) dX8_ready_65 rfl rfl (fun c65 => absurd c65 (by decide)) (fun _ => ?_)
            refine V.aload_n dX8_ready_68 rfl rfl rfl ?_
            refine V.iconst (v := 3) dX8_ready_69 rfl rfl ?_
            refine V.callv_i (M1 := cfd 3 (mrM c cc p x 200 m (SV R) (eBecM 27 1 M))) (v := -1000004) (md' := m_X8_finding) (As := [.int 3]) (rest := []) dX8_ready_70 ml_X8_67 mo_X8_finding ⟨Nat.le_of_ble_eq_true rfl, Nat.le_of_ble_eq_true rfl⟩ rfl ⟨_, _, rfl⟩ (Nat.le_of_ble_eq_true rfl) rfl rfl (Nat.le_of_ble_eq_true rfl) (v_X8_finding (w := 3) (by decide) (f := -1000004) (by decide +kernel) _) rfl ?_
            refine V.goto (pc' := 77) dX8_ready_73 rfl ?_
            exact V.ret dX8_ready_77 rfl rfl (PQ_fFR (w := 3) (FR_mr (FR_bec (by decide) (by decide) (FR_rf M))) hF61 SV_66 (by rw [hz8]; exact dnP_x (by omega) (by omega) _))
        · skip
          refine V.aload_n dX8_ready_38 rfl rfl rfl ?_
          refine V.iconst (v := 4) dX8_ready_39 rfl rfl ?_
          refine V.callv_i (M1 := cfd 4 M) (v := -1000005) (md' := m_X8_finding) (As := [.int 4]) (rest := []) dX8_ready_40 ml_X8_67 mo_X8_finding ⟨Nat.le_of_ble_eq_true rfl, Nat.le_of_ble_eq_true rfl⟩ rfl ⟨_, _, rfl⟩ (Nat.le_of_ble_eq_true rfl) rfl rfl (Nat.le_of_ble_eq_true rfl) (v_X8_finding (w := 4) (by decide) (f := -1000005) (by decide +kernel) _) rfl ?_
          exact V.ret dX8_ready_43 rfl rfl (PQ_f (w := 4) hF61 (by first | (simp (decide := true) [pReady, c5, ex, c25, c35]; done) | (simp (decide := true) [pReady, c5, ex, c25, c35]; done) | (simp (decide := true) [pReady, c5, ex, c25, c35]; done) | (simp_all (decide := true) [pReady]; done) | (simp_all (decide := true) [pReady, ltF, leF, ltFN, leFN]; done)))
  · skip
    refine V.aload_n dX8_ready_8 rfl rfl rfl ?_
    refine V.iconst (v := 0) dX8_ready_9 rfl rfl ?_
    refine V.callv_i (M1 := cfd 0 M) (v := -1000001) (md' := m_X8_finding) (As := [.int 0]) (rest := []) dX8_ready_10 ml_X8_67 mo_X8_finding ⟨Nat.le_of_ble_eq_true rfl, Nat.le_of_ble_eq_true rfl⟩ rfl ⟨_, _, rfl⟩ (Nat.le_of_ble_eq_true rfl) rfl rfl (Nat.le_of_ble_eq_true rfl) (v_X8_finding (w := 0) (by decide) (f := -1000001) (by decide +kernel) _) rfl ?_
    exact V.ret dX8_ready_13 rfl rfl (PQ_f (w := 0) hF61 (by first | (simp (decide := true) [pReady, c5]; done) | (simp (decide := true) [pReady, c5]; done) | (simp (decide := true) [pReady, c5]; done) | (simp_all (decide := true) [pReady]; done) | (simp_all (decide := true) [pReady, ltF, leF, ltFN, leFN]; done)))
theorem l_X8_burnt {c : Nat} (hc : c ≤ 10) {cc : Nat} (hcc : cc ≤ 12) {p : Nat} (hp : p ≤ 99) {B : Nat} (hB : B ≤ 10000) (M R : Mem) (hF61 : F61 M R) {x : Nat} (hx : x < c) : ∀ (n i m A : Nat) (M' Gx : Mem), FR M' M → ST 27 c cc p m A B M' Gx → A + n < 50000 → m + n ≤ 4000 → i + n = 201 → V m_X8_burnt 57 [(0, .ref 0), (1, .int (nI x)), (2, .int (nI i))] [] M' (PQ (dnP (buG c cc x n i m Gx).1 (SV R)) M) := by
  intro n
  induction n with
  | zero =>
    intro i m A M' Gx hF hW hA hm hi
    refine V.iload_n dX8_burnt_57 rfl rfl rfl ?_
    refine V.sipush (v := 200) dX8_burnt_58 (by decide) rfl ?_
    refine V.icmp_gt (tgt := 109) dX8_burnt_61 rfl rfl (fun c61 => ?_) (fun c61 => absurd ((nI_ltI (a := 200) (b := i) (by omega) (by omega)).mpr (by omega)) c61)
    have c61 : 200 < i := (nI_ltI (a := 200) (b := i) (by omega) (by omega)).mp c61
    refine V.aload_n dX8_burnt_109 rfl rfl rfl ?_
    refine V.iconst (v := 3) dX8_burnt_110 rfl rfl ?_
    refine V.callv_i (M1 := cfd 3 M') (v := -1000004) (md' := m_X8_finding) (As := [.int 3]) (rest := []) dX8_burnt_111 ml_X8_67 mo_X8_finding ⟨Nat.le_of_ble_eq_true rfl, Nat.le_of_ble_eq_true rfl⟩ rfl ⟨_, _, rfl⟩ (Nat.le_of_ble_eq_true rfl) rfl rfl (Nat.le_of_ble_eq_true rfl) (v_X8_finding (w := 3) (by decide) (f := -1000004) (by decide +kernel) _) rfl ?_
    exact V.ret dX8_burnt_114 rfl rfl (PQ_fFR (w := 3) hF hF61 SV_66 (dnP_x (by omega) (by omega) _))
  | succ n ih =>
    intro i m A M' Gx hF hW hA hm hi
    refine V.iload_n dX8_burnt_57 rfl rfl rfl ?_
    refine V.sipush (v := 200) dX8_burnt_58 (by decide) rfl ?_
    refine V.icmp_gt (tgt := 109) dX8_burnt_61 rfl rfl (fun c61 => absurd ((nI_ltI (a := 200) (b := i) (by omega) (by omega)).mp c61) (by omega)) (fun c61 => ?_)
    have c61 : ¬ 200 < i := fun zq => c61 ((nI_ltI (a := 200) (b := i) (by omega) (by omega)).mpr zq)
    refine V.aload_n dX8_burnt_64 rfl rfl rfl ?_
    refine V.getr dX8_burnt_65 fg_X8_19 rfl rfl rfl ?_
    refine V.getr dX8_burnt_68 fg_X8_71 rfl rfl rfl ?_
    refine V.iload_n dX8_burnt_71 rfl rfl rfl ?_
    refine V.callv_i (M1 := M') (v := if Gx 63 (20 + 5 * x + 4) = 4 then 1 else 0) (md' := m_X4_isGone) (As := [.int (nI x)]) (rest := []) dX8_burnt_72 ml_X8_135 mo_X4_isGone ⟨Nat.le_of_ble_eq_true rfl, Nat.le_of_ble_eq_true rfl⟩ rfl ⟨_, _, rfl⟩ (Nat.le_of_ble_eq_true rfl) rfl rfl (Nat.le_of_ble_eq_true rfl) (v_isGoneT isE27 hc hx hW) rfl ?_
    refine V.ifb_ne (tgt := 92) dX8_burnt_75 rfl rfl (fun c75 => ?_) (fun c75 => ?_)
    · skip
      refine V.iload_n dX8_burnt_92 rfl rfl rfl ?_
      exact V.ret dX8_burnt_93 rfl rfl (PQ_v hF hF61 SV_66 (by simp only [buG]; rw [if_pos (Or.inr c75)]; exact dnP_n (by omega) _))
    · skip
      refine V.aload_n dX8_burnt_78 rfl rfl rfl ?_
      refine V.getr dX8_burnt_79 fg_X8_19 rfl rfl rfl ?_
      refine V.getr dX8_burnt_82 fg_X8_71 rfl rfl rfl ?_
      refine V.iload_n dX8_burnt_85 rfl rfl rfl ?_
      refine V.callv_i (M1 := M') (v := if burntF (Gx 63 (20 + 5 * x)) ≤ Gx 63 (20 + 5 * x + 2) then 1 else 0) (md' := m_X4_isBurnt) (As := [.int (nI x)]) (rest := []) dX8_burnt_86 ml_X8_138 mo_X4_isBurnt ⟨Nat.le_of_ble_eq_true rfl, Nat.le_of_ble_eq_true rfl⟩ rfl ⟨_, _, rfl⟩ (Nat.le_of_ble_eq_true rfl) rfl rfl (Nat.le_of_ble_eq_true rfl) (v_isBurntT isE27 hc hx hW) rfl ?_
      refine V.ifb_eq (tgt := 94) dX8_burnt_89 rfl rfl (fun c89 => ?_) (fun c89 => ?_)
      · skip
        refine V.aload_n dX8_burnt_94 rfl rfl rfl ?_
        refine V.getr dX8_burnt_95 fg_X8_19 rfl rfl rfl ?_
        refine V.iconst (v := 1) dX8_burnt_98 rfl rfl ?_
        refine V.callv_i (M1 := passG 27 c cc p 1 m M') (v := cnF c cc 1 m Gx Gx) (md' := m_X2_pass) (As := [.int 1]) (rest := []) dX8_burnt_99 ml_X8_205 mo_X2_pass ⟨Nat.le_of_ble_eq_true rfl, Nat.le_of_ble_eq_true rfl⟩ rfl ⟨_, _, rfl⟩ (Nat.le_of_ble_eq_true rfl) rfl rfl (Nat.le_of_ble_eq_true rfl) (v_passT isE27 hc hcc hp (m := m) (A := A) (k := 1) (by omega) (by omega) (by omega) (by omega) hW (R := Gx) (ST_8 hW)) rfl ?_
        refine V.pop dX8_burnt_102 rfl rfl ?_
        refine V.inc (v := nI (i + 1)) dX8_burnt_103 rfl (nI_1 _) (by decide) (L' := [(0, .ref 0), (1, .int (nI x)), (2, .int (nI (i + 1)))]) rfl rfl ?_
        refine V.goto (pc' := 57) dX8_burnt_106 rfl ?_
        rw [show buG c cc x (n + 1) i m Gx = buG c cc x n (i + 1) (m + 1) (mMin c cc m Gx) from by simp only [buG]; rw [if_neg (fun z => z.elim c89 c75)]]
        exact ih (i + 1) (m + 1) (A + 1) _ _ (FR_pass (by decide) (by decide) hF) (ST_min hc hp (by omega) (by omega) hW) (by omega) (by omega) (by omega)
      · skip
        refine V.iload_n dX8_burnt_92 rfl rfl rfl ?_
        exact V.ret dX8_burnt_93 rfl rfl (PQ_v hF hF61 SV_66 (by simp only [buG]; rw [if_pos (Or.inl c89)]; exact dnP_n (by omega) _))
theorem v_X8_burnt {c : Nat} (hc : c ≤ 10) {cc : Nat} (hcc : cc ≤ 12) {p : Nat} (hp : p ≤ 99) {m : Nat} (hm : m ≤ 999) {A B : Nat} (hA : A ≤ 5000) (hB : B ≤ 10000) (M R : Mem) (hV : ST 1 c cc p m A B M R) (x : Int32) (hF61 : F61 M R) : V m_X8_burnt 0 [(0, .ref 0), (1, .int x)] [] M (PQ (pBurnt c cc m x R) M) := by
  obtain ⟨hM, h2, h0, hP⟩ := ST_cnt hV
  have hV1 : ST 1 c cc p m A B M (SV R) := ST_R SV_63 hV
  have hV2 := ST_27_1 hc hcc hp hV1
  refine V.aload_n dX8_burnt_0 rfl rfl rfl ?_
  refine V.iload_n dX8_burnt_1 rfl rfl rfl ?_
  refine V.callv_i (M1 := M) (v := if isB c x then 1 else 0) (md' := m_X8_isBatch) (As := [.int x]) (rest := []) dX8_burnt_2 ml_X8_84 mo_X8_isBatch ⟨Nat.le_of_ble_eq_true rfl, Nat.le_of_ble_eq_true rfl⟩ rfl ⟨_, _, rfl⟩ (Nat.le_of_ble_eq_true rfl) rfl rfl (Nat.le_of_ble_eq_true rfl) (v_X8_isBatch hc x M hM) rfl ?_
  refine V.ifb_ne (tgt := 14) dX8_burnt_5 rfl rfl (fun c5 => ?_) (fun c5 => ?_)
  · skip
    obtain ⟨x, hx, rfl⟩ := of_isB c5
    · have ex : (nI x).toNatClampNeg = x := nI_clamp (by omega)
      refine V.aload_n dX8_burnt_14 rfl rfl rfl ?_
      refine V.getr dX8_burnt_15 fg_X8_10 rfl rfl rfl ?_
      refine V.getr dX8_burnt_18 fg_X8_71 rfl rfl rfl ?_
      refine V.iload_n dX8_burnt_21 rfl rfl rfl ?_
      refine V.callv_i (M1 := M) (v := if R 63 (20 + 5 * x + 4) = 4 then 1 else 0) (md' := m_X4_isGone) (As := [.int (nI x)]) (rest := []) dX8_burnt_22 ml_X8_135 mo_X4_isGone ⟨Nat.le_of_ble_eq_true rfl, Nat.le_of_ble_eq_true rfl⟩ rfl ⟨_, _, rfl⟩ (Nat.le_of_ble_eq_true rfl) rfl rfl (Nat.le_of_ble_eq_true rfl) (v_isGoneT isE1 hc hx hV) rfl ?_
      refine V.ifb_ne (tgt := 38) dX8_burnt_25 rfl rfl (fun c25 => ?_) (fun c25 => ?_)
      · skip
        refine V.aload_n dX8_burnt_38 rfl rfl rfl ?_
        refine V.iconst (v := 4) dX8_burnt_39 rfl rfl ?_
        refine V.callv_i (M1 := cfd 4 M) (v := -1000005) (md' := m_X8_finding) (As := [.int 4]) (rest := []) dX8_burnt_40 ml_X8_67 mo_X8_finding ⟨Nat.le_of_ble_eq_true rfl, Nat.le_of_ble_eq_true rfl⟩ rfl ⟨_, _, rfl⟩ (Nat.le_of_ble_eq_true rfl) rfl rfl (Nat.le_of_ble_eq_true rfl) (v_X8_finding (w := 4) (by decide) (f := -1000005) (by decide +kernel) _) rfl ?_
        exact V.ret dX8_burnt_43 rfl rfl (PQ_f (w := 4) hF61 (by first | (simp (decide := true) [pBurnt, c5, ex, c25]; done) | (simp (decide := true) [pBurnt, c5, ex, c25]; done) | (simp (decide := true) [pBurnt, c5, ex, c25]; done) | (simp_all (decide := true) [pBurnt]; done) | (simp_all (decide := true) [pBurnt, ltF, leF, ltFN, leFN]; done)))
      · skip
        refine V.aload_n dX8_burnt_28 rfl rfl rfl ?_
        refine V.sipush (v := 200) dX8_burnt_29 (by decide) rfl ?_
        refine V.callv_i (M1 := M) (v := if 999 < m + 200 then 1 else 0) (md' := m_X8_isTooLate) (As := [.int 200]) (rest := []) dX8_burnt_32 ml_X8_199 mo_X8_isTooLate ⟨Nat.le_of_ble_eq_true rfl, Nat.le_of_ble_eq_true rfl⟩ rfl ⟨_, _, rfl⟩ (Nat.le_of_ble_eq_true rfl) rfl rfl (Nat.le_of_ble_eq_true rfl) (v_X8_isTooLate (n := 200) (by omega) (by decide) M h0) rfl ?_
        refine V.ifb_eq (tgt := 44) dX8_burnt_35 rfl rfl (fun c35 => ?_) (fun c35 => ?_)
        · skip
          refine V.aload_n dX8_burnt_44 rfl rfl rfl ?_
          refine V.getr dX8_burnt_45 fg_X8_19 rfl rfl rfl ?_
          refine V.aload_n dX8_burnt_48 rfl rfl rfl ?_
          refine V.getr dX8_burnt_49 fg_X8_10 rfl rfl rfl ?_
          refine V.callv_v (M1 := eBecM 27 1 M) (md' := m_X2_become) (As := [.ref 1]) (rest := []) dX8_burnt_52 ml_X8_227 mo_X2_become ⟨Nat.le_of_ble_eq_true rfl, Nat.le_of_ble_eq_true rfl⟩ rfl ⟨_, _, rfl⟩ (Nat.le_of_ble_eq_true rfl) rfl rfl (Nat.le_of_ble_eq_true rfl) (v_X2_become isE27 isE1 (by omega) _) rfl ?_
          refine V.iconst (v := 0) dX8_burnt_55 rfl rfl ?_
          refine V.ist_n dX8_burnt_56 rfl (by decide) (L' := [(0, .ref 0), (1, .int (nI x)), (2, .int 0)]) rfl rfl ?_
          rw [show pBurnt c cc m (nI x) R = dnP (buG c cc x 201 0 m (SV R)).1 (SV R) from (by first | (simp (decide := true) [pBurnt, c5, ex, c25, c35]; done) | (simp (decide := true) [pBurnt, c5, ex, c25, c35]; done) | (simp (decide := true) [pBurnt, c5, ex, c25, c35]; done) | (simp_all (decide := true) [pBurnt]; done) | (simp_all (decide := true) [pBurnt, ltF, leF, ltFN, leFN]; done))]
          exact l_X8_burnt hc hcc hp hB M R hF61 hx 201 0 m A _ _ (FR_bec (by decide) (by decide) (FR_rf M)) hV2 (by omega) (by omega) (by omega)
        · skip
          refine V.aload_n dX8_burnt_38 rfl rfl rfl ?_
          refine V.iconst (v := 4) dX8_burnt_39 rfl rfl ?_
          refine V.callv_i (M1 := cfd 4 M) (v := -1000005) (md' := m_X8_finding) (As := [.int 4]) (rest := []) dX8_burnt_40 ml_X8_67 mo_X8_finding ⟨Nat.le_of_ble_eq_true rfl, Nat.le_of_ble_eq_true rfl⟩ rfl ⟨_, _, rfl⟩ (Nat.le_of_ble_eq_true rfl) rfl rfl (Nat.le_of_ble_eq_true rfl) (v_X8_finding (w := 4) (by decide) (f := -1000005) (by decide +kernel) _) rfl ?_
          exact V.ret dX8_burnt_43 rfl rfl (PQ_f (w := 4) hF61 (by first | (simp (decide := true) [pBurnt, c5, ex, c25, c35]; done) | (simp (decide := true) [pBurnt, c5, ex, c25, c35]; done) | (simp (decide := true) [pBurnt, c5, ex, c25, c35]; done) | (simp_all (decide := true) [pBurnt]; done) | (simp_all (decide := true) [pBurnt, ltF, leF, ltFN, leFN]; done)))
  · skip
    refine V.aload_n dX8_burnt_8 rfl rfl rfl ?_
    refine V.iconst (v := 0) dX8_burnt_9 rfl rfl ?_
    refine V.callv_i (M1 := cfd 0 M) (v := -1000001) (md' := m_X8_finding) (As := [.int 0]) (rest := []) dX8_burnt_10 ml_X8_67 mo_X8_finding ⟨Nat.le_of_ble_eq_true rfl, Nat.le_of_ble_eq_true rfl⟩ rfl ⟨_, _, rfl⟩ (Nat.le_of_ble_eq_true rfl) rfl rfl (Nat.le_of_ble_eq_true rfl) (v_X8_finding (w := 0) (by decide) (f := -1000001) (by decide +kernel) _) rfl ?_
    exact V.ret dX8_burnt_13 rfl rfl (PQ_f (w := 0) hF61 (by first | (simp (decide := true) [pBurnt, c5]; done) | (simp (decide := true) [pBurnt, c5]; done) | (simp (decide := true) [pBurnt, c5]; done) | (simp_all (decide := true) [pBurnt]; done) | (simp_all (decide := true) [pBurnt, ltF, leF, ltFN, leFN]; done)))
theorem setG_congr {f g : Nat → Int32} {a : Int32} : ∀ (n i : Nat) (s : Int32), (∀ j, i ≤ j → j < i + n → f j = g j) → setG f a n i s = setG g a n i s := by
  intro n
  induction n with
  | zero => intro i s h; rfl
  | succ n ih =>
    intro i s h
    simp only [setG]
    rw [h i (Nat.le_refl i) (by omega)]
    exact ih (i + 1) _ (fun j h1 h2 => h j (by omega) (by omega))
theorem room_eq {e c cc p m A B : Nat} (hc : c ≤ 10) {X Gx : Mem} (hV : ST e c cc p m A B X Gx) (q : Int32) : bcF (setG (X (e+6)) q c 0 0) = onesF (setG (col Gx 4) q c 0 0) := by
  rw [setG_congr (f := X (e+6)) (g := col Gx 4) c 0 0 (fun j h1 h2 => (ST_b hV (show j < c by omega)).2.2.2.2)]
  obtain ⟨k, hk, e⟩ := setG_nat (f := col Gx 4) (a := q) c 0 0 (by decide) (by omega)
  have hk' : k < 1024 := Nat.lt_of_lt_of_le hk (Nat.le_trans (Nat.pow_le_pow_right (by decide) (show 0 + c ≤ 10 by omega)) (by decide))
  rw [nI_0] at e
  rw [e]
  exact (ones_bc k hk').symm
def jaT (c cc b m : Nat) (mm : Int32) (Gx : Mem) : Bool := decide ((rdG c cc b 201 0 m (mPutM b 1 Gx)).1 < 201 ∧ nI m + (rdG c cc b 201 0 m (mPutM b 1 Gx)).1 = mm)
def jaM (c cc p b m : Nat) (mm : Int32) (Gx M' : Mem) : Mem := if rng 0 200 (mm - nI m) = true then mrM c cc p b (mm - nI m).toNatClampNeg m (mPutM b 1 Gx) (layM 27 b 1 (eBecM 27 40 M')) else M'
theorem jaM_k {c cc p b m a : Nat} {mm : Int32} {Gx M' : Mem} (h : a < 27 ∨ 40 ≤ a) : jaM c cc p b m mm Gx M' a = M' a := by
  unfold jaM
  split
  · rw [mrM_k h, lay_fire (by decide) (by decide), ms_k (by omega), bec_k (by omega)]
  · rfl
theorem ja_out {c cc b m : Nat} {mm : Int32} {Gx : Mem} (hm : m ≤ 2000) (h : ¬ rng 0 200 (mm - nI m) = true) : jaT c cc b m mm Gx = false := by
  refine decide_eq_false (fun z => h ?_)
  obtain ⟨K, hK, eK⟩ := rd_nat (c := c) (cc := cc) (b := b) 201 0 m (mPutM b 1 Gx)
  rw [eK] at z
  have h1 := (nI_ltI (a := K) (b := 201) (by omega) (by decide)).mp z.1
  rw [← z.2, sub_add_self]
  exact (rng_nI (by omega)).mpr ⟨by omega, by omega⟩
theorem ja_in {c cc b m q : Nat} {mm : Int32} {Gx : Mem} (hq : q ≤ 200) (h : mm - nI m = nI q) : (mrG c cc b q 0 m (mPutM b 1 Gx) = nI q) ↔ jaT c cc b m mm Gx = true := by
  obtain ⟨K, hK, e1, e2⟩ := mr_rd (c := c) (cc := cc) (b := b) q 0 m (mPutM b 1 Gx) (by omega)
  have em : mm = nI q + nI m := Int32.sub_eq_iff_eq_add.mp h
  rw [show 201 - 0 = 201 from rfl] at e1
  unfold jaT
  rw [decide_eq_true_iff, e1, e2, em, Int32.add_comm (nI m), Int32.add_left_inj]
  by_cases z : K ≤ 0 + q
  · rw [if_pos z]
    exact ⟨fun y => ⟨(nI_ltI (a := K) (b := 201) (by omega) (by decide)).mpr (by omega), y⟩, fun y => y.2⟩
  · rw [if_neg z]
    refine ⟨fun y => absurd (show (-1 : Int32) < 0 by decide) (by rw [y]; exact nnI (by omega)), fun y => absurd ((nI_eq (by omega) (by omega)).mp y.2) (by omega)⟩
theorem v_X8_isReadyJustAt {c : Nat} (hc : c ≤ 10) {cc : Nat} (hcc : cc ≤ 12) {p : Nat} (hp : p ≤ 99) {B : Nat} (hB : B ≤ 10000) {b m A : Nat} (hb : b < c) (hA : A ≤ 9000) (hm : m ≤ 2000) (mm : Int32) (M' Gx : Mem) (hW : ST 40 c cc p m A B M' Gx) : V m_X8_isReadyJustAt 0 [(0, .ref 0), (1, .int (nI b)), (2, .int mm)] [] M' (RT (some (.int (if jaT c cc b m mm Gx = true then 1 else 0))) (jaM c cc p b m mm Gx M')) := by
  have hm40 : M' 40 7 = nI m := ST_m hW
  have h2 := ST_fire (q := 1) hc hb (by decide) (by decide) (ST_27_40 hc hcc hp hW)
  refine V.iload_n dX8_isReadyJustAt_0 rfl rfl rfl ?_
  refine V.aload_n dX8_isReadyJustAt_1 rfl rfl rfl ?_
  refine V.getr dX8_isReadyJustAt_2 fg_X8_22 rfl rfl rfl ?_
  refine V.geti (v := nI m) dX8_isReadyJustAt_5 fg_X8_208 rfl rfl hm40 rfl ?_
  refine V.isub (v := mm - (nI m)) dX8_isReadyJustAt_8 rfl rfl ?_
  refine V.ist_n dX8_isReadyJustAt_9 rfl (by decide) (L' := [(0, .ref 0), (1, .int (nI b)), (2, .int mm), (3, .int (mm - (nI m)))]) rfl rfl ?_
  refine V.iload_n dX8_isReadyJustAt_10 rfl rfl rfl ?_
  refine V.iconst (v := 0) dX8_isReadyJustAt_11 rfl rfl ?_
  refine V.sipush (v := 200) dX8_isReadyJustAt_12 (by decide) rfl ?_
  refine V.calls_i (M1 := M') (v := if rng 0 200 (mm - nI m) = true then 1 else 0) (md' := m_X8_within) (As := [.int (mm - (nI m)), .int 0, .int 200]) (rest := []) dX8_isReadyJustAt_15 ml_X8_63 mo_X8_within ⟨Nat.le_of_ble_eq_true rfl, Nat.le_of_ble_eq_true rfl⟩ (Nat.le_of_ble_eq_true rfl) rfl rfl (Nat.le_of_ble_eq_true rfl) (v_X8_within (x := mm - nI m) (a := 0) (b := 200) rfl rfl _) rfl ?_
  refine V.ifb_ne (tgt := 23) dX8_isReadyJustAt_18 rfl rfl (fun c18 => ?_) (fun c18 => ?_)
  · skip
    obtain ⟨q, hq, eq⟩ := of_rng (b := 200) c18
    · rw [show jaM c cc p b m mm Gx M' = mrM c cc p b q m (mPutM b 1 Gx) (layM 27 b 1 (eBecM 27 40 M')) from by rw [jaM, if_pos c18, eq, nI_clamp (by omega)], eq]
      refine V.aload_n dX8_isReadyJustAt_23 rfl rfl rfl ?_
      refine V.getr dX8_isReadyJustAt_24 fg_X8_19 rfl rfl rfl ?_
      refine V.aload_n dX8_isReadyJustAt_27 rfl rfl rfl ?_
      refine V.getr dX8_isReadyJustAt_28 fg_X8_22 rfl rfl rfl ?_
      refine V.callv_v (M1 := eBecM 27 40 M') (md' := m_X2_become) (As := [.ref 40]) (rest := []) dX8_isReadyJustAt_31 ml_X8_227 mo_X2_become ⟨Nat.le_of_ble_eq_true rfl, Nat.le_of_ble_eq_true rfl⟩ rfl ⟨_, _, rfl⟩ (Nat.le_of_ble_eq_true rfl) rfl rfl (Nat.le_of_ble_eq_true rfl) (v_X2_become isE27 isE40 (by omega) _) rfl ?_
      refine V.aload_n dX8_isReadyJustAt_34 rfl rfl rfl ?_
      refine V.getr dX8_isReadyJustAt_35 fg_X8_19 rfl rfl rfl ?_
      refine V.getr dX8_isReadyJustAt_38 fg_X8_71 rfl rfl rfl ?_
      refine V.iload_n dX8_isReadyJustAt_41 rfl rfl rfl ?_
      refine V.iconst (v := 1) dX8_isReadyJustAt_42 rfl rfl ?_
      refine V.callv_i (M1 := layM 27 b 1 (eBecM 27 40 M')) (v := layV 27 b 1 (eBecM 27 40 M')) (md' := m_X4_lay) (As := [.int (nI b), .int 1]) (rest := []) dX8_isReadyJustAt_43 ml_X8_129 mo_X4_lay ⟨Nat.le_of_ble_eq_true rfl, Nat.le_of_ble_eq_true rfl⟩ rfl ⟨_, _, rfl⟩ (Nat.le_of_ble_eq_true rfl) rfl rfl (Nat.le_of_ble_eq_true rfl) (v_X4_lay isE27 (b := b) (by omega) 1 _) rfl ?_
      refine V.pop dX8_isReadyJustAt_46 rfl rfl ?_
      refine V.aload_n dX8_isReadyJustAt_47 rfl rfl rfl ?_
      refine V.iload_n dX8_isReadyJustAt_48 rfl rfl rfl ?_
      refine V.iload_n dX8_isReadyJustAt_49 rfl rfl rfl ?_
      refine V.callv_i (M1 := mrM c cc p b q m (mPutM b 1 Gx) (layM 27 b 1 (eBecM 27 40 M'))) (v := mrG c cc b q 0 m (mPutM b 1 Gx)) (md' := m_X8_minutesToReady) (As := [.int (nI b), .int (nI q)]) (rest := []) dX8_isReadyJustAt_50 ml_X8_237 mo_X8_minutesToReady ⟨Nat.le_of_ble_eq_true rfl, Nat.le_of_ble_eq_true rfl⟩ rfl ⟨_, _, rfl⟩ (Nat.le_of_ble_eq_true rfl) rfl rfl (Nat.le_of_ble_eq_true rfl) (v_X8_mtr hc hcc hp hB (b := b) (n := q) (m := m) (A := A) hb (by omega) (by omega) (by omega) _ _ h2) rfl ?_
      refine V.iload_n dX8_isReadyJustAt_53 rfl rfl rfl ?_
      refine V.icmp_ne (tgt := 61) dX8_isReadyJustAt_54 rfl rfl (fun c54 => ?_) (fun c54 => ?_)
      · skip
        refine V.iconst (v := 0) dX8_isReadyJustAt_61 rfl rfl ?_
        exact V.ret dX8_isReadyJustAt_62 rfl rfl (⟨by rw [if_neg (fun z => c54 ((ja_in hq eq).mpr z))], rfl⟩)
      · skip
        refine V.iconst (v := 1) dX8_isReadyJustAt_57 rfl rfl ?_
        refine V.goto (pc' := 62) dX8_isReadyJustAt_58 rfl ?_
        exact V.ret dX8_isReadyJustAt_62 rfl rfl (⟨by rw [if_pos ((ja_in hq eq).mp c54)], rfl⟩)
  · skip
    refine V.iconst (v := 0) dX8_isReadyJustAt_21 rfl rfl ?_
    exact V.ret dX8_isReadyJustAt_22 rfl rfl (⟨by rw [ja_out hm c18]; rfl, by rw [jaM, if_neg c18]⟩)
theorem ST_c40 {c cc p m A B : Nat} {M R : Mem} (hV : ST 40 c cc p m A B M R) : M (40+1) 5 = nI c := by
  obtain ⟨hb, h8, h11, s5, h13, h9, h7, h6, h5, hcr, hd, hc1, hc7, h4, h10, h12, h14, hs, s1, s2, s0, s4, sd, sg, sa, s9, s8, s6, sm⟩ := hV
  exact hc1
theorem l_X8_putOn {c : Nat} (hc : c ≤ 10) {cc : Nat} (hcc : cc ≤ 12) {p : Nat} (hp : p ≤ 99) {m : Nat} (hm : m ≤ 999) {A B : Nat} (hA : A ≤ 5000) (hB : B ≤ 10000) (M R : Mem) (hV : ST 1 c cc p m A B M R) (hF61 : F61 M R) {b : Nat} (hb : b < c) (mm : Int32) : ∀ (n w : Nat) (M' : Mem), FR M' M → ST 40 c cc p (m + w) (A + w) B M' (mGo c cc w m (SV R)) → w + n = 61 → V m_X8_putOn 72 [(0, .ref 0), (1, .int (nI b)), (2, .int mm), (3, .int (poG c cc b m mm R w)), (4, .int (nI w))] [] M' (PQ (poR (poG c cc b m mm R 61) (SV R)) M) := by
  intro n
  induction n with
  | zero =>
    intro w M' hF hW hi
    obtain rfl : w = 61 := by omega
    refine V.iload dX8_putOn_72 rfl rfl ?_
    refine V.bipush (v := 60) dX8_putOn_74 (by decide) rfl ?_
    refine V.icmp_gt (tgt := 120) dX8_putOn_76 rfl rfl (fun _ => ?_) (fun c76 => absurd c76 (by decide))
    refine V.iload_n dX8_putOn_120 rfl rfl rfl ?_
    refine V.if_ge (tgt := 132) dX8_putOn_121 rfl rfl (fun c121 => ?_) (fun c121 => ?_)
    · skip
      refine V.iload_n dX8_putOn_132 rfl rfl rfl ?_
      exact V.ret dX8_putOn_133 rfl rfl (PQ_v hF hF61 SV_66 (by rw [poR, if_neg (Int32.not_lt.mpr c121)]))
    · skip
      refine V.aload_n dX8_putOn_124 rfl rfl rfl ?_
      refine V.iconst (v := 3) dX8_putOn_125 rfl rfl ?_
      refine V.callv_i (M1 := cfd 3 M') (v := -1000004) (md' := m_X8_finding) (As := [.int 3]) (rest := []) dX8_putOn_126 ml_X8_67 mo_X8_finding ⟨Nat.le_of_ble_eq_true rfl, Nat.le_of_ble_eq_true rfl⟩ rfl ⟨_, _, rfl⟩ (Nat.le_of_ble_eq_true rfl) rfl rfl (Nat.le_of_ble_eq_true rfl) (v_X8_finding (w := 3) (by decide) (f := -1000004) (by decide +kernel) _) rfl ?_
      refine V.goto (pc' := 133) dX8_putOn_129 rfl ?_
      exact V.ret dX8_putOn_133 rfl rfl (PQ_fFR (w := 3) hF hF61 SV_66 (by rw [poR, if_pos (Int32.not_le.mp c121)]))
  | succ n ih =>
    intro w M' hF hW hi
    have hjk : ∀ a, 40 ≤ a → a < 53 → jaM c cc p b (m + w) mm (mGo c cc w m (SV R)) M' a = M' a := fun a h1 h2 => jaM_k (by omega)
    have hWj : ST 40 c cc p (m + w) (A + w) B (jaM c cc p b (m + w) mm (mGo c cc w m (SV R)) M') (mGo c cc w m (SV R)) := ST_M (fun a h1 h2 => jaM_k (by omega)) hW
    have hFj : FR (jaM c cc p b (m + w) mm (mGo c cc w m (SV R)) M') M := fun k z => (jaM_k (by omega)).trans (hF k z)
    refine V.iload dX8_putOn_72 rfl rfl ?_
    refine V.bipush (v := 60) dX8_putOn_74 (by decide) rfl ?_
    refine V.icmp_gt (tgt := 120) dX8_putOn_76 rfl rfl (fun c76 => absurd ((nI_ltI (a := 60) (b := w) (by omega) (by omega)).mp c76) (by omega)) (fun c76 => ?_)
    have c76 : ¬ 60 < w := fun zq => c76 ((nI_ltI (a := 60) (b := w) (by omega) (by omega)).mpr zq)
    refine V.aload_n dX8_putOn_79 rfl rfl rfl ?_
    refine V.getr dX8_putOn_80 fg_X8_22 rfl rfl rfl ?_
    refine V.getr dX8_putOn_83 fg_X8_71 rfl rfl rfl ?_
    refine V.iconst (v := 1) dX8_putOn_86 rfl rfl ?_
    refine V.callv_i (M1 := M') (v := if onesF (setG (col (mGo c cc w m (SV R)) 4) 1 c 0 0) < 2 then 1 else 0) (md' := m_X4_hasRoom) (As := [.int 1]) (rest := []) dX8_putOn_87 ml_X8_123 mo_X4_hasRoom ⟨Nat.le_of_ble_eq_true rfl, Nat.le_of_ble_eq_true rfl⟩ rfl ⟨_, _, rfl⟩ (Nat.le_of_ble_eq_true rfl) rfl rfl (Nat.le_of_ble_eq_true rfl) (by have hz := v_X4_hasRoom isE40 hc 1 M' (ST_c40 hW); rw [room_eq hc hW] at hz; rw [show (if (¬ (1 : Int32) = 1 ∧ ¬ (1 : Int32) = 2) ∨ onesF (setG (col (mGo c cc w m (SV R)) 4) 1 c 0 0) < (if (1 : Int32) = 1 then 2 else 4) then (1 : Int32) else 0) = if onesF (setG (col (mGo c cc w m (SV R)) 4) 1 c 0 0) < 2 then 1 else 0 from by simp] at hz; exact hz) rfl ?_
    refine V.ifb_eq (tgt := 105) dX8_putOn_90 rfl rfl (fun c90 => ?_) (fun c90 => ?_)
    · skip
      refine V.aload_n dX8_putOn_105 rfl rfl rfl ?_
      refine V.getr dX8_putOn_106 fg_X8_22 rfl rfl rfl ?_
      refine V.iconst (v := 1) dX8_putOn_109 rfl rfl ?_
      refine V.callv_i (M1 := passG 40 c cc p 1 (m + w) M') (v := cnF c cc 1 (m + w) (mGo c cc w m (SV R)) (mGo c cc w m (SV R))) (md' := m_X2_pass) (As := [.int 1]) (rest := []) dX8_putOn_110 ml_X8_205 mo_X2_pass ⟨Nat.le_of_ble_eq_true rfl, Nat.le_of_ble_eq_true rfl⟩ rfl ⟨_, _, rfl⟩ (Nat.le_of_ble_eq_true rfl) rfl rfl (Nat.le_of_ble_eq_true rfl) (v_passT isE40 hc hcc hp (m := m + w) (A := A + w) (k := 1) (by omega) (by omega) (by omega) (by omega) hW (R := (mGo c cc w m (SV R))) (ST_8 hW)) rfl ?_
      refine V.pop dX8_putOn_113 rfl rfl ?_
      refine V.inc (v := nI (w + 1)) dX8_putOn_114 rfl (nI_1 _) (by decide) (L' := [(0, .ref 0), (1, .int (nI b)), (2, .int mm), (3, .int (poG c cc b m mm R w)), (4, .int (nI (w + 1)))]) rfl rfl ?_
      refine V.goto (pc' := 72) dX8_putOn_117 rfl ?_
      have et : poT c cc b m w mm R = false := decide_eq_false (fun z => c90 z.1)
      have ep : poG c cc b m mm R (w + 1) = poG c cc b m mm R w := by simp only [poG]; rw [et]; rfl
      refine V.loc (L' := [(0, .ref 0), (1, .int (nI b)), (2, .int mm), (3, .int (poG c cc b m mm R (w + 1))), (4, .int (nI (w + 1)))]) (by rw [ep]; exact fun _ zh => zh) ?_
      exact ih (w + 1) _ (FR_pass (by decide) (by decide) hF) (by rw [mGo_1]; exact ST_min (m := m + w) (A := A + w) hc hp (by omega) (by omega) hW) (by omega)
    · skip
      refine V.aload_n dX8_putOn_93 rfl rfl rfl ?_
      refine V.iload_n dX8_putOn_94 rfl rfl rfl ?_
      refine V.iload_n dX8_putOn_95 rfl rfl rfl ?_
      refine V.callv_i (M1 := jaM c cc p b (m + w) mm (mGo c cc w m (SV R)) M') (v := if jaT c cc b (m + w) mm (mGo c cc w m (SV R)) = true then 1 else 0) (md' := m_X8_isReadyJustAt) (As := [.int (nI b), .int mm]) (rest := []) dX8_putOn_96 ml_X8_240 mo_X8_isReadyJustAt ⟨Nat.le_of_ble_eq_true rfl, Nat.le_of_ble_eq_true rfl⟩ rfl ⟨_, _, rfl⟩ (Nat.le_of_ble_eq_true rfl) rfl rfl (Nat.le_of_ble_eq_true rfl) (v_X8_isReadyJustAt hc hcc hp hB (b := b) (m := m + w) (A := A + w) hb (by omega) (by omega) mm M' _ hW) rfl ?_
      refine V.ifb_eq (tgt := 105) dX8_putOn_99 rfl rfl (fun c99 => ?_) (fun c99 => ?_)
      · skip
        refine V.aload_n dX8_putOn_105 rfl rfl rfl ?_
        refine V.getr dX8_putOn_106 fg_X8_22 rfl rfl rfl ?_
        refine V.iconst (v := 1) dX8_putOn_109 rfl rfl ?_
        refine V.callv_i (M1 := passG 40 c cc p 1 (m + w) (jaM c cc p b (m + w) mm (mGo c cc w m (SV R)) M')) (v := cnF c cc 1 (m + w) (mGo c cc w m (SV R)) (mGo c cc w m (SV R))) (md' := m_X2_pass) (As := [.int 1]) (rest := []) dX8_putOn_110 ml_X8_205 mo_X2_pass ⟨Nat.le_of_ble_eq_true rfl, Nat.le_of_ble_eq_true rfl⟩ rfl ⟨_, _, rfl⟩ (Nat.le_of_ble_eq_true rfl) rfl rfl (Nat.le_of_ble_eq_true rfl) (v_passT isE40 hc hcc hp (m := m + w) (A := A + w) (k := 1) (by omega) (by omega) (by omega) (by omega) hWj (R := (mGo c cc w m (SV R))) (ST_8 hWj)) rfl ?_
        refine V.pop dX8_putOn_113 rfl rfl ?_
        refine V.inc (v := nI (w + 1)) dX8_putOn_114 rfl (nI_1 _) (by decide) (L' := [(0, .ref 0), (1, .int (nI b)), (2, .int mm), (3, .int (poG c cc b m mm R w)), (4, .int (nI (w + 1)))]) rfl rfl ?_
        refine V.goto (pc' := 72) dX8_putOn_117 rfl ?_
        have et : poT c cc b m w mm R = false := decide_eq_false (fun z => c99 (decide_eq_true z.2))
        have ep : poG c cc b m mm R (w + 1) = poG c cc b m mm R w := by simp only [poG]; rw [et]; rfl
        refine V.loc (L' := [(0, .ref 0), (1, .int (nI b)), (2, .int mm), (3, .int (poG c cc b m mm R (w + 1))), (4, .int (nI (w + 1)))]) (by rw [ep]; exact fun _ zh => zh) ?_
        exact ih (w + 1) _ (FR_pass (by decide) (by decide) hFj) (by rw [mGo_1]; exact ST_min (m := m + w) (A := A + w) hc hp (by omega) (by omega) hWj) (by omega)
      · skip
        refine V.iload dX8_putOn_102 rfl rfl ?_
        refine V.ist_n dX8_putOn_104 rfl (by decide) (L' := [(0, .ref 0), (1, .int (nI b)), (2, .int mm), (3, .int (nI w)), (4, .int (nI w))]) rfl rfl ?_
        refine V.aload_n dX8_putOn_105 rfl rfl rfl ?_
        refine V.getr dX8_putOn_106 fg_X8_22 rfl rfl rfl ?_
        refine V.iconst (v := 1) dX8_putOn_109 rfl rfl ?_
        refine V.callv_i (M1 := passG 40 c cc p 1 (m + w) (jaM c cc p b (m + w) mm (mGo c cc w m (SV R)) M')) (v := cnF c cc 1 (m + w) (mGo c cc w m (SV R)) (mGo c cc w m (SV R))) (md' := m_X2_pass) (As := [.int 1]) (rest := []) dX8_putOn_110 ml_X8_205 mo_X2_pass ⟨Nat.le_of_ble_eq_true rfl, Nat.le_of_ble_eq_true rfl⟩ rfl ⟨_, _, rfl⟩ (Nat.le_of_ble_eq_true rfl) rfl rfl (Nat.le_of_ble_eq_true rfl) (v_passT isE40 hc hcc hp (m := m + w) (A := A + w) (k := 1) (by omega) (by omega) (by omega) (by omega) hWj (R := (mGo c cc w m (SV R))) (ST_8 hWj)) rfl ?_
        refine V.pop dX8_putOn_113 rfl rfl ?_
        refine V.inc (v := nI (w + 1)) dX8_putOn_114 rfl (nI_1 _) (by decide) (L' := [(0, .ref 0), (1, .int (nI b)), (2, .int mm), (3, .int (nI w)), (4, .int (nI (w + 1)))]) rfl rfl ?_
        refine V.goto (pc' := 72) dX8_putOn_117 rfl ?_
        have et : poT c cc b m w mm R = true := decide_eq_true ⟨c90, of_decide_eq_true c99⟩
        have ep : poG c cc b m mm R (w + 1) = nI w := by simp only [poG]; rw [et]; rfl
        refine V.loc (L' := [(0, .ref 0), (1, .int (nI b)), (2, .int mm), (3, .int (poG c cc b m mm R (w + 1))), (4, .int (nI (w + 1)))]) (by rw [ep]; exact fun _ zh => zh) ?_
        exact ih (w + 1) _ (FR_pass (by decide) (by decide) hFj) (by rw [mGo_1]; exact ST_min (m := m + w) (A := A + w) hc hp (by omega) (by omega) hWj) (by omega)
theorem v_X8_putOn {c : Nat} (hc : c ≤ 10) {cc : Nat} (hcc : cc ≤ 12) {p : Nat} (hp : p ≤ 99) {m : Nat} (hm : m ≤ 999) {A B : Nat} (hA : A ≤ 5000) (hB : B ≤ 10000) (M R : Mem) (hV : ST 1 c cc p m A B M R) (x mm : Int32) (hF61 : F61 M R) : V m_X8_putOn 0 [(0, .ref 0), (1, .int x), (2, .int mm)] [] M (PQ (pPutOn c cc m x mm R) M) := by
  obtain ⟨hM, h2, h0, hP⟩ := ST_cnt hV
  have hV1 : ST 1 c cc p m A B M (SV R) := ST_R SV_63 hV
  have hV4 := ST_40_1 hc hcc hp hV1
  refine V.aload_n dX8_putOn_0 rfl rfl rfl ?_
  refine V.iload_n dX8_putOn_1 rfl rfl rfl ?_
  refine V.callv_i (M1 := M) (v := if isB c x then 1 else 0) (md' := m_X8_isBatch) (As := [.int x]) (rest := []) dX8_putOn_2 ml_X8_84 mo_X8_isBatch ⟨Nat.le_of_ble_eq_true rfl, Nat.le_of_ble_eq_true rfl⟩ rfl ⟨_, _, rfl⟩ (Nat.le_of_ble_eq_true rfl) rfl rfl (Nat.le_of_ble_eq_true rfl) (v_X8_isBatch hc x M hM) rfl ?_
  refine V.ifb_eq (tgt := 19) dX8_putOn_5 rfl rfl (fun c5 => ?_) (fun c5 => ?_)
  · skip
    refine V.aload_n dX8_putOn_19 rfl rfl rfl ?_
    refine V.iconst (v := 0) dX8_putOn_20 rfl rfl ?_
    refine V.callv_i (M1 := cfd 0 M) (v := -1000001) (md' := m_X8_finding) (As := [.int 0]) (rest := []) dX8_putOn_21 ml_X8_67 mo_X8_finding ⟨Nat.le_of_ble_eq_true rfl, Nat.le_of_ble_eq_true rfl⟩ rfl ⟨_, _, rfl⟩ (Nat.le_of_ble_eq_true rfl) rfl rfl (Nat.le_of_ble_eq_true rfl) (v_X8_finding (w := 0) (by decide) (f := -1000001) (by decide +kernel) _) rfl ?_
    exact V.ret dX8_putOn_24 rfl rfl (PQ_f (w := 0) hF61 (by first | (simp (decide := true) [pPutOn, c5]; done) | (simp (decide := true) [pPutOn, c5]; done) | (simp (decide := true) [pPutOn, c5]; done) | (simp_all (decide := true) [pPutOn]; done) | (simp_all (decide := true) [pPutOn, ltF, leF, ltFN, leFN]; done)))
  · skip
    refine V.iload_n dX8_putOn_8 rfl rfl rfl ?_
    refine V.iconst (v := 0) dX8_putOn_9 rfl rfl ?_
    refine V.sipush (v := 999) dX8_putOn_10 (by decide) rfl ?_
    refine V.calls_i (M1 := M) (v := if rng 0 999 mm then 1 else 0) (md' := m_X8_within) (As := [.int mm, .int 0, .int 999]) (rest := []) dX8_putOn_13 ml_X8_63 mo_X8_within ⟨Nat.le_of_ble_eq_true rfl, Nat.le_of_ble_eq_true rfl⟩ (Nat.le_of_ble_eq_true rfl) rfl rfl (Nat.le_of_ble_eq_true rfl) (v_X8_within (x := mm) (a := 0) (b := 999) rfl rfl _) rfl ?_
    refine V.ifb_ne (tgt := 25) dX8_putOn_16 rfl rfl (fun c16 => ?_) (fun c16 => ?_)
    · skip
      obtain ⟨x, hx, rfl⟩ := of_isB c5
      · have ex : (nI x).toNatClampNeg = x := nI_clamp (by omega)
        refine V.aload_n dX8_putOn_25 rfl rfl rfl ?_
        refine V.getr dX8_putOn_26 fg_X8_10 rfl rfl rfl ?_
        refine V.getr dX8_putOn_29 fg_X8_71 rfl rfl rfl ?_
        refine V.getr dX8_putOn_32 fg_X8_100 rfl rfl rfl ?_
        refine V.iload_n dX8_putOn_35 rfl rfl rfl ?_
        refine V.ialdN (j := x) (v := R 63 (20 + 5 * x + 4)) dX8_putOn_36 rfl (by omega) (by decide) rfl (ST_b hV hx).2.2.2.2 rfl ?_
        refine V.if_ne (tgt := 50) dX8_putOn_37 rfl rfl (fun c37 => ?_) (fun c37 => ?_)
        · skip
          refine V.aload_n dX8_putOn_50 rfl rfl rfl ?_
          refine V.iconst (v := 4) dX8_putOn_51 rfl rfl ?_
          refine V.callv_i (M1 := cfd 4 M) (v := -1000005) (md' := m_X8_finding) (As := [.int 4]) (rest := []) dX8_putOn_52 ml_X8_67 mo_X8_finding ⟨Nat.le_of_ble_eq_true rfl, Nat.le_of_ble_eq_true rfl⟩ rfl ⟨_, _, rfl⟩ (Nat.le_of_ble_eq_true rfl) rfl rfl (Nat.le_of_ble_eq_true rfl) (v_X8_finding (w := 4) (by decide) (f := -1000005) (by decide +kernel) _) rfl ?_
          exact V.ret dX8_putOn_55 rfl rfl (PQ_f (w := 4) hF61 (by first | (simp (decide := true) [pPutOn, c5, c16, ex, c37]; done) | (simp (decide := true) [pPutOn, c5, c16, ex, c37]; done) | (simp (decide := true) [pPutOn, c5, c16, ex, c37]; done) | (simp_all (decide := true) [pPutOn]; done) | (simp_all (decide := true) [pPutOn, ltF, leF, ltFN, leFN]; done)))
        · skip
          refine V.aload_n dX8_putOn_40 rfl rfl rfl ?_
          refine V.sipush (v := 260) dX8_putOn_41 (by decide) rfl ?_
          refine V.callv_i (M1 := M) (v := if 999 < m + 260 then 1 else 0) (md' := m_X8_isTooLate) (As := [.int 260]) (rest := []) dX8_putOn_44 ml_X8_199 mo_X8_isTooLate ⟨Nat.le_of_ble_eq_true rfl, Nat.le_of_ble_eq_true rfl⟩ rfl ⟨_, _, rfl⟩ (Nat.le_of_ble_eq_true rfl) rfl rfl (Nat.le_of_ble_eq_true rfl) (v_X8_isTooLate (n := 260) (by omega) (by decide) M h0) rfl ?_
          refine V.ifb_eq (tgt := 56) dX8_putOn_47 rfl rfl (fun c47 => ?_) (fun c47 => ?_)
          · skip
            refine V.iconst (v := -1) dX8_putOn_56 rfl rfl ?_
            refine V.ist_n dX8_putOn_57 rfl (by decide) (L' := [(0, .ref 0), (1, .int (nI x)), (2, .int mm), (3, .int (-1))]) rfl rfl ?_
            refine V.aload_n dX8_putOn_58 rfl rfl rfl ?_
            refine V.getr dX8_putOn_59 fg_X8_22 rfl rfl rfl ?_
            refine V.aload_n dX8_putOn_62 rfl rfl rfl ?_
            refine V.getr dX8_putOn_63 fg_X8_10 rfl rfl rfl ?_
            refine V.callv_v (M1 := eBecM 40 1 M) (md' := m_X2_become) (As := [.ref 1]) (rest := []) dX8_putOn_66 ml_X8_227 mo_X2_become ⟨Nat.le_of_ble_eq_true rfl, Nat.le_of_ble_eq_true rfl⟩ rfl ⟨_, _, rfl⟩ (Nat.le_of_ble_eq_true rfl) rfl rfl (Nat.le_of_ble_eq_true rfl) (v_X2_become isE40 isE1 (by omega) _) rfl ?_
            refine V.iconst (v := 0) dX8_putOn_69 rfl rfl ?_
            refine V.ist dX8_putOn_70 (by decide) (L' := [(0, .ref 0), (1, .int (nI x)), (2, .int mm), (3, .int (-1)), (4, .int 0)]) rfl rfl ?_
            rw [show pPutOn c cc m (nI x) mm R = poR (poG c cc x m mm R 61) (SV R) from (by first | (simp (decide := true) [pPutOn, c5, c16, ex, c37, c47]; done) | (simp (decide := true) [pPutOn, c5, c16, ex, c37, c47]; done) | (simp (decide := true) [pPutOn, c5, c16, ex, c37, c47]; done) | (simp_all (decide := true) [pPutOn]; done) | (simp_all (decide := true) [pPutOn, ltF, leF, ltFN, leFN]; done))]
            exact l_X8_putOn hc hcc hp hm hA hB M R hV hF61 hx mm 61 0 _ (FR_bec (by decide) (by decide) (FR_rf M)) hV4 (by omega)
          · skip
            refine V.aload_n dX8_putOn_50 rfl rfl rfl ?_
            refine V.iconst (v := 4) dX8_putOn_51 rfl rfl ?_
            refine V.callv_i (M1 := cfd 4 M) (v := -1000005) (md' := m_X8_finding) (As := [.int 4]) (rest := []) dX8_putOn_52 ml_X8_67 mo_X8_finding ⟨Nat.le_of_ble_eq_true rfl, Nat.le_of_ble_eq_true rfl⟩ rfl ⟨_, _, rfl⟩ (Nat.le_of_ble_eq_true rfl) rfl rfl (Nat.le_of_ble_eq_true rfl) (v_X8_finding (w := 4) (by decide) (f := -1000005) (by decide +kernel) _) rfl ?_
            exact V.ret dX8_putOn_55 rfl rfl (PQ_f (w := 4) hF61 (by first | (simp (decide := true) [pPutOn, c5, c16, ex, c37, c47]; done) | (simp (decide := true) [pPutOn, c5, c16, ex, c37, c47]; done) | (simp (decide := true) [pPutOn, c5, c16, ex, c37, c47]; done) | (simp_all (decide := true) [pPutOn]; done) | (simp_all (decide := true) [pPutOn, ltF, leF, ltFN, leFN]; done)))
    · skip
      refine V.aload_n dX8_putOn_19 rfl rfl rfl ?_
      refine V.iconst (v := 0) dX8_putOn_20 rfl rfl ?_
      refine V.callv_i (M1 := cfd 0 M) (v := -1000001) (md' := m_X8_finding) (As := [.int 0]) (rest := []) dX8_putOn_21 ml_X8_67 mo_X8_finding ⟨Nat.le_of_ble_eq_true rfl, Nat.le_of_ble_eq_true rfl⟩ rfl ⟨_, _, rfl⟩ (Nat.le_of_ble_eq_true rfl) rfl rfl (Nat.le_of_ble_eq_true rfl) (v_X8_finding (w := 0) (by decide) (f := -1000001) (by decide +kernel) _) rfl ?_
      exact V.ret dX8_putOn_24 rfl rfl (PQ_f (w := 0) hF61 (by first | (simp (decide := true) [pPutOn, c5, c16]; done) | (simp (decide := true) [pPutOn, c5, c16]; done) | (simp (decide := true) [pPutOn, c5, c16]; done) | (simp_all (decide := true) [pPutOn]; done) | (simp_all (decide := true) [pPutOn, ltF, leF, ltFN, leFN]; done)))
theorem hi_mr {c cc b : Nat} : ∀ (n i m : Nat) (Gx : Mem), i + n < 2000 → ((hiG c cc b n m (rdyG b Gx) Gx).1 = true ↔ ¬ mrG c cc b n i m Gx < 0) := by
  intro n
  induction n with
  | zero =>
    intro i m Gx hi
    show rdyG b Gx = true ↔ _
    simp only [mrG]
    by_cases q : rdyG b Gx = true
    · rw [if_pos q]; exact ⟨fun _ => nnI (by omega), fun _ => q⟩
    · rw [if_neg q]; exact ⟨fun z => absurd z q, fun z => absurd (show (-1 : Int32) < 0 by decide) z⟩
  | succ n ih =>
    intro i m Gx hi
    simp only [mrG]
    by_cases q : rdyG b Gx = true
    · rw [if_pos q, q]; exact ⟨fun _ => nnI (by omega), fun _ => rfl⟩
    · rw [if_neg q, Bool.eq_false_iff.mpr q]
      exact ih (i + 1) (m + 1) (mMin c cc m Gx) (by omega)
theorem ho_mr {c cc b k m h : Nat} (hk : k ≤ 120) {R : Mem} (hp : R 63 (20 + 5 * b + 4) = 1 ∨ R 63 (20 + 5 * b + 4) = 2) : (hoT c cc b k m h R).1 = true ↔ ¬ mrG c cc b k 0 m (ms (SV R) 63 4 (nI h)) < 0 := by
  rw [← hi_mr k 0 m _ (by omega)]
  have e : decide (readyF (ms (SV R) 63 4 (nI h) 63 (20 + 5 * b)) ≤ ms (SV R) 63 4 (nI h) 63 (20 + 5 * b + 2)) = rdyG b (ms (SV R) 63 4 (nI h)) := by
    unfold rdyG
    refine decide_eq_decide.mpr ⟨fun z => ⟨z, ?_⟩, fun z => z.1⟩
    rw [ms_j (by omega), SV_63]
    rcases hp with y | y <;> rw [y] <;> decide
  unfold hoT
  rw [e]
theorem l_X8_heatFor {c : Nat} (hc : c ≤ 10) {cc : Nat} (hcc : cc ≤ 12) {p : Nat} (hp : p ≤ 99) {m : Nat} (hm : m ≤ 999) {A B : Nat} (hA : A ≤ 5000) (hB : B ≤ 10000) (M R : Mem) (hV : ST 1 c cc p m A B M R) (hF61 : F61 M R) {x k : Nat} (hx : x < c) (hk : k ≤ 120) (hpl : R 63 (20 + 5 * x + 4) = 1 ∨ R 63 (20 + 5 * x + 4) = 2) : ∀ (n h : Nat) (M' : Mem), FR M' M → h + n = 21 → V m_X8_heatFor 51 [(0, .ref 0), (1, .int (nI x)), (2, .int (nI k)), (3, .int (nI h))] [] M' (PQ (poR (hoG c cc x k m R n h) (SV R)) M) := by
  intro n
  induction n with
  | zero =>
    intro h M' hF hi
    refine V.iload_n dX8_heatFor_51 rfl rfl rfl ?_
    refine V.bipush (v := 20) dX8_heatFor_52 (by decide) rfl ?_
    refine V.icmp_gt (tgt := 93) dX8_heatFor_54 rfl rfl (fun c54 => ?_) (fun c54 => absurd ((nI_ltI (a := 20) (b := h) (by omega) (by omega)).mpr (by omega)) c54)
    have c54 : 20 < h := (nI_ltI (a := 20) (b := h) (by omega) (by omega)).mp c54
    refine V.aload_n dX8_heatFor_93 rfl rfl rfl ?_
    refine V.iconst (v := 3) dX8_heatFor_94 rfl rfl ?_
    refine V.callv_i (M1 := cfd 3 M') (v := -1000004) (md' := m_X8_finding) (As := [.int 3]) (rest := []) dX8_heatFor_95 ml_X8_67 mo_X8_finding ⟨Nat.le_of_ble_eq_true rfl, Nat.le_of_ble_eq_true rfl⟩ rfl ⟨_, _, rfl⟩ (Nat.le_of_ble_eq_true rfl) rfl rfl (Nat.le_of_ble_eq_true rfl) (v_X8_finding (w := 3) (by decide) (f := -1000004) (by decide +kernel) _) rfl ?_
    exact V.ret dX8_heatFor_98 rfl rfl (PQ_fFR (w := 3) hF hF61 SV_66 rfl)
  | succ n ih =>
    intro h M' hF hi
    have hV1 : ST 1 c cc p m A B M' (SV R) := ST_FR hF (ST_R SV_63 hV)
    have hV2 := ST_27_1 hc hcc hp hV1
    have hV3 : ST 27 c cc p m A B (ms (eBecM 27 1 M') 27 4 (nI h)) (ms (SV R) 63 4 (nI h)) := ST_heat (by omega) hV2
    have hho := ho_mr (c := c) (cc := cc) (b := x) (k := k) (m := m) (h := h) hk hpl
    refine V.iload_n dX8_heatFor_51 rfl rfl rfl ?_
    refine V.bipush (v := 20) dX8_heatFor_52 (by decide) rfl ?_
    refine V.icmp_gt (tgt := 93) dX8_heatFor_54 rfl rfl (fun c54 => absurd ((nI_ltI (a := 20) (b := h) (by omega) (by omega)).mp c54) (by omega)) (fun c54 => ?_)
    have c54 : ¬ 20 < h := fun zq => c54 ((nI_ltI (a := 20) (b := h) (by omega) (by omega)).mpr zq)
    refine V.aload_n dX8_heatFor_57 rfl rfl rfl ?_
    refine V.getr dX8_heatFor_58 fg_X8_19 rfl rfl rfl ?_
    refine V.aload_n dX8_heatFor_61 rfl rfl rfl ?_
    refine V.getr dX8_heatFor_62 fg_X8_10 rfl rfl rfl ?_
    refine V.callv_v (M1 := eBecM 27 1 M') (md' := m_X2_become) (As := [.ref 1]) (rest := []) dX8_heatFor_65 ml_X8_227 mo_X2_become ⟨Nat.le_of_ble_eq_true rfl, Nat.le_of_ble_eq_true rfl⟩ rfl ⟨_, _, rfl⟩ (Nat.le_of_ble_eq_true rfl) rfl rfl (Nat.le_of_ble_eq_true rfl) (v_X2_become isE27 isE1 (by omega) _) rfl ?_
    refine V.aload_n dX8_heatFor_68 rfl rfl rfl ?_
    refine V.getr dX8_heatFor_69 fg_X8_19 rfl rfl rfl ?_
    refine V.iload_n dX8_heatFor_72 rfl rfl rfl ?_
    refine V.puti dX8_heatFor_73 fp_X8_213 rfl rfl rfl rfl (M' := (ms (eBecM 27 1 M') 27 4 (nI h))) rfl rfl ?_
    refine V.aload_n dX8_heatFor_76 rfl rfl rfl ?_
    refine V.iload_n dX8_heatFor_77 rfl rfl rfl ?_
    refine V.iload_n dX8_heatFor_78 rfl rfl rfl ?_
    refine V.callv_i (M1 := mrM c cc p x k m (ms (SV R) 63 4 (nI h)) (ms (eBecM 27 1 M') 27 4 (nI h))) (v := mrG c cc x k 0 m (ms (SV R) 63 4 (nI h))) (md' := m_X8_minutesToReady) (As := [.int (nI x), .int (nI k)]) (rest := []) dX8_heatFor_79 ml_X8_237 mo_X8_minutesToReady ⟨Nat.le_of_ble_eq_true rfl, Nat.le_of_ble_eq_true rfl⟩ rfl ⟨_, _, rfl⟩ (Nat.le_of_ble_eq_true rfl) rfl rfl (Nat.le_of_ble_eq_true rfl) (v_X8_mtr hc hcc hp hB (b := x) (n := k) (m := m) (A := A) hx (by omega) (by omega) (by omega) _ _ hV3) rfl ?_
    refine V.if_lt (tgt := 87) dX8_heatFor_82 rfl rfl (fun c82 => ?_) (fun c82 => ?_)
    · skip
      refine V.inc (v := nI (h + 1)) dX8_heatFor_87 rfl (nI_1 _) (by decide) (L' := [(0, .ref 0), (1, .int (nI x)), (2, .int (nI k)), (3, .int (nI (h + 1)))]) rfl rfl ?_
      refine V.goto (pc' := 51) dX8_heatFor_90 rfl ?_
      rw [show hoG c cc x k m R (n + 1) h = hoG c cc x k m R n (h + 1) from by simp only [hoG]; rw [if_neg (fun z => hho.mp z c82)]]
      exact ih (h + 1) _ (FR_mr (FR_ms (by decide) (by decide) (FR_bec (by decide) (by decide) hF))) (by omega)
    · skip
      refine V.iload_n dX8_heatFor_85 rfl rfl rfl ?_
      exact V.ret dX8_heatFor_86 rfl rfl (PQ_v (FR_mr (FR_ms (by decide) (by decide) (FR_bec (by decide) (by decide) hF))) hF61 SV_66 (by simp only [hoG]; rw [if_pos (hho.mpr c82)]; exact poR_n h (by omega) _))
theorem v_X8_heatFor {c : Nat} (hc : c ≤ 10) {cc : Nat} (hcc : cc ≤ 12) {p : Nat} (hp : p ≤ 99) {m : Nat} (hm : m ≤ 999) {A B : Nat} (hA : A ≤ 5000) (hB : B ≤ 10000) (M R : Mem) (hV : ST 1 c cc p m A B M R) (x n : Int32) (hF61 : F61 M R) : V m_X8_heatFor 0 [(0, .ref 0), (1, .int x), (2, .int n)] [] M (PQ (pHeatFor c cc m x n R) M) := by
  obtain ⟨hM, h2, h0, hP⟩ := ST_cnt hV
  refine V.aload_n dX8_heatFor_0 rfl rfl rfl ?_
  refine V.iload_n dX8_heatFor_1 rfl rfl rfl ?_
  refine V.callv_i (M1 := M) (v := if isB c x then 1 else 0) (md' := m_X8_isBatch) (As := [.int x]) (rest := []) dX8_heatFor_2 ml_X8_84 mo_X8_isBatch ⟨Nat.le_of_ble_eq_true rfl, Nat.le_of_ble_eq_true rfl⟩ rfl ⟨_, _, rfl⟩ (Nat.le_of_ble_eq_true rfl) rfl rfl (Nat.le_of_ble_eq_true rfl) (v_X8_isBatch hc x M hM) rfl ?_
  refine V.ifb_eq (tgt := 15) dX8_heatFor_5 rfl rfl (fun c5 => ?_) (fun c5 => ?_)
  · skip
    refine V.aload_n dX8_heatFor_15 rfl rfl rfl ?_
    refine V.iconst (v := 0) dX8_heatFor_16 rfl rfl ?_
    refine V.callv_i (M1 := cfd 0 M) (v := -1000001) (md' := m_X8_finding) (As := [.int 0]) (rest := []) dX8_heatFor_17 ml_X8_67 mo_X8_finding ⟨Nat.le_of_ble_eq_true rfl, Nat.le_of_ble_eq_true rfl⟩ rfl ⟨_, _, rfl⟩ (Nat.le_of_ble_eq_true rfl) rfl rfl (Nat.le_of_ble_eq_true rfl) (v_X8_finding (w := 0) (by decide) (f := -1000001) (by decide +kernel) _) rfl ?_
    exact V.ret dX8_heatFor_20 rfl rfl (PQ_f (w := 0) hF61 (by first | (simp (decide := true) [pHeatFor, c5]; done) | (simp (decide := true) [pHeatFor, c5]; done) | (simp (decide := true) [pHeatFor, c5]; done) | (simp_all (decide := true) [pHeatFor]; done) | (simp_all (decide := true) [pHeatFor, ltF, leF, ltFN, leFN]; done)))
  · skip
    refine V.iload_n dX8_heatFor_8 rfl rfl rfl ?_
    refine V.calls_i (M1 := M) (v := if rng 1 120 n then 1 else 0) (md' := m_X8_isPlan) (As := [.int n]) (rest := []) dX8_heatFor_9 ml_X8_196 mo_X8_isPlan ⟨Nat.le_of_ble_eq_true rfl, Nat.le_of_ble_eq_true rfl⟩ (Nat.le_of_ble_eq_true rfl) rfl rfl (Nat.le_of_ble_eq_true rfl) (v_X8_isPlan n _) rfl ?_
    refine V.ifb_ne (tgt := 21) dX8_heatFor_12 rfl rfl (fun c12 => ?_) (fun c12 => ?_)
    · skip
      obtain ⟨x, hx, rfl⟩ := of_isB c5
      · have ex : (nI x).toNatClampNeg = x := nI_clamp (by omega)
        obtain ⟨k, hk, rfl⟩ := of_rng1 (b := 120) c12
        have ek : (nI k).toNatClampNeg = k := nI_clamp (by omega)
        refine V.aload_n dX8_heatFor_21 rfl rfl rfl ?_
        refine V.getr dX8_heatFor_22 fg_X8_10 rfl rfl rfl ?_
        refine V.getr dX8_heatFor_25 fg_X8_71 rfl rfl rfl ?_
        refine V.iload_n dX8_heatFor_28 rfl rfl rfl ?_
        refine V.callv_i (M1 := M) (v := if R 63 (20 + 5 * x + 4) = 1 ∨ R 63 (20 + 5 * x + 4) = 2 then 1 else 0) (md' := m_X4_isOverFire) (As := [.int (nI x)]) (rest := []) dX8_heatFor_29 ml_X8_244 mo_X4_isOverFire ⟨Nat.le_of_ble_eq_true rfl, Nat.le_of_ble_eq_true rfl⟩ rfl ⟨_, _, rfl⟩ (Nat.le_of_ble_eq_true rfl) rfl rfl (Nat.le_of_ble_eq_true rfl) (v_overT isE1 hc hx hV) rfl ?_
        refine V.ifb_eq (tgt := 43) dX8_heatFor_32 rfl rfl (fun c32 => ?_) (fun c32 => ?_)
        · skip
          refine V.aload_n dX8_heatFor_43 rfl rfl rfl ?_
          refine V.iconst (v := 4) dX8_heatFor_44 rfl rfl ?_
          refine V.callv_i (M1 := cfd 4 M) (v := -1000005) (md' := m_X8_finding) (As := [.int 4]) (rest := []) dX8_heatFor_45 ml_X8_67 mo_X8_finding ⟨Nat.le_of_ble_eq_true rfl, Nat.le_of_ble_eq_true rfl⟩ rfl ⟨_, _, rfl⟩ (Nat.le_of_ble_eq_true rfl) rfl rfl (Nat.le_of_ble_eq_true rfl) (v_X8_finding (w := 4) (by decide) (f := -1000005) (by decide +kernel) _) rfl ?_
          exact V.ret dX8_heatFor_48 rfl rfl (PQ_f (w := 4) hF61 (by first | (simp (decide := true) [pHeatFor, c5, c12, ex, ek, c32]; done) | (simp (decide := true) [pHeatFor, c5, c12, ex, ek, c32]; done) | (simp (decide := true) [pHeatFor, c5, c12, ex, ek, c32]; done) | (simp_all (decide := true) [pHeatFor]; done) | (simp_all (decide := true) [pHeatFor, ltF, leF, ltFN, leFN]; done)))
        · skip
          refine V.aload_n dX8_heatFor_35 rfl rfl rfl ?_
          refine V.iload_n dX8_heatFor_36 rfl rfl rfl ?_
          refine V.callv_i (M1 := M) (v := if 999 < m + k then 1 else 0) (md' := m_X8_isTooLate) (As := [.int (nI k)]) (rest := []) dX8_heatFor_37 ml_X8_199 mo_X8_isTooLate ⟨Nat.le_of_ble_eq_true rfl, Nat.le_of_ble_eq_true rfl⟩ rfl ⟨_, _, rfl⟩ (Nat.le_of_ble_eq_true rfl) rfl rfl (Nat.le_of_ble_eq_true rfl) (v_X8_isTooLate (by omega) (by omega) M h0) rfl ?_
          refine V.ifb_eq (tgt := 49) dX8_heatFor_40 rfl rfl (fun c40 => ?_) (fun c40 => ?_)
          · skip
            refine V.iconst (v := 0) dX8_heatFor_49 rfl rfl ?_
            refine V.ist_n dX8_heatFor_50 rfl (by decide) (L' := [(0, .ref 0), (1, .int (nI x)), (2, .int (nI k)), (3, .int 0)]) rfl rfl ?_
            rw [show pHeatFor c cc m (nI x) (nI k) R = poR (hoG c cc x k m R 21 0) (SV R) from (by first | (simp (decide := true) [pHeatFor, c5, c12, ex, ek, c32, c40]; done) | (simp (decide := true) [pHeatFor, c5, c12, ex, ek, c32, c40]; done) | (simp (decide := true) [pHeatFor, c5, c12, ex, ek, c32, c40]; done) | (simp_all (decide := true) [pHeatFor]; done) | (simp_all (decide := true) [pHeatFor, ltF, leF, ltFN, leFN]; done))]
            exact l_X8_heatFor hc hcc hp hm hA hB M R hV hF61 hx (by omega) c32 21 0 M (FR_rf M) (by omega)
          · skip
            refine V.aload_n dX8_heatFor_43 rfl rfl rfl ?_
            refine V.iconst (v := 4) dX8_heatFor_44 rfl rfl ?_
            refine V.callv_i (M1 := cfd 4 M) (v := -1000005) (md' := m_X8_finding) (As := [.int 4]) (rest := []) dX8_heatFor_45 ml_X8_67 mo_X8_finding ⟨Nat.le_of_ble_eq_true rfl, Nat.le_of_ble_eq_true rfl⟩ rfl ⟨_, _, rfl⟩ (Nat.le_of_ble_eq_true rfl) rfl rfl (Nat.le_of_ble_eq_true rfl) (v_X8_finding (w := 4) (by decide) (f := -1000005) (by decide +kernel) _) rfl ?_
            exact V.ret dX8_heatFor_48 rfl rfl (PQ_f (w := 4) hF61 (by first | (simp (decide := true) [pHeatFor, c5, c12, ex, ek, c32, c40]; done) | (simp (decide := true) [pHeatFor, c5, c12, ex, ek, c32, c40]; done) | (simp (decide := true) [pHeatFor, c5, c12, ex, ek, c32, c40]; done) | (simp_all (decide := true) [pHeatFor]; done) | (simp_all (decide := true) [pHeatFor, ltF, leF, ltFN, leFN]; done)))
    · skip
      refine V.aload_n dX8_heatFor_15 rfl rfl rfl ?_
      refine V.iconst (v := 0) dX8_heatFor_16 rfl rfl ?_
      refine V.callv_i (M1 := cfd 0 M) (v := -1000001) (md' := m_X8_finding) (As := [.int 0]) (rest := []) dX8_heatFor_17 ml_X8_67 mo_X8_finding ⟨Nat.le_of_ble_eq_true rfl, Nat.le_of_ble_eq_true rfl⟩ rfl ⟨_, _, rfl⟩ (Nat.le_of_ble_eq_true rfl) rfl rfl (Nat.le_of_ble_eq_true rfl) (v_X8_finding (w := 0) (by decide) (f := -1000001) (by decide +kernel) _) rfl ?_
      exact V.ret dX8_heatFor_20 rfl rfl (PQ_f (w := 0) hF61 (by first | (simp (decide := true) [pHeatFor, c5, c12]; done) | (simp (decide := true) [pHeatFor, c5, c12]; done) | (simp (decide := true) [pHeatFor, c5, c12]; done) | (simp_all (decide := true) [pHeatFor]; done) | (simp_all (decide := true) [pHeatFor, ltF, leF, ltFN, leFN]; done)))
