/-! The reference's plays, fourth part -/
def poT (c cc b m w : Nat) (mm : Int32) (M : Mem) : Bool := decide (onesF (setG (col (mGo c cc w m (SV M)) 4) 1 c 0 0) < 2 ∧ (rdG c cc b 201 0 (m + w) (mPutM b 1 (mGo c cc w m (SV M)))).1 < 201 ∧ nI (m + w) + (rdG c cc b 201 0 (m + w) (mPutM b 1 (mGo c cc w m (SV M)))).1 = mm)
def poG (c cc b m : Nat) (mm : Int32) (M : Mem) : Nat → Int32
  | 0 => -1
  | w + 1 => if poT c cc b m w mm M then nI w else poG c cc b m mm M w
def poR (v : Int32) (Mx : Mem) : Int32 × Mem := if v < 0 then (-1000004, fdM 3 Mx) else (v, Mx)
theorem poR_n (k : Nat) (hk : k < 2 ^ 31) (Mx : Mem) : poR (nI k) Mx = (nI k, Mx) := if_neg (Int32.not_lt.mpr ((nI_leI (a := 0) (b := k) (by decide) hk).mpr (Nat.zero_le k)))
theorem poR_m (Mx : Mem) : poR (-1) Mx = (-1000004, fdM 3 Mx) := if_pos (by decide)
theorem l_X9_putOn_x {b : Nat} (mm : Int32) (M : Mem) {y : Nat} (hy : y < 100) : ∀ w, w < 100 → V m_X9_putOn 63 [(0, .ref 62), (1, .int (nI b)), (2, .int mm), (3, .int (nI y)), (4, .int (dI w))] [] M (RT (some (.int (nI y))) M) := by
  intro w hw
  rcases w with _ | w
  · refine V.iload dX9_putOn_63 rfl rfl ?_
    refine V.if_lt (tgt := 141) dX9_putOn_65 rfl rfl (fun _ => ?_) (fun c65 => absurd c65 (by decide))
    refine V.iload_n dX9_putOn_141 rfl rfl rfl ?_
    refine V.if_ge (tgt := 154) dX9_putOn_142 rfl rfl (fun c142 => ?_) (fun c142 => absurd ((nI_leI (a := 0) (b := y) (by omega) (by omega)).mpr (by omega)) c142)
    have c142 : 0 ≤ y := (nI_leI (a := 0) (b := y) (by omega) (by omega)).mp c142
    refine V.iload_n dX9_putOn_154 rfl rfl rfl ?_
    exact V.ret dX9_putOn_155 rfl rfl ⟨rfl, rfl⟩
  · refine V.iload dX9_putOn_63 rfl rfl ?_
    refine V.if_lt (tgt := 141) dX9_putOn_65 rfl rfl (fun c65 => absurd ((nI_ltI (a := w) (b := 0) (by omega) (by omega)).mp c65) (by omega)) (fun c65 => ?_)
    have c65 : ¬ w < 0 := fun zq => c65 ((nI_ltI (a := w) (b := 0) (by omega) (by omega)).mpr zq)
    refine V.iload_n dX9_putOn_68 rfl rfl rfl ?_
    refine V.if_ge (tgt := 141) dX9_putOn_69 rfl rfl (fun c69 => ?_) (fun c69 => absurd ((nI_leI (a := 0) (b := y) (by omega) (by omega)).mpr (by omega)) c69)
    have c69 : 0 ≤ y := (nI_leI (a := 0) (b := y) (by omega) (by omega)).mp c69
    refine V.iload_n dX9_putOn_141 rfl rfl rfl ?_
    refine V.if_ge (tgt := 154) dX9_putOn_142 rfl rfl (fun c142 => ?_) (fun c142 => absurd ((nI_leI (a := 0) (b := y) (by omega) (by omega)).mpr (by omega)) c142)
    have c142 : 0 ≤ y := (nI_leI (a := 0) (b := y) (by omega) (by omega)).mp c142
    refine V.iload_n dX9_putOn_154 rfl rfl rfl ?_
    exact V.ret dX9_putOn_155 rfl rfl ⟨rfl, rfl⟩
theorem l_X9_putOn {c : Nat} (hc : c ≤ 10) {cc : Nat} (hcc : cc ≤ 12) {b m : Nat} (hb : b < 10) (hm : m ≤ 3000) (mm : Int32) (M : Mem) (hM : M 63 1 = nI c) (h0 : M 63 0 = nI m) (hW : WM c cc m M) : ∀ w, w ≤ 61 → V m_X9_putOn 63 [(0, .ref 62), (1, .int (nI b)), (2, .int mm), (3, .int (-1)), (4, .int (dI w))] [] (SV M) (RT (some (.int (poR (poG c cc b m mm M w) (SV M)).1)) (poR (poG c cc b m mm M w) (SV M)).2) := by
  intro w
  induction w with
  | zero =>
    intro hw
    refine V.iload dX9_putOn_63 rfl rfl ?_
    refine V.if_lt (tgt := 141) dX9_putOn_65 rfl rfl (fun _ => ?_) (fun c65 => absurd c65 (by decide))
    refine V.iload_n dX9_putOn_141 rfl rfl rfl ?_
    refine V.if_ge (tgt := 154) dX9_putOn_142 rfl rfl (fun c142 => absurd c142 (by decide)) (fun _ => ?_)
    refine V.aload_n dX9_putOn_145 rfl rfl rfl ?_
    refine V.ldc (v := -1000004) dX9_putOn_146 cn_X9_195 rfl ?_
    refine V.callv_i (M1 := fdM 3 (SV M)) (v := -1000004) (md' := m_X9_finds) (As := [.int (-1000004)]) (rest := []) dX9_putOn_148 ml_X9_51 mo_X9_finds ⟨Nat.le_of_ble_eq_true rfl, Nat.le_of_ble_eq_true rfl⟩ rfl ⟨_, _, rfl⟩ (Nat.le_of_ble_eq_true rfl) rfl rfl (Nat.le_of_ble_eq_true rfl) (v_X9_finds (w := 3) (by decide) (-1000004) (by decide +kernel) _) rfl ?_
    refine V.goto (pc' := 155) dX9_putOn_151 rfl ?_
    exact V.ret dX9_putOn_155 rfl rfl ⟨(by simp [poG, poR_m]), (by simp [poG, poR_m])⟩
  | succ w ih =>
    intro hw
    refine V.iload dX9_putOn_63 rfl rfl ?_
    refine V.if_lt (tgt := 141) dX9_putOn_65 rfl rfl (fun c65 => absurd ((nI_ltI (a := w) (b := 0) (by omega) (by omega)).mp c65) (by omega)) (fun c65 => ?_)
    have c65 : ¬ w < 0 := fun zq => c65 ((nI_ltI (a := w) (b := 0) (by omega) (by omega)).mpr zq)
    refine V.iload_n dX9_putOn_68 rfl rfl rfl ?_
    refine V.if_ge (tgt := 141) dX9_putOn_69 rfl rfl (fun c69 => absurd c69 (by decide)) (fun _ => ?_)
    refine V.aload_n dX9_putOn_72 rfl rfl rfl ?_
    refine V.iload dX9_putOn_73 rfl rfl ?_
    refine V.callv_v (M1 := mGo c cc w m (SV M)) (md' := m_X9_minutesGo) (As := [.int (nI w)]) (rest := []) dX9_putOn_75 ml_X9_174 mo_X9_minutesGo ⟨Nat.le_of_ble_eq_true rfl, Nat.le_of_ble_eq_true rfl⟩ rfl ⟨_, _, rfl⟩ (Nat.le_of_ble_eq_true rfl) rfl rfl (Nat.le_of_ble_eq_true rfl) (v_X9_minutesGo hc hcc (by omega) _ (WM_SV hW) (by omega)) rfl ?_
    refine V.aload_n dX9_putOn_78 rfl rfl rfl ?_
    refine V.iconst (v := 1) dX9_putOn_79 rfl rfl ?_
    refine V.callv_i (M1 := mGo c cc w m (SV M)) (v := if onesF (setG (col (mGo c cc w m (SV M)) 4) 1 c 0 0) < 2 then 1 else 0) (md' := m_X9_isRoom) (As := [.int 1]) (rest := []) dX9_putOn_80 ml_X9_99 mo_X9_isRoom ⟨Nat.le_of_ble_eq_true rfl, Nat.le_of_ble_eq_true rfl⟩ rfl ⟨_, _, rfl⟩ (Nat.le_of_ble_eq_true rfl) rfl rfl (Nat.le_of_ble_eq_true rfl) (by have h := v_X9_isRoom hc 1 (mGo c cc w m (SV M)) (WM_go hc w m _ (WM_SV hW)).1; rw [show (if (¬ (1 : Int32) = 1 ∧ ¬ (1 : Int32) = 2) ∨ onesF (setG (col (mGo c cc w m (SV M)) 4) 1 c 0 0) < (if (1 : Int32) = 1 then 2 else 4) then (1 : Int32) else 0) = if onesF (setG (col (mGo c cc w m (SV M)) 4) 1 c 0 0) < 2 then 1 else 0 from by simp] at h; exact h) rfl ?_
    refine V.ifb_eq (tgt := 131) dX9_putOn_83 rfl rfl (fun c83 => ?_) (fun c83 => ?_)
    · skip
      refine V.aload_n dX9_putOn_131 rfl rfl rfl ?_
      refine V.callv_v (M1 := SV M) (md' := m_X9_putsBack) (As := []) (rest := []) dX9_putOn_132 ml_X9_188 mo_X9_putsBack ⟨Nat.le_of_ble_eq_true rfl, Nat.le_of_ble_eq_true rfl⟩ rfl ⟨_, _, rfl⟩ (Nat.le_of_ble_eq_true rfl) rfl rfl (Nat.le_of_ble_eq_true rfl) (v_back (off_go hc w m _ (off_self M))) rfl ?_
      refine V.inc (v := dI w) dX9_putOn_135 rfl (dI_dec w) (by decide) (L' := [(0, .ref 62), (1, .int (nI b)), (2, .int mm), (3, .int (-1)), (4, .int (dI w))]) rfl rfl ?_
      refine V.goto (pc' := 63) dX9_putOn_138 rfl ?_
      rw [show poG c cc b m mm M (w + 1) = poG c cc b m mm M w from by simp only [poG]; rw [show poT c cc b m w mm M = false from decide_eq_false (fun q => c83 q.1)]; rfl]
      exact ih (by omega)
    · skip
      refine V.aload_n dX9_putOn_86 rfl rfl rfl ?_
      refine V.iload_n dX9_putOn_87 rfl rfl rfl ?_
      refine V.iconst (v := 1) dX9_putOn_88 rfl rfl ?_
      refine V.callv_v (M1 := mPutM b 1 (mGo c cc w m (SV M))) (md' := m_X9_putsAt) (As := [.int (nI b), .int 1]) (rest := []) dX9_putOn_89 ml_X9_102 mo_X9_putsAt ⟨Nat.le_of_ble_eq_true rfl, Nat.le_of_ble_eq_true rfl⟩ rfl ⟨_, _, rfl⟩ (Nat.le_of_ble_eq_true rfl) rfl rfl (Nat.le_of_ble_eq_true rfl) (v_X9_putsAt (b := b) hb 1 _) rfl ?_
      refine V.aload_n dX9_putOn_92 rfl rfl rfl ?_
      refine V.iload_n dX9_putOn_93 rfl rfl rfl ?_
      refine V.iconst (v := 0) dX9_putOn_94 rfl rfl ?_
      refine V.callv_i (M1 := (rdG c cc b 201 0 (m + w) (mPutM b 1 (mGo c cc w m (SV M)))).2) (v := (rdG c cc b 201 0 (m + w) (mPutM b 1 (mGo c cc w m (SV M)))).1) (md' := m_X9_doneIn) (As := [.int (nI b), .int 0]) (rest := []) dX9_putOn_95 ml_X9_191 mo_X9_doneIn ⟨Nat.le_of_ble_eq_true rfl, Nat.le_of_ble_eq_true rfl⟩ rfl ⟨_, _, rfl⟩ (Nat.le_of_ble_eq_true rfl) rfl rfl (Nat.le_of_ble_eq_true rfl) (l_X9_doneIn_rd_0 hc hcc (b := b) hb (m + w) _ (WM_put hb (WM_go hc w m _ (WM_SV hW))) (by omega)) rfl ?_
      refine V.ist dX9_putOn_98 (by decide) (L' := [(0, .ref 62), (1, .int (nI b)), (2, .int mm), (3, .int (-1)), (4, .int (nI w)), (5, .int ((rdG c cc b 201 0 (m + w) (mPutM b 1 (mGo c cc w m (SV M)))).1))]) rfl rfl ?_
      refine V.iload dX9_putOn_100 rfl rfl ?_
      refine V.sipush (v := 201) dX9_putOn_102 (by decide) rfl ?_
      refine V.icmp_ge (tgt := 129) dX9_putOn_105 rfl rfl (fun c105 => ?_) (fun c105 => ?_)
      · skip
        refine V.iconst (v := -1) dX9_putOn_129 rfl rfl ?_
        refine V.ist_n dX9_putOn_130 rfl (by decide) (L' := [(0, .ref 62), (1, .int (nI b)), (2, .int mm), (3, .int (-1)), (4, .int (nI w)), (5, .int ((rdG c cc b 201 0 (m + w) (mPutM b 1 (mGo c cc w m (SV M)))).1))]) rfl rfl ?_
        refine V.aload_n dX9_putOn_131 rfl rfl rfl ?_
        refine V.callv_v (M1 := SV M) (md' := m_X9_putsBack) (As := []) (rest := []) dX9_putOn_132 ml_X9_188 mo_X9_putsBack ⟨Nat.le_of_ble_eq_true rfl, Nat.le_of_ble_eq_true rfl⟩ rfl ⟨_, _, rfl⟩ (Nat.le_of_ble_eq_true rfl) rfl rfl (Nat.le_of_ble_eq_true rfl) (v_back (rd_off hc 201 0 _ _ (off_put hb (off_go hc w m _ (off_self M))))) rfl ?_
        refine V.inc (v := dI w) dX9_putOn_135 rfl (dI_dec w) (by decide) (L' := [(0, .ref 62), (1, .int (nI b)), (2, .int mm), (3, .int (-1)), (4, .int (dI w)), (5, .int ((rdG c cc b 201 0 (m + w) (mPutM b 1 (mGo c cc w m (SV M)))).1))]) rfl rfl ?_
        refine V.goto (pc' := 63) dX9_putOn_138 rfl ?_
        refine V.loc (L' := [(0, .ref 62), (1, .int (nI b)), (2, .int mm), (3, .int (-1)), (4, .int (dI w))]) (fun zq zh => List.mem_append_left [(5, Value.int ((rdG c cc b 201 0 (m + w) (mPutM b 1 (mGo c cc w m (SV M)))).1))] zh) ?_
        rw [show poG c cc b m mm M (w + 1) = poG c cc b m mm M w from by simp only [poG]; rw [show poT c cc b m w mm M = false from decide_eq_false (fun q => Int32.not_lt.mpr c105 q.2.1)]; rfl]
        exact ih (by omega)
      · skip
        refine V.aload_n dX9_putOn_108 rfl rfl rfl ?_
        refine V.getr dX9_putOn_109 fg_X9_16 rfl rfl rfl ?_
        refine V.iconst (v := 0) dX9_putOn_112 rfl rfl ?_
        refine V.ialdN (j := 0) (v := nI m) dX9_putOn_113 rfl (by decide) (by decide) rfl (by rw [(rd_off hc 201 0 (m + w) _ (off_put hb (off_go hc w m _ (off_self M)))).1 65 (by decide), SV_65 (by decide)]; exact h0) rfl ?_
        refine V.iload dX9_putOn_114 rfl rfl ?_
        refine V.iadd (v := nI (m + w)) dX9_putOn_116 (nI_add _ _) rfl ?_
        refine V.iload dX9_putOn_117 rfl rfl ?_
        refine V.iadd (v := (nI (m + w)) + ((rdG c cc b 201 0 (m + w) (mPutM b 1 (mGo c cc w m (SV M)))).1)) dX9_putOn_119 rfl rfl ?_
        refine V.iload_n dX9_putOn_120 rfl rfl rfl ?_
        refine V.icmp_ne (tgt := 129) dX9_putOn_121 rfl rfl (fun c121 => ?_) (fun c121 => ?_)
        · skip
          refine V.iconst (v := -1) dX9_putOn_129 rfl rfl ?_
          refine V.ist_n dX9_putOn_130 rfl (by decide) (L' := [(0, .ref 62), (1, .int (nI b)), (2, .int mm), (3, .int (-1)), (4, .int (nI w)), (5, .int ((rdG c cc b 201 0 (m + w) (mPutM b 1 (mGo c cc w m (SV M)))).1))]) rfl rfl ?_
          refine V.aload_n dX9_putOn_131 rfl rfl rfl ?_
          refine V.callv_v (M1 := SV M) (md' := m_X9_putsBack) (As := []) (rest := []) dX9_putOn_132 ml_X9_188 mo_X9_putsBack ⟨Nat.le_of_ble_eq_true rfl, Nat.le_of_ble_eq_true rfl⟩ rfl ⟨_, _, rfl⟩ (Nat.le_of_ble_eq_true rfl) rfl rfl (Nat.le_of_ble_eq_true rfl) (v_back (rd_off hc 201 0 _ _ (off_put hb (off_go hc w m _ (off_self M))))) rfl ?_
          refine V.inc (v := dI w) dX9_putOn_135 rfl (dI_dec w) (by decide) (L' := [(0, .ref 62), (1, .int (nI b)), (2, .int mm), (3, .int (-1)), (4, .int (dI w)), (5, .int ((rdG c cc b 201 0 (m + w) (mPutM b 1 (mGo c cc w m (SV M)))).1))]) rfl rfl ?_
          refine V.goto (pc' := 63) dX9_putOn_138 rfl ?_
          refine V.loc (L' := [(0, .ref 62), (1, .int (nI b)), (2, .int mm), (3, .int (-1)), (4, .int (dI w))]) (fun zq zh => List.mem_append_left [(5, Value.int ((rdG c cc b 201 0 (m + w) (mPutM b 1 (mGo c cc w m (SV M)))).1))] zh) ?_
          rw [show poG c cc b m mm M (w + 1) = poG c cc b m mm M w from by simp only [poG]; rw [show poT c cc b m w mm M = false from decide_eq_false (fun q => c121 q.2.2)]; rfl]
          exact ih (by omega)
        · skip
          refine V.iload dX9_putOn_124 rfl rfl ?_
          refine V.goto (pc' := 130) dX9_putOn_126 rfl ?_
          refine V.ist_n dX9_putOn_130 rfl (by decide) (L' := [(0, .ref 62), (1, .int (nI b)), (2, .int mm), (3, .int (nI w)), (4, .int (nI w)), (5, .int ((rdG c cc b 201 0 (m + w) (mPutM b 1 (mGo c cc w m (SV M)))).1))]) rfl rfl ?_
          refine V.aload_n dX9_putOn_131 rfl rfl rfl ?_
          refine V.callv_v (M1 := SV M) (md' := m_X9_putsBack) (As := []) (rest := []) dX9_putOn_132 ml_X9_188 mo_X9_putsBack ⟨Nat.le_of_ble_eq_true rfl, Nat.le_of_ble_eq_true rfl⟩ rfl ⟨_, _, rfl⟩ (Nat.le_of_ble_eq_true rfl) rfl rfl (Nat.le_of_ble_eq_true rfl) (v_back (rd_off hc 201 0 _ _ (off_put hb (off_go hc w m _ (off_self M))))) rfl ?_
          refine V.inc (v := dI w) dX9_putOn_135 rfl (dI_dec w) (by decide) (L' := [(0, .ref 62), (1, .int (nI b)), (2, .int mm), (3, .int (nI w)), (4, .int (dI w)), (5, .int ((rdG c cc b 201 0 (m + w) (mPutM b 1 (mGo c cc w m (SV M)))).1))]) rfl rfl ?_
          refine V.goto (pc' := 63) dX9_putOn_138 rfl ?_
          refine V.loc (L' := [(0, .ref 62), (1, .int (nI b)), (2, .int mm), (3, .int (nI w)), (4, .int (dI w))]) (fun zq zh => List.mem_append_left [(5, Value.int ((rdG c cc b 201 0 (m + w) (mPutM b 1 (mGo c cc w m (SV M)))).1))] zh) ?_
          rw [show poG c cc b m mm M (w + 1) = nI w from by simp only [poG]; rw [show poT c cc b m w mm M = true from decide_eq_true ⟨c83, Int32.not_le.mp c105, c121⟩]; rfl, poR_n w (by omega)]
          exact l_X9_putOn_x mm (SV M) (by omega) w (by omega)
def pPutOn (c cc m : Nat) (x mm : Int32) (M : Mem) : Int32 × Mem := if ¬ (isB c x ∧ rng 0 999 mm) then (-1000001, fdM 0 M) else if ¬ M 63 (20 + 5 * x.toNatClampNeg + 4) = 0 ∨ 999 < m + 260 then (-1000005, fdM 4 M) else poR (poG c cc x.toNatClampNeg m mm M 61) (SV M)
theorem v_X9_putOn {c : Nat} (hc : c ≤ 10) {cc : Nat} (hcc : cc ≤ 12) {m : Nat} (hm : m ≤ 3000) (x mm : Int32) (M : Mem) (hM : M 63 1 = nI c) (h2 : M 63 2 = nI cc) (h0 : M 63 0 = nI m) (hW : WM c cc m M) : V m_X9_putOn 0 [(0, .ref 62), (1, .int x), (2, .int mm)] [] M (RT (some (.int ((pPutOn c cc m x mm M).1))) ((pPutOn c cc m x mm M).2)) := by
  refine V.aload_n dX9_putOn_0 rfl rfl rfl ?_
  refine V.iload_n dX9_putOn_1 rfl rfl rfl ?_
  refine V.callv_i (M1 := M) (v := if isB c x then 1 else 0) (md' := m_X9_isBatch) (As := [.int x]) (rest := []) dX9_putOn_2 ml_X9_66 mo_X9_isBatch ⟨Nat.le_of_ble_eq_true rfl, Nat.le_of_ble_eq_true rfl⟩ rfl ⟨_, _, rfl⟩ (Nat.le_of_ble_eq_true rfl) rfl rfl (Nat.le_of_ble_eq_true rfl) (v_X9_isBatch hc x M hM) rfl ?_
  refine V.ifb_eq (tgt := 20) dX9_putOn_5 rfl rfl (fun c5 => ?_) (fun c5 => ?_)
  · skip
    refine V.aload_n dX9_putOn_20 rfl rfl rfl ?_
    refine V.ldc (v := -1000001) dX9_putOn_21 cn_X9_37 rfl ?_
    refine V.callv_i (M1 := fdM 0 M) (v := -1000001) (md' := m_X9_finds) (As := [.int (-1000001)]) (rest := []) dX9_putOn_23 ml_X9_51 mo_X9_finds ⟨Nat.le_of_ble_eq_true rfl, Nat.le_of_ble_eq_true rfl⟩ rfl ⟨_, _, rfl⟩ (Nat.le_of_ble_eq_true rfl) rfl rfl (Nat.le_of_ble_eq_true rfl) (v_X9_finds (w := 0) (by decide) (-1000001) (by decide +kernel) _) rfl ?_
    exact V.ret dX9_putOn_26 rfl rfl ⟨(by first | (simp (decide := true) [pPutOn, c5]; done) | (simp (decide := true) [pPutOn, c5]; done) | (simp (decide := true) [pPutOn, c5]; done) | (simp_all (decide := true) [pPutOn]; done) | (simp_all (decide := true) [pPutOn, ltF, leF, ltFN, leFN]; done)), (by first | (simp (decide := true) [pPutOn, c5]; done) | (simp (decide := true) [pPutOn, c5]; done) | (simp (decide := true) [pPutOn, c5]; done) | (simp_all (decide := true) [pPutOn]; done) | (simp_all (decide := true) [pPutOn, ltF, leF, ltFN, leFN]; done))⟩
  · skip
    refine V.iload_n dX9_putOn_8 rfl rfl rfl ?_
    refine V.i2l (v := Int32.toInt64 mm) dX9_putOn_9 rfl rfl ?_
    refine V.lconst (v := 0) dX9_putOn_10 rfl rfl ?_
    refine V.ldc2 (v := 999) dX9_putOn_11 cl_X9_80 rfl ?_
    refine V.calls_i (M1 := M) (v := if rng 0 999 mm then 1 else 0) (md' := m_X9_in) (As := [.long (Int32.toInt64 mm), .long 0, .long 999]) (rest := []) dX9_putOn_14 ml_X9_38 mo_X9_in ⟨Nat.le_of_ble_eq_true rfl, Nat.le_of_ble_eq_true rfl⟩ (Nat.le_of_ble_eq_true rfl) rfl rfl (Nat.le_of_ble_eq_true rfl) (v_X9_in (x := mm) (a := 0) (b := 999) rfl rfl _) rfl ?_
    refine V.ifb_ne (tgt := 27) dX9_putOn_17 rfl rfl (fun c17 => ?_) (fun c17 => ?_)
    · skip
      obtain ⟨b, hb, rfl⟩ := of_isB c5
      · have eb : (nI b).toNatClampNeg = b := nI_clamp (by omega)
        refine V.aload_n dX9_putOn_27 rfl rfl rfl ?_
        refine V.iload_n dX9_putOn_28 rfl rfl rfl ?_
        refine V.iconst (v := 4) dX9_putOn_29 rfl rfl ?_
        refine V.callv_i (M1 := M) (v := M 63 (20 + 5 * b + 4)) (md' := m_X9_its) (As := [.int (nI b), .int 4]) (rest := []) dX9_putOn_30 ml_X9_60 mo_X9_its ⟨Nat.le_of_ble_eq_true rfl, Nat.le_of_ble_eq_true rfl⟩ rfl ⟨_, _, rfl⟩ (Nat.le_of_ble_eq_true rfl) rfl rfl (Nat.le_of_ble_eq_true rfl) (v_X9_its (b := b) (w := 4) (by omega) (by omega) _) rfl ?_
        refine V.if_ne (tgt := 46) dX9_putOn_33 rfl rfl (fun c33 => ?_) (fun c33 => ?_)
        · skip
          refine V.aload_n dX9_putOn_46 rfl rfl rfl ?_
          refine V.ldc (v := -1000005) dX9_putOn_47 cn_X9_98 rfl ?_
          refine V.callv_i (M1 := fdM 4 M) (v := -1000005) (md' := m_X9_finds) (As := [.int (-1000005)]) (rest := []) dX9_putOn_49 ml_X9_51 mo_X9_finds ⟨Nat.le_of_ble_eq_true rfl, Nat.le_of_ble_eq_true rfl⟩ rfl ⟨_, _, rfl⟩ (Nat.le_of_ble_eq_true rfl) rfl rfl (Nat.le_of_ble_eq_true rfl) (v_X9_finds (w := 4) (by decide) (-1000005) (by decide +kernel) _) rfl ?_
          exact V.ret dX9_putOn_52 rfl rfl ⟨(by first | (simp (decide := true) [pPutOn, c5, c17, eb, c33]; done) | (simp (decide := true) [pPutOn, c5, c17, eb, c33]; done) | (simp (decide := true) [pPutOn, c5, c17, eb, c33]; done) | (simp_all (decide := true) [pPutOn]; done) | (simp_all (decide := true) [pPutOn, ltF, leF, ltFN, leFN]; done)), (by first | (simp (decide := true) [pPutOn, c5, c17, eb, c33]; done) | (simp (decide := true) [pPutOn, c5, c17, eb, c33]; done) | (simp (decide := true) [pPutOn, c5, c17, eb, c33]; done) | (simp_all (decide := true) [pPutOn]; done) | (simp_all (decide := true) [pPutOn, ltF, leF, ltFN, leFN]; done))⟩
        · skip
          refine V.aload_n dX9_putOn_36 rfl rfl rfl ?_
          refine V.sipush (v := 260) dX9_putOn_37 (by decide) rfl ?_
          refine V.callv_i (M1 := M) (v := if 999 < m + 260 then 1 else 0) (md' := m_X9_isTooLate) (As := [.int 260]) (rest := []) dX9_putOn_40 ml_X9_171 mo_X9_isTooLate ⟨Nat.le_of_ble_eq_true rfl, Nat.le_of_ble_eq_true rfl⟩ rfl ⟨_, _, rfl⟩ (Nat.le_of_ble_eq_true rfl) rfl rfl (Nat.le_of_ble_eq_true rfl) (v_X9_isTooLate (n := 260) (by omega) (by decide) M h0) rfl ?_
          refine V.ifb_eq (tgt := 53) dX9_putOn_43 rfl rfl (fun c43 => ?_) (fun c43 => ?_)
          · skip
            refine V.aload_n dX9_putOn_53 rfl rfl rfl ?_
            refine V.callv_v (M1 := SV M) (md' := m_X9_saves) (As := []) (rest := []) dX9_putOn_54 ml_X9_179 mo_X9_saves ⟨Nat.le_of_ble_eq_true rfl, Nat.le_of_ble_eq_true rfl⟩ rfl ⟨_, _, rfl⟩ (Nat.le_of_ble_eq_true rfl) rfl rfl (Nat.le_of_ble_eq_true rfl) (v_X9_saves M) rfl ?_
            refine V.iconst (v := -1) dX9_putOn_57 rfl rfl ?_
            refine V.ist_n dX9_putOn_58 rfl (by decide) (L' := [(0, .ref 62), (1, .int (nI b)), (2, .int mm), (3, .int (-1))]) rfl rfl ?_
            refine V.bipush (v := 60) dX9_putOn_59 (by decide) rfl ?_
            refine V.ist dX9_putOn_61 (by decide) (L' := [(0, .ref 62), (1, .int (nI b)), (2, .int mm), (3, .int (-1)), (4, .int 60)]) rfl rfl ?_
            have hp : pPutOn c cc m (nI b) mm M = poR (poG c cc b m mm M 61) (SV M) := by simp only [pPutOn, eb]; rw [if_neg (fun q => q ⟨c5, c17⟩), if_neg (fun q => q.elim (fun z => z c33) c43)]
            rw [hp]
            exact l_X9_putOn hc hcc (by omega) hm mm M hM h0 hW 61 (by decide)
          · skip
            refine V.aload_n dX9_putOn_46 rfl rfl rfl ?_
            refine V.ldc (v := -1000005) dX9_putOn_47 cn_X9_98 rfl ?_
            refine V.callv_i (M1 := fdM 4 M) (v := -1000005) (md' := m_X9_finds) (As := [.int (-1000005)]) (rest := []) dX9_putOn_49 ml_X9_51 mo_X9_finds ⟨Nat.le_of_ble_eq_true rfl, Nat.le_of_ble_eq_true rfl⟩ rfl ⟨_, _, rfl⟩ (Nat.le_of_ble_eq_true rfl) rfl rfl (Nat.le_of_ble_eq_true rfl) (v_X9_finds (w := 4) (by decide) (-1000005) (by decide +kernel) _) rfl ?_
            exact V.ret dX9_putOn_52 rfl rfl ⟨(by first | (simp (decide := true) [pPutOn, c5, c17, eb, c33, c43]; done) | (simp (decide := true) [pPutOn, c5, c17, eb, c33, c43]; done) | (simp (decide := true) [pPutOn, c5, c17, eb, c33, c43]; done) | (simp_all (decide := true) [pPutOn]; done) | (simp_all (decide := true) [pPutOn, ltF, leF, ltFN, leFN]; done)), (by first | (simp (decide := true) [pPutOn, c5, c17, eb, c33, c43]; done) | (simp (decide := true) [pPutOn, c5, c17, eb, c33, c43]; done) | (simp (decide := true) [pPutOn, c5, c17, eb, c33, c43]; done) | (simp_all (decide := true) [pPutOn]; done) | (simp_all (decide := true) [pPutOn, ltF, leF, ltFN, leFN]; done))⟩
    · skip
      refine V.aload_n dX9_putOn_20 rfl rfl rfl ?_
      refine V.ldc (v := -1000001) dX9_putOn_21 cn_X9_37 rfl ?_
      refine V.callv_i (M1 := fdM 0 M) (v := -1000001) (md' := m_X9_finds) (As := [.int (-1000001)]) (rest := []) dX9_putOn_23 ml_X9_51 mo_X9_finds ⟨Nat.le_of_ble_eq_true rfl, Nat.le_of_ble_eq_true rfl⟩ rfl ⟨_, _, rfl⟩ (Nat.le_of_ble_eq_true rfl) rfl rfl (Nat.le_of_ble_eq_true rfl) (v_X9_finds (w := 0) (by decide) (-1000001) (by decide +kernel) _) rfl ?_
      exact V.ret dX9_putOn_26 rfl rfl ⟨(by first | (simp (decide := true) [pPutOn, c5, c17]; done) | (simp (decide := true) [pPutOn, c5, c17]; done) | (simp (decide := true) [pPutOn, c5, c17]; done) | (simp_all (decide := true) [pPutOn]; done) | (simp_all (decide := true) [pPutOn, ltF, leF, ltFN, leFN]; done)), (by first | (simp (decide := true) [pPutOn, c5, c17]; done) | (simp (decide := true) [pPutOn, c5, c17]; done) | (simp (decide := true) [pPutOn, c5, c17]; done) | (simp_all (decide := true) [pPutOn]; done) | (simp_all (decide := true) [pPutOn, ltF, leF, ltFN, leFN]; done))⟩
def hiG (c cc b : Nat) : Nat → Nat → Bool → Mem → Bool × Mem
  | 0, _, ok, M => (ok, M)
  | _ + 1, _, true, M => (true, M)
  | n + 1, m, false, M => hiG c cc b n (m + 1) (decide (readyF (mMin c cc m M 63 (20 + 5 * b)) ≤ mMin c cc m M 63 (20 + 5 * b + 2) ∧ ¬ mMin c cc m M 63 (20 + 5 * b + 4) = 4)) (mMin c cc m M)
theorem hi_off {c cc b : Nat} (hc : c ≤ 10) {M : Mem} : ∀ (n m : Nat) (ok : Bool) (M' : Mem), Off M' M → Off (hiG c cc b n m ok M').2 M := by
  intro n
  induction n with
  | zero => intro m ok M' h; exact h
  | succ n ih =>
    intro m ok M' h
    cases ok with
    | true => exact h
    | false => exact ih _ _ _ (off_min hc h)
def oI : Bool → Int32
  | true => 1
  | false => 0
theorem l_X9_heatFor_in {c : Nat} (hc : c ≤ 10) {cc : Nat} (hcc : cc ≤ 12) {k b h : Nat} (hk : k ≤ 120) (hb : b < 10) (Q : Option Value → Mem → Prop) : ∀ (n i m : Nat) (ok : Bool) (M : Mem), i + n = k → WM c cc m M → m + n ≤ 5000 → V m_X9_heatFor 129 [(0, .ref 62), (1, .int (nI b)), (2, .int (nI k)), (3, .int (-1)), (4, .int (nI h)), (5, .int (oI (hiG c cc b n m ok M).1))] [] (hiG c cc b n m ok M).2 Q → V m_X9_heatFor 83 [(0, .ref 62), (1, .int (nI b)), (2, .int (nI k)), (3, .int (-1)), (4, .int (nI h)), (5, .int (oI ok)), (6, .int (nI i))] [] M Q := by
  intro n
  induction n with
  | zero =>
    intro i m ok M hi hW hmn K
    rcases ok with _ | _
    · refine V.iload dX9_heatFor_83 rfl rfl ?_
      refine V.iload_n dX9_heatFor_85 rfl rfl rfl ?_
      refine V.icmp_ge (tgt := 129) dX9_heatFor_86 rfl rfl (fun c86 => ?_) (fun c86 => absurd ((nI_leI (a := k) (b := i) (by omega) (by omega)).mpr (by omega)) c86)
      have c86 : k ≤ i := (nI_leI (a := k) (b := i) (by omega) (by omega)).mp c86
      refine V.loc (L' := [(0, .ref 62), (1, .int (nI b)), (2, .int (nI k)), (3, .int (-1)), (4, .int (nI h)), (5, .int 0)]) (fun zq zh => List.mem_append_left [(6, Value.int (nI i))] zh) ?_
      exact K
    · refine V.iload dX9_heatFor_83 rfl rfl ?_
      refine V.iload_n dX9_heatFor_85 rfl rfl rfl ?_
      refine V.icmp_ge (tgt := 129) dX9_heatFor_86 rfl rfl (fun c86 => ?_) (fun c86 => absurd ((nI_leI (a := k) (b := i) (by omega) (by omega)).mpr (by omega)) c86)
      have c86 : k ≤ i := (nI_leI (a := k) (b := i) (by omega) (by omega)).mp c86
      refine V.loc (L' := [(0, .ref 62), (1, .int (nI b)), (2, .int (nI k)), (3, .int (-1)), (4, .int (nI h)), (5, .int 1)]) (fun zq zh => List.mem_append_left [(6, Value.int (nI i))] zh) ?_
      exact K
  | succ n ih =>
    intro i m ok M hi hW hmn K
    rcases ok with _ | _
    · refine V.iload dX9_heatFor_83 rfl rfl ?_
      refine V.iload_n dX9_heatFor_85 rfl rfl rfl ?_
      refine V.icmp_ge (tgt := 129) dX9_heatFor_86 rfl rfl (fun c86 => absurd ((nI_leI (a := k) (b := i) (by omega) (by omega)).mp c86) (by omega)) (fun c86 => ?_)
      have c86 : ¬ k ≤ i := fun zq => c86 ((nI_leI (a := k) (b := i) (by omega) (by omega)).mpr zq)
      refine V.iload dX9_heatFor_89 rfl rfl ?_
      refine V.if_ne (tgt := 129) dX9_heatFor_91 rfl rfl (fun c91 => absurd c91 (by decide)) (fun _ => ?_)
      refine V.aload_n dX9_heatFor_94 rfl rfl rfl ?_
      refine V.callv_v (M1 := mMin c cc m M) (md' := m_X9_minute) (As := []) (rest := []) dX9_heatFor_95 ml_X9_166 mo_X9_minute ⟨Nat.le_of_ble_eq_true rfl, Nat.le_of_ble_eq_true rfl⟩ rfl ⟨_, _, rfl⟩ (Nat.le_of_ble_eq_true rfl) rfl rfl (Nat.le_of_ble_eq_true rfl) (v_X9_minute hc hcc (by omega) M hW) rfl ?_
      refine V.aload_n dX9_heatFor_98 rfl rfl rfl ?_
      refine V.iload_n dX9_heatFor_99 rfl rfl rfl ?_
      refine V.callv_i (M1 := mMin c cc m M) (v := if readyF ((mMin c cc m M) 63 (20 + 5 * b)) ≤ (mMin c cc m M) 63 (20 + 5 * b + 2) then 1 else 0) (md' := m_X9_isReady) (As := [.int (nI b)]) (rest := []) dX9_heatFor_100 ml_X9_114 mo_X9_isReady ⟨Nat.le_of_ble_eq_true rfl, Nat.le_of_ble_eq_true rfl⟩ rfl ⟨_, _, rfl⟩ (Nat.le_of_ble_eq_true rfl) rfl rfl (Nat.le_of_ble_eq_true rfl) (v_X9_isReady (b := b) (by omega) _) rfl ?_
      refine V.ifb_eq (tgt := 120) dX9_heatFor_103 rfl rfl (fun c103 => ?_) (fun c103 => ?_)
      · skip
        refine V.iconst (v := 0) dX9_heatFor_120 rfl rfl ?_
        refine V.ist dX9_heatFor_121 (by decide) (L' := [(0, .ref 62), (1, .int (nI b)), (2, .int (nI k)), (3, .int (-1)), (4, .int (nI h)), (5, .int 0), (6, .int (nI i))]) rfl rfl ?_
        refine V.inc (v := nI (i + 1)) dX9_heatFor_123 rfl (nI_1 _) (by decide) (L' := [(0, .ref 62), (1, .int (nI b)), (2, .int (nI k)), (3, .int (-1)), (4, .int (nI h)), (5, .int 0), (6, .int (nI (i + 1)))]) rfl rfl ?_
        refine V.goto (pc' := 83) dX9_heatFor_126 rfl ?_
        have e1 : hiG c cc b (n + 1) m false M = hiG c cc b n (m + 1) false (mMin c cc m M) := by simp only [hiG]; rw [decide_eq_false (fun q => c103 q.1)]
        rw [e1] at K
        exact ih (i + 1) (m + 1) false _ (by omega) (WM_min hc hW) (by omega) K
      · skip
        refine V.aload_n dX9_heatFor_106 rfl rfl rfl ?_
        refine V.iload_n dX9_heatFor_107 rfl rfl rfl ?_
        refine V.iconst (v := 4) dX9_heatFor_108 rfl rfl ?_
        refine V.callv_i (M1 := mMin c cc m M) (v := (mMin c cc m M) 63 (20 + 5 * b + 4)) (md' := m_X9_its) (As := [.int (nI b), .int 4]) (rest := []) dX9_heatFor_109 ml_X9_60 mo_X9_its ⟨Nat.le_of_ble_eq_true rfl, Nat.le_of_ble_eq_true rfl⟩ rfl ⟨_, _, rfl⟩ (Nat.le_of_ble_eq_true rfl) rfl rfl (Nat.le_of_ble_eq_true rfl) (v_X9_its (b := b) (w := 4) (by omega) (by omega) _) rfl ?_
        refine V.iconst (v := 4) dX9_heatFor_112 rfl rfl ?_
        refine V.icmp_eq (tgt := 120) dX9_heatFor_113 rfl rfl (fun c113 => ?_) (fun c113 => ?_)
        · skip
          refine V.iconst (v := 0) dX9_heatFor_120 rfl rfl ?_
          refine V.ist dX9_heatFor_121 (by decide) (L' := [(0, .ref 62), (1, .int (nI b)), (2, .int (nI k)), (3, .int (-1)), (4, .int (nI h)), (5, .int 0), (6, .int (nI i))]) rfl rfl ?_
          refine V.inc (v := nI (i + 1)) dX9_heatFor_123 rfl (nI_1 _) (by decide) (L' := [(0, .ref 62), (1, .int (nI b)), (2, .int (nI k)), (3, .int (-1)), (4, .int (nI h)), (5, .int 0), (6, .int (nI (i + 1)))]) rfl rfl ?_
          refine V.goto (pc' := 83) dX9_heatFor_126 rfl ?_
          have e1 : hiG c cc b (n + 1) m false M = hiG c cc b n (m + 1) false (mMin c cc m M) := by simp only [hiG]; rw [decide_eq_false (fun q => q.2 c113)]
          rw [e1] at K
          exact ih (i + 1) (m + 1) false _ (by omega) (WM_min hc hW) (by omega) K
        · skip
          refine V.iconst (v := 1) dX9_heatFor_116 rfl rfl ?_
          refine V.goto (pc' := 121) dX9_heatFor_117 rfl ?_
          refine V.ist dX9_heatFor_121 (by decide) (L' := [(0, .ref 62), (1, .int (nI b)), (2, .int (nI k)), (3, .int (-1)), (4, .int (nI h)), (5, .int 1), (6, .int (nI i))]) rfl rfl ?_
          refine V.inc (v := nI (i + 1)) dX9_heatFor_123 rfl (nI_1 _) (by decide) (L' := [(0, .ref 62), (1, .int (nI b)), (2, .int (nI k)), (3, .int (-1)), (4, .int (nI h)), (5, .int 1), (6, .int (nI (i + 1)))]) rfl rfl ?_
          refine V.goto (pc' := 83) dX9_heatFor_126 rfl ?_
          have e1 : hiG c cc b (n + 1) m false M = hiG c cc b n (m + 1) true (mMin c cc m M) := by simp only [hiG]; rw [decide_eq_true ⟨c103, c113⟩]
          rw [e1] at K
          exact ih (i + 1) (m + 1) true _ (by omega) (WM_min hc hW) (by omega) K
    · refine V.iload dX9_heatFor_83 rfl rfl ?_
      refine V.iload_n dX9_heatFor_85 rfl rfl rfl ?_
      refine V.icmp_ge (tgt := 129) dX9_heatFor_86 rfl rfl (fun c86 => absurd ((nI_leI (a := k) (b := i) (by omega) (by omega)).mp c86) (by omega)) (fun c86 => ?_)
      have c86 : ¬ k ≤ i := fun zq => c86 ((nI_leI (a := k) (b := i) (by omega) (by omega)).mpr zq)
      refine V.iload dX9_heatFor_89 rfl rfl ?_
      refine V.if_ne (tgt := 129) dX9_heatFor_91 rfl rfl (fun _ => ?_) (fun c91 => absurd c91 (by decide))
      refine V.loc (L' := [(0, .ref 62), (1, .int (nI b)), (2, .int (nI k)), (3, .int (-1)), (4, .int (nI h)), (5, .int 1)]) (fun zq zh => List.mem_append_left [(6, Value.int (nI i))] zh) ?_
      exact K
def hoT (c cc b k m h : Nat) (M : Mem) : Bool × Mem := hiG c cc b k m (decide (readyF (ms (SV M) 63 4 (nI h) 63 (20 + 5 * b)) ≤ ms (SV M) 63 4 (nI h) 63 (20 + 5 * b + 2))) (ms (SV M) 63 4 (nI h))
def hoG (c cc b k m : Nat) (M : Mem) : Nat → Nat → Int32
  | 0, _ => -1
  | n + 1, h => if (hoT c cc b k m h M).1 then nI h else hoG c cc b k m M n (h + 1)
theorem oI_d (P : Prop) [Decidable P] : (if P then (1 : Int32) else 0) = oI (decide P) := by
  by_cases h : P <;> simp [h, oI]
theorem l_X9_heatFor_x {b k : Nat} (M : Mem) {y : Nat} (hy : y < 100) {h : Nat} (hh : h < 100) : V m_X9_heatFor 54 [(0, .ref 62), (1, .int (nI b)), (2, .int (nI k)), (3, .int (nI y)), (4, .int (nI h))] [] M (RT (some (.int (nI y))) M) := by
  refine V.iload dX9_heatFor_54 rfl rfl ?_
  refine V.bipush (v := 21) dX9_heatFor_56 (by decide) rfl ?_
  refine V.icmp_ge (tgt := 151) dX9_heatFor_58 rfl rfl (fun c58 => ?_) (fun c58 => ?_)
  · have c58 : 21 ≤ h := (nI_leI (a := 21) (b := h) (by omega) (by omega)).mp c58
    refine V.iload_n dX9_heatFor_151 rfl rfl rfl ?_
    refine V.if_ge (tgt := 164) dX9_heatFor_152 rfl rfl (fun c152 => ?_) (fun c152 => absurd ((nI_leI (a := 0) (b := y) (by omega) (by omega)).mpr (by omega)) c152)
    have c152 : 0 ≤ y := (nI_leI (a := 0) (b := y) (by omega) (by omega)).mp c152
    refine V.iload_n dX9_heatFor_164 rfl rfl rfl ?_
    exact V.ret dX9_heatFor_165 rfl rfl ⟨rfl, rfl⟩
  · have c58 : ¬ 21 ≤ h := fun zq => c58 ((nI_leI (a := 21) (b := h) (by omega) (by omega)).mpr zq)
    refine V.iload_n dX9_heatFor_61 rfl rfl rfl ?_
    refine V.if_ge (tgt := 151) dX9_heatFor_62 rfl rfl (fun c62 => ?_) (fun c62 => absurd ((nI_leI (a := 0) (b := y) (by omega) (by omega)).mpr (by omega)) c62)
    have c62 : 0 ≤ y := (nI_leI (a := 0) (b := y) (by omega) (by omega)).mp c62
    refine V.iload_n dX9_heatFor_151 rfl rfl rfl ?_
    refine V.if_ge (tgt := 164) dX9_heatFor_152 rfl rfl (fun c152 => ?_) (fun c152 => absurd ((nI_leI (a := 0) (b := y) (by omega) (by omega)).mpr (by omega)) c152)
    have c152 : 0 ≤ y := (nI_leI (a := 0) (b := y) (by omega) (by omega)).mp c152
    refine V.iload_n dX9_heatFor_164 rfl rfl rfl ?_
    exact V.ret dX9_heatFor_165 rfl rfl ⟨rfl, rfl⟩
theorem l_X9_heatFor {c : Nat} (hc : c ≤ 10) {cc : Nat} (hcc : cc ≤ 12) {k b m : Nat} (hk : k ≤ 120) (hb : b < 10) (hm : m ≤ 3000) (M : Mem) (hW : ∀ h, h < 21 → WM c cc m (ms (SV M) 63 4 (nI h))) : ∀ n h, h + n = 21 → V m_X9_heatFor 54 [(0, .ref 62), (1, .int (nI b)), (2, .int (nI k)), (3, .int (-1)), (4, .int (nI h))] [] (SV M) (RT (some (.int (poR (hoG c cc b k m M n h) (SV M)).1)) (poR (hoG c cc b k m M n h) (SV M)).2) := by
  intro n
  induction n with
  | zero =>
    intro h hh
    refine V.iload dX9_heatFor_54 rfl rfl ?_
    refine V.bipush (v := 21) dX9_heatFor_56 (by decide) rfl ?_
    refine V.icmp_ge (tgt := 151) dX9_heatFor_58 rfl rfl (fun c58 => ?_) (fun c58 => absurd ((nI_leI (a := 21) (b := h) (by omega) (by omega)).mpr (by omega)) c58)
    have c58 : 21 ≤ h := (nI_leI (a := 21) (b := h) (by omega) (by omega)).mp c58
    refine V.iload_n dX9_heatFor_151 rfl rfl rfl ?_
    refine V.if_ge (tgt := 164) dX9_heatFor_152 rfl rfl (fun c152 => absurd c152 (by decide)) (fun _ => ?_)
    refine V.aload_n dX9_heatFor_155 rfl rfl rfl ?_
    refine V.ldc (v := -1000004) dX9_heatFor_156 cn_X9_195 rfl ?_
    refine V.callv_i (M1 := fdM 3 (SV M)) (v := -1000004) (md' := m_X9_finds) (As := [.int (-1000004)]) (rest := []) dX9_heatFor_158 ml_X9_51 mo_X9_finds ⟨Nat.le_of_ble_eq_true rfl, Nat.le_of_ble_eq_true rfl⟩ rfl ⟨_, _, rfl⟩ (Nat.le_of_ble_eq_true rfl) rfl rfl (Nat.le_of_ble_eq_true rfl) (v_X9_finds (w := 3) (by decide) (-1000004) (by decide +kernel) _) rfl ?_
    refine V.goto (pc' := 165) dX9_heatFor_161 rfl ?_
    exact V.ret dX9_heatFor_165 rfl rfl ⟨(by simp [hoG, poR_m]), (by simp [hoG, poR_m])⟩
  | succ n ih =>
    intro h hh
    refine V.iload dX9_heatFor_54 rfl rfl ?_
    refine V.bipush (v := 21) dX9_heatFor_56 (by decide) rfl ?_
    refine V.icmp_ge (tgt := 151) dX9_heatFor_58 rfl rfl (fun c58 => absurd ((nI_leI (a := 21) (b := h) (by omega) (by omega)).mp c58) (by omega)) (fun c58 => ?_)
    have c58 : ¬ 21 ≤ h := fun zq => c58 ((nI_leI (a := 21) (b := h) (by omega) (by omega)).mpr zq)
    refine V.iload_n dX9_heatFor_61 rfl rfl rfl ?_
    refine V.if_ge (tgt := 151) dX9_heatFor_62 rfl rfl (fun c62 => absurd c62 (by decide)) (fun _ => ?_)
    refine V.aload_n dX9_heatFor_65 rfl rfl rfl ?_
    refine V.getr dX9_heatFor_66 fg_X9_7 rfl rfl rfl ?_
    refine V.iconst (v := 4) dX9_heatFor_69 rfl rfl ?_
    refine V.iload dX9_heatFor_70 rfl rfl ?_
    refine V.iastN (j := 4) dX9_heatFor_72 rfl (by decide) (by decide) rfl (M' := (ms (SV M) 63 4 (nI h))) rfl rfl ?_
    refine V.aload_n dX9_heatFor_73 rfl rfl rfl ?_
    refine V.iload_n dX9_heatFor_74 rfl rfl rfl ?_
    refine V.callv_i (M1 := (ms (SV M) 63 4 (nI h))) (v := oI (decide (readyF (ms (SV M) 63 4 (nI h) 63 (20 + 5 * b)) ≤ ms (SV M) 63 4 (nI h) 63 (20 + 5 * b + 2)))) (md' := m_X9_isReady) (As := [.int (nI b)]) (rest := []) dX9_heatFor_75 ml_X9_114 mo_X9_isReady ⟨Nat.le_of_ble_eq_true rfl, Nat.le_of_ble_eq_true rfl⟩ rfl ⟨_, _, rfl⟩ (Nat.le_of_ble_eq_true rfl) rfl rfl (Nat.le_of_ble_eq_true rfl) (by have hz := v_X9_isReady (b := b) hb (ms (SV M) 63 4 (nI h)); rw [show (if readyF (ms (SV M) 63 4 (nI h) 63 (20 + 5 * b)) ≤ ms (SV M) 63 4 (nI h) 63 (20 + 5 * b + 2) then (1 : Int32) else 0) = oI (decide (readyF (ms (SV M) 63 4 (nI h) 63 (20 + 5 * b)) ≤ ms (SV M) 63 4 (nI h) 63 (20 + 5 * b + 2))) from oI_d _] at hz; exact hz) rfl ?_
    refine V.ist dX9_heatFor_78 (by decide) (L' := [(0, .ref 62), (1, .int (nI b)), (2, .int (nI k)), (3, .int (-1)), (4, .int (nI h)), (5, .int (oI (decide (readyF (ms (SV M) 63 4 (nI h) 63 (20 + 5 * b)) ≤ ms (SV M) 63 4 (nI h) 63 (20 + 5 * b + 2)))))]) rfl rfl ?_
    refine V.iconst (v := 0) dX9_heatFor_80 rfl rfl ?_
    refine V.ist dX9_heatFor_81 (by decide) (L' := [(0, .ref 62), (1, .int (nI b)), (2, .int (nI k)), (3, .int (-1)), (4, .int (nI h)), (5, .int (oI (decide (readyF (ms (SV M) 63 4 (nI h) 63 (20 + 5 * b)) ≤ ms (SV M) 63 4 (nI h) 63 (20 + 5 * b + 2))))), (6, .int 0)]) rfl rfl ?_
    refine l_X9_heatFor_in hc hcc hk hb _ k 0 m (decide (readyF (ms (SV M) 63 4 (nI h) 63 (20 + 5 * b)) ≤ ms (SV M) 63 4 (nI h) 63 (20 + 5 * b + 2))) _ (by omega) (hW h (by omega)) (by omega) ?_
    show V m_X9_heatFor 129 [(0, .ref 62), (1, .int (nI b)), (2, .int (nI k)), (3, .int (-1)), (4, .int (nI h)), (5, .int (oI (hoT c cc b k m h M).1))] [] (hoT c cc b k m h M).2 _
    rcases hok : (hoT c cc b k m h M).1 with _ | _
    · refine V.iload dX9_heatFor_129 rfl rfl ?_
      refine V.if_eq (tgt := 139) dX9_heatFor_131 rfl rfl (fun _ => ?_) (fun c131 => absurd c131 (by decide))
      refine V.iconst (v := -1) dX9_heatFor_139 rfl rfl ?_
      refine V.ist_n dX9_heatFor_140 rfl (by decide) (L' := [(0, .ref 62), (1, .int (nI b)), (2, .int (nI k)), (3, .int (-1)), (4, .int (nI h)), (5, .int 0)]) rfl rfl ?_
      refine V.aload_n dX9_heatFor_141 rfl rfl rfl ?_
      refine V.callv_v (M1 := SV M) (md' := m_X9_putsBack) (As := []) (rest := []) dX9_heatFor_142 ml_X9_188 mo_X9_putsBack ⟨Nat.le_of_ble_eq_true rfl, Nat.le_of_ble_eq_true rfl⟩ rfl ⟨_, _, rfl⟩ (Nat.le_of_ble_eq_true rfl) rfl rfl (Nat.le_of_ble_eq_true rfl) (v_back (by unfold hoT; exact hi_off hc k m _ _ (off_ms (by decide) (off_self M)))) rfl ?_
      refine V.inc (v := nI (h + 1)) dX9_heatFor_145 rfl (nI_1 _) (by decide) (L' := [(0, .ref 62), (1, .int (nI b)), (2, .int (nI k)), (3, .int (-1)), (4, .int (nI (h + 1))), (5, .int 0)]) rfl rfl ?_
      refine V.goto (pc' := 54) dX9_heatFor_148 rfl ?_
      refine V.loc (L' := [(0, .ref 62), (1, .int (nI b)), (2, .int (nI k)), (3, .int (-1)), (4, .int (nI (h + 1)))]) (fun zq zh => List.mem_append_left [(5, Value.int 0)] zh) ?_
      rw [show hoG c cc b k m M (n + 1) h = hoG c cc b k m M n (h + 1) from by simp only [hoG]; rw [hok]; rfl]
      exact ih (h + 1) (by omega)
    · refine V.iload dX9_heatFor_129 rfl rfl ?_
      refine V.if_eq (tgt := 139) dX9_heatFor_131 rfl rfl (fun c131 => absurd c131 (by decide)) (fun _ => ?_)
      refine V.iload dX9_heatFor_134 rfl rfl ?_
      refine V.goto (pc' := 140) dX9_heatFor_136 rfl ?_
      refine V.ist_n dX9_heatFor_140 rfl (by decide) (L' := [(0, .ref 62), (1, .int (nI b)), (2, .int (nI k)), (3, .int (nI h)), (4, .int (nI h)), (5, .int 1)]) rfl rfl ?_
      refine V.aload_n dX9_heatFor_141 rfl rfl rfl ?_
      refine V.callv_v (M1 := SV M) (md' := m_X9_putsBack) (As := []) (rest := []) dX9_heatFor_142 ml_X9_188 mo_X9_putsBack ⟨Nat.le_of_ble_eq_true rfl, Nat.le_of_ble_eq_true rfl⟩ rfl ⟨_, _, rfl⟩ (Nat.le_of_ble_eq_true rfl) rfl rfl (Nat.le_of_ble_eq_true rfl) (v_back (by unfold hoT; exact hi_off hc k m _ _ (off_ms (by decide) (off_self M)))) rfl ?_
      refine V.inc (v := nI (h + 1)) dX9_heatFor_145 rfl (nI_1 _) (by decide) (L' := [(0, .ref 62), (1, .int (nI b)), (2, .int (nI k)), (3, .int (nI h)), (4, .int (nI (h + 1))), (5, .int 1)]) rfl rfl ?_
      refine V.goto (pc' := 54) dX9_heatFor_148 rfl ?_
      refine V.loc (L' := [(0, .ref 62), (1, .int (nI b)), (2, .int (nI k)), (3, .int (nI h)), (4, .int (nI (h + 1)))]) (fun zq zh => List.mem_append_left [(5, Value.int 1)] zh) ?_
      rw [show hoG c cc b k m M (n + 1) h = nI h from by simp only [hoG]; rw [hok]; rfl, poR_n h (by omega)]
      exact l_X9_heatFor_x (SV M) (by omega) (by omega)
def pHeatFor (c cc m : Nat) (x n : Int32) (M : Mem) : Int32 × Mem := if ¬ (isB c x ∧ rng 1 120 n) then (-1000001, fdM 0 M) else if ¬ (M 63 (20 + 5 * x.toNatClampNeg + 4) = 1 ∨ M 63 (20 + 5 * x.toNatClampNeg + 4) = 2) ∨ 999 < m + n.toNatClampNeg then (-1000005, fdM 4 M) else poR (hoG c cc x.toNatClampNeg n.toNatClampNeg m M 21 0) (SV M)
theorem v_X9_heatFor {c : Nat} (hc : c ≤ 10) {cc : Nat} (hcc : cc ≤ 12) {m : Nat} (hm : m ≤ 3000) (x n : Int32) (M : Mem) (hM : M 63 1 = nI c) (h2 : M 63 2 = nI cc) (h0 : M 63 0 = nI m) (hW : ∀ h, h < 21 → WM c cc m (ms (SV M) 63 4 (nI h))) : V m_X9_heatFor 0 [(0, .ref 62), (1, .int x), (2, .int n)] [] M (RT (some (.int ((pHeatFor c cc m x n M).1))) ((pHeatFor c cc m x n M).2)) := by
  refine V.aload_n dX9_heatFor_0 rfl rfl rfl ?_
  refine V.iload_n dX9_heatFor_1 rfl rfl rfl ?_
  refine V.callv_i (M1 := M) (v := if isB c x then 1 else 0) (md' := m_X9_isBatch) (As := [.int x]) (rest := []) dX9_heatFor_2 ml_X9_66 mo_X9_isBatch ⟨Nat.le_of_ble_eq_true rfl, Nat.le_of_ble_eq_true rfl⟩ rfl ⟨_, _, rfl⟩ (Nat.le_of_ble_eq_true rfl) rfl rfl (Nat.le_of_ble_eq_true rfl) (v_X9_isBatch hc x M hM) rfl ?_
  refine V.ifb_eq (tgt := 15) dX9_heatFor_5 rfl rfl (fun c5 => ?_) (fun c5 => ?_)
  · skip
    refine V.aload_n dX9_heatFor_15 rfl rfl rfl ?_
    refine V.ldc (v := -1000001) dX9_heatFor_16 cn_X9_37 rfl ?_
    refine V.callv_i (M1 := fdM 0 M) (v := -1000001) (md' := m_X9_finds) (As := [.int (-1000001)]) (rest := []) dX9_heatFor_18 ml_X9_51 mo_X9_finds ⟨Nat.le_of_ble_eq_true rfl, Nat.le_of_ble_eq_true rfl⟩ rfl ⟨_, _, rfl⟩ (Nat.le_of_ble_eq_true rfl) rfl rfl (Nat.le_of_ble_eq_true rfl) (v_X9_finds (w := 0) (by decide) (-1000001) (by decide +kernel) _) rfl ?_
    exact V.ret dX9_heatFor_21 rfl rfl ⟨(by first | (simp (decide := true) [pHeatFor, c5]; done) | (simp (decide := true) [pHeatFor, c5]; done) | (simp (decide := true) [pHeatFor, c5]; done) | (simp_all (decide := true) [pHeatFor]; done) | (simp_all (decide := true) [pHeatFor, ltF, leF, ltFN, leFN]; done)), (by first | (simp (decide := true) [pHeatFor, c5]; done) | (simp (decide := true) [pHeatFor, c5]; done) | (simp (decide := true) [pHeatFor, c5]; done) | (simp_all (decide := true) [pHeatFor]; done) | (simp_all (decide := true) [pHeatFor, ltF, leF, ltFN, leFN]; done))⟩
  · skip
    refine V.iload_n dX9_heatFor_8 rfl rfl rfl ?_
    refine V.calls_i (M1 := M) (v := if rng 1 120 n then 1 else 0) (md' := m_X9_isSpan) (As := [.int n]) (rest := []) dX9_heatFor_9 ml_X9_199 mo_X9_isSpan ⟨Nat.le_of_ble_eq_true rfl, Nat.le_of_ble_eq_true rfl⟩ (Nat.le_of_ble_eq_true rfl) rfl rfl (Nat.le_of_ble_eq_true rfl) (v_X9_isSpan n _) rfl ?_
    refine V.ifb_ne (tgt := 22) dX9_heatFor_12 rfl rfl (fun c12 => ?_) (fun c12 => ?_)
    · skip
      obtain ⟨b, hb, rfl⟩ := of_isB c5
      · have eb : (nI b).toNatClampNeg = b := nI_clamp (by omega)
        obtain ⟨k, hk, rfl⟩ := of_rng1 (b := 120) c12
        have ek : (nI k).toNatClampNeg = k := nI_clamp (by omega)
        refine V.aload_n dX9_heatFor_22 rfl rfl rfl ?_
        refine V.iload_n dX9_heatFor_23 rfl rfl rfl ?_
        refine V.callv_i (M1 := M) (v := if M 63 (20 + 5 * b + 4) = 1 ∨ M 63 (20 + 5 * b + 4) = 2 then 1 else 0) (md' := m_X9_isRoasting) (As := [.int (nI b)]) (rest := []) dX9_heatFor_24 ml_X9_202 mo_X9_isRoasting ⟨Nat.le_of_ble_eq_true rfl, Nat.le_of_ble_eq_true rfl⟩ rfl ⟨_, _, rfl⟩ (Nat.le_of_ble_eq_true rfl) rfl rfl (Nat.le_of_ble_eq_true rfl) (v_X9_isRoasting (b := b) (by omega) _) rfl ?_
        refine V.ifb_eq (tgt := 38) dX9_heatFor_27 rfl rfl (fun c27 => ?_) (fun c27 => ?_)
        · skip
          refine V.aload_n dX9_heatFor_38 rfl rfl rfl ?_
          refine V.ldc (v := -1000005) dX9_heatFor_39 cn_X9_98 rfl ?_
          refine V.callv_i (M1 := fdM 4 M) (v := -1000005) (md' := m_X9_finds) (As := [.int (-1000005)]) (rest := []) dX9_heatFor_41 ml_X9_51 mo_X9_finds ⟨Nat.le_of_ble_eq_true rfl, Nat.le_of_ble_eq_true rfl⟩ rfl ⟨_, _, rfl⟩ (Nat.le_of_ble_eq_true rfl) rfl rfl (Nat.le_of_ble_eq_true rfl) (v_X9_finds (w := 4) (by decide) (-1000005) (by decide +kernel) _) rfl ?_
          exact V.ret dX9_heatFor_44 rfl rfl ⟨(by first | (simp (decide := true) [pHeatFor, c5, c12, eb, ek, c27]; done) | (simp (decide := true) [pHeatFor, c5, c12, eb, ek, c27]; done) | (simp (decide := true) [pHeatFor, c5, c12, eb, ek, c27]; done) | (simp_all (decide := true) [pHeatFor]; done) | (simp_all (decide := true) [pHeatFor, ltF, leF, ltFN, leFN]; done)), (by first | (simp (decide := true) [pHeatFor, c5, c12, eb, ek, c27]; done) | (simp (decide := true) [pHeatFor, c5, c12, eb, ek, c27]; done) | (simp (decide := true) [pHeatFor, c5, c12, eb, ek, c27]; done) | (simp_all (decide := true) [pHeatFor]; done) | (simp_all (decide := true) [pHeatFor, ltF, leF, ltFN, leFN]; done))⟩
        · skip
          refine V.aload_n dX9_heatFor_30 rfl rfl rfl ?_
          refine V.iload_n dX9_heatFor_31 rfl rfl rfl ?_
          refine V.callv_i (M1 := M) (v := if 999 < m + k then 1 else 0) (md' := m_X9_isTooLate) (As := [.int (nI k)]) (rest := []) dX9_heatFor_32 ml_X9_171 mo_X9_isTooLate ⟨Nat.le_of_ble_eq_true rfl, Nat.le_of_ble_eq_true rfl⟩ rfl ⟨_, _, rfl⟩ (Nat.le_of_ble_eq_true rfl) rfl rfl (Nat.le_of_ble_eq_true rfl) (v_X9_isTooLate (by omega) (by omega) M h0) rfl ?_
          refine V.ifb_eq (tgt := 45) dX9_heatFor_35 rfl rfl (fun c35 => ?_) (fun c35 => ?_)
          · skip
            refine V.aload_n dX9_heatFor_45 rfl rfl rfl ?_
            refine V.callv_v (M1 := SV M) (md' := m_X9_saves) (As := []) (rest := []) dX9_heatFor_46 ml_X9_179 mo_X9_saves ⟨Nat.le_of_ble_eq_true rfl, Nat.le_of_ble_eq_true rfl⟩ rfl ⟨_, _, rfl⟩ (Nat.le_of_ble_eq_true rfl) rfl rfl (Nat.le_of_ble_eq_true rfl) (v_X9_saves M) rfl ?_
            refine V.iconst (v := -1) dX9_heatFor_49 rfl rfl ?_
            refine V.ist_n dX9_heatFor_50 rfl (by decide) (L' := [(0, .ref 62), (1, .int (nI b)), (2, .int (nI k)), (3, .int (-1))]) rfl rfl ?_
            refine V.iconst (v := 0) dX9_heatFor_51 rfl rfl ?_
            refine V.ist dX9_heatFor_52 (by decide) (L' := [(0, .ref 62), (1, .int (nI b)), (2, .int (nI k)), (3, .int (-1)), (4, .int 0)]) rfl rfl ?_
            have hp : pHeatFor c cc m (nI b) (nI k) M = poR (hoG c cc b k m M 21 0) (SV M) := by simp only [pHeatFor, eb, ek]; rw [if_neg (fun q => q ⟨c5, c12⟩), if_neg (fun q => q.elim (fun z => z c27) c35)]
            rw [hp]
            exact l_X9_heatFor hc hcc (by omega) (by omega) hm M hW 21 0 (by omega)
          · skip
            refine V.aload_n dX9_heatFor_38 rfl rfl rfl ?_
            refine V.ldc (v := -1000005) dX9_heatFor_39 cn_X9_98 rfl ?_
            refine V.callv_i (M1 := fdM 4 M) (v := -1000005) (md' := m_X9_finds) (As := [.int (-1000005)]) (rest := []) dX9_heatFor_41 ml_X9_51 mo_X9_finds ⟨Nat.le_of_ble_eq_true rfl, Nat.le_of_ble_eq_true rfl⟩ rfl ⟨_, _, rfl⟩ (Nat.le_of_ble_eq_true rfl) rfl rfl (Nat.le_of_ble_eq_true rfl) (v_X9_finds (w := 4) (by decide) (-1000005) (by decide +kernel) _) rfl ?_
            exact V.ret dX9_heatFor_44 rfl rfl ⟨(by first | (simp (decide := true) [pHeatFor, c5, c12, eb, ek, c27, c35]; done) | (simp (decide := true) [pHeatFor, c5, c12, eb, ek, c27, c35]; done) | (simp (decide := true) [pHeatFor, c5, c12, eb, ek, c27, c35]; done) | (simp_all (decide := true) [pHeatFor]; done) | (simp_all (decide := true) [pHeatFor, ltF, leF, ltFN, leFN]; done)), (by first | (simp (decide := true) [pHeatFor, c5, c12, eb, ek, c27, c35]; done) | (simp (decide := true) [pHeatFor, c5, c12, eb, ek, c27, c35]; done) | (simp (decide := true) [pHeatFor, c5, c12, eb, ek, c27, c35]; done) | (simp_all (decide := true) [pHeatFor]; done) | (simp_all (decide := true) [pHeatFor, ltF, leF, ltFN, leFN]; done))⟩
    · skip
      refine V.aload_n dX9_heatFor_15 rfl rfl rfl ?_
      refine V.ldc (v := -1000001) dX9_heatFor_16 cn_X9_37 rfl ?_
      refine V.callv_i (M1 := fdM 0 M) (v := -1000001) (md' := m_X9_finds) (As := [.int (-1000001)]) (rest := []) dX9_heatFor_18 ml_X9_51 mo_X9_finds ⟨Nat.le_of_ble_eq_true rfl, Nat.le_of_ble_eq_true rfl⟩ rfl ⟨_, _, rfl⟩ (Nat.le_of_ble_eq_true rfl) rfl rfl (Nat.le_of_ble_eq_true rfl) (v_X9_finds (w := 0) (by decide) (-1000001) (by decide +kernel) _) rfl ?_
      exact V.ret dX9_heatFor_21 rfl rfl ⟨(by first | (simp (decide := true) [pHeatFor, c5, c12]; done) | (simp (decide := true) [pHeatFor, c5, c12]; done) | (simp (decide := true) [pHeatFor, c5, c12]; done) | (simp_all (decide := true) [pHeatFor]; done) | (simp_all (decide := true) [pHeatFor, ltF, leF, ltFN, leFN]; done)), (by first | (simp (decide := true) [pHeatFor, c5, c12]; done) | (simp (decide := true) [pHeatFor, c5, c12]; done) | (simp (decide := true) [pHeatFor, c5, c12]; done) | (simp_all (decide := true) [pHeatFor]; done) | (simp_all (decide := true) [pHeatFor, ltF, leF, ltFN, leFN]; done))⟩
def lfG (bg pl : Nat → Int32) : Nat → Nat → Option Nat → Option Nat
  | 0, _, o => o
  | n + 1, i, o => lfG bg pl n (i + 1) (if pl i = 4 then o else match o with
    | none => some i
    | some j => if bg j < bg i then some i else some j)
theorem lf_lt {bg pl : Nat → Int32} : ∀ (n i : Nat) (o : Option Nat), (∀ j, o = some j → j < i) → ∀ j, lfG bg pl n i o = some j → j < i + n := by
  intro n
  induction n with
  | zero => intro i o ho j h; exact ho j h
  | succ n ih =>
    intro i o ho j h
    simp only [lfG] at h
    have := ih (i + 1) _ (by
      intro j' h'
      split at h'
      · have := ho j' h'; omega
      · cases o with
        | none => cases h'; omega
        | some k => 
          have hk := ho k rfl
          dsimp only at h'
          split at h' <;> cases h' <;> omega) j h
    omega
theorem l_X9_left {c : Nat} (hc : c ≤ 10) {k : Nat} (G M : Mem) (hG : G 63 1 = nI c) (hO : Off G M) : ∀ (n i : Nat) (o : Option Nat), (∀ j, o = some j → j < i) → i + n = c → V m_X9_left 42 [(0, .ref 62), (1, .int (nI k)), (2, .int (bI o)), (3, .int (nI i))] [] G (RT (some (.int (beP (lfG (col G 1) (col G 4) n i o) (SV M)).1)) (beP (lfG (col G 1) (col G 4) n i o) (SV M)).2) := by
  intro n
  induction n with
  | zero =>
    intro i o ho hi
    rcases o with _ | j
    · refine V.iload_n dX9_left_42 rfl rfl rfl ?_
      refine V.aload_n dX9_left_43 rfl rfl rfl ?_
      refine V.getr dX9_left_44 fg_X9_7 rfl rfl rfl ?_
      refine V.iconst (v := 1) dX9_left_47 rfl rfl ?_
      refine V.ialdN (j := 1) (v := nI c) dX9_left_48 rfl (by decide) (by decide) rfl hG rfl ?_
      refine V.icmp_ge (tgt := 93) dX9_left_49 rfl rfl (fun c49 => ?_) (fun c49 => absurd ((nI_leI (a := c) (b := i) (by omega) (by omega)).mpr (by omega)) c49)
      have c49 : c ≤ i := (nI_leI (a := c) (b := i) (by omega) (by omega)).mp c49
      refine V.aload_n dX9_left_93 rfl rfl rfl ?_
      refine V.callv_v (M1 := SV M) (md' := m_X9_putsBack) (As := []) (rest := []) dX9_left_94 ml_X9_188 mo_X9_putsBack ⟨Nat.le_of_ble_eq_true rfl, Nat.le_of_ble_eq_true rfl⟩ rfl ⟨_, _, rfl⟩ (Nat.le_of_ble_eq_true rfl) rfl rfl (Nat.le_of_ble_eq_true rfl) (v_back hO) rfl ?_
      refine V.iload_n dX9_left_97 rfl rfl rfl ?_
      refine V.if_ge (tgt := 110) dX9_left_98 rfl rfl (fun c98 => absurd c98 (by decide)) (fun _ => ?_)
      refine V.aload_n dX9_left_101 rfl rfl rfl ?_
      refine V.ldc (v := -1000004) dX9_left_102 cn_X9_195 rfl ?_
      refine V.callv_i (M1 := fdM 3 (SV M)) (v := -1000004) (md' := m_X9_finds) (As := [.int (-1000004)]) (rest := []) dX9_left_104 ml_X9_51 mo_X9_finds ⟨Nat.le_of_ble_eq_true rfl, Nat.le_of_ble_eq_true rfl⟩ rfl ⟨_, _, rfl⟩ (Nat.le_of_ble_eq_true rfl) rfl rfl (Nat.le_of_ble_eq_true rfl) (v_X9_finds (w := 3) (by decide) (-1000004) (by decide +kernel) _) rfl ?_
      refine V.goto (pc' := 111) dX9_left_107 rfl ?_
      exact V.ret dX9_left_111 rfl rfl ⟨(by first | (simp [lfG, beP]; done) | (simp [lfG, beP, bI]; done)), (by simp [lfG, beP])⟩
    · have hj : j < i := ho j rfl
      refine V.iload_n dX9_left_42 rfl rfl rfl ?_
      refine V.aload_n dX9_left_43 rfl rfl rfl ?_
      refine V.getr dX9_left_44 fg_X9_7 rfl rfl rfl ?_
      refine V.iconst (v := 1) dX9_left_47 rfl rfl ?_
      refine V.ialdN (j := 1) (v := nI c) dX9_left_48 rfl (by decide) (by decide) rfl hG rfl ?_
      refine V.icmp_ge (tgt := 93) dX9_left_49 rfl rfl (fun c49 => ?_) (fun c49 => absurd ((nI_leI (a := c) (b := i) (by omega) (by omega)).mpr (by omega)) c49)
      have c49 : c ≤ i := (nI_leI (a := c) (b := i) (by omega) (by omega)).mp c49
      refine V.aload_n dX9_left_93 rfl rfl rfl ?_
      refine V.callv_v (M1 := SV M) (md' := m_X9_putsBack) (As := []) (rest := []) dX9_left_94 ml_X9_188 mo_X9_putsBack ⟨Nat.le_of_ble_eq_true rfl, Nat.le_of_ble_eq_true rfl⟩ rfl ⟨_, _, rfl⟩ (Nat.le_of_ble_eq_true rfl) rfl rfl (Nat.le_of_ble_eq_true rfl) (v_back hO) rfl ?_
      refine V.iload_n dX9_left_97 rfl rfl rfl ?_
      refine V.if_ge (tgt := 110) dX9_left_98 rfl rfl (fun c98 => ?_) (fun c98 => absurd ((nI_leI (a := 0) (b := j) (by omega) (by omega)).mpr (by omega)) c98)
      have c98 : 0 ≤ j := (nI_leI (a := 0) (b := j) (by omega) (by omega)).mp c98
      refine V.iload_n dX9_left_110 rfl rfl rfl ?_
      exact V.ret dX9_left_111 rfl rfl ⟨(by first | (simp [lfG, beP]; done) | (simp [lfG, beP, bI]; done)), (by simp [lfG, beP])⟩
  | succ n ih =>
    intro i o ho hi
    rcases o with _ | j
    · refine V.iload_n dX9_left_42 rfl rfl rfl ?_
      refine V.aload_n dX9_left_43 rfl rfl rfl ?_
      refine V.getr dX9_left_44 fg_X9_7 rfl rfl rfl ?_
      refine V.iconst (v := 1) dX9_left_47 rfl rfl ?_
      refine V.ialdN (j := 1) (v := nI c) dX9_left_48 rfl (by decide) (by decide) rfl hG rfl ?_
      refine V.icmp_ge (tgt := 93) dX9_left_49 rfl rfl (fun c49 => absurd ((nI_leI (a := c) (b := i) (by omega) (by omega)).mp c49) (by omega)) (fun c49 => ?_)
      have c49 : ¬ c ≤ i := fun zq => c49 ((nI_leI (a := c) (b := i) (by omega) (by omega)).mpr zq)
      refine V.aload_n dX9_left_52 rfl rfl rfl ?_
      refine V.iload_n dX9_left_53 rfl rfl rfl ?_
      refine V.iconst (v := 4) dX9_left_54 rfl rfl ?_
      refine V.callv_i (M1 := G) (v := G 63 (20 + 5 * i + 4)) (md' := m_X9_its) (As := [.int (nI i), .int 4]) (rest := []) dX9_left_55 ml_X9_60 mo_X9_its ⟨Nat.le_of_ble_eq_true rfl, Nat.le_of_ble_eq_true rfl⟩ rfl ⟨_, _, rfl⟩ (Nat.le_of_ble_eq_true rfl) rfl rfl (Nat.le_of_ble_eq_true rfl) (v_X9_its (b := i) (w := 4) (by omega) (by omega) _) rfl ?_
      refine V.iconst (v := 4) dX9_left_58 rfl rfl ?_
      refine V.icmp_eq (tgt := 85) dX9_left_59 rfl rfl (fun c59 => ?_) (fun c59 => ?_)
      · skip
        refine V.iload_n dX9_left_85 rfl rfl rfl ?_
        refine V.ist_n dX9_left_86 rfl (by decide) (L' := [(0, .ref 62), (1, .int (nI k)), (2, .int (-1)), (3, .int (nI i))]) rfl rfl ?_
        refine V.inc (v := nI (i + 1)) dX9_left_87 rfl (nI_1 _) (by decide) (L' := [(0, .ref 62), (1, .int (nI k)), (2, .int (-1)), (3, .int (nI (i + 1)))]) rfl rfl ?_
        refine V.goto (pc' := 42) dX9_left_90 rfl ?_
        rw [show lfG (col G 1) (col G 4) (n + 1) i none = lfG (col G 1) (col G 4) n (i + 1) none from by simp only [lfG]; rw [if_pos (show col G 4 i = 4 from c59)]]
        exact ih (i + 1) none (fun j q => by cases q) (by omega)
      · skip
        refine V.iload_n dX9_left_62 rfl rfl rfl ?_
        refine V.if_lt (tgt := 81) dX9_left_63 rfl rfl (fun _ => ?_) (fun c63 => absurd c63 (by decide))
        refine V.iload_n dX9_left_81 rfl rfl rfl ?_
        refine V.goto (pc' := 86) dX9_left_82 rfl ?_
        refine V.ist_n dX9_left_86 rfl (by decide) (L' := [(0, .ref 62), (1, .int (nI k)), (2, .int (nI i)), (3, .int (nI i))]) rfl rfl ?_
        refine V.inc (v := nI (i + 1)) dX9_left_87 rfl (nI_1 _) (by decide) (L' := [(0, .ref 62), (1, .int (nI k)), (2, .int (nI i)), (3, .int (nI (i + 1)))]) rfl rfl ?_
        refine V.goto (pc' := 42) dX9_left_90 rfl ?_
        rw [show lfG (col G 1) (col G 4) (n + 1) i none = lfG (col G 1) (col G 4) n (i + 1) (some i) from by simp only [lfG]; rw [if_neg (show ¬ col G 4 i = 4 from c59)]]
        exact ih (i + 1) (some i) (fun j q => by cases q; omega) (by omega)
    · have hj : j < i := ho j rfl
      refine V.iload_n dX9_left_42 rfl rfl rfl ?_
      refine V.aload_n dX9_left_43 rfl rfl rfl ?_
      refine V.getr dX9_left_44 fg_X9_7 rfl rfl rfl ?_
      refine V.iconst (v := 1) dX9_left_47 rfl rfl ?_
      refine V.ialdN (j := 1) (v := nI c) dX9_left_48 rfl (by decide) (by decide) rfl hG rfl ?_
      refine V.icmp_ge (tgt := 93) dX9_left_49 rfl rfl (fun c49 => absurd ((nI_leI (a := c) (b := i) (by omega) (by omega)).mp c49) (by omega)) (fun c49 => ?_)
      have c49 : ¬ c ≤ i := fun zq => c49 ((nI_leI (a := c) (b := i) (by omega) (by omega)).mpr zq)
      refine V.aload_n dX9_left_52 rfl rfl rfl ?_
      refine V.iload_n dX9_left_53 rfl rfl rfl ?_
      refine V.iconst (v := 4) dX9_left_54 rfl rfl ?_
      refine V.callv_i (M1 := G) (v := G 63 (20 + 5 * i + 4)) (md' := m_X9_its) (As := [.int (nI i), .int 4]) (rest := []) dX9_left_55 ml_X9_60 mo_X9_its ⟨Nat.le_of_ble_eq_true rfl, Nat.le_of_ble_eq_true rfl⟩ rfl ⟨_, _, rfl⟩ (Nat.le_of_ble_eq_true rfl) rfl rfl (Nat.le_of_ble_eq_true rfl) (v_X9_its (b := i) (w := 4) (by omega) (by omega) _) rfl ?_
      refine V.iconst (v := 4) dX9_left_58 rfl rfl ?_
      refine V.icmp_eq (tgt := 85) dX9_left_59 rfl rfl (fun c59 => ?_) (fun c59 => ?_)
      · skip
        refine V.iload_n dX9_left_85 rfl rfl rfl ?_
        refine V.ist_n dX9_left_86 rfl (by decide) (L' := [(0, .ref 62), (1, .int (nI k)), (2, .int (nI j)), (3, .int (nI i))]) rfl rfl ?_
        refine V.inc (v := nI (i + 1)) dX9_left_87 rfl (nI_1 _) (by decide) (L' := [(0, .ref 62), (1, .int (nI k)), (2, .int (nI j)), (3, .int (nI (i + 1)))]) rfl rfl ?_
        refine V.goto (pc' := 42) dX9_left_90 rfl ?_
        rw [show lfG (col G 1) (col G 4) (n + 1) i (some j) = lfG (col G 1) (col G 4) n (i + 1) (some j) from by simp only [lfG]; rw [if_pos (show col G 4 i = 4 from c59)]]
        exact ih (i + 1) (some j) (fun j q => by cases q; omega) (by omega)
      · skip
        refine V.iload_n dX9_left_62 rfl rfl rfl ?_
        refine V.if_lt (tgt := 81) dX9_left_63 rfl rfl (fun c63 => absurd ((nI_ltI (a := j) (b := 0) (by omega) (by omega)).mp c63) (by omega)) (fun c63 => ?_)
        have c63 : ¬ j < 0 := fun zq => c63 ((nI_ltI (a := j) (b := 0) (by omega) (by omega)).mpr zq)
        refine V.aload_n dX9_left_66 rfl rfl rfl ?_
        refine V.iload_n dX9_left_67 rfl rfl rfl ?_
        refine V.iconst (v := 1) dX9_left_68 rfl rfl ?_
        refine V.callv_i (M1 := G) (v := G 63 (20 + 5 * i + 1)) (md' := m_X9_its) (As := [.int (nI i), .int 1]) (rest := []) dX9_left_69 ml_X9_60 mo_X9_its ⟨Nat.le_of_ble_eq_true rfl, Nat.le_of_ble_eq_true rfl⟩ rfl ⟨_, _, rfl⟩ (Nat.le_of_ble_eq_true rfl) rfl rfl (Nat.le_of_ble_eq_true rfl) (v_X9_its (b := i) (w := 1) (by omega) (by omega) _) rfl ?_
        refine V.aload_n dX9_left_72 rfl rfl rfl ?_
        refine V.iload_n dX9_left_73 rfl rfl rfl ?_
        refine V.iconst (v := 1) dX9_left_74 rfl rfl ?_
        refine V.callv_i (M1 := G) (v := G 63 (20 + 5 * j + 1)) (md' := m_X9_its) (As := [.int (nI j), .int 1]) (rest := [.int (G 63 (20 + 5 * i + 1))]) dX9_left_75 ml_X9_60 mo_X9_its ⟨Nat.le_of_ble_eq_true rfl, Nat.le_of_ble_eq_true rfl⟩ rfl ⟨_, _, rfl⟩ (Nat.le_of_ble_eq_true rfl) rfl rfl (Nat.le_of_ble_eq_true rfl) (v_X9_its (b := j) (w := 1) (by omega) (by omega) _) rfl ?_
        refine V.icmp_le (tgt := 85) dX9_left_78 rfl rfl (fun c78 => ?_) (fun c78 => ?_)
        · skip
          refine V.iload_n dX9_left_85 rfl rfl rfl ?_
          refine V.ist_n dX9_left_86 rfl (by decide) (L' := [(0, .ref 62), (1, .int (nI k)), (2, .int (nI j)), (3, .int (nI i))]) rfl rfl ?_
          refine V.inc (v := nI (i + 1)) dX9_left_87 rfl (nI_1 _) (by decide) (L' := [(0, .ref 62), (1, .int (nI k)), (2, .int (nI j)), (3, .int (nI (i + 1)))]) rfl rfl ?_
          refine V.goto (pc' := 42) dX9_left_90 rfl ?_
          rw [show lfG (col G 1) (col G 4) (n + 1) i (some j) = lfG (col G 1) (col G 4) n (i + 1) (some j) from by simp only [lfG]; rw [if_neg (show ¬ col G 4 i = 4 from c59)]; rw [if_neg (show ¬ col G 1 j < col G 1 i from Int32.not_lt.mpr c78)]]
          exact ih (i + 1) (some j) (fun j q => by cases q; omega) (by omega)
        · skip
          refine V.iload_n dX9_left_81 rfl rfl rfl ?_
          refine V.goto (pc' := 86) dX9_left_82 rfl ?_
          refine V.ist_n dX9_left_86 rfl (by decide) (L' := [(0, .ref 62), (1, .int (nI k)), (2, .int (nI i)), (3, .int (nI i))]) rfl rfl ?_
          refine V.inc (v := nI (i + 1)) dX9_left_87 rfl (nI_1 _) (by decide) (L' := [(0, .ref 62), (1, .int (nI k)), (2, .int (nI i)), (3, .int (nI (i + 1)))]) rfl rfl ?_
          refine V.goto (pc' := 42) dX9_left_90 rfl ?_
          rw [show lfG (col G 1) (col G 4) (n + 1) i (some j) = lfG (col G 1) (col G 4) n (i + 1) (some i) from by simp only [lfG]; rw [if_neg (show ¬ col G 4 i = 4 from c59)]; rw [if_pos (show col G 1 j < col G 1 i from Int32.not_le.mp c78)]]
          exact ih (i + 1) (some i) (fun j q => by cases q; omega) (by omega)
def pLeft (c cc m : Nat) (n : Int32) (M : Mem) : Int32 × Mem := if ¬ rng 1 120 n then (-1000001, fdM 0 M) else if 999 < m + n.toNatClampNeg then (-1000005, fdM 4 M) else beP (lfG (col (mGo c cc n.toNatClampNeg m (SV M)) 1) (col (mGo c cc n.toNatClampNeg m (SV M)) 4) c 0 none) (SV M)
theorem v_X9_left {c : Nat} (hc : c ≤ 10) {cc : Nat} (hcc : cc ≤ 12) {m : Nat} (hm : m ≤ 3000) (n : Int32) (M : Mem) (hM : M 63 1 = nI c) (h2 : M 63 2 = nI cc) (h0 : M 63 0 = nI m) (hW : WM c cc m M) : V m_X9_left 0 [(0, .ref 62), (1, .int n)] [] M (RT (some (.int ((pLeft c cc m n M).1))) ((pLeft c cc m n M).2)) := by
  refine V.iload_n dX9_left_0 rfl rfl rfl ?_
  refine V.calls_i (M1 := M) (v := if rng 1 120 n then 1 else 0) (md' := m_X9_isSpan) (As := [.int n]) (rest := []) dX9_left_1 ml_X9_199 mo_X9_isSpan ⟨Nat.le_of_ble_eq_true rfl, Nat.le_of_ble_eq_true rfl⟩ (Nat.le_of_ble_eq_true rfl) rfl rfl (Nat.le_of_ble_eq_true rfl) (v_X9_isSpan n _) rfl ?_
  refine V.ifb_ne (tgt := 14) dX9_left_4 rfl rfl (fun c4 => ?_) (fun c4 => ?_)
  · skip
    obtain ⟨k, hk, rfl⟩ := of_rng1 (b := 120) c4
    · have ek : (nI k).toNatClampNeg = k := nI_clamp (by omega)
      refine V.aload_n dX9_left_14 rfl rfl rfl ?_
      refine V.iload_n dX9_left_15 rfl rfl rfl ?_
      refine V.callv_i (M1 := M) (v := if 999 < m + k then 1 else 0) (md' := m_X9_isTooLate) (As := [.int (nI k)]) (rest := []) dX9_left_16 ml_X9_171 mo_X9_isTooLate ⟨Nat.le_of_ble_eq_true rfl, Nat.le_of_ble_eq_true rfl⟩ rfl ⟨_, _, rfl⟩ (Nat.le_of_ble_eq_true rfl) rfl rfl (Nat.le_of_ble_eq_true rfl) (v_X9_isTooLate (by omega) (by omega) M h0) rfl ?_
      refine V.ifb_eq (tgt := 29) dX9_left_19 rfl rfl (fun c19 => ?_) (fun c19 => ?_)
      · skip
        refine V.aload_n dX9_left_29 rfl rfl rfl ?_
        refine V.callv_v (M1 := SV M) (md' := m_X9_saves) (As := []) (rest := []) dX9_left_30 ml_X9_179 mo_X9_saves ⟨Nat.le_of_ble_eq_true rfl, Nat.le_of_ble_eq_true rfl⟩ rfl ⟨_, _, rfl⟩ (Nat.le_of_ble_eq_true rfl) rfl rfl (Nat.le_of_ble_eq_true rfl) (v_X9_saves M) rfl ?_
        refine V.aload_n dX9_left_33 rfl rfl rfl ?_
        refine V.iload_n dX9_left_34 rfl rfl rfl ?_
        refine V.callv_v (M1 := mGo c cc k m (SV M)) (md' := m_X9_minutesGo) (As := [.int (nI k)]) (rest := []) dX9_left_35 ml_X9_174 mo_X9_minutesGo ⟨Nat.le_of_ble_eq_true rfl, Nat.le_of_ble_eq_true rfl⟩ rfl ⟨_, _, rfl⟩ (Nat.le_of_ble_eq_true rfl) rfl rfl (Nat.le_of_ble_eq_true rfl) (v_X9_minutesGo hc hcc (by omega) _ (WM_SV hW) (by omega)) rfl ?_
        refine V.iconst (v := -1) dX9_left_38 rfl rfl ?_
        refine V.ist_n dX9_left_39 rfl (by decide) (L' := [(0, .ref 62), (1, .int (nI k)), (2, .int (-1))]) rfl rfl ?_
        refine V.iconst (v := 0) dX9_left_40 rfl rfl ?_
        refine V.ist_n dX9_left_41 rfl (by decide) (L' := [(0, .ref 62), (1, .int (nI k)), (2, .int (-1)), (3, .int 0)]) rfl rfl ?_
        rw [show pLeft c cc m (nI k) M = beP (lfG (col (mGo c cc k m (SV M)) 1) (col (mGo c cc k m (SV M)) 4) c 0 none) (SV M) from by simp (decide := true) [pLeft, c4, ek, c19]]
        exact l_X9_left hc _ M (WM_go hc k m _ (WM_SV hW)).1 (off_go hc k m _ (off_self M)) c 0 none (fun j q => by cases q) (by omega)
      · skip
        refine V.aload_n dX9_left_22 rfl rfl rfl ?_
        refine V.ldc (v := -1000005) dX9_left_23 cn_X9_98 rfl ?_
        refine V.callv_i (M1 := fdM 4 M) (v := -1000005) (md' := m_X9_finds) (As := [.int (-1000005)]) (rest := []) dX9_left_25 ml_X9_51 mo_X9_finds ⟨Nat.le_of_ble_eq_true rfl, Nat.le_of_ble_eq_true rfl⟩ rfl ⟨_, _, rfl⟩ (Nat.le_of_ble_eq_true rfl) rfl rfl (Nat.le_of_ble_eq_true rfl) (v_X9_finds (w := 4) (by decide) (-1000005) (by decide +kernel) _) rfl ?_
        exact V.ret dX9_left_28 rfl rfl ⟨(by first | (simp (decide := true) [pLeft, c4, ek, c19]; done) | (simp (decide := true) [pLeft, c4, ek, c19]; done) | (simp (decide := true) [pLeft, c4, ek, c19]; done) | (simp_all (decide := true) [pLeft]; done) | (simp_all (decide := true) [pLeft, ltF, leF, ltFN, leFN]; done)), (by first | (simp (decide := true) [pLeft, c4, ek, c19]; done) | (simp (decide := true) [pLeft, c4, ek, c19]; done) | (simp (decide := true) [pLeft, c4, ek, c19]; done) | (simp_all (decide := true) [pLeft]; done) | (simp_all (decide := true) [pLeft, ltF, leF, ltFN, leFN]; done))⟩
  · skip
    refine V.aload_n dX9_left_7 rfl rfl rfl ?_
    refine V.ldc (v := -1000001) dX9_left_8 cn_X9_37 rfl ?_
    refine V.callv_i (M1 := fdM 0 M) (v := -1000001) (md' := m_X9_finds) (As := [.int (-1000001)]) (rest := []) dX9_left_10 ml_X9_51 mo_X9_finds ⟨Nat.le_of_ble_eq_true rfl, Nat.le_of_ble_eq_true rfl⟩ rfl ⟨_, _, rfl⟩ (Nat.le_of_ble_eq_true rfl) rfl rfl (Nat.le_of_ble_eq_true rfl) (v_X9_finds (w := 0) (by decide) (-1000001) (by decide +kernel) _) rfl ?_
    exact V.ret dX9_left_13 rfl rfl ⟨(by first | (simp (decide := true) [pLeft, c4]; done) | (simp (decide := true) [pLeft, c4]; done) | (simp (decide := true) [pLeft, c4]; done) | (simp_all (decide := true) [pLeft]; done) | (simp_all (decide := true) [pLeft, ltF, leF, ltFN, leFN]; done)), (by first | (simp (decide := true) [pLeft, c4]; done) | (simp (decide := true) [pLeft, c4]; done) | (simp (decide := true) [pLeft, c4]; done) | (simp_all (decide := true) [pLeft]; done) | (simp_all (decide := true) [pLeft, ltF, leF, ltFN, leFN]; done))⟩
def juG (s c cc : Nat) : Nat → Nat → Nat → Mem → Int32
  | 0, _, _, _ => 0
  | n + 1, i, m, M => if M 70 (40 * s + i) = mMin c cc m M 63 10 - M 63 10 then juG s c cc n (i + 1) (m + 1) (mMin c cc m M) else nI (1 + i)
theorem l_X9_judge_x {s i : Nat} (hi : i < 100) (M M' : Mem) (hO : Off M' M) : V m_X9_judge 45 [(0, .ref 62), (1, .int (nI s)), (2, .int 0), (3, .int (nI i)), (4, .int 0)] [] M' (RT (some (.int (nI (1 + i)))) (SV M)) := by
  refine V.iload dX9_judge_45 rfl rfl ?_
  refine V.if_eq (tgt := 120) dX9_judge_47 rfl rfl (fun _ => ?_) (fun c47 => absurd c47 (by decide))
  refine V.aload_n dX9_judge_120 rfl rfl rfl ?_
  refine V.callv_v (M1 := SV M) (md' := m_X9_putsBack) (As := []) (rest := []) dX9_judge_121 ml_X9_188 mo_X9_putsBack ⟨Nat.le_of_ble_eq_true rfl, Nat.le_of_ble_eq_true rfl⟩ rfl ⟨_, _, rfl⟩ (Nat.le_of_ble_eq_true rfl) rfl rfl (Nat.le_of_ble_eq_true rfl) (v_back hO) rfl ?_
  refine V.iload dX9_judge_124 rfl rfl ?_
  refine V.if_eq (tgt := 133) dX9_judge_126 rfl rfl (fun _ => ?_) (fun c126 => absurd c126 (by decide))
  refine V.iconst (v := 1) dX9_judge_133 rfl rfl ?_
  refine V.iload_n dX9_judge_134 rfl rfl rfl ?_
  refine V.iadd (v := nI (1 + i)) dX9_judge_135 (nI_add _ _) rfl ?_
  exact V.ret dX9_judge_136 rfl rfl ⟨rfl, rfl⟩
theorem l_X9_judge {c : Nat} (hc : c ≤ 10) {cc : Nat} (hcc : cc ≤ 12) {s z : Nat} (hs : s < 4) (hz : z ≤ 40) (M : Mem) : ∀ (n i m : Nat) (M' : Mem), WM c cc m M' → m + n ≤ 5000 → Off M' M → M' 69 s = nI z → i + n = z → V m_X9_judge 45 [(0, .ref 62), (1, .int (nI s)), (2, .int 0), (3, .int (nI i)), (4, .int 1)] [] M' (RT (some (.int (juG s c cc n i m M'))) (SV M)) := by
  intro n
  induction n with
  | zero =>
    intro i m M' hW hmn hO h9 hi
    refine V.iload dX9_judge_45 rfl rfl ?_
    refine V.if_eq (tgt := 120) dX9_judge_47 rfl rfl (fun c47 => absurd c47 (by decide)) (fun _ => ?_)
    refine V.iload_n dX9_judge_50 rfl rfl rfl ?_
    refine V.aload_n dX9_judge_51 rfl rfl rfl ?_
    refine V.getr dX9_judge_52 fg_X9_28 rfl rfl rfl ?_
    refine V.iload_n dX9_judge_55 rfl rfl rfl ?_
    refine V.ialdN (j := s) (v := nI z) dX9_judge_56 rfl (by omega) (by decide) rfl h9 rfl ?_
    refine V.icmp_ge (tgt := 120) dX9_judge_57 rfl rfl (fun c57 => ?_) (fun c57 => absurd ((nI_leI (a := z) (b := i) (by omega) (by omega)).mpr (by omega)) c57)
    have c57 : z ≤ i := (nI_leI (a := z) (b := i) (by omega) (by omega)).mp c57
    refine V.aload_n dX9_judge_120 rfl rfl rfl ?_
    refine V.callv_v (M1 := SV M) (md' := m_X9_putsBack) (As := []) (rest := []) dX9_judge_121 ml_X9_188 mo_X9_putsBack ⟨Nat.le_of_ble_eq_true rfl, Nat.le_of_ble_eq_true rfl⟩ rfl ⟨_, _, rfl⟩ (Nat.le_of_ble_eq_true rfl) rfl rfl (Nat.le_of_ble_eq_true rfl) (v_back hO) rfl ?_
    refine V.iload dX9_judge_124 rfl rfl ?_
    refine V.if_eq (tgt := 133) dX9_judge_126 rfl rfl (fun c126 => absurd c126 (by decide)) (fun _ => ?_)
    refine V.iconst (v := 0) dX9_judge_129 rfl rfl ?_
    refine V.goto (pc' := 136) dX9_judge_130 rfl ?_
    exact V.ret dX9_judge_136 rfl rfl ⟨rfl, rfl⟩
  | succ n ih =>
    intro i m M' hW hmn hO h9 hi
    refine V.iload dX9_judge_45 rfl rfl ?_
    refine V.if_eq (tgt := 120) dX9_judge_47 rfl rfl (fun c47 => absurd c47 (by decide)) (fun _ => ?_)
    refine V.iload_n dX9_judge_50 rfl rfl rfl ?_
    refine V.aload_n dX9_judge_51 rfl rfl rfl ?_
    refine V.getr dX9_judge_52 fg_X9_28 rfl rfl rfl ?_
    refine V.iload_n dX9_judge_55 rfl rfl rfl ?_
    refine V.ialdN (j := s) (v := nI z) dX9_judge_56 rfl (by omega) (by decide) rfl h9 rfl ?_
    refine V.icmp_ge (tgt := 120) dX9_judge_57 rfl rfl (fun c57 => absurd ((nI_leI (a := z) (b := i) (by omega) (by omega)).mp c57) (by omega)) (fun c57 => ?_)
    have c57 : ¬ z ≤ i := fun zq => c57 ((nI_leI (a := z) (b := i) (by omega) (by omega)).mpr zq)
    refine V.aload_n dX9_judge_60 rfl rfl rfl ?_
    refine V.getr dX9_judge_61 fg_X9_7 rfl rfl rfl ?_
    refine V.bipush (v := 10) dX9_judge_64 (by decide) rfl ?_
    refine V.ialdN (j := 10) (v := (M') 63 10) dX9_judge_66 rfl (by decide) (by decide) rfl rfl rfl ?_
    refine V.ist dX9_judge_67 (by decide) (L' := [(0, .ref 62), (1, .int (nI s)), (2, .int 0), (3, .int (nI i)), (4, .int 1), (5, .int ((M') 63 10))]) rfl rfl ?_
    refine V.aload_n dX9_judge_69 rfl rfl rfl ?_
    refine V.callv_v (M1 := mMin c cc m M') (md' := m_X9_minute) (As := []) (rest := []) dX9_judge_70 ml_X9_166 mo_X9_minute ⟨Nat.le_of_ble_eq_true rfl, Nat.le_of_ble_eq_true rfl⟩ rfl ⟨_, _, rfl⟩ (Nat.le_of_ble_eq_true rfl) rfl rfl (Nat.le_of_ble_eq_true rfl) (v_X9_minute hc hcc (by omega) M' hW) rfl ?_
    refine V.aload_n dX9_judge_73 rfl rfl rfl ?_
    refine V.getr dX9_judge_74 fg_X9_31 rfl rfl rfl ?_
    refine V.bipush (v := 40) dX9_judge_77 (by decide) rfl ?_
    refine V.iload_n dX9_judge_79 rfl rfl rfl ?_
    refine V.imul (v := nI (40 * s)) dX9_judge_80 (pk_mul _ _) rfl ?_
    refine V.iload_n dX9_judge_81 rfl rfl rfl ?_
    refine V.iadd (v := nI ((40 * s) + i)) dX9_judge_82 (nI_add _ _) rfl ?_
    refine V.ialdN (j := (40 * s) + i) (v := M' 70 (40 * s + i)) dX9_judge_83 rfl (by omega) (by decide) rfl (by rw [mMin_k (by decide)]) rfl ?_
    refine V.aload_n dX9_judge_84 rfl rfl rfl ?_
    refine V.getr dX9_judge_85 fg_X9_7 rfl rfl rfl ?_
    refine V.bipush (v := 10) dX9_judge_88 (by decide) rfl ?_
    refine V.ialdN (j := 10) (v := (mMin c cc m M') 63 10) dX9_judge_90 rfl (by decide) (by decide) rfl rfl rfl ?_
    refine V.iload dX9_judge_91 rfl rfl ?_
    refine V.isub (v := ((mMin c cc m M') 63 10) - ((M') 63 10)) dX9_judge_93 rfl rfl ?_
    refine V.icmp_ne (tgt := 101) dX9_judge_94 rfl rfl (fun c94 => ?_) (fun c94 => ?_)
    · skip
      refine V.iconst (v := 0) dX9_judge_101 rfl rfl ?_
      refine V.ist dX9_judge_102 (by decide) (L' := [(0, .ref 62), (1, .int (nI s)), (2, .int 0), (3, .int (nI i)), (4, .int 0), (5, .int ((M') 63 10))]) rfl rfl ?_
      refine V.iload_n dX9_judge_104 rfl rfl rfl ?_
      refine V.iload dX9_judge_105 rfl rfl ?_
      refine V.if_eq (tgt := 114) dX9_judge_107 rfl rfl (fun _ => ?_) (fun c107 => absurd c107 (by decide))
      refine V.iconst (v := 0) dX9_judge_114 rfl rfl ?_
      refine V.iadd (v := nI (i + 0)) dX9_judge_115 (nI_add _ _) rfl ?_
      refine V.ist_n dX9_judge_116 rfl (by decide) (L' := [(0, .ref 62), (1, .int (nI s)), (2, .int 0), (3, .int (nI (i + 0))), (4, .int 0), (5, .int ((M') 63 10))]) rfl rfl ?_
      refine V.goto (pc' := 45) dX9_judge_117 rfl ?_
      refine V.loc (L' := [(0, .ref 62), (1, .int (nI s)), (2, .int 0), (3, .int (nI (i + 0))), (4, .int 0)]) (fun zq zh => List.mem_append_left [(5, Value.int ((M') 63 10))] zh) ?_
      rw [show juG s c cc (n + 1) i m M' = nI (1 + i) from by simp only [juG]; rw [if_neg c94]]
      exact l_X9_judge_x (by omega) M _ (off_min hc hO)
    · skip
      refine V.iconst (v := 1) dX9_judge_97 rfl rfl ?_
      refine V.goto (pc' := 102) dX9_judge_98 rfl ?_
      refine V.ist dX9_judge_102 (by decide) (L' := [(0, .ref 62), (1, .int (nI s)), (2, .int 0), (3, .int (nI i)), (4, .int 1), (5, .int ((M') 63 10))]) rfl rfl ?_
      refine V.iload_n dX9_judge_104 rfl rfl rfl ?_
      refine V.iload dX9_judge_105 rfl rfl ?_
      refine V.if_eq (tgt := 114) dX9_judge_107 rfl rfl (fun c107 => absurd c107 (by decide)) (fun _ => ?_)
      refine V.iconst (v := 1) dX9_judge_110 rfl rfl ?_
      refine V.goto (pc' := 115) dX9_judge_111 rfl ?_
      refine V.iadd (v := nI (i + 1)) dX9_judge_115 (nI_add _ _) rfl ?_
      refine V.ist_n dX9_judge_116 rfl (by decide) (L' := [(0, .ref 62), (1, .int (nI s)), (2, .int 0), (3, .int (nI (i + 1))), (4, .int 1), (5, .int ((M') 63 10))]) rfl rfl ?_
      refine V.goto (pc' := 45) dX9_judge_117 rfl ?_
      refine V.loc (L' := [(0, .ref 62), (1, .int (nI s)), (2, .int 0), (3, .int (nI (i + 1))), (4, .int 1)]) (fun zq zh => List.mem_append_left [(5, Value.int ((M') 63 10))] zh) ?_
      rw [show juG s c cc (n + 1) i m M' = juG s c cc n (i + 1) (m + 1) (mMin c cc m M') from by simp only [juG]; rw [if_pos c94]]
      exact ih (i + 1) (m + 1) _ (WM_min hc hW) (by omega) (off_min hc hO) (by rw [mMin_k (by decide)]; exact h9) (by omega)
def pJudge (c cc m : Nat) (x : Int32) (M : Mem) : Int32 × Mem := if ¬ rng 0 3 x then (-1000001, fdM 0 M) else if M 68 x.toNatClampNeg = 0 then (-1000006, fdM 5 M) else if 999 < m + (M 69 x.toNatClampNeg).toNatClampNeg then (-1000005, fdM 4 M) else (juG x.toNatClampNeg c cc (M 69 x.toNatClampNeg).toNatClampNeg 0 m (SV M), SV M)
theorem v_X9_judge {c : Nat} (hc : c ≤ 10) {cc : Nat} (hcc : cc ≤ 12) {m : Nat} (hm : m ≤ 3000) (x : Int32) (M : Mem) (hM : M 63 1 = nI c) (h2 : M 63 2 = nI cc) (h0 : M 63 0 = nI m) (hZ : ∀ k, k < 4 → ∃ z, z ≤ 40 ∧ M 69 k = nI z) (hW : WM c cc m M) : V m_X9_judge 0 [(0, .ref 62), (1, .int x)] [] M (RT (some (.int ((pJudge c cc m x M).1))) ((pJudge c cc m x M).2)) := by
  refine V.aload_n dX9_judge_0 rfl rfl rfl ?_
  refine V.iload_n dX9_judge_1 rfl rfl rfl ?_
  refine V.callv_i (M1 := M) (v := wrF x M) (md' := m_X9_wrong) (As := [.int x]) (rest := []) dX9_judge_2 ml_X9_331 mo_X9_wrong ⟨Nat.le_of_ble_eq_true rfl, Nat.le_of_ble_eq_true rfl⟩ rfl ⟨_, _, rfl⟩ (Nat.le_of_ble_eq_true rfl) rfl rfl (Nat.le_of_ble_eq_true rfl) (v_X9_wrong x _) rfl ?_
  rcases wr_cases x M with ⟨hr, e⟩ | ⟨k, hk, rfl, hr, e⟩ | ⟨k, hk, rfl, hr, e⟩ <;> rw [e]
  · skip
    refine V.ist_n dX9_judge_5 rfl (by decide) (L' := [(0, .ref 62), (1, .int x), (2, .int (-1000001))]) rfl rfl ?_
    refine V.iload_n dX9_judge_6 rfl rfl rfl ?_
    refine V.if_eq (tgt := 16) dX9_judge_7 rfl rfl (fun c7 => absurd c7 (by decide)) (fun _ => ?_)
    refine V.aload_n dX9_judge_10 rfl rfl rfl ?_
    refine V.iload_n dX9_judge_11 rfl rfl rfl ?_
    refine V.callv_i (M1 := fdM 0 M) (v := -1000001) (md' := m_X9_finds) (As := [.int (-1000001)]) (rest := []) dX9_judge_12 ml_X9_51 mo_X9_finds ⟨Nat.le_of_ble_eq_true rfl, Nat.le_of_ble_eq_true rfl⟩ rfl ⟨_, _, rfl⟩ (Nat.le_of_ble_eq_true rfl) rfl rfl (Nat.le_of_ble_eq_true rfl) (v_X9_finds (w := 0) (by decide) (-1000001) (by decide +kernel) _) rfl ?_
    exact V.ret dX9_judge_15 rfl rfl ⟨(by first | (simp (decide := true) [pJudge, hr]; done) | (simp (decide := true) [pJudge, hr]; done) | (simp (decide := true) [pJudge, hr]; done) | (simp_all (decide := true) [pJudge]; done) | (simp_all (decide := true) [pJudge, ltF, leF, ltFN, leFN]; done)), (by first | (simp (decide := true) [pJudge, hr]; done) | (simp (decide := true) [pJudge, hr]; done) | (simp (decide := true) [pJudge, hr]; done) | (simp_all (decide := true) [pJudge]; done) | (simp_all (decide := true) [pJudge, ltF, leF, ltFN, leFN]; done))⟩
  · have ek : (nI k).toNatClampNeg = k := nI_clamp (by omega)
    have h3 := rng3 hk
    refine V.ist_n dX9_judge_5 rfl (by decide) (L' := [(0, .ref 62), (1, .int (nI k)), (2, .int (-1000006))]) rfl rfl ?_
    refine V.iload_n dX9_judge_6 rfl rfl rfl ?_
    refine V.if_eq (tgt := 16) dX9_judge_7 rfl rfl (fun c7 => absurd c7 (by decide)) (fun _ => ?_)
    refine V.aload_n dX9_judge_10 rfl rfl rfl ?_
    refine V.iload_n dX9_judge_11 rfl rfl rfl ?_
    refine V.callv_i (M1 := fdM 5 M) (v := -1000006) (md' := m_X9_finds) (As := [.int (-1000006)]) (rest := []) dX9_judge_12 ml_X9_51 mo_X9_finds ⟨Nat.le_of_ble_eq_true rfl, Nat.le_of_ble_eq_true rfl⟩ rfl ⟨_, _, rfl⟩ (Nat.le_of_ble_eq_true rfl) rfl rfl (Nat.le_of_ble_eq_true rfl) (v_X9_finds (w := 5) (by decide) (-1000006) (by decide +kernel) _) rfl ?_
    exact V.ret dX9_judge_15 rfl rfl ⟨(by first | (simp (decide := true) [pJudge, hr, ek, h3]; done) | (simp (decide := true) [pJudge, hr, ek, h3]; done) | (simp (decide := true) [pJudge, hr, ek, h3]; done) | (simp_all (decide := true) [pJudge]; done) | (simp_all (decide := true) [pJudge, ltF, leF, ltFN, leFN]; done)), (by first | (simp (decide := true) [pJudge, hr, ek, h3]; done) | (simp (decide := true) [pJudge, hr, ek, h3]; done) | (simp (decide := true) [pJudge, hr, ek, h3]; done) | (simp_all (decide := true) [pJudge]; done) | (simp_all (decide := true) [pJudge, ltF, leF, ltFN, leFN]; done))⟩
  · have ek : (nI k).toNatClampNeg = k := nI_clamp (by omega)
    have h3 := rng3 hk
    refine V.ist_n dX9_judge_5 rfl (by decide) (L' := [(0, .ref 62), (1, .int (nI k)), (2, .int 0)]) rfl rfl ?_
    refine V.iload_n dX9_judge_6 rfl rfl rfl ?_
    refine V.if_eq (tgt := 16) dX9_judge_7 rfl rfl (fun _ => ?_) (fun c7 => absurd c7 (by decide))
    obtain ⟨z, hz, ez⟩ := hZ k hk
    · have ezz : (nI z).toNatClampNeg = z := nI_clamp (by omega)
      refine V.aload_n dX9_judge_16 rfl rfl rfl ?_
      refine V.aload_n dX9_judge_17 rfl rfl rfl ?_
      refine V.getr dX9_judge_18 fg_X9_28 rfl rfl rfl ?_
      refine V.iload_n dX9_judge_21 rfl rfl rfl ?_
      refine V.ialdN (j := k) (v := nI z) dX9_judge_22 rfl (by omega) (by decide) rfl ez rfl ?_
      refine V.callv_i (M1 := M) (v := if 999 < m + z then 1 else 0) (md' := m_X9_isTooLate) (As := [.int (nI z)]) (rest := []) dX9_judge_23 ml_X9_171 mo_X9_isTooLate ⟨Nat.le_of_ble_eq_true rfl, Nat.le_of_ble_eq_true rfl⟩ rfl ⟨_, _, rfl⟩ (Nat.le_of_ble_eq_true rfl) rfl rfl (Nat.le_of_ble_eq_true rfl) (v_X9_isTooLate (by omega) (by omega) M h0) rfl ?_
      refine V.ifb_eq (tgt := 36) dX9_judge_26 rfl rfl (fun c26 => ?_) (fun c26 => ?_)
      · skip
        refine V.aload_n dX9_judge_36 rfl rfl rfl ?_
        refine V.callv_v (M1 := SV M) (md' := m_X9_saves) (As := []) (rest := []) dX9_judge_37 ml_X9_179 mo_X9_saves ⟨Nat.le_of_ble_eq_true rfl, Nat.le_of_ble_eq_true rfl⟩ rfl ⟨_, _, rfl⟩ (Nat.le_of_ble_eq_true rfl) rfl rfl (Nat.le_of_ble_eq_true rfl) (v_X9_saves M) rfl ?_
        refine V.iconst (v := 0) dX9_judge_40 rfl rfl ?_
        refine V.ist_n dX9_judge_41 rfl (by decide) (L' := [(0, .ref 62), (1, .int (nI k)), (2, .int 0), (3, .int 0)]) rfl rfl ?_
        refine V.iconst (v := 1) dX9_judge_42 rfl rfl ?_
        refine V.ist dX9_judge_43 (by decide) (L' := [(0, .ref 62), (1, .int (nI k)), (2, .int 0), (3, .int 0), (4, .int 1)]) rfl rfl ?_
        rw [show pJudge c cc m (nI k) M = (juG k c cc z 0 m (SV M), SV M) from by simp (decide := true) [pJudge, hr, ek, h3, ez, ezz, c26]]
        exact l_X9_judge hc hcc hk hz M z 0 m (SV M) (WM_SV hW) (by omega) (off_self M) (by rw [SV_k (by decide)]; exact ez) (by omega)
      · skip
        refine V.aload_n dX9_judge_29 rfl rfl rfl ?_
        refine V.ldc (v := -1000005) dX9_judge_30 cn_X9_98 rfl ?_
        refine V.callv_i (M1 := fdM 4 M) (v := -1000005) (md' := m_X9_finds) (As := [.int (-1000005)]) (rest := []) dX9_judge_32 ml_X9_51 mo_X9_finds ⟨Nat.le_of_ble_eq_true rfl, Nat.le_of_ble_eq_true rfl⟩ rfl ⟨_, _, rfl⟩ (Nat.le_of_ble_eq_true rfl) rfl rfl (Nat.le_of_ble_eq_true rfl) (v_X9_finds (w := 4) (by decide) (-1000005) (by decide +kernel) _) rfl ?_
        exact V.ret dX9_judge_35 rfl rfl ⟨(by first | (simp (decide := true) [pJudge, hr, ek, h3, ez, ezz, c26]; done) | (simp (decide := true) [pJudge, hr, ek, h3, ez, ezz, c26]; done) | (simp (decide := true) [pJudge, hr, ek, h3, ez, ezz, c26]; done) | (simp_all (decide := true) [pJudge]; done) | (simp_all (decide := true) [pJudge, ltF, leF, ltFN, leFN]; done)), (by first | (simp (decide := true) [pJudge, hr, ek, h3, ez, ezz, c26]; done) | (simp (decide := true) [pJudge, hr, ek, h3, ez, ezz, c26]; done) | (simp (decide := true) [pJudge, hr, ek, h3, ez, ezz, c26]; done) | (simp_all (decide := true) [pJudge]; done) | (simp_all (decide := true) [pJudge, ltF, leF, ltFN, leFN]; done))⟩
