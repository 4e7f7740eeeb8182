/-! The reference's plays, third part -/
def ahF (c cc n m : Nat) (w : Int32) (M G : Mem) : Int32 := if w = 0 then G 63 7 - M 63 7 else if w = 1 then G 63 10 - M 63 10 else if w = 2 then G 63 12 - M 63 12 else if w = 3 then G 63 4 else if w = 4 then doneG (col G 0) (col G 2) (col G 4) c 0 0 else if w = 5 then sumN (col G 1) (col G 4) c 0 0 else G 63 (20 + 5 * (w.toNatClampNeg - 6) + 2)
def pAhead (c cc m : Nat) (n w : Int32) (M : Mem) : Int32 × Mem := if ¬ (rng 0 200 n ∧ rng 0 ((5 + c : Nat) : Int) w) then (-1000001, fdM 0 M) else if 999 < m + n.toNatClampNeg then (-1000005, fdM 4 M) else (ahF c cc n.toNatClampNeg m w M (mGo c cc n.toNatClampNeg m (SV M)), SV M)
theorem v_X9_ahead {c : Nat} (hc : c ≤ 10) {cc : Nat} (hcc : cc ≤ 12) {m : Nat} (hm : m ≤ 3000) (n w : Int32) (M : Mem) (hM : M 63 1 = nI c) (h2 : M 63 2 = nI cc) (h0 : M 63 0 = nI m) (hW : WM c cc m M) : V m_X9_ahead 0 [(0, .ref 62), (1, .int n), (2, .int w)] [] M (RT (some (.int ((pAhead c cc m n w M).1))) ((pAhead c cc m n w M).2)) := by
  refine V.iload_n dX9_ahead_0 rfl rfl rfl ?_
  refine V.i2l (v := Int32.toInt64 n) dX9_ahead_1 rfl rfl ?_
  refine V.lconst (v := 0) dX9_ahead_2 rfl rfl ?_
  refine V.ldc2 (v := 200) dX9_ahead_3 cl_X9_177 rfl ?_
  refine V.calls_i (M1 := M) (v := if rng 0 200 n then 1 else 0) (md' := m_X9_in) (As := [.long (Int32.toInt64 n), .long 0, .long 200]) (rest := []) dX9_ahead_6 ml_X9_38 mo_X9_in ⟨Nat.le_of_ble_eq_true rfl, Nat.le_of_ble_eq_true rfl⟩ (Nat.le_of_ble_eq_true rfl) rfl rfl (Nat.le_of_ble_eq_true rfl) (v_X9_in (x := n) (a := 0) (b := 200) rfl rfl _) rfl ?_
  refine V.ifb_eq (tgt := 30) dX9_ahead_9 rfl rfl (fun c9 => ?_) (fun c9 => ?_)
  · skip
    refine V.aload_n dX9_ahead_30 rfl rfl rfl ?_
    refine V.ldc (v := -1000001) dX9_ahead_31 cn_X9_37 rfl ?_
    refine V.callv_i (M1 := fdM 0 M) (v := -1000001) (md' := m_X9_finds) (As := [.int (-1000001)]) (rest := []) dX9_ahead_33 ml_X9_51 mo_X9_finds ⟨Nat.le_of_ble_eq_true rfl, Nat.le_of_ble_eq_true rfl⟩ rfl ⟨_, _, rfl⟩ (Nat.le_of_ble_eq_true rfl) rfl rfl (Nat.le_of_ble_eq_true rfl) (v_X9_finds (w := 0) (by decide) (-1000001) (by decide +kernel) _) rfl ?_
    exact V.ret dX9_ahead_36 rfl rfl ⟨(by first | (simp (decide := true) [pAhead, ahF, c9]; done) | (simp (decide := true) [pAhead, ahF, c9]; done) | (simp (decide := true) [pAhead, ahF, c9]; done) | (simp_all (decide := true) [pAhead, ahF]; done) | (simp_all (decide := true) [pAhead, ahF, ltF, leF, ltFN, leFN]; done)), (by first | (simp (decide := true) [pAhead, ahF, c9]; done) | (simp (decide := true) [pAhead, ahF, c9]; done) | (simp (decide := true) [pAhead, ahF, c9]; done) | (simp_all (decide := true) [pAhead, ahF]; done) | (simp_all (decide := true) [pAhead, ahF, ltF, leF, ltFN, leFN]; done))⟩
  · skip
    refine V.iload_n dX9_ahead_12 rfl rfl rfl ?_
    refine V.i2l (v := Int32.toInt64 w) dX9_ahead_13 rfl rfl ?_
    refine V.lconst (v := 0) dX9_ahead_14 rfl rfl ?_
    refine V.iconst (v := 5) dX9_ahead_15 rfl rfl ?_
    refine V.aload_n dX9_ahead_16 rfl rfl rfl ?_
    refine V.getr dX9_ahead_17 fg_X9_7 rfl rfl rfl ?_
    refine V.iconst (v := 1) dX9_ahead_20 rfl rfl ?_
    refine V.ialdN (j := 1) (v := nI c) dX9_ahead_21 rfl (by decide) (by decide) rfl hM rfl ?_
    refine V.iadd (v := nI (5 + c)) dX9_ahead_22 (nI_add _ _) rfl ?_
    refine V.i2l (v := (nI (5 + c)).toInt64) dX9_ahead_23 rfl rfl ?_
    refine V.calls_i (M1 := M) (v := if rng 0 ((5 + c : Nat) : Int) w then 1 else 0) (md' := m_X9_in) (As := [.long (Int32.toInt64 w), .long 0, .long ((nI (5 + c)).toInt64)]) (rest := []) dX9_ahead_24 ml_X9_38 mo_X9_in ⟨Nat.le_of_ble_eq_true rfl, Nat.le_of_ble_eq_true rfl⟩ (Nat.le_of_ble_eq_true rfl) rfl rfl (Nat.le_of_ble_eq_true rfl) (v_X9_in (x := w) (lo := 0) (hi := (nI (5 + c)).toInt64) (a := 0) (b := ((5 + c : Nat) : Int)) rfl (by rw [Int32.toInt_toInt64, nI_toInt (by omega)]) _) rfl ?_
    refine V.ifb_ne (tgt := 37) dX9_ahead_27 rfl rfl (fun c27 => ?_) (fun c27 => ?_)
    · skip
      obtain ⟨k, hk, rfl⟩ := of_rng (b := 200) c9
      · have ek : (nI k).toNatClampNeg = k := nI_clamp (by omega)
        refine V.aload_n dX9_ahead_37 rfl rfl rfl ?_
        refine V.iload_n dX9_ahead_38 rfl rfl rfl ?_
        refine V.callv_i (M1 := M) (v := if 999 < m + k then 1 else 0) (md' := m_X9_isTooLate) (As := [.int (nI k)]) (rest := []) dX9_ahead_39 ml_X9_171 mo_X9_isTooLate ⟨Nat.le_of_ble_eq_true rfl, Nat.le_of_ble_eq_true rfl⟩ rfl ⟨_, _, rfl⟩ (Nat.le_of_ble_eq_true rfl) rfl rfl (Nat.le_of_ble_eq_true rfl) (v_X9_isTooLate (by omega) (by omega) M h0) rfl ?_
        refine V.ifb_eq (tgt := 52) dX9_ahead_42 rfl rfl (fun c42 => ?_) (fun c42 => ?_)
        · skip
          refine V.aload_n dX9_ahead_52 rfl rfl rfl ?_
          refine V.callv_v (M1 := SV M) (md' := m_X9_saves) (As := []) (rest := []) dX9_ahead_53 ml_X9_179 mo_X9_saves ⟨Nat.le_of_ble_eq_true rfl, Nat.le_of_ble_eq_true rfl⟩ rfl ⟨_, _, rfl⟩ (Nat.le_of_ble_eq_true rfl) rfl rfl (Nat.le_of_ble_eq_true rfl) (v_X9_saves M) rfl ?_
          refine V.aload_n dX9_ahead_56 rfl rfl rfl ?_
          refine V.iload_n dX9_ahead_57 rfl rfl rfl ?_
          refine V.callv_v (M1 := mGo c cc k m (SV M)) (md' := m_X9_minutesGo) (As := [.int (nI k)]) (rest := []) dX9_ahead_58 ml_X9_174 mo_X9_minutesGo ⟨Nat.le_of_ble_eq_true rfl, Nat.le_of_ble_eq_true rfl⟩ rfl ⟨_, _, rfl⟩ (Nat.le_of_ble_eq_true rfl) rfl rfl (Nat.le_of_ble_eq_true rfl) (v_X9_minutesGo hc hcc (by omega) _ (WM_SV hW) (by omega)) rfl ?_
          refine V.iconst (v := 0) dX9_ahead_61 rfl rfl ?_
          refine V.ist_n dX9_ahead_62 rfl (by decide) (L' := [(0, .ref 62), (1, .int (nI k)), (2, .int w), (3, .int 0)]) rfl rfl ?_
          refine V.iload_n dX9_ahead_63 rfl rfl rfl ?_
          by_cases s64_0 : w = 0
          · refine V.tabIn (pc' := 104) dX9_ahead_64 (by rw [s64_0]; decide) (by rw [s64_0]; decide) (by rw [s64_0]; rfl) rfl ?_
            refine V.aload_n dX9_ahead_104 rfl rfl rfl ?_
            refine V.getr dX9_ahead_105 fg_X9_7 rfl rfl rfl ?_
            refine V.bipush (v := 7) dX9_ahead_108 (by decide) rfl ?_
            refine V.ialdN (j := 7) (v := (mGo c cc k m (SV M)) 63 7) dX9_ahead_110 rfl (by decide) (by decide) rfl rfl rfl ?_
            refine V.aload_n dX9_ahead_111 rfl rfl rfl ?_
            refine V.getr dX9_ahead_112 fg_X9_16 rfl rfl rfl ?_
            refine V.bipush (v := 7) dX9_ahead_115 (by decide) rfl ?_
            refine V.ialdN (j := 7) (v := M 63 7) dX9_ahead_117 rfl (by decide) (by decide) rfl (by rw [mGo_k (by decide), SV_65 (by decide)]) rfl ?_
            refine V.isub (v := ((mGo c cc k m (SV M)) 63 7) - (M 63 7)) dX9_ahead_118 rfl rfl ?_
            refine V.ist_n dX9_ahead_119 rfl (by decide) (L' := [(0, .ref 62), (1, .int (nI k)), (2, .int w), (3, .int (((mGo c cc k m (SV M)) 63 7) - (M 63 7)))]) rfl rfl ?_
            refine V.goto (pc' := 197) dX9_ahead_120 rfl ?_
            refine V.aload_n dX9_ahead_197 rfl rfl rfl ?_
            refine V.callv_v (M1 := SV M) (md' := m_X9_putsBack) (As := []) (rest := []) dX9_ahead_198 ml_X9_188 mo_X9_putsBack ⟨Nat.le_of_ble_eq_true rfl, Nat.le_of_ble_eq_true rfl⟩ rfl ⟨_, _, rfl⟩ (Nat.le_of_ble_eq_true rfl) rfl rfl (Nat.le_of_ble_eq_true rfl) (v_back (off_go hc k m _ (off_self M))) rfl ?_
            refine V.iload_n dX9_ahead_201 rfl rfl rfl ?_
            exact V.ret dX9_ahead_202 rfl rfl ⟨(by first | (simp (decide := true) [pAhead, ahF, c9, c27, ek, c42, s64_0]; done) | (simp (decide := true) [pAhead, ahF, c9, c27, ek, c42, s64_0]; done) | (simp (decide := true) [pAhead, ahF, c9, c27, ek, c42, s64_0]; done) | (simp_all (decide := true) [pAhead, ahF]; done) | (simp_all (decide := true) [pAhead, ahF, ltF, leF, ltFN, leFN]; done)), (by first | (simp (decide := true) [pAhead, ahF, c9, c27, ek, c42, s64_0]; done) | (simp (decide := true) [pAhead, ahF, c9, c27, ek, c42, s64_0]; done) | (simp (decide := true) [pAhead, ahF, c9, c27, ek, c42, s64_0]; done) | (simp_all (decide := true) [pAhead, ahF]; done) | (simp_all (decide := true) [pAhead, ahF, ltF, leF, ltFN, leFN]; done))⟩
          by_cases s64_1 : w = 1
          · refine V.tabIn (pc' := 123) dX9_ahead_64 (by rw [s64_1]; decide) (by rw [s64_1]; decide) (by rw [s64_1]; rfl) rfl ?_
            refine V.aload_n dX9_ahead_123 rfl rfl rfl ?_
            refine V.getr dX9_ahead_124 fg_X9_7 rfl rfl rfl ?_
            refine V.bipush (v := 10) dX9_ahead_127 (by decide) rfl ?_
            refine V.ialdN (j := 10) (v := (mGo c cc k m (SV M)) 63 10) dX9_ahead_129 rfl (by decide) (by decide) rfl rfl rfl ?_
            refine V.aload_n dX9_ahead_130 rfl rfl rfl ?_
            refine V.getr dX9_ahead_131 fg_X9_16 rfl rfl rfl ?_
            refine V.bipush (v := 10) dX9_ahead_134 (by decide) rfl ?_
            refine V.ialdN (j := 10) (v := M 63 10) dX9_ahead_136 rfl (by decide) (by decide) rfl (by rw [mGo_k (by decide), SV_65 (by decide)]) rfl ?_
            refine V.isub (v := ((mGo c cc k m (SV M)) 63 10) - (M 63 10)) dX9_ahead_137 rfl rfl ?_
            refine V.ist_n dX9_ahead_138 rfl (by decide) (L' := [(0, .ref 62), (1, .int (nI k)), (2, .int w), (3, .int (((mGo c cc k m (SV M)) 63 10) - (M 63 10)))]) rfl rfl ?_
            refine V.goto (pc' := 197) dX9_ahead_139 rfl ?_
            refine V.aload_n dX9_ahead_197 rfl rfl rfl ?_
            refine V.callv_v (M1 := SV M) (md' := m_X9_putsBack) (As := []) (rest := []) dX9_ahead_198 ml_X9_188 mo_X9_putsBack ⟨Nat.le_of_ble_eq_true rfl, Nat.le_of_ble_eq_true rfl⟩ rfl ⟨_, _, rfl⟩ (Nat.le_of_ble_eq_true rfl) rfl rfl (Nat.le_of_ble_eq_true rfl) (v_back (off_go hc k m _ (off_self M))) rfl ?_
            refine V.iload_n dX9_ahead_201 rfl rfl rfl ?_
            exact V.ret dX9_ahead_202 rfl rfl ⟨(by first | (simp (decide := true) [pAhead, ahF, c9, c27, ek, c42, s64_1]; done) | (simp (decide := true) [pAhead, ahF, c9, c27, ek, c42, s64_1]; done) | (simp (decide := true) [pAhead, ahF, c9, c27, ek, c42, s64_1]; done) | (simp_all (decide := true) [pAhead, ahF]; done) | (simp_all (decide := true) [pAhead, ahF, ltF, leF, ltFN, leFN]; done)), (by first | (simp (decide := true) [pAhead, ahF, c9, c27, ek, c42, s64_1]; done) | (simp (decide := true) [pAhead, ahF, c9, c27, ek, c42, s64_1]; done) | (simp (decide := true) [pAhead, ahF, c9, c27, ek, c42, s64_1]; done) | (simp_all (decide := true) [pAhead, ahF]; done) | (simp_all (decide := true) [pAhead, ahF, ltF, leF, ltFN, leFN]; done))⟩
          by_cases s64_2 : w = 2
          · refine V.tabIn (pc' := 142) dX9_ahead_64 (by rw [s64_2]; decide) (by rw [s64_2]; decide) (by rw [s64_2]; rfl) rfl ?_
            refine V.aload_n dX9_ahead_142 rfl rfl rfl ?_
            refine V.getr dX9_ahead_143 fg_X9_7 rfl rfl rfl ?_
            refine V.bipush (v := 12) dX9_ahead_146 (by decide) rfl ?_
            refine V.ialdN (j := 12) (v := (mGo c cc k m (SV M)) 63 12) dX9_ahead_148 rfl (by decide) (by decide) rfl rfl rfl ?_
            refine V.aload_n dX9_ahead_149 rfl rfl rfl ?_
            refine V.getr dX9_ahead_150 fg_X9_16 rfl rfl rfl ?_
            refine V.bipush (v := 12) dX9_ahead_153 (by decide) rfl ?_
            refine V.ialdN (j := 12) (v := M 63 12) dX9_ahead_155 rfl (by decide) (by decide) rfl (by rw [mGo_k (by decide), SV_65 (by decide)]) rfl ?_
            refine V.isub (v := ((mGo c cc k m (SV M)) 63 12) - (M 63 12)) dX9_ahead_156 rfl rfl ?_
            refine V.ist_n dX9_ahead_157 rfl (by decide) (L' := [(0, .ref 62), (1, .int (nI k)), (2, .int w), (3, .int (((mGo c cc k m (SV M)) 63 12) - (M 63 12)))]) rfl rfl ?_
            refine V.goto (pc' := 197) dX9_ahead_158 rfl ?_
            refine V.aload_n dX9_ahead_197 rfl rfl rfl ?_
            refine V.callv_v (M1 := SV M) (md' := m_X9_putsBack) (As := []) (rest := []) dX9_ahead_198 ml_X9_188 mo_X9_putsBack ⟨Nat.le_of_ble_eq_true rfl, Nat.le_of_ble_eq_true rfl⟩ rfl ⟨_, _, rfl⟩ (Nat.le_of_ble_eq_true rfl) rfl rfl (Nat.le_of_ble_eq_true rfl) (v_back (off_go hc k m _ (off_self M))) rfl ?_
            refine V.iload_n dX9_ahead_201 rfl rfl rfl ?_
            exact V.ret dX9_ahead_202 rfl rfl ⟨(by first | (simp (decide := true) [pAhead, ahF, c9, c27, ek, c42, s64_2]; done) | (simp (decide := true) [pAhead, ahF, c9, c27, ek, c42, s64_2]; done) | (simp (decide := true) [pAhead, ahF, c9, c27, ek, c42, s64_2]; done) | (simp_all (decide := true) [pAhead, ahF]; done) | (simp_all (decide := true) [pAhead, ahF, ltF, leF, ltFN, leFN]; done)), (by first | (simp (decide := true) [pAhead, ahF, c9, c27, ek, c42, s64_2]; done) | (simp (decide := true) [pAhead, ahF, c9, c27, ek, c42, s64_2]; done) | (simp (decide := true) [pAhead, ahF, c9, c27, ek, c42, s64_2]; done) | (simp_all (decide := true) [pAhead, ahF]; done) | (simp_all (decide := true) [pAhead, ahF, ltF, leF, ltFN, leFN]; done))⟩
          by_cases s64_3 : w = 3
          · refine V.tabIn (pc' := 161) dX9_ahead_64 (by rw [s64_3]; decide) (by rw [s64_3]; decide) (by rw [s64_3]; rfl) rfl ?_
            refine V.aload_n dX9_ahead_161 rfl rfl rfl ?_
            refine V.getr dX9_ahead_162 fg_X9_7 rfl rfl rfl ?_
            refine V.iconst (v := 4) dX9_ahead_165 rfl rfl ?_
            refine V.ialdN (j := 4) (v := (mGo c cc k m (SV M)) 63 4) dX9_ahead_166 rfl (by decide) (by decide) rfl rfl rfl ?_
            refine V.ist_n dX9_ahead_167 rfl (by decide) (L' := [(0, .ref 62), (1, .int (nI k)), (2, .int w), (3, .int ((mGo c cc k m (SV M)) 63 4))]) rfl rfl ?_
            refine V.goto (pc' := 197) dX9_ahead_168 rfl ?_
            refine V.aload_n dX9_ahead_197 rfl rfl rfl ?_
            refine V.callv_v (M1 := SV M) (md' := m_X9_putsBack) (As := []) (rest := []) dX9_ahead_198 ml_X9_188 mo_X9_putsBack ⟨Nat.le_of_ble_eq_true rfl, Nat.le_of_ble_eq_true rfl⟩ rfl ⟨_, _, rfl⟩ (Nat.le_of_ble_eq_true rfl) rfl rfl (Nat.le_of_ble_eq_true rfl) (v_back (off_go hc k m _ (off_self M))) rfl ?_
            refine V.iload_n dX9_ahead_201 rfl rfl rfl ?_
            exact V.ret dX9_ahead_202 rfl rfl ⟨(by first | (simp (decide := true) [pAhead, ahF, c9, c27, ek, c42, s64_3]; done) | (simp (decide := true) [pAhead, ahF, c9, c27, ek, c42, s64_3]; done) | (simp (decide := true) [pAhead, ahF, c9, c27, ek, c42, s64_3]; done) | (simp_all (decide := true) [pAhead, ahF]; done) | (simp_all (decide := true) [pAhead, ahF, ltF, leF, ltFN, leFN]; done)), (by first | (simp (decide := true) [pAhead, ahF, c9, c27, ek, c42, s64_3]; done) | (simp (decide := true) [pAhead, ahF, c9, c27, ek, c42, s64_3]; done) | (simp (decide := true) [pAhead, ahF, c9, c27, ek, c42, s64_3]; done) | (simp_all (decide := true) [pAhead, ahF]; done) | (simp_all (decide := true) [pAhead, ahF, ltF, leF, ltFN, leFN]; done))⟩
          by_cases s64_4 : w = 4
          · refine V.tabIn (pc' := 171) dX9_ahead_64 (by rw [s64_4]; decide) (by rw [s64_4]; decide) (by rw [s64_4]; rfl) rfl ?_
            refine V.aload_n dX9_ahead_171 rfl rfl rfl ?_
            refine V.callv_i (M1 := mGo c cc k m (SV M)) (v := doneG (col (mGo c cc k m (SV M)) 0) (col (mGo c cc k m (SV M)) 2) (col (mGo c cc k m (SV M)) 4) c 0 0) (md' := m_X9_doneSet) (As := []) (rest := []) dX9_ahead_172 ml_X9_182 mo_X9_doneSet ⟨Nat.le_of_ble_eq_true rfl, Nat.le_of_ble_eq_true rfl⟩ rfl ⟨_, _, rfl⟩ (Nat.le_of_ble_eq_true rfl) rfl rfl (Nat.le_of_ble_eq_true rfl) (v_X9_doneSet hc _ (by have h := (WM_go hc k m _ (WM_SV hW)).1; exact h)) rfl ?_
            refine V.ist_n dX9_ahead_175 rfl (by decide) (L' := [(0, .ref 62), (1, .int (nI k)), (2, .int w), (3, .int (doneG (col (mGo c cc k m (SV M)) 0) (col (mGo c cc k m (SV M)) 2) (col (mGo c cc k m (SV M)) 4) c 0 0))]) rfl rfl ?_
            refine V.goto (pc' := 197) dX9_ahead_176 rfl ?_
            refine V.aload_n dX9_ahead_197 rfl rfl rfl ?_
            refine V.callv_v (M1 := SV M) (md' := m_X9_putsBack) (As := []) (rest := []) dX9_ahead_198 ml_X9_188 mo_X9_putsBack ⟨Nat.le_of_ble_eq_true rfl, Nat.le_of_ble_eq_true rfl⟩ rfl ⟨_, _, rfl⟩ (Nat.le_of_ble_eq_true rfl) rfl rfl (Nat.le_of_ble_eq_true rfl) (v_back (off_go hc k m _ (off_self M))) rfl ?_
            refine V.iload_n dX9_ahead_201 rfl rfl rfl ?_
            exact V.ret dX9_ahead_202 rfl rfl ⟨(by first | (simp (decide := true) [pAhead, ahF, c9, c27, ek, c42, s64_4]; done) | (simp (decide := true) [pAhead, ahF, c9, c27, ek, c42, s64_4]; done) | (simp (decide := true) [pAhead, ahF, c9, c27, ek, c42, s64_4]; done) | (simp_all (decide := true) [pAhead, ahF]; done) | (simp_all (decide := true) [pAhead, ahF, ltF, leF, ltFN, leFN]; done)), (by first | (simp (decide := true) [pAhead, ahF, c9, c27, ek, c42, s64_4]; done) | (simp (decide := true) [pAhead, ahF, c9, c27, ek, c42, s64_4]; done) | (simp (decide := true) [pAhead, ahF, c9, c27, ek, c42, s64_4]; done) | (simp_all (decide := true) [pAhead, ahF]; done) | (simp_all (decide := true) [pAhead, ahF, ltF, leF, ltFN, leFN]; done))⟩
          by_cases s64_5 : w = 5
          · refine V.tabIn (pc' := 179) dX9_ahead_64 (by rw [s64_5]; decide) (by rw [s64_5]; decide) (by rw [s64_5]; rfl) rfl ?_
            refine V.aload_n dX9_ahead_179 rfl rfl rfl ?_
            refine V.callv_i (M1 := mGo c cc k m (SV M)) (v := sumN (col (mGo c cc k m (SV M)) 1) (col (mGo c cc k m (SV M)) 4) c 0 0) (md' := m_X9_bagsLeft) (As := []) (rest := []) dX9_ahead_180 ml_X9_185 mo_X9_bagsLeft ⟨Nat.le_of_ble_eq_true rfl, Nat.le_of_ble_eq_true rfl⟩ rfl ⟨_, _, rfl⟩ (Nat.le_of_ble_eq_true rfl) rfl rfl (Nat.le_of_ble_eq_true rfl) (v_X9_bagsLeft hc _ (by have h := (WM_go hc k m _ (WM_SV hW)).1; exact h)) rfl ?_
            refine V.ist_n dX9_ahead_183 rfl (by decide) (L' := [(0, .ref 62), (1, .int (nI k)), (2, .int w), (3, .int (sumN (col (mGo c cc k m (SV M)) 1) (col (mGo c cc k m (SV M)) 4) c 0 0))]) rfl rfl ?_
            refine V.goto (pc' := 197) dX9_ahead_184 rfl ?_
            refine V.aload_n dX9_ahead_197 rfl rfl rfl ?_
            refine V.callv_v (M1 := SV M) (md' := m_X9_putsBack) (As := []) (rest := []) dX9_ahead_198 ml_X9_188 mo_X9_putsBack ⟨Nat.le_of_ble_eq_true rfl, Nat.le_of_ble_eq_true rfl⟩ rfl ⟨_, _, rfl⟩ (Nat.le_of_ble_eq_true rfl) rfl rfl (Nat.le_of_ble_eq_true rfl) (v_back (off_go hc k m _ (off_self M))) rfl ?_
            refine V.iload_n dX9_ahead_201 rfl rfl rfl ?_
            exact V.ret dX9_ahead_202 rfl rfl ⟨(by first | (simp (decide := true) [pAhead, ahF, c9, c27, ek, c42, s64_5]; done) | (simp (decide := true) [pAhead, ahF, c9, c27, ek, c42, s64_5]; done) | (simp (decide := true) [pAhead, ahF, c9, c27, ek, c42, s64_5]; done) | (simp_all (decide := true) [pAhead, ahF]; done) | (simp_all (decide := true) [pAhead, ahF, ltF, leF, ltFN, leFN]; done)), (by first | (simp (decide := true) [pAhead, ahF, c9, c27, ek, c42, s64_5]; done) | (simp (decide := true) [pAhead, ahF, c9, c27, ek, c42, s64_5]; done) | (simp (decide := true) [pAhead, ahF, c9, c27, ek, c42, s64_5]; done) | (simp_all (decide := true) [pAhead, ahF]; done) | (simp_all (decide := true) [pAhead, ahF, ltF, leF, ltFN, leFN]; done))⟩
          refine V.tabOut (pc' := 187) dX9_ahead_64 (by have q0 := lv_neT (a := 0) s64_0 rfl; have q1 := lv_neT (a := 1) s64_1 rfl; have q2 := lv_neT (a := 2) s64_2 rfl; have q3 := lv_neT (a := 3) s64_3 rfl; have q4 := lv_neT (a := 4) s64_4 rfl; have q5 := lv_neT (a := 5) s64_5 rfl; omega) rfl ?_
          obtain ⟨j, hj, ew⟩ := of_rng (b := 5 + c) c27
          · have ej : w.toNatClampNeg = j := by rw [ew]; exact nI_clamp (by omega)
            have hj6 : 6 ≤ j := by
              have n0 : ¬ j = 0 := fun q => s64_0 (by rw [ew, q]; rfl)
              have n1 : ¬ j = 1 := fun q => s64_1 (by rw [ew, q]; rfl)
              have n2 : ¬ j = 2 := fun q => s64_2 (by rw [ew, q]; rfl)
              have n3 : ¬ j = 3 := fun q => s64_3 (by rw [ew, q]; rfl)
              have n4 : ¬ j = 4 := fun q => s64_4 (by rw [ew, q]; rfl)
              have n5 : ¬ j = 5 := fun q => s64_5 (by rw [ew, q]; rfl)
              omega
            refine V.loc (L' := [(0, .ref 62), (1, .int (nI k)), (2, .int (nI j)), (3, .int 0)]) (by rw [ew]; exact fun _ zh => zh) ?_
            refine V.aload_n dX9_ahead_187 rfl rfl rfl ?_
            refine V.iload_n dX9_ahead_188 rfl rfl rfl ?_
            refine V.bipush (v := 6) dX9_ahead_189 (by decide) rfl ?_
            refine V.isub (v := nI (j - 6)) dX9_ahead_191 (pk_sub (b := 6) hj6) rfl ?_
            refine V.iconst (v := 2) dX9_ahead_192 rfl rfl ?_
            refine V.callv_i (M1 := mGo c cc k m (SV M)) (v := (mGo c cc k m (SV M)) 63 (20 + 5 * (j - 6) + 2)) (md' := m_X9_its) (As := [.int (nI (j - 6)), .int 2]) (rest := []) dX9_ahead_193 ml_X9_60 mo_X9_its ⟨Nat.le_of_ble_eq_true rfl, Nat.le_of_ble_eq_true rfl⟩ rfl ⟨_, _, rfl⟩ (Nat.le_of_ble_eq_true rfl) rfl rfl (Nat.le_of_ble_eq_true rfl) (v_X9_its (b := j - 6) (w := 2) (by omega) (by omega) _) rfl ?_
            refine V.ist_n dX9_ahead_196 rfl (by decide) (L' := [(0, .ref 62), (1, .int (nI k)), (2, .int (nI j)), (3, .int ((mGo c cc k m (SV M)) 63 (20 + 5 * (j - 6) + 2)))]) rfl rfl ?_
            refine V.aload_n dX9_ahead_197 rfl rfl rfl ?_
            refine V.callv_v (M1 := SV M) (md' := m_X9_putsBack) (As := []) (rest := []) dX9_ahead_198 ml_X9_188 mo_X9_putsBack ⟨Nat.le_of_ble_eq_true rfl, Nat.le_of_ble_eq_true rfl⟩ rfl ⟨_, _, rfl⟩ (Nat.le_of_ble_eq_true rfl) rfl rfl (Nat.le_of_ble_eq_true rfl) (v_back (off_go hc k m _ (off_self M))) rfl ?_
            refine V.iload_n dX9_ahead_201 rfl rfl rfl ?_
            exact V.ret dX9_ahead_202 rfl rfl ⟨(by first | (simp (decide := true) [pAhead, ahF, c9, c27, ek, c42, s64_0, s64_1, s64_2, s64_3, s64_4, s64_5, ← ej]; done) | (simp (decide := true) [pAhead, ahF, c9, c27, ek, c42, s64_0, s64_1, s64_2, s64_3, s64_4, s64_5, ← ej]; done) | (simp (decide := true) [pAhead, ahF, c9, c27, ek, c42, s64_0, s64_1, s64_2, s64_3, s64_4, s64_5, ← ej]; done) | (simp_all (decide := true) [pAhead, ahF]; done) | (simp_all (decide := true) [pAhead, ahF, ltF, leF, ltFN, leFN]; done)), (by first | (simp (decide := true) [pAhead, ahF, c9, c27, ek, c42, s64_0, s64_1, s64_2, s64_3, s64_4, s64_5, ← ej]; done) | (simp (decide := true) [pAhead, ahF, c9, c27, ek, c42, s64_0, s64_1, s64_2, s64_3, s64_4, s64_5, ← ej]; done) | (simp (decide := true) [pAhead, ahF, c9, c27, ek, c42, s64_0, s64_1, s64_2, s64_3, s64_4, s64_5, ← ej]; done) | (simp_all (decide := true) [pAhead, ahF]; done) | (simp_all (decide := true) [pAhead, ahF, ltF, leF, ltFN, leFN]; done))⟩
        · skip
          refine V.aload_n dX9_ahead_45 rfl rfl rfl ?_
          refine V.ldc (v := -1000005) dX9_ahead_46 cn_X9_98 rfl ?_
          refine V.callv_i (M1 := fdM 4 M) (v := -1000005) (md' := m_X9_finds) (As := [.int (-1000005)]) (rest := []) dX9_ahead_48 ml_X9_51 mo_X9_finds ⟨Nat.le_of_ble_eq_true rfl, Nat.le_of_ble_eq_true rfl⟩ rfl ⟨_, _, rfl⟩ (Nat.le_of_ble_eq_true rfl) rfl rfl (Nat.le_of_ble_eq_true rfl) (v_X9_finds (w := 4) (by decide) (-1000005) (by decide +kernel) _) rfl ?_
          exact V.ret dX9_ahead_51 rfl rfl ⟨(by first | (simp (decide := true) [pAhead, ahF, c9, c27, ek, c42]; done) | (simp (decide := true) [pAhead, ahF, c9, c27, ek, c42]; done) | (simp (decide := true) [pAhead, ahF, c9, c27, ek, c42]; done) | (simp_all (decide := true) [pAhead, ahF]; done) | (simp_all (decide := true) [pAhead, ahF, ltF, leF, ltFN, leFN]; done)), (by first | (simp (decide := true) [pAhead, ahF, c9, c27, ek, c42]; done) | (simp (decide := true) [pAhead, ahF, c9, c27, ek, c42]; done) | (simp (decide := true) [pAhead, ahF, c9, c27, ek, c42]; done) | (simp_all (decide := true) [pAhead, ahF]; done) | (simp_all (decide := true) [pAhead, ahF, ltF, leF, ltFN, leFN]; done))⟩
    · skip
      refine V.aload_n dX9_ahead_30 rfl rfl rfl ?_
      refine V.ldc (v := -1000001) dX9_ahead_31 cn_X9_37 rfl ?_
      refine V.callv_i (M1 := fdM 0 M) (v := -1000001) (md' := m_X9_finds) (As := [.int (-1000001)]) (rest := []) dX9_ahead_33 ml_X9_51 mo_X9_finds ⟨Nat.le_of_ble_eq_true rfl, Nat.le_of_ble_eq_true rfl⟩ rfl ⟨_, _, rfl⟩ (Nat.le_of_ble_eq_true rfl) rfl rfl (Nat.le_of_ble_eq_true rfl) (v_X9_finds (w := 0) (by decide) (-1000001) (by decide +kernel) _) rfl ?_
      exact V.ret dX9_ahead_36 rfl rfl ⟨(by first | (simp (decide := true) [pAhead, ahF, c9, c27]; done) | (simp (decide := true) [pAhead, ahF, c9, c27]; done) | (simp (decide := true) [pAhead, ahF, c9, c27]; done) | (simp_all (decide := true) [pAhead, ahF]; done) | (simp_all (decide := true) [pAhead, ahF, ltF, leF, ltFN, leFN]; done)), (by first | (simp (decide := true) [pAhead, ahF, c9, c27]; done) | (simp (decide := true) [pAhead, ahF, c9, c27]; done) | (simp (decide := true) [pAhead, ahF, c9, c27]; done) | (simp_all (decide := true) [pAhead, ahF]; done) | (simp_all (decide := true) [pAhead, ahF, ltF, leF, ltFN, leFN]; done))⟩
def rdG (c cc b : Nat) : Nat → Nat → Nat → Mem → Int32 × Mem
  | 0, i, _, M => (nI i, M)
  | n + 1, i, m, M => if readyF (M 63 (20 + 5 * b)) ≤ M 63 (20 + 5 * b + 2) ∧ ¬ M 63 (20 + 5 * b + 4) = 4 then (nI i, M) else rdG c cc b n (i + 1) (m + 1) (mMin c cc m M)
def buG (c cc b : Nat) : Nat → Nat → Nat → Mem → Int32 × Mem
  | 0, i, _, M => (nI i, M)
  | n + 1, i, m, M => if burntF (M 63 (20 + 5 * b)) ≤ M 63 (20 + 5 * b + 2) ∨ M 63 (20 + 5 * b + 4) = 4 then (nI i, M) else buG c cc b n (i + 1) (m + 1) (mMin c cc m M)
theorem rd_off {c cc b : Nat} (hc : c ≤ 10) {M : Mem} : ∀ (n i m : Nat) (M' : Mem), Off M' M → Off (rdG c cc b n i m M').2 M := by
  intro n
  induction n with
  | zero => intro i m M' h; exact h
  | succ n ih =>
    intro i m M' h
    simp only [rdG]
    split
    · exact h
    · exact ih _ _ _ (off_min hc h)
theorem bu_off {c cc b : Nat} (hc : c ≤ 10) {M : Mem} : ∀ (n i m : Nat) (M' : Mem), Off M' M → Off (buG c cc b n i m M').2 M := by
  intro n
  induction n with
  | zero => intro i m M' h; exact h
  | succ n ih =>
    intro i m M' h
    simp only [buG]
    split
    · exact h
    · exact ih _ _ _ (off_min hc h)
theorem rd_nat {c cc b : Nat} : ∀ (n i m : Nat) (M : Mem), ∃ k, (i ≤ k ∧ k ≤ i + n) ∧ (rdG c cc b n i m M).1 = nI k := by
  intro n
  induction n with
  | zero => intro i m M; exact ⟨i, by omega, rfl⟩
  | succ n ih =>
    intro i m M
    simp only [rdG]
    split
    · exact ⟨i, by omega, rfl⟩
    · obtain ⟨k, h1, h2⟩ := ih (i + 1) (m + 1) (mMin c cc m M)
      exact ⟨k, by omega, h2⟩
theorem bu_nat {c cc b : Nat} : ∀ (n i m : Nat) (M : Mem), ∃ k, (i ≤ k ∧ k ≤ i + n) ∧ (buG c cc b n i m M).1 = nI k := by
  intro n
  induction n with
  | zero => intro i m M; exact ⟨i, by omega, rfl⟩
  | succ n ih =>
    intro i m M
    simp only [buG]
    split
    · exact ⟨i, by omega, rfl⟩
    · obtain ⟨k, h1, h2⟩ := ih (i + 1) (m + 1) (mMin c cc m M)
      exact ⟨k, by omega, h2⟩
theorem l_X9_doneIn_rd {c : Nat} (hc : c ≤ 10) {cc : Nat} (hcc : cc ≤ 12) {b : Nat} (hb : b < 10) : ∀ (n i : Nat) (m : Nat) (M : Mem), WM c cc m M → m + n ≤ 5000 → i + n = 201 → V m_X9_doneIn 2 [(0, .ref 62), (1, .int (nI b)), (2, .int 0), (3, .int (nI i))] [] M (RT (some (.int ((rdG c cc b n i m M).1))) ((rdG c cc b n i m M).2)) := by
  intro n
  induction n with
  | zero =>
    intro i m M hW hmn hi
    refine V.iload_n dX9_doneIn_2 rfl rfl rfl ?_
    refine V.sipush (v := 201) dX9_doneIn_3 (by decide) rfl ?_
    refine V.icmp_ge (tgt := 62) dX9_doneIn_6 rfl rfl (fun c6 => ?_) (fun c6 => absurd ((nI_leI (a := 201) (b := i) (by omega) (by omega)).mpr (by omega)) c6)
    have c6 : 201 ≤ i := (nI_leI (a := 201) (b := i) (by omega) (by omega)).mp c6
    refine V.iload_n dX9_doneIn_62 rfl rfl rfl ?_
    exact V.ret dX9_doneIn_63 rfl rfl ⟨rfl, rfl⟩
  | succ n ih =>
    intro i m M hW hmn hi
    refine V.iload_n dX9_doneIn_2 rfl rfl rfl ?_
    refine V.sipush (v := 201) dX9_doneIn_3 (by decide) rfl ?_
    refine V.icmp_ge (tgt := 62) dX9_doneIn_6 rfl rfl (fun c6 => absurd ((nI_leI (a := 201) (b := i) (by omega) (by omega)).mp c6) (by omega)) (fun c6 => ?_)
    have c6 : ¬ 201 ≤ i := fun zq => c6 ((nI_leI (a := 201) (b := i) (by omega) (by omega)).mpr zq)
    refine V.iload_n dX9_doneIn_9 rfl rfl rfl ?_
    refine V.if_eq (tgt := 34) dX9_doneIn_10 rfl rfl (fun _ => ?_) (fun c10 => absurd c10 (by decide))
    refine V.aload_n dX9_doneIn_34 rfl rfl rfl ?_
    refine V.iload_n dX9_doneIn_35 rfl rfl rfl ?_
    refine V.callv_i (M1 := M) (v := if readyF (M 63 (20 + 5 * b)) ≤ M 63 (20 + 5 * b + 2) then 1 else 0) (md' := m_X9_isReady) (As := [.int (nI b)]) (rest := []) dX9_doneIn_36 ml_X9_114 mo_X9_isReady ⟨Nat.le_of_ble_eq_true rfl, Nat.le_of_ble_eq_true rfl⟩ rfl ⟨_, _, rfl⟩ (Nat.le_of_ble_eq_true rfl) rfl rfl (Nat.le_of_ble_eq_true rfl) (v_X9_isReady (b := b) (by omega) _) rfl ?_
    refine V.ifb_eq (tgt := 52) dX9_doneIn_39 rfl rfl (fun c39 => ?_) (fun c39 => ?_)
    · skip
      refine V.aload_n dX9_doneIn_52 rfl rfl rfl ?_
      refine V.callv_v (M1 := mMin c cc m M) (md' := m_X9_minute) (As := []) (rest := []) dX9_doneIn_53 ml_X9_166 mo_X9_minute ⟨Nat.le_of_ble_eq_true rfl, Nat.le_of_ble_eq_true rfl⟩ rfl ⟨_, _, rfl⟩ (Nat.le_of_ble_eq_true rfl) rfl rfl (Nat.le_of_ble_eq_true rfl) (v_X9_minute hc hcc (by omega) M hW) rfl ?_
      refine V.inc (v := nI (i + 1)) dX9_doneIn_56 rfl (nI_1 _) (by decide) (L' := [(0, .ref 62), (1, .int (nI b)), (2, .int 0), (3, .int (nI (i + 1)))]) rfl rfl ?_
      refine V.goto (pc' := 2) dX9_doneIn_59 rfl ?_
      rw [show rdG c cc b (n + 1) i m M = rdG c cc b n (i + 1) (m + 1) (mMin c cc m M) from by simp only [rdG]; rw [if_neg (fun q => c39 q.1)]]
      exact ih (i + 1) (m + 1) _ (WM_min hc hW) (by omega) (by omega)
    · skip
      refine V.aload_n dX9_doneIn_42 rfl rfl rfl ?_
      refine V.iload_n dX9_doneIn_43 rfl rfl rfl ?_
      refine V.iconst (v := 4) dX9_doneIn_44 rfl rfl ?_
      refine V.callv_i (M1 := M) (v := M 63 (20 + 5 * b + 4)) (md' := m_X9_its) (As := [.int (nI b), .int 4]) (rest := []) dX9_doneIn_45 ml_X9_60 mo_X9_its ⟨Nat.le_of_ble_eq_true rfl, Nat.le_of_ble_eq_true rfl⟩ rfl ⟨_, _, rfl⟩ (Nat.le_of_ble_eq_true rfl) rfl rfl (Nat.le_of_ble_eq_true rfl) (v_X9_its (b := b) (w := 4) (by omega) (by omega) _) rfl ?_
      refine V.iconst (v := 4) dX9_doneIn_48 rfl rfl ?_
      refine V.icmp_ne (tgt := 62) dX9_doneIn_49 rfl rfl (fun c49 => ?_) (fun c49 => ?_)
      · skip
        refine V.iload_n dX9_doneIn_62 rfl rfl rfl ?_
        exact V.ret dX9_doneIn_63 rfl rfl ⟨(by simp only [rdG]; rw [if_pos ⟨c39, c49⟩]), (by simp only [rdG]; rw [if_pos ⟨c39, c49⟩])⟩
      · skip
        refine V.aload_n dX9_doneIn_52 rfl rfl rfl ?_
        refine V.callv_v (M1 := mMin c cc m M) (md' := m_X9_minute) (As := []) (rest := []) dX9_doneIn_53 ml_X9_166 mo_X9_minute ⟨Nat.le_of_ble_eq_true rfl, Nat.le_of_ble_eq_true rfl⟩ rfl ⟨_, _, rfl⟩ (Nat.le_of_ble_eq_true rfl) rfl rfl (Nat.le_of_ble_eq_true rfl) (v_X9_minute hc hcc (by omega) M hW) rfl ?_
        refine V.inc (v := nI (i + 1)) dX9_doneIn_56 rfl (nI_1 _) (by decide) (L' := [(0, .ref 62), (1, .int (nI b)), (2, .int 0), (3, .int (nI (i + 1)))]) rfl rfl ?_
        refine V.goto (pc' := 2) dX9_doneIn_59 rfl ?_
        rw [show rdG c cc b (n + 1) i m M = rdG c cc b n (i + 1) (m + 1) (mMin c cc m M) from by simp only [rdG]; rw [if_neg (fun q => q.2 c49)]]
        exact ih (i + 1) (m + 1) _ (WM_min hc hW) (by omega) (by omega)
theorem l_X9_doneIn_bu {c : Nat} (hc : c ≤ 10) {cc : Nat} (hcc : cc ≤ 12) {b : Nat} (hb : b < 10) : ∀ (n i : Nat) (m : Nat) (M : Mem), WM c cc m M → m + n ≤ 5000 → i + n = 201 → V m_X9_doneIn 2 [(0, .ref 62), (1, .int (nI b)), (2, .int 1), (3, .int (nI i))] [] M (RT (some (.int ((buG c cc b n i m M).1))) ((buG c cc b n i m M).2)) := by
  intro n
  induction n with
  | zero =>
    intro i m M hW hmn hi
    refine V.iload_n dX9_doneIn_2 rfl rfl rfl ?_
    refine V.sipush (v := 201) dX9_doneIn_3 (by decide) rfl ?_
    refine V.icmp_ge (tgt := 62) dX9_doneIn_6 rfl rfl (fun c6 => ?_) (fun c6 => absurd ((nI_leI (a := 201) (b := i) (by omega) (by omega)).mpr (by omega)) c6)
    have c6 : 201 ≤ i := (nI_leI (a := 201) (b := i) (by omega) (by omega)).mp c6
    refine V.iload_n dX9_doneIn_62 rfl rfl rfl ?_
    exact V.ret dX9_doneIn_63 rfl rfl ⟨rfl, rfl⟩
  | succ n ih =>
    intro i m M hW hmn hi
    refine V.iload_n dX9_doneIn_2 rfl rfl rfl ?_
    refine V.sipush (v := 201) dX9_doneIn_3 (by decide) rfl ?_
    refine V.icmp_ge (tgt := 62) dX9_doneIn_6 rfl rfl (fun c6 => absurd ((nI_leI (a := 201) (b := i) (by omega) (by omega)).mp c6) (by omega)) (fun c6 => ?_)
    have c6 : ¬ 201 ≤ i := fun zq => c6 ((nI_leI (a := 201) (b := i) (by omega) (by omega)).mpr zq)
    refine V.iload_n dX9_doneIn_9 rfl rfl rfl ?_
    refine V.if_eq (tgt := 34) dX9_doneIn_10 rfl rfl (fun c10 => absurd c10 (by decide)) (fun _ => ?_)
    refine V.aload_n dX9_doneIn_13 rfl rfl rfl ?_
    refine V.iload_n dX9_doneIn_14 rfl rfl rfl ?_
    refine V.callv_i (M1 := M) (v := if burntF (M 63 (20 + 5 * b)) ≤ M 63 (20 + 5 * b + 2) then 1 else 0) (md' := m_X9_isBurnt) (As := [.int (nI b)]) (rest := []) dX9_doneIn_15 ml_X9_111 mo_X9_isBurnt ⟨Nat.le_of_ble_eq_true rfl, Nat.le_of_ble_eq_true rfl⟩ rfl ⟨_, _, rfl⟩ (Nat.le_of_ble_eq_true rfl) rfl rfl (Nat.le_of_ble_eq_true rfl) (v_X9_isBurnt (b := b) (by omega) _) rfl ?_
    refine V.ifb_ne (tgt := 62) dX9_doneIn_18 rfl rfl (fun c18 => ?_) (fun c18 => ?_)
    · skip
      refine V.iload_n dX9_doneIn_62 rfl rfl rfl ?_
      exact V.ret dX9_doneIn_63 rfl rfl ⟨(by simp only [buG]; rw [if_pos (Or.inl c18)]), (by simp only [buG]; rw [if_pos (Or.inl c18)])⟩
    · skip
      refine V.aload_n dX9_doneIn_21 rfl rfl rfl ?_
      refine V.iload_n dX9_doneIn_22 rfl rfl rfl ?_
      refine V.iconst (v := 4) dX9_doneIn_23 rfl rfl ?_
      refine V.callv_i (M1 := M) (v := M 63 (20 + 5 * b + 4)) (md' := m_X9_its) (As := [.int (nI b), .int 4]) (rest := []) dX9_doneIn_24 ml_X9_60 mo_X9_its ⟨Nat.le_of_ble_eq_true rfl, Nat.le_of_ble_eq_true rfl⟩ rfl ⟨_, _, rfl⟩ (Nat.le_of_ble_eq_true rfl) rfl rfl (Nat.le_of_ble_eq_true rfl) (v_X9_its (b := b) (w := 4) (by omega) (by omega) _) rfl ?_
      refine V.iconst (v := 4) dX9_doneIn_27 rfl rfl ?_
      refine V.icmp_ne (tgt := 52) dX9_doneIn_28 rfl rfl (fun c28 => ?_) (fun c28 => ?_)
      · skip
        refine V.aload_n dX9_doneIn_52 rfl rfl rfl ?_
        refine V.callv_v (M1 := mMin c cc m M) (md' := m_X9_minute) (As := []) (rest := []) dX9_doneIn_53 ml_X9_166 mo_X9_minute ⟨Nat.le_of_ble_eq_true rfl, Nat.le_of_ble_eq_true rfl⟩ rfl ⟨_, _, rfl⟩ (Nat.le_of_ble_eq_true rfl) rfl rfl (Nat.le_of_ble_eq_true rfl) (v_X9_minute hc hcc (by omega) M hW) rfl ?_
        refine V.inc (v := nI (i + 1)) dX9_doneIn_56 rfl (nI_1 _) (by decide) (L' := [(0, .ref 62), (1, .int (nI b)), (2, .int 1), (3, .int (nI (i + 1)))]) rfl rfl ?_
        refine V.goto (pc' := 2) dX9_doneIn_59 rfl ?_
        rw [show buG c cc b (n + 1) i m M = buG c cc b n (i + 1) (m + 1) (mMin c cc m M) from by simp only [buG]; rw [if_neg (fun q => q.elim c18 c28)]]
        exact ih (i + 1) (m + 1) _ (WM_min hc hW) (by omega) (by omega)
      · skip
        refine V.goto (pc' := 62) dX9_doneIn_31 rfl ?_
        refine V.iload_n dX9_doneIn_62 rfl rfl rfl ?_
        exact V.ret dX9_doneIn_63 rfl rfl ⟨(by simp only [buG]; rw [if_pos (Or.inr c28)]), (by simp only [buG]; rw [if_pos (Or.inr c28)])⟩
def dnP (k : Int32) (Mx : Mem) : Int32 × Mem := if 200 < k then (-1000004, fdM 3 Mx) else (k, Mx)
theorem l_X9_doneIn_rd_0 {c : Nat} (hc : c ≤ 10) {cc : Nat} (hcc : cc ≤ 12) {b : Nat} (hb : b < 10) (m : Nat) (M : Mem) (hW : WM c cc m M) (hm : m + 201 ≤ 5000) : V m_X9_doneIn 0 [(0, .ref 62), (1, .int (nI b)), (2, .int 0)] [] M (RT (some (.int (rdG c cc b 201 0 m M).1)) (rdG c cc b 201 0 m M).2) := by
  refine V.iconst (v := 0) dX9_doneIn_0 rfl rfl ?_
  refine V.ist_n dX9_doneIn_1 rfl (by decide) (L' := [(0, .ref 62), (1, .int (nI b)), (2, .int 0), (3, .int 0)]) rfl rfl ?_
  exact l_X9_doneIn_rd hc hcc hb 201 0 m M hW hm rfl
def pReady (c cc m : Nat) (x : Int32) (M : Mem) : Int32 × Mem := if ¬ isB c x then (-1000001, fdM 0 M) else if M 63 (20 + 5 * x.toNatClampNeg + 4) = 4 ∨ 999 < m + 200 then (-1000005, fdM 4 M) else dnP (rdG c cc x.toNatClampNeg 201 0 m (SV M)).1 (SV M)
theorem v_X9_doneFrom_rd {c : Nat} (hc : c ≤ 10) {cc : Nat} (hcc : cc ≤ 12) {m : Nat} (hm : m ≤ 3000) (x : Int32) (M : Mem) (hM : M 63 1 = nI c) (h0 : M 63 0 = nI m) (hW : WM c cc m M) : V m_X9_doneFrom 0 [(0, .ref 62), (1, .int x), (2, .int 0)] [] M (RT (some (.int ((pReady c cc m x M).1))) ((pReady c cc m x M).2)) := by
  refine V.aload_n dX9_doneFrom_0 rfl rfl rfl ?_
  refine V.iload_n dX9_doneFrom_1 rfl rfl rfl ?_
  refine V.callv_i (M1 := M) (v := if isB c x then 1 else 0) (md' := m_X9_isBatch) (As := [.int x]) (rest := []) dX9_doneFrom_2 ml_X9_66 mo_X9_isBatch ⟨Nat.le_of_ble_eq_true rfl, Nat.le_of_ble_eq_true rfl⟩ rfl ⟨_, _, rfl⟩ (Nat.le_of_ble_eq_true rfl) rfl rfl (Nat.le_of_ble_eq_true rfl) (v_X9_isBatch hc x M hM) rfl ?_
  refine V.ifb_ne (tgt := 15) dX9_doneFrom_5 rfl rfl (fun c5 => ?_) (fun c5 => ?_)
  · skip
    obtain ⟨b, hb, rfl⟩ := of_isB c5
    · have eb : (nI b).toNatClampNeg = b := nI_clamp (by omega)
      refine V.aload_n dX9_doneFrom_15 rfl rfl rfl ?_
      refine V.iload_n dX9_doneFrom_16 rfl rfl rfl ?_
      refine V.iconst (v := 4) dX9_doneFrom_17 rfl rfl ?_
      refine V.callv_i (M1 := M) (v := M 63 (20 + 5 * b + 4)) (md' := m_X9_its) (As := [.int (nI b), .int 4]) (rest := []) dX9_doneFrom_18 ml_X9_60 mo_X9_its ⟨Nat.le_of_ble_eq_true rfl, Nat.le_of_ble_eq_true rfl⟩ rfl ⟨_, _, rfl⟩ (Nat.le_of_ble_eq_true rfl) rfl rfl (Nat.le_of_ble_eq_true rfl) (v_X9_its (b := b) (w := 4) (by omega) (by omega) _) rfl ?_
      refine V.iconst (v := 4) dX9_doneFrom_21 rfl rfl ?_
      refine V.icmp_eq (tgt := 35) dX9_doneFrom_22 rfl rfl (fun c22 => ?_) (fun c22 => ?_)
      · skip
        refine V.aload_n dX9_doneFrom_35 rfl rfl rfl ?_
        refine V.ldc (v := -1000005) dX9_doneFrom_36 cn_X9_98 rfl ?_
        refine V.callv_i (M1 := fdM 4 M) (v := -1000005) (md' := m_X9_finds) (As := [.int (-1000005)]) (rest := []) dX9_doneFrom_38 ml_X9_51 mo_X9_finds ⟨Nat.le_of_ble_eq_true rfl, Nat.le_of_ble_eq_true rfl⟩ rfl ⟨_, _, rfl⟩ (Nat.le_of_ble_eq_true rfl) rfl rfl (Nat.le_of_ble_eq_true rfl) (v_X9_finds (w := 4) (by decide) (-1000005) (by decide +kernel) _) rfl ?_
        exact V.ret dX9_doneFrom_41 rfl rfl ⟨(by first | (simp (decide := true) [pReady, dnP, c5, eb, c22]; done) | (simp (decide := true) [pReady, dnP, c5, eb, c22, ltF, leF]; done)), (by first | (simp (decide := true) [pReady, dnP, c5, eb, c22]; done) | (simp (decide := true) [pReady, dnP, c5, eb, c22, ltF, leF]; done))⟩
      · skip
        refine V.aload_n dX9_doneFrom_25 rfl rfl rfl ?_
        refine V.sipush (v := 200) dX9_doneFrom_26 (by decide) rfl ?_
        refine V.callv_i (M1 := M) (v := if 999 < m + 200 then 1 else 0) (md' := m_X9_isTooLate) (As := [.int 200]) (rest := []) dX9_doneFrom_29 ml_X9_171 mo_X9_isTooLate ⟨Nat.le_of_ble_eq_true rfl, Nat.le_of_ble_eq_true rfl⟩ rfl ⟨_, _, rfl⟩ (Nat.le_of_ble_eq_true rfl) rfl rfl (Nat.le_of_ble_eq_true rfl) (v_X9_isTooLate (n := 200) (by omega) (by decide) M h0) rfl ?_
        refine V.ifb_eq (tgt := 42) dX9_doneFrom_32 rfl rfl (fun c32 => ?_) (fun c32 => ?_)
        · skip
          refine V.aload_n dX9_doneFrom_42 rfl rfl rfl ?_
          refine V.callv_v (M1 := SV M) (md' := m_X9_saves) (As := []) (rest := []) dX9_doneFrom_43 ml_X9_179 mo_X9_saves ⟨Nat.le_of_ble_eq_true rfl, Nat.le_of_ble_eq_true rfl⟩ rfl ⟨_, _, rfl⟩ (Nat.le_of_ble_eq_true rfl) rfl rfl (Nat.le_of_ble_eq_true rfl) (v_X9_saves M) rfl ?_
          refine V.aload_n dX9_doneFrom_46 rfl rfl rfl ?_
          refine V.iload_n dX9_doneFrom_47 rfl rfl rfl ?_
          refine V.iload_n dX9_doneFrom_48 rfl rfl rfl ?_
          refine V.callv_i (M1 := (rdG c cc b 201 0 m (SV M)).2) (v := (rdG c cc b 201 0 m (SV M)).1) (md' := m_X9_doneIn) (As := [.int (nI b), .int 0]) (rest := []) dX9_doneFrom_49 ml_X9_191 mo_X9_doneIn ⟨Nat.le_of_ble_eq_true rfl, Nat.le_of_ble_eq_true rfl⟩ rfl ⟨_, _, rfl⟩ (Nat.le_of_ble_eq_true rfl) rfl rfl (Nat.le_of_ble_eq_true rfl) (l_X9_doneIn_rd_0 hc hcc (b := b) (by omega) m (SV M) (WM_SV hW) (by omega)) rfl ?_
          refine V.ist_n dX9_doneFrom_52 rfl (by decide) (L' := [(0, .ref 62), (1, .int (nI b)), (2, .int 0), (3, .int ((rdG c cc b 201 0 m (SV M)).1))]) rfl rfl ?_
          refine V.aload_n dX9_doneFrom_53 rfl rfl rfl ?_
          refine V.callv_v (M1 := SV M) (md' := m_X9_putsBack) (As := []) (rest := []) dX9_doneFrom_54 ml_X9_188 mo_X9_putsBack ⟨Nat.le_of_ble_eq_true rfl, Nat.le_of_ble_eq_true rfl⟩ rfl ⟨_, _, rfl⟩ (Nat.le_of_ble_eq_true rfl) rfl rfl (Nat.le_of_ble_eq_true rfl) (v_back (rd_off hc 201 0 m _ (off_self M))) rfl ?_
          refine V.iload_n dX9_doneFrom_57 rfl rfl rfl ?_
          refine V.sipush (v := 200) dX9_doneFrom_58 (by decide) rfl ?_
          refine V.icmp_le (tgt := 73) dX9_doneFrom_61 rfl rfl (fun c61 => ?_) (fun c61 => ?_)
          · have d61 := Int32.not_lt.mpr c61
            refine V.iload_n dX9_doneFrom_73 rfl rfl rfl ?_
            exact V.ret dX9_doneFrom_74 rfl rfl ⟨(by first | (simp (decide := true) [pReady, dnP, c5, eb, c22, c32, c61, d61]; done) | (simp (decide := true) [pReady, dnP, c5, eb, c22, c32, c61, d61, ltF, leF]; done)), (by first | (simp (decide := true) [pReady, dnP, c5, eb, c22, c32, c61, d61]; done) | (simp (decide := true) [pReady, dnP, c5, eb, c22, c32, c61, d61, ltF, leF]; done))⟩
          · have d61 := Int32.not_le.mp c61
            refine V.aload_n dX9_doneFrom_64 rfl rfl rfl ?_
            refine V.ldc (v := -1000004) dX9_doneFrom_65 cn_X9_195 rfl ?_
            refine V.callv_i (M1 := fdM 3 (SV M)) (v := -1000004) (md' := m_X9_finds) (As := [.int (-1000004)]) (rest := []) dX9_doneFrom_67 ml_X9_51 mo_X9_finds ⟨Nat.le_of_ble_eq_true rfl, Nat.le_of_ble_eq_true rfl⟩ rfl ⟨_, _, rfl⟩ (Nat.le_of_ble_eq_true rfl) rfl rfl (Nat.le_of_ble_eq_true rfl) (v_X9_finds (w := 3) (by decide) (-1000004) (by decide +kernel) _) rfl ?_
            refine V.goto (pc' := 74) dX9_doneFrom_70 rfl ?_
            exact V.ret dX9_doneFrom_74 rfl rfl ⟨(by first | (simp (decide := true) [pReady, dnP, c5, eb, c22, c32, c61, d61]; done) | (simp (decide := true) [pReady, dnP, c5, eb, c22, c32, c61, d61, ltF, leF]; done)), (by first | (simp (decide := true) [pReady, dnP, c5, eb, c22, c32, c61, d61]; done) | (simp (decide := true) [pReady, dnP, c5, eb, c22, c32, c61, d61, ltF, leF]; done))⟩
        · skip
          refine V.aload_n dX9_doneFrom_35 rfl rfl rfl ?_
          refine V.ldc (v := -1000005) dX9_doneFrom_36 cn_X9_98 rfl ?_
          refine V.callv_i (M1 := fdM 4 M) (v := -1000005) (md' := m_X9_finds) (As := [.int (-1000005)]) (rest := []) dX9_doneFrom_38 ml_X9_51 mo_X9_finds ⟨Nat.le_of_ble_eq_true rfl, Nat.le_of_ble_eq_true rfl⟩ rfl ⟨_, _, rfl⟩ (Nat.le_of_ble_eq_true rfl) rfl rfl (Nat.le_of_ble_eq_true rfl) (v_X9_finds (w := 4) (by decide) (-1000005) (by decide +kernel) _) rfl ?_
          exact V.ret dX9_doneFrom_41 rfl rfl ⟨(by first | (simp (decide := true) [pReady, dnP, c5, eb, c22, c32]; done) | (simp (decide := true) [pReady, dnP, c5, eb, c22, c32, ltF, leF]; done)), (by first | (simp (decide := true) [pReady, dnP, c5, eb, c22, c32]; done) | (simp (decide := true) [pReady, dnP, c5, eb, c22, c32, ltF, leF]; done))⟩
  · skip
    refine V.aload_n dX9_doneFrom_8 rfl rfl rfl ?_
    refine V.ldc (v := -1000001) dX9_doneFrom_9 cn_X9_37 rfl ?_
    refine V.callv_i (M1 := fdM 0 M) (v := -1000001) (md' := m_X9_finds) (As := [.int (-1000001)]) (rest := []) dX9_doneFrom_11 ml_X9_51 mo_X9_finds ⟨Nat.le_of_ble_eq_true rfl, Nat.le_of_ble_eq_true rfl⟩ rfl ⟨_, _, rfl⟩ (Nat.le_of_ble_eq_true rfl) rfl rfl (Nat.le_of_ble_eq_true rfl) (v_X9_finds (w := 0) (by decide) (-1000001) (by decide +kernel) _) rfl ?_
    exact V.ret dX9_doneFrom_14 rfl rfl ⟨(by first | (simp (decide := true) [pReady, dnP, c5]; done) | (simp (decide := true) [pReady, dnP, c5, ltF, leF]; done)), (by first | (simp (decide := true) [pReady, dnP, c5]; done) | (simp (decide := true) [pReady, dnP, c5, ltF, leF]; done))⟩
theorem v_X9_ready {c : Nat} (hc : c ≤ 10) {cc : Nat} (hcc : cc ≤ 12) {m : Nat} (hm : m ≤ 3000) (x : Int32) (M : Mem) (hM : M 63 1 = nI c) (h0 : M 63 0 = nI m) (hW : WM c cc m M) : V m_X9_ready 0 [(0, .ref 62), (1, .int x)] [] M (RT (some (.int ((pReady c cc m x M).1))) ((pReady c cc m x M).2)) := by
  refine V.aload_n dX9_ready_0 rfl rfl rfl ?_
  refine V.iload_n dX9_ready_1 rfl rfl rfl ?_
  refine V.iconst (v := 0) dX9_ready_2 rfl rfl ?_
  refine V.callv_i (M1 := (pReady c cc m x M).2) (v := (pReady c cc m x M).1) (md' := m_X9_doneFrom) (As := [.int x, .int 0]) (rest := []) dX9_ready_3 ml_X9_196 mo_X9_doneFrom ⟨Nat.le_of_ble_eq_true rfl, Nat.le_of_ble_eq_true rfl⟩ rfl ⟨_, _, rfl⟩ (Nat.le_of_ble_eq_true rfl) rfl rfl (Nat.le_of_ble_eq_true rfl) (v_X9_doneFrom_rd hc hcc hm x M hM h0 hW) rfl ?_
  exact V.ret dX9_ready_6 rfl rfl ⟨rfl, rfl⟩
theorem l_X9_doneIn_bu_0 {c : Nat} (hc : c ≤ 10) {cc : Nat} (hcc : cc ≤ 12) {b : Nat} (hb : b < 10) (m : Nat) (M : Mem) (hW : WM c cc m M) (hm : m + 201 ≤ 5000) : V m_X9_doneIn 0 [(0, .ref 62), (1, .int (nI b)), (2, .int 1)] [] M (RT (some (.int (buG c cc b 201 0 m M).1)) (buG c cc b 201 0 m M).2) := by
  refine V.iconst (v := 0) dX9_doneIn_0 rfl rfl ?_
  refine V.ist_n dX9_doneIn_1 rfl (by decide) (L' := [(0, .ref 62), (1, .int (nI b)), (2, .int 1), (3, .int 0)]) rfl rfl ?_
  exact l_X9_doneIn_bu hc hcc hb 201 0 m M hW hm rfl
def pBurnt (c cc m : Nat) (x : Int32) (M : Mem) : Int32 × Mem := if ¬ isB c x then (-1000001, fdM 0 M) else if M 63 (20 + 5 * x.toNatClampNeg + 4) = 4 ∨ 999 < m + 200 then (-1000005, fdM 4 M) else dnP (buG c cc x.toNatClampNeg 201 0 m (SV M)).1 (SV M)
theorem v_X9_doneFrom_bu {c : Nat} (hc : c ≤ 10) {cc : Nat} (hcc : cc ≤ 12) {m : Nat} (hm : m ≤ 3000) (x : Int32) (M : Mem) (hM : M 63 1 = nI c) (h0 : M 63 0 = nI m) (hW : WM c cc m M) : V m_X9_doneFrom 0 [(0, .ref 62), (1, .int x), (2, .int 1)] [] M (RT (some (.int ((pBurnt c cc m x M).1))) ((pBurnt c cc m x M).2)) := by
  refine V.aload_n dX9_doneFrom_0 rfl rfl rfl ?_
  refine V.iload_n dX9_doneFrom_1 rfl rfl rfl ?_
  refine V.callv_i (M1 := M) (v := if isB c x then 1 else 0) (md' := m_X9_isBatch) (As := [.int x]) (rest := []) dX9_doneFrom_2 ml_X9_66 mo_X9_isBatch ⟨Nat.le_of_ble_eq_true rfl, Nat.le_of_ble_eq_true rfl⟩ rfl ⟨_, _, rfl⟩ (Nat.le_of_ble_eq_true rfl) rfl rfl (Nat.le_of_ble_eq_true rfl) (v_X9_isBatch hc x M hM) rfl ?_
  refine V.ifb_ne (tgt := 15) dX9_doneFrom_5 rfl rfl (fun c5 => ?_) (fun c5 => ?_)
  · skip
    obtain ⟨b, hb, rfl⟩ := of_isB c5
    · have eb : (nI b).toNatClampNeg = b := nI_clamp (by omega)
      refine V.aload_n dX9_doneFrom_15 rfl rfl rfl ?_
      refine V.iload_n dX9_doneFrom_16 rfl rfl rfl ?_
      refine V.iconst (v := 4) dX9_doneFrom_17 rfl rfl ?_
      refine V.callv_i (M1 := M) (v := M 63 (20 + 5 * b + 4)) (md' := m_X9_its) (As := [.int (nI b), .int 4]) (rest := []) dX9_doneFrom_18 ml_X9_60 mo_X9_its ⟨Nat.le_of_ble_eq_true rfl, Nat.le_of_ble_eq_true rfl⟩ rfl ⟨_, _, rfl⟩ (Nat.le_of_ble_eq_true rfl) rfl rfl (Nat.le_of_ble_eq_true rfl) (v_X9_its (b := b) (w := 4) (by omega) (by omega) _) rfl ?_
      refine V.iconst (v := 4) dX9_doneFrom_21 rfl rfl ?_
      refine V.icmp_eq (tgt := 35) dX9_doneFrom_22 rfl rfl (fun c22 => ?_) (fun c22 => ?_)
      · skip
        refine V.aload_n dX9_doneFrom_35 rfl rfl rfl ?_
        refine V.ldc (v := -1000005) dX9_doneFrom_36 cn_X9_98 rfl ?_
        refine V.callv_i (M1 := fdM 4 M) (v := -1000005) (md' := m_X9_finds) (As := [.int (-1000005)]) (rest := []) dX9_doneFrom_38 ml_X9_51 mo_X9_finds ⟨Nat.le_of_ble_eq_true rfl, Nat.le_of_ble_eq_true rfl⟩ rfl ⟨_, _, rfl⟩ (Nat.le_of_ble_eq_true rfl) rfl rfl (Nat.le_of_ble_eq_true rfl) (v_X9_finds (w := 4) (by decide) (-1000005) (by decide +kernel) _) rfl ?_
        exact V.ret dX9_doneFrom_41 rfl rfl ⟨(by first | (simp (decide := true) [pBurnt, dnP, c5, eb, c22]; done) | (simp (decide := true) [pBurnt, dnP, c5, eb, c22, ltF, leF]; done)), (by first | (simp (decide := true) [pBurnt, dnP, c5, eb, c22]; done) | (simp (decide := true) [pBurnt, dnP, c5, eb, c22, ltF, leF]; done))⟩
      · skip
        refine V.aload_n dX9_doneFrom_25 rfl rfl rfl ?_
        refine V.sipush (v := 200) dX9_doneFrom_26 (by decide) rfl ?_
        refine V.callv_i (M1 := M) (v := if 999 < m + 200 then 1 else 0) (md' := m_X9_isTooLate) (As := [.int 200]) (rest := []) dX9_doneFrom_29 ml_X9_171 mo_X9_isTooLate ⟨Nat.le_of_ble_eq_true rfl, Nat.le_of_ble_eq_true rfl⟩ rfl ⟨_, _, rfl⟩ (Nat.le_of_ble_eq_true rfl) rfl rfl (Nat.le_of_ble_eq_true rfl) (v_X9_isTooLate (n := 200) (by omega) (by decide) M h0) rfl ?_
        refine V.ifb_eq (tgt := 42) dX9_doneFrom_32 rfl rfl (fun c32 => ?_) (fun c32 => ?_)
        · skip
          refine V.aload_n dX9_doneFrom_42 rfl rfl rfl ?_
          refine V.callv_v (M1 := SV M) (md' := m_X9_saves) (As := []) (rest := []) dX9_doneFrom_43 ml_X9_179 mo_X9_saves ⟨Nat.le_of_ble_eq_true rfl, Nat.le_of_ble_eq_true rfl⟩ rfl ⟨_, _, rfl⟩ (Nat.le_of_ble_eq_true rfl) rfl rfl (Nat.le_of_ble_eq_true rfl) (v_X9_saves M) rfl ?_
          refine V.aload_n dX9_doneFrom_46 rfl rfl rfl ?_
          refine V.iload_n dX9_doneFrom_47 rfl rfl rfl ?_
          refine V.iload_n dX9_doneFrom_48 rfl rfl rfl ?_
          refine V.callv_i (M1 := (buG c cc b 201 0 m (SV M)).2) (v := (buG c cc b 201 0 m (SV M)).1) (md' := m_X9_doneIn) (As := [.int (nI b), .int 1]) (rest := []) dX9_doneFrom_49 ml_X9_191 mo_X9_doneIn ⟨Nat.le_of_ble_eq_true rfl, Nat.le_of_ble_eq_true rfl⟩ rfl ⟨_, _, rfl⟩ (Nat.le_of_ble_eq_true rfl) rfl rfl (Nat.le_of_ble_eq_true rfl) (l_X9_doneIn_bu_0 hc hcc (b := b) (by omega) m (SV M) (WM_SV hW) (by omega)) rfl ?_
          refine V.ist_n dX9_doneFrom_52 rfl (by decide) (L' := [(0, .ref 62), (1, .int (nI b)), (2, .int 1), (3, .int ((buG c cc b 201 0 m (SV M)).1))]) rfl rfl ?_
          refine V.aload_n dX9_doneFrom_53 rfl rfl rfl ?_
          refine V.callv_v (M1 := SV M) (md' := m_X9_putsBack) (As := []) (rest := []) dX9_doneFrom_54 ml_X9_188 mo_X9_putsBack ⟨Nat.le_of_ble_eq_true rfl, Nat.le_of_ble_eq_true rfl⟩ rfl ⟨_, _, rfl⟩ (Nat.le_of_ble_eq_true rfl) rfl rfl (Nat.le_of_ble_eq_true rfl) (v_back (bu_off hc 201 0 m _ (off_self M))) rfl ?_
          refine V.iload_n dX9_doneFrom_57 rfl rfl rfl ?_
          refine V.sipush (v := 200) dX9_doneFrom_58 (by decide) rfl ?_
          refine V.icmp_le (tgt := 73) dX9_doneFrom_61 rfl rfl (fun c61 => ?_) (fun c61 => ?_)
          · have d61 := Int32.not_lt.mpr c61
            refine V.iload_n dX9_doneFrom_73 rfl rfl rfl ?_
            exact V.ret dX9_doneFrom_74 rfl rfl ⟨(by first | (simp (decide := true) [pBurnt, dnP, c5, eb, c22, c32, c61, d61]; done) | (simp (decide := true) [pBurnt, dnP, c5, eb, c22, c32, c61, d61, ltF, leF]; done)), (by first | (simp (decide := true) [pBurnt, dnP, c5, eb, c22, c32, c61, d61]; done) | (simp (decide := true) [pBurnt, dnP, c5, eb, c22, c32, c61, d61, ltF, leF]; done))⟩
          · have d61 := Int32.not_le.mp c61
            refine V.aload_n dX9_doneFrom_64 rfl rfl rfl ?_
            refine V.ldc (v := -1000004) dX9_doneFrom_65 cn_X9_195 rfl ?_
            refine V.callv_i (M1 := fdM 3 (SV M)) (v := -1000004) (md' := m_X9_finds) (As := [.int (-1000004)]) (rest := []) dX9_doneFrom_67 ml_X9_51 mo_X9_finds ⟨Nat.le_of_ble_eq_true rfl, Nat.le_of_ble_eq_true rfl⟩ rfl ⟨_, _, rfl⟩ (Nat.le_of_ble_eq_true rfl) rfl rfl (Nat.le_of_ble_eq_true rfl) (v_X9_finds (w := 3) (by decide) (-1000004) (by decide +kernel) _) rfl ?_
            refine V.goto (pc' := 74) dX9_doneFrom_70 rfl ?_
            exact V.ret dX9_doneFrom_74 rfl rfl ⟨(by first | (simp (decide := true) [pBurnt, dnP, c5, eb, c22, c32, c61, d61]; done) | (simp (decide := true) [pBurnt, dnP, c5, eb, c22, c32, c61, d61, ltF, leF]; done)), (by first | (simp (decide := true) [pBurnt, dnP, c5, eb, c22, c32, c61, d61]; done) | (simp (decide := true) [pBurnt, dnP, c5, eb, c22, c32, c61, d61, ltF, leF]; done))⟩
        · skip
          refine V.aload_n dX9_doneFrom_35 rfl rfl rfl ?_
          refine V.ldc (v := -1000005) dX9_doneFrom_36 cn_X9_98 rfl ?_
          refine V.callv_i (M1 := fdM 4 M) (v := -1000005) (md' := m_X9_finds) (As := [.int (-1000005)]) (rest := []) dX9_doneFrom_38 ml_X9_51 mo_X9_finds ⟨Nat.le_of_ble_eq_true rfl, Nat.le_of_ble_eq_true rfl⟩ rfl ⟨_, _, rfl⟩ (Nat.le_of_ble_eq_true rfl) rfl rfl (Nat.le_of_ble_eq_true rfl) (v_X9_finds (w := 4) (by decide) (-1000005) (by decide +kernel) _) rfl ?_
          exact V.ret dX9_doneFrom_41 rfl rfl ⟨(by first | (simp (decide := true) [pBurnt, dnP, c5, eb, c22, c32]; done) | (simp (decide := true) [pBurnt, dnP, c5, eb, c22, c32, ltF, leF]; done)), (by first | (simp (decide := true) [pBurnt, dnP, c5, eb, c22, c32]; done) | (simp (decide := true) [pBurnt, dnP, c5, eb, c22, c32, ltF, leF]; done))⟩
  · skip
    refine V.aload_n dX9_doneFrom_8 rfl rfl rfl ?_
    refine V.ldc (v := -1000001) dX9_doneFrom_9 cn_X9_37 rfl ?_
    refine V.callv_i (M1 := fdM 0 M) (v := -1000001) (md' := m_X9_finds) (As := [.int (-1000001)]) (rest := []) dX9_doneFrom_11 ml_X9_51 mo_X9_finds ⟨Nat.le_of_ble_eq_true rfl, Nat.le_of_ble_eq_true rfl⟩ rfl ⟨_, _, rfl⟩ (Nat.le_of_ble_eq_true rfl) rfl rfl (Nat.le_of_ble_eq_true rfl) (v_X9_finds (w := 0) (by decide) (-1000001) (by decide +kernel) _) rfl ?_
    exact V.ret dX9_doneFrom_14 rfl rfl ⟨(by first | (simp (decide := true) [pBurnt, dnP, c5]; done) | (simp (decide := true) [pBurnt, dnP, c5, ltF, leF]; done)), (by first | (simp (decide := true) [pBurnt, dnP, c5]; done) | (simp (decide := true) [pBurnt, dnP, c5, ltF, leF]; done))⟩
theorem v_X9_burnt {c : Nat} (hc : c ≤ 10) {cc : Nat} (hcc : cc ≤ 12) {m : Nat} (hm : m ≤ 3000) (x : Int32) (M : Mem) (hM : M 63 1 = nI c) (h0 : M 63 0 = nI m) (hW : WM c cc m M) : V m_X9_burnt 0 [(0, .ref 62), (1, .int x)] [] M (RT (some (.int ((pBurnt c cc m x M).1))) ((pBurnt c cc m x M).2)) := by
  refine V.aload_n dX9_burnt_0 rfl rfl rfl ?_
  refine V.iload_n dX9_burnt_1 rfl rfl rfl ?_
  refine V.iconst (v := 1) dX9_burnt_2 rfl rfl ?_
  refine V.callv_i (M1 := (pBurnt c cc m x M).2) (v := (pBurnt c cc m x M).1) (md' := m_X9_doneFrom) (As := [.int x, .int 1]) (rest := []) dX9_burnt_3 ml_X9_196 mo_X9_doneFrom ⟨Nat.le_of_ble_eq_true rfl, Nat.le_of_ble_eq_true rfl⟩ rfl ⟨_, _, rfl⟩ (Nat.le_of_ble_eq_true rfl) rfl rfl (Nat.le_of_ble_eq_true rfl) (v_X9_doneFrom_bu hc hcc hm x M hM h0 hW) rfl ?_
  exact V.ret dX9_burnt_6 rfl rfl ⟨rfl, rfl⟩
