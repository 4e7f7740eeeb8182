/-! The class's plays: ahead, the reader's judgement -/
theorem six_le {j : Nat} (hj : j < 2 ^ 31) (h0 : ¬ nI j = 0) (h1 : ¬ nI j = 1) (h2 : ¬ nI j = 2) (h3 : ¬ nI j = 3) (h4 : ¬ nI j = 4) (h5 : ¬ nI j = 5) : 6 ≤ j := by
  rcases Nat.lt_or_ge j 6 with q | q
  · exfalso
    rcases (show j = 0 ∨ j = 1 ∨ j = 2 ∨ j = 3 ∨ j = 4 ∨ j = 5 by omega) with rfl | rfl | rfl | rfl | rfl | rfl
    · exact h0 rfl
    · exact h1 rfl
    · exact h2 rfl
    · exact h3 rfl
    · exact h4 rfl
    · exact h5 rfl
  · exact q
theorem sumN_congr {f g q r : Nat → Int32} : ∀ (n i : Nat) (s : Int32), (∀ j, i ≤ j → j < i + n → f j = g j ∧ q j = r j) → sumN f q n i s = sumN g r n i s := by
  intro n
  induction n with
  | zero => intro i s h; rfl
  | succ n ih =>
    intro i s h
    simp only [sumN]
    rw [(h i (Nat.le_refl i) (by omega)).1, (h i (Nat.le_refl i) (by omega)).2]
    exact ih (i + 1) _ (fun j h1 h2 => h j (by omega) (by omega))
theorem doneG_congr {k l f g q r : Nat → Int32} : ∀ (n i : Nat) (s : Int32), (∀ j, i ≤ j → j < i + n → k j = l j ∧ f j = g j ∧ q j = r j) → doneG k f q n i s = doneG l g r n i s := by
  intro n
  induction n with
  | zero => intro i s h; rfl
  | succ n ih =>
    intro i s h
    simp only [doneG]
    rw [(h i (Nat.le_refl i) (by omega)).1, (h i (Nat.le_refl i) (by omega)).2.1, (h i (Nat.le_refl i) (by omega)).2.2]
    exact ih (i + 1) _ (fun j h1 h2 => h j (by omega) (by omega))
theorem sumG_congr {f g : Nat → Int32} : ∀ (n i : Nat) (s : Int32), (∀ j, i ≤ j → j < i + n → f j = g j) → sumG f n i s = sumG g n i s := by
  intro n
  induction n with
  | zero => intro i s h; rfl
  | succ n ih =>
    intro i s h
    simp only [sumG]
    rw [h i (Nat.le_refl i) (by omega)]
    exact ih (i + 1) _ (fun j h1 h2 => h j (by omega) (by omega))
theorem heldG_congr {f g : Nat → Int32} : ∀ (n i : Nat) (s : Int32), (∀ j, i ≤ j → j < i + n → f j = g j) → heldG f n i s = heldG g n i s := by
  intro n
  induction n with
  | zero => intro i s h; rfl
  | succ n ih =>
    intro i s h
    simp only [heldG]
    rw [h i (Nat.le_refl i) (by omega)]
    exact ih (i + 1) _ (fun j h1 h2 => h j (by omega) (by omega))
theorem ST_sold {e c cc p m A B : Nat} {M R : Mem} (hV : ST e c cc p m A B M R) : M e 11 = R 63 10 ∧ M e 13 = R 63 12 ∧ M e 4 = R 63 4 ∧ M (e+1) 5 = nI c := by
  obtain ⟨hb, h8, h11, s5, h13, h9, h7, h6, h5, hcr, hd, hc1, hc7, h4, h10, h12, h14, hs, s1, s2, s0, s4, sd, sg, sa, s9, s8, s6, sm⟩ := hV
  exact ⟨h11, h13, h4, hc1⟩
theorem v_X8_ahead {c : Nat} (hc : c ≤ 10) {cc : Nat} (hcc : cc ≤ 12) {p : Nat} (hp : p ≤ 99) {m : Nat} (hm : m ≤ 999) {A B : Nat} (hA : A ≤ 5000) (hB : B ≤ 10000) (M R : Mem) (hV : ST 1 c cc p m A B M R) (n w : Int32) (hF61 : F61 M R) : V m_X8_ahead 0 [(0, .ref 0), (1, .int n), (2, .int w)] [] M (PQ (pAhead c cc m n w R) M) := by
  obtain ⟨hM, h2, h0, hP⟩ := ST_cnt hV
  have hV1 : ST 1 c cc p m A B M (SV R) := ST_R SV_63 hV
  have hV2 := ST_27_1 hc hcc hp hV1
  have h7 : eBecM 27 1 M 27 8 = R 63 7 := (ST_8 hV2).trans (by rw [SV_63])
  refine V.iload_n dX8_ahead_0 rfl rfl rfl ?_
  refine V.iconst (v := 0) dX8_ahead_1 rfl rfl ?_
  refine V.sipush (v := 200) dX8_ahead_2 (by decide) rfl ?_
  refine V.calls_i (M1 := M) (v := if rng 0 200 n then 1 else 0) (md' := m_X8_within) (As := [.int n, .int 0, .int 200]) (rest := []) dX8_ahead_5 ml_X8_63 mo_X8_within ⟨Nat.le_of_ble_eq_true rfl, Nat.le_of_ble_eq_true rfl⟩ (Nat.le_of_ble_eq_true rfl) rfl rfl (Nat.le_of_ble_eq_true rfl) (v_X8_within (x := n) (a := 0) (b := 200) rfl rfl _) rfl ?_
  refine V.ifb_eq (tgt := 31) dX8_ahead_8 rfl rfl (fun c8 => ?_) (fun c8 => ?_)
  · skip
    refine V.aload_n dX8_ahead_31 rfl rfl rfl ?_
    refine V.iconst (v := 0) dX8_ahead_32 rfl rfl ?_
    refine V.callv_i (M1 := cfd 0 M) (v := -1000001) (md' := m_X8_finding) (As := [.int 0]) (rest := []) dX8_ahead_33 ml_X8_67 mo_X8_finding ⟨Nat.le_of_ble_eq_true rfl, Nat.le_of_ble_eq_true rfl⟩ rfl ⟨_, _, rfl⟩ (Nat.le_of_ble_eq_true rfl) rfl rfl (Nat.le_of_ble_eq_true rfl) (v_X8_finding (w := 0) (by decide) (f := -1000001) (by decide +kernel) _) rfl ?_
    exact V.ret dX8_ahead_36 rfl rfl (PQ_f (w := 0) hF61 (by first | (simp (decide := true) [pAhead, c8]; done) | (simp (decide := true) [pAhead, c8]; done) | (simp (decide := true) [pAhead, c8]; done) | (simp_all (decide := true) [pAhead]; done) | (simp_all (decide := true) [pAhead, ltF, leF, ltFN, leFN]; done)))
  · skip
    refine V.iload_n dX8_ahead_11 rfl rfl rfl ?_
    refine V.iconst (v := 0) dX8_ahead_12 rfl rfl ?_
    refine V.iconst (v := 5) dX8_ahead_13 rfl rfl ?_
    refine V.aload_n dX8_ahead_14 rfl rfl rfl ?_
    refine V.getr dX8_ahead_15 fg_X8_10 rfl rfl rfl ?_
    refine V.getr dX8_ahead_18 fg_X8_71 rfl rfl rfl ?_
    refine V.geti (v := nI c) dX8_ahead_21 fg_X8_224 rfl rfl hM rfl ?_
    refine V.iadd (v := nI (5 + c)) dX8_ahead_24 (nI_add 5 c) rfl ?_
    refine V.calls_i (M1 := M) (v := if rng 0 ((5 + c : Nat) : Int) w then 1 else 0) (md' := m_X8_within) (As := [.int w, .int 0, .int (nI (5 + c))]) (rest := []) dX8_ahead_25 ml_X8_63 mo_X8_within ⟨Nat.le_of_ble_eq_true rfl, Nat.le_of_ble_eq_true rfl⟩ (Nat.le_of_ble_eq_true rfl) rfl rfl (Nat.le_of_ble_eq_true rfl) (v_X8_within (x := w) (a := 0) (b := ((5 + c : Nat) : Int)) rfl (nI_toInt (by omega)) _) rfl ?_
    refine V.ifb_ne (tgt := 37) dX8_ahead_28 rfl rfl (fun c28 => ?_) (fun c28 => ?_)
    · skip
      obtain ⟨k, hk, rfl⟩ := of_rng (b := 200) c8
      · have ek : (nI k).toNatClampNeg = k := nI_clamp (by omega)
        refine V.aload_n dX8_ahead_37 rfl rfl rfl ?_
        refine V.iload_n dX8_ahead_38 rfl rfl rfl ?_
        refine V.callv_i (M1 := M) (v := if 999 < m + k then 1 else 0) (md' := m_X8_isTooLate) (As := [.int (nI k)]) (rest := []) dX8_ahead_39 ml_X8_199 mo_X8_isTooLate ⟨Nat.le_of_ble_eq_true rfl, Nat.le_of_ble_eq_true rfl⟩ rfl ⟨_, _, rfl⟩ (Nat.le_of_ble_eq_true rfl) rfl rfl (Nat.le_of_ble_eq_true rfl) (v_X8_isTooLate (by omega) (by omega) M h0) rfl ?_
        refine V.ifb_eq (tgt := 51) dX8_ahead_42 rfl rfl (fun c42 => ?_) (fun c42 => ?_)
        · skip
          have hz9 : pAhead c cc m (nI k) w R = (ahF c cc k m w R (mGo c cc k m (SV R)), SV R) := (by first | (simp (decide := true) [pAhead, c8, c28, ek, c42]; done) | (simp (decide := true) [pAhead, c8, c28, ek, c42]; done) | (simp (decide := true) [pAhead, c8, c28, ek, c42]; done) | (simp_all (decide := true) [pAhead]; done) | (simp_all (decide := true) [pAhead, ltF, leF, ltFN, leFN]; done))
          · have hX := ST_go hc hp (by omega) k m A _ _ (by omega) hV2
            obtain ⟨x11, x13, x4, x1⟩ := ST_sold hX
            obtain ⟨y11, y13, y4, y1⟩ := ST_sold hV
            refine V.aload_n dX8_ahead_51 rfl rfl rfl ?_
            refine V.getr dX8_ahead_52 fg_X8_19 rfl rfl rfl ?_
            refine V.aload_n dX8_ahead_55 rfl rfl rfl ?_
            refine V.getr dX8_ahead_56 fg_X8_10 rfl rfl rfl ?_
            refine V.callv_v (M1 := eBecM 27 1 M) (md' := m_X2_become) (As := [.ref 1]) (rest := []) dX8_ahead_59 ml_X8_227 mo_X2_become ⟨Nat.le_of_ble_eq_true rfl, Nat.le_of_ble_eq_true rfl⟩ rfl ⟨_, _, rfl⟩ (Nat.le_of_ble_eq_true rfl) rfl rfl (Nat.le_of_ble_eq_true rfl) (v_X2_become isE27 isE1 (by omega) _) rfl ?_
            refine V.aload_n dX8_ahead_62 rfl rfl rfl ?_
            refine V.getr dX8_ahead_63 fg_X8_19 rfl rfl rfl ?_
            refine V.iload_n dX8_ahead_66 rfl rfl rfl ?_
            refine V.callv_i (M1 := passG 27 c cc p k m (eBecM 27 1 M)) (v := cnF c cc k m (SV R) R) (md' := m_X2_pass) (As := [.int (nI k)]) (rest := []) dX8_ahead_67 ml_X8_205 mo_X2_pass ⟨Nat.le_of_ble_eq_true rfl, Nat.le_of_ble_eq_true rfl⟩ rfl ⟨_, _, rfl⟩ (Nat.le_of_ble_eq_true rfl) rfl rfl (Nat.le_of_ble_eq_true rfl) (v_passT isE27 hc hcc hp (k := k) (by omega) (by omega) (by omega) (by omega) hV2 h7) rfl ?_
            refine V.ist_n dX8_ahead_70 rfl (by decide) (L' := [(0, .ref 0), (1, .int (nI k)), (2, .int w), (3, .int (cnF c cc k m (SV R) R))]) rfl rfl ?_
            refine V.iload_n dX8_ahead_71 rfl rfl rfl ?_
            by_cases s72_0 : w = 0
            · refine V.tabIn (pc' := 112) dX8_ahead_72 (by rw [s72_0]; decide) (by rw [s72_0]; decide) (by rw [s72_0]; rfl) rfl ?_
              refine V.iload_n dX8_ahead_112 rfl rfl rfl ?_
              exact V.ret dX8_ahead_113 rfl rfl (PQ_v (FR_pass (by decide) (by decide) (FR_bec (by decide) (by decide) (FR_rf M))) hF61 SV_66 (hz9.trans (by simp (decide := true) [ahF, cnF, s72_0])))
            by_cases s72_1 : w = 1
            · refine V.tabIn (pc' := 114) dX8_ahead_72 (by rw [s72_1]; decide) (by rw [s72_1]; decide) (by rw [s72_1]; rfl) rfl ?_
              refine V.aload_n dX8_ahead_114 rfl rfl rfl ?_
              refine V.getr dX8_ahead_115 fg_X8_19 rfl rfl rfl ?_
              refine V.geti (v := (mGo c cc k m (SV R)) 63 10) dX8_ahead_118 fg_X8_202 rfl rfl x11 rfl ?_
              refine V.aload_n dX8_ahead_121 rfl rfl rfl ?_
              refine V.getr dX8_ahead_122 fg_X8_10 rfl rfl rfl ?_
              refine V.geti (v := R 63 10) dX8_ahead_125 fg_X8_202 rfl rfl (by rw [pass_k (by decide), bec_k (by decide)]; exact y11) rfl ?_
              refine V.isub (v := ((mGo c cc k m (SV R)) 63 10) - (R 63 10)) dX8_ahead_128 rfl rfl ?_
              exact V.ret dX8_ahead_129 rfl rfl (PQ_v (FR_pass (by decide) (by decide) (FR_bec (by decide) (by decide) (FR_rf M))) hF61 SV_66 (hz9.trans (by simp (decide := true) [ahF, cnF, s72_1])))
            by_cases s72_2 : w = 2
            · refine V.tabIn (pc' := 130) dX8_ahead_72 (by rw [s72_2]; decide) (by rw [s72_2]; decide) (by rw [s72_2]; rfl) rfl ?_
              refine V.aload_n dX8_ahead_130 rfl rfl rfl ?_
              refine V.getr dX8_ahead_131 fg_X8_19 rfl rfl rfl ?_
              refine V.geti (v := (mGo c cc k m (SV R)) 63 12) dX8_ahead_134 fg_X8_218 rfl rfl x13 rfl ?_
              refine V.aload_n dX8_ahead_137 rfl rfl rfl ?_
              refine V.getr dX8_ahead_138 fg_X8_10 rfl rfl rfl ?_
              refine V.geti (v := R 63 12) dX8_ahead_141 fg_X8_218 rfl rfl (by rw [pass_k (by decide), bec_k (by decide)]; exact y13) rfl ?_
              refine V.isub (v := ((mGo c cc k m (SV R)) 63 12) - (R 63 12)) dX8_ahead_144 rfl rfl ?_
              exact V.ret dX8_ahead_145 rfl rfl (PQ_v (FR_pass (by decide) (by decide) (FR_bec (by decide) (by decide) (FR_rf M))) hF61 SV_66 (hz9.trans (by simp (decide := true) [ahF, cnF, s72_2])))
            by_cases s72_3 : w = 3
            · refine V.tabIn (pc' := 146) dX8_ahead_72 (by rw [s72_3]; decide) (by rw [s72_3]; decide) (by rw [s72_3]; rfl) rfl ?_
              refine V.aload_n dX8_ahead_146 rfl rfl rfl ?_
              refine V.getr dX8_ahead_147 fg_X8_19 rfl rfl rfl ?_
              refine V.geti (v := (mGo c cc k m (SV R)) 63 4) dX8_ahead_150 fg_X8_213 rfl rfl x4 rfl ?_
              exact V.ret dX8_ahead_153 rfl rfl (PQ_v (FR_pass (by decide) (by decide) (FR_bec (by decide) (by decide) (FR_rf M))) hF61 SV_66 (hz9.trans (by simp (decide := true) [ahF, cnF, s72_3])))
            by_cases s72_4 : w = 4
            · refine V.tabIn (pc' := 154) dX8_ahead_72 (by rw [s72_4]; decide) (by rw [s72_4]; decide) (by rw [s72_4]; rfl) rfl ?_
              refine V.aload_n dX8_ahead_154 rfl rfl rfl ?_
              refine V.getr dX8_ahead_155 fg_X8_19 rfl rfl rfl ?_
              refine V.getr dX8_ahead_158 fg_X8_71 rfl rfl rfl ?_
              refine V.callv_i (M1 := passG 27 c cc p k m (eBecM 27 1 M)) (v := doneG (col (mGo c cc k m (SV R)) 0) (col (mGo c cc k m (SV R)) 2) (col (mGo c cc k m (SV R)) 4) c 0 0) (md' := m_X4_setDoneOverFire) (As := []) (rest := []) dX8_ahead_161 ml_X8_231 mo_X4_setDoneOverFire ⟨Nat.le_of_ble_eq_true rfl, Nat.le_of_ble_eq_true rfl⟩ rfl ⟨_, _, rfl⟩ (Nat.le_of_ble_eq_true rfl) rfl rfl (Nat.le_of_ble_eq_true rfl) (by have hz := v_X4_setDone isE27 hc (passG 27 c cc p k m (eBecM 27 1 M)) x1; rw [doneG_congr (l := col (mGo c cc k m (SV R)) 0) (g := col (mGo c cc k m (SV R)) 2) (r := col (mGo c cc k m (SV R)) 4) c 0 0 (fun j _ h => ⟨(ST_b hX (show j < c by omega)).1, (ST_b hX (show j < c by omega)).2.2.1, (ST_b hX (show j < c by omega)).2.2.2.2⟩)] at hz; exact hz) rfl ?_
              exact V.ret dX8_ahead_164 rfl rfl (PQ_v (FR_pass (by decide) (by decide) (FR_bec (by decide) (by decide) (FR_rf M))) hF61 SV_66 (hz9.trans (by simp (decide := true) [ahF, cnF, s72_4])))
            by_cases s72_5 : w = 5
            · refine V.tabIn (pc' := 165) dX8_ahead_72 (by rw [s72_5]; decide) (by rw [s72_5]; decide) (by rw [s72_5]; rfl) rfl ?_
              refine V.aload_n dX8_ahead_165 rfl rfl rfl ?_
              refine V.getr dX8_ahead_166 fg_X8_19 rfl rfl rfl ?_
              refine V.getr dX8_ahead_169 fg_X8_71 rfl rfl rfl ?_
              refine V.callv_i (M1 := passG 27 c cc p k m (eBecM 27 1 M)) (v := sumN (col (mGo c cc k m (SV R)) 1) (col (mGo c cc k m (SV R)) 4) c 0 0) (md' := m_X4_bagsNotGone) (As := []) (rest := []) dX8_ahead_172 ml_X8_234 mo_X4_bagsNotGone ⟨Nat.le_of_ble_eq_true rfl, Nat.le_of_ble_eq_true rfl⟩ rfl ⟨_, _, rfl⟩ (Nat.le_of_ble_eq_true rfl) rfl rfl (Nat.le_of_ble_eq_true rfl) (by have hz := v_X4_bagsNotGone isE27 hc (passG 27 c cc p k m (eBecM 27 1 M)) x1; rw [sumN_congr (g := col (mGo c cc k m (SV R)) 1) (r := col (mGo c cc k m (SV R)) 4) c 0 0 (fun j _ h => ⟨(ST_b hX (show j < c by omega)).2.1, (ST_b hX (show j < c by omega)).2.2.2.2⟩)] at hz; exact hz) rfl ?_
              exact V.ret dX8_ahead_175 rfl rfl (PQ_v (FR_pass (by decide) (by decide) (FR_bec (by decide) (by decide) (FR_rf M))) hF61 SV_66 (hz9.trans (by simp (decide := true) [ahF, cnF, s72_5])))
            refine V.tabOut (pc' := 176) dX8_ahead_72 (by have q0 := lv_neT (a := 0) s72_0 rfl; have q1 := lv_neT (a := 1) s72_1 rfl; have q2 := lv_neT (a := 2) s72_2 rfl; have q3 := lv_neT (a := 3) s72_3 rfl; have q4 := lv_neT (a := 4) s72_4 rfl; have q5 := lv_neT (a := 5) s72_5 rfl; omega) rfl ?_
            obtain ⟨j, hj, rfl⟩ := of_rng (b := 5 + c) c28
            · have hj6 : 6 ≤ j := six_le (by omega) s72_0 s72_1 s72_2 s72_3 s72_4 s72_5
              have ej : (nI j).toNatClampNeg = j := nI_clamp (by omega)
              refine V.aload_n dX8_ahead_176 rfl rfl rfl ?_
              refine V.getr dX8_ahead_177 fg_X8_19 rfl rfl rfl ?_
              refine V.getr dX8_ahead_180 fg_X8_71 rfl rfl rfl ?_
              refine V.getr dX8_ahead_183 fg_X8_94 rfl rfl rfl ?_
              refine V.iload_n dX8_ahead_186 rfl rfl rfl ?_
              refine V.bipush (v := 6) dX8_ahead_187 (by decide) rfl ?_
              refine V.isub (v := nI (j - 6)) dX8_ahead_189 (pk_sub (b := 6) hj6) rfl ?_
              refine V.ialdN (j := j - 6) (v := (mGo c cc k m (SV R)) 63 (20 + 5 * (j - 6) + 2)) dX8_ahead_190 rfl (by omega) (by decide) rfl (ST_b hX (show j - 6 < c by omega)).2.2.1 rfl ?_
              exact V.ret dX8_ahead_191 rfl rfl (PQ_v (FR_pass (by decide) (by decide) (FR_bec (by decide) (by decide) (FR_rf M))) hF61 SV_66 (hz9.trans (by simp (decide := true) [ahF, cnF, s72_0, s72_1, s72_2, s72_3, s72_4, s72_5, ej])))
        · skip
          refine V.aload_n dX8_ahead_45 rfl rfl rfl ?_
          refine V.iconst (v := 4) dX8_ahead_46 rfl rfl ?_
          refine V.callv_i (M1 := cfd 4 M) (v := -1000005) (md' := m_X8_finding) (As := [.int 4]) (rest := []) dX8_ahead_47 ml_X8_67 mo_X8_finding ⟨Nat.le_of_ble_eq_true rfl, Nat.le_of_ble_eq_true rfl⟩ rfl ⟨_, _, rfl⟩ (Nat.le_of_ble_eq_true rfl) rfl rfl (Nat.le_of_ble_eq_true rfl) (v_X8_finding (w := 4) (by decide) (f := -1000005) (by decide +kernel) _) rfl ?_
          exact V.ret dX8_ahead_50 rfl rfl (PQ_f (w := 4) hF61 (by first | (simp (decide := true) [pAhead, c8, c28, ek, c42]; done) | (simp (decide := true) [pAhead, c8, c28, ek, c42]; done) | (simp (decide := true) [pAhead, c8, c28, ek, c42]; done) | (simp_all (decide := true) [pAhead]; done) | (simp_all (decide := true) [pAhead, ltF, leF, ltFN, leFN]; done)))
    · skip
      refine V.aload_n dX8_ahead_31 rfl rfl rfl ?_
      refine V.iconst (v := 0) dX8_ahead_32 rfl rfl ?_
      refine V.callv_i (M1 := cfd 0 M) (v := -1000001) (md' := m_X8_finding) (As := [.int 0]) (rest := []) dX8_ahead_33 ml_X8_67 mo_X8_finding ⟨Nat.le_of_ble_eq_true rfl, Nat.le_of_ble_eq_true rfl⟩ rfl ⟨_, _, rfl⟩ (Nat.le_of_ble_eq_true rfl) rfl rfl (Nat.le_of_ble_eq_true rfl) (v_X8_finding (w := 0) (by decide) (f := -1000001) (by decide +kernel) _) rfl ?_
      exact V.ret dX8_ahead_36 rfl rfl (PQ_f (w := 0) hF61 (by first | (simp (decide := true) [pAhead, c8, c28]; done) | (simp (decide := true) [pAhead, c8, c28]; done) | (simp (decide := true) [pAhead, c8, c28]; done) | (simp_all (decide := true) [pAhead]; done) | (simp_all (decide := true) [pAhead, ltF, leF, ltFN, leFN]; done)))
def SHR (M R : Mem) : Prop := ∀ s, s < 4 → ∃ z, z ≤ 40 ∧ M 58 s = R 68 s ∧ M 59 s = nI z ∧ R 69 s = nI z ∧ (∀ i, i < z → M 60 (s * 40 + i) = R 70 (40 * s + i)) ∧ (R 68 s = 0 ∨ R 68 s = 8 ∨ R 68 s = 16 ∨ R 68 s = 32)
theorem l_X8_judge {c : Nat} (hc : c ≤ 10) {cc : Nat} (hcc : cc ≤ 12) {p : Nat} (hp : p ≤ 99) {B : Nat} (hB : B ≤ 10000) (M R : Mem) {s z : Nat} (hs : s < 4) (hz : z ≤ 40) (h59 : M 59 s = nI z) (h60 : ∀ i, i < z → M 60 (s * 40 + i) = R 70 (40 * s + i)) : ∀ (n i m A : Nat) (M' Gx : Mem), FR M' M → Gx 70 = R 70 → ST 27 c cc p m A B M' Gx → A + n < 50000 → m + n ≤ 4000 → i + n = z → V m_X8_judge 69 [(0, .ref 0), (1, .int (nI s)), (2, .int (nI i))] [] M' (QA (juG s c cc n i m Gx) M) := by
  intro n
  induction n with
  | zero =>
    intro i m A M' Gx hF hG hW hA hm hi
    have h59' : M' 59 s = nI z := by rw [hF 59 (by decide)]; exact h59
    refine V.iload_n dX8_judge_69 rfl rfl rfl ?_
    refine V.aload_n dX8_judge_70 rfl rfl rfl ?_
    refine V.getr dX8_judge_71 fg_X8_51 rfl rfl rfl ?_
    refine V.getr dX8_judge_74 fg_X8_302 rfl rfl rfl ?_
    refine V.iload_n dX8_judge_77 rfl rfl rfl ?_
    refine V.ialdN (j := s) (v := nI z) dX8_judge_78 rfl (by omega) (by decide) rfl h59' rfl ?_
    refine V.icmp_ge (tgt := 130) dX8_judge_79 rfl rfl (fun c79 => ?_) (fun c79 => absurd ((nI_leI (a := z) (b := i) (by omega) (by omega)).mpr (by omega)) c79)
    have c79 : z ≤ i := (nI_leI (a := z) (b := i) (by omega) (by omega)).mp c79
    refine V.iconst (v := 0) dX8_judge_130 rfl rfl ?_
    exact V.ret dX8_judge_131 rfl rfl (⟨rfl, hF⟩)
  | succ n ih =>
    intro i m A M' Gx hF hG hW hA hm hi
    have h59' : M' 59 s = nI z := by rw [hF 59 (by decide)]; exact h59
    have hW1 := ST_min hc hp (m := m) (A := A) (by omega) (by omega) hW
    have e60 : passG 27 c cc p 1 m M' 60 (s * 40 + i) = Gx 70 (40 * s + i) := by
      rw [pass_k (by decide), hF 60 (by decide), h60 i (by omega), hG]
    have f11 : M' 27 11 = Gx 63 10 := (ST_sold hW).1
    have f11' : passG 27 c cc p 1 m M' 27 11 = mMin c cc m Gx 63 10 := (ST_sold hW1).1
    refine V.iload_n dX8_judge_69 rfl rfl rfl ?_
    refine V.aload_n dX8_judge_70 rfl rfl rfl ?_
    refine V.getr dX8_judge_71 fg_X8_51 rfl rfl rfl ?_
    refine V.getr dX8_judge_74 fg_X8_302 rfl rfl rfl ?_
    refine V.iload_n dX8_judge_77 rfl rfl rfl ?_
    refine V.ialdN (j := s) (v := nI z) dX8_judge_78 rfl (by omega) (by decide) rfl h59' rfl ?_
    refine V.icmp_ge (tgt := 130) dX8_judge_79 rfl rfl (fun c79 => absurd ((nI_leI (a := z) (b := i) (by omega) (by omega)).mp c79) (by omega)) (fun c79 => ?_)
    have c79 : ¬ z ≤ i := fun zq => c79 ((nI_leI (a := z) (b := i) (by omega) (by omega)).mpr zq)
    refine V.aload_n dX8_judge_82 rfl rfl rfl ?_
    refine V.getr dX8_judge_83 fg_X8_19 rfl rfl rfl ?_
    refine V.geti (v := Gx 63 10) dX8_judge_86 fg_X8_202 rfl rfl f11 rfl ?_
    refine V.ist_n dX8_judge_89 rfl (by decide) (L' := [(0, .ref 0), (1, .int (nI s)), (2, .int (nI i)), (3, .int (Gx 63 10))]) rfl rfl ?_
    refine V.aload_n dX8_judge_90 rfl rfl rfl ?_
    refine V.getr dX8_judge_91 fg_X8_19 rfl rfl rfl ?_
    refine V.iconst (v := 1) dX8_judge_94 rfl rfl ?_
    refine V.callv_i (M1 := passG 27 c cc p 1 m M') (v := cnF c cc 1 m Gx Gx) (md' := m_X2_pass) (As := [.int 1]) (rest := []) dX8_judge_95 ml_X8_205 mo_X2_pass ⟨Nat.le_of_ble_eq_true rfl, Nat.le_of_ble_eq_true rfl⟩ rfl ⟨_, _, rfl⟩ (Nat.le_of_ble_eq_true rfl) rfl rfl (Nat.le_of_ble_eq_true rfl) (v_passT isE27 hc hcc hp (m := m) (A := A) (k := 1) (by omega) (by omega) (by omega) (by omega) hW (R := Gx) (ST_8 hW)) rfl ?_
    refine V.pop dX8_judge_98 rfl rfl ?_
    refine V.aload_n dX8_judge_99 rfl rfl rfl ?_
    refine V.getr dX8_judge_100 fg_X8_19 rfl rfl rfl ?_
    refine V.geti (v := mMin c cc m Gx 63 10) dX8_judge_103 fg_X8_202 rfl rfl f11' rfl ?_
    refine V.iload_n dX8_judge_106 rfl rfl rfl ?_
    refine V.isub (v := (mMin c cc m Gx 63 10) - (Gx 63 10)) dX8_judge_107 rfl rfl ?_
    refine V.aload_n dX8_judge_108 rfl rfl rfl ?_
    refine V.getr dX8_judge_109 fg_X8_51 rfl rfl rfl ?_
    refine V.iload_n dX8_judge_112 rfl rfl rfl ?_
    refine V.iload_n dX8_judge_113 rfl rfl rfl ?_
    refine V.callv_i (M1 := passG 27 c cc p 1 m M') (v := Gx 70 (40 * s + i)) (md' := m_X5_numberAt) (As := [.int (nI s), .int (nI i)]) (rest := [.int ((mMin c cc m Gx 63 10) - (Gx 63 10))]) dX8_judge_114 ml_X8_321 mo_X5_numberAt ⟨Nat.le_of_ble_eq_true rfl, Nat.le_of_ble_eq_true rfl⟩ rfl ⟨_, _, rfl⟩ (Nat.le_of_ble_eq_true rfl) rfl rfl (Nat.le_of_ble_eq_true rfl) (by have hz := v_X5_numberAt (s := s) (i := i) (by omega) (by omega) (passG 27 c cc p 1 m M'); rw [e60] at hz; exact hz) rfl ?_
    refine V.icmp_eq (tgt := 124) dX8_judge_117 rfl rfl (fun c117 => ?_) (fun c117 => ?_)
    · skip
      refine V.inc (v := nI (i + 1)) dX8_judge_124 rfl (nI_1 _) (by decide) (L' := [(0, .ref 0), (1, .int (nI s)), (2, .int (nI (i + 1))), (3, .int (Gx 63 10))]) rfl rfl ?_
      refine V.goto (pc' := 69) dX8_judge_127 rfl ?_
      refine V.loc (L' := [(0, .ref 0), (1, .int (nI s)), (2, .int (nI (i + 1)))]) (fun zq zh => List.mem_append_left [(3, Value.int (Gx 63 10))] zh) ?_
      rw [show juG s c cc (n + 1) i m Gx = juG s c cc n (i + 1) (m + 1) (mMin c cc m Gx) from by simp only [juG]; rw [if_pos c117.symm]]
      exact ih (i + 1) (m + 1) (A + 1) _ _ (FR_pass (by decide) (by decide) hF) (by rw [mMin_k (by decide)]; exact hG) hW1 (by omega) (by omega) (by omega)
    · skip
      refine V.iconst (v := 1) dX8_judge_120 rfl rfl ?_
      refine V.iload_n dX8_judge_121 rfl rfl rfl ?_
      refine V.iadd (v := nI (1 + i)) dX8_judge_122 (nI_add _ _) rfl ?_
      exact V.ret dX8_judge_123 rfl rfl (⟨by rw [show juG s c cc (n + 1) i m Gx = nI (1 + i) from by simp only [juG]; rw [if_neg (fun q => c117 q.symm)]], FR_pass (by decide) (by decide) hF⟩)
theorem not_r3 {x : Int32} (h : ¬ isB 4 x = true) : ¬ rng 0 3 x = true := fun q => h (rng_isB (c := 4).mp q)
theorem v_X8_judge {c : Nat} (hc : c ≤ 10) {cc : Nat} (hcc : cc ≤ 12) {p : Nat} (hp : p ≤ 99) {m : Nat} (hm : m ≤ 999) {A B : Nat} (hA : A ≤ 5000) (hB : B ≤ 10000) (M R : Mem) (hV : ST 1 c cc p m A B M R) (x : Int32) (hF61 : F61 M R) (hSH : SHR M R) : V m_X8_judge 0 [(0, .ref 0), (1, .int x)] [] M (PQ (pJudge c cc m x R) M) := by
  obtain ⟨hM, h2, h0, hP⟩ := ST_cnt hV
  have hV1 : ST 1 c cc p m A B M (SV R) := ST_R SV_63 hV
  have hV2 := ST_27_1 hc hcc hp hV1
  refine V.aload_n dX8_judge_0 rfl rfl rfl ?_
  refine V.getr dX8_judge_1 fg_X8_51 rfl rfl rfl ?_
  refine V.iload_n dX8_judge_4 rfl rfl rfl ?_
  refine V.callv_i (M1 := M) (v := if isB 4 x then 1 else 0) (md' := m_X5_isSheet) (As := [.int x]) (rest := []) dX8_judge_5 ml_X8_296 mo_X5_isSheet ⟨Nat.le_of_ble_eq_true rfl, Nat.le_of_ble_eq_true rfl⟩ rfl ⟨_, _, rfl⟩ (Nat.le_of_ble_eq_true rfl) rfl rfl (Nat.le_of_ble_eq_true rfl) (v_X5_isSheet x _) rfl ?_
  refine V.ifb_ne (tgt := 17) dX8_judge_8 rfl rfl (fun c8 => ?_) (fun c8 => ?_)
  · skip
    obtain ⟨s, hs, rfl⟩ := of_isB c8
    · have es : (nI s).toNatClampNeg = s := nI_clamp (by omega)
      obtain ⟨z, hz, e58, e59, e69, e60, -⟩ := hSH s hs
      have ez : (nI z).toNatClampNeg = z := nI_clamp (by omega)
      have hr3 := rng3 hs
      refine V.aload_n dX8_judge_17 rfl rfl rfl ?_
      refine V.getr dX8_judge_18 fg_X8_51 rfl rfl rfl ?_
      refine V.iload_n dX8_judge_21 rfl rfl rfl ?_
      refine V.callv_i (M1 := M) (v := if R 68 s = 0 then 1 else 0) (md' := m_X5_isMissing) (As := [.int (nI s)]) (rest := []) dX8_judge_22 ml_X8_305 mo_X5_isMissing ⟨Nat.le_of_ble_eq_true rfl, Nat.le_of_ble_eq_true rfl⟩ rfl ⟨_, _, rfl⟩ (Nat.le_of_ble_eq_true rfl) rfl rfl (Nat.le_of_ble_eq_true rfl) (by have hq := v_X5_isMissing (s := s) (by omega) M; rw [e58] at hq; exact hq) rfl ?_
      refine V.ifb_eq (tgt := 34) dX8_judge_25 rfl rfl (fun c25 => ?_) (fun c25 => ?_)
      · skip
        refine V.aload_n dX8_judge_34 rfl rfl rfl ?_
        refine V.aload_n dX8_judge_35 rfl rfl rfl ?_
        refine V.getr dX8_judge_36 fg_X8_51 rfl rfl rfl ?_
        refine V.getr dX8_judge_39 fg_X8_302 rfl rfl rfl ?_
        refine V.iload_n dX8_judge_42 rfl rfl rfl ?_
        refine V.ialdN (j := s) (v := nI z) dX8_judge_43 rfl (by omega) (by decide) rfl e59 rfl ?_
        refine V.callv_i (M1 := M) (v := if 999 < m + z then 1 else 0) (md' := m_X8_isTooLate) (As := [.int (nI z)]) (rest := []) dX8_judge_44 ml_X8_199 mo_X8_isTooLate ⟨Nat.le_of_ble_eq_true rfl, Nat.le_of_ble_eq_true rfl⟩ rfl ⟨_, _, rfl⟩ (Nat.le_of_ble_eq_true rfl) rfl rfl (Nat.le_of_ble_eq_true rfl) (v_X8_isTooLate (by omega) (by omega) M h0) rfl ?_
        refine V.ifb_eq (tgt := 56) dX8_judge_47 rfl rfl (fun c47 => ?_) (fun c47 => ?_)
        · skip
          refine V.aload_n dX8_judge_56 rfl rfl rfl ?_
          refine V.getr dX8_judge_57 fg_X8_19 rfl rfl rfl ?_
          refine V.aload_n dX8_judge_60 rfl rfl rfl ?_
          refine V.getr dX8_judge_61 fg_X8_10 rfl rfl rfl ?_
          refine V.callv_v (M1 := eBecM 27 1 M) (md' := m_X2_become) (As := [.ref 1]) (rest := []) dX8_judge_64 ml_X8_227 mo_X2_become ⟨Nat.le_of_ble_eq_true rfl, Nat.le_of_ble_eq_true rfl⟩ rfl ⟨_, _, rfl⟩ (Nat.le_of_ble_eq_true rfl) rfl rfl (Nat.le_of_ble_eq_true rfl) (v_X2_become isE27 isE1 (by omega) _) rfl ?_
          refine V.iconst (v := 0) dX8_judge_67 rfl rfl ?_
          refine V.ist_n dX8_judge_68 rfl (by decide) (L' := [(0, .ref 0), (1, .int (nI s)), (2, .int 0)]) rfl rfl ?_
          have hz9 : pJudge c cc m (nI s) R = (juG s c cc z 0 m (SV R), SV R) := (by first | (simp (decide := true) [pJudge, c8, es, ez, e69, hr3, c25, c47]; done) | (simp (decide := true) [pJudge, c8, es, ez, e69, hr3, c25, c47]; done) | (simp (decide := true) [pJudge, c8, es, ez, e69, hr3, c25, c47]; done) | (simp_all (decide := true) [pJudge]; done) | (simp_all (decide := true) [pJudge, ltF, leF, ltFN, leFN]; done))
          exact (l_X8_judge hc hcc hp hB M R hs hz e59 e60 z 0 m A _ (SV R) (FR_bec (by decide) (by decide) (FR_rf M)) (SV_k (by decide)) hV2 (by omega) (by omega) (by omega)).mono (QA_PQ hF61 SV_66 hz9)
        · skip
          refine V.aload_n dX8_judge_50 rfl rfl rfl ?_
          refine V.iconst (v := 4) dX8_judge_51 rfl rfl ?_
          refine V.callv_i (M1 := cfd 4 M) (v := -1000005) (md' := m_X8_finding) (As := [.int 4]) (rest := []) dX8_judge_52 ml_X8_67 mo_X8_finding ⟨Nat.le_of_ble_eq_true rfl, Nat.le_of_ble_eq_true rfl⟩ rfl ⟨_, _, rfl⟩ (Nat.le_of_ble_eq_true rfl) rfl rfl (Nat.le_of_ble_eq_true rfl) (v_X8_finding (w := 4) (by decide) (f := -1000005) (by decide +kernel) _) rfl ?_
          exact V.ret dX8_judge_55 rfl rfl (PQ_f (w := 4) hF61 (by first | (simp (decide := true) [pJudge, c8, es, ez, e69, hr3, c25, c47]; done) | (simp (decide := true) [pJudge, c8, es, ez, e69, hr3, c25, c47]; done) | (simp (decide := true) [pJudge, c8, es, ez, e69, hr3, c25, c47]; done) | (simp_all (decide := true) [pJudge]; done) | (simp_all (decide := true) [pJudge, ltF, leF, ltFN, leFN]; done)))
      · skip
        refine V.aload_n dX8_judge_28 rfl rfl rfl ?_
        refine V.iconst (v := 5) dX8_judge_29 rfl rfl ?_
        refine V.callv_i (M1 := cfd 5 M) (v := -1000006) (md' := m_X8_finding) (As := [.int 5]) (rest := []) dX8_judge_30 ml_X8_67 mo_X8_finding ⟨Nat.le_of_ble_eq_true rfl, Nat.le_of_ble_eq_true rfl⟩ rfl ⟨_, _, rfl⟩ (Nat.le_of_ble_eq_true rfl) rfl rfl (Nat.le_of_ble_eq_true rfl) (v_X8_finding (w := 5) (by decide) (f := -1000006) (by decide +kernel) _) rfl ?_
        exact V.ret dX8_judge_33 rfl rfl (PQ_f (w := 5) hF61 (by first | (simp (decide := true) [pJudge, c8, es, ez, e69, hr3, c25]; done) | (simp (decide := true) [pJudge, c8, es, ez, e69, hr3, c25]; done) | (simp (decide := true) [pJudge, c8, es, ez, e69, hr3, c25]; done) | (simp_all (decide := true) [pJudge]; done) | (simp_all (decide := true) [pJudge, ltF, leF, ltFN, leFN]; done)))
  · skip
    refine V.aload_n dX8_judge_11 rfl rfl rfl ?_
    refine V.iconst (v := 0) dX8_judge_12 rfl rfl ?_
    refine V.callv_i (M1 := cfd 0 M) (v := -1000001) (md' := m_X8_finding) (As := [.int 0]) (rest := []) dX8_judge_13 ml_X8_67 mo_X8_finding ⟨Nat.le_of_ble_eq_true rfl, Nat.le_of_ble_eq_true rfl⟩ rfl ⟨_, _, rfl⟩ (Nat.le_of_ble_eq_true rfl) rfl rfl (Nat.le_of_ble_eq_true rfl) (v_X8_finding (w := 0) (by decide) (f := -1000001) (by decide +kernel) _) rfl ?_
    exact V.ret dX8_judge_16 rfl rfl (PQ_f (w := 0) hF61 (by rw [pJudge, if_pos (not_r3 c8)]))
