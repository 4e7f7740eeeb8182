/-! The text's reader: words, numbers, rules, crowds -/
theorem V.callsN {md md' : MD} {pc n idx : Nat} {L : List (Nat × Value)} {As st rest : List Value} {M : Mem} {Q Q' : Option Value → Mem → Prop} (hcls : md.1.cls = RX7) (hidx : idx = 111) (hmd : md' = m_X8_mostOfRule) (hd : decode md.2.1 pc = .ok (.invokestatic idx, 3)) (hO : MOS md' n) (hR : RM md md') (hlen : (lg_sl As).length ≤ md'.2.2.1) (hn : As.length = n) (hst : st = As.reverse ++ rest) (hw : (rest.map fun v => v.category).sum ≤ 8)
    (h : V md' 0 (lv_args 0 As) [] M Q') (kk : ∀ rv M', Q' rv M' → V md (pc + 3) L (rv.toList ++ rest) M' Q) : V md pc L st M Q := by
  subst hst
  intro p l e s m args below meth c cells slots Z ad D cI hC hE H locs ls hP hS hl
  obtain ⟨hO, hsta⟩ := hO
  have hO' := hO
  obtain ⟨-, -, hc0, hs0, hcode, hini, hnm, hdsc⟩ := hO'
  have hG : GoodIn TBL (Cond.code md'.1 md'.2.1 md'.2.2.1 md'.2.2.2.1 :: TBL) := fun w hw => by
    rcases List.mem_cons.mp hw with rfl | h
    · exact ⟨hcode, tbl_good _ hcode⟩
    · exact ⟨h, tbl_good _ h⟩
  have hN : va_Nw (.methodLinkNest md.1.cls idx md'.1 RX8) s := by
    rw [hcls, hidx, hmd]
    exact hC.2.2.2.2.2.2.2.2.2.1.2.2.2.2
  refine V.after hC hE hS hl (a := (As.map (tr ad)).toArray) ?_ kk
  exact va_runSN (own := md.1.cls) (host := RX8) (Ts := TBL) (nL := md.2.2.1) (cc := md.2.1) (As := As.map (tr ad)) ⟨hC.1, hC.2.1, hC.2.2.1, hC.2.2.2.1, hC.2.2.2.2.1⟩ (met_V hO hlen h l ad D cI) ⟨va_cnB n hC.2.2.2.2.1 hG rfl hc0 hs0 hN (hC.2.2.2.2.1 _ hini) ⟨hnm.1, hnm.2, hdsc⟩ hR, hC.2.2.2.2.1 _ hsta, trivial⟩
    ⟨blind_PU, fun U hU hW => ⟨rfl, pu_of hC hP hS U hU hW⟩⟩ rfl (by rw [List.length_map]; exact hn) hl.1 (by simp) (lv_room (by rw [tr_sum]; exact hw)) hd ⟨hC.2.2.2.2.2.1, hC.2.2.2.2.2.2.1⟩
theorem v_isW {t p i : Nat} (ht : t ≤ 120) (hi : i < 17) {M R : Mem} (hS : SY t p M R) {l : Int64} (hl : lN (cdI i) = l) : V m_X6_isWord 0 [(0, .ref 54), (1, .ref (100 + i))] [] M (RT (some (.int (if wdF t R = l then 1 else 0))) M) := by
  have hS0 := hS
  obtain ⟨hp, m1, m2, m3, -⟩ := hS
  have h := v_X6_isWord hi (p := p) (r := teG t (R 67) p) te_ge (Nat.le_trans (te_le hp) ht) M m2 m3
  rw [show (if iwP i p M = true then (1 : Int32) else 0) = if wdF t R = l then 1 else 0 from ifC (by rw [← hl]; exact SY_word ht hS0 hi)] at h
  exact h
theorem v_stepS {t p : Nat} (ht : t ≤ 120) {M R : Mem} (hS : SY t p M R) : V m_X6_step 0 [(0, .ref 54)] [] M (RT none (stC t M)) := by
  obtain ⟨hp, m1, m2, m3, -⟩ := hS
  exact v_X6_step ht (te_le hp) M m1 m3
theorem cd_0 : lN (cdI 0) = 3751652 := by decide +kernel
theorem cd_1 : lN (cdI 1) = 267316 := by decide +kernel
theorem cd_2 : lN (cdI 2) = 17376357 := by decide +kernel
theorem cd_3 : lN (cdI 3) = 114052 := by decide +kernel
theorem cd_4 : lN (cdI 4) = 19367540 := by decide +kernel
theorem cd_5 : lN (cdI 5) = 52 := by decide +kernel
theorem cd_6 : lN (cdI 6) = 446125701 := by decide +kernel
theorem cd_7 : lN (cdI 7) = 15028 := by decide +kernel
theorem cd_8 : lN (cdI 8) = 12634341 := by decide +kernel
theorem cd_9 : lN (cdI 9) = 20350348 := by decide +kernel
theorem cd_10 : lN (cdI 10) = 20681908 := by decide +kernel
theorem cd_11 : lN (cdI 11) = 18487 := by decide +kernel
theorem cd_12 : lN (cdI 12) = 788083876 := by decide +kernel
theorem cd_13 : lN (cdI 13) = 15748 := by decide +kernel
theorem cd_14 : lN (cdI 14) = 16430 := by decide +kernel
theorem cd_15 : lN (cdI 15) = 18733 := by decide +kernel
theorem cd_16 : lN (cdI 16) = 267312 := by decide +kernel
theorem v_X7_kindTold {t p : Nat} (ht : t ≤ 120) {M R : Mem} (hS : SY t p M R) : V m_X7_kindTold 0 [(0, .ref 56)] [] M (RT (some (.int (kI (wdF t R)))) M) := by
  refine V.aload_n dX7_kindTold_0 rfl rfl rfl ?_
  refine V.getr dX7_kindTold_1 fg_X7_9 rfl rfl rfl ?_
  refine V.ldcS (i := 7) dX7_kindTold_4 (by decide) rfl rfl rfl ?_
  refine V.callv_i (M1 := M) (v := if wdF t R = 15028 then 1 else 0) (md' := m_X6_isWord) (As := [.ref (100 + 7)]) (rest := []) dX7_kindTold_6 ml_X7_40 mo_X6_isWord ⟨Nat.le_of_ble_eq_true rfl, Nat.le_of_ble_eq_true rfl⟩ rfl ⟨_, _, rfl⟩ (Nat.le_of_ble_eq_true rfl) rfl rfl (Nat.le_of_ble_eq_true rfl) (v_isW ht (by decide) hS cd_7) rfl ?_
  refine V.ifb_eq (tgt := 14) dX7_kindTold_9 rfl rfl (fun c9 => ?_) (fun c9 => ?_)
  · skip
    refine V.aload_n dX7_kindTold_14 rfl rfl rfl ?_
    refine V.getr dX7_kindTold_15 fg_X7_9 rfl rfl rfl ?_
    refine V.ldcS (i := 8) dX7_kindTold_18 (by decide) rfl rfl rfl ?_
    refine V.callv_i (M1 := M) (v := if wdF t R = 12634341 then 1 else 0) (md' := m_X6_isWord) (As := [.ref (100 + 8)]) (rest := []) dX7_kindTold_20 ml_X7_40 mo_X6_isWord ⟨Nat.le_of_ble_eq_true rfl, Nat.le_of_ble_eq_true rfl⟩ rfl ⟨_, _, rfl⟩ (Nat.le_of_ble_eq_true rfl) rfl rfl (Nat.le_of_ble_eq_true rfl) (v_isW ht (by decide) hS cd_8) rfl ?_
    refine V.ifb_eq (tgt := 28) dX7_kindTold_23 rfl rfl (fun c23 => ?_) (fun c23 => ?_)
    · skip
      refine V.aload_n dX7_kindTold_28 rfl rfl rfl ?_
      refine V.getr dX7_kindTold_29 fg_X7_9 rfl rfl rfl ?_
      refine V.ldcS (i := 9) dX7_kindTold_32 (by decide) rfl rfl rfl ?_
      refine V.callv_i (M1 := M) (v := if wdF t R = 20350348 then 1 else 0) (md' := m_X6_isWord) (As := [.ref (100 + 9)]) (rest := []) dX7_kindTold_34 ml_X7_40 mo_X6_isWord ⟨Nat.le_of_ble_eq_true rfl, Nat.le_of_ble_eq_true rfl⟩ rfl ⟨_, _, rfl⟩ (Nat.le_of_ble_eq_true rfl) rfl rfl (Nat.le_of_ble_eq_true rfl) (v_isW ht (by decide) hS cd_9) rfl ?_
      refine V.ifb_eq (tgt := 42) dX7_kindTold_37 rfl rfl (fun c37 => ?_) (fun c37 => ?_)
      · skip
        refine V.aload_n dX7_kindTold_42 rfl rfl rfl ?_
        refine V.getr dX7_kindTold_43 fg_X7_9 rfl rfl rfl ?_
        refine V.ldcS (i := 10) dX7_kindTold_46 (by decide) rfl rfl rfl ?_
        refine V.callv_i (M1 := M) (v := if wdF t R = 20681908 then 1 else 0) (md' := m_X6_isWord) (As := [.ref (100 + 10)]) (rest := []) dX7_kindTold_48 ml_X7_40 mo_X6_isWord ⟨Nat.le_of_ble_eq_true rfl, Nat.le_of_ble_eq_true rfl⟩ rfl ⟨_, _, rfl⟩ (Nat.le_of_ble_eq_true rfl) rfl rfl (Nat.le_of_ble_eq_true rfl) (v_isW ht (by decide) hS cd_10) rfl ?_
        refine V.ifb_eq (tgt := 56) dX7_kindTold_51 rfl rfl (fun c51 => ?_) (fun c51 => ?_)
        · skip
          refine V.aload_n dX7_kindTold_56 rfl rfl rfl ?_
          refine V.getr dX7_kindTold_57 fg_X7_9 rfl rfl rfl ?_
          refine V.ldcS (i := 11) dX7_kindTold_60 (by decide) rfl rfl rfl ?_
          refine V.callv_i (M1 := M) (v := if wdF t R = 18487 then 1 else 0) (md' := m_X6_isWord) (As := [.ref (100 + 11)]) (rest := []) dX7_kindTold_62 ml_X7_40 mo_X6_isWord ⟨Nat.le_of_ble_eq_true rfl, Nat.le_of_ble_eq_true rfl⟩ rfl ⟨_, _, rfl⟩ (Nat.le_of_ble_eq_true rfl) rfl rfl (Nat.le_of_ble_eq_true rfl) (v_isW ht (by decide) hS cd_11) rfl ?_
          refine V.ifb_eq (tgt := 70) dX7_kindTold_65 rfl rfl (fun c65 => ?_) (fun c65 => ?_)
          · skip
            refine V.aload_n dX7_kindTold_70 rfl rfl rfl ?_
            refine V.getr dX7_kindTold_71 fg_X7_9 rfl rfl rfl ?_
            refine V.ldcS (i := 12) dX7_kindTold_74 (by decide) rfl rfl rfl ?_
            refine V.callv_i (M1 := M) (v := if wdF t R = 788083876 then 1 else 0) (md' := m_X6_isWord) (As := [.ref (100 + 12)]) (rest := []) dX7_kindTold_76 ml_X7_40 mo_X6_isWord ⟨Nat.le_of_ble_eq_true rfl, Nat.le_of_ble_eq_true rfl⟩ rfl ⟨_, _, rfl⟩ (Nat.le_of_ble_eq_true rfl) rfl rfl (Nat.le_of_ble_eq_true rfl) (v_isW ht (by decide) hS cd_12) rfl ?_
            refine V.ifb_eq (tgt := 84) dX7_kindTold_79 rfl rfl (fun c79 => ?_) (fun c79 => ?_)
            · skip
              refine V.aload_n dX7_kindTold_84 rfl rfl rfl ?_
              refine V.getr dX7_kindTold_85 fg_X7_9 rfl rfl rfl ?_
              refine V.ldcS (i := 13) dX7_kindTold_88 (by decide) rfl rfl rfl ?_
              refine V.callv_i (M1 := M) (v := if wdF t R = 15748 then 1 else 0) (md' := m_X6_isWord) (As := [.ref (100 + 13)]) (rest := []) dX7_kindTold_90 ml_X7_40 mo_X6_isWord ⟨Nat.le_of_ble_eq_true rfl, Nat.le_of_ble_eq_true rfl⟩ rfl ⟨_, _, rfl⟩ (Nat.le_of_ble_eq_true rfl) rfl rfl (Nat.le_of_ble_eq_true rfl) (v_isW ht (by decide) hS cd_13) rfl ?_
              refine V.ifb_eq (tgt := 101) dX7_kindTold_93 rfl rfl (fun c93 => ?_) (fun c93 => ?_)
              · skip
                refine V.iconst (v := -1) dX7_kindTold_101 rfl rfl ?_
                exact V.ret dX7_kindTold_102 rfl rfl ⟨(by simp [kI, c9, c23, c37, c51, c65, c79, c93]), rfl⟩
              · skip
                refine V.bipush (v := 6) dX7_kindTold_96 (by decide) rfl ?_
                refine V.goto (pc' := 102) dX7_kindTold_98 rfl ?_
                exact V.ret dX7_kindTold_102 rfl rfl ⟨(by simp [kI, c9, c23, c37, c51, c65, c79, c93]), rfl⟩
            · skip
              refine V.iconst (v := 5) dX7_kindTold_82 rfl rfl ?_
              exact V.ret dX7_kindTold_83 rfl rfl ⟨(by simp [kI, c9, c23, c37, c51, c65, c79]), rfl⟩
          · skip
            refine V.iconst (v := 4) dX7_kindTold_68 rfl rfl ?_
            exact V.ret dX7_kindTold_69 rfl rfl ⟨(by simp [kI, c9, c23, c37, c51, c65]), rfl⟩
        · skip
          refine V.iconst (v := 3) dX7_kindTold_54 rfl rfl ?_
          exact V.ret dX7_kindTold_55 rfl rfl ⟨(by simp [kI, c9, c23, c37, c51]), rfl⟩
      · skip
        refine V.iconst (v := 2) dX7_kindTold_40 rfl rfl ?_
        exact V.ret dX7_kindTold_41 rfl rfl ⟨(by simp [kI, c9, c23, c37]), rfl⟩
    · skip
      refine V.iconst (v := 1) dX7_kindTold_26 rfl rfl ?_
      exact V.ret dX7_kindTold_27 rfl rfl ⟨(by simp [kI, c9, c23]), rfl⟩
  · skip
    refine V.iconst (v := 0) dX7_kindTold_12 rfl rfl ?_
    exact V.ret dX7_kindTold_13 rfl rfl ⟨(by simp [kI, c9]), rfl⟩
theorem v_X7_placeTold {t p : Nat} (ht : t ≤ 120) {M R : Mem} (hS : SY t p M R) : V m_X7_placeTold 0 [(0, .ref 56)] [] M (RT (some (.int (plI (wdF t R)))) M) := by
  refine V.aload_n dX7_placeTold_0 rfl rfl rfl ?_
  refine V.getr dX7_placeTold_1 fg_X7_9 rfl rfl rfl ?_
  refine V.ldcS (i := 14) dX7_placeTold_4 (by decide) rfl rfl rfl ?_
  refine V.callv_i (M1 := M) (v := if wdF t R = 16430 then 1 else 0) (md' := m_X6_isWord) (As := [.ref (100 + 14)]) (rest := []) dX7_placeTold_6 ml_X7_40 mo_X6_isWord ⟨Nat.le_of_ble_eq_true rfl, Nat.le_of_ble_eq_true rfl⟩ rfl ⟨_, _, rfl⟩ (Nat.le_of_ble_eq_true rfl) rfl rfl (Nat.le_of_ble_eq_true rfl) (v_isW ht (by decide) hS cd_14) rfl ?_
  refine V.ifb_eq (tgt := 14) dX7_placeTold_9 rfl rfl (fun c9 => ?_) (fun c9 => ?_)
  · skip
    refine V.aload_n dX7_placeTold_14 rfl rfl rfl ?_
    refine V.getr dX7_placeTold_15 fg_X7_9 rfl rfl rfl ?_
    refine V.ldcS (i := 15) dX7_placeTold_18 (by decide) rfl rfl rfl ?_
    refine V.callv_i (M1 := M) (v := if wdF t R = 18733 then 1 else 0) (md' := m_X6_isWord) (As := [.ref (100 + 15)]) (rest := []) dX7_placeTold_20 ml_X7_40 mo_X6_isWord ⟨Nat.le_of_ble_eq_true rfl, Nat.le_of_ble_eq_true rfl⟩ rfl ⟨_, _, rfl⟩ (Nat.le_of_ble_eq_true rfl) rfl rfl (Nat.le_of_ble_eq_true rfl) (v_isW ht (by decide) hS cd_15) rfl ?_
    refine V.ifb_eq (tgt := 28) dX7_placeTold_23 rfl rfl (fun c23 => ?_) (fun c23 => ?_)
    · skip
      refine V.aload_n dX7_placeTold_28 rfl rfl rfl ?_
      refine V.getr dX7_placeTold_29 fg_X7_9 rfl rfl rfl ?_
      refine V.ldcS (i := 16) dX7_placeTold_32 (by decide) rfl rfl rfl ?_
      refine V.callv_i (M1 := M) (v := if wdF t R = 267312 then 1 else 0) (md' := m_X6_isWord) (As := [.ref (100 + 16)]) (rest := []) dX7_placeTold_34 ml_X7_40 mo_X6_isWord ⟨Nat.le_of_ble_eq_true rfl, Nat.le_of_ble_eq_true rfl⟩ rfl ⟨_, _, rfl⟩ (Nat.le_of_ble_eq_true rfl) rfl rfl (Nat.le_of_ble_eq_true rfl) (v_isW ht (by decide) hS cd_16) rfl ?_
      refine V.ifb_eq (tgt := 44) dX7_placeTold_37 rfl rfl (fun c37 => ?_) (fun c37 => ?_)
      · skip
        refine V.iconst (v := 0) dX7_placeTold_44 rfl rfl ?_
        exact V.ret dX7_placeTold_45 rfl rfl ⟨(by simp [plI, c9, c23, c37]), rfl⟩
      · skip
        refine V.iconst (v := 3) dX7_placeTold_40 rfl rfl ?_
        refine V.goto (pc' := 45) dX7_placeTold_41 rfl ?_
        exact V.ret dX7_placeTold_45 rfl rfl ⟨(by simp [plI, c9, c23, c37]), rfl⟩
    · skip
      refine V.iconst (v := 2) dX7_placeTold_26 rfl rfl ?_
      exact V.ret dX7_placeTold_27 rfl rfl ⟨(by simp [plI, c9, c23]), rfl⟩
  · skip
    refine V.iconst (v := 1) dX7_placeTold_12 rfl rfl ?_
    exact V.ret dX7_placeTold_13 rfl rfl ⟨(by simp [plI, c9]), rfl⟩
def rnB (t : Nat) (most : Int32) (M : Mem) : Bool := decide (stC t M 54 4 = 2 ∧ ¬ most < stC t M 54 5)
theorem v_X7_rn_t {t p : Nat} (ht : t ≤ 120) {M R : Mem} (hS : SY t p M R) {most v : Int32} (hb : rnB t most M = true) (hv : stC t M 54 5 = v) : V m_X7_readNumberBehind 0 [(0, .ref 56), (1, .int most)] [] M (RT (some (.int v)) (stC t (stC t M))) := by
  obtain ⟨p', hS2⟩ := SY_next ht hS
  have hb' := of_decide_eq_true hb
  refine V.aload_n dX7_readNumberBehind_0 rfl rfl rfl ?_
  refine V.getr dX7_readNumberBehind_1 fg_X7_9 rfl rfl rfl ?_
  refine V.callv_v (M1 := stC t M) (md' := m_X6_step) (As := []) (rest := []) dX7_readNumberBehind_4 ml_X7_32 mo_X6_step ⟨Nat.le_of_ble_eq_true rfl, Nat.le_of_ble_eq_true rfl⟩ rfl ⟨_, _, rfl⟩ (Nat.le_of_ble_eq_true rfl) rfl rfl (Nat.le_of_ble_eq_true rfl) (v_stepS ht hS) rfl ?_
  refine V.aload_n dX7_readNumberBehind_7 rfl rfl rfl ?_
  refine V.getr dX7_readNumberBehind_8 fg_X7_9 rfl rfl rfl ?_
  refine V.geti (v := stC t M 54 4) dX7_readNumberBehind_11 fg_X7_28 rfl rfl rfl rfl ?_
  refine V.iconst (v := 2) dX7_readNumberBehind_14 rfl rfl ?_
  refine V.icmp_ne (tgt := 29) dX7_readNumberBehind_15 rfl rfl (fun c15 => absurd hb'.1 c15) (fun c15 => ?_)
  refine V.aload_n dX7_readNumberBehind_18 rfl rfl rfl ?_
  refine V.getr dX7_readNumberBehind_19 fg_X7_9 rfl rfl rfl ?_
  refine V.geti (v := (stC t M) 54 5) dX7_readNumberBehind_22 fg_X7_118 rfl rfl rfl rfl ?_
  refine V.iload_n dX7_readNumberBehind_25 rfl rfl rfl ?_
  refine V.icmp_le (tgt := 31) dX7_readNumberBehind_26 rfl rfl (fun c26 => ?_) (fun c26 => absurd (Int32.not_lt.mp hb'.2) c26)
  refine V.aload_n dX7_readNumberBehind_31 rfl rfl rfl ?_
  refine V.getr dX7_readNumberBehind_32 fg_X7_9 rfl rfl rfl ?_
  refine V.geti (v := v) dX7_readNumberBehind_35 fg_X7_118 rfl rfl hv rfl ?_
  refine V.ist_n dX7_readNumberBehind_38 rfl (by decide) (L' := [(0, .ref 56), (1, .int most), (2, .int v)]) rfl rfl ?_
  refine V.aload_n dX7_readNumberBehind_39 rfl rfl rfl ?_
  refine V.getr dX7_readNumberBehind_40 fg_X7_9 rfl rfl rfl ?_
  refine V.callv_v (M1 := stC t (stC t M)) (md' := m_X6_step) (As := []) (rest := []) dX7_readNumberBehind_43 ml_X7_32 mo_X6_step ⟨Nat.le_of_ble_eq_true rfl, Nat.le_of_ble_eq_true rfl⟩ rfl ⟨_, _, rfl⟩ (Nat.le_of_ble_eq_true rfl) rfl rfl (Nat.le_of_ble_eq_true rfl) (v_stepS ht hS2) rfl ?_
  refine V.iload_n dX7_readNumberBehind_46 rfl rfl rfl ?_
  exact V.ret dX7_readNumberBehind_47 rfl rfl ⟨rfl, rfl⟩
theorem v_X7_rn_f {t p : Nat} (ht : t ≤ 120) {M R : Mem} (hS : SY t p M R) {most : Int32} (hb : rnB t most M = false) : V m_X7_readNumberBehind 0 [(0, .ref 56), (1, .int most)] [] M (RT (some (.int (-1))) (stC t M)) := by
  obtain ⟨p', hS2⟩ := SY_next ht hS
  have hb' := of_decide_eq_false hb
  refine V.aload_n dX7_readNumberBehind_0 rfl rfl rfl ?_
  refine V.getr dX7_readNumberBehind_1 fg_X7_9 rfl rfl rfl ?_
  refine V.callv_v (M1 := stC t M) (md' := m_X6_step) (As := []) (rest := []) dX7_readNumberBehind_4 ml_X7_32 mo_X6_step ⟨Nat.le_of_ble_eq_true rfl, Nat.le_of_ble_eq_true rfl⟩ rfl ⟨_, _, rfl⟩ (Nat.le_of_ble_eq_true rfl) rfl rfl (Nat.le_of_ble_eq_true rfl) (v_stepS ht hS) rfl ?_
  refine V.aload_n dX7_readNumberBehind_7 rfl rfl rfl ?_
  refine V.getr dX7_readNumberBehind_8 fg_X7_9 rfl rfl rfl ?_
  refine V.geti (v := (stC t M) 54 4) dX7_readNumberBehind_11 fg_X7_28 rfl rfl rfl rfl ?_
  refine V.iconst (v := 2) dX7_readNumberBehind_14 rfl rfl ?_
  refine V.icmp_ne (tgt := 29) dX7_readNumberBehind_15 rfl rfl (fun c15 => ?_) (fun c15 => ?_)
  · skip
    refine V.iconst (v := -1) dX7_readNumberBehind_29 rfl rfl ?_
    exact V.ret dX7_readNumberBehind_30 rfl rfl ⟨rfl, rfl⟩
  · skip
    have hno : ¬ stC t M 54 5 ≤ most := fun z => hb' ⟨c15, Int32.not_lt.mpr z⟩
    refine V.aload_n dX7_readNumberBehind_18 rfl rfl rfl ?_
    refine V.getr dX7_readNumberBehind_19 fg_X7_9 rfl rfl rfl ?_
    refine V.geti (v := (stC t M) 54 5) dX7_readNumberBehind_22 fg_X7_118 rfl rfl rfl rfl ?_
    refine V.iload_n dX7_readNumberBehind_25 rfl rfl rfl ?_
    refine V.icmp_le (tgt := 31) dX7_readNumberBehind_26 rfl rfl (fun c26 => absurd c26 hno) (fun c26 => ?_)
    refine V.iconst (v := -1) dX7_readNumberBehind_29 rfl rfl ?_
    exact V.ret dX7_readNumberBehind_30 rfl rfl ⟨rfl, rfl⟩
def FL (M' R' : Mem) : Prop := ¬ R' 62 10 = 0 ∧ M' 54 2 = R' 62 7
def WRf (R R' : Mem) : Prop := ¬ R' 62 10 = 0 ∧ R' 62 7 = R 62 7
theorem need_W {t : Nat} {b : Bool} {R : Mem} (h : ¬ R 62 10 = 0) : WRf R (needM t b R) := by
  unfold needM
  rw [if_neg (fun q => h q.1)]
  exact ⟨by rw [ms_s]; decide, ms_j (by decide)⟩
theorem need_F {t : Nat} {R : Mem} : WRf R (needM t false R) := by
  unfold needM
  rw [if_neg (fun q => absurd q.2 (by decide))]
  exact ⟨by rw [ms_s]; decide, ms_j (by decide)⟩
theorem num_W {t : Nat} {h : Int} {R : Mem} (hw : ¬ R 62 10 = 0) : numM t h R = R := if_neg hw
theorem WR_tr {R R' R'' : Mem} (h : WRf R R') (g : ¬ R' 62 10 = 0 → WRf R' R'') : WRf R R'' := ⟨(g h.1).1, (g h.1).2.trans h.2⟩
theorem FL_of {M' R R' : Mem} (h : M' 54 2 = R 62 7) (g : WRf R R') : FL M' R' := ⟨g.1, h.trans g.2.symm⟩
theorem need_tok {t : Nat} {R : Mem} (h : R 62 10 = 0) : needM t true R = tokM t R := if_pos ⟨h, rfl⟩
theorem SY_tok {t p : Nat} (ht : t ≤ 120) {M R : Mem} (hS : SY t p M R) : ∃ p', SY t p' (stC t M) (needM t true R) := by
  rw [need_tok hS.2.2.2.2.2.2.2.2.2.2]
  exact SY_next ht hS
theorem SY_from {t p : Nat} {M R : Mem} (hS : SY t p M R) : M 54 2 = R 62 7 := hS.2.2.1.trans hS.2.2.2.2.2.2.2.2.1.symm
/-- a number behind a word, in both -/
theorem rn_cases0 {t p h : Nat} (ht : t ≤ 120) (hh : h ≤ 999) {M R : Mem} (hS : SY t p M R) : (rnB t (nI h) M = true ∧ ∃ v p2, v ≤ h ∧ stC t M 54 5 = nI v ∧ SY t p2 (stC t (stC t M)) (numM t (h : Int) (needM t true R)) ∧ numM t (h : Int) (needM t true R) 62 9 = nI v) ∨ (rnB t (nI h) M = false ∧ WRf (needM t true R) (numM t (h : Int) (needM t true R)) ∧ stC t M 54 2 = needM t true R 62 7) := by
  obtain ⟨p1, hS1⟩ := SY_tok ht hS
  have hS1' := hS1
  obtain ⟨hp, m1, m2, m3, m4, m5, m55, r6, r7, r8, r10⟩ := hS1
  have hlt_of : isD (bA t (needM t true R 67) p1) = true → p1 < t := fun q => by
    rcases Nat.lt_or_ge p1 t with z | z
    · exact z
    · rw [bA_t z] at q; exact absurd q (by decide)
  have e7 : (needM t true R 62 7).toNatClampNeg = p1 := by rw [r7, nI_clamp (by omega)]
  have e8 : (needM t true R 62 8).toNatClampNeg = teG t (needM t true R 67) p1 := by rw [r8, nI_clamp (Nat.lt_of_le_of_lt (te_le hp) (by omega))]
  by_cases hD : isD (bA t (needM t true R 67) p1) = true
  · have hlt := hlt_of hD
    rw [bA_p hlt] at hD
    have hnL : isL (needM t true R 67 p1) = false := by
      cases q : isL (needM t true R 67 p1) with
      | false => rfl
      | true => have := L_nD q; rw [hD] at this; exact absurd this (by decide)
    obtain ⟨v, hv, e1, e2⟩ := nu_va (f := needM t true R 67) (teG t (needM t true R 67) p1 - p1) p1 0 (fun j h1 h2 => by
      have := en_all 121 p1 j h1 (by rw [← te_D ht hlt hnL hD]; omega)
      rcases this.2 with z | z
      · exact absurd z.1 (by decide)
      · exact z.2) (by decide)
    rw [if_pos (by decide)] at e2
    have enu : nuF t (needM t true R) = nI v := by
      unfold nuF
      rw [e7, e8, bA_p hlt, if_pos hD]
      exact e1
    have e5 : stC t M 54 5 = nI (if v < 1000 then v else 1000) := (m5 hlt hD).trans e2
    have e4 : stC t M 54 4 = 2 := by
      rw [m4, tyF, if_neg (by omega), if_neg (by rw [hnL]; decide), if_pos hD]
    have hrng : rng 0 (h : Int) (nI v) = true ↔ v ≤ h := by
      rw [rng_nI (by omega)]
      exact ⟨fun q => by omega, fun q => ⟨by omega, by omega⟩⟩
    by_cases q : v ≤ h
    · left
      have e6 : (if v < 1000 then v else 1000) = v := if_pos (by omega)
      rw [e6] at e5
      refine ⟨decide_eq_true ⟨e4, ?_⟩, v, ?_⟩
      · rw [e5]
        exact fun z => by have := (nI_ltI (a := h) (b := v) (by omega) (by omega)).mp z; omega
      · have en : numM t (h : Int) (needM t true R) = needM t true (ms (needM t true R) 62 9 (nI v)) := by
          unfold numM
          rw [if_pos r10, e7, bA_p hlt, enu, hD, hrng.mpr q]
          rfl
        rw [en]
        have hSv : SY t p1 (stC t M) (ms (needM t true R) 62 9 (nI v)) := SY_cells rfl rfl (fun j hj => ms_j hj) (ms_k (by decide)) hS1'
        obtain ⟨p2, h2⟩ := SY_tok ht hSv
        refine ⟨p2, q, e5, h2, ?_⟩
        rw [need_tok (by rw [ms_j (by decide)]; exact r10), tokM, ms_j (by decide), ms_j (by decide), ms_s]
    · right
      have en : numM t (h : Int) (needM t true R) = needM t false (ms (needM t true R) 62 9 (nI v)) := by
        unfold numM
        rw [if_pos r10, e7, bA_p hlt, enu, hD, Bool.eq_false_iff.mpr (fun z => q (hrng.mp z))]
        rfl
      refine ⟨decide_eq_false (fun z => z.2 ?_), ?_, m2.trans r7.symm⟩
      · rw [e5]
        exact (nI_ltI (by omega) (by split <;> omega)).mpr (by split <;> omega)
      · rw [en]
        have := need_F (t := t) (R := ms (needM t true R) 62 9 (nI v))
        exact ⟨this.1, this.2.trans (ms_j (by decide))⟩
  · right
    have en : numM t (h : Int) (needM t true R) = needM t false (ms (needM t true R) 62 9 (nuF t (needM t true R))) := by
      unfold numM
      rw [if_pos r10, e7, Bool.eq_false_iff.mpr hD]
      rfl
    refine ⟨decide_eq_false (fun z => ?_), ?_, m2.trans r7.symm⟩
    · have z4 := z.1
      rw [m4] at z4
      unfold tyF at z4
      by_cases y : t ≤ p1
      · rw [if_pos y] at z4; exact absurd z4 (by decide)
      · rw [bA_p (by omega)] at hD
        rw [if_neg y, if_neg hD] at z4
        split at z4
        · exact absurd z4 (by decide)
        · split at z4 <;> exact absurd z4 (by decide)
    · rw [en]
      have := need_F (t := t) (R := ms (needM t true R) 62 9 (nuF t (needM t true R)))
      exact ⟨this.1, this.2.trans (ms_j (by decide))⟩
theorem rn_cases {t p h : Nat} (ht : t ≤ 120) (hh : h ≤ 999) {hi : Int} (he : (h : Int) = hi) {M R : Mem} (hS : SY t p M R) : (rnB t (nI h) M = true ∧ ∃ v p2, v ≤ h ∧ stC t M 54 5 = nI v ∧ SY t p2 (stC t (stC t M)) (numM t hi (needM t true R)) ∧ numM t hi (needM t true R) 62 9 = nI v) ∨ (rnB t (nI h) M = false ∧ WRf (needM t true R) (numM t hi (needM t true R)) ∧ stC t M 54 2 = needM t true R 62 7) := by
  subst he
  exact rn_cases0 ht hh hS
/-- kinds and spots of a row -/
def KI (c : Nat) (R : Mem) : Prop := (∀ b, b < c → ∃ k, k ≤ 6 ∧ R 63 (20 + 5 * b) = nI k) ∧ ∀ k, k < 10 → ∃ o : Option Nat, R 63 (106 + k) = bI o ∧ ∀ b, o = some b → b < c
theorem KI_R {c : Nat} {R R' : Mem} (h : R' 63 = R 63) (hK : KI c R) : KI c R' := by
  unfold KI
  rw [h]
  exact hK
/-- an item read: in step again, or at the fault -/
def IQ (t m A B : Nat) (R' M : Mem) : Option Value → Mem → Prop := fun rv M' => (∀ k, k < 27 ∨ 40 ≤ k → k ≠ 54 → M' k = M k) ∧ ((rv = some (.int 1) ∧ ∃ p' c' cc' q', SY t p' M' R' ∧ c' ≤ 10 ∧ cc' ≤ 12 ∧ q' ≤ 99 ∧ ST 27 c' cc' q' m A B M' R' ∧ KI c' R') ∨ (rv = some (.int 0) ∧ FL M' R'))
def KP (M' M : Mem) : Prop := ∀ k, k < 27 ∨ 40 ≤ k → k ≠ 54 → M' k = M k
theorem KP_rf (M : Mem) : KP M M := fun _ _ _ => rfl
theorem KP_st {t : Nat} {M' M : Mem} (h : KP M' M) : KP (stC t M') M := fun k z1 z2 => (stC_k z2).trans (h k z1 z2)
theorem KP_ms {a j : Nat} {v : Int32} {M' M : Mem} (h1 : 27 ≤ a) (h2 : a < 40) (h : KP M' M) : KP (ms M' a j v) M := fun k z1 z2 => (ms_k (by omega)).trans (h k z1 z2)
theorem ST_st {t c cc p m A B : Nat} {M R : Mem} (h : ST 27 c cc p m A B M R) : ST 27 c cc p m A B (stC t M) R := ST_M (fun a h1 h2 => stC_k (by omega)) h
theorem mostF_0 : mostF 0 = nI 20 := by decide +kernel
theorem mostF_1 : mostF 1 = nI 99 := by decide +kernel
theorem mostF_2 : mostF 2 = nI 9 := by decide +kernel
theorem ru_ok {t j v : Nat} {h : Int} {R : Mem} (hw : numM t h (needM t true R) 62 10 = 0) (hv : numM t h (needM t true R) 62 9 = nI v) : ruM t j h R = ms (numM t h (needM t true R)) 63 (4 + j) (nI v) := by
  unfold ruM
  rw [show peM t true h R = numM t h (needM t true R) from rfl, show peV t true h 0 R = numM t h (needM t true R) 62 9 from rfl, if_pos hw, hv]
theorem ru_no {t j : Nat} {h : Int} {R : Mem} (hw : ¬ numM t h (needM t true R) 62 10 = 0) : ruM t j h R = numM t h (needM t true R) := by
  unfold ruM
  rw [show peM t true h R = numM t h (needM t true R) from rfl, if_neg hw]
theorem nn_k {t k : Nat} {h : Int} {b : Bool} {R : Mem} (hk : k ≠ 62) : numM t h (needM t b R) k = R k := by rw [num_k hk, need_k hk]
theorem KI_ms {c j : Nat} {v : Int32} {R : Mem} (hj : j < 20) (hK : KI c R) : KI c (ms R 63 j v) := ⟨fun b hb => by rw [ms_j (by omega)]; exact hK.1 b hb, fun k hk => by rw [ms_j (by omega)]; exact hK.2 k hk⟩
theorem v_X7_readRule_0 {t p : Nat} (ht : t ≤ 120) {c : Nat} (hc : c ≤ 10) {cc : Nat} (hcc : cc ≤ 12) {q : Nat} (hq : q ≤ 99) {m A B : Nat} {M R : Mem} (hS : SY t p M R) (hV : ST 27 c cc q m A B M R) (hK : KI c R) : V m_X7_readRule 0 [(0, .ref 56), (1, .int 0)] [] M (IQ t m A B (ruM t 0 20 R) M) := by
  refine V.aload_n dX7_readRule_0 rfl rfl rfl ?_
  refine V.iload_n dX7_readRule_1 rfl rfl rfl ?_
  refine V.callsN rfl rfl rfl (md' := m_X8_mostOfRule) (As := [.int 0]) (rest := [.ref 56]) dX7_readRule_2 mo_X8_mostOfRule ⟨Nat.le_of_ble_eq_true rfl, Nat.le_of_ble_eq_true rfl⟩ (Nat.le_of_ble_eq_true rfl) rfl rfl (Nat.le_of_ble_eq_true rfl) (v_X8_mostOfRule 0 M) (fun rv M' z => ?_)
  obtain ⟨z1, z2⟩ := z
  rw [z1, z2]
  rcases rn_cases ht (h := 20) (by decide) (hi := 20) rfl hS with ⟨hb, v, p2, hv, e5, hS2, e9⟩ | ⟨hb, hF, eF⟩
  · refine V.callv_i (M1 := stC t (stC t M)) (v := nI v) (md' := m_X7_readNumberBehind) (As := [.int (mostF 0)]) (rest := []) dX7_readRule_5 ml_X7_81 mo_X7_readNumberBehind ⟨Nat.le_of_ble_eq_true rfl, Nat.le_of_ble_eq_true rfl⟩ rfl ⟨_, _, rfl⟩ (Nat.le_of_ble_eq_true rfl) rfl rfl (Nat.le_of_ble_eq_true rfl) (v_X7_rn_t ht hS (most := mostF 0) (by rw [mostF_0]; exact hb) e5) rfl ?_
    refine V.ist_n dX7_readRule_8 rfl (by decide) (L' := [(0, .ref 56), (1, .int 0), (2, .int (nI v))]) rfl rfl ?_
    refine V.iload_n dX7_readRule_9 rfl rfl rfl ?_
    refine V.if_ge (tgt := 15) dX7_readRule_10 rfl rfl (fun c10 => ?_) (fun c10 => absurd ((nI_leI (a := 0) (b := v) (by omega) (by omega)).mpr (by omega)) c10)
    have c10 : 0 ≤ v := (nI_leI (a := 0) (b := v) (by omega) (by omega)).mp c10
    refine V.aload_n dX7_readRule_15 rfl rfl rfl ?_
    refine V.getr dX7_readRule_16 fg_X7_15 rfl rfl rfl ?_
    refine V.iload_n dX7_readRule_19 rfl rfl rfl ?_
    refine V.iload_n dX7_readRule_20 rfl rfl rfl ?_
    refine V.callv_v (M1 := ms (stC t (stC t M)) 27 4 (nI v)) (md' := m_X2_setRule) (As := [.int 0, .int (nI v)]) (rest := []) dX7_readRule_21 ml_X7_114 mo_X2_setRule ⟨Nat.le_of_ble_eq_true rfl, Nat.le_of_ble_eq_true rfl⟩ rfl ⟨_, _, rfl⟩ (Nat.le_of_ble_eq_true rfl) rfl rfl (Nat.le_of_ble_eq_true rfl) (v_X2_setRule isE27 0 (nI v) _) rfl ?_
    refine V.iconst (v := 1) dX7_readRule_24 rfl rfl ?_
    exact V.ret dX7_readRule_25 rfl rfl (⟨fun k z1 z2 => by rw [ms_k (by omega), stC_k z2, stC_k z2], .inl ⟨rfl, p2, c, cc, q, by rw [ru_ok hS2.2.2.2.2.2.2.2.2.2.2 e9]; exact SY_cells (ms_k (by decide)) (ms_k (by decide)) (fun j _ => by rw [ms_k (by decide)]) (ms_k (by decide)) hS2, hc, hcc, by omega, by rw [ru_ok hS2.2.2.2.2.2.2.2.2.2.2 e9]; exact ST_heat hv (ST_st (ST_st (ST_R (nn_k (by decide)) hV))), by rw [ru_ok hS2.2.2.2.2.2.2.2.2.2.2 e9]; exact KI_ms (by decide) (KI_R (nn_k (by decide)) hK)⟩⟩)
  · refine V.callv_i (M1 := stC t M) (v := -1) (md' := m_X7_readNumberBehind) (As := [.int (mostF 0)]) (rest := []) dX7_readRule_5 ml_X7_81 mo_X7_readNumberBehind ⟨Nat.le_of_ble_eq_true rfl, Nat.le_of_ble_eq_true rfl⟩ rfl ⟨_, _, rfl⟩ (Nat.le_of_ble_eq_true rfl) rfl rfl (Nat.le_of_ble_eq_true rfl) (v_X7_rn_f ht hS (most := mostF 0) (by rw [mostF_0]; exact hb)) rfl ?_
    refine V.ist_n dX7_readRule_8 rfl (by decide) (L' := [(0, .ref 56), (1, .int 0), (2, .int (-1))]) rfl rfl ?_
    refine V.iload_n dX7_readRule_9 rfl rfl rfl ?_
    refine V.if_ge (tgt := 15) dX7_readRule_10 rfl rfl (fun c10 => absurd c10 (by decide)) (fun _ => ?_)
    refine V.iconst (v := 0) dX7_readRule_13 rfl rfl ?_
    exact V.ret dX7_readRule_14 rfl rfl (⟨KP_st (KP_rf M), .inr ⟨rfl, FL_of eF (by rw [ru_no hF.1]; exact hF)⟩⟩)
theorem v_X7_readRule_1 {t p : Nat} (ht : t ≤ 120) {c : Nat} (hc : c ≤ 10) {cc : Nat} (hcc : cc ≤ 12) {q : Nat} (hq : q ≤ 99) {m A B : Nat} {M R : Mem} (hS : SY t p M R) (hV : ST 27 c cc q m A B M R) (hK : KI c R) : V m_X7_readRule 0 [(0, .ref 56), (1, .int 1)] [] M (IQ t m A B (ruM t 1 99 R) M) := by
  refine V.aload_n dX7_readRule_0 rfl rfl rfl ?_
  refine V.iload_n dX7_readRule_1 rfl rfl rfl ?_
  refine V.callsN rfl rfl rfl (md' := m_X8_mostOfRule) (As := [.int 1]) (rest := [.ref 56]) dX7_readRule_2 mo_X8_mostOfRule ⟨Nat.le_of_ble_eq_true rfl, Nat.le_of_ble_eq_true rfl⟩ (Nat.le_of_ble_eq_true rfl) rfl rfl (Nat.le_of_ble_eq_true rfl) (v_X8_mostOfRule 1 M) (fun rv M' z => ?_)
  obtain ⟨z1, z2⟩ := z
  rw [z1, z2]
  rcases rn_cases ht (h := 99) (by decide) (hi := 99) rfl hS with ⟨hb, v, p2, hv, e5, hS2, e9⟩ | ⟨hb, hF, eF⟩
  · refine V.callv_i (M1 := stC t (stC t M)) (v := nI v) (md' := m_X7_readNumberBehind) (As := [.int (mostF 1)]) (rest := []) dX7_readRule_5 ml_X7_81 mo_X7_readNumberBehind ⟨Nat.le_of_ble_eq_true rfl, Nat.le_of_ble_eq_true rfl⟩ rfl ⟨_, _, rfl⟩ (Nat.le_of_ble_eq_true rfl) rfl rfl (Nat.le_of_ble_eq_true rfl) (v_X7_rn_t ht hS (most := mostF 1) (by rw [mostF_1]; exact hb) e5) rfl ?_
    refine V.ist_n dX7_readRule_8 rfl (by decide) (L' := [(0, .ref 56), (1, .int 1), (2, .int (nI v))]) rfl rfl ?_
    refine V.iload_n dX7_readRule_9 rfl rfl rfl ?_
    refine V.if_ge (tgt := 15) dX7_readRule_10 rfl rfl (fun c10 => ?_) (fun c10 => absurd ((nI_leI (a := 0) (b := v) (by omega) (by omega)).mpr (by omega)) c10)
    have c10 : 0 ≤ v := (nI_leI (a := 0) (b := v) (by omega) (by omega)).mp c10
    refine V.aload_n dX7_readRule_15 rfl rfl rfl ?_
    refine V.getr dX7_readRule_16 fg_X7_15 rfl rfl rfl ?_
    refine V.iload_n dX7_readRule_19 rfl rfl rfl ?_
    refine V.iload_n dX7_readRule_20 rfl rfl rfl ?_
    refine V.callv_v (M1 := ms (stC t (stC t M)) 27 5 (nI v)) (md' := m_X2_setRule) (As := [.int 1, .int (nI v)]) (rest := []) dX7_readRule_21 ml_X7_114 mo_X2_setRule ⟨Nat.le_of_ble_eq_true rfl, Nat.le_of_ble_eq_true rfl⟩ rfl ⟨_, _, rfl⟩ (Nat.le_of_ble_eq_true rfl) rfl rfl (Nat.le_of_ble_eq_true rfl) (v_X2_setRule isE27 1 (nI v) _) rfl ?_
    refine V.iconst (v := 1) dX7_readRule_24 rfl rfl ?_
    exact V.ret dX7_readRule_25 rfl rfl (⟨fun k z1 z2 => by rw [ms_k (by omega), stC_k z2, stC_k z2], .inl ⟨rfl, p2, c, cc, v, by rw [ru_ok hS2.2.2.2.2.2.2.2.2.2.2 e9]; exact SY_cells (ms_k (by decide)) (ms_k (by decide)) (fun j _ => by rw [ms_k (by decide)]) (ms_k (by decide)) hS2, hc, hcc, by omega, by rw [ru_ok hS2.2.2.2.2.2.2.2.2.2.2 e9]; exact ST_price v (ST_st (ST_st (ST_R (nn_k (by decide)) hV))), by rw [ru_ok hS2.2.2.2.2.2.2.2.2.2.2 e9]; exact KI_ms (by decide) (KI_R (nn_k (by decide)) hK)⟩⟩)
  · refine V.callv_i (M1 := stC t M) (v := -1) (md' := m_X7_readNumberBehind) (As := [.int (mostF 1)]) (rest := []) dX7_readRule_5 ml_X7_81 mo_X7_readNumberBehind ⟨Nat.le_of_ble_eq_true rfl, Nat.le_of_ble_eq_true rfl⟩ rfl ⟨_, _, rfl⟩ (Nat.le_of_ble_eq_true rfl) rfl rfl (Nat.le_of_ble_eq_true rfl) (v_X7_rn_f ht hS (most := mostF 1) (by rw [mostF_1]; exact hb)) rfl ?_
    refine V.ist_n dX7_readRule_8 rfl (by decide) (L' := [(0, .ref 56), (1, .int 1), (2, .int (-1))]) rfl rfl ?_
    refine V.iload_n dX7_readRule_9 rfl rfl rfl ?_
    refine V.if_ge (tgt := 15) dX7_readRule_10 rfl rfl (fun c10 => absurd c10 (by decide)) (fun _ => ?_)
    refine V.iconst (v := 0) dX7_readRule_13 rfl rfl ?_
    exact V.ret dX7_readRule_14 rfl rfl (⟨KP_st (KP_rf M), .inr ⟨rfl, FL_of eF (by rw [ru_no hF.1]; exact hF)⟩⟩)
theorem v_X7_readRule_2 {t p : Nat} (ht : t ≤ 120) {c : Nat} (hc : c ≤ 10) {cc : Nat} (hcc : cc ≤ 12) {q : Nat} (hq : q ≤ 99) {m A B : Nat} {M R : Mem} (hS : SY t p M R) (hV : ST 27 c cc q m A B M R) (hK : KI c R) : V m_X7_readRule 0 [(0, .ref 56), (1, .int 2)] [] M (IQ t m A B (ruM t 2 9 R) M) := by
  refine V.aload_n dX7_readRule_0 rfl rfl rfl ?_
  refine V.iload_n dX7_readRule_1 rfl rfl rfl ?_
  refine V.callsN rfl rfl rfl (md' := m_X8_mostOfRule) (As := [.int 2]) (rest := [.ref 56]) dX7_readRule_2 mo_X8_mostOfRule ⟨Nat.le_of_ble_eq_true rfl, Nat.le_of_ble_eq_true rfl⟩ (Nat.le_of_ble_eq_true rfl) rfl rfl (Nat.le_of_ble_eq_true rfl) (v_X8_mostOfRule 2 M) (fun rv M' z => ?_)
  obtain ⟨z1, z2⟩ := z
  rw [z1, z2]
  rcases rn_cases ht (h := 9) (by decide) (hi := 9) rfl hS with ⟨hb, v, p2, hv, e5, hS2, e9⟩ | ⟨hb, hF, eF⟩
  · refine V.callv_i (M1 := stC t (stC t M)) (v := nI v) (md' := m_X7_readNumberBehind) (As := [.int (mostF 2)]) (rest := []) dX7_readRule_5 ml_X7_81 mo_X7_readNumberBehind ⟨Nat.le_of_ble_eq_true rfl, Nat.le_of_ble_eq_true rfl⟩ rfl ⟨_, _, rfl⟩ (Nat.le_of_ble_eq_true rfl) rfl rfl (Nat.le_of_ble_eq_true rfl) (v_X7_rn_t ht hS (most := mostF 2) (by rw [mostF_2]; exact hb) e5) rfl ?_
    refine V.ist_n dX7_readRule_8 rfl (by decide) (L' := [(0, .ref 56), (1, .int 2), (2, .int (nI v))]) rfl rfl ?_
    refine V.iload_n dX7_readRule_9 rfl rfl rfl ?_
    refine V.if_ge (tgt := 15) dX7_readRule_10 rfl rfl (fun c10 => ?_) (fun c10 => absurd ((nI_leI (a := 0) (b := v) (by omega) (by omega)).mpr (by omega)) c10)
    have c10 : 0 ≤ v := (nI_leI (a := 0) (b := v) (by omega) (by omega)).mp c10
    refine V.aload_n dX7_readRule_15 rfl rfl rfl ?_
    refine V.getr dX7_readRule_16 fg_X7_15 rfl rfl rfl ?_
    refine V.iload_n dX7_readRule_19 rfl rfl rfl ?_
    refine V.iload_n dX7_readRule_20 rfl rfl rfl ?_
    refine V.callv_v (M1 := ms (stC t (stC t M)) 27 6 (nI v)) (md' := m_X2_setRule) (As := [.int 2, .int (nI v)]) (rest := []) dX7_readRule_21 ml_X7_114 mo_X2_setRule ⟨Nat.le_of_ble_eq_true rfl, Nat.le_of_ble_eq_true rfl⟩ rfl ⟨_, _, rfl⟩ (Nat.le_of_ble_eq_true rfl) rfl rfl (Nat.le_of_ble_eq_true rfl) (v_X2_setRule isE27 2 (nI v) _) rfl ?_
    refine V.iconst (v := 1) dX7_readRule_24 rfl rfl ?_
    exact V.ret dX7_readRule_25 rfl rfl (⟨fun k z1 z2 => by rw [ms_k (by omega), stC_k z2, stC_k z2], .inl ⟨rfl, p2, c, cc, q, by rw [ru_ok hS2.2.2.2.2.2.2.2.2.2.2 e9]; exact SY_cells (ms_k (by decide)) (ms_k (by decide)) (fun j _ => by rw [ms_k (by decide)]) (ms_k (by decide)) hS2, hc, hcc, by omega, by rw [ru_ok hS2.2.2.2.2.2.2.2.2.2.2 e9]; exact ST_cold hv (ST_st (ST_st (ST_R (nn_k (by decide)) hV))), by rw [ru_ok hS2.2.2.2.2.2.2.2.2.2.2 e9]; exact KI_ms (by decide) (KI_R (nn_k (by decide)) hK)⟩⟩)
  · refine V.callv_i (M1 := stC t M) (v := -1) (md' := m_X7_readNumberBehind) (As := [.int (mostF 2)]) (rest := []) dX7_readRule_5 ml_X7_81 mo_X7_readNumberBehind ⟨Nat.le_of_ble_eq_true rfl, Nat.le_of_ble_eq_true rfl⟩ rfl ⟨_, _, rfl⟩ (Nat.le_of_ble_eq_true rfl) rfl rfl (Nat.le_of_ble_eq_true rfl) (v_X7_rn_f ht hS (most := mostF 2) (by rw [mostF_2]; exact hb)) rfl ?_
    refine V.ist_n dX7_readRule_8 rfl (by decide) (L' := [(0, .ref 56), (1, .int 2), (2, .int (-1))]) rfl rfl ?_
    refine V.iload_n dX7_readRule_9 rfl rfl rfl ?_
    refine V.if_ge (tgt := 15) dX7_readRule_10 rfl rfl (fun c10 => absurd c10 (by decide)) (fun _ => ?_)
    refine V.iconst (v := 0) dX7_readRule_13 rfl rfl ?_
    exact V.ret dX7_readRule_14 rfl rfl (⟨KP_st (KP_rf M), .inr ⟨rfl, FL_of eF (by rw [ru_no hF.1]; exact hF)⟩⟩)
theorem cr6_W {cc : Nat} {v1 v2 : Int32} {R : Mem} (h : ¬ R 62 10 = 0) : WRf R (cr6 cc v1 v2 R) := by
  unfold cr6
  rw [if_neg h]
  exact ⟨h, rfl⟩
theorem cr5_W {t cc : Nat} {v1 v2 : Int32} {R : Mem} (h : ¬ R 62 10 = 0) : WRf R (cr5 t cc v1 v2 R) := by
  unfold cr5
  rw [num_W h]
  exact cr6_W h
theorem cr4_W {t cc : Nat} {v1 : Int32} {R : Mem} (h : ¬ R 62 10 = 0) : WRf R (cr4 t cc v1 R) := by
  unfold cr4
  rw [num_W h]
  exact WR_tr (need_W h) cr5_W
theorem cr3_W {t cc : Nat} {R : Mem} (h : ¬ R 62 10 = 0) : WRf R (cr3 t cc R) := by
  unfold cr3
  rw [num_W h]
  exact WR_tr (need_W h) cr4_W
theorem KI_newC {c cc : Nat} {a b d : Int32} {R : Mem} (hc : c ≤ 10) (hcc : cc < 12) (hK : KI c R) : KI c (mNewC cc a b d R) := by
  unfold mNewC
  exact ⟨fun x hx => by rw [ms_j (by omega), ms_j (by omega), ms_j (by omega), ms_j (by omega)]; exact hK.1 x hx, fun k hk => by rw [ms_j (by omega), ms_j (by omega), ms_j (by omega), ms_j (by omega)]; exact hK.2 k hk⟩
theorem ST_c27' {c cc p m A B : Nat} {M R : Mem} (hV : ST 27 c cc p m A B M R) : M 34 3 = nI cc := by
  obtain ⟨hb, h8, h11, s5, h13, h9, h7, h6, h5, hcr, hd, hc1, hc7, h4, h10, h12, h14, hs, s1, s2, s0, s4, sd, sg, sa, s9, s8, s6, sm⟩ := hV
  exact hc7
theorem v_X7_readCrowd {t p : Nat} (ht : t ≤ 120) {c : Nat} (hc : c ≤ 10) {cc : Nat} (hcc : cc ≤ 12) {q : Nat} (hq : q ≤ 99) {m A B : Nat} {M R : Mem} (hS : SY t p M R) (hV : ST 27 c cc q m A B M R) (hK : KI c R) : V m_X7_readCrowd 0 [(0, .ref 56)] [] M (IQ t m A B (crM t cc R) M) := by
  have h34 := ST_c27' hV
  refine V.aload_n dX7_readCrowd_0 rfl rfl rfl ?_
  refine V.getr dX7_readCrowd_1 fg_X7_15 rfl rfl rfl ?_
  refine V.getr dX7_readCrowd_4 fg_X7_97 rfl rfl rfl ?_
  refine V.callv_i (M1 := M) (v := if 12 ≤ cc then 1 else 0) (md' := m_X1_isFull) (As := []) (rest := []) dX7_readCrowd_7 ml_X7_101 mo_X1_isFull ⟨Nat.le_of_ble_eq_true rfl, Nat.le_of_ble_eq_true rfl⟩ rfl ⟨_, _, rfl⟩ (Nat.le_of_ble_eq_true rfl) rfl rfl (Nat.le_of_ble_eq_true rfl) (v_X1_isFull isE27 hcc M h34) rfl ?_
  refine V.ifb_eq (tgt := 15) dX7_readCrowd_10 rfl rfl (fun c10 => ?_) (fun c10 => ?_)
  · skip
    refine V.aload_n dX7_readCrowd_15 rfl rfl rfl ?_
    refine V.sipush (v := 400) dX7_readCrowd_16 (by decide) rfl ?_
    rcases rn_cases ht (h := 400) (by decide) (hi := 400) rfl hS with ⟨hbv1, v1, pv1, hv1, e5v1, hSv1, e9v1⟩ | ⟨hbv1, hFv1, eFv1⟩
    · skip
      refine V.callv_i (M1 := stC t (stC t M)) (v := nI v1) (md' := m_X7_readNumberBehind) (As := [.int 400]) (rest := []) dX7_readCrowd_19 ml_X7_81 mo_X7_readNumberBehind ⟨Nat.le_of_ble_eq_true rfl, Nat.le_of_ble_eq_true rfl⟩ rfl ⟨_, _, rfl⟩ (Nat.le_of_ble_eq_true rfl) rfl rfl (Nat.le_of_ble_eq_true rfl) (v_X7_rn_t ht hS (most := nI 400) hbv1 e5v1) rfl ?_
      refine V.ist_n dX7_readCrowd_22 rfl (by decide) (L' := [(0, .ref 56), (1, .int (nI v1))]) rfl rfl ?_
      refine V.iload_n dX7_readCrowd_23 rfl rfl rfl ?_
      refine V.if_lt (tgt := 39) dX7_readCrowd_24 rfl rfl (fun c24 => absurd ((nI_ltI (a := v1) (b := 0) (by omega) (by omega)).mp c24) (by omega)) (fun c24 => ?_)
      have c24 : ¬ v1 < 0 := fun zq => c24 ((nI_ltI (a := v1) (b := 0) (by omega) (by omega)).mpr zq)
      refine V.aload_n dX7_readCrowd_27 rfl rfl rfl ?_
      refine V.getr dX7_readCrowd_28 fg_X7_9 rfl rfl rfl ?_
      refine V.ldcS (i := 5) dX7_readCrowd_31 (by decide) rfl rfl rfl ?_
      refine V.callv_i (M1 := stC t (stC t M)) (v := if wdF t (numM t 400 (needM t true R)) = 52 then 1 else 0) (md' := m_X6_isWord) (As := [.ref (100 + 5)]) (rest := []) dX7_readCrowd_33 ml_X7_40 mo_X6_isWord ⟨Nat.le_of_ble_eq_true rfl, Nat.le_of_ble_eq_true rfl⟩ rfl ⟨_, _, rfl⟩ (Nat.le_of_ble_eq_true rfl) rfl rfl (Nat.le_of_ble_eq_true rfl) (v_isW ht (by decide) hSv1 cd_5) rfl ?_
      refine V.ifb_ne (tgt := 41) dX7_readCrowd_36 rfl rfl (fun c36 => ?_) (fun c36 => ?_)
      · skip
        refine V.aload_n dX7_readCrowd_41 rfl rfl rfl ?_
        refine V.iconst (v := 3) dX7_readCrowd_42 rfl rfl ?_
        rcases rn_cases ht (h := 3) (by decide) (hi := 3) rfl hSv1 with ⟨hbv2, v2, pv2, hv2, e5v2, hSv2, e9v2⟩ | ⟨hbv2, hFv2, eFv2⟩
        · skip
          refine V.callv_i (M1 := stC t (stC t (stC t (stC t M)))) (v := nI v2) (md' := m_X7_readNumberBehind) (As := [.int 3]) (rest := []) dX7_readCrowd_43 ml_X7_81 mo_X7_readNumberBehind ⟨Nat.le_of_ble_eq_true rfl, Nat.le_of_ble_eq_true rfl⟩ rfl ⟨_, _, rfl⟩ (Nat.le_of_ble_eq_true rfl) rfl rfl (Nat.le_of_ble_eq_true rfl) (v_X7_rn_t ht hSv1 (most := nI 3) hbv2 e5v2) rfl ?_
          refine V.ist_n dX7_readCrowd_46 rfl (by decide) (L' := [(0, .ref 56), (1, .int (nI v1)), (2, .int (nI v2))]) rfl rfl ?_
          refine V.iload_n dX7_readCrowd_47 rfl rfl rfl ?_
          refine V.if_lt (tgt := 63) dX7_readCrowd_48 rfl rfl (fun c48 => absurd ((nI_ltI (a := v2) (b := 0) (by omega) (by omega)).mp c48) (by omega)) (fun c48 => ?_)
          have c48 : ¬ v2 < 0 := fun zq => c48 ((nI_ltI (a := v2) (b := 0) (by omega) (by omega)).mpr zq)
          refine V.aload_n dX7_readCrowd_51 rfl rfl rfl ?_
          refine V.getr dX7_readCrowd_52 fg_X7_9 rfl rfl rfl ?_
          refine V.ldcS (i := 6) dX7_readCrowd_55 (by decide) rfl rfl rfl ?_
          refine V.callv_i (M1 := stC t (stC t (stC t (stC t M)))) (v := if wdF t (numM t 3 (needM t true (numM t 400 (needM t true R)))) = 446125701 then 1 else 0) (md' := m_X6_isWord) (As := [.ref (100 + 6)]) (rest := []) dX7_readCrowd_57 ml_X7_40 mo_X6_isWord ⟨Nat.le_of_ble_eq_true rfl, Nat.le_of_ble_eq_true rfl⟩ rfl ⟨_, _, rfl⟩ (Nat.le_of_ble_eq_true rfl) rfl rfl (Nat.le_of_ble_eq_true rfl) (v_isW ht (by decide) hSv2 cd_6) rfl ?_
          refine V.ifb_ne (tgt := 65) dX7_readCrowd_60 rfl rfl (fun c60 => ?_) (fun c60 => ?_)
          · skip
            refine V.aload_n dX7_readCrowd_65 rfl rfl rfl ?_
            refine V.sipush (v := 999) dX7_readCrowd_66 (by decide) rfl ?_
            rcases rn_cases ht (h := 999) (by decide) (hi := 999) rfl hSv2 with ⟨hbv3, v3, pv3, hv3, e5v3, hSv3, e9v3⟩ | ⟨hbv3, hFv3, eFv3⟩
            · skip
              refine V.callv_i (M1 := stC t (stC t (stC t (stC t (stC t (stC t M)))))) (v := nI v3) (md' := m_X7_readNumberBehind) (As := [.int 999]) (rest := []) dX7_readCrowd_69 ml_X7_81 mo_X7_readNumberBehind ⟨Nat.le_of_ble_eq_true rfl, Nat.le_of_ble_eq_true rfl⟩ rfl ⟨_, _, rfl⟩ (Nat.le_of_ble_eq_true rfl) rfl rfl (Nat.le_of_ble_eq_true rfl) (v_X7_rn_t ht hSv2 (most := nI 999) hbv3 e5v3) rfl ?_
              refine V.ist_n dX7_readCrowd_72 rfl (by decide) (L' := [(0, .ref 56), (1, .int (nI v1)), (2, .int (nI v2)), (3, .int (nI v3))]) rfl rfl ?_
              refine V.iload_n dX7_readCrowd_73 rfl rfl rfl ?_
              refine V.if_ge (tgt := 79) dX7_readCrowd_74 rfl rfl (fun c74 => ?_) (fun c74 => absurd ((nI_leI (a := 0) (b := v3) (by omega) (by omega)).mpr (by omega)) c74)
              have c74 : 0 ≤ v3 := (nI_leI (a := 0) (b := v3) (by omega) (by omega)).mp c74
              have h63 : (numM t 999 (needM t true (numM t 3 (needM t true (numM t 400 (needM t true R)))))) 63 = R 63 := by rw [num_k (by decide), need_k (by decide), num_k (by decide), need_k (by decide), num_k (by decide), need_k (by decide)]
              have hcr : crM t cc R = mNewC cc (nI v2) (nI v3) (nI v1) (numM t 999 (needM t true (numM t 3 (needM t true (numM t 400 (needM t true R)))))) := by rw [crM, show (decide (cc < 12)) = true from decide_eq_true (by omega), cr3, show (decide (wdF t (numM t 400 (needM t true R)) = 52)) = true from decide_eq_true c36, cr4, show (decide (wdF t (numM t 3 (needM t true (numM t 400 (needM t true R)))) = 446125701)) = true from decide_eq_true c60, cr5, cr6, if_pos hSv3.2.2.2.2.2.2.2.2.2.2, e9v3, e9v2, e9v1]
              refine V.aload_n dX7_readCrowd_79 rfl rfl rfl ?_
              refine V.getr dX7_readCrowd_80 fg_X7_15 rfl rfl rfl ?_
              refine V.getr dX7_readCrowd_83 fg_X7_97 rfl rfl rfl ?_
              refine V.iload_n dX7_readCrowd_86 rfl rfl rfl ?_
              refine V.iload_n dX7_readCrowd_87 rfl rfl rfl ?_
              refine V.iload_n dX7_readCrowd_88 rfl rfl rfl ?_
              refine V.callv_i (M1 := cAddM 27 cc (nI v2) (nI v3) (nI v1) (stC t (stC t (stC t (stC t (stC t (stC t M))))))) (v := nI cc) (md' := m_X1_add) (As := [.int (nI v2), .int (nI v3), .int (nI v1)]) (rest := []) dX7_readCrowd_89 ml_X7_108 mo_X1_add ⟨Nat.le_of_ble_eq_true rfl, Nat.le_of_ble_eq_true rfl⟩ rfl ⟨_, _, rfl⟩ (Nat.le_of_ble_eq_true rfl) rfl rfl (Nat.le_of_ble_eq_true rfl) (v_X1_add isE27 (c := cc) (by omega) (nI v2) (nI v3) (nI v1) _ (by rw [stC_k (by decide), stC_k (by decide), stC_k (by decide), stC_k (by decide), stC_k (by decide), stC_k (by decide)]; exact h34)) rfl ?_
              refine V.pop dX7_readCrowd_92 rfl rfl ?_
              refine V.iconst (v := 1) dX7_readCrowd_93 rfl rfl ?_
              exact V.ret dX7_readCrowd_94 rfl rfl (⟨fun k z1 z2 => by rw [cAddM, ms_k (by omega), ms_k (by omega), ms_k (by omega), ms_k (by omega)]; exact (KP_st (KP_st (KP_st (KP_st (KP_st (KP_st (KP_rf M))))))) k z1 z2, .inl ⟨rfl, pv3, c, cc + 1, q, by rw [hcr]; exact SY_cells (by rw [cAddM, ms_k (by decide), ms_k (by decide), ms_k (by decide), ms_k (by decide)]) (by rw [cAddM, ms_k (by decide), ms_k (by decide), ms_k (by decide), ms_k (by decide)]) (fun j _ => by rw [mNewC, ms_k (by decide), ms_k (by decide), ms_k (by decide), ms_k (by decide)]) (by rw [mNewC, ms_k (by decide), ms_k (by decide), ms_k (by decide), ms_k (by decide)]) hSv3, hc, by omega, hq, by rw [hcr]; exact ST_newC hc (by omega) (nI v2) (nI v3) hv1 (ST_R h63 (ST_st (ST_st (ST_st (ST_st (ST_st (ST_st hV))))))), by rw [hcr]; exact KI_newC hc (by omega) (KI_R h63 hK)⟩⟩)
            · skip
              refine V.callv_i (M1 := stC t (stC t (stC t (stC t (stC t M))))) (v := -1) (md' := m_X7_readNumberBehind) (As := [.int 999]) (rest := []) dX7_readCrowd_69 ml_X7_81 mo_X7_readNumberBehind ⟨Nat.le_of_ble_eq_true rfl, Nat.le_of_ble_eq_true rfl⟩ rfl ⟨_, _, rfl⟩ (Nat.le_of_ble_eq_true rfl) rfl rfl (Nat.le_of_ble_eq_true rfl) (v_X7_rn_f ht hSv2 (most := nI 999) hbv3) rfl ?_
              refine V.ist_n dX7_readCrowd_72 rfl (by decide) (L' := [(0, .ref 56), (1, .int (nI v1)), (2, .int (nI v2)), (3, .int (-1))]) rfl rfl ?_
              refine V.iload_n dX7_readCrowd_73 rfl rfl rfl ?_
              refine V.if_ge (tgt := 79) dX7_readCrowd_74 rfl rfl (fun c74 => absurd c74 (by decide)) (fun _ => ?_)
              refine V.iconst (v := 0) dX7_readCrowd_77 rfl rfl ?_
              exact V.ret dX7_readCrowd_78 rfl rfl (⟨KP_st (KP_st (KP_st (KP_st (KP_st (KP_rf M))))), .inr ⟨rfl, FL_of eFv3 (by rw [crM, show (decide (cc < 12)) = true from decide_eq_true (by omega), cr3, show (decide (wdF t (numM t 400 (needM t true R)) = 52)) = true from decide_eq_true c36, cr4, show (decide (wdF t (numM t 3 (needM t true (numM t 400 (needM t true R)))) = 446125701)) = true from decide_eq_true c60, cr5]; exact WR_tr hFv3 cr6_W)⟩⟩)
          · skip
            refine V.iconst (v := 0) dX7_readCrowd_63 rfl rfl ?_
            exact V.ret dX7_readCrowd_64 rfl rfl (⟨KP_st (KP_st (KP_st (KP_st (KP_rf M)))), .inr ⟨rfl, FL_of (SY_from hSv2) (by rw [crM, show (decide (cc < 12)) = true from decide_eq_true (by omega), cr3, show (decide (wdF t (numM t 400 (needM t true R)) = 52)) = true from decide_eq_true c36, cr4, decide_eq_false c60]; exact WR_tr need_F cr5_W)⟩⟩)
        · skip
          refine V.callv_i (M1 := stC t (stC t (stC t M))) (v := -1) (md' := m_X7_readNumberBehind) (As := [.int 3]) (rest := []) dX7_readCrowd_43 ml_X7_81 mo_X7_readNumberBehind ⟨Nat.le_of_ble_eq_true rfl, Nat.le_of_ble_eq_true rfl⟩ rfl ⟨_, _, rfl⟩ (Nat.le_of_ble_eq_true rfl) rfl rfl (Nat.le_of_ble_eq_true rfl) (v_X7_rn_f ht hSv1 (most := nI 3) hbv2) rfl ?_
          refine V.ist_n dX7_readCrowd_46 rfl (by decide) (L' := [(0, .ref 56), (1, .int (nI v1)), (2, .int (-1))]) rfl rfl ?_
          refine V.iload_n dX7_readCrowd_47 rfl rfl rfl ?_
          refine V.if_lt (tgt := 63) dX7_readCrowd_48 rfl rfl (fun _ => ?_) (fun c48 => absurd c48 (by decide))
          refine V.iconst (v := 0) dX7_readCrowd_63 rfl rfl ?_
          exact V.ret dX7_readCrowd_64 rfl rfl (⟨KP_st (KP_st (KP_st (KP_rf M))), .inr ⟨rfl, FL_of eFv2 (by rw [crM, show (decide (cc < 12)) = true from decide_eq_true (by omega), cr3, show (decide (wdF t (numM t 400 (needM t true R)) = 52)) = true from decide_eq_true c36, cr4]; exact WR_tr (WR_tr hFv2 need_W) cr5_W)⟩⟩)
      · skip
        refine V.iconst (v := 0) dX7_readCrowd_39 rfl rfl ?_
        exact V.ret dX7_readCrowd_40 rfl rfl (⟨KP_st (KP_st (KP_rf M)), .inr ⟨rfl, FL_of (SY_from hSv1) (by rw [crM, show (decide (cc < 12)) = true from decide_eq_true (by omega), cr3, decide_eq_false c36]; exact WR_tr need_F cr4_W)⟩⟩)
    · skip
      refine V.callv_i (M1 := stC t M) (v := -1) (md' := m_X7_readNumberBehind) (As := [.int 400]) (rest := []) dX7_readCrowd_19 ml_X7_81 mo_X7_readNumberBehind ⟨Nat.le_of_ble_eq_true rfl, Nat.le_of_ble_eq_true rfl⟩ rfl ⟨_, _, rfl⟩ (Nat.le_of_ble_eq_true rfl) rfl rfl (Nat.le_of_ble_eq_true rfl) (v_X7_rn_f ht hS (most := nI 400) hbv1) rfl ?_
      refine V.ist_n dX7_readCrowd_22 rfl (by decide) (L' := [(0, .ref 56), (1, .int (-1))]) rfl rfl ?_
      refine V.iload_n dX7_readCrowd_23 rfl rfl rfl ?_
      refine V.if_lt (tgt := 39) dX7_readCrowd_24 rfl rfl (fun _ => ?_) (fun c24 => absurd c24 (by decide))
      refine V.iconst (v := 0) dX7_readCrowd_39 rfl rfl ?_
      exact V.ret dX7_readCrowd_40 rfl rfl (⟨KP_st (KP_rf M), .inr ⟨rfl, FL_of eFv1 (by rw [crM, show (decide (cc < 12)) = true from decide_eq_true (by omega), cr3]; exact WR_tr (WR_tr hFv1 need_W) cr4_W)⟩⟩)
  · skip
    refine V.iconst (v := 0) dX7_readCrowd_13 rfl rfl ?_
    exact V.ret dX7_readCrowd_14 rfl rfl (⟨KP_rf M, .inr ⟨rfl, FL_of (SY_from hS) (by rw [crM, decide_eq_false (by omega)]; exact WR_tr need_F cr3_W)⟩⟩)
