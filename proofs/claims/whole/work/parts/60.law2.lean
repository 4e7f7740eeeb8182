/-! The law's loop -/
theorem l_law {L : Nat} {xs : Nat → Int32} (hL : L ≤ 3072) : ∀ (n j : Nat) (M : Mem), j + n = 513 → RQ (9 * j) M M → V (m_L_law L xs) 18 (LL j) [] M QT := by
  intro n
  induction n with
  | zero =>
    intro j M hj hR
    refine V.iload_n dL_law_18 rfl rfl rfl ?_
    refine V.aload_n dL_law_19 rfl rfl rfl ?_
    refine V.slen (X := (L, xs)) rfl dL_law_20 rfl ?_
    refine V.bipush (v := 6) dL_law_21 (by decide) rfl ?_
    refine V.isub (v := nI L - 6) dL_law_23 rfl rfl ?_
    refine V.icmp_gt (tgt := 1536) dL_law_24 rfl rfl (fun _ => ?_) (fun c => ?_)
    · refine V.iconst (v := 1) dL_law_1536 rfl rfl ?_
      exact V.ret dL_law_1537 rfl rfl rfl
    · exfalso
      apply c
      rw [Int32.lt_iff_toInt_lt, Int32.toInt_sub, nI_toInt (by omega), nI_toInt (by omega), show (6 : Int32).toInt = 6 from rfl, Int.bmod_eq_of_le (by omega) (by omega)]
      omega
  | succ n ih =>
    intro j M hj hR
    refine V.iload_n dL_law_18 rfl rfl rfl ?_
    refine V.aload_n dL_law_19 rfl rfl rfl ?_
    refine V.slen (X := (L, xs)) rfl dL_law_20 rfl ?_
    refine V.bipush (v := 6) dL_law_21 (by decide) rfl ?_
    refine V.isub (v := nI L - 6) dL_law_23 rfl rfl ?_
    refine V.icmp_gt (tgt := 1536) dL_law_24 rfl rfl (fun _ => ?_) (fun c => ?_)
    · refine V.iconst (v := 1) dL_law_1536 rfl rfl ?_
      exact V.ret dL_law_1537 rfl rfl rfl
    · have h6 : 6 * j + 6 ≤ L := by
        rw [Int32.lt_iff_toInt_lt, Int32.toInt_sub, nI_toInt (by omega), nI_toInt (by omega), show (6 : Int32).toInt = 6 from rfl, Int.bmod_eq_of_le (by omega) (by omega)] at c
        omega
      have K : ∀ M', RQ (9 * j + 9) M' M' → V (m_L_law L xs) 1530 (LL j) [] M' QT := fun M' hR' => by
        refine V.inc (v := nI (6 * (j + 1))) dL_law_1530 rfl ((nI_add (6 * j) 6).trans (congrArg nI (by omega))) (show 3 < 4 by decide) (L' := LL (j + 1)) rfl rfl ?_
        refine V.goto (pc' := 18) dL_law_1533 rfl ?_
        exact ih (j + 1) M' (by omega) (by rw [show 9 * (j + 1) = 9 * j + 9 by omega]; exact hR')
      refine V.aload_n dL_law_27 rfl rfl rfl ?_
      refine V.iload_n dL_law_28 rfl rfl rfl ?_
      refine V.sald (X := (L, xs)) (v := xs (6 * j)) rfl dL_law_29 (vp_in_nI (by omega) (by omega)) (by rw [nI_clamp (by omega)]) rfl ?_
      refine V.bipush (v := 63) dL_law_30 (by decide) rfl ?_
      obtain ⟨z, ez⟩ : ∃ z, z = xs (6 * j) &&& 63 := ⟨_, rfl⟩
      refine V.iand (v := z) dL_law_32 ez.symm rfl ?_
      clear ez
      by_cases h : rng 0 (45 : Nat) z = true
      · obtain ⟨w, hw, rfl⟩ := of_rng h
        clear h
        rcases (show w = 0 ∨ w = 1 ∨ w = 2 ∨ w = 3 ∨ w = 4 ∨ w = 5 ∨ w = 6 ∨ w = 7 ∨ w = 8 ∨ w = 9 ∨ w = 10 ∨ w = 11 ∨ w = 12 ∨ w = 13 ∨ w = 14 ∨ w = 15 ∨ w = 16 ∨ w = 17 ∨ w = 18 ∨ w = 19 ∨ w = 20 ∨ w = 21 ∨ w = 22 ∨ w = 23 ∨ w = 24 ∨ w = 25 ∨ w = 26 ∨ w = 27 ∨ w = 28 ∨ w = 29 ∨ w = 30 ∨ w = 31 ∨ w = 32 ∨ w = 33 ∨ w = 34 ∨ w = 35 ∨ w = 36 ∨ w = 37 ∨ w = 38 ∨ w = 39 ∨ w = 40 ∨ w = 41 ∨ w = 42 ∨ w = 43 ∨ w = 44 ∨ w = 45 by omega) with rfl | rfl | rfl | rfl | rfl | rfl | rfl | rfl | rfl | rfl | rfl | rfl | rfl | rfl | rfl | rfl | rfl | rfl | rfl | rfl | rfl | rfl | rfl | rfl | rfl | rfl | rfl | rfl | rfl | rfl | rfl | rfl | rfl | rfl | rfl | rfl | rfl | rfl | rfl | rfl | rfl | rfl | rfl | rfl | rfl | rfl
        · exact V.tabIn (off := 199) dL_law_33 (by decide) (by decide) rfl rfl (c_law_0 hL h6 hR K)
        · exact V.tabIn (off := 222) dL_law_33 (by decide) (by decide) rfl rfl (c_law_1 hL h6 hR K)
        · exact V.tabIn (off := 255) dL_law_33 (by decide) (by decide) rfl rfl (c_law_2 hL h6 hR K)
        · exact V.tabIn (off := 298) dL_law_33 (by decide) (by decide) rfl rfl (c_law_3 hL h6 hR K)
        · exact V.tabIn (off := 331) dL_law_33 (by decide) (by decide) rfl rfl (c_law_4 hL h6 hR K)
        · exact V.tabIn (off := 364) dL_law_33 (by decide) (by decide) rfl rfl (c_law_5 hL h6 hR K)
        · exact V.tabIn (off := 387) dL_law_33 (by decide) (by decide) rfl rfl (c_law_6 hL h6 hR K)
        · exact V.tabIn (off := 410) dL_law_33 (by decide) (by decide) rfl rfl (c_law_7 hL h6 hR K)
        · exact V.tabIn (off := 443) dL_law_33 (by decide) (by decide) rfl rfl (c_law_8 hL h6 hR K)
        · exact V.tabIn (off := 466) dL_law_33 (by decide) (by decide) rfl rfl (c_law_9 hL h6 hR K)
        · exact V.tabIn (off := 509) dL_law_33 (by decide) (by decide) rfl rfl (c_law_10 hL h6 hR K)
        · exact V.tabIn (off := 542) dL_law_33 (by decide) (by decide) rfl rfl (c_law_11 hL h6 hR K)
        · exact V.tabIn (off := 585) dL_law_33 (by decide) (by decide) rfl rfl (c_law_12 hL h6 hR K)
        · exact V.tabIn (off := 608) dL_law_33 (by decide) (by decide) rfl rfl (c_law_13 hL h6 hR K)
        · exact V.tabIn (off := 631) dL_law_33 (by decide) (by decide) rfl rfl (c_law_14 hL h6 hR K)
        · exact V.tabIn (off := 654) dL_law_33 (by decide) (by decide) rfl rfl (c_law_15 hL h6 hR K)
        · exact V.tabIn (off := 687) dL_law_33 (by decide) (by decide) rfl rfl (c_law_16 hL h6 hR K)
        · exact V.tabIn (off := 710) dL_law_33 (by decide) (by decide) rfl rfl (c_law_17 hL h6 hR K)
        · exact V.tabIn (off := 733) dL_law_33 (by decide) (by decide) rfl rfl (c_law_18 hL h6 hR K)
        · exact V.tabIn (off := 766) dL_law_33 (by decide) (by decide) rfl rfl (c_law_19 hL h6 hR K)
        · exact V.tabIn (off := 799) dL_law_33 (by decide) (by decide) rfl rfl (c_law_20 hL h6 hR K)
        · exact V.tabIn (off := 822) dL_law_33 (by decide) (by decide) rfl rfl (c_law_21 hL h6 hR K)
        · exact V.tabIn (off := 845) dL_law_33 (by decide) (by decide) rfl rfl (c_law_22 hL h6 hR K)
        · exact V.tabIn (off := 878) dL_law_33 (by decide) (by decide) rfl rfl (c_law_23 hL h6 hR K)
        · exact V.tabIn (off := 901) dL_law_33 (by decide) (by decide) rfl rfl (c_law_24 hL h6 hR K)
        · exact V.tabIn (off := 934) dL_law_33 (by decide) (by decide) rfl rfl (c_law_25 hL h6 hR K)
        · exact V.tabIn (off := 967) dL_law_33 (by decide) (by decide) rfl rfl (c_law_26 hL h6 hR K)
        · exact V.tabIn (off := 1000) dL_law_33 (by decide) (by decide) rfl rfl (c_law_27 hL h6 hR K)
        · exact V.tabIn (off := 1023) dL_law_33 (by decide) (by decide) rfl rfl (c_law_28 hL h6 hR K)
        · exact V.tabIn (off := 1046) dL_law_33 (by decide) (by decide) rfl rfl (c_law_29 hL h6 hR K)
        · exact V.tabIn (off := 1069) dL_law_33 (by decide) (by decide) rfl rfl (c_law_30 hL h6 hR K)
        · exact V.tabIn (off := 1092) dL_law_33 (by decide) (by decide) rfl rfl (c_law_31 hL h6 hR K)
        · exact V.tabIn (off := 1125) dL_law_33 (by decide) (by decide) rfl rfl (c_law_32 hL h6 hR K)
        · exact V.tabIn (off := 1138) dL_law_33 (by decide) (by decide) rfl rfl (c_law_33 hL h6 hR K)
        · exact V.tabIn (off := 1151) dL_law_33 (by decide) (by decide) rfl rfl (c_law_34 hL h6 hR K)
        · exact V.tabIn (off := 1184) dL_law_33 (by decide) (by decide) rfl rfl (c_law_35 hL h6 hR K)
        · exact V.tabIn (off := 1217) dL_law_33 (by decide) (by decide) rfl rfl (c_law_36 hL h6 hR K)
        · exact V.tabIn (off := 1260) dL_law_33 (by decide) (by decide) rfl rfl (c_law_37 hL h6 hR K)
        · exact V.tabIn (off := 1303) dL_law_33 (by decide) (by decide) rfl rfl (c_law_38 hL h6 hR K)
        · exact V.tabIn (off := 1366) dL_law_33 (by decide) (by decide) rfl rfl (c_law_39 hL h6 hR K)
        · exact V.tabIn (off := 1389) dL_law_33 (by decide) (by decide) rfl rfl (c_law_40 hL h6 hR K)
        · exact V.tabIn (off := 1412) dL_law_33 (by decide) (by decide) rfl rfl (c_law_41 hL h6 hR K)
        · exact V.tabIn (off := 1425) dL_law_33 (by decide) (by decide) rfl rfl (c_law_42 hL h6 hR K)
        · exact V.tabIn (off := 1438) dL_law_33 (by decide) (by decide) rfl rfl (c_law_43 hL h6 hR K)
        · exact V.tabIn (off := 1451) dL_law_33 (by decide) (by decide) rfl rfl (c_law_44 hL h6 hR K)
        · exact V.tabIn (off := 1474) dL_law_33 (by decide) (by decide) rfl rfl (c_law_45 hL h6 hR K)
      · exact V.tabOut (pc' := 1530) dL_law_33 (by rw [rng_def] at h; omega) rfl (K M (RQ_mono (by omega) hR))
