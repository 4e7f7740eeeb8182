/-! Evening: its object is e (heat 4, price 5, cold 6, minute 7, coin 8, corner 9, walks 10, sold 11, wasted 12, lost 13, z 14), due e+11, spots e+12 -/
def ruledF (e : Nat) (w : Int32) (M : Mem) : Int32 := if w = 0 then M e 4 else if w = 1 then M e 5 else M e 6
def setRuleM (e : Nat) (w v : Int32) (M : Mem) : Mem := if w = 0 then ms M e 4 v else if w = 1 then ms M e 5 v else ms M e 6 v
theorem v_X2_ruled {e : Nat} (he : isE e) (w : Int32) (M : Mem) : V m_X2_ruled 0 [(0, .ref e), (1, .int w)] [] M (RT (some (.int (ruledF e w M))) M) := by
  refine V.iload_n dX2_ruled_0 rfl rfl rfl ?_
  by_cases s1_0 : w = 0
  · refine V.lookup (off := 27) (pc' := 28) dX2_ruled_1 (by decide) (by rw [s1_0]; first | done | rfl) rfl ?_
    refine V.aload_n dX2_ruled_28 rfl rfl rfl ?_
    refine V.geti (v := M e 4) dX2_ruled_29 fg_X2_32 (sh_ev he) rfl rfl rfl ?_
    exact V.ret dX2_ruled_32 rfl rfl ⟨(by simp [ruledF, s1_0]), rfl⟩
  by_cases s1_1 : w = 1
  · refine V.lookup (off := 32) (pc' := 33) dX2_ruled_1 (by decide) (by rw [s1_1]; first | done | rfl) rfl ?_
    refine V.aload_n dX2_ruled_33 rfl rfl rfl ?_
    refine V.geti (v := M e 5) dX2_ruled_34 fg_X2_36 (sh_ev he) rfl rfl rfl ?_
    exact V.ret dX2_ruled_37 rfl rfl ⟨(by simp [ruledF, s1_1]), rfl⟩
  refine V.lookup (off := 37) (pc' := 38) dX2_ruled_1 (by decide) (by show Op.lookupswitch.offset [(0, 27), (1, 32)] 37 _ = _; rw [lv_osw (a := 0) s1_0 rfl, lv_osw (a := 1) s1_1 rfl]; rfl) rfl ?_
  refine V.aload_n dX2_ruled_38 rfl rfl rfl ?_
  refine V.geti (v := M e 6) dX2_ruled_39 fg_X2_39 (sh_ev he) rfl rfl rfl ?_
  exact V.ret dX2_ruled_42 rfl rfl ⟨(by simp [ruledF, s1_0, s1_1]), rfl⟩
theorem v_X2_setRule {e : Nat} (he : isE e) (w v : Int32) (M : Mem) : V m_X2_setRule 0 [(0, .ref e), (1, .int w), (2, .int v)] [] M (RT none (setRuleM e w v M)) := by
  refine V.iload_n dX2_setRule_0 rfl rfl rfl ?_
  by_cases s1_0 : w = 0
  · refine V.lookup (off := 27) (pc' := 28) dX2_setRule_1 (by decide) (by rw [s1_0]; first | done | rfl) rfl ?_
    refine V.aload_n dX2_setRule_28 rfl rfl rfl ?_
    refine V.iload_n dX2_setRule_29 rfl rfl rfl ?_
    refine V.puti dX2_setRule_30 fp_X2_32 (sh_ev he) rfl rfl rfl (M' := (ms M e 4 v)) rfl rfl ?_
    refine V.goto (pc' := 49) dX2_setRule_33 rfl ?_
    exact V.vret dX2_setRule_49 rfl ⟨rfl, (by simp [setRuleM, s1_0])⟩
  by_cases s1_1 : w = 1
  · refine V.lookup (off := 35) (pc' := 36) dX2_setRule_1 (by decide) (by rw [s1_1]; first | done | rfl) rfl ?_
    refine V.aload_n dX2_setRule_36 rfl rfl rfl ?_
    refine V.iload_n dX2_setRule_37 rfl rfl rfl ?_
    refine V.puti dX2_setRule_38 fp_X2_36 (sh_ev he) rfl rfl rfl (M' := (ms M e 5 v)) rfl rfl ?_
    refine V.goto (pc' := 49) dX2_setRule_41 rfl ?_
    exact V.vret dX2_setRule_49 rfl ⟨rfl, (by simp [setRuleM, s1_1])⟩
  refine V.lookup (off := 43) (pc' := 44) dX2_setRule_1 (by decide) (by show Op.lookupswitch.offset [(0, 27), (1, 35)] 43 _ = _; rw [lv_osw (a := 0) s1_0 rfl, lv_osw (a := 1) s1_1 rfl]; rfl) rfl ?_
  refine V.aload_n dX2_setRule_44 rfl rfl rfl ?_
  refine V.iload_n dX2_setRule_45 rfl rfl rfl ?_
  refine V.puti dX2_setRule_46 fp_X2_39 (sh_ev he) rfl rfl rfl (M' := (ms M e 6 v)) rfl rfl ?_
  exact V.vret dX2_setRule_49 rfl ⟨rfl, (by simp [setRuleM, s1_0, s1_1])⟩
def addShM (e m : Nat) (n : Int32) (M : Mem) : Mem := ms M (e+11) ((m + 6) % 7) (M (e+11) ((m + 6) % 7) + n)
theorem v_X2_addShovels {e : Nat} (he : isE e) {m : Nat} (h5 : m ≤ 5000) (n : Int32) (M : Mem) (hm : M e 7 = nI m) : V m_X2_addShovels 0 [(0, .ref e), (1, .int n)] [] M (RT none (addShM e m n M)) := by
  refine V.aload_n dX2_addShovels_0 rfl rfl rfl ?_
  refine V.getr dX2_addShovels_1 fg_X2_25 (sh_ev he) rfl rfl ?_
  refine V.aload_n dX2_addShovels_4 rfl rfl rfl ?_
  refine V.geti (v := nI m) dX2_addShovels_5 fg_X2_42 (sh_ev he) rfl hm rfl ?_
  refine V.bipush (v := 7) dX2_addShovels_8 (by decide) rfl ?_
  refine V.iadd (v := nI (m + 7)) dX2_addShovels_10 (nI_add _ _) rfl ?_
  refine V.iconst (v := 1) dX2_addShovels_11 rfl rfl ?_
  refine V.isub (v := nI (m + 6)) dX2_addShovels_12 (nI_pred (m + 6)) rfl ?_
  refine V.bipush (v := 7) dX2_addShovels_13 (by decide) rfl ?_
  refine V.irem (v := nI ((m + 6) % 7)) dX2_addShovels_15 (by decide) (pk_rem (by omega) (by decide) (by decide)) rfl ?_
  refine V.dup2 dX2_addShovels_16 rfl rfl rfl ?_
  refine V.ialdN (j := (m + 6) % 7) (v := M (e+11) ((m + 6) % 7)) dX2_addShovels_17 (sh_a11 he) (by omega) (by decide) rfl rfl rfl ?_
  refine V.iload_n dX2_addShovels_18 rfl rfl rfl ?_
  refine V.iadd (v := (M (e+11) ((m + 6) % 7)) + n) dX2_addShovels_19 rfl rfl ?_
  refine V.iastN (j := (m + 6) % 7) dX2_addShovels_20 (sh_a11 he) (by omega) (by decide) rfl (M' := (ms M (e+11) ((m + 6) % 7) ((M (e+11) ((m + 6) % 7)) + n))) rfl rfl ?_
  exact V.vret dX2_addShovels_21 rfl ⟨rfl, rfl⟩
theorem l_X2_shovelsDue {e : Nat} (he : isE e) (M : Mem) : ∀ (n i : Nat) (s : Int32), i + n = 7 → V m_X2_shovelsDue 4 [(0, .ref e), (1, .int s), (2, .int (nI i))] [] M (RT (some (.int (sumG (M (e+11)) n i s))) M) := by
  intro n
  induction n with
  | zero =>
    intro i s hi
    refine V.iload_n dX2_shovelsDue_4 rfl rfl rfl ?_
    refine V.bipush (v := 7) dX2_shovelsDue_5 (by decide) rfl ?_
    refine V.icmp_ge (tgt := 25) dX2_shovelsDue_7 rfl rfl (fun c7 => ?_) (fun c7 => absurd ((nI_leI (a := 7) (b := i) (by omega) (by omega)).mpr (by omega)) c7)
    have c7 : 7 ≤ i := (nI_leI (a := 7) (b := i) (by omega) (by omega)).mp c7
    refine V.iload_n dX2_shovelsDue_25 rfl rfl rfl ?_
    exact V.ret dX2_shovelsDue_26 rfl rfl ⟨rfl, rfl⟩
  | succ n ih =>
    intro i s hi
    refine V.iload_n dX2_shovelsDue_4 rfl rfl rfl ?_
    refine V.bipush (v := 7) dX2_shovelsDue_5 (by decide) rfl ?_
    refine V.icmp_ge (tgt := 25) dX2_shovelsDue_7 rfl rfl (fun c7 => absurd ((nI_leI (a := 7) (b := i) (by omega) (by omega)).mp c7) (by omega)) (fun c7 => ?_)
    have c7 : ¬ 7 ≤ i := fun q => c7 ((nI_leI (a := 7) (b := i) (by omega) (by omega)).mpr q)
    refine V.iload_n dX2_shovelsDue_10 rfl rfl rfl ?_
    refine V.aload_n dX2_shovelsDue_11 rfl rfl rfl ?_
    refine V.getr dX2_shovelsDue_12 fg_X2_25 (sh_ev he) rfl rfl ?_
    refine V.iload_n dX2_shovelsDue_15 rfl rfl rfl ?_
    refine V.ialdN (j := i) (v := M (e+11) i) dX2_shovelsDue_16 (sh_a11 he) (by omega) (by decide) rfl rfl rfl ?_
    refine V.iadd (v := s + (M (e+11) i)) dX2_shovelsDue_17 rfl rfl ?_
    refine V.ist_n dX2_shovelsDue_18 rfl (by decide) (L' := [(0, .ref e), (1, .int (s + (M (e+11) i))), (2, .int (nI i))]) rfl rfl ?_
    refine V.inc (v := nI (i + 1)) dX2_shovelsDue_19 rfl (nI_1 _) (by decide) (L' := [(0, .ref e), (1, .int (s + (M (e+11) i))), (2, .int (nI (i + 1)))]) rfl rfl ?_
    refine V.goto (pc' := 4) dX2_shovelsDue_22 rfl ?_
    exact ih (i + 1) _ (by omega)
theorem v_X2_shovelsDue {e : Nat} (he : isE e) (M : Mem) : V m_X2_shovelsDue 0 [(0, .ref e)] [] M (RT (some (.int (sumG (M (e+11)) 7 0 0))) M) := by
  refine V.iconst (v := 0) dX2_shovelsDue_0 rfl rfl ?_
  refine V.ist_n dX2_shovelsDue_1 rfl (by decide) (L' := [(0, .ref e), (1, .int 0)]) rfl rfl ?_
  refine V.iconst (v := 0) dX2_shovelsDue_2 rfl rfl ?_
  refine V.ist_n dX2_shovelsDue_3 rfl (by decide) (L' := [(0, .ref e), (1, .int 0), (2, .int 0)]) rfl rfl ?_
  exact l_X2_shovelsDue he M 7 0 0 rfl
def absF (x : Int32) : Int32 := if 0 ≤ x then x else 0 - x
def setOutM (e : Nat) (t : Int32) (M : Mem) : Mem := ms (ms M e 10 (absF (t - M e 9) * 3)) e 9 t
def comeF (ma co pr : Int32) : Int32 := ma * (co + 1) / 11 - ma * (co + 1) / 11 * pr / 100
def drawM (e : Nat) (M : Mem) : Mem := ms M e 14 (M e 14 * 1103515245 + 12345)
def drawF (z : Int32) : Int32 := (z.toUInt32 >>> (Int32.toUInt32 8 &&& Int32.toUInt32 31)).toInt32
def heldG (f : Nat → Int32) : Nat → Nat → Int32 → Int32
  | 0, _, s => s
  | n + 1, i, s => heldG f n (i + 1) (if f i < 0 then s else s + 1)
theorem v_X2_setOut {e : Nat} (he : isE e) (t : Int32) (M : Mem) : V m_X2_setOut 0 [(0, .ref e), (1, .int t)] [] M (RT none (setOutM e t M)) := by
  refine V.aload_n dX2_setOut_0 rfl rfl rfl ?_
  refine V.iload_n dX2_setOut_1 rfl rfl rfl ?_
  refine V.aload_n dX2_setOut_2 rfl rfl rfl ?_
  refine V.geti (v := M e 9) dX2_setOut_3 fg_X2_48 (sh_ev he) rfl rfl rfl ?_
  refine V.isub (v := t - (M e 9)) dX2_setOut_6 rfl rfl ?_
  refine V.mabs (v := absF (t - M e 9)) dX2_setOut_7 mm_X2_79 ⟨Nat.le_of_ble_eq_true rfl, Nat.le_of_ble_eq_true rfl⟩ rfl rfl ?_
  refine V.iconst (v := 3) dX2_setOut_10 rfl rfl ?_
  refine V.imul (v := (absF (t - M e 9)) * 3) dX2_setOut_11 rfl rfl ?_
  refine V.puti dX2_setOut_12 fp_X2_51 (sh_ev he) rfl rfl rfl (M' := (ms M e 10 ((absF (t - M e 9)) * 3))) rfl rfl ?_
  refine V.aload_n dX2_setOut_15 rfl rfl rfl ?_
  refine V.iload_n dX2_setOut_16 rfl rfl rfl ?_
  refine V.puti dX2_setOut_17 fp_X2_48 (sh_ev he) rfl rfl rfl (M' := (ms (ms M e 10 ((absF (t - M e 9)) * 3)) e 9 t)) rfl rfl ?_
  exact V.vret dX2_setOut_20 rfl ⟨rfl, rfl⟩
theorem v_X2_coming {e : Nat} (he : isE e) {b : Nat} (hb : b < 12) (M : Mem) : V m_X2_coming 0 [(0, .ref e), (1, .int (nI b))] [] M (RT (some (.int (comeF (M (e+10) b) (M e 6) (M e 5)))) M) := by
  refine V.aload_n dX2_coming_0 rfl rfl rfl ?_
  refine V.getr dX2_coming_1 fg_X2_21 (sh_ev he) rfl rfl ?_
  refine V.getr dX2_coming_4 fg_X2_85 (sh_cr he) rfl rfl ?_
  refine V.iload_n dX2_coming_7 rfl rfl rfl ?_
  refine V.ialdN (j := b) (v := M (e+10) b) dX2_coming_8 (sh_a10 he) (by omega) (by decide) rfl rfl rfl ?_
  refine V.aload_n dX2_coming_9 rfl rfl rfl ?_
  refine V.geti (v := M e 6) dX2_coming_10 fg_X2_39 (sh_ev he) rfl rfl rfl ?_
  refine V.iconst (v := 1) dX2_coming_13 rfl rfl ?_
  refine V.iadd (v := (M e 6) + 1) dX2_coming_14 rfl rfl ?_
  refine V.imul (v := (M (e+10) b) * ((M e 6) + 1)) dX2_coming_15 rfl rfl ?_
  refine V.bipush (v := 11) dX2_coming_16 (by decide) rfl ?_
  refine V.idiv (v := ((M (e+10) b) * ((M e 6) + 1)) / 11) dX2_coming_18 (by decide) rfl rfl ?_
  refine V.ist_n dX2_coming_19 rfl (by decide) (L' := [(0, .ref e), (1, .int (nI b)), (2, .int (((M (e+10) b) * ((M e 6) + 1)) / 11))]) rfl rfl ?_
  refine V.iload_n dX2_coming_20 rfl rfl rfl ?_
  refine V.iload_n dX2_coming_21 rfl rfl rfl ?_
  refine V.aload_n dX2_coming_22 rfl rfl rfl ?_
  refine V.geti (v := M e 5) dX2_coming_23 fg_X2_36 (sh_ev he) rfl rfl rfl ?_
  refine V.imul (v := (((M (e+10) b) * ((M e 6) + 1)) / 11) * (M e 5)) dX2_coming_26 rfl rfl ?_
  refine V.bipush (v := 100) dX2_coming_27 (by decide) rfl ?_
  refine V.idiv (v := ((((M (e+10) b) * ((M e 6) + 1)) / 11) * (M e 5)) / 100) dX2_coming_29 (by decide) rfl rfl ?_
  refine V.isub (v := (((M (e+10) b) * ((M e 6) + 1)) / 11) - (((((M (e+10) b) * ((M e 6) + 1)) / 11) * (M e 5)) / 100)) dX2_coming_30 rfl rfl ?_
  exact V.ret dX2_coming_31 rfl rfl ⟨rfl, rfl⟩
theorem v_X2_draw {e : Nat} (he : isE e) (M : Mem) : V m_X2_draw 0 [(0, .ref e)] [] M (RT (some (.int (drawF (M e 14 * 1103515245 + 12345)))) (drawM e M)) := by
  refine V.aload_n dX2_draw_0 rfl rfl rfl ?_
  refine V.aload_n dX2_draw_1 rfl rfl rfl ?_
  refine V.geti (v := M e 14) dX2_draw_2 fg_X2_63 (sh_ev he) rfl rfl rfl ?_
  refine V.ldc (v := 1103515245) dX2_draw_5 cn_X2_88 rfl ?_
  refine V.imul (v := (M e 14) * 1103515245) dX2_draw_7 rfl rfl ?_
  refine V.sipush (v := 12345) dX2_draw_8 (by decide) rfl ?_
  refine V.iadd (v := ((M e 14) * 1103515245) + 12345) dX2_draw_11 rfl rfl ?_
  refine V.puti dX2_draw_12 fp_X2_63 (sh_ev he) rfl rfl rfl (M' := (ms M e 14 (((M e 14) * 1103515245) + 12345))) rfl rfl ?_
  refine V.aload_n dX2_draw_15 rfl rfl rfl ?_
  refine V.geti (v := ((M e 14) * 1103515245) + 12345) dX2_draw_16 fg_X2_63 (sh_ev he) rfl (by simp [ms]) rfl ?_
  refine V.bipush (v := 8) dX2_draw_19 (by decide) rfl ?_
  refine V.iushr (v := (Int32.toUInt32 (((M e 14) * 1103515245) + 12345) >>> (Int32.toUInt32 8 &&& Int32.toUInt32 31)).toInt32) dX2_draw_21 rfl rfl ?_
  exact V.ret dX2_draw_22 rfl rfl ⟨rfl, rfl⟩
theorem l_X2_spotsHolding {e : Nat} (he : isE e) (M : Mem) : ∀ (n i : Nat) (s : Int32), i + n = 10 → V m_X2_spotsHolding 4 [(0, .ref e), (1, .int s), (2, .int (nI i))] [] M (RT (some (.int (heldG (M (e+12)) n i s))) M) := by
  intro n
  induction n with
  | zero =>
    intro i s hi
    refine V.iload_n dX2_spotsHolding_4 rfl rfl rfl ?_
    refine V.bipush (v := 10) dX2_spotsHolding_5 (by decide) rfl ?_
    refine V.icmp_ge (tgt := 28) dX2_spotsHolding_7 rfl rfl (fun c7 => ?_) (fun c7 => absurd ((nI_leI (a := 10) (b := i) (by omega) (by omega)).mpr (by omega)) c7)
    have c7 : 10 ≤ i := (nI_leI (a := 10) (b := i) (by omega) (by omega)).mp c7
    refine V.iload_n dX2_spotsHolding_28 rfl rfl rfl ?_
    exact V.ret dX2_spotsHolding_29 rfl rfl ⟨rfl, rfl⟩
  | succ n ih =>
    intro i s hi
    refine V.iload_n dX2_spotsHolding_4 rfl rfl rfl ?_
    refine V.bipush (v := 10) dX2_spotsHolding_5 (by decide) rfl ?_
    refine V.icmp_ge (tgt := 28) dX2_spotsHolding_7 rfl rfl (fun c7 => absurd ((nI_leI (a := 10) (b := i) (by omega) (by omega)).mp c7) (by omega)) (fun c7 => ?_)
    have c7 : ¬ 10 ≤ i := fun q => c7 ((nI_leI (a := 10) (b := i) (by omega) (by omega)).mpr q)
    refine V.aload_n dX2_spotsHolding_10 rfl rfl rfl ?_
    refine V.getr dX2_spotsHolding_11 fg_X2_29 (sh_ev he) rfl rfl ?_
    refine V.iload_n dX2_spotsHolding_14 rfl rfl rfl ?_
    refine V.ialdN (j := i) (v := M (e+12) i) dX2_spotsHolding_15 (sh_a12 he) (by omega) (by decide) rfl rfl rfl ?_
    refine V.if_lt (tgt := 22) dX2_spotsHolding_16 rfl rfl (fun c16 => ?_) (fun c16 => ?_)
    · skip
      refine V.inc (v := nI (i + 1)) dX2_spotsHolding_22 rfl (nI_1 _) (by decide) (L' := [(0, .ref e), (1, .int s), (2, .int (nI (i + 1)))]) rfl rfl ?_
      refine V.goto (pc' := 4) dX2_spotsHolding_25 rfl ?_
      rw [show heldG (M (e+12)) (n + 1) i s = heldG (M (e+12)) n (i + 1) s from by simp only [heldG]; rw [if_pos c16]]
      exact ih (i + 1) _ (by omega)
    · skip
      refine V.inc (v := s + 1) dX2_spotsHolding_19 rfl rfl (by decide) (L' := [(0, .ref e), (1, .int (s + 1)), (2, .int (nI i))]) rfl rfl ?_
      refine V.inc (v := nI (i + 1)) dX2_spotsHolding_22 rfl (nI_1 _) (by decide) (L' := [(0, .ref e), (1, .int (s + 1)), (2, .int (nI (i + 1)))]) rfl rfl ?_
      refine V.goto (pc' := 4) dX2_spotsHolding_25 rfl ?_
      rw [show heldG (M (e+12)) (n + 1) i s = heldG (M (e+12)) n (i + 1) (s + 1) from by simp only [heldG]; rw [if_neg c16]]
      exact ih (i + 1) _ (by omega)
theorem v_X2_spotsHolding {e : Nat} (he : isE e) (M : Mem) : V m_X2_spotsHolding 0 [(0, .ref e)] [] M (RT (some (.int (heldG (M (e+12)) 10 0 0))) M) := by
  refine V.iconst (v := 0) dX2_spotsHolding_0 rfl rfl ?_
  refine V.ist_n dX2_spotsHolding_1 rfl (by decide) (L' := [(0, .ref e), (1, .int 0)]) rfl rfl ?_
  refine V.iconst (v := 0) dX2_spotsHolding_2 rfl rfl ?_
  refine V.ist_n dX2_spotsHolding_3 rfl (by decide) (L' := [(0, .ref e), (1, .int 0), (2, .int 0)]) rfl rfl ?_
  exact l_X2_spotsHolding he M 10 0 0 rfl
def hN (h d m : Nat) : Nat := if m % 5 = 4 then (if h + 3 * d < 20 then h + 3 * d else 20) - 1 else (if h + 3 * d < 20 then h + 3 * d else 20)
theorem hN_le (h d m : Nat) : hN h d m ≤ 20 := by unfold hN; split <;> split <;> omega
def warmM (e m h d : Nat) (M : Mem) : Mem := ms (ms M (e+11) (m % 7) 0) e 4 (nI (hN h d m))
theorem min20 {n : Nat} (h : n < 2 ^ 31) : (if nI n < 20 then nI n else 20) = nI (if n < 20 then n else 20) := by
  by_cases q : n < 20
  · rw [if_pos q, if_pos (show nI n < (20 : Int32) from (k_lt 20 h (by decide)).mpr q)]
  · rw [if_neg q, if_neg (show ¬ nI n < (20 : Int32) from fun z => q ((k_lt 20 h (by decide)).mp z))]; rfl
theorem max0 {n : Nat} (h : n < 2 ^ 31) : (if (0 : Int32) < nI n - 1 then nI n - 1 else 0) = nI (n - 1) := by
  rw [pred0 h]
  cases n with
  | zero => rfl
  | succ n => rw [if_pos ((z_lt h).mpr (Nat.succ_pos n)), nI_pred]; rfl
theorem v_X2_warm {e : Nat} (he : isE e) {m h d : Nat} (h5 : m ≤ 5000) (h20 : h ≤ 20) (hd5 : d ≤ 100000) (M : Mem) (hm : M e 7 = nI m) (hh : M e 4 = nI h) (hd : M (e+11) (m % 7) = nI d) : V m_X2_warm 0 [(0, .ref e)] [] M (RT none (warmM e m h d M)) := by
  refine V.aload_n dX2_warm_0 rfl rfl rfl ?_
  refine V.geti (v := nI m) dX2_warm_1 fg_X2_42 (sh_ev he) rfl hm rfl ?_
  refine V.bipush (v := 7) dX2_warm_4 (by decide) rfl ?_
  refine V.irem (v := nI (m % 7)) dX2_warm_6 (by decide) (pk_rem (by omega) (by decide) (by decide)) rfl ?_
  refine V.ist_n dX2_warm_7 rfl (by decide) (L' := [(0, .ref e), (1, .int (nI (m % 7)))]) rfl rfl ?_
  refine V.aload_n dX2_warm_8 rfl rfl rfl ?_
  refine V.bipush (v := 20) dX2_warm_9 (by decide) rfl ?_
  refine V.aload_n dX2_warm_11 rfl rfl rfl ?_
  refine V.geti (v := nI h) dX2_warm_12 fg_X2_32 (sh_ev he) rfl hh rfl ?_
  refine V.iconst (v := 3) dX2_warm_15 rfl rfl ?_
  refine V.aload_n dX2_warm_16 rfl rfl rfl ?_
  refine V.getr dX2_warm_17 fg_X2_25 (sh_ev he) rfl rfl ?_
  refine V.iload_n dX2_warm_20 rfl rfl rfl ?_
  refine V.ialdN (j := m % 7) (v := nI d) dX2_warm_21 (sh_a11 he) (by omega) (by decide) rfl hd rfl ?_
  refine V.imul (v := nI (3 * d)) dX2_warm_22 (pk_mul _ _) rfl ?_
  refine V.iadd (v := nI (h + (3 * d))) dX2_warm_23 (nI_add _ _) rfl ?_
  refine V.mmin (v := nI (if h + 3 * d < 20 then h + 3 * d else 20)) dX2_warm_24 mm_X2_101 ⟨Nat.le_of_ble_eq_true rfl, Nat.le_of_ble_eq_true rfl⟩ (min20 (by omega)) rfl ?_
  refine V.puti dX2_warm_27 fp_X2_32 (sh_ev he) rfl rfl rfl (M' := (ms M e 4 (nI (if h + 3 * d < 20 then h + 3 * d else 20)))) rfl rfl ?_
  refine V.aload_n dX2_warm_30 rfl rfl rfl ?_
  refine V.getr dX2_warm_31 fg_X2_25 (sh_ev he) rfl rfl ?_
  refine V.iload_n dX2_warm_34 rfl rfl rfl ?_
  refine V.iconst (v := 0) dX2_warm_35 rfl rfl ?_
  refine V.iastN (j := m % 7) dX2_warm_36 (sh_a11 he) (by omega) (by decide) rfl (M' := (ms (ms M e 4 (nI (if h + 3 * d < 20 then h + 3 * d else 20))) (e+11) (m % 7) 0)) rfl rfl ?_
  refine V.aload_n dX2_warm_37 rfl rfl rfl ?_
  refine V.geti (v := nI m) dX2_warm_38 fg_X2_42 (sh_ev he) rfl (by simp [ms, hm]) rfl ?_
  refine V.iconst (v := 5) dX2_warm_41 rfl rfl ?_
  refine V.irem (v := nI (m % 5)) dX2_warm_42 (by decide) (pk_rem (by omega) (by decide) (by decide)) rfl ?_
  refine V.iconst (v := 4) dX2_warm_43 rfl rfl ?_
  refine V.icmp_ne (tgt := 61) dX2_warm_44 rfl rfl (fun c44 => ?_) (fun c44 => ?_)
  · have c44 : ¬ m % 5 = 4 := fun q => c44 ((nI_eq (a := m % 5) (b := 4) (by omega) (by omega)).mpr q)
    exact V.vret dX2_warm_61 rfl ⟨rfl, (by rw [warmM, hN, if_neg c44]; funext a b; simp only [ms]; by_cases h1 : a = e <;> by_cases h2 : a = e + 11 <;> by_cases h3 : b = 4 <;> simp_all)⟩
  · have c44 : m % 5 = 4 := (nI_eq (a := m % 5) (b := 4) (by omega) (by omega)).mp c44
    refine V.aload_n dX2_warm_47 rfl rfl rfl ?_
    refine V.iconst (v := 0) dX2_warm_48 rfl rfl ?_
    refine V.aload_n dX2_warm_49 rfl rfl rfl ?_
    refine V.geti (v := nI (if h + 3 * d < 20 then h + 3 * d else 20)) dX2_warm_50 fg_X2_32 (sh_ev he) rfl (by simp [ms]) rfl ?_
    refine V.iconst (v := 1) dX2_warm_53 rfl rfl ?_
    refine V.isub (v := (nI (if h + 3 * d < 20 then h + 3 * d else 20)) - 1) dX2_warm_54 rfl rfl ?_
    refine V.mmax (v := nI ((if h + 3 * d < 20 then h + 3 * d else 20) - 1)) dX2_warm_55 mm_X2_105 ⟨Nat.le_of_ble_eq_true rfl, Nat.le_of_ble_eq_true rfl⟩ (max0 (by split <;> omega)) rfl ?_
    refine V.puti dX2_warm_58 fp_X2_32 (sh_ev he) rfl rfl rfl (M' := (ms (ms (ms M e 4 (nI (if h + 3 * d < 20 then h + 3 * d else 20))) (e+11) (m % 7) 0) e 4 (nI ((if h + 3 * d < 20 then h + 3 * d else 20) - 1)))) rfl rfl ?_
    exact V.vret dX2_warm_61 rfl ⟨rfl, (by rw [warmM, hN, if_pos c44]; funext a b; simp only [ms]; by_cases h1 : a = e <;> by_cases h2 : a = e + 11 <;> by_cases h3 : b = 4 <;> simp_all)⟩
