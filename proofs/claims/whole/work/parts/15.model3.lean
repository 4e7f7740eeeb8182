/-! The reference: a minute -/
def shG : Nat → Nat → Mem → Mem
  | 0, _, M => M
  | n + 1, i, M => shG n (i + 1) (ms M 63 (13 + i) (M 63 (13 + i + 1)))
theorem shG_j {j : Nat} : ∀ (n i : Nat) (M : Mem), j < 13 + i ∨ 13 + i + n ≤ j → shG n i M 63 j = M 63 j := by
  intro n
  induction n with
  | zero => intro i M h; rfl
  | succ n ih => intro i M h; simp only [shG]; rw [ih (i + 1) _ (by omega), ms_j (by omega)]
theorem shG_k {k : Nat} (hk : k ≠ 63) : ∀ (n i : Nat) (M : Mem), shG n i M k = M k := by
  intro n
  induction n with
  | zero => intro i M; rfl
  | succ n ih => intro i M; simp only [shG]; rw [ih (i + 1), ms_k hk]
def mWarmM (m h d : Nat) (M : Mem) : Mem := ms (ms (shG 6 0 M) 63 19 0) 63 4 (nI (hN h d m))
theorem l_X9_warms (m g : Nat) (hm : m ≤ 5000) (hg : g ≤ 20) : ∀ (n i : Nat) (M : Mem), M 63 0 = nI m → i + n = 6 → V m_X9_warms 32 [(0, .ref 62), (1, .int (nI g)), (2, .int (nI i))] [] M (RT none (ms (ms (shG n i M) 63 19 0) 63 4 (nI (if m % 5 = 4 then g - 1 else g)))) := by
  intro n
  induction n with
  | zero =>
    intro i M h0 hi
    refine V.iload_n dX9_warms_32 rfl rfl rfl ?_
    refine V.bipush (v := 6) dX9_warms_33 (by decide) rfl ?_
    refine V.icmp_ge (tgt := 64) dX9_warms_35 rfl rfl (fun c35 => ?_) (fun c35 => absurd ((nI_leI (a := 6) (b := i) (by omega) (by omega)).mpr (by omega)) c35)
    have c35 : 6 ≤ i := (nI_leI (a := 6) (b := i) (by omega) (by omega)).mp c35
    refine V.aload_n dX9_warms_64 rfl rfl rfl ?_
    refine V.getr dX9_warms_65 fg_X9_7 rfl rfl rfl ?_
    refine V.bipush (v := 19) dX9_warms_68 (by decide) rfl ?_
    refine V.iconst (v := 0) dX9_warms_70 rfl rfl ?_
    refine V.iastN (j := 19) dX9_warms_71 rfl (by decide) (by decide) rfl (M' := (ms M 63 19 0)) rfl rfl ?_
    refine V.aload_n dX9_warms_72 rfl rfl rfl ?_
    refine V.getr dX9_warms_73 fg_X9_7 rfl rfl rfl ?_
    refine V.iconst (v := 4) dX9_warms_76 rfl rfl ?_
    refine V.aload_n dX9_warms_77 rfl rfl rfl ?_
    refine V.getr dX9_warms_78 fg_X9_7 rfl rfl rfl ?_
    refine V.iconst (v := 0) dX9_warms_81 rfl rfl ?_
    refine V.ialdN (j := 0) (v := nI m) dX9_warms_82 rfl (by decide) (by decide) rfl (by rw [ms_j (by decide)]; exact h0) rfl ?_
    refine V.iconst (v := 5) dX9_warms_83 rfl rfl ?_
    refine V.irem (v := nI (m % 5)) dX9_warms_84 (by decide) (pk_rem (by omega) (by decide) (by decide)) rfl ?_
    refine V.iconst (v := 4) dX9_warms_85 rfl rfl ?_
    refine V.icmp_ne (tgt := 99) dX9_warms_86 rfl rfl (fun c86 => ?_) (fun c86 => ?_)
    · have c86 : ¬ m % 5 = 4 := fun q => c86 ((nI_eq (a := m % 5) (b := 4) (by omega) (by omega)).mpr q)
      refine V.iload_n dX9_warms_99 rfl rfl rfl ?_
      refine V.iastN (j := 4) dX9_warms_100 rfl (by decide) (by decide) rfl (M' := (ms (ms M 63 19 0) 63 4 (nI g))) rfl rfl ?_
      exact V.vret dX9_warms_101 rfl ⟨rfl, (by rw [if_neg c86]; rfl)⟩
    · have c86 : m % 5 = 4 := (nI_eq (a := m % 5) (b := 4) (by omega) (by omega)).mp c86
      refine V.iload_n dX9_warms_89 rfl rfl rfl ?_
      refine V.if_le (tgt := 99) dX9_warms_90 rfl rfl (fun c90 => ?_) (fun c90 => ?_)
      · have c90 : g ≤ 0 := (nI_leI (a := g) (b := 0) (by omega) (by omega)).mp c90
        refine V.iload_n dX9_warms_99 rfl rfl rfl ?_
        refine V.iastN (j := 4) dX9_warms_100 rfl (by decide) (by decide) rfl (M' := (ms (ms M 63 19 0) 63 4 (nI g))) rfl rfl ?_
        exact V.vret dX9_warms_101 rfl ⟨rfl, (by rw [if_pos c86, show g - 1 = g by omega]; rfl)⟩
      · have c90 : ¬ g ≤ 0 := fun q => c90 ((nI_leI (a := g) (b := 0) (by omega) (by omega)).mpr q)
        refine V.iload_n dX9_warms_93 rfl rfl rfl ?_
        refine V.iconst (v := 1) dX9_warms_94 rfl rfl ?_
        refine V.isub (v := nI (g - 1)) dX9_warms_95 (by obtain ⟨j, rfl⟩ : ∃ j, g = j + 1 := ⟨g - 1, by omega⟩; exact nI_pred j) rfl ?_
        refine V.goto (pc' := 100) dX9_warms_96 rfl ?_
        refine V.iastN (j := 4) dX9_warms_100 rfl (by decide) (by decide) rfl (M' := (ms (ms M 63 19 0) 63 4 (nI (g - 1)))) rfl rfl ?_
        exact V.vret dX9_warms_101 rfl ⟨rfl, (by rw [if_pos c86]; rfl)⟩
  | succ n ih =>
    intro i M h0 hi
    refine V.iload_n dX9_warms_32 rfl rfl rfl ?_
    refine V.bipush (v := 6) dX9_warms_33 (by decide) rfl ?_
    refine V.icmp_ge (tgt := 64) dX9_warms_35 rfl rfl (fun c35 => absurd ((nI_leI (a := 6) (b := i) (by omega) (by omega)).mp c35) (by omega)) (fun c35 => ?_)
    have c35 : ¬ 6 ≤ i := fun q => c35 ((nI_leI (a := 6) (b := i) (by omega) (by omega)).mpr q)
    refine V.aload_n dX9_warms_38 rfl rfl rfl ?_
    refine V.getr dX9_warms_39 fg_X9_7 rfl rfl rfl ?_
    refine V.bipush (v := 13) dX9_warms_42 (by decide) rfl ?_
    refine V.iload_n dX9_warms_44 rfl rfl rfl ?_
    refine V.iadd (v := nI (13 + i)) dX9_warms_45 (nI_add _ _) rfl ?_
    refine V.aload_n dX9_warms_46 rfl rfl rfl ?_
    refine V.getr dX9_warms_47 fg_X9_7 rfl rfl rfl ?_
    refine V.bipush (v := 13) dX9_warms_50 (by decide) rfl ?_
    refine V.iload_n dX9_warms_52 rfl rfl rfl ?_
    refine V.iadd (v := nI (13 + i)) dX9_warms_53 (nI_add _ _) rfl ?_
    refine V.iconst (v := 1) dX9_warms_54 rfl rfl ?_
    refine V.iadd (v := nI ((13 + i) + 1)) dX9_warms_55 (nI_add _ _) rfl ?_
    refine V.ialdN (j := (13 + i) + 1) (v := M 63 ((13 + i) + 1)) dX9_warms_56 rfl (by omega) (by decide) rfl rfl rfl ?_
    refine V.iastN (j := 13 + i) dX9_warms_57 rfl (by omega) (by decide) rfl (M' := (ms M 63 (13 + i) (M 63 ((13 + i) + 1)))) rfl rfl ?_
    refine V.inc (v := nI (i + 1)) dX9_warms_58 rfl (nI_1 _) (by decide) (L' := [(0, .ref 62), (1, .int (nI g)), (2, .int (nI (i + 1)))]) rfl rfl ?_
    refine V.goto (pc' := 32) dX9_warms_61 rfl ?_
    exact ih (i + 1) _ (by rw [ms_j (by omega)]; exact h0) (by omega)
theorem v_X9_warms {m h d : Nat} (hm : m ≤ 5000) (h20 : h ≤ 20) (hd5 : d ≤ 100000) (M : Mem) (h0 : M 63 0 = nI m) (hh : M 63 4 = nI h) (hd : M 63 13 = nI d) : V m_X9_warms 0 [(0, .ref 62)] [] M (RT none (mWarmM m h d M)) := by
  refine V.aload_n dX9_warms_0 rfl rfl rfl ?_
  refine V.getr dX9_warms_1 fg_X9_7 rfl rfl rfl ?_
  refine V.iconst (v := 4) dX9_warms_4 rfl rfl ?_
  refine V.ialdN (j := 4) (v := nI h) dX9_warms_5 rfl (by decide) (by decide) rfl hh rfl ?_
  refine V.iconst (v := 3) dX9_warms_6 rfl rfl ?_
  refine V.aload_n dX9_warms_7 rfl rfl rfl ?_
  refine V.getr dX9_warms_8 fg_X9_7 rfl rfl rfl ?_
  refine V.bipush (v := 13) dX9_warms_11 (by decide) rfl ?_
  refine V.ialdN (j := 13) (v := nI d) dX9_warms_13 rfl (by decide) (by decide) rfl hd rfl ?_
  refine V.imul (v := nI (3 * d)) dX9_warms_14 (pk_mul _ _) rfl ?_
  refine V.iadd (v := nI (h + (3 * d))) dX9_warms_15 (nI_add _ _) rfl ?_
  refine V.ist_n dX9_warms_16 rfl (by decide) (L' := [(0, .ref 62), (1, .int (nI (h + (3 * d))))]) rfl rfl ?_
  refine V.iload_n dX9_warms_17 rfl rfl rfl ?_
  refine V.bipush (v := 20) dX9_warms_18 (by decide) rfl ?_
  refine V.icmp_le (tgt := 28) dX9_warms_20 rfl rfl (fun c20 => ?_) (fun c20 => ?_)
  · have c20 : h + (3 * d) ≤ 20 := (nI_leI (a := h + (3 * d)) (b := 20) (by omega) (by omega)).mp c20
    refine V.iload_n dX9_warms_28 rfl rfl rfl ?_
    refine V.ist_n dX9_warms_29 rfl (by decide) (L' := [(0, .ref 62), (1, .int (nI (h + (3 * d))))]) rfl rfl ?_
    refine V.iconst (v := 0) dX9_warms_30 rfl rfl ?_
    refine V.ist_n dX9_warms_31 rfl (by decide) (L' := [(0, .ref 62), (1, .int (nI (h + (3 * d)))), (2, .int 0)]) rfl rfl ?_
    rw [mWarmM, show hN h d m = (if m % 5 = 4 then (h + 3 * d) - 1 else (h + 3 * d)) from by unfold hN; split <;> split <;> omega]
    exact l_X9_warms m (h + 3 * d) (by omega) (by omega) 6 0 M h0 rfl
  · have c20 : ¬ h + (3 * d) ≤ 20 := fun q => c20 ((nI_leI (a := h + (3 * d)) (b := 20) (by omega) (by omega)).mpr q)
    refine V.bipush (v := 20) dX9_warms_23 (by decide) rfl ?_
    refine V.goto (pc' := 29) dX9_warms_25 rfl ?_
    refine V.ist_n dX9_warms_29 rfl (by decide) (L' := [(0, .ref 62), (1, .int 20)]) rfl rfl ?_
    refine V.iconst (v := 0) dX9_warms_30 rfl rfl ?_
    refine V.ist_n dX9_warms_31 rfl (by decide) (L' := [(0, .ref 62), (1, .int 20), (2, .int 0)]) rfl rfl ?_
    rw [mWarmM, show hN h d m = (if m % 5 = 4 then 20 - 1 else 20) from by unfold hN; split <;> split <;> omega]
    exact l_X9_warms m 20 (by omega) (by omega) 6 0 M h0 rfl
def rr (h b : Nat) (M : Mem) : Int32 := M 63 (20 + 5 * b + 2) + heatsF (M 63 (20 + 5 * b)) (nI (if M 63 (20 + 5 * b + 4) = 1 then h else h / 2))
def mr1 (h b : Nat) (M : Mem) : Mem := ms M 63 (20 + 5 * b + 2) (if rr h b M < 999 then rr h b M else 999)
def mRoStep (h b : Nat) (M : Mem) : Mem := if M 63 (20 + 5 * b + 4) = 1 ∨ M 63 (20 + 5 * b + 4) = 2 then (if M 63 (20 + 5 * b) = 4 ∧ M 63 (20 + 5 * b + 4) = 1 ∧ 60 ≤ rr h b M ∧ 8 ≤ nI h then mGoesM b (mr1 h b M) else mr1 h b M) else if M 63 (20 + 5 * b + 4) = 3 then ms M 63 (20 + 5 * b + 3) (M 63 (20 + 5 * b + 3) + 1) else M
def mRoG (h : Nat) : Nat → Nat → Mem → Mem
  | 0, _, M => M
  | n + 1, i, M => mRoG h n (i + 1) (mRoStep h i M)
theorem mGoes_j {b j : Nat} {M : Mem} (h1 : j ≠ 11) (h2 : j ≠ 20 + 5 * b + 1) (h3 : j ≠ 20 + 5 * b + 4) : mGoesM b M 63 j = M 63 j := by simp (disch := assumption) only [mGoesM, ms_j]
theorem mRoStep_j {h b j : Nat} {M : Mem} (h1 : j ≠ 11) (h2 : j < 20 + 5 * b ∨ 20 + 5 * b + 4 < j) : mRoStep h b M 63 j = M 63 j := by
  unfold mRoStep
  split
  · split
    · rw [mGoes_j h1 (by omega) (by omega), mr1, ms_j (by omega)]
    · rw [mr1, ms_j (by omega)]
  · split
    · rw [ms_j (by omega)]
    · rfl
theorem l_X9_roasts {c : Nat} (hc : c ≤ 10) {h : Nat} (h20 : h ≤ 20) : ∀ (n i : Nat) (M : Mem), M 63 1 = nI c → M 63 4 = nI h → i + n = c → V m_X9_roasts 2 [(0, .ref 62), (1, .int (nI i))] [] M (RT none (mRoG h n i M)) := by
  intro n
  induction n with
  | zero =>
    intro i M hM hh hi
    refine V.iload_n dX9_roasts_2 rfl rfl rfl ?_
    refine V.aload_n dX9_roasts_3 rfl rfl rfl ?_
    refine V.getr dX9_roasts_4 fg_X9_7 rfl rfl rfl ?_
    refine V.iconst (v := 1) dX9_roasts_7 rfl rfl ?_
    refine V.ialdN (j := 1) (v := nI c) dX9_roasts_8 rfl (by decide) (by decide) rfl hM rfl ?_
    refine V.icmp_ge (tgt := 153) dX9_roasts_9 rfl rfl (fun c9 => ?_) (fun c9 => absurd ((nI_leI (a := c) (b := i) (by omega) (by omega)).mpr (by omega)) c9)
    have c9 : c ≤ i := (nI_leI (a := c) (b := i) (by omega) (by omega)).mp c9
    exact V.vret dX9_roasts_153 rfl ⟨rfl, rfl⟩
  | succ n ih =>
    intro i M hM hh hi
    refine V.iload_n dX9_roasts_2 rfl rfl rfl ?_
    refine V.aload_n dX9_roasts_3 rfl rfl rfl ?_
    refine V.getr dX9_roasts_4 fg_X9_7 rfl rfl rfl ?_
    refine V.iconst (v := 1) dX9_roasts_7 rfl rfl ?_
    refine V.ialdN (j := 1) (v := nI c) dX9_roasts_8 rfl (by decide) (by decide) rfl hM rfl ?_
    refine V.icmp_ge (tgt := 153) dX9_roasts_9 rfl rfl (fun c9 => absurd ((nI_leI (a := c) (b := i) (by omega) (by omega)).mp c9) (by omega)) (fun c9 => ?_)
    have c9 : ¬ c ≤ i := fun q => c9 ((nI_leI (a := c) (b := i) (by omega) (by omega)).mpr q)
    refine V.aload_n dX9_roasts_12 rfl rfl rfl ?_
    refine V.iload_n dX9_roasts_13 rfl rfl rfl ?_
    refine V.iconst (v := 4) dX9_roasts_14 rfl rfl ?_
    refine V.callv_i (M1 := M) (v := M 63 (20 + 5 * i + 4)) (md' := m_X9_its) (As := [.int (nI i), .int 4]) (rest := []) dX9_roasts_15 ml_X9_60 mo_X9_its ⟨Nat.le_of_ble_eq_true rfl, Nat.le_of_ble_eq_true rfl⟩ rfl ⟨_, _, rfl⟩ (Nat.le_of_ble_eq_true rfl) rfl rfl (Nat.le_of_ble_eq_true rfl) (v_X9_its (b := i) (w := 4) (by omega) (by omega) _) rfl ?_
    refine V.ist_n dX9_roasts_18 rfl (by decide) (L' := [(0, .ref 62), (1, .int (nI i)), (2, .int (M 63 (20 + 5 * i + 4)))]) rfl rfl ?_
    refine V.iload_n dX9_roasts_19 rfl rfl rfl ?_
    refine V.iconst (v := 1) dX9_roasts_20 rfl rfl ?_
    refine V.icmp_eq (tgt := 29) dX9_roasts_21 rfl rfl (fun c21 => ?_) (fun c21 => ?_)
    · skip
      refine V.aload_n dX9_roasts_29 rfl rfl rfl ?_
      refine V.iload_n dX9_roasts_30 rfl rfl rfl ?_
      refine V.iconst (v := 2) dX9_roasts_31 rfl rfl ?_
      refine V.callv_i (M1 := M) (v := M 63 (20 + 5 * i + 2)) (md' := m_X9_its) (As := [.int (nI i), .int 2]) (rest := []) dX9_roasts_32 ml_X9_60 mo_X9_its ⟨Nat.le_of_ble_eq_true rfl, Nat.le_of_ble_eq_true rfl⟩ rfl ⟨_, _, rfl⟩ (Nat.le_of_ble_eq_true rfl) rfl rfl (Nat.le_of_ble_eq_true rfl) (v_X9_its (b := i) (w := 2) (by omega) (by omega) _) rfl ?_
      refine V.aload_n dX9_roasts_35 rfl rfl rfl ?_
      refine V.iload_n dX9_roasts_36 rfl rfl rfl ?_
      refine V.iload_n dX9_roasts_37 rfl rfl rfl ?_
      refine V.iconst (v := 1) dX9_roasts_38 rfl rfl ?_
      refine V.icmp_ne (tgt := 51) dX9_roasts_39 rfl rfl (fun c39 => absurd c39 (fun q => q c21)) (fun c39 => ?_)
      refine V.aload_n dX9_roasts_42 rfl rfl rfl ?_
      refine V.getr dX9_roasts_43 fg_X9_7 rfl rfl rfl ?_
      refine V.iconst (v := 4) dX9_roasts_46 rfl rfl ?_
      refine V.ialdN (j := 4) (v := nI h) dX9_roasts_47 rfl (by decide) (by decide) rfl hh rfl ?_
      refine V.goto (pc' := 59) dX9_roasts_48 rfl ?_
      refine V.callv_i (M1 := M) (v := heatsF (M 63 (20 + 5 * i)) (nI h)) (md' := m_X9_heatsOf) (As := [.int (nI i), .int (nI h)]) (rest := [.int (M 63 (20 + 5 * i + 2))]) dX9_roasts_59 ml_X9_108 mo_X9_heatsOf ⟨Nat.le_of_ble_eq_true rfl, Nat.le_of_ble_eq_true rfl⟩ rfl ⟨_, _, rfl⟩ (Nat.le_of_ble_eq_true rfl) rfl rfl (Nat.le_of_ble_eq_true rfl) (v_X9_heatsOf (b := i) (by omega) _ _) rfl ?_
      refine V.iadd (v := (M 63 (20 + 5 * i + 2)) + (heatsF (M 63 (20 + 5 * i)) (nI h))) dX9_roasts_62 rfl rfl ?_
      refine V.top (y := rr h i M) (by rw [rr, if_pos c21]) ?_
      refine V.ist_n dX9_roasts_63 rfl (by decide) (L' := [(0, .ref 62), (1, .int (nI i)), (2, .int (M 63 (20 + 5 * i + 4))), (3, .int (rr h i M))]) rfl rfl ?_
      refine V.aload_n dX9_roasts_64 rfl rfl rfl ?_
      refine V.getr dX9_roasts_65 fg_X9_7 rfl rfl rfl ?_
      refine V.iload_n dX9_roasts_68 rfl rfl rfl ?_
      refine V.iconst (v := 2) dX9_roasts_69 rfl rfl ?_
      refine V.calls_i (M1 := M) (v := nI (20 + 5 * i + 2)) (md' := m_X9_where) (As := [.int (nI i), .int 2]) (rest := [.ref 63]) dX9_roasts_70 ml_X9_45 mo_X9_where ⟨Nat.le_of_ble_eq_true rfl, Nat.le_of_ble_eq_true rfl⟩ (Nat.le_of_ble_eq_true rfl) rfl rfl (Nat.le_of_ble_eq_true rfl) (v_X9_where i 2 _) rfl ?_
      refine V.iload_n dX9_roasts_73 rfl rfl rfl ?_
      refine V.sipush (v := 999) dX9_roasts_74 (by decide) rfl ?_
      refine V.icmp_ge (tgt := 84) dX9_roasts_77 rfl rfl (fun c77 => ?_) (fun c77 => ?_)
      · skip
        refine V.sipush (v := 999) dX9_roasts_84 (by decide) rfl ?_
        refine V.iastN (j := 20 + 5 * i + 2) dX9_roasts_87 rfl (by omega) (by decide) rfl (M' := (ms M 63 (20 + 5 * i + 2) 999)) rfl rfl ?_
        refine V.mem (M' := mr1 h i M) (by rw [mr1, if_neg (Int32.not_lt.mpr c77)]) ?_
        refine V.aload_n dX9_roasts_88 rfl rfl rfl ?_
        refine V.iload_n dX9_roasts_89 rfl rfl rfl ?_
        refine V.iconst (v := 0) dX9_roasts_90 rfl rfl ?_
        refine V.callv_i (M1 := mr1 h i M) (v := M 63 (20 + 5 * i)) (md' := m_X9_its) (As := [.int (nI i), .int 0]) (rest := []) dX9_roasts_91 ml_X9_60 mo_X9_its ⟨Nat.le_of_ble_eq_true rfl, Nat.le_of_ble_eq_true rfl⟩ rfl ⟨_, _, rfl⟩ (Nat.le_of_ble_eq_true rfl) rfl rfl (Nat.le_of_ble_eq_true rfl) (by rw [show M 63 (20 + 5 * i) = (mr1 h i M) 63 (20 + 5 * i) from by simp (disch := omega) only [ms_j, mr1]]; exact v_X9_its (b := i) (w := 0) (by omega) (by omega) _) rfl ?_
        refine V.iconst (v := 4) dX9_roasts_94 rfl rfl ?_
        refine V.icmp_ne (tgt := 125) dX9_roasts_95 rfl rfl (fun c95 => ?_) (fun c95 => ?_)
        · skip
          refine V.goto (pc' := 147) dX9_roasts_125 rfl ?_
          refine V.inc (v := nI (i + 1)) dX9_roasts_147 rfl (nI_1 _) (by decide) (L' := [(0, .ref 62), (1, .int (nI (i + 1))), (2, .int (M 63 (20 + 5 * i + 4))), (3, .int (rr h i M))]) rfl rfl ?_
          refine V.goto (pc' := 2) dX9_roasts_150 rfl ?_
          refine V.loc (L' := [(0, .ref 62), (1, .int (nI (i + 1)))]) (fun zq zh => List.mem_append_left [(2, Value.int (M 63 (20 + 5 * i + 4))), (3, Value.int (rr h i M))] zh) ?_
          have e1 : mRoStep h i M = mr1 h i M := by simp only [mRoStep]; rw [if_pos (Or.inl c21), if_neg (fun q => c95 q.1)]
          rw [show mRoG h (n + 1) i M = mRoG h n (i + 1) (mr1 h i M) from by show mRoG h n (i + 1) (mRoStep h i M) = _; rw [e1]]
          rw [← e1]
          exact ih (i + 1) _ (by rw [mRoStep_j (by decide) (by omega)]; exact hM) (by rw [mRoStep_j (by decide) (by omega)]; exact hh) (by omega)
        · skip
          refine V.iload_n dX9_roasts_98 rfl rfl rfl ?_
          refine V.iconst (v := 1) dX9_roasts_99 rfl rfl ?_
          refine V.icmp_ne (tgt := 125) dX9_roasts_100 rfl rfl (fun c100 => absurd c100 (fun q => q c21)) (fun c100 => ?_)
          refine V.iload_n dX9_roasts_103 rfl rfl rfl ?_
          refine V.bipush (v := 60) dX9_roasts_104 (by decide) rfl ?_
          refine V.icmp_lt (tgt := 125) dX9_roasts_106 rfl rfl (fun c106 => ?_) (fun c106 => ?_)
          · have c106 : ¬ 60 ≤ rr h i M := Int32.not_le.mpr c106
            refine V.goto (pc' := 147) dX9_roasts_125 rfl ?_
            refine V.inc (v := nI (i + 1)) dX9_roasts_147 rfl (nI_1 _) (by decide) (L' := [(0, .ref 62), (1, .int (nI (i + 1))), (2, .int (M 63 (20 + 5 * i + 4))), (3, .int (rr h i M))]) rfl rfl ?_
            refine V.goto (pc' := 2) dX9_roasts_150 rfl ?_
            refine V.loc (L' := [(0, .ref 62), (1, .int (nI (i + 1)))]) (fun zq zh => List.mem_append_left [(2, Value.int (M 63 (20 + 5 * i + 4))), (3, Value.int (rr h i M))] zh) ?_
            have e1 : mRoStep h i M = mr1 h i M := by simp only [mRoStep]; rw [if_pos (Or.inl c21), if_neg (fun q => c106 q.2.2.1)]
            rw [show mRoG h (n + 1) i M = mRoG h n (i + 1) (mr1 h i M) from by show mRoG h n (i + 1) (mRoStep h i M) = _; rw [e1]]
            rw [← e1]
            exact ih (i + 1) _ (by rw [mRoStep_j (by decide) (by omega)]; exact hM) (by rw [mRoStep_j (by decide) (by omega)]; exact hh) (by omega)
          · have c106 : 60 ≤ rr h i M := Int32.not_lt.mp c106
            refine V.aload_n dX9_roasts_109 rfl rfl rfl ?_
            refine V.getr dX9_roasts_110 fg_X9_7 rfl rfl rfl ?_
            refine V.iconst (v := 4) dX9_roasts_113 rfl rfl ?_
            refine V.ialdN (j := 4) (v := nI h) dX9_roasts_114 rfl (by decide) (by decide) rfl (by rw [mr1, ms_j (by omega)]; exact hh) rfl ?_
            refine V.bipush (v := 8) dX9_roasts_115 (by decide) rfl ?_
            refine V.icmp_lt (tgt := 125) dX9_roasts_117 rfl rfl (fun c117 => ?_) (fun c117 => ?_)
            · have c117 : ¬ 8 ≤ nI h := Int32.not_le.mpr c117
              refine V.goto (pc' := 147) dX9_roasts_125 rfl ?_
              refine V.inc (v := nI (i + 1)) dX9_roasts_147 rfl (nI_1 _) (by decide) (L' := [(0, .ref 62), (1, .int (nI (i + 1))), (2, .int (M 63 (20 + 5 * i + 4))), (3, .int (rr h i M))]) rfl rfl ?_
              refine V.goto (pc' := 2) dX9_roasts_150 rfl ?_
              refine V.loc (L' := [(0, .ref 62), (1, .int (nI (i + 1)))]) (fun zq zh => List.mem_append_left [(2, Value.int (M 63 (20 + 5 * i + 4))), (3, Value.int (rr h i M))] zh) ?_
              have e1 : mRoStep h i M = mr1 h i M := by simp only [mRoStep]; rw [if_pos (Or.inl c21), if_neg (fun q => c117 q.2.2.2)]
              rw [show mRoG h (n + 1) i M = mRoG h n (i + 1) (mr1 h i M) from by show mRoG h n (i + 1) (mRoStep h i M) = _; rw [e1]]
              rw [← e1]
              exact ih (i + 1) _ (by rw [mRoStep_j (by decide) (by omega)]; exact hM) (by rw [mRoStep_j (by decide) (by omega)]; exact hh) (by omega)
            · have c117 : 8 ≤ nI h := Int32.not_lt.mp c117
              refine V.aload_n dX9_roasts_120 rfl rfl rfl ?_
              refine V.iload_n dX9_roasts_121 rfl rfl rfl ?_
              refine V.callv_v (M1 := mGoesM i (mr1 h i M)) (md' := m_X9_goes) (As := [.int (nI i)]) (rest := []) dX9_roasts_122 ml_X9_92 mo_X9_goes ⟨Nat.le_of_ble_eq_true rfl, Nat.le_of_ble_eq_true rfl⟩ rfl ⟨_, _, rfl⟩ (Nat.le_of_ble_eq_true rfl) rfl rfl (Nat.le_of_ble_eq_true rfl) (v_X9_goes (b := i) (by omega) _) rfl ?_
              refine V.goto (pc' := 147) dX9_roasts_125 rfl ?_
              refine V.inc (v := nI (i + 1)) dX9_roasts_147 rfl (nI_1 _) (by decide) (L' := [(0, .ref 62), (1, .int (nI (i + 1))), (2, .int (M 63 (20 + 5 * i + 4))), (3, .int (rr h i M))]) rfl rfl ?_
              refine V.goto (pc' := 2) dX9_roasts_150 rfl ?_
              refine V.loc (L' := [(0, .ref 62), (1, .int (nI (i + 1)))]) (fun zq zh => List.mem_append_left [(2, Value.int (M 63 (20 + 5 * i + 4))), (3, Value.int (rr h i M))] zh) ?_
              have e1 : mRoStep h i M = mGoesM i (mr1 h i M) := by simp only [mRoStep]; rw [if_pos (Or.inl c21), if_pos ⟨c95, c21, c106, c117⟩]
              rw [show mRoG h (n + 1) i M = mRoG h n (i + 1) (mGoesM i (mr1 h i M)) from by show mRoG h n (i + 1) (mRoStep h i M) = _; rw [e1]]
              rw [← e1]
              exact ih (i + 1) _ (by rw [mRoStep_j (by decide) (by omega)]; exact hM) (by rw [mRoStep_j (by decide) (by omega)]; exact hh) (by omega)
      · skip
        refine V.iload_n dX9_roasts_80 rfl rfl rfl ?_
        refine V.goto (pc' := 87) dX9_roasts_81 rfl ?_
        refine V.iastN (j := 20 + 5 * i + 2) dX9_roasts_87 rfl (by omega) (by decide) rfl (M' := (ms M 63 (20 + 5 * i + 2) (rr h i M))) rfl rfl ?_
        refine V.mem (M' := mr1 h i M) (by rw [mr1, if_pos (Int32.not_le.mp c77)]) ?_
        refine V.aload_n dX9_roasts_88 rfl rfl rfl ?_
        refine V.iload_n dX9_roasts_89 rfl rfl rfl ?_
        refine V.iconst (v := 0) dX9_roasts_90 rfl rfl ?_
        refine V.callv_i (M1 := mr1 h i M) (v := M 63 (20 + 5 * i)) (md' := m_X9_its) (As := [.int (nI i), .int 0]) (rest := []) dX9_roasts_91 ml_X9_60 mo_X9_its ⟨Nat.le_of_ble_eq_true rfl, Nat.le_of_ble_eq_true rfl⟩ rfl ⟨_, _, rfl⟩ (Nat.le_of_ble_eq_true rfl) rfl rfl (Nat.le_of_ble_eq_true rfl) (by rw [show M 63 (20 + 5 * i) = (mr1 h i M) 63 (20 + 5 * i) from by simp (disch := omega) only [ms_j, mr1]]; exact v_X9_its (b := i) (w := 0) (by omega) (by omega) _) rfl ?_
        refine V.iconst (v := 4) dX9_roasts_94 rfl rfl ?_
        refine V.icmp_ne (tgt := 125) dX9_roasts_95 rfl rfl (fun c95 => ?_) (fun c95 => ?_)
        · skip
          refine V.goto (pc' := 147) dX9_roasts_125 rfl ?_
          refine V.inc (v := nI (i + 1)) dX9_roasts_147 rfl (nI_1 _) (by decide) (L' := [(0, .ref 62), (1, .int (nI (i + 1))), (2, .int (M 63 (20 + 5 * i + 4))), (3, .int (rr h i M))]) rfl rfl ?_
          refine V.goto (pc' := 2) dX9_roasts_150 rfl ?_
          refine V.loc (L' := [(0, .ref 62), (1, .int (nI (i + 1)))]) (fun zq zh => List.mem_append_left [(2, Value.int (M 63 (20 + 5 * i + 4))), (3, Value.int (rr h i M))] zh) ?_
          have e1 : mRoStep h i M = mr1 h i M := by simp only [mRoStep]; rw [if_pos (Or.inl c21), if_neg (fun q => c95 q.1)]
          rw [show mRoG h (n + 1) i M = mRoG h n (i + 1) (mr1 h i M) from by show mRoG h n (i + 1) (mRoStep h i M) = _; rw [e1]]
          rw [← e1]
          exact ih (i + 1) _ (by rw [mRoStep_j (by decide) (by omega)]; exact hM) (by rw [mRoStep_j (by decide) (by omega)]; exact hh) (by omega)
        · skip
          refine V.iload_n dX9_roasts_98 rfl rfl rfl ?_
          refine V.iconst (v := 1) dX9_roasts_99 rfl rfl ?_
          refine V.icmp_ne (tgt := 125) dX9_roasts_100 rfl rfl (fun c100 => absurd c100 (fun q => q c21)) (fun c100 => ?_)
          refine V.iload_n dX9_roasts_103 rfl rfl rfl ?_
          refine V.bipush (v := 60) dX9_roasts_104 (by decide) rfl ?_
          refine V.icmp_lt (tgt := 125) dX9_roasts_106 rfl rfl (fun c106 => ?_) (fun c106 => ?_)
          · have c106 : ¬ 60 ≤ rr h i M := Int32.not_le.mpr c106
            refine V.goto (pc' := 147) dX9_roasts_125 rfl ?_
            refine V.inc (v := nI (i + 1)) dX9_roasts_147 rfl (nI_1 _) (by decide) (L' := [(0, .ref 62), (1, .int (nI (i + 1))), (2, .int (M 63 (20 + 5 * i + 4))), (3, .int (rr h i M))]) rfl rfl ?_
            refine V.goto (pc' := 2) dX9_roasts_150 rfl ?_
            refine V.loc (L' := [(0, .ref 62), (1, .int (nI (i + 1)))]) (fun zq zh => List.mem_append_left [(2, Value.int (M 63 (20 + 5 * i + 4))), (3, Value.int (rr h i M))] zh) ?_
            have e1 : mRoStep h i M = mr1 h i M := by simp only [mRoStep]; rw [if_pos (Or.inl c21), if_neg (fun q => c106 q.2.2.1)]
            rw [show mRoG h (n + 1) i M = mRoG h n (i + 1) (mr1 h i M) from by show mRoG h n (i + 1) (mRoStep h i M) = _; rw [e1]]
            rw [← e1]
            exact ih (i + 1) _ (by rw [mRoStep_j (by decide) (by omega)]; exact hM) (by rw [mRoStep_j (by decide) (by omega)]; exact hh) (by omega)
          · have c106 : 60 ≤ rr h i M := Int32.not_lt.mp c106
            refine V.aload_n dX9_roasts_109 rfl rfl rfl ?_
            refine V.getr dX9_roasts_110 fg_X9_7 rfl rfl rfl ?_
            refine V.iconst (v := 4) dX9_roasts_113 rfl rfl ?_
            refine V.ialdN (j := 4) (v := nI h) dX9_roasts_114 rfl (by decide) (by decide) rfl (by rw [mr1, ms_j (by omega)]; exact hh) rfl ?_
            refine V.bipush (v := 8) dX9_roasts_115 (by decide) rfl ?_
            refine V.icmp_lt (tgt := 125) dX9_roasts_117 rfl rfl (fun c117 => ?_) (fun c117 => ?_)
            · have c117 : ¬ 8 ≤ nI h := Int32.not_le.mpr c117
              refine V.goto (pc' := 147) dX9_roasts_125 rfl ?_
              refine V.inc (v := nI (i + 1)) dX9_roasts_147 rfl (nI_1 _) (by decide) (L' := [(0, .ref 62), (1, .int (nI (i + 1))), (2, .int (M 63 (20 + 5 * i + 4))), (3, .int (rr h i M))]) rfl rfl ?_
              refine V.goto (pc' := 2) dX9_roasts_150 rfl ?_
              refine V.loc (L' := [(0, .ref 62), (1, .int (nI (i + 1)))]) (fun zq zh => List.mem_append_left [(2, Value.int (M 63 (20 + 5 * i + 4))), (3, Value.int (rr h i M))] zh) ?_
              have e1 : mRoStep h i M = mr1 h i M := by simp only [mRoStep]; rw [if_pos (Or.inl c21), if_neg (fun q => c117 q.2.2.2)]
              rw [show mRoG h (n + 1) i M = mRoG h n (i + 1) (mr1 h i M) from by show mRoG h n (i + 1) (mRoStep h i M) = _; rw [e1]]
              rw [← e1]
              exact ih (i + 1) _ (by rw [mRoStep_j (by decide) (by omega)]; exact hM) (by rw [mRoStep_j (by decide) (by omega)]; exact hh) (by omega)
            · have c117 : 8 ≤ nI h := Int32.not_lt.mp c117
              refine V.aload_n dX9_roasts_120 rfl rfl rfl ?_
              refine V.iload_n dX9_roasts_121 rfl rfl rfl ?_
              refine V.callv_v (M1 := mGoesM i (mr1 h i M)) (md' := m_X9_goes) (As := [.int (nI i)]) (rest := []) dX9_roasts_122 ml_X9_92 mo_X9_goes ⟨Nat.le_of_ble_eq_true rfl, Nat.le_of_ble_eq_true rfl⟩ rfl ⟨_, _, rfl⟩ (Nat.le_of_ble_eq_true rfl) rfl rfl (Nat.le_of_ble_eq_true rfl) (v_X9_goes (b := i) (by omega) _) rfl ?_
              refine V.goto (pc' := 147) dX9_roasts_125 rfl ?_
              refine V.inc (v := nI (i + 1)) dX9_roasts_147 rfl (nI_1 _) (by decide) (L' := [(0, .ref 62), (1, .int (nI (i + 1))), (2, .int (M 63 (20 + 5 * i + 4))), (3, .int (rr h i M))]) rfl rfl ?_
              refine V.goto (pc' := 2) dX9_roasts_150 rfl ?_
              refine V.loc (L' := [(0, .ref 62), (1, .int (nI (i + 1)))]) (fun zq zh => List.mem_append_left [(2, Value.int (M 63 (20 + 5 * i + 4))), (3, Value.int (rr h i M))] zh) ?_
              have e1 : mRoStep h i M = mGoesM i (mr1 h i M) := by simp only [mRoStep]; rw [if_pos (Or.inl c21), if_pos ⟨c95, c21, c106, c117⟩]
              rw [show mRoG h (n + 1) i M = mRoG h n (i + 1) (mGoesM i (mr1 h i M)) from by show mRoG h n (i + 1) (mRoStep h i M) = _; rw [e1]]
              rw [← e1]
              exact ih (i + 1) _ (by rw [mRoStep_j (by decide) (by omega)]; exact hM) (by rw [mRoStep_j (by decide) (by omega)]; exact hh) (by omega)
    · skip
      refine V.iload_n dX9_roasts_24 rfl rfl rfl ?_
      refine V.iconst (v := 2) dX9_roasts_25 rfl rfl ?_
      refine V.icmp_ne (tgt := 128) dX9_roasts_26 rfl rfl (fun c26 => ?_) (fun c26 => ?_)
      · skip
        refine V.iload_n dX9_roasts_128 rfl rfl rfl ?_
        refine V.iconst (v := 3) dX9_roasts_129 rfl rfl ?_
        refine V.icmp_ne (tgt := 147) dX9_roasts_130 rfl rfl (fun c130 => ?_) (fun c130 => ?_)
        · skip
          refine V.inc (v := nI (i + 1)) dX9_roasts_147 rfl (nI_1 _) (by decide) (L' := [(0, .ref 62), (1, .int (nI (i + 1))), (2, .int (M 63 (20 + 5 * i + 4)))]) rfl rfl ?_
          refine V.goto (pc' := 2) dX9_roasts_150 rfl ?_
          refine V.loc (L' := [(0, .ref 62), (1, .int (nI (i + 1)))]) (fun zq zh => List.mem_append_left [(2, Value.int (M 63 (20 + 5 * i + 4)))] zh) ?_
          have e1 : mRoStep h i M = M := by simp only [mRoStep]; rw [if_neg (fun q => q.elim c21 c26), if_neg c130]
          rw [show mRoG h (n + 1) i M = mRoG h n (i + 1) M from by show mRoG h n (i + 1) (mRoStep h i M) = _; rw [e1]]
          rw [← e1]
          exact ih (i + 1) _ (by rw [mRoStep_j (by decide) (by omega)]; exact hM) (by rw [mRoStep_j (by decide) (by omega)]; exact hh) (by omega)
        · skip
          refine V.aload_n dX9_roasts_133 rfl rfl rfl ?_
          refine V.getr dX9_roasts_134 fg_X9_7 rfl rfl rfl ?_
          refine V.iload_n dX9_roasts_137 rfl rfl rfl ?_
          refine V.iconst (v := 3) dX9_roasts_138 rfl rfl ?_
          refine V.calls_i (M1 := M) (v := nI (20 + 5 * i + 3)) (md' := m_X9_where) (As := [.int (nI i), .int 3]) (rest := [.ref 63]) dX9_roasts_139 ml_X9_45 mo_X9_where ⟨Nat.le_of_ble_eq_true rfl, Nat.le_of_ble_eq_true rfl⟩ (Nat.le_of_ble_eq_true rfl) rfl rfl (Nat.le_of_ble_eq_true rfl) (v_X9_where i 3 _) rfl ?_
          refine V.dup2 dX9_roasts_142 rfl rfl rfl ?_
          refine V.ialdN (j := 20 + 5 * i + 3) (v := M 63 (20 + 5 * i + 3)) dX9_roasts_143 rfl (by omega) (by decide) rfl rfl rfl ?_
          refine V.iconst (v := 1) dX9_roasts_144 rfl rfl ?_
          refine V.iadd (v := (M 63 (20 + 5 * i + 3)) + 1) dX9_roasts_145 rfl rfl ?_
          refine V.iastN (j := 20 + 5 * i + 3) dX9_roasts_146 rfl (by omega) (by decide) rfl (M' := (ms M 63 (20 + 5 * i + 3) ((M 63 (20 + 5 * i + 3)) + 1))) rfl rfl ?_
          refine V.inc (v := nI (i + 1)) dX9_roasts_147 rfl (nI_1 _) (by decide) (L' := [(0, .ref 62), (1, .int (nI (i + 1))), (2, .int (M 63 (20 + 5 * i + 4)))]) rfl rfl ?_
          refine V.goto (pc' := 2) dX9_roasts_150 rfl ?_
          refine V.loc (L' := [(0, .ref 62), (1, .int (nI (i + 1)))]) (fun zq zh => List.mem_append_left [(2, Value.int (M 63 (20 + 5 * i + 4)))] zh) ?_
          have e1 : mRoStep h i M = (ms M 63 (20 + 5 * i + 3) ((M 63 (20 + 5 * i + 3)) + 1)) := by simp only [mRoStep]; rw [if_neg (fun q => q.elim c21 c26), if_pos c130]
          rw [show mRoG h (n + 1) i M = mRoG h n (i + 1) (ms M 63 (20 + 5 * i + 3) ((M 63 (20 + 5 * i + 3)) + 1)) from by show mRoG h n (i + 1) (mRoStep h i M) = _; rw [e1]]
          rw [← e1]
          exact ih (i + 1) _ (by rw [mRoStep_j (by decide) (by omega)]; exact hM) (by rw [mRoStep_j (by decide) (by omega)]; exact hh) (by omega)
      · skip
        refine V.aload_n dX9_roasts_29 rfl rfl rfl ?_
        refine V.iload_n dX9_roasts_30 rfl rfl rfl ?_
        refine V.iconst (v := 2) dX9_roasts_31 rfl rfl ?_
        refine V.callv_i (M1 := M) (v := M 63 (20 + 5 * i + 2)) (md' := m_X9_its) (As := [.int (nI i), .int 2]) (rest := []) dX9_roasts_32 ml_X9_60 mo_X9_its ⟨Nat.le_of_ble_eq_true rfl, Nat.le_of_ble_eq_true rfl⟩ rfl ⟨_, _, rfl⟩ (Nat.le_of_ble_eq_true rfl) rfl rfl (Nat.le_of_ble_eq_true rfl) (v_X9_its (b := i) (w := 2) (by omega) (by omega) _) rfl ?_
        refine V.aload_n dX9_roasts_35 rfl rfl rfl ?_
        refine V.iload_n dX9_roasts_36 rfl rfl rfl ?_
        refine V.iload_n dX9_roasts_37 rfl rfl rfl ?_
        refine V.iconst (v := 1) dX9_roasts_38 rfl rfl ?_
        refine V.icmp_ne (tgt := 51) dX9_roasts_39 rfl rfl (fun c39 => ?_) (fun c39 => absurd c39 c21)
        refine V.aload_n dX9_roasts_51 rfl rfl rfl ?_
        refine V.getr dX9_roasts_52 fg_X9_7 rfl rfl rfl ?_
        refine V.iconst (v := 4) dX9_roasts_55 rfl rfl ?_
        refine V.ialdN (j := 4) (v := nI h) dX9_roasts_56 rfl (by decide) (by decide) rfl hh rfl ?_
        refine V.iconst (v := 2) dX9_roasts_57 rfl rfl ?_
        refine V.idiv (v := nI (h / 2)) dX9_roasts_58 (by decide) (pk_div (by omega) (by decide) (by decide)) rfl ?_
        refine V.callv_i (M1 := M) (v := heatsF (M 63 (20 + 5 * i)) (nI (h / 2))) (md' := m_X9_heatsOf) (As := [.int (nI i), .int (nI (h / 2))]) (rest := [.int (M 63 (20 + 5 * i + 2))]) dX9_roasts_59 ml_X9_108 mo_X9_heatsOf ⟨Nat.le_of_ble_eq_true rfl, Nat.le_of_ble_eq_true rfl⟩ rfl ⟨_, _, rfl⟩ (Nat.le_of_ble_eq_true rfl) rfl rfl (Nat.le_of_ble_eq_true rfl) (v_X9_heatsOf (b := i) (by omega) _ _) rfl ?_
        refine V.iadd (v := (M 63 (20 + 5 * i + 2)) + (heatsF (M 63 (20 + 5 * i)) (nI (h / 2)))) dX9_roasts_62 rfl rfl ?_
        refine V.top (y := rr h i M) (by rw [rr, if_neg c21]) ?_
        refine V.ist_n dX9_roasts_63 rfl (by decide) (L' := [(0, .ref 62), (1, .int (nI i)), (2, .int (M 63 (20 + 5 * i + 4))), (3, .int (rr h i M))]) rfl rfl ?_
        refine V.aload_n dX9_roasts_64 rfl rfl rfl ?_
        refine V.getr dX9_roasts_65 fg_X9_7 rfl rfl rfl ?_
        refine V.iload_n dX9_roasts_68 rfl rfl rfl ?_
        refine V.iconst (v := 2) dX9_roasts_69 rfl rfl ?_
        refine V.calls_i (M1 := M) (v := nI (20 + 5 * i + 2)) (md' := m_X9_where) (As := [.int (nI i), .int 2]) (rest := [.ref 63]) dX9_roasts_70 ml_X9_45 mo_X9_where ⟨Nat.le_of_ble_eq_true rfl, Nat.le_of_ble_eq_true rfl⟩ (Nat.le_of_ble_eq_true rfl) rfl rfl (Nat.le_of_ble_eq_true rfl) (v_X9_where i 2 _) rfl ?_
        refine V.iload_n dX9_roasts_73 rfl rfl rfl ?_
        refine V.sipush (v := 999) dX9_roasts_74 (by decide) rfl ?_
        refine V.icmp_ge (tgt := 84) dX9_roasts_77 rfl rfl (fun c77 => ?_) (fun c77 => ?_)
        · skip
          refine V.sipush (v := 999) dX9_roasts_84 (by decide) rfl ?_
          refine V.iastN (j := 20 + 5 * i + 2) dX9_roasts_87 rfl (by omega) (by decide) rfl (M' := (ms M 63 (20 + 5 * i + 2) 999)) rfl rfl ?_
          refine V.mem (M' := mr1 h i M) (by rw [mr1, if_neg (Int32.not_lt.mpr c77)]) ?_
          refine V.aload_n dX9_roasts_88 rfl rfl rfl ?_
          refine V.iload_n dX9_roasts_89 rfl rfl rfl ?_
          refine V.iconst (v := 0) dX9_roasts_90 rfl rfl ?_
          refine V.callv_i (M1 := mr1 h i M) (v := M 63 (20 + 5 * i)) (md' := m_X9_its) (As := [.int (nI i), .int 0]) (rest := []) dX9_roasts_91 ml_X9_60 mo_X9_its ⟨Nat.le_of_ble_eq_true rfl, Nat.le_of_ble_eq_true rfl⟩ rfl ⟨_, _, rfl⟩ (Nat.le_of_ble_eq_true rfl) rfl rfl (Nat.le_of_ble_eq_true rfl) (by rw [show M 63 (20 + 5 * i) = (mr1 h i M) 63 (20 + 5 * i) from by simp (disch := omega) only [ms_j, mr1]]; exact v_X9_its (b := i) (w := 0) (by omega) (by omega) _) rfl ?_
          refine V.iconst (v := 4) dX9_roasts_94 rfl rfl ?_
          refine V.icmp_ne (tgt := 125) dX9_roasts_95 rfl rfl (fun c95 => ?_) (fun c95 => ?_)
          · skip
            refine V.goto (pc' := 147) dX9_roasts_125 rfl ?_
            refine V.inc (v := nI (i + 1)) dX9_roasts_147 rfl (nI_1 _) (by decide) (L' := [(0, .ref 62), (1, .int (nI (i + 1))), (2, .int (M 63 (20 + 5 * i + 4))), (3, .int (rr h i M))]) rfl rfl ?_
            refine V.goto (pc' := 2) dX9_roasts_150 rfl ?_
            refine V.loc (L' := [(0, .ref 62), (1, .int (nI (i + 1)))]) (fun zq zh => List.mem_append_left [(2, Value.int (M 63 (20 + 5 * i + 4))), (3, Value.int (rr h i M))] zh) ?_
            have e1 : mRoStep h i M = mr1 h i M := by simp only [mRoStep]; rw [if_pos (Or.inr c26), if_neg (fun q => c95 q.1)]
            rw [show mRoG h (n + 1) i M = mRoG h n (i + 1) (mr1 h i M) from by show mRoG h n (i + 1) (mRoStep h i M) = _; rw [e1]]
            rw [← e1]
            exact ih (i + 1) _ (by rw [mRoStep_j (by decide) (by omega)]; exact hM) (by rw [mRoStep_j (by decide) (by omega)]; exact hh) (by omega)
          · skip
            refine V.iload_n dX9_roasts_98 rfl rfl rfl ?_
            refine V.iconst (v := 1) dX9_roasts_99 rfl rfl ?_
            refine V.icmp_ne (tgt := 125) dX9_roasts_100 rfl rfl (fun c100 => ?_) (fun c100 => absurd c100 c21)
            refine V.goto (pc' := 147) dX9_roasts_125 rfl ?_
            refine V.inc (v := nI (i + 1)) dX9_roasts_147 rfl (nI_1 _) (by decide) (L' := [(0, .ref 62), (1, .int (nI (i + 1))), (2, .int (M 63 (20 + 5 * i + 4))), (3, .int (rr h i M))]) rfl rfl ?_
            refine V.goto (pc' := 2) dX9_roasts_150 rfl ?_
            refine V.loc (L' := [(0, .ref 62), (1, .int (nI (i + 1)))]) (fun zq zh => List.mem_append_left [(2, Value.int (M 63 (20 + 5 * i + 4))), (3, Value.int (rr h i M))] zh) ?_
            have e1 : mRoStep h i M = mr1 h i M := by simp only [mRoStep]; rw [if_pos (Or.inr c26), if_neg (fun q => c21 q.2.1)]
            rw [show mRoG h (n + 1) i M = mRoG h n (i + 1) (mr1 h i M) from by show mRoG h n (i + 1) (mRoStep h i M) = _; rw [e1]]
            rw [← e1]
            exact ih (i + 1) _ (by rw [mRoStep_j (by decide) (by omega)]; exact hM) (by rw [mRoStep_j (by decide) (by omega)]; exact hh) (by omega)
        · skip
          refine V.iload_n dX9_roasts_80 rfl rfl rfl ?_
          refine V.goto (pc' := 87) dX9_roasts_81 rfl ?_
          refine V.iastN (j := 20 + 5 * i + 2) dX9_roasts_87 rfl (by omega) (by decide) rfl (M' := (ms M 63 (20 + 5 * i + 2) (rr h i M))) rfl rfl ?_
          refine V.mem (M' := mr1 h i M) (by rw [mr1, if_pos (Int32.not_le.mp c77)]) ?_
          refine V.aload_n dX9_roasts_88 rfl rfl rfl ?_
          refine V.iload_n dX9_roasts_89 rfl rfl rfl ?_
          refine V.iconst (v := 0) dX9_roasts_90 rfl rfl ?_
          refine V.callv_i (M1 := mr1 h i M) (v := M 63 (20 + 5 * i)) (md' := m_X9_its) (As := [.int (nI i), .int 0]) (rest := []) dX9_roasts_91 ml_X9_60 mo_X9_its ⟨Nat.le_of_ble_eq_true rfl, Nat.le_of_ble_eq_true rfl⟩ rfl ⟨_, _, rfl⟩ (Nat.le_of_ble_eq_true rfl) rfl rfl (Nat.le_of_ble_eq_true rfl) (by rw [show M 63 (20 + 5 * i) = (mr1 h i M) 63 (20 + 5 * i) from by simp (disch := omega) only [ms_j, mr1]]; exact v_X9_its (b := i) (w := 0) (by omega) (by omega) _) rfl ?_
          refine V.iconst (v := 4) dX9_roasts_94 rfl rfl ?_
          refine V.icmp_ne (tgt := 125) dX9_roasts_95 rfl rfl (fun c95 => ?_) (fun c95 => ?_)
          · skip
            refine V.goto (pc' := 147) dX9_roasts_125 rfl ?_
            refine V.inc (v := nI (i + 1)) dX9_roasts_147 rfl (nI_1 _) (by decide) (L' := [(0, .ref 62), (1, .int (nI (i + 1))), (2, .int (M 63 (20 + 5 * i + 4))), (3, .int (rr h i M))]) rfl rfl ?_
            refine V.goto (pc' := 2) dX9_roasts_150 rfl ?_
            refine V.loc (L' := [(0, .ref 62), (1, .int (nI (i + 1)))]) (fun zq zh => List.mem_append_left [(2, Value.int (M 63 (20 + 5 * i + 4))), (3, Value.int (rr h i M))] zh) ?_
            have e1 : mRoStep h i M = mr1 h i M := by simp only [mRoStep]; rw [if_pos (Or.inr c26), if_neg (fun q => c95 q.1)]
            rw [show mRoG h (n + 1) i M = mRoG h n (i + 1) (mr1 h i M) from by show mRoG h n (i + 1) (mRoStep h i M) = _; rw [e1]]
            rw [← e1]
            exact ih (i + 1) _ (by rw [mRoStep_j (by decide) (by omega)]; exact hM) (by rw [mRoStep_j (by decide) (by omega)]; exact hh) (by omega)
          · skip
            refine V.iload_n dX9_roasts_98 rfl rfl rfl ?_
            refine V.iconst (v := 1) dX9_roasts_99 rfl rfl ?_
            refine V.icmp_ne (tgt := 125) dX9_roasts_100 rfl rfl (fun c100 => ?_) (fun c100 => absurd c100 c21)
            refine V.goto (pc' := 147) dX9_roasts_125 rfl ?_
            refine V.inc (v := nI (i + 1)) dX9_roasts_147 rfl (nI_1 _) (by decide) (L' := [(0, .ref 62), (1, .int (nI (i + 1))), (2, .int (M 63 (20 + 5 * i + 4))), (3, .int (rr h i M))]) rfl rfl ?_
            refine V.goto (pc' := 2) dX9_roasts_150 rfl ?_
            refine V.loc (L' := [(0, .ref 62), (1, .int (nI (i + 1)))]) (fun zq zh => List.mem_append_left [(2, Value.int (M 63 (20 + 5 * i + 4))), (3, Value.int (rr h i M))] zh) ?_
            have e1 : mRoStep h i M = mr1 h i M := by simp only [mRoStep]; rw [if_pos (Or.inr c26), if_neg (fun q => c21 q.2.1)]
            rw [show mRoG h (n + 1) i M = mRoG h n (i + 1) (mr1 h i M) from by show mRoG h n (i + 1) (mRoStep h i M) = _; rw [e1]]
            rw [← e1]
            exact ih (i + 1) _ (by rw [mRoStep_j (by decide) (by omega)]; exact hM) (by rw [mRoStep_j (by decide) (by omega)]; exact hh) (by omega)
theorem v_X9_roasts {c : Nat} (hc : c ≤ 10) {h : Nat} (h20 : h ≤ 20) (M : Mem) (hM : M 63 1 = nI c) (hh : M 63 4 = nI h) : V m_X9_roasts 0 [(0, .ref 62)] [] M (RT none (mRoG h c 0 M)) := by
  refine V.iconst (v := 0) dX9_roasts_0 rfl rfl ?_
  refine V.ist_n dX9_roasts_1 rfl (by decide) (L' := [(0, .ref 62), (1, .int 0)]) rfl rfl ?_
  exact l_X9_roasts hc h20 c 0 M hM hh (by omega)
