/-! The class's plays: the best number, first part -/
theorem ST_cnt {c cc p m A B : Nat} {M R : Mem} (hV : ST 1 c cc p m A B M R) : M 2 5 = nI c ∧ M 8 3 = nI cc ∧ M 1 7 = nI m ∧ M 1 5 = nI p := by
  obtain ⟨hb, h8, h11, s5, h13, h9, h7, h6, h5, hcr, hd, hc1, hc7, h4, h10, h12, h14, hs, s1, s2, s0, s4, sd, sg, sa, s9, s8, s6, sm⟩ := hV
  exact ⟨hc1, hc7, h7.trans s0, h5.trans s5⟩
theorem ST_w {c cc p m A B : Nat} {M R : Mem} (hV : ST 1 c cc p m A B M R) : M 1 10 = R 63 9 := by
  obtain ⟨hb, h8, h11, s5, h13, h9, h7, h6, h5, hcr, hd, hc1, hc7, h4, h10, h12, h14, hs, s1, s2, s0, s4, sd, sg, sa, s9, s8, s6, sm⟩ := hV
  exact h10
theorem ST_b {e c cc p m A B b : Nat} {M R : Mem} (hV : ST e c cc p m A B M R) (hb : b < c) : M (e+2) b = R 63 (20 + 5 * b) ∧ M (e+3) b = R 63 (20 + 5 * b + 1) ∧ M (e+4) b = R 63 (20 + 5 * b + 2) ∧ M (e+5) b = R 63 (20 + 5 * b + 3) ∧ M (e+6) b = R 63 (20 + 5 * b + 4) := hV.1 b hb
theorem l_X8_price {c : Nat} (hc : c ≤ 10) {cc : Nat} (hcc : cc ≤ 12) {p : Nat} (hp : p ≤ 99) {m : Nat} (hm : m ≤ 999) {A B : Nat} (hA : A ≤ 5000) (hB : B ≤ 10000) (M R : Mem) (hV : ST 1 c cc p m A B M R) {k : Nat} (hk : k ≤ 120) : ∀ (n i : Nat) (b mo : Int32) (M' : Mem), FR M' M → CI i b mo M' → i + n = 100 → V m_X8_price 36 [(0, .ref 0), (1, .int (nI k)), (2, .int (nI i))] [] M' (QA (bestG (prF c cc k m R) nI n i b mo) M) := by
  intro n
  induction n with
  | zero =>
    intro i b mo M' hF hC hi
    have hb0 : M' 53 0 = b := CI_end (by omega) hC
    refine V.iload_n dX8_price_36 rfl rfl rfl ?_
    refine V.bipush (v := 99) dX8_price_37 (by decide) rfl ?_
    refine V.icmp_gt (tgt := 83) dX8_price_39 rfl rfl (fun c39 => ?_) (fun c39 => absurd ((nI_ltI (a := 99) (b := i) (by omega) (by omega)).mpr (by omega)) c39)
    have c39 : 99 < i := (nI_ltI (a := 99) (b := i) (by omega) (by omega)).mp c39
    refine V.aload_n dX8_price_83 rfl rfl rfl ?_
    refine V.getr dX8_price_84 fg_X8_28 rfl rfl rfl ?_
    refine V.geti (v := b) dX8_price_87 fg_X8_261 rfl rfl hb0 rfl ?_
    exact V.ret dX8_price_90 rfl rfl (⟨rfl, hF⟩)
  | succ n ih =>
    intro i b mo M' hF hC hi
    have hV1 : ST 1 c cc p m A B M' (SV R) := ST_FR hF (ST_R SV_63 hV)
    have hV2 := ST_27_1 hc hcc hp hV1
    have hm7 : eBecM 27 1 M' 27 7 = nI m := ST_m hV2
    have hV3 : ST 27 c cc i m A B (ms (eBecM 27 1 M') 27 5 (nI i)) (ms (SV R) 63 5 (nI i)) := ST_price i hV2
    have h7 : (ms (eBecM 27 1 M') 27 5 (nI i)) 27 8 = R 63 7 := (ST_8 hV3).trans (by rw [ms_j (by decide), SV_63])
    obtain ⟨g, hg, eg⟩ := cnF_I0 (n := k) (m := m) hc hcc (show i ≤ 99 by omega) hk (ST_CNB (show i ≤ 99 by omega) hV3) (R := R) (by rw [ms_j (by decide), SV_63])
    refine V.iload_n dX8_price_36 rfl rfl rfl ?_
    refine V.bipush (v := 99) dX8_price_37 (by decide) rfl ?_
    refine V.icmp_gt (tgt := 83) dX8_price_39 rfl rfl (fun c39 => absurd ((nI_ltI (a := 99) (b := i) (by omega) (by omega)).mp c39) (by omega)) (fun c39 => ?_)
    have c39 : ¬ 99 < i := fun zq => c39 ((nI_ltI (a := 99) (b := i) (by omega) (by omega)).mpr zq)
    refine V.aload_n dX8_price_42 rfl rfl rfl ?_
    refine V.getr dX8_price_43 fg_X8_19 rfl rfl rfl ?_
    refine V.aload_n dX8_price_46 rfl rfl rfl ?_
    refine V.getr dX8_price_47 fg_X8_10 rfl rfl rfl ?_
    refine V.callv_v (M1 := eBecM 27 1 M') (md' := m_X2_become) (As := [.ref 1]) (rest := []) dX8_price_50 ml_X8_227 mo_X2_become ⟨Nat.le_of_ble_eq_true rfl, Nat.le_of_ble_eq_true rfl⟩ rfl ⟨_, _, rfl⟩ (Nat.le_of_ble_eq_true rfl) rfl rfl (Nat.le_of_ble_eq_true rfl) (v_X2_become isE27 isE1 (by omega) _) rfl ?_
    refine V.aload_n dX8_price_53 rfl rfl rfl ?_
    refine V.getr dX8_price_54 fg_X8_19 rfl rfl rfl ?_
    refine V.iload_n dX8_price_57 rfl rfl rfl ?_
    refine V.puti dX8_price_58 fp_X8_111 rfl rfl rfl rfl (M' := (ms (eBecM 27 1 M') 27 5 (nI i))) rfl rfl ?_
    refine V.aload_n dX8_price_61 rfl rfl rfl ?_
    refine V.getr dX8_price_62 fg_X8_28 rfl rfl rfl ?_
    refine V.iload_n dX8_price_65 rfl rfl rfl ?_
    refine V.aload_n dX8_price_66 rfl rfl rfl ?_
    refine V.getr dX8_price_67 fg_X8_19 rfl rfl rfl ?_
    refine V.iload_n dX8_price_70 rfl rfl rfl ?_
    refine V.callv_i (M1 := passG 27 c cc i k m (ms (eBecM 27 1 M') 27 5 (nI i))) (v := (prF c cc k m R) i) (md' := m_X2_pass) (As := [.int (nI k)]) (rest := [.int (nI i), .ref 53]) dX8_price_71 ml_X8_205 mo_X2_pass ⟨Nat.le_of_ble_eq_true rfl, Nat.le_of_ble_eq_true rfl⟩ rfl ⟨_, _, rfl⟩ (Nat.le_of_ble_eq_true rfl) rfl rfl (Nat.le_of_ble_eq_true rfl) (v_passT isE27 hc hcc (show i ≤ 99 by omega) (k := k) (by omega) (by omega) (by omega) (by omega) hV3 h7) rfl ?_
    refine V.callv_v (M1 := offerM (passG 27 c cc i k m (ms (eBecM 27 1 M') 27 5 (nI i))) (nI i) ((prF c cc k m R) i)) (md' := m_X0_offer) (As := [.int (nI i), .int ((prF c cc k m R) i)]) (rest := []) dX8_price_74 ml_X8_258 mo_X0_offer ⟨Nat.le_of_ble_eq_true rfl, Nat.le_of_ble_eq_true rfl⟩ rfl ⟨_, _, rfl⟩ (Nat.le_of_ble_eq_true rfl) rfl rfl (Nat.le_of_ble_eq_true rfl) (v_X0_offer _ (nI i) ((prF c cc k m R) i)) rfl ?_
    refine V.inc (v := nI (i + 1)) dX8_price_77 rfl (nI_1 _) (by decide) (L' := [(0, .ref 0), (1, .int (nI k)), (2, .int (nI (i + 1)))]) rfl rfl ?_
    refine V.goto (pc' := 36) dX8_price_80 rfl ?_
    exact ih (i + 1) (if mo < (prF c cc k m R) i then nI i else b) (if mo < (prF c cc k m R) i then (prF c cc k m R) i else mo) _ (FR_offer (FR_pass (by decide) (by decide) (FR_ms (by decide) (by decide) (FR_bec (by decide) (by decide) hF)))) (CI_step (w := (prF c cc k m R) i) eg hg (nnI (by omega)) (CI_53 (by rw [pass_k (by decide), ms_k (by decide), bec_k (by decide)]) hC)) (by omega)
theorem l_X8_shovels {c : Nat} (hc : c ≤ 10) {cc : Nat} (hcc : cc ≤ 12) {p : Nat} (hp : p ≤ 99) {m : Nat} (hm : m ≤ 999) {A B : Nat} (hA : A ≤ 5000) (hB : B ≤ 10000) (M R : Mem) (hV : ST 1 c cc p m A B M R) {k : Nat} (hk : k ≤ 120) : ∀ (n i : Nat) (b mo : Int32) (M' : Mem), FR M' M → CI i b mo M' → i + n = 10 → V m_X8_shovels 36 [(0, .ref 0), (1, .int (nI k)), (2, .int (nI i))] [] M' (QA (bestG (shF c cc k m R) nI n i b mo) M) := by
  intro n
  induction n with
  | zero =>
    intro i b mo M' hF hC hi
    have hb0 : M' 53 0 = b := CI_end (by omega) hC
    refine V.iload_n dX8_shovels_36 rfl rfl rfl ?_
    refine V.bipush (v := 9) dX8_shovels_37 (by decide) rfl ?_
    refine V.icmp_gt (tgt := 83) dX8_shovels_39 rfl rfl (fun c39 => ?_) (fun c39 => absurd ((nI_ltI (a := 9) (b := i) (by omega) (by omega)).mpr (by omega)) c39)
    have c39 : 9 < i := (nI_ltI (a := 9) (b := i) (by omega) (by omega)).mp c39
    refine V.aload_n dX8_shovels_83 rfl rfl rfl ?_
    refine V.getr dX8_shovels_84 fg_X8_28 rfl rfl rfl ?_
    refine V.geti (v := b) dX8_shovels_87 fg_X8_261 rfl rfl hb0 rfl ?_
    exact V.ret dX8_shovels_90 rfl rfl (⟨rfl, hF⟩)
  | succ n ih =>
    intro i b mo M' hF hC hi
    have hV1 : ST 1 c cc p m A B M' (SV R) := ST_FR hF (ST_R SV_63 hV)
    have hV2 := ST_27_1 hc hcc hp hV1
    have hm7 : eBecM 27 1 M' 27 7 = nI m := ST_m hV2
    have hV3 : ST 27 c cc p m A (B + i) (addShM 27 m (nI i) (eBecM 27 1 M')) (ms (SV R) 63 19 (R 63 19 + nI i)) := by
      have z := ST_shov i hV2
      rw [SV_63] at z
      exact z
    have h7 : (addShM 27 m (nI i) (eBecM 27 1 M')) 27 8 = R 63 7 := (ST_8 hV3).trans (by rw [ms_j (by decide), SV_63])
    obtain ⟨g, hg, eg⟩ := cnF_I0 (n := k) (m := m) hc hcc (show p ≤ 99 by omega) hk (ST_CNB (show p ≤ 99 by omega) hV3) (R := R) (by rw [ms_j (by decide), SV_63])
    refine V.iload_n dX8_shovels_36 rfl rfl rfl ?_
    refine V.bipush (v := 9) dX8_shovels_37 (by decide) rfl ?_
    refine V.icmp_gt (tgt := 83) dX8_shovels_39 rfl rfl (fun c39 => absurd ((nI_ltI (a := 9) (b := i) (by omega) (by omega)).mp c39) (by omega)) (fun c39 => ?_)
    have c39 : ¬ 9 < i := fun zq => c39 ((nI_ltI (a := 9) (b := i) (by omega) (by omega)).mpr zq)
    refine V.aload_n dX8_shovels_42 rfl rfl rfl ?_
    refine V.getr dX8_shovels_43 fg_X8_19 rfl rfl rfl ?_
    refine V.aload_n dX8_shovels_46 rfl rfl rfl ?_
    refine V.getr dX8_shovels_47 fg_X8_10 rfl rfl rfl ?_
    refine V.callv_v (M1 := eBecM 27 1 M') (md' := m_X2_become) (As := [.ref 1]) (rest := []) dX8_shovels_50 ml_X8_227 mo_X2_become ⟨Nat.le_of_ble_eq_true rfl, Nat.le_of_ble_eq_true rfl⟩ rfl ⟨_, _, rfl⟩ (Nat.le_of_ble_eq_true rfl) rfl rfl (Nat.le_of_ble_eq_true rfl) (v_X2_become isE27 isE1 (by omega) _) rfl ?_
    refine V.aload_n dX8_shovels_53 rfl rfl rfl ?_
    refine V.getr dX8_shovels_54 fg_X8_19 rfl rfl rfl ?_
    refine V.iload_n dX8_shovels_57 rfl rfl rfl ?_
    refine V.callv_v (M1 := addShM 27 m (nI i) (eBecM 27 1 M')) (md' := m_X2_addShovels) (As := [.int (nI i)]) (rest := []) dX8_shovels_58 ml_X8_144 mo_X2_addShovels ⟨Nat.le_of_ble_eq_true rfl, Nat.le_of_ble_eq_true rfl⟩ rfl ⟨_, _, rfl⟩ (Nat.le_of_ble_eq_true rfl) rfl rfl (Nat.le_of_ble_eq_true rfl) (v_X2_addShovels isE27 (by omega) (nI i) _ hm7) rfl ?_
    refine V.aload_n dX8_shovels_61 rfl rfl rfl ?_
    refine V.getr dX8_shovels_62 fg_X8_28 rfl rfl rfl ?_
    refine V.iload_n dX8_shovels_65 rfl rfl rfl ?_
    refine V.aload_n dX8_shovels_66 rfl rfl rfl ?_
    refine V.getr dX8_shovels_67 fg_X8_19 rfl rfl rfl ?_
    refine V.iload_n dX8_shovels_70 rfl rfl rfl ?_
    refine V.callv_i (M1 := passG 27 c cc p k m (addShM 27 m (nI i) (eBecM 27 1 M'))) (v := (shF c cc k m R) i) (md' := m_X2_pass) (As := [.int (nI k)]) (rest := [.int (nI i), .ref 53]) dX8_shovels_71 ml_X8_205 mo_X2_pass ⟨Nat.le_of_ble_eq_true rfl, Nat.le_of_ble_eq_true rfl⟩ rfl ⟨_, _, rfl⟩ (Nat.le_of_ble_eq_true rfl) rfl rfl (Nat.le_of_ble_eq_true rfl) (v_passT isE27 hc hcc (show p ≤ 99 by omega) (k := k) (by omega) (by omega) (by omega) (by omega) hV3 h7) rfl ?_
    refine V.callv_v (M1 := offerM (passG 27 c cc p k m (addShM 27 m (nI i) (eBecM 27 1 M'))) (nI i) ((shF c cc k m R) i)) (md' := m_X0_offer) (As := [.int (nI i), .int ((shF c cc k m R) i)]) (rest := []) dX8_shovels_74 ml_X8_258 mo_X0_offer ⟨Nat.le_of_ble_eq_true rfl, Nat.le_of_ble_eq_true rfl⟩ rfl ⟨_, _, rfl⟩ (Nat.le_of_ble_eq_true rfl) rfl rfl (Nat.le_of_ble_eq_true rfl) (v_X0_offer _ (nI i) ((shF c cc k m R) i)) rfl ?_
    refine V.inc (v := nI (i + 1)) dX8_shovels_77 rfl (nI_1 _) (by decide) (L' := [(0, .ref 0), (1, .int (nI k)), (2, .int (nI (i + 1)))]) rfl rfl ?_
    refine V.goto (pc' := 36) dX8_shovels_80 rfl ?_
    exact ih (i + 1) (if mo < (shF c cc k m R) i then nI i else b) (if mo < (shF c cc k m R) i then (shF c cc k m R) i else mo) _ (FR_offer (FR_pass (by decide) (by decide) (FR_ms (by decide) (by decide) (FR_bec (by decide) (by decide) hF)))) (CI_step (w := (shF c cc k m R) i) eg hg (nnI (by omega)) (CI_53 (by rw [pass_k (by decide), addShM, ms_k (by decide), bec_k (by decide)]) hC)) (by omega)
theorem l_X8_corner {c : Nat} (hc : c ≤ 10) {cc : Nat} (hcc : cc ≤ 12) {p : Nat} (hp : p ≤ 99) {m : Nat} (hm : m ≤ 999) {A B : Nat} (hA : A ≤ 5000) (hB : B ≤ 10000) (M R : Mem) (hV : ST 1 c cc p m A B M R) {k : Nat} (hk : k ≤ 120) : ∀ (n i : Nat) (b mo : Int32) (M' : Mem), FR M' M → CI i b mo M' → i + n = 4 → V m_X8_corner 46 [(0, .ref 0), (1, .int (nI k)), (2, .int (nI i))] [] M' (QA (bestG (coF c cc k m R) nI n i b mo) M) := by
  intro n
  induction n with
  | zero =>
    intro i b mo M' hF hC hi
    have hb0 : M' 53 0 = b := CI_end (by omega) hC
    refine V.iload_n dX8_corner_46 rfl rfl rfl ?_
    refine V.iconst (v := 3) dX8_corner_47 rfl rfl ?_
    refine V.icmp_gt (tgt := 92) dX8_corner_48 rfl rfl (fun c48 => ?_) (fun c48 => absurd ((nI_ltI (a := 3) (b := i) (by omega) (by omega)).mpr (by omega)) c48)
    have c48 : 3 < i := (nI_ltI (a := 3) (b := i) (by omega) (by omega)).mp c48
    refine V.aload_n dX8_corner_92 rfl rfl rfl ?_
    refine V.getr dX8_corner_93 fg_X8_28 rfl rfl rfl ?_
    refine V.geti (v := b) dX8_corner_96 fg_X8_261 rfl rfl hb0 rfl ?_
    exact V.ret dX8_corner_99 rfl rfl (⟨rfl, hF⟩)
  | succ n ih =>
    intro i b mo M' hF hC hi
    have hV1 : ST 1 c cc p m A B M' (SV R) := ST_FR hF (ST_R SV_63 hV)
    have hV2 := ST_27_1 hc hcc hp hV1
    have hm7 : eBecM 27 1 M' 27 7 = nI m := ST_m hV2
    have hV3 : ST 27 c cc p m A B (setOutM 27 (nI i) (eBecM 27 1 M')) (mWalkM (nI i) (SV R)) := ST_walk (by omega) hV2
    have h7 : (setOutM 27 (nI i) (eBecM 27 1 M')) 27 8 = R 63 7 := (ST_8 hV3).trans (by rw [mWalkM, ms_j (by decide), ms_j (by decide), SV_63])
    obtain ⟨g, hg, eg⟩ := cnF_I0 (n := k) (m := m) hc hcc (show p ≤ 99 by omega) hk (ST_CNB (show p ≤ 99 by omega) hV3) (R := R) (by rw [mWalkM, ms_j (by decide), ms_j (by decide), SV_63])
    refine V.iload_n dX8_corner_46 rfl rfl rfl ?_
    refine V.iconst (v := 3) dX8_corner_47 rfl rfl ?_
    refine V.icmp_gt (tgt := 92) dX8_corner_48 rfl rfl (fun c48 => absurd ((nI_ltI (a := 3) (b := i) (by omega) (by omega)).mp c48) (by omega)) (fun c48 => ?_)
    have c48 : ¬ 3 < i := fun zq => c48 ((nI_ltI (a := 3) (b := i) (by omega) (by omega)).mpr zq)
    refine V.aload_n dX8_corner_51 rfl rfl rfl ?_
    refine V.getr dX8_corner_52 fg_X8_19 rfl rfl rfl ?_
    refine V.aload_n dX8_corner_55 rfl rfl rfl ?_
    refine V.getr dX8_corner_56 fg_X8_10 rfl rfl rfl ?_
    refine V.callv_v (M1 := eBecM 27 1 M') (md' := m_X2_become) (As := [.ref 1]) (rest := []) dX8_corner_59 ml_X8_227 mo_X2_become ⟨Nat.le_of_ble_eq_true rfl, Nat.le_of_ble_eq_true rfl⟩ rfl ⟨_, _, rfl⟩ (Nat.le_of_ble_eq_true rfl) rfl rfl (Nat.le_of_ble_eq_true rfl) (v_X2_become isE27 isE1 (by omega) _) rfl ?_
    refine V.aload_n dX8_corner_62 rfl rfl rfl ?_
    refine V.getr dX8_corner_63 fg_X8_19 rfl rfl rfl ?_
    refine V.iload_n dX8_corner_66 rfl rfl rfl ?_
    refine V.callv_v (M1 := setOutM 27 (nI i) (eBecM 27 1 M')) (md' := m_X2_setOut) (As := [.int (nI i)]) (rest := []) dX8_corner_67 ml_X8_168 mo_X2_setOut ⟨Nat.le_of_ble_eq_true rfl, Nat.le_of_ble_eq_true rfl⟩ rfl ⟨_, _, rfl⟩ (Nat.le_of_ble_eq_true rfl) rfl rfl (Nat.le_of_ble_eq_true rfl) (v_X2_setOut isE27 (nI i) _) rfl ?_
    refine V.aload_n dX8_corner_70 rfl rfl rfl ?_
    refine V.getr dX8_corner_71 fg_X8_28 rfl rfl rfl ?_
    refine V.iload_n dX8_corner_74 rfl rfl rfl ?_
    refine V.aload_n dX8_corner_75 rfl rfl rfl ?_
    refine V.getr dX8_corner_76 fg_X8_19 rfl rfl rfl ?_
    refine V.iload_n dX8_corner_79 rfl rfl rfl ?_
    refine V.callv_i (M1 := passG 27 c cc p k m (setOutM 27 (nI i) (eBecM 27 1 M'))) (v := (coF c cc k m R) i) (md' := m_X2_pass) (As := [.int (nI k)]) (rest := [.int (nI i), .ref 53]) dX8_corner_80 ml_X8_205 mo_X2_pass ⟨Nat.le_of_ble_eq_true rfl, Nat.le_of_ble_eq_true rfl⟩ rfl ⟨_, _, rfl⟩ (Nat.le_of_ble_eq_true rfl) rfl rfl (Nat.le_of_ble_eq_true rfl) (v_passT isE27 hc hcc (show p ≤ 99 by omega) (k := k) (by omega) (by omega) (by omega) (by omega) hV3 h7) rfl ?_
    refine V.callv_v (M1 := offerM (passG 27 c cc p k m (setOutM 27 (nI i) (eBecM 27 1 M'))) (nI i) ((coF c cc k m R) i)) (md' := m_X0_offer) (As := [.int (nI i), .int ((coF c cc k m R) i)]) (rest := []) dX8_corner_83 ml_X8_258 mo_X0_offer ⟨Nat.le_of_ble_eq_true rfl, Nat.le_of_ble_eq_true rfl⟩ rfl ⟨_, _, rfl⟩ (Nat.le_of_ble_eq_true rfl) rfl rfl (Nat.le_of_ble_eq_true rfl) (v_X0_offer _ (nI i) ((coF c cc k m R) i)) rfl ?_
    refine V.inc (v := nI (i + 1)) dX8_corner_86 rfl (nI_1 _) (by decide) (L' := [(0, .ref 0), (1, .int (nI k)), (2, .int (nI (i + 1)))]) rfl rfl ?_
    refine V.goto (pc' := 46) dX8_corner_89 rfl ?_
    exact ih (i + 1) (if mo < (coF c cc k m R) i then nI i else b) (if mo < (coF c cc k m R) i then (coF c cc k m R) i else mo) _ (FR_offer (FR_pass (by decide) (by decide) (FR_out (by decide) (by decide) (FR_bec (by decide) (by decide) hF)))) (CI_step (w := (coF c cc k m R) i) eg hg (nnI (by omega)) (CI_53 (by rw [pass_k (by decide), setOutM, ms_k (by decide), ms_k (by decide), bec_k (by decide)]) hC)) (by omega)
theorem l_X8_kindFor {c : Nat} (hc : c ≤ 10) {cc : Nat} (hcc : cc ≤ 12) {p : Nat} (hp : p ≤ 99) {m : Nat} (hm : m ≤ 999) {A B : Nat} (hA : A ≤ 5000) (hB : B ≤ 10000) (M R : Mem) (hV : ST 1 c cc p m A B M R) {k : Nat} (hk : k ≤ 120) {x : Nat} (hx : x < c) : ∀ (n i : Nat) (b mo : Int32) (M' : Mem), FR M' M → CI i b mo M' → i + n = 7 → V m_X8_kindFor 44 [(0, .ref 0), (1, .int (nI x)), (2, .int (nI k)), (3, .int (nI i))] [] M' (QA (bestG (kdF c cc k m x R) nI n i b mo) M) := by
  intro n
  induction n with
  | zero =>
    intro i b mo M' hF hC hi
    have hb0 : M' 53 0 = b := CI_end (by omega) hC
    refine V.iload_n dX8_kindFor_44 rfl rfl rfl ?_
    refine V.bipush (v := 6) dX8_kindFor_45 (by decide) rfl ?_
    refine V.icmp_gt (tgt := 96) dX8_kindFor_47 rfl rfl (fun c47 => ?_) (fun c47 => absurd ((nI_ltI (a := 6) (b := i) (by omega) (by omega)).mpr (by omega)) c47)
    have c47 : 6 < i := (nI_ltI (a := 6) (b := i) (by omega) (by omega)).mp c47
    refine V.aload_n dX8_kindFor_96 rfl rfl rfl ?_
    refine V.getr dX8_kindFor_97 fg_X8_28 rfl rfl rfl ?_
    refine V.geti (v := b) dX8_kindFor_100 fg_X8_261 rfl rfl hb0 rfl ?_
    exact V.ret dX8_kindFor_103 rfl rfl (⟨rfl, hF⟩)
  | succ n ih =>
    intro i b mo M' hF hC hi
    have hV1 : ST 1 c cc p m A B M' (SV R) := ST_FR hF (ST_R SV_63 hV)
    have hV2 := ST_27_1 hc hcc hp hV1
    have hm7 : eBecM 27 1 M' 27 7 = nI m := ST_m hV2
    have hV3 : ST 27 c cc p m A B (ms (eBecM 27 1 M') 29 x (nI i)) (ms (SV R) 63 (20 + 5 * x) (nI i)) := ST_kind hc hx (nI i) hV2
    have h7 : (ms (eBecM 27 1 M') 29 x (nI i)) 27 8 = R 63 7 := (ST_8 hV3).trans (by rw [ms_j (by omega), SV_63])
    obtain ⟨g, hg, eg⟩ := cnF_I0 (n := k) (m := m) hc hcc (show p ≤ 99 by omega) hk (ST_CNB (show p ≤ 99 by omega) hV3) (R := R) (by rw [ms_j (by omega), SV_63])
    refine V.iload_n dX8_kindFor_44 rfl rfl rfl ?_
    refine V.bipush (v := 6) dX8_kindFor_45 (by decide) rfl ?_
    refine V.icmp_gt (tgt := 96) dX8_kindFor_47 rfl rfl (fun c47 => absurd ((nI_ltI (a := 6) (b := i) (by omega) (by omega)).mp c47) (by omega)) (fun c47 => ?_)
    have c47 : ¬ 6 < i := fun zq => c47 ((nI_ltI (a := 6) (b := i) (by omega) (by omega)).mpr zq)
    refine V.aload_n dX8_kindFor_50 rfl rfl rfl ?_
    refine V.getr dX8_kindFor_51 fg_X8_19 rfl rfl rfl ?_
    refine V.aload_n dX8_kindFor_54 rfl rfl rfl ?_
    refine V.getr dX8_kindFor_55 fg_X8_10 rfl rfl rfl ?_
    refine V.callv_v (M1 := eBecM 27 1 M') (md' := m_X2_become) (As := [.ref 1]) (rest := []) dX8_kindFor_58 ml_X8_227 mo_X2_become ⟨Nat.le_of_ble_eq_true rfl, Nat.le_of_ble_eq_true rfl⟩ rfl ⟨_, _, rfl⟩ (Nat.le_of_ble_eq_true rfl) rfl rfl (Nat.le_of_ble_eq_true rfl) (v_X2_become isE27 isE1 (by omega) _) rfl ?_
    refine V.aload_n dX8_kindFor_61 rfl rfl rfl ?_
    refine V.getr dX8_kindFor_62 fg_X8_19 rfl rfl rfl ?_
    refine V.getr dX8_kindFor_65 fg_X8_71 rfl rfl rfl ?_
    refine V.getr dX8_kindFor_68 fg_X8_88 rfl rfl rfl ?_
    refine V.iload_n dX8_kindFor_71 rfl rfl rfl ?_
    refine V.iload_n dX8_kindFor_72 rfl rfl rfl ?_
    refine V.iastN (j := x) dX8_kindFor_73 rfl (by omega) (by decide) rfl (M' := (ms (eBecM 27 1 M') 29 x (nI i))) rfl rfl ?_
    refine V.aload_n dX8_kindFor_74 rfl rfl rfl ?_
    refine V.getr dX8_kindFor_75 fg_X8_28 rfl rfl rfl ?_
    refine V.iload_n dX8_kindFor_78 rfl rfl rfl ?_
    refine V.aload_n dX8_kindFor_79 rfl rfl rfl ?_
    refine V.getr dX8_kindFor_80 fg_X8_19 rfl rfl rfl ?_
    refine V.iload_n dX8_kindFor_83 rfl rfl rfl ?_
    refine V.callv_i (M1 := passG 27 c cc p k m (ms (eBecM 27 1 M') 29 x (nI i))) (v := (kdF c cc k m x R) i) (md' := m_X2_pass) (As := [.int (nI k)]) (rest := [.int (nI i), .ref 53]) dX8_kindFor_84 ml_X8_205 mo_X2_pass ⟨Nat.le_of_ble_eq_true rfl, Nat.le_of_ble_eq_true rfl⟩ rfl ⟨_, _, rfl⟩ (Nat.le_of_ble_eq_true rfl) rfl rfl (Nat.le_of_ble_eq_true rfl) (v_passT isE27 hc hcc (show p ≤ 99 by omega) (k := k) (by omega) (by omega) (by omega) (by omega) hV3 h7) rfl ?_
    refine V.callv_v (M1 := offerM (passG 27 c cc p k m (ms (eBecM 27 1 M') 29 x (nI i))) (nI i) ((kdF c cc k m x R) i)) (md' := m_X0_offer) (As := [.int (nI i), .int ((kdF c cc k m x R) i)]) (rest := []) dX8_kindFor_87 ml_X8_258 mo_X0_offer ⟨Nat.le_of_ble_eq_true rfl, Nat.le_of_ble_eq_true rfl⟩ rfl ⟨_, _, rfl⟩ (Nat.le_of_ble_eq_true rfl) rfl rfl (Nat.le_of_ble_eq_true rfl) (v_X0_offer _ (nI i) ((kdF c cc k m x R) i)) rfl ?_
    refine V.inc (v := nI (i + 1)) dX8_kindFor_90 rfl (nI_1 _) (by decide) (L' := [(0, .ref 0), (1, .int (nI x)), (2, .int (nI k)), (3, .int (nI (i + 1)))]) rfl rfl ?_
    refine V.goto (pc' := 44) dX8_kindFor_93 rfl ?_
    exact ih (i + 1) (if mo < (kdF c cc k m x R) i then nI i else b) (if mo < (kdF c cc k m x R) i then (kdF c cc k m x R) i else mo) _ (FR_offer (FR_pass (by decide) (by decide) (FR_ms (by decide) (by decide) (FR_bec (by decide) (by decide) hF)))) (CI_step (w := (kdF c cc k m x R) i) eg hg (nnI (by omega)) (CI_53 (by rw [pass_k (by decide), ms_k (by decide), bec_k (by decide)]) hC)) (by omega)
theorem v_X8_price {c : Nat} (hc : c ≤ 10) {cc : Nat} (hcc : cc ≤ 12) {p : Nat} (hp : p ≤ 99) {m : Nat} (hm : m ≤ 999) {A B : Nat} (hA : A ≤ 5000) (hB : B ≤ 10000) (M R : Mem) (hV : ST 1 c cc p m A B M R) (n : Int32) (hF61 : F61 M R) : V m_X8_price 0 [(0, .ref 0), (1, .int n)] [] M (PQ (pPrice c cc m n R) M) := by
  obtain ⟨hM, h2, h0, hP⟩ := ST_cnt hV
  refine V.iload_n dX8_price_0 rfl rfl rfl ?_
  refine V.calls_i (M1 := M) (v := if rng 1 120 n then 1 else 0) (md' := m_X8_isPlan) (As := [.int n]) (rest := []) dX8_price_1 ml_X8_196 mo_X8_isPlan ⟨Nat.le_of_ble_eq_true rfl, Nat.le_of_ble_eq_true rfl⟩ (Nat.le_of_ble_eq_true rfl) rfl rfl (Nat.le_of_ble_eq_true rfl) (v_X8_isPlan n _) rfl ?_
  refine V.ifb_ne (tgt := 13) dX8_price_4 rfl rfl (fun c4 => ?_) (fun c4 => ?_)
  · skip
    obtain ⟨k, hk, rfl⟩ := of_rng1 (b := 120) c4
    · have ek : (nI k).toNatClampNeg = k := nI_clamp (by omega)
      refine V.aload_n dX8_price_13 rfl rfl rfl ?_
      refine V.iload_n dX8_price_14 rfl rfl rfl ?_
      refine V.callv_i (M1 := M) (v := if 999 < m + k then 1 else 0) (md' := m_X8_isTooLate) (As := [.int (nI k)]) (rest := []) dX8_price_15 ml_X8_199 mo_X8_isTooLate ⟨Nat.le_of_ble_eq_true rfl, Nat.le_of_ble_eq_true rfl⟩ rfl ⟨_, _, rfl⟩ (Nat.le_of_ble_eq_true rfl) rfl rfl (Nat.le_of_ble_eq_true rfl) (v_X8_isTooLate (by omega) (by omega) M h0) rfl ?_
      refine V.ifb_eq (tgt := 27) dX8_price_18 rfl rfl (fun c18 => ?_) (fun c18 => ?_)
      · skip
        refine V.aload_n dX8_price_27 rfl rfl rfl ?_
        refine V.getr dX8_price_28 fg_X8_28 rfl rfl rfl ?_
        refine V.callv_v (M1 := ms M 53 0 (-1)) (md' := m_X0_clear) (As := []) (rest := []) dX8_price_31 ml_X8_247 mo_X0_clear ⟨Nat.le_of_ble_eq_true rfl, Nat.le_of_ble_eq_true rfl⟩ rfl ⟨_, _, rfl⟩ (Nat.le_of_ble_eq_true rfl) rfl rfl (Nat.le_of_ble_eq_true rfl) (v_X0_clear _) rfl ?_
        refine V.iconst (v := 0) dX8_price_34 rfl rfl ?_
        refine V.ist_n dX8_price_35 rfl (by decide) (L' := [(0, .ref 0), (1, .int (nI k)), (2, .int 0)]) rfl rfl ?_
        have hp9 : pPrice c cc m (nI k) R = (bestG (prF c cc k m R) nI 100 0 0 (-1), SV R) := (by first | (simp (decide := true) [pPrice, c4, ek, c18]; done) | (simp (decide := true) [pPrice, c4, ek, c18]; done) | (simp (decide := true) [pPrice, c4, ek, c18]; done) | (simp_all (decide := true) [pPrice]; done) | (simp_all (decide := true) [pPrice, ltF, leF, ltFN, leFN]; done))
        exact (l_X8_price hc hcc hp hm hA hB M R hV (k := k) (by omega) 100 0 0 (-1) _ (FR_ms (by decide) (by decide) (FR_rf M)) CI_0 (by omega)).mono (QA_PQ hF61 SV_66 hp9)
      · skip
        refine V.aload_n dX8_price_21 rfl rfl rfl ?_
        refine V.iconst (v := 4) dX8_price_22 rfl rfl ?_
        refine V.callv_i (M1 := cfd 4 M) (v := -1000005) (md' := m_X8_finding) (As := [.int 4]) (rest := []) dX8_price_23 ml_X8_67 mo_X8_finding ⟨Nat.le_of_ble_eq_true rfl, Nat.le_of_ble_eq_true rfl⟩ rfl ⟨_, _, rfl⟩ (Nat.le_of_ble_eq_true rfl) rfl rfl (Nat.le_of_ble_eq_true rfl) (v_X8_finding (w := 4) (by decide) (f := -1000005) (by decide +kernel) _) rfl ?_
        exact V.ret dX8_price_26 rfl rfl (PQ_f (w := 4) hF61 (by first | (simp (decide := true) [pPrice, c4, ek, c18]; done) | (simp (decide := true) [pPrice, c4, ek, c18]; done) | (simp (decide := true) [pPrice, c4, ek, c18]; done) | (simp_all (decide := true) [pPrice]; done) | (simp_all (decide := true) [pPrice, ltF, leF, ltFN, leFN]; done)))
  · skip
    refine V.aload_n dX8_price_7 rfl rfl rfl ?_
    refine V.iconst (v := 0) dX8_price_8 rfl rfl ?_
    refine V.callv_i (M1 := cfd 0 M) (v := -1000001) (md' := m_X8_finding) (As := [.int 0]) (rest := []) dX8_price_9 ml_X8_67 mo_X8_finding ⟨Nat.le_of_ble_eq_true rfl, Nat.le_of_ble_eq_true rfl⟩ rfl ⟨_, _, rfl⟩ (Nat.le_of_ble_eq_true rfl) rfl rfl (Nat.le_of_ble_eq_true rfl) (v_X8_finding (w := 0) (by decide) (f := -1000001) (by decide +kernel) _) rfl ?_
    exact V.ret dX8_price_12 rfl rfl (PQ_f (w := 0) hF61 (by first | (simp (decide := true) [pPrice, c4]; done) | (simp (decide := true) [pPrice, c4]; done) | (simp (decide := true) [pPrice, c4]; done) | (simp_all (decide := true) [pPrice]; done) | (simp_all (decide := true) [pPrice, ltF, leF, ltFN, leFN]; done)))
theorem v_X8_shovels {c : Nat} (hc : c ≤ 10) {cc : Nat} (hcc : cc ≤ 12) {p : Nat} (hp : p ≤ 99) {m : Nat} (hm : m ≤ 999) {A B : Nat} (hA : A ≤ 5000) (hB : B ≤ 10000) (M R : Mem) (hV : ST 1 c cc p m A B M R) (n : Int32) (hF61 : F61 M R) : V m_X8_shovels 0 [(0, .ref 0), (1, .int n)] [] M (PQ (pShovels c cc m n R) M) := by
  obtain ⟨hM, h2, h0, hP⟩ := ST_cnt hV
  refine V.iload_n dX8_shovels_0 rfl rfl rfl ?_
  refine V.calls_i (M1 := M) (v := if rng 1 120 n then 1 else 0) (md' := m_X8_isPlan) (As := [.int n]) (rest := []) dX8_shovels_1 ml_X8_196 mo_X8_isPlan ⟨Nat.le_of_ble_eq_true rfl, Nat.le_of_ble_eq_true rfl⟩ (Nat.le_of_ble_eq_true rfl) rfl rfl (Nat.le_of_ble_eq_true rfl) (v_X8_isPlan n _) rfl ?_
  refine V.ifb_ne (tgt := 13) dX8_shovels_4 rfl rfl (fun c4 => ?_) (fun c4 => ?_)
  · skip
    obtain ⟨k, hk, rfl⟩ := of_rng1 (b := 120) c4
    · have ek : (nI k).toNatClampNeg = k := nI_clamp (by omega)
      refine V.aload_n dX8_shovels_13 rfl rfl rfl ?_
      refine V.iload_n dX8_shovels_14 rfl rfl rfl ?_
      refine V.callv_i (M1 := M) (v := if 999 < m + k then 1 else 0) (md' := m_X8_isTooLate) (As := [.int (nI k)]) (rest := []) dX8_shovels_15 ml_X8_199 mo_X8_isTooLate ⟨Nat.le_of_ble_eq_true rfl, Nat.le_of_ble_eq_true rfl⟩ rfl ⟨_, _, rfl⟩ (Nat.le_of_ble_eq_true rfl) rfl rfl (Nat.le_of_ble_eq_true rfl) (v_X8_isTooLate (by omega) (by omega) M h0) rfl ?_
      refine V.ifb_eq (tgt := 27) dX8_shovels_18 rfl rfl (fun c18 => ?_) (fun c18 => ?_)
      · skip
        refine V.aload_n dX8_shovels_27 rfl rfl rfl ?_
        refine V.getr dX8_shovels_28 fg_X8_28 rfl rfl rfl ?_
        refine V.callv_v (M1 := ms M 53 0 (-1)) (md' := m_X0_clear) (As := []) (rest := []) dX8_shovels_31 ml_X8_247 mo_X0_clear ⟨Nat.le_of_ble_eq_true rfl, Nat.le_of_ble_eq_true rfl⟩ rfl ⟨_, _, rfl⟩ (Nat.le_of_ble_eq_true rfl) rfl rfl (Nat.le_of_ble_eq_true rfl) (v_X0_clear _) rfl ?_
        refine V.iconst (v := 0) dX8_shovels_34 rfl rfl ?_
        refine V.ist_n dX8_shovels_35 rfl (by decide) (L' := [(0, .ref 0), (1, .int (nI k)), (2, .int 0)]) rfl rfl ?_
        have hp9 : pShovels c cc m (nI k) R = (bestG (shF c cc k m R) nI 10 0 0 (-1), SV R) := (by first | (simp (decide := true) [pShovels, c4, ek, c18]; done) | (simp (decide := true) [pShovels, c4, ek, c18]; done) | (simp (decide := true) [pShovels, c4, ek, c18]; done) | (simp_all (decide := true) [pShovels]; done) | (simp_all (decide := true) [pShovels, ltF, leF, ltFN, leFN]; done))
        exact (l_X8_shovels hc hcc hp hm hA hB M R hV (k := k) (by omega) 10 0 0 (-1) _ (FR_ms (by decide) (by decide) (FR_rf M)) CI_0 (by omega)).mono (QA_PQ hF61 SV_66 hp9)
      · skip
        refine V.aload_n dX8_shovels_21 rfl rfl rfl ?_
        refine V.iconst (v := 4) dX8_shovels_22 rfl rfl ?_
        refine V.callv_i (M1 := cfd 4 M) (v := -1000005) (md' := m_X8_finding) (As := [.int 4]) (rest := []) dX8_shovels_23 ml_X8_67 mo_X8_finding ⟨Nat.le_of_ble_eq_true rfl, Nat.le_of_ble_eq_true rfl⟩ rfl ⟨_, _, rfl⟩ (Nat.le_of_ble_eq_true rfl) rfl rfl (Nat.le_of_ble_eq_true rfl) (v_X8_finding (w := 4) (by decide) (f := -1000005) (by decide +kernel) _) rfl ?_
        exact V.ret dX8_shovels_26 rfl rfl (PQ_f (w := 4) hF61 (by first | (simp (decide := true) [pShovels, c4, ek, c18]; done) | (simp (decide := true) [pShovels, c4, ek, c18]; done) | (simp (decide := true) [pShovels, c4, ek, c18]; done) | (simp_all (decide := true) [pShovels]; done) | (simp_all (decide := true) [pShovels, ltF, leF, ltFN, leFN]; done)))
  · skip
    refine V.aload_n dX8_shovels_7 rfl rfl rfl ?_
    refine V.iconst (v := 0) dX8_shovels_8 rfl rfl ?_
    refine V.callv_i (M1 := cfd 0 M) (v := -1000001) (md' := m_X8_finding) (As := [.int 0]) (rest := []) dX8_shovels_9 ml_X8_67 mo_X8_finding ⟨Nat.le_of_ble_eq_true rfl, Nat.le_of_ble_eq_true rfl⟩ rfl ⟨_, _, rfl⟩ (Nat.le_of_ble_eq_true rfl) rfl rfl (Nat.le_of_ble_eq_true rfl) (v_X8_finding (w := 0) (by decide) (f := -1000001) (by decide +kernel) _) rfl ?_
    exact V.ret dX8_shovels_12 rfl rfl (PQ_f (w := 0) hF61 (by first | (simp (decide := true) [pShovels, c4]; done) | (simp (decide := true) [pShovels, c4]; done) | (simp (decide := true) [pShovels, c4]; done) | (simp_all (decide := true) [pShovels]; done) | (simp_all (decide := true) [pShovels, ltF, leF, ltFN, leFN]; done)))
theorem v_X8_corner {c : Nat} (hc : c ≤ 10) {cc : Nat} (hcc : cc ≤ 12) {p : Nat} (hp : p ≤ 99) {m : Nat} (hm : m ≤ 999) {A B : Nat} (hA : A ≤ 5000) (hB : B ≤ 10000) (M R : Mem) (hV : ST 1 c cc p m A B M R) (n : Int32) (hF61 : F61 M R) : V m_X8_corner 0 [(0, .ref 0), (1, .int n)] [] M (PQ (pCorner c cc m n R) M) := by
  obtain ⟨hM, h2, h0, hP⟩ := ST_cnt hV
  have hW := ST_w hV
  refine V.iload_n dX8_corner_0 rfl rfl rfl ?_
  refine V.calls_i (M1 := M) (v := if rng 1 120 n then 1 else 0) (md' := m_X8_isPlan) (As := [.int n]) (rest := []) dX8_corner_1 ml_X8_196 mo_X8_isPlan ⟨Nat.le_of_ble_eq_true rfl, Nat.le_of_ble_eq_true rfl⟩ (Nat.le_of_ble_eq_true rfl) rfl rfl (Nat.le_of_ble_eq_true rfl) (v_X8_isPlan n _) rfl ?_
  refine V.ifb_ne (tgt := 13) dX8_corner_4 rfl rfl (fun c4 => ?_) (fun c4 => ?_)
  · skip
    obtain ⟨k, hk, rfl⟩ := of_rng1 (b := 120) c4
    · have ek : (nI k).toNatClampNeg = k := nI_clamp (by omega)
      refine V.aload_n dX8_corner_13 rfl rfl rfl ?_
      refine V.getr dX8_corner_14 fg_X8_10 rfl rfl rfl ?_
      refine V.geti (v := R 63 9) dX8_corner_17 fg_X8_165 rfl rfl hW rfl ?_
      refine V.if_gt (tgt := 31) dX8_corner_20 rfl rfl (fun c20 => ?_) (fun c20 => ?_)
      · have d20 := Int32.not_le.mpr c20
        refine V.aload_n dX8_corner_31 rfl rfl rfl ?_
        refine V.iconst (v := 4) dX8_corner_32 rfl rfl ?_
        refine V.callv_i (M1 := cfd 4 M) (v := -1000005) (md' := m_X8_finding) (As := [.int 4]) (rest := []) dX8_corner_33 ml_X8_67 mo_X8_finding ⟨Nat.le_of_ble_eq_true rfl, Nat.le_of_ble_eq_true rfl⟩ rfl ⟨_, _, rfl⟩ (Nat.le_of_ble_eq_true rfl) rfl rfl (Nat.le_of_ble_eq_true rfl) (v_X8_finding (w := 4) (by decide) (f := -1000005) (by decide +kernel) _) rfl ?_
        exact V.ret dX8_corner_36 rfl rfl (PQ_f (w := 4) hF61 (by first | (simp (decide := true) [pCorner, c4, ek, c20, d20]; done) | (simp (decide := true) [pCorner, c4, ek, c20, c20]; done) | (simp (decide := true) [pCorner, c4, ek, c20, d20, c20]; done) | (simp_all (decide := true) [pCorner]; done) | (simp_all (decide := true) [pCorner, ltF, leF, ltFN, leFN]; done)))
      · have d20 := Int32.not_lt.mp c20
        refine V.aload_n dX8_corner_23 rfl rfl rfl ?_
        refine V.iload_n dX8_corner_24 rfl rfl rfl ?_
        refine V.callv_i (M1 := M) (v := if 999 < m + k then 1 else 0) (md' := m_X8_isTooLate) (As := [.int (nI k)]) (rest := []) dX8_corner_25 ml_X8_199 mo_X8_isTooLate ⟨Nat.le_of_ble_eq_true rfl, Nat.le_of_ble_eq_true rfl⟩ rfl ⟨_, _, rfl⟩ (Nat.le_of_ble_eq_true rfl) rfl rfl (Nat.le_of_ble_eq_true rfl) (v_X8_isTooLate (by omega) (by omega) M h0) rfl ?_
        refine V.ifb_eq (tgt := 37) dX8_corner_28 rfl rfl (fun c28 => ?_) (fun c28 => ?_)
        · skip
          refine V.aload_n dX8_corner_37 rfl rfl rfl ?_
          refine V.getr dX8_corner_38 fg_X8_28 rfl rfl rfl ?_
          refine V.callv_v (M1 := ms M 53 0 (-1)) (md' := m_X0_clear) (As := []) (rest := []) dX8_corner_41 ml_X8_247 mo_X0_clear ⟨Nat.le_of_ble_eq_true rfl, Nat.le_of_ble_eq_true rfl⟩ rfl ⟨_, _, rfl⟩ (Nat.le_of_ble_eq_true rfl) rfl rfl (Nat.le_of_ble_eq_true rfl) (v_X0_clear _) rfl ?_
          refine V.iconst (v := 0) dX8_corner_44 rfl rfl ?_
          refine V.ist_n dX8_corner_45 rfl (by decide) (L' := [(0, .ref 0), (1, .int (nI k)), (2, .int 0)]) rfl rfl ?_
          have hp9 : pCorner c cc m (nI k) R = (bestG (coF c cc k m R) nI 4 0 0 (-1), SV R) := (by first | (simp (decide := true) [pCorner, c4, ek, c20, d20, c28]; done) | (simp (decide := true) [pCorner, c4, ek, c20, c20, c28]; done) | (simp (decide := true) [pCorner, c4, ek, c20, d20, c28, c20]; done) | (simp_all (decide := true) [pCorner]; done) | (simp_all (decide := true) [pCorner, ltF, leF, ltFN, leFN]; done))
          exact (l_X8_corner hc hcc hp hm hA hB M R hV (k := k) (by omega) 4 0 0 (-1) _ (FR_ms (by decide) (by decide) (FR_rf M)) CI_0 (by omega)).mono (QA_PQ hF61 SV_66 hp9)
        · skip
          refine V.aload_n dX8_corner_31 rfl rfl rfl ?_
          refine V.iconst (v := 4) dX8_corner_32 rfl rfl ?_
          refine V.callv_i (M1 := cfd 4 M) (v := -1000005) (md' := m_X8_finding) (As := [.int 4]) (rest := []) dX8_corner_33 ml_X8_67 mo_X8_finding ⟨Nat.le_of_ble_eq_true rfl, Nat.le_of_ble_eq_true rfl⟩ rfl ⟨_, _, rfl⟩ (Nat.le_of_ble_eq_true rfl) rfl rfl (Nat.le_of_ble_eq_true rfl) (v_X8_finding (w := 4) (by decide) (f := -1000005) (by decide +kernel) _) rfl ?_
          exact V.ret dX8_corner_36 rfl rfl (PQ_f (w := 4) hF61 (by first | (simp (decide := true) [pCorner, c4, ek, c20, d20, c28]; done) | (simp (decide := true) [pCorner, c4, ek, c20, c20, c28]; done) | (simp (decide := true) [pCorner, c4, ek, c20, d20, c28, c20]; done) | (simp_all (decide := true) [pCorner]; done) | (simp_all (decide := true) [pCorner, ltF, leF, ltFN, leFN]; done)))
  · skip
    refine V.aload_n dX8_corner_7 rfl rfl rfl ?_
    refine V.iconst (v := 0) dX8_corner_8 rfl rfl ?_
    refine V.callv_i (M1 := cfd 0 M) (v := -1000001) (md' := m_X8_finding) (As := [.int 0]) (rest := []) dX8_corner_9 ml_X8_67 mo_X8_finding ⟨Nat.le_of_ble_eq_true rfl, Nat.le_of_ble_eq_true rfl⟩ rfl ⟨_, _, rfl⟩ (Nat.le_of_ble_eq_true rfl) rfl rfl (Nat.le_of_ble_eq_true rfl) (v_X8_finding (w := 0) (by decide) (f := -1000001) (by decide +kernel) _) rfl ?_
    exact V.ret dX8_corner_12 rfl rfl (PQ_f (w := 0) hF61 (by first | (simp (decide := true) [pCorner, c4]; done) | (simp (decide := true) [pCorner, c4]; done) | (simp (decide := true) [pCorner, c4]; done) | (simp_all (decide := true) [pCorner]; done) | (simp_all (decide := true) [pCorner, ltF, leF, ltFN, leFN]; done)))
theorem v_X8_kindFor {c : Nat} (hc : c ≤ 10) {cc : Nat} (hcc : cc ≤ 12) {p : Nat} (hp : p ≤ 99) {m : Nat} (hm : m ≤ 999) {A B : Nat} (hA : A ≤ 5000) (hB : B ≤ 10000) (M R : Mem) (hV : ST 1 c cc p m A B M R) (x n : Int32) (hF61 : F61 M R) : V m_X8_kindFor 0 [(0, .ref 0), (1, .int x), (2, .int n)] [] M (PQ (pKindFor c cc m x n R) M) := by
  obtain ⟨hM, h2, h0, hP⟩ := ST_cnt hV
  refine V.aload_n dX8_kindFor_0 rfl rfl rfl ?_
  refine V.iload_n dX8_kindFor_1 rfl rfl rfl ?_
  refine V.callv_i (M1 := M) (v := if isB c x then 1 else 0) (md' := m_X8_isBatch) (As := [.int x]) (rest := []) dX8_kindFor_2 ml_X8_84 mo_X8_isBatch ⟨Nat.le_of_ble_eq_true rfl, Nat.le_of_ble_eq_true rfl⟩ rfl ⟨_, _, rfl⟩ (Nat.le_of_ble_eq_true rfl) rfl rfl (Nat.le_of_ble_eq_true rfl) (v_X8_isBatch hc x M hM) rfl ?_
  refine V.ifb_eq (tgt := 15) dX8_kindFor_5 rfl rfl (fun c5 => ?_) (fun c5 => ?_)
  · skip
    refine V.aload_n dX8_kindFor_15 rfl rfl rfl ?_
    refine V.iconst (v := 0) dX8_kindFor_16 rfl rfl ?_
    refine V.callv_i (M1 := cfd 0 M) (v := -1000001) (md' := m_X8_finding) (As := [.int 0]) (rest := []) dX8_kindFor_17 ml_X8_67 mo_X8_finding ⟨Nat.le_of_ble_eq_true rfl, Nat.le_of_ble_eq_true rfl⟩ rfl ⟨_, _, rfl⟩ (Nat.le_of_ble_eq_true rfl) rfl rfl (Nat.le_of_ble_eq_true rfl) (v_X8_finding (w := 0) (by decide) (f := -1000001) (by decide +kernel) _) rfl ?_
    exact V.ret dX8_kindFor_20 rfl rfl (PQ_f (w := 0) hF61 (by first | (simp (decide := true) [pKindFor, c5]; done) | (simp (decide := true) [pKindFor, c5]; done) | (simp (decide := true) [pKindFor, c5]; done) | (simp_all (decide := true) [pKindFor]; done) | (simp_all (decide := true) [pKindFor, ltF, leF, ltFN, leFN]; done)))
  · skip
    refine V.iload_n dX8_kindFor_8 rfl rfl rfl ?_
    refine V.calls_i (M1 := M) (v := if rng 1 120 n then 1 else 0) (md' := m_X8_isPlan) (As := [.int n]) (rest := []) dX8_kindFor_9 ml_X8_196 mo_X8_isPlan ⟨Nat.le_of_ble_eq_true rfl, Nat.le_of_ble_eq_true rfl⟩ (Nat.le_of_ble_eq_true rfl) rfl rfl (Nat.le_of_ble_eq_true rfl) (v_X8_isPlan n _) rfl ?_
    refine V.ifb_ne (tgt := 21) dX8_kindFor_12 rfl rfl (fun c12 => ?_) (fun c12 => ?_)
    · skip
      obtain ⟨x, hx, rfl⟩ := of_isB c5
      · have ex : (nI x).toNatClampNeg = x := nI_clamp (by omega)
        obtain ⟨k, hk, rfl⟩ := of_rng1 (b := 120) c12
        have ek : (nI k).toNatClampNeg = k := nI_clamp (by omega)
        refine V.aload_n dX8_kindFor_21 rfl rfl rfl ?_
        refine V.iload_n dX8_kindFor_22 rfl rfl rfl ?_
        refine V.callv_i (M1 := M) (v := if 999 < m + k then 1 else 0) (md' := m_X8_isTooLate) (As := [.int (nI k)]) (rest := []) dX8_kindFor_23 ml_X8_199 mo_X8_isTooLate ⟨Nat.le_of_ble_eq_true rfl, Nat.le_of_ble_eq_true rfl⟩ rfl ⟨_, _, rfl⟩ (Nat.le_of_ble_eq_true rfl) rfl rfl (Nat.le_of_ble_eq_true rfl) (v_X8_isTooLate (by omega) (by omega) M h0) rfl ?_
        refine V.ifb_eq (tgt := 35) dX8_kindFor_26 rfl rfl (fun c26 => ?_) (fun c26 => ?_)
        · skip
          refine V.aload_n dX8_kindFor_35 rfl rfl rfl ?_
          refine V.getr dX8_kindFor_36 fg_X8_28 rfl rfl rfl ?_
          refine V.callv_v (M1 := ms M 53 0 (-1)) (md' := m_X0_clear) (As := []) (rest := []) dX8_kindFor_39 ml_X8_247 mo_X0_clear ⟨Nat.le_of_ble_eq_true rfl, Nat.le_of_ble_eq_true rfl⟩ rfl ⟨_, _, rfl⟩ (Nat.le_of_ble_eq_true rfl) rfl rfl (Nat.le_of_ble_eq_true rfl) (v_X0_clear _) rfl ?_
          refine V.iconst (v := 0) dX8_kindFor_42 rfl rfl ?_
          refine V.ist_n dX8_kindFor_43 rfl (by decide) (L' := [(0, .ref 0), (1, .int (nI x)), (2, .int (nI k)), (3, .int 0)]) rfl rfl ?_
          have hp9 : pKindFor c cc m (nI x) (nI k) R = (bestG (kdF c cc k m x R) nI 7 0 0 (-1), SV R) := (by first | (simp (decide := true) [pKindFor, c5, c12, ex, ek, c26]; done) | (simp (decide := true) [pKindFor, c5, c12, ex, ek, c26]; done) | (simp (decide := true) [pKindFor, c5, c12, ex, ek, c26]; done) | (simp_all (decide := true) [pKindFor]; done) | (simp_all (decide := true) [pKindFor, ltF, leF, ltFN, leFN]; done))
          exact (l_X8_kindFor hc hcc hp hm hA hB M R hV (k := k) (by omega) hx 7 0 0 (-1) _ (FR_ms (by decide) (by decide) (FR_rf M)) CI_0 (by omega)).mono (QA_PQ hF61 SV_66 hp9)
        · skip
          refine V.aload_n dX8_kindFor_29 rfl rfl rfl ?_
          refine V.iconst (v := 4) dX8_kindFor_30 rfl rfl ?_
          refine V.callv_i (M1 := cfd 4 M) (v := -1000005) (md' := m_X8_finding) (As := [.int 4]) (rest := []) dX8_kindFor_31 ml_X8_67 mo_X8_finding ⟨Nat.le_of_ble_eq_true rfl, Nat.le_of_ble_eq_true rfl⟩ rfl ⟨_, _, rfl⟩ (Nat.le_of_ble_eq_true rfl) rfl rfl (Nat.le_of_ble_eq_true rfl) (v_X8_finding (w := 4) (by decide) (f := -1000005) (by decide +kernel) _) rfl ?_
          exact V.ret dX8_kindFor_34 rfl rfl (PQ_f (w := 4) hF61 (by first | (simp (decide := true) [pKindFor, c5, c12, ex, ek, c26]; done) | (simp (decide := true) [pKindFor, c5, c12, ex, ek, c26]; done) | (simp (decide := true) [pKindFor, c5, c12, ex, ek, c26]; done) | (simp_all (decide := true) [pKindFor]; done) | (simp_all (decide := true) [pKindFor, ltF, leF, ltFN, leFN]; done)))
    · skip
      refine V.aload_n dX8_kindFor_15 rfl rfl rfl ?_
      refine V.iconst (v := 0) dX8_kindFor_16 rfl rfl ?_
      refine V.callv_i (M1 := cfd 0 M) (v := -1000001) (md' := m_X8_finding) (As := [.int 0]) (rest := []) dX8_kindFor_17 ml_X8_67 mo_X8_finding ⟨Nat.le_of_ble_eq_true rfl, Nat.le_of_ble_eq_true rfl⟩ rfl ⟨_, _, rfl⟩ (Nat.le_of_ble_eq_true rfl) rfl rfl (Nat.le_of_ble_eq_true rfl) (v_X8_finding (w := 0) (by decide) (f := -1000001) (by decide +kernel) _) rfl ?_
      exact V.ret dX8_kindFor_20 rfl rfl (PQ_f (w := 0) hF61 (by first | (simp (decide := true) [pKindFor, c5, c12]; done) | (simp (decide := true) [pKindFor, c5, c12]; done) | (simp (decide := true) [pKindFor, c5, c12]; done) | (simp_all (decide := true) [pKindFor]; done) | (simp_all (decide := true) [pKindFor, ltF, leF, ltFN, leFN]; done)))
