/-! The class's plays: what a crowd brings, what is left -/
def cwM (c cc p m k x : Nat) (M' : Mem) : Mem := passG 27 c cc p k m (ms (eBecM 27 1 M') 37 x 0)
theorem FR_cw {c cc p m k x : Nat} {M' M : Mem} (h : FR M' M) : FR (cwM c cc p m k x M') M := FR_pass (by decide) (by decide) (FR_ms (by decide) (by decide) (FR_bec (by decide) (by decide) h))
theorem cw_53 {c cc p m k x : Nat} {M' : Mem} : cwM c cc p m k x M' 53 = M' 53 := by rw [cwM, pass_k (by decide), ms_k (by decide), bec_k (by decide)]
theorem v_X8_coinWithout {c : Nat} (hc : c ≤ 10) {cc : Nat} (hcc : cc ≤ 12) {p : Nat} (hp : p ≤ 99) {m : Nat} (hm : m ≤ 999) {A B : Nat} (hA : A ≤ 5000) (hB : B ≤ 10000) (M R : Mem) (hV : ST 1 c cc p m A B M R) {k : Nat} (hk : k ≤ 120) {x : Nat} (hx : x < cc) (M' : Mem) (hF : FR M' M) : V m_X8_coinWithout 0 [(0, .ref 0), (1, .int (nI x)), (2, .int (nI k))] [] M' (RT (some (.int (cnF c cc k m (ms (SV R) 63 (70 + 3 * x + 2) 0) R))) (cwM c cc p m k x M')) := by
  have hV1 : ST 1 c cc p m A B M' (SV R) := ST_FR hF (ST_R SV_63 hV)
  have hV2 := ST_27_1 hc hcc hp hV1
  have hV3 : ST 27 c cc p m A B (ms (eBecM 27 1 M') 37 x 0) (ms (SV R) 63 (70 + 3 * x + 2) 0) := ST_many hc hcc hx (Nat.zero_le 400) hV2
  have h7 : (ms (eBecM 27 1 M') 37 x 0) 27 8 = R 63 7 := (ST_8 hV3).trans (by rw [ms_j (by omega), SV_63])
  refine V.aload_n dX8_coinWithout_0 rfl rfl rfl ?_
  refine V.getr dX8_coinWithout_1 fg_X8_19 rfl rfl rfl ?_
  refine V.aload_n dX8_coinWithout_4 rfl rfl rfl ?_
  refine V.getr dX8_coinWithout_5 fg_X8_10 rfl rfl rfl ?_
  refine V.callv_v (M1 := eBecM 27 1 M') (md' := m_X2_become) (As := [.ref 1]) (rest := []) dX8_coinWithout_8 ml_X8_227 mo_X2_become ⟨Nat.le_of_ble_eq_true rfl, Nat.le_of_ble_eq_true rfl⟩ rfl ⟨_, _, rfl⟩ (Nat.le_of_ble_eq_true rfl) rfl rfl (Nat.le_of_ble_eq_true rfl) (v_X2_become isE27 isE1 (by omega) _) rfl ?_
  refine V.aload_n dX8_coinWithout_11 rfl rfl rfl ?_
  refine V.getr dX8_coinWithout_12 fg_X8_19 rfl rfl rfl ?_
  refine V.getr dX8_coinWithout_15 fg_X8_171 rfl rfl rfl ?_
  refine V.getr dX8_coinWithout_18 fg_X8_190 rfl rfl rfl ?_
  refine V.iload_n dX8_coinWithout_21 rfl rfl rfl ?_
  refine V.iconst (v := 0) dX8_coinWithout_22 rfl rfl ?_
  refine V.iastN (j := x) dX8_coinWithout_23 rfl (by omega) (by decide) rfl (M' := (ms (eBecM 27 1 M') 37 x 0)) rfl rfl ?_
  refine V.aload_n dX8_coinWithout_24 rfl rfl rfl ?_
  refine V.getr dX8_coinWithout_25 fg_X8_19 rfl rfl rfl ?_
  refine V.iload_n dX8_coinWithout_28 rfl rfl rfl ?_
  refine V.callv_i (M1 := passG 27 c cc p k m (ms (eBecM 27 1 M') 37 x 0)) (v := cnF c cc k m (ms (SV R) 63 (70 + 3 * x + 2) 0) R) (md' := m_X2_pass) (As := [.int (nI k)]) (rest := []) dX8_coinWithout_29 ml_X8_205 mo_X2_pass ⟨Nat.le_of_ble_eq_true rfl, Nat.le_of_ble_eq_true rfl⟩ rfl ⟨_, _, rfl⟩ (Nat.le_of_ble_eq_true rfl) rfl rfl (Nat.le_of_ble_eq_true rfl) (v_passT isE27 hc hcc hp (k := k) (by omega) (by omega) (by omega) (by omega) hV3 h7) rfl ?_
  exact V.ret dX8_coinWithout_32 rfl rfl ⟨rfl, rfl⟩
theorem v_X8_brings {c : Nat} (hc : c ≤ 10) {cc : Nat} (hcc : cc ≤ 12) {p : Nat} (hp : p ≤ 99) {m : Nat} (hm : m ≤ 999) {A B : Nat} (hA : A ≤ 5000) (hB : B ≤ 10000) (M R : Mem) (hV : ST 1 c cc p m A B M R) (x n : Int32) (hF61 : F61 M R) : V m_X8_brings 0 [(0, .ref 0), (1, .int x), (2, .int n)] [] M (PQ (pBrings c cc m x n R) M) := by
  obtain ⟨hM, h2, h0, hP⟩ := ST_cnt hV
  have hV1 : ST 1 c cc p m A B M (SV R) := ST_R SV_63 hV
  have hV2 := ST_27_1 hc hcc hp hV1
  have h7 : eBecM 27 1 M 27 8 = R 63 7 := (ST_8 hV2).trans (by rw [SV_63])
  refine V.aload_n dX8_brings_0 rfl rfl rfl ?_
  refine V.iload_n dX8_brings_1 rfl rfl rfl ?_
  refine V.callv_i (M1 := M) (v := if isB cc x then 1 else 0) (md' := m_X8_isCrowd) (As := [.int x]) (rest := []) dX8_brings_2 ml_X8_181 mo_X8_isCrowd ⟨Nat.le_of_ble_eq_true rfl, Nat.le_of_ble_eq_true rfl⟩ rfl ⟨_, _, rfl⟩ (Nat.le_of_ble_eq_true rfl) rfl rfl (Nat.le_of_ble_eq_true rfl) (v_X8_isCrowd hcc x M h2) rfl ?_
  refine V.ifb_eq (tgt := 15) dX8_brings_5 rfl rfl (fun c5 => ?_) (fun c5 => ?_)
  · skip
    refine V.aload_n dX8_brings_15 rfl rfl rfl ?_
    refine V.iconst (v := 0) dX8_brings_16 rfl rfl ?_
    refine V.callv_i (M1 := cfd 0 M) (v := -1000001) (md' := m_X8_finding) (As := [.int 0]) (rest := []) dX8_brings_17 ml_X8_67 mo_X8_finding ⟨Nat.le_of_ble_eq_true rfl, Nat.le_of_ble_eq_true rfl⟩ rfl ⟨_, _, rfl⟩ (Nat.le_of_ble_eq_true rfl) rfl rfl (Nat.le_of_ble_eq_true rfl) (v_X8_finding (w := 0) (by decide) (f := -1000001) (by decide +kernel) _) rfl ?_
    exact V.ret dX8_brings_20 rfl rfl (PQ_f (w := 0) hF61 (by first | (simp (decide := true) [pBrings, c5]; done) | (simp (decide := true) [pBrings, c5]; done) | (simp (decide := true) [pBrings, c5]; done) | (simp_all (decide := true) [pBrings]; done) | (simp_all (decide := true) [pBrings, ltF, leF, ltFN, leFN]; done)))
  · skip
    refine V.iload_n dX8_brings_8 rfl rfl rfl ?_
    refine V.calls_i (M1 := M) (v := if rng 1 120 n then 1 else 0) (md' := m_X8_isPlan) (As := [.int n]) (rest := []) dX8_brings_9 ml_X8_196 mo_X8_isPlan ⟨Nat.le_of_ble_eq_true rfl, Nat.le_of_ble_eq_true rfl⟩ (Nat.le_of_ble_eq_true rfl) rfl rfl (Nat.le_of_ble_eq_true rfl) (v_X8_isPlan n _) rfl ?_
    refine V.ifb_ne (tgt := 21) dX8_brings_12 rfl rfl (fun c12 => ?_) (fun c12 => ?_)
    · skip
      obtain ⟨x, hx, rfl⟩ := of_isB c5
      · have ex : (nI x).toNatClampNeg = x := nI_clamp (by omega)
        obtain ⟨k, hk, rfl⟩ := of_rng1 (b := 120) c12
        have ek : (nI k).toNatClampNeg = k := nI_clamp (by omega)
        refine V.aload_n dX8_brings_21 rfl rfl rfl ?_
        refine V.iload_n dX8_brings_22 rfl rfl rfl ?_
        refine V.callv_i (M1 := M) (v := if 999 < m + k then 1 else 0) (md' := m_X8_isTooLate) (As := [.int (nI k)]) (rest := []) dX8_brings_23 ml_X8_199 mo_X8_isTooLate ⟨Nat.le_of_ble_eq_true rfl, Nat.le_of_ble_eq_true rfl⟩ rfl ⟨_, _, rfl⟩ (Nat.le_of_ble_eq_true rfl) rfl rfl (Nat.le_of_ble_eq_true rfl) (v_X8_isTooLate (by omega) (by omega) M h0) rfl ?_
        refine V.ifb_eq (tgt := 35) dX8_brings_26 rfl rfl (fun c26 => ?_) (fun c26 => ?_)
        · skip
          refine V.aload_n dX8_brings_35 rfl rfl rfl ?_
          refine V.getr dX8_brings_36 fg_X8_19 rfl rfl rfl ?_
          refine V.aload_n dX8_brings_39 rfl rfl rfl ?_
          refine V.getr dX8_brings_40 fg_X8_10 rfl rfl rfl ?_
          refine V.callv_v (M1 := eBecM 27 1 M) (md' := m_X2_become) (As := [.ref 1]) (rest := []) dX8_brings_43 ml_X8_227 mo_X2_become ⟨Nat.le_of_ble_eq_true rfl, Nat.le_of_ble_eq_true rfl⟩ rfl ⟨_, _, rfl⟩ (Nat.le_of_ble_eq_true rfl) rfl rfl (Nat.le_of_ble_eq_true rfl) (v_X2_become isE27 isE1 (by omega) _) rfl ?_
          refine V.aload_n dX8_brings_46 rfl rfl rfl ?_
          refine V.getr dX8_brings_47 fg_X8_19 rfl rfl rfl ?_
          refine V.iload_n dX8_brings_50 rfl rfl rfl ?_
          refine V.callv_i (M1 := passG 27 c cc p k m (eBecM 27 1 M)) (v := cnF c cc k m (SV R) R) (md' := m_X2_pass) (As := [.int (nI k)]) (rest := []) dX8_brings_51 ml_X8_205 mo_X2_pass ⟨Nat.le_of_ble_eq_true rfl, Nat.le_of_ble_eq_true rfl⟩ rfl ⟨_, _, rfl⟩ (Nat.le_of_ble_eq_true rfl) rfl rfl (Nat.le_of_ble_eq_true rfl) (v_passT isE27 hc hcc hp (k := k) (by omega) (by omega) (by omega) (by omega) hV2 h7) rfl ?_
          refine V.ist_n dX8_brings_54 rfl (by decide) (L' := [(0, .ref 0), (1, .int (nI x)), (2, .int (nI k)), (3, .int (cnF c cc k m (SV R) R))]) rfl rfl ?_
          refine V.iload_n dX8_brings_55 rfl rfl rfl ?_
          refine V.aload_n dX8_brings_56 rfl rfl rfl ?_
          refine V.iload_n dX8_brings_57 rfl rfl rfl ?_
          refine V.iload_n dX8_brings_58 rfl rfl rfl ?_
          refine V.callv_i (M1 := cwM c cc p m k x (passG 27 c cc p k m (eBecM 27 1 M))) (v := cnF c cc k m (ms (SV R) 63 (70 + 3 * x + 2) 0) R) (md' := m_X8_coinWithout) (As := [.int (nI x), .int (nI k)]) (rest := [.int (cnF c cc k m (SV R) R)]) dX8_brings_59 ml_X8_267 mo_X8_coinWithout ⟨Nat.le_of_ble_eq_true rfl, Nat.le_of_ble_eq_true rfl⟩ rfl ⟨_, _, rfl⟩ (Nat.le_of_ble_eq_true rfl) rfl rfl (Nat.le_of_ble_eq_true rfl) (v_X8_coinWithout hc hcc hp hm hA hB M R hV (k := k) (by omega) (x := x) hx _ (FR_pass (by decide) (by decide) (FR_bec (by decide) (by decide) (FR_rf M)))) rfl ?_
          refine V.isub (v := (cnF c cc k m (SV R) R) - (cnF c cc k m (ms (SV R) 63 (70 + 3 * x + 2) 0) R)) dX8_brings_62 rfl rfl ?_
          exact V.ret dX8_brings_63 rfl rfl (PQ_v (FR_cw (FR_pass (by decide) (by decide) (FR_bec (by decide) (by decide) (FR_rf M)))) hF61 SV_66 (by first | (simp (decide := true) [pBrings, brF, c5, c12, ex, ek, c26]; done) | (simp (decide := true) [pBrings, brF, c5, c12, ex, ek, c26]; done) | (simp (decide := true) [pBrings, brF, c5, c12, ex, ek, c26]; done) | (simp_all (decide := true) [pBrings, brF]; done) | (simp_all (decide := true) [pBrings, brF, ltF, leF, ltFN, leFN]; done)))
        · skip
          refine V.aload_n dX8_brings_29 rfl rfl rfl ?_
          refine V.iconst (v := 4) dX8_brings_30 rfl rfl ?_
          refine V.callv_i (M1 := cfd 4 M) (v := -1000005) (md' := m_X8_finding) (As := [.int 4]) (rest := []) dX8_brings_31 ml_X8_67 mo_X8_finding ⟨Nat.le_of_ble_eq_true rfl, Nat.le_of_ble_eq_true rfl⟩ rfl ⟨_, _, rfl⟩ (Nat.le_of_ble_eq_true rfl) rfl rfl (Nat.le_of_ble_eq_true rfl) (v_X8_finding (w := 4) (by decide) (f := -1000005) (by decide +kernel) _) rfl ?_
          exact V.ret dX8_brings_34 rfl rfl (PQ_f (w := 4) hF61 (by first | (simp (decide := true) [pBrings, c5, c12, ex, ek, c26]; done) | (simp (decide := true) [pBrings, c5, c12, ex, ek, c26]; done) | (simp (decide := true) [pBrings, c5, c12, ex, ek, c26]; done) | (simp_all (decide := true) [pBrings]; done) | (simp_all (decide := true) [pBrings, ltF, leF, ltFN, leFN]; done)))
    · skip
      refine V.aload_n dX8_brings_15 rfl rfl rfl ?_
      refine V.iconst (v := 0) dX8_brings_16 rfl rfl ?_
      refine V.callv_i (M1 := cfd 0 M) (v := -1000001) (md' := m_X8_finding) (As := [.int 0]) (rest := []) dX8_brings_17 ml_X8_67 mo_X8_finding ⟨Nat.le_of_ble_eq_true rfl, Nat.le_of_ble_eq_true rfl⟩ rfl ⟨_, _, rfl⟩ (Nat.le_of_ble_eq_true rfl) rfl rfl (Nat.le_of_ble_eq_true rfl) (v_X8_finding (w := 0) (by decide) (f := -1000001) (by decide +kernel) _) rfl ?_
      exact V.ret dX8_brings_20 rfl rfl (PQ_f (w := 0) hF61 (by first | (simp (decide := true) [pBrings, c5, c12]; done) | (simp (decide := true) [pBrings, c5, c12]; done) | (simp (decide := true) [pBrings, c5, c12]; done) | (simp_all (decide := true) [pBrings]; done) | (simp_all (decide := true) [pBrings, ltF, leF, ltFN, leFN]; done)))
theorem offer_1 {M : Mem} {k w : Int32} (h : M 53 0 < 0 ∨ M 53 1 < w) : offerM M k w = ms (ms M 53 0 k) 53 1 w := if_pos h
theorem offer_0 {M : Mem} {k w : Int32} (h : ¬ (M 53 0 < 0 ∨ M 53 1 < w)) : offerM M k w = M := if_neg h
def BO (w f : Nat → Int32) (o : Option Nat) (mo : Int32) (i : Nat) (M : Mem) : Prop := M 53 0 = bI o ∧ ∀ j, o = some j → j < i ∧ M 53 1 = -(w j) ∧ mo = f j
theorem BO_lt {G a b : Nat} (hG : G ≤ 120000000) (ha : a ≤ 120000000) (hb : b ≤ 120000000) : (nI G - nI a < nI G - nI b) ↔ (-(nI a) < -(nI b)) := by
  rw [Int32.lt_iff_toInt_lt, Int32.lt_iff_toInt_lt, pk_sub_toInt (by omega) (by omega), pk_sub_toInt (by omega) (by omega), sb_negT (by omega), sb_negT (by omega)]
  omega
theorem BO_step {w f : Nat → Int32} {W : Int32} {N Gw : Nat} (hW : W = nI Gw) (hG : Gw ≤ 120000000) (hN : N ≤ 1000) (hf : ∀ j, f j = W - w j) (hw : ∀ j, j < N → ∃ g, g ≤ 120000000 ∧ w j = nI g) {n i : Nat} {o : Option Nat} {mo : Int32} {M : Mem} (hi : i < N) (h : BO w f o mo i M) : ∃ o' mo', beG f (n + 1) i o mo = beG f n (i + 1) o' mo' ∧ BO w f o' mo' (i + 1) (offerM M (nI i) (-(w i))) := by
  obtain ⟨h0, h1⟩ := h
  have new : BO w f (some i) (f i) (i + 1) (ms (ms M 53 0 (nI i)) 53 1 (-(w i))) := ⟨by rw [ms_j (by decide), ms_s]; rfl, fun j q => by cases q; exact ⟨by omega, ms_s, rfl⟩⟩
  rcases o with _ | j
  · refine ⟨some i, f i, rfl, ?_⟩
    rw [offer_1 (.inl (by rw [h0]; decide))]
    exact new
  · obtain ⟨hj, h2, h3⟩ := h1 j rfl
    obtain ⟨a, ha, ea⟩ := hw j (by omega)
    obtain ⟨b, hb, eb⟩ := hw i hi
    have hlt : (mo < f i) ↔ (M 53 1 < -(w i)) := by rw [h3, h2, hf, hf, hW, ea, eb]; exact BO_lt hG ha hb
    have hnn : ¬ M 53 0 < 0 := by rw [h0]; exact nnI (k := j) (by omega)
    by_cases q : mo < f i
    · refine ⟨some i, f i, by simp only [beG]; rw [if_pos q], ?_⟩
      rw [offer_1 (.inr (hlt.mp q))]
      exact new
    · refine ⟨some j, mo, by simp only [beG]; rw [if_neg q], ?_⟩
      rw [offer_0 (fun z => z.elim hnn (fun y => q (hlt.mpr y)))]
      exact ⟨h0, fun k z => by cases z; exact ⟨by omega, h2, h3⟩⟩
theorem BO_53 {w f : Nat → Int32} {o : Option Nat} {mo : Int32} {i : Nat} {M M' : Mem} (h : M' 53 = M 53) (hB : BO w f o mo i M) : BO w f o mo i M' := by
  unfold BO
  rw [h]
  exact hB
def woF (c cc k m : Nat) (R : Mem) : Nat → Int32 := fun x => cnF c cc k m (ms (SV R) 63 (70 + 3 * x + 2) 0) R
theorem l_X8_best {c : Nat} (hc : c ≤ 10) {cc : Nat} (hcc : cc ≤ 12) {p : Nat} (hp : p ≤ 99) {m : Nat} (hm : m ≤ 999) {A B : Nat} (hA : A ≤ 5000) (hB : B ≤ 10000) (M R : Mem) (hV : ST 1 c cc p m A B M R) {k : Nat} (hk : k ≤ 120) : ∀ (n i : Nat) (o : Option Nat) (mo : Int32) (M' : Mem), FR M' M → BO (woF c cc k m R) (brF c cc k m R) o mo i M' → i + n = cc → V m_X8_best 55 [(0, .ref 0), (1, .int (nI k)), (2, .int (nI i))] [] M' (QA (bI (beG (brF c cc k m R) n i o mo)) M) := by
  intro n
  induction n with
  | zero =>
    intro i o mo M' hF hO hi
    have hcn : M' 8 3 = nI cc := by rw [hF 8 (by decide)]; exact (ST_cnt hV).2.1
    refine V.iload_n dX8_best_55 rfl rfl rfl ?_
    refine V.aload_n dX8_best_56 rfl rfl rfl ?_
    refine V.getr dX8_best_57 fg_X8_10 rfl rfl rfl ?_
    refine V.getr dX8_best_60 fg_X8_171 rfl rfl rfl ?_
    refine V.geti (v := nI cc) dX8_best_63 fg_X8_270 rfl rfl hcn rfl ?_
    refine V.icmp_ge (tgt := 90) dX8_best_66 rfl rfl (fun c66 => ?_) (fun c66 => absurd ((nI_leI (a := cc) (b := i) (by omega) (by omega)).mpr (by omega)) c66)
    have c66 : cc ≤ i := (nI_leI (a := cc) (b := i) (by omega) (by omega)).mp c66
    refine V.aload_n dX8_best_90 rfl rfl rfl ?_
    refine V.getr dX8_best_91 fg_X8_28 rfl rfl rfl ?_
    refine V.geti (v := bI o) dX8_best_94 fg_X8_261 rfl rfl hO.1 rfl ?_
    exact V.ret dX8_best_97 rfl rfl (⟨rfl, hF⟩)
  | succ n ih =>
    intro i o mo M' hF hO hi
    have hcn : M' 8 3 = nI cc := by rw [hF 8 (by decide)]; exact (ST_cnt hV).2.1
    have hV1 : ST 1 c cc p m A B M' (SV R) := ST_FR hF (ST_R SV_63 hV)
    obtain ⟨Gw, hG, eG⟩ := cnF_I0 (n := k) (m := m) hc hcc hp hk (ST_CNB hp hV1) (R := R) (by rw [SV_63])
    have hwb : ∀ j, j < cc → ∃ g, g ≤ 120000000 ∧ woF c cc k m R j = nI g := fun j hj => cnF_I0 (n := k) (m := m) hc hcc hp hk (ST_CNB hp (ST_many hc hcc hj (Nat.zero_le 400) hV1)) (R := R) (by rw [ms_j (by omega), SV_63])
    refine V.iload_n dX8_best_55 rfl rfl rfl ?_
    refine V.aload_n dX8_best_56 rfl rfl rfl ?_
    refine V.getr dX8_best_57 fg_X8_10 rfl rfl rfl ?_
    refine V.getr dX8_best_60 fg_X8_171 rfl rfl rfl ?_
    refine V.geti (v := nI cc) dX8_best_63 fg_X8_270 rfl rfl hcn rfl ?_
    refine V.icmp_ge (tgt := 90) dX8_best_66 rfl rfl (fun c66 => absurd ((nI_leI (a := cc) (b := i) (by omega) (by omega)).mp c66) (by omega)) (fun c66 => ?_)
    have c66 : ¬ cc ≤ i := fun zq => c66 ((nI_leI (a := cc) (b := i) (by omega) (by omega)).mpr zq)
    refine V.aload_n dX8_best_69 rfl rfl rfl ?_
    refine V.getr dX8_best_70 fg_X8_28 rfl rfl rfl ?_
    refine V.iload_n dX8_best_73 rfl rfl rfl ?_
    refine V.aload_n dX8_best_74 rfl rfl rfl ?_
    refine V.iload_n dX8_best_75 rfl rfl rfl ?_
    refine V.iload_n dX8_best_76 rfl rfl rfl ?_
    refine V.callv_i (M1 := cwM c cc p m k i M') (v := woF c cc k m R i) (md' := m_X8_coinWithout) (As := [.int (nI i), .int (nI k)]) (rest := [.int (nI i), .ref 53]) dX8_best_77 ml_X8_267 mo_X8_coinWithout ⟨Nat.le_of_ble_eq_true rfl, Nat.le_of_ble_eq_true rfl⟩ rfl ⟨_, _, rfl⟩ (Nat.le_of_ble_eq_true rfl) rfl rfl (Nat.le_of_ble_eq_true rfl) (v_X8_coinWithout hc hcc hp hm hA hB M R hV hk (x := i) (by omega) M' hF) rfl ?_
    refine V.ineg (v := -(woF c cc k m R i)) dX8_best_80 rfl rfl ?_
    refine V.callv_v (M1 := offerM (cwM c cc p m k i M') (nI i) (-(woF c cc k m R i))) (md' := m_X0_offer) (As := [.int (nI i), .int (-(woF c cc k m R i))]) (rest := []) dX8_best_81 ml_X8_258 mo_X0_offer ⟨Nat.le_of_ble_eq_true rfl, Nat.le_of_ble_eq_true rfl⟩ rfl ⟨_, _, rfl⟩ (Nat.le_of_ble_eq_true rfl) rfl rfl (Nat.le_of_ble_eq_true rfl) (v_X0_offer _ (nI i) (-(woF c cc k m R i))) rfl ?_
    refine V.inc (v := nI (i + 1)) dX8_best_84 rfl (nI_1 _) (by decide) (L' := [(0, .ref 0), (1, .int (nI k)), (2, .int (nI (i + 1)))]) rfl rfl ?_
    refine V.goto (pc' := 55) dX8_best_87 rfl ?_
    obtain ⟨o', mo', e1, hO'⟩ := BO_step (f := brF c cc k m R) (w := woF c cc k m R) (n := n) eG hG (by omega) (fun _ => rfl) hwb (show i < cc by omega) (BO_53 (M' := cwM c cc p m k i M') cw_53 hO)
    rw [e1]
    exact ih (i + 1) o' mo' _ (FR_offer (FR_cw hF)) hO' (by omega)
theorem be_nz {f : Nat → Int32} {n : Nat} (hn : ¬ n = 0) : ∃ j, beG f n 0 none 0 = some j := by
  rcases n with _ | n
  · exact absurd rfl hn
  · exact be_some n 1 0 _
theorem v_X8_best {c : Nat} (hc : c ≤ 10) {cc : Nat} (hcc : cc ≤ 12) {p : Nat} (hp : p ≤ 99) {m : Nat} (hm : m ≤ 999) {A B : Nat} (hA : A ≤ 5000) (hB : B ≤ 10000) (M R : Mem) (hV : ST 1 c cc p m A B M R) (n : Int32) (hF61 : F61 M R) : V m_X8_best 0 [(0, .ref 0), (1, .int n)] [] M (PQ (pBest c cc m n R) M) := by
  obtain ⟨hM, h2, h0, hP⟩ := ST_cnt hV
  refine V.iload_n dX8_best_0 rfl rfl rfl ?_
  refine V.calls_i (M1 := M) (v := if rng 1 120 n then 1 else 0) (md' := m_X8_isPlan) (As := [.int n]) (rest := []) dX8_best_1 ml_X8_196 mo_X8_isPlan ⟨Nat.le_of_ble_eq_true rfl, Nat.le_of_ble_eq_true rfl⟩ (Nat.le_of_ble_eq_true rfl) rfl rfl (Nat.le_of_ble_eq_true rfl) (v_X8_isPlan n _) rfl ?_
  refine V.ifb_ne (tgt := 13) dX8_best_4 rfl rfl (fun c4 => ?_) (fun c4 => ?_)
  · skip
    obtain ⟨k, hk, rfl⟩ := of_rng1 (b := 120) c4
    · have ek : (nI k).toNatClampNeg = k := nI_clamp (by omega)
      refine V.aload_n dX8_best_13 rfl rfl rfl ?_
      refine V.iload_n dX8_best_14 rfl rfl rfl ?_
      refine V.callv_i (M1 := M) (v := if 999 < m + k then 1 else 0) (md' := m_X8_isTooLate) (As := [.int (nI k)]) (rest := []) dX8_best_15 ml_X8_199 mo_X8_isTooLate ⟨Nat.le_of_ble_eq_true rfl, Nat.le_of_ble_eq_true rfl⟩ rfl ⟨_, _, rfl⟩ (Nat.le_of_ble_eq_true rfl) rfl rfl (Nat.le_of_ble_eq_true rfl) (v_X8_isTooLate (by omega) (by omega) M h0) rfl ?_
      refine V.ifb_eq (tgt := 27) dX8_best_18 rfl rfl (fun c18 => ?_) (fun c18 => ?_)
      · skip
        refine V.aload_n dX8_best_27 rfl rfl rfl ?_
        refine V.getr dX8_best_28 fg_X8_10 rfl rfl rfl ?_
        refine V.getr dX8_best_31 fg_X8_171 rfl rfl rfl ?_
        refine V.geti (v := nI cc) dX8_best_34 fg_X8_270 rfl rfl h2 rfl ?_
        refine V.if_ne (tgt := 46) dX8_best_37 rfl rfl (fun c37 => ?_) (fun c37 => ?_)
        · have d37 := c37
          have c37 : ¬ cc = 0 := fun zq => c37 ((nI_eq (a := cc) (b := 0) (by omega) (by omega)).mpr zq)
          refine V.aload_n dX8_best_46 rfl rfl rfl ?_
          refine V.getr dX8_best_47 fg_X8_28 rfl rfl rfl ?_
          refine V.callv_v (M1 := ms M 53 0 (-1)) (md' := m_X0_clear) (As := []) (rest := []) dX8_best_50 ml_X8_247 mo_X0_clear ⟨Nat.le_of_ble_eq_true rfl, Nat.le_of_ble_eq_true rfl⟩ rfl ⟨_, _, rfl⟩ (Nat.le_of_ble_eq_true rfl) rfl rfl (Nat.le_of_ble_eq_true rfl) (v_X0_clear _) rfl ?_
          refine V.iconst (v := 0) dX8_best_53 rfl rfl ?_
          refine V.ist_n dX8_best_54 rfl (by decide) (L' := [(0, .ref 0), (1, .int (nI k)), (2, .int 0)]) rfl rfl ?_
          obtain ⟨j, ej⟩ := be_nz (f := brF c cc k m R) (n := cc) (by omega)
          have hz9 : pBest c cc m (nI k) R = beP (beG (brF c cc k m R) cc 0 none 0) (if cc = 0 then R else SV R) := (by first | (simp (decide := true) [pBest, c4, ek, c18, d37]; done) | (simp (decide := true) [pBest, c4, ek, c18, c37]; done) | (simp (decide := true) [pBest, c4, ek, c18, d37, c37]; done) | (simp_all (decide := true) [pBest]; done) | (simp_all (decide := true) [pBest, ltF, leF, ltFN, leFN]; done))
          have hp9 : pBest c cc m (nI k) R = (nI j, SV R) := by rw [hz9, ej, if_neg (show ¬ cc = 0 by omega)]; rfl
          have hl := l_X8_best hc hcc hp hm hA hB M R hV (k := k) (by omega) cc 0 none 0 (ms M 53 0 (-1)) (FR_ms (by decide) (by decide) (FR_rf M)) ⟨by rw [ms_s]; rfl, fun j q => by cases q⟩ (by omega)
          rw [ej] at hl
          exact hl.mono (QA_PQ hF61 SV_66 hp9)
        · have d37 := c37
          have c37 : cc = 0 := (nI_eq (a := cc) (b := 0) (by omega) (by omega)).mp c37
          refine V.aload_n dX8_best_40 rfl rfl rfl ?_
          refine V.iconst (v := 3) dX8_best_41 rfl rfl ?_
          refine V.callv_i (M1 := cfd 3 M) (v := -1000004) (md' := m_X8_finding) (As := [.int 3]) (rest := []) dX8_best_42 ml_X8_67 mo_X8_finding ⟨Nat.le_of_ble_eq_true rfl, Nat.le_of_ble_eq_true rfl⟩ rfl ⟨_, _, rfl⟩ (Nat.le_of_ble_eq_true rfl) rfl rfl (Nat.le_of_ble_eq_true rfl) (v_X8_finding (w := 3) (by decide) (f := -1000004) (by decide +kernel) _) rfl ?_
          exact V.ret dX8_best_45 rfl rfl (PQ_f (w := 3) hF61 (by have z : cc = 0 := (by omega); subst z; exact (by first | (simp (decide := true) [pBest, beG, beP, c4, ek, c18, d37]; done) | (simp (decide := true) [pBest, beG, beP, c4, ek, c18, c37]; done) | (simp (decide := true) [pBest, beG, beP, c4, ek, c18, d37, c37]; done) | (simp_all (decide := true) [pBest, beG, beP]; done) | (simp_all (decide := true) [pBest, beG, beP, ltF, leF, ltFN, leFN]; done))))
      · skip
        refine V.aload_n dX8_best_21 rfl rfl rfl ?_
        refine V.iconst (v := 4) dX8_best_22 rfl rfl ?_
        refine V.callv_i (M1 := cfd 4 M) (v := -1000005) (md' := m_X8_finding) (As := [.int 4]) (rest := []) dX8_best_23 ml_X8_67 mo_X8_finding ⟨Nat.le_of_ble_eq_true rfl, Nat.le_of_ble_eq_true rfl⟩ rfl ⟨_, _, rfl⟩ (Nat.le_of_ble_eq_true rfl) rfl rfl (Nat.le_of_ble_eq_true rfl) (v_X8_finding (w := 4) (by decide) (f := -1000005) (by decide +kernel) _) rfl ?_
        exact V.ret dX8_best_26 rfl rfl (PQ_f (w := 4) hF61 (by first | (simp (decide := true) [pBest, c4, ek, c18]; done) | (simp (decide := true) [pBest, c4, ek, c18]; done) | (simp (decide := true) [pBest, c4, ek, c18]; done) | (simp_all (decide := true) [pBest]; done) | (simp_all (decide := true) [pBest, ltF, leF, ltFN, leFN]; done)))
  · skip
    refine V.aload_n dX8_best_7 rfl rfl rfl ?_
    refine V.iconst (v := 0) dX8_best_8 rfl rfl ?_
    refine V.callv_i (M1 := cfd 0 M) (v := -1000001) (md' := m_X8_finding) (As := [.int 0]) (rest := []) dX8_best_9 ml_X8_67 mo_X8_finding ⟨Nat.le_of_ble_eq_true rfl, Nat.le_of_ble_eq_true rfl⟩ rfl ⟨_, _, rfl⟩ (Nat.le_of_ble_eq_true rfl) rfl rfl (Nat.le_of_ble_eq_true rfl) (v_X8_finding (w := 0) (by decide) (f := -1000001) (by decide +kernel) _) rfl ?_
    exact V.ret dX8_best_12 rfl rfl (PQ_f (w := 0) hF61 (by first | (simp (decide := true) [pBest, c4]; done) | (simp (decide := true) [pBest, c4]; done) | (simp (decide := true) [pBest, c4]; done) | (simp_all (decide := true) [pBest]; done) | (simp_all (decide := true) [pBest, ltF, leF, ltFN, leFN]; done)))
def LO (bg : Nat → Int32) (o : Option Nat) (i : Nat) (M : Mem) : Prop := M 53 0 = bI o ∧ ∀ j, o = some j → j < i ∧ M 53 1 = bg j
theorem LO_step {bg pl : Nat → Int32} {n i : Nat} {o : Option Nat} {M : Mem} (hi : i < 1000) (hp : ¬ pl i = 4) (h : LO bg o i M) : ∃ o', lfG bg pl (n + 1) i o = lfG bg pl n (i + 1) o' ∧ LO bg o' (i + 1) (offerM M (nI i) (bg i)) := by
  obtain ⟨h0, h1⟩ := h
  have new : LO bg (some i) (i + 1) (ms (ms M 53 0 (nI i)) 53 1 (bg i)) := ⟨by rw [ms_j (by decide), ms_s]; rfl, fun j q => by cases q; exact ⟨by omega, ms_s⟩⟩
  rcases o with _ | j
  · refine ⟨some i, by simp only [lfG]; rw [if_neg hp], ?_⟩
    rw [offer_1 (.inl (by rw [h0]; decide))]
    exact new
  · obtain ⟨hj, h2⟩ := h1 j rfl
    have hnn : ¬ M 53 0 < 0 := by rw [h0]; exact nnI (k := j) (by omega)
    by_cases q : bg j < bg i
    · refine ⟨some i, by simp only [lfG]; rw [if_neg hp, if_pos q], ?_⟩
      rw [offer_1 (.inr (by rw [h2]; exact q))]
      exact new
    · refine ⟨some j, by simp only [lfG]; rw [if_neg hp, if_neg q], ?_⟩
      rw [offer_0 (fun z => z.elim hnn (fun y => q (by rw [h2] at y; exact y)))]
      exact ⟨h0, fun k z => by cases z; exact ⟨by omega, h2⟩⟩
theorem LO_skip {bg : Nat → Int32} {o : Option Nat} {i : Nat} {M : Mem} (h : LO bg o i M) : LO bg o (i + 1) M := ⟨h.1, fun j q => ⟨by have := (h.2 j q).1; omega, (h.2 j q).2⟩⟩
theorem ST_c27 {c cc p m A B : Nat} {M R : Mem} (hV : ST 27 c cc p m A B M R) : M 28 5 = nI c := by
  obtain ⟨hb, h8, h11, s5, h13, h9, h7, h6, h5, hcr, hd, hc1, hc7, h4, h10, h12, h14, hs, s1, s2, s0, s4, sd, sg, sa, s9, s8, s6, sm⟩ := hV
  exact hc1
theorem l_X8_left {c : Nat} (hc : c ≤ 10) {cc p m' A B k : Nat} (M R Mx Gx : Mem) (hFx : FR Mx M) (hF61 : F61 M R) (hX : ST 27 c cc p m' A B Mx Gx) : ∀ (n i : Nat) (o : Option Nat) (M' : Mem), (∀ a, a ≠ 53 → M' a = Mx a) → LO (col Gx 1) o i M' → i + n = c → V m_X8_left 56 [(0, .ref 0), (1, .int (nI k)), (2, .int (nI i))] [] M' (PQ (beP (lfG (col Gx 1) (col Gx 4) n i o) (SV R)) M) := by
  intro n
  induction n with
  | zero =>
    intro i o M' hE hO hi
    have hF : FR M' M := fun k z => (hE k (by omega)).trans (hFx k z)
    have hcn : M' 28 5 = nI c := by rw [hE 28 (by decide)]; exact ST_c27 hX
    rcases o with _ | j
    · refine V.iload_n dX8_left_56 rfl rfl rfl ?_
      refine V.aload_n dX8_left_57 rfl rfl rfl ?_
      refine V.getr dX8_left_58 fg_X8_19 rfl rfl rfl ?_
      refine V.getr dX8_left_61 fg_X8_71 rfl rfl rfl ?_
      refine V.geti (v := nI c) dX8_left_64 fg_X8_224 rfl rfl hcn rfl ?_
      refine V.icmp_ge (tgt := 110) dX8_left_67 rfl rfl (fun c67 => ?_) (fun c67 => absurd ((nI_leI (a := c) (b := i) (by omega) (by omega)).mpr (by omega)) c67)
      have c67 : c ≤ i := (nI_leI (a := c) (b := i) (by omega) (by omega)).mp c67
      refine V.aload_n dX8_left_110 rfl rfl rfl ?_
      refine V.getr dX8_left_111 fg_X8_28 rfl rfl rfl ?_
      refine V.geti (v := -1) dX8_left_114 fg_X8_261 rfl rfl hO.1 rfl ?_
      refine V.if_ge (tgt := 128) dX8_left_117 rfl rfl (fun c117 => absurd c117 (by decide)) (fun _ => ?_)
      refine V.aload_n dX8_left_120 rfl rfl rfl ?_
      refine V.iconst (v := 3) dX8_left_121 rfl rfl ?_
      refine V.callv_i (M1 := cfd 3 M') (v := -1000004) (md' := m_X8_finding) (As := [.int 3]) (rest := []) dX8_left_122 ml_X8_67 mo_X8_finding ⟨Nat.le_of_ble_eq_true rfl, Nat.le_of_ble_eq_true rfl⟩ rfl ⟨_, _, rfl⟩ (Nat.le_of_ble_eq_true rfl) rfl rfl (Nat.le_of_ble_eq_true rfl) (v_X8_finding (w := 3) (by decide) (f := -1000004) (by decide +kernel) _) rfl ?_
      refine V.goto (pc' := 135) dX8_left_125 rfl ?_
      exact V.ret dX8_left_135 rfl rfl (PQ_fFR (w := 3) hF hF61 SV_66 rfl)
    · have hj : j < i := (hO.2 j rfl).1
      refine V.iload_n dX8_left_56 rfl rfl rfl ?_
      refine V.aload_n dX8_left_57 rfl rfl rfl ?_
      refine V.getr dX8_left_58 fg_X8_19 rfl rfl rfl ?_
      refine V.getr dX8_left_61 fg_X8_71 rfl rfl rfl ?_
      refine V.geti (v := nI c) dX8_left_64 fg_X8_224 rfl rfl hcn rfl ?_
      refine V.icmp_ge (tgt := 110) dX8_left_67 rfl rfl (fun c67 => ?_) (fun c67 => absurd ((nI_leI (a := c) (b := i) (by omega) (by omega)).mpr (by omega)) c67)
      have c67 : c ≤ i := (nI_leI (a := c) (b := i) (by omega) (by omega)).mp c67
      refine V.aload_n dX8_left_110 rfl rfl rfl ?_
      refine V.getr dX8_left_111 fg_X8_28 rfl rfl rfl ?_
      refine V.geti (v := nI j) dX8_left_114 fg_X8_261 rfl rfl hO.1 rfl ?_
      refine V.if_ge (tgt := 128) dX8_left_117 rfl rfl (fun c117 => ?_) (fun c117 => absurd ((nI_leI (a := 0) (b := j) (by omega) (by omega)).mpr (by omega)) c117)
      have c117 : 0 ≤ j := (nI_leI (a := 0) (b := j) (by omega) (by omega)).mp c117
      refine V.aload_n dX8_left_128 rfl rfl rfl ?_
      refine V.getr dX8_left_129 fg_X8_28 rfl rfl rfl ?_
      refine V.geti (v := nI j) dX8_left_132 fg_X8_261 rfl rfl hO.1 rfl ?_
      exact V.ret dX8_left_135 rfl rfl (PQ_v hF hF61 SV_66 rfl)
  | succ n ih =>
    intro i o M' hE hO hi
    have hF : FR M' M := fun k z => (hE k (by omega)).trans (hFx k z)
    have hcn : M' 28 5 = nI c := by rw [hE 28 (by decide)]; exact ST_c27 hX
    obtain ⟨-, hbg, -, -, hpl⟩ := ST_b hX (show i < c by omega)
    have hbg' : M' 30 i = col Gx 1 i := by rw [hE 30 (by decide)]; exact hbg
    have hpl' : M' 33 i = col Gx 4 i := by rw [hE 33 (by decide)]; exact hpl
    refine V.iload_n dX8_left_56 rfl rfl rfl ?_
    refine V.aload_n dX8_left_57 rfl rfl rfl ?_
    refine V.getr dX8_left_58 fg_X8_19 rfl rfl rfl ?_
    refine V.getr dX8_left_61 fg_X8_71 rfl rfl rfl ?_
    refine V.geti (v := nI c) dX8_left_64 fg_X8_224 rfl rfl hcn rfl ?_
    refine V.icmp_ge (tgt := 110) dX8_left_67 rfl rfl (fun c67 => absurd ((nI_leI (a := c) (b := i) (by omega) (by omega)).mp c67) (by omega)) (fun c67 => ?_)
    have c67 : ¬ c ≤ i := fun zq => c67 ((nI_leI (a := c) (b := i) (by omega) (by omega)).mpr zq)
    refine V.aload_n dX8_left_70 rfl rfl rfl ?_
    refine V.getr dX8_left_71 fg_X8_19 rfl rfl rfl ?_
    refine V.getr dX8_left_74 fg_X8_71 rfl rfl rfl ?_
    refine V.iload_n dX8_left_77 rfl rfl rfl ?_
    refine V.callv_i (M1 := M') (v := if col Gx 4 i = 4 then 1 else 0) (md' := m_X4_isGone) (As := [.int (nI i)]) (rest := []) dX8_left_78 ml_X8_135 mo_X4_isGone ⟨Nat.le_of_ble_eq_true rfl, Nat.le_of_ble_eq_true rfl⟩ rfl ⟨_, _, rfl⟩ (Nat.le_of_ble_eq_true rfl) rfl rfl (Nat.le_of_ble_eq_true rfl) (by have hz := v_X4_isGone isE27 (b := i) (by omega) M'; rw [hpl'] at hz; exact hz) rfl ?_
    refine V.ifb_ne (tgt := 104) dX8_left_81 rfl rfl (fun c81 => ?_) (fun c81 => ?_)
    · skip
      refine V.inc (v := nI (i + 1)) dX8_left_104 rfl (nI_1 _) (by decide) (L' := [(0, .ref 0), (1, .int (nI k)), (2, .int (nI (i + 1)))]) rfl rfl ?_
      refine V.goto (pc' := 56) dX8_left_107 rfl ?_
      rw [show lfG (col Gx 1) (col Gx 4) (n + 1) i o = lfG (col Gx 1) (col Gx 4) n (i + 1) o from by simp only [lfG]; rw [if_pos c81]]
      exact ih (i + 1) o _ hE (LO_skip hO) (by omega)
    · skip
      refine V.aload_n dX8_left_84 rfl rfl rfl ?_
      refine V.getr dX8_left_85 fg_X8_28 rfl rfl rfl ?_
      refine V.iload_n dX8_left_88 rfl rfl rfl ?_
      refine V.aload_n dX8_left_89 rfl rfl rfl ?_
      refine V.getr dX8_left_90 fg_X8_19 rfl rfl rfl ?_
      refine V.getr dX8_left_93 fg_X8_71 rfl rfl rfl ?_
      refine V.getr dX8_left_96 fg_X8_91 rfl rfl rfl ?_
      refine V.iload_n dX8_left_99 rfl rfl rfl ?_
      refine V.ialdN (j := i) (v := col Gx 1 i) dX8_left_100 rfl (by omega) (by decide) rfl hbg' rfl ?_
      refine V.callv_v (M1 := offerM M' (nI i) (col Gx 1 i)) (md' := m_X0_offer) (As := [.int (nI i), .int (col Gx 1 i)]) (rest := []) dX8_left_101 ml_X8_258 mo_X0_offer ⟨Nat.le_of_ble_eq_true rfl, Nat.le_of_ble_eq_true rfl⟩ rfl ⟨_, _, rfl⟩ (Nat.le_of_ble_eq_true rfl) rfl rfl (Nat.le_of_ble_eq_true rfl) (v_X0_offer _ (nI i) (col Gx 1 i)) rfl ?_
      refine V.inc (v := nI (i + 1)) dX8_left_104 rfl (nI_1 _) (by decide) (L' := [(0, .ref 0), (1, .int (nI k)), (2, .int (nI (i + 1)))]) rfl rfl ?_
      refine V.goto (pc' := 56) dX8_left_107 rfl ?_
      obtain ⟨o', e1, hO'⟩ := LO_step (n := n) (by omega) c81 hO
      rw [e1]
      exact ih (i + 1) o' _ (fun a ha => by unfold offerM; split <;> first | (rw [ms_k ha, ms_k ha]; exact hE a ha) | exact hE a ha) hO' (by omega)
theorem v_X8_left {c : Nat} (hc : c ≤ 10) {cc : Nat} (hcc : cc ≤ 12) {p : Nat} (hp : p ≤ 99) {m : Nat} (hm : m ≤ 999) {A B : Nat} (hA : A ≤ 5000) (hB : B ≤ 10000) (M R : Mem) (hV : ST 1 c cc p m A B M R) (n : Int32) (hF61 : F61 M R) : V m_X8_left 0 [(0, .ref 0), (1, .int n)] [] M (PQ (pLeft c cc m n R) M) := by
  obtain ⟨hM, h2, h0, hP⟩ := ST_cnt hV
  have hV1 : ST 1 c cc p m A B M (SV R) := ST_R SV_63 hV
  have hV2 := ST_27_1 hc hcc hp hV1
  have h7 : eBecM 27 1 M 27 8 = R 63 7 := (ST_8 hV2).trans (by rw [SV_63])
  refine V.iload_n dX8_left_0 rfl rfl rfl ?_
  refine V.calls_i (M1 := M) (v := if rng 1 120 n then 1 else 0) (md' := m_X8_isPlan) (As := [.int n]) (rest := []) dX8_left_1 ml_X8_196 mo_X8_isPlan ⟨Nat.le_of_ble_eq_true rfl, Nat.le_of_ble_eq_true rfl⟩ (Nat.le_of_ble_eq_true rfl) rfl rfl (Nat.le_of_ble_eq_true rfl) (v_X8_isPlan n _) rfl ?_
  refine V.ifb_ne (tgt := 13) dX8_left_4 rfl rfl (fun c4 => ?_) (fun c4 => ?_)
  · skip
    obtain ⟨k, hk, rfl⟩ := of_rng1 (b := 120) c4
    · have ek : (nI k).toNatClampNeg = k := nI_clamp (by omega)
      refine V.aload_n dX8_left_13 rfl rfl rfl ?_
      refine V.iload_n dX8_left_14 rfl rfl rfl ?_
      refine V.callv_i (M1 := M) (v := if 999 < m + k then 1 else 0) (md' := m_X8_isTooLate) (As := [.int (nI k)]) (rest := []) dX8_left_15 ml_X8_199 mo_X8_isTooLate ⟨Nat.le_of_ble_eq_true rfl, Nat.le_of_ble_eq_true rfl⟩ rfl ⟨_, _, rfl⟩ (Nat.le_of_ble_eq_true rfl) rfl rfl (Nat.le_of_ble_eq_true rfl) (v_X8_isTooLate (by omega) (by omega) M h0) rfl ?_
      refine V.ifb_eq (tgt := 27) dX8_left_18 rfl rfl (fun c18 => ?_) (fun c18 => ?_)
      · skip
        refine V.aload_n dX8_left_27 rfl rfl rfl ?_
        refine V.getr dX8_left_28 fg_X8_19 rfl rfl rfl ?_
        refine V.aload_n dX8_left_31 rfl rfl rfl ?_
        refine V.getr dX8_left_32 fg_X8_10 rfl rfl rfl ?_
        refine V.callv_v (M1 := eBecM 27 1 M) (md' := m_X2_become) (As := [.ref 1]) (rest := []) dX8_left_35 ml_X8_227 mo_X2_become ⟨Nat.le_of_ble_eq_true rfl, Nat.le_of_ble_eq_true rfl⟩ rfl ⟨_, _, rfl⟩ (Nat.le_of_ble_eq_true rfl) rfl rfl (Nat.le_of_ble_eq_true rfl) (v_X2_become isE27 isE1 (by omega) _) rfl ?_
        refine V.aload_n dX8_left_38 rfl rfl rfl ?_
        refine V.getr dX8_left_39 fg_X8_19 rfl rfl rfl ?_
        refine V.iload_n dX8_left_42 rfl rfl rfl ?_
        refine V.callv_i (M1 := passG 27 c cc p k m (eBecM 27 1 M)) (v := cnF c cc k m (SV R) R) (md' := m_X2_pass) (As := [.int (nI k)]) (rest := []) dX8_left_43 ml_X8_205 mo_X2_pass ⟨Nat.le_of_ble_eq_true rfl, Nat.le_of_ble_eq_true rfl⟩ rfl ⟨_, _, rfl⟩ (Nat.le_of_ble_eq_true rfl) rfl rfl (Nat.le_of_ble_eq_true rfl) (v_passT isE27 hc hcc hp (k := k) (by omega) (by omega) (by omega) (by omega) hV2 h7) rfl ?_
        refine V.pop dX8_left_46 rfl rfl ?_
        refine V.aload_n dX8_left_47 rfl rfl rfl ?_
        refine V.getr dX8_left_48 fg_X8_28 rfl rfl rfl ?_
        refine V.callv_v (M1 := ms (passG 27 c cc p k m (eBecM 27 1 M)) 53 0 (-1)) (md' := m_X0_clear) (As := []) (rest := []) dX8_left_51 ml_X8_247 mo_X0_clear ⟨Nat.le_of_ble_eq_true rfl, Nat.le_of_ble_eq_true rfl⟩ rfl ⟨_, _, rfl⟩ (Nat.le_of_ble_eq_true rfl) rfl rfl (Nat.le_of_ble_eq_true rfl) (v_X0_clear _) rfl ?_
        refine V.iconst (v := 0) dX8_left_54 rfl rfl ?_
        refine V.ist_n dX8_left_55 rfl (by decide) (L' := [(0, .ref 0), (1, .int (nI k)), (2, .int 0)]) rfl rfl ?_
        have hp9 : pLeft c cc m (nI k) R = beP (lfG (col (mGo c cc k m (SV R)) 1) (col (mGo c cc k m (SV R)) 4) c 0 none) (SV R) := (by first | (simp (decide := true) [pLeft, c4, ek, c18]; done) | (simp (decide := true) [pLeft, c4, ek, c18]; done) | (simp (decide := true) [pLeft, c4, ek, c18]; done) | (simp_all (decide := true) [pLeft]; done) | (simp_all (decide := true) [pLeft, ltF, leF, ltFN, leFN]; done))
        rw [hp9]
        exact l_X8_left hc M R (passG 27 c cc p k m (eBecM 27 1 M)) (mGo c cc k m (SV R)) (FR_pass (by decide) (by decide) (FR_bec (by decide) (by decide) (FR_rf M))) hF61 (ST_go hc hp (by omega) k m A _ _ (by omega) hV2) c 0 none _ (fun a ha => ms_k ha) ⟨by rw [ms_s]; rfl, fun j q => by cases q⟩ (by omega)
      · skip
        refine V.aload_n dX8_left_21 rfl rfl rfl ?_
        refine V.iconst (v := 4) dX8_left_22 rfl rfl ?_
        refine V.callv_i (M1 := cfd 4 M) (v := -1000005) (md' := m_X8_finding) (As := [.int 4]) (rest := []) dX8_left_23 ml_X8_67 mo_X8_finding ⟨Nat.le_of_ble_eq_true rfl, Nat.le_of_ble_eq_true rfl⟩ rfl ⟨_, _, rfl⟩ (Nat.le_of_ble_eq_true rfl) rfl rfl (Nat.le_of_ble_eq_true rfl) (v_X8_finding (w := 4) (by decide) (f := -1000005) (by decide +kernel) _) rfl ?_
        exact V.ret dX8_left_26 rfl rfl (PQ_f (w := 4) hF61 (by first | (simp (decide := true) [pLeft, c4, ek, c18]; done) | (simp (decide := true) [pLeft, c4, ek, c18]; done) | (simp (decide := true) [pLeft, c4, ek, c18]; done) | (simp_all (decide := true) [pLeft]; done) | (simp_all (decide := true) [pLeft, ltF, leF, ltFN, leFN]; done)))
  · skip
    refine V.aload_n dX8_left_7 rfl rfl rfl ?_
    refine V.iconst (v := 0) dX8_left_8 rfl rfl ?_
    refine V.callv_i (M1 := cfd 0 M) (v := -1000001) (md' := m_X8_finding) (As := [.int 0]) (rest := []) dX8_left_9 ml_X8_67 mo_X8_finding ⟨Nat.le_of_ble_eq_true rfl, Nat.le_of_ble_eq_true rfl⟩ rfl ⟨_, _, rfl⟩ (Nat.le_of_ble_eq_true rfl) rfl rfl (Nat.le_of_ble_eq_true rfl) (v_X8_finding (w := 0) (by decide) (f := -1000001) (by decide +kernel) _) rfl ?_
    exact V.ret dX8_left_12 rfl rfl (PQ_f (w := 0) hF61 (by first | (simp (decide := true) [pLeft, c4]; done) | (simp (decide := true) [pLeft, c4]; done) | (simp (decide := true) [pLeft, c4]; done) | (simp_all (decide := true) [pLeft]; done) | (simp_all (decide := true) [pLeft, ltF, leF, ltFN, leFN]; done)))
