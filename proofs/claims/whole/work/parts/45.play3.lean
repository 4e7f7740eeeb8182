/-! The class's plays: two corners, taking off -/
theorem tel (a b x : Int32) : (a - b) + (x - a) = x - b := by
  rw [Int32.sub_eq_add_neg, Int32.sub_eq_add_neg, Int32.sub_eq_add_neg, Int32.add_comm a, Int32.add_comm x, Int32.add_assoc, ← Int32.add_assoc a, Int32.add_right_neg, Int32.zero_add, Int32.add_comm]
def cfR (s : Nat) (Gx : Mem) : Mem := if Gx 63 9 = 0 then mWalkM (nI s) Gx else Gx
def cfX (s : Nat) (Gx M' : Mem) : Mem := if Gx 63 9 = 0 then setOutM 27 (nI s) (eBecM 27 40 M') else eBecM 27 40 M'
theorem ST_cf {c cc p m A B s : Nat} (hc : c ≤ 10) (hcc : cc ≤ 12) (hp : p ≤ 99) (hs : s ≤ 3) {M' Gx : Mem} (hW : ST 40 c cc p m A B M' Gx) : ST 27 c cc p m A B (cfX s Gx M') (cfR s Gx) := by
  have h2 := ST_27_40 hc hcc hp hW
  unfold cfX cfR
  split
  · exact ST_walk hs h2
  · exact h2
theorem cfR_7 {s : Nat} {Gx : Mem} : cfR s Gx 63 7 = Gx 63 7 := by
  unfold cfR
  split
  · rw [mWalkM, ms_j (by decide), ms_j (by decide)]
  · rfl
theorem FR_cf {s : Nat} {Gx M' M : Mem} (h : FR M' M) : FR (cfX s Gx M') M := by
  unfold cfX
  split
  · exact FR_out (by decide) (by decide) (FR_bec (by decide) (by decide) h)
  · exact FR_bec (by decide) (by decide) h
theorem cfX_k {s a : Nat} {Gx M' : Mem} (h : a < 27 ∨ 40 ≤ a) : cfX s Gx M' a = M' a := by
  unfold cfX
  split
  · rw [setOutM, ms_k (by omega), ms_k (by omega), bec_k (by omega)]
  · rw [bec_k (by omega)]
theorem ST_w' {e c cc p m A B : Nat} {M R : Mem} (hV : ST e c cc p m A B M R) : M e 10 = R 63 9 := by
  obtain ⟨hb, h8, h11, s5, h13, h9, h7, h6, h5, hcr, hd, hc1, hc7, h4, h10, h12, h14, hs, s1, s2, s0, s4, sd, sg, sa, s9, s8, s6, sm⟩ := hV
  exact h10
theorem v_X8_coinFromCorner {c : Nat} (hc : c ≤ 10) {cc : Nat} (hcc : cc ≤ 12) {p : Nat} (hp : p ≤ 99) {m A B : Nat} (hm : m ≤ 2000) (hA : A ≤ 9000) (hB : B ≤ 10000) {n : Nat} (hn : n ≤ 120) {s : Nat} (hs : s ≤ 3) (M' Gx : Mem) (hW : ST 40 c cc p m A B M' Gx) : V m_X8_coinFromCorner 0 [(0, .ref 0), (1, .int (nI s)), (2, .int (nI n))] [] M' (RT (some (.int (cnF c cc n m (cfR s Gx) Gx))) (passG 27 c cc p n m (cfX s Gx M'))) := by
  have h2 := ST_cf hc hcc hp hs hW
  have h7 : cfX s Gx M' 27 8 = Gx 63 7 := (ST_8 h2).trans cfR_7
  have h10 : eBecM 27 40 M' 27 10 = Gx 63 9 := by rw [bec_f (by decide) (by decide)]; exact ST_w' hW
  by_cases h9 : Gx 63 9 = 0
  · refine V.aload_n dX8_coinFromCorner_0 rfl rfl rfl ?_
    refine V.getr dX8_coinFromCorner_1 fg_X8_19 rfl rfl rfl ?_
    refine V.aload_n dX8_coinFromCorner_4 rfl rfl rfl ?_
    refine V.getr dX8_coinFromCorner_5 fg_X8_22 rfl rfl rfl ?_
    refine V.callv_v (M1 := eBecM 27 40 M') (md' := m_X2_become) (As := [.ref 40]) (rest := []) dX8_coinFromCorner_8 ml_X8_227 mo_X2_become ⟨Nat.le_of_ble_eq_true rfl, Nat.le_of_ble_eq_true rfl⟩ rfl ⟨_, _, rfl⟩ (Nat.le_of_ble_eq_true rfl) rfl rfl (Nat.le_of_ble_eq_true rfl) (v_X2_become isE27 isE40 (by omega) _) rfl ?_
    refine V.aload_n dX8_coinFromCorner_11 rfl rfl rfl ?_
    refine V.getr dX8_coinFromCorner_12 fg_X8_19 rfl rfl rfl ?_
    refine V.geti (v := Gx 63 9) dX8_coinFromCorner_15 fg_X8_165 rfl rfl h10 rfl ?_
    refine V.if_ne (tgt := 29) dX8_coinFromCorner_18 rfl rfl (fun c18 => absurd h9 c18) (fun c18 => ?_)
    refine V.aload_n dX8_coinFromCorner_21 rfl rfl rfl ?_
    refine V.getr dX8_coinFromCorner_22 fg_X8_19 rfl rfl rfl ?_
    refine V.iload_n dX8_coinFromCorner_25 rfl rfl rfl ?_
    refine V.callv_v (M1 := setOutM 27 (nI s) (eBecM 27 40 M')) (md' := m_X2_setOut) (As := [.int (nI s)]) (rest := []) dX8_coinFromCorner_26 ml_X8_168 mo_X2_setOut ⟨Nat.le_of_ble_eq_true rfl, Nat.le_of_ble_eq_true rfl⟩ rfl ⟨_, _, rfl⟩ (Nat.le_of_ble_eq_true rfl) rfl rfl (Nat.le_of_ble_eq_true rfl) (v_X2_setOut isE27 (nI s) _) rfl ?_
    refine V.aload_n dX8_coinFromCorner_29 rfl rfl rfl ?_
    refine V.getr dX8_coinFromCorner_30 fg_X8_19 rfl rfl rfl ?_
    refine V.iload_n dX8_coinFromCorner_33 rfl rfl rfl ?_
    refine V.callv_i (M1 := passG 27 c cc p n m (cfX s Gx M')) (v := cnF c cc n m (cfR s Gx) Gx) (md' := m_X2_pass) (As := [.int (nI n)]) (rest := []) dX8_coinFromCorner_34 ml_X8_205 mo_X2_pass ⟨Nat.le_of_ble_eq_true rfl, Nat.le_of_ble_eq_true rfl⟩ rfl ⟨_, _, rfl⟩ (Nat.le_of_ble_eq_true rfl) rfl rfl (Nat.le_of_ble_eq_true rfl) (by rw [show (setOutM 27 (nI s) (eBecM 27 40 M')) = cfX s Gx M' from by rw [cfX, if_pos h9]]; exact v_passT isE27 hc hcc hp (k := n) (by omega) (by omega) (by omega) (by omega) h2 h7) rfl ?_
    exact V.ret dX8_coinFromCorner_37 rfl rfl ⟨rfl, rfl⟩
  · refine V.aload_n dX8_coinFromCorner_0 rfl rfl rfl ?_
    refine V.getr dX8_coinFromCorner_1 fg_X8_19 rfl rfl rfl ?_
    refine V.aload_n dX8_coinFromCorner_4 rfl rfl rfl ?_
    refine V.getr dX8_coinFromCorner_5 fg_X8_22 rfl rfl rfl ?_
    refine V.callv_v (M1 := eBecM 27 40 M') (md' := m_X2_become) (As := [.ref 40]) (rest := []) dX8_coinFromCorner_8 ml_X8_227 mo_X2_become ⟨Nat.le_of_ble_eq_true rfl, Nat.le_of_ble_eq_true rfl⟩ rfl ⟨_, _, rfl⟩ (Nat.le_of_ble_eq_true rfl) rfl rfl (Nat.le_of_ble_eq_true rfl) (v_X2_become isE27 isE40 (by omega) _) rfl ?_
    refine V.aload_n dX8_coinFromCorner_11 rfl rfl rfl ?_
    refine V.getr dX8_coinFromCorner_12 fg_X8_19 rfl rfl rfl ?_
    refine V.geti (v := Gx 63 9) dX8_coinFromCorner_15 fg_X8_165 rfl rfl h10 rfl ?_
    refine V.if_ne (tgt := 29) dX8_coinFromCorner_18 rfl rfl (fun c18 => ?_) (fun c18 => absurd c18 h9)
    refine V.aload_n dX8_coinFromCorner_29 rfl rfl rfl ?_
    refine V.getr dX8_coinFromCorner_30 fg_X8_19 rfl rfl rfl ?_
    refine V.iload_n dX8_coinFromCorner_33 rfl rfl rfl ?_
    refine V.callv_i (M1 := passG 27 c cc p n m (cfX s Gx M')) (v := cnF c cc n m (cfR s Gx) Gx) (md' := m_X2_pass) (As := [.int (nI n)]) (rest := []) dX8_coinFromCorner_34 ml_X8_205 mo_X2_pass ⟨Nat.le_of_ble_eq_true rfl, Nat.le_of_ble_eq_true rfl⟩ rfl ⟨_, _, rfl⟩ (Nat.le_of_ble_eq_true rfl) rfl rfl (Nat.le_of_ble_eq_true rfl) (by rw [show (eBecM 27 40 M') = cfX s Gx M' from by rw [cfX, if_neg h9]]; exact v_passT isE27 hc hcc hp (k := n) (by omega) (by omega) (by omega) (by omega) h2 h7) rfl ?_
    exact V.ret dX8_coinFromCorner_37 rfl rfl ⟨rfl, rfl⟩
def twG (c cc k m f : Nat) (R : Mem) : Mem := mGo c cc k m (mWalkM (nI f) (SV R))
theorem tw_M {c cc k m f s : Nat} (hs : s < 4) (R : Mem) : twM c cc k m (4 * f + s) R = cfR s (twG c cc k m f R) := by
  unfold twM cfR twG
  rw [show (4 * f + s) / 4 = f by omega, show (4 * f + s) % 4 = s by omega]
theorem tw_tel {c cc k n m f s : Nat} (hs : s < 4) (R : Mem) : cnF c cc k m (mWalkM (nI f) (SV R)) R + cnF c cc (n - k) (m + k) (cfR s (twG c cc k m f R)) (twG c cc k m f R) = twF c cc k n m R (4 * f + s) := by
  unfold twF
  rw [tw_M hs]
  exact tel _ _ _
theorem tw_I {s f : Nat} (hs : s < 4) : twI (4 * f + s) = nI (10 * f + s) := by
  rw [twI, show (4 * f + s) / 4 = f by omega, show (4 * f + s) % 4 = s by omega]
theorem CI_cast {i j : Nat} {b mo : Int32} {M : Mem} (h : i = j) (hC : CI i b mo M) : CI j b mo M := by subst h; exact hC
theorem l_X8_two_in {c : Nat} (hc : c ≤ 10) {cc : Nat} (hcc : cc ≤ 12) {p : Nat} (hp : p ≤ 99) {m : Nat} (hm : m ≤ 999) {A B : Nat} (hA : A ≤ 5000) (hB : B ≤ 10000) (M R : Mem) (hV : ST 1 c cc p m A B M R) {k n1 : Nat} (hk1 : 1 ≤ k) (hk : k ≤ 60) (hkn : k < n1) (hn : n1 ≤ 120) (v : Int32) {f : Nat} (hf : f < 4) (K : ∀ (N : Nat) (b mo : Int32) (M'' : Mem), FR M'' M → CI (4 * (f + 1)) b mo M'' → N + 4 * (f + 1) = 16 → bestG (twF c cc k n1 m R) twI N (4 * (f + 1)) b mo = v → V m_X8_two 136 [(0, .ref 0), (1, .int (nI k)), (2, .int (nI n1)), (3, .int (nI f)), (4, .int (cnF c cc k m (mWalkM (nI f) (SV R)) R))] [] M'' (QA v M)) : ∀ (n s N : Nat) (b mo : Int32) (M' : Mem), FR M' M → ST 40 c cc p (m + k) (A + k) B M' (twG c cc k m f R) → CI (4 * f + s) b mo M' → s + n = 4 → N + (4 * f + s) = 16 → bestG (twF c cc k n1 m R) twI N (4 * f + s) b mo = v → V m_X8_two 98 [(0, .ref 0), (1, .int (nI k)), (2, .int (nI n1)), (3, .int (nI f)), (4, .int (cnF c cc k m (mWalkM (nI f) (SV R)) R)), (5, .int (nI s))] [] M' (QA v M) := by
  intro n
  induction n with
  | zero =>
    intro s N b mo M' hF hW hC hi hN hv
    refine V.iload dX8_two_98 rfl rfl ?_
    refine V.iconst (v := 3) dX8_two_100 rfl rfl ?_
    refine V.icmp_gt (tgt := 136) dX8_two_101 rfl rfl (fun c101 => ?_) (fun c101 => absurd ((nI_ltI (a := 3) (b := s) (by omega) (by omega)).mpr (by omega)) c101)
    have c101 : 3 < s := (nI_ltI (a := 3) (b := s) (by omega) (by omega)).mp c101
    refine V.loc (L' := [(0, .ref 0), (1, .int (nI k)), (2, .int (nI n1)), (3, .int (nI f)), (4, .int (cnF c cc k m (mWalkM (nI f) (SV R)) R))]) (fun zq zh => List.mem_append_left [(5, Value.int (nI s))] zh) ?_
    have e4 : s = 4 := by omega
    subst e4
    exact K N b mo _ hF hC hN hv
  | succ n ih =>
    intro s N b mo M' hF hW hC hi hN hv
    obtain ⟨N', rfl⟩ : ∃ N', N = N' + 1 := ⟨N - 1, by omega⟩
    have h2 := ST_cf (s := s) hc hcc hp (by omega) hW
    obtain ⟨g0, hg0, eg0⟩ := go_coin hc hcc hp k m (mWalkM (nI f) (SV R)) (ST_CNB hp (ST_walk (x := f) (by omega) (ST_R (R' := SV R) SV_63 hV)))
    have hk60 := Nat.mul_le_mul_right 484800 hk
    have e7 : cfR s (twG c cc k m f R) 63 7 = R 63 7 + nI g0 := by rw [cfR_7, twG, eg0, mWalkM, ms_j (by decide), ms_j (by decide), SV_63]
    obtain ⟨g, hg, eg⟩ := cnF_I (n := n1 - k) (m := m + k) (g := g0) hc hcc hp (by omega) (by omega) (ST_CNB hp h2) (R := R) e7
    have eg' : twF c cc k n1 m R (4 * f + s) = nI g := by rw [← eg, twF, tw_M (by omega)]
    have et := tw_I (s := s) (f := f) (by omega)
    refine V.iload dX8_two_98 rfl rfl ?_
    refine V.iconst (v := 3) dX8_two_100 rfl rfl ?_
    refine V.icmp_gt (tgt := 136) dX8_two_101 rfl rfl (fun c101 => absurd ((nI_ltI (a := 3) (b := s) (by omega) (by omega)).mp c101) (by omega)) (fun c101 => ?_)
    have c101 : ¬ 3 < s := fun zq => c101 ((nI_ltI (a := 3) (b := s) (by omega) (by omega)).mpr zq)
    refine V.aload_n dX8_two_104 rfl rfl rfl ?_
    refine V.getr dX8_two_105 fg_X8_28 rfl rfl rfl ?_
    refine V.bipush (v := 10) dX8_two_108 (by decide) rfl ?_
    refine V.iload_n dX8_two_110 rfl rfl rfl ?_
    refine V.imul (v := nI (10 * f)) dX8_two_111 (pk_mul 10 f) rfl ?_
    refine V.iload dX8_two_112 rfl rfl ?_
    refine V.iadd (v := nI (10 * f + s)) dX8_two_114 (nI_add _ _) rfl ?_
    refine V.iload dX8_two_115 rfl rfl ?_
    refine V.aload_n dX8_two_117 rfl rfl rfl ?_
    refine V.iload dX8_two_118 rfl rfl ?_
    refine V.iload_n dX8_two_120 rfl rfl rfl ?_
    refine V.iload_n dX8_two_121 rfl rfl rfl ?_
    refine V.isub (v := nI (n1 - k)) dX8_two_122 (pk_sub (by omega)) rfl ?_
    refine V.callv_i (M1 := passG 27 c cc p (n1 - k) (m + k) (cfX s (twG c cc k m f R) M')) (v := cnF c cc (n1 - k) (m + k) (cfR s (twG c cc k m f R)) (twG c cc k m f R)) (md' := m_X8_coinFromCorner) (As := [.int (nI s), .int (nI (n1 - k))]) (rest := [.int (cnF c cc k m (mWalkM (nI f) (SV R)) R), .int (nI (10 * f + s)), .ref 53]) dX8_two_123 ml_X8_264 mo_X8_coinFromCorner ⟨Nat.le_of_ble_eq_true rfl, Nat.le_of_ble_eq_true rfl⟩ rfl ⟨_, _, rfl⟩ (Nat.le_of_ble_eq_true rfl) rfl rfl (Nat.le_of_ble_eq_true rfl) (v_X8_coinFromCorner hc hcc hp (m := m + k) (by omega) (A := A + k) (by omega) hB (n := n1 - k) (by omega) (s := s) (by omega) M' _ hW) rfl ?_
    refine V.iadd (v := twF c cc k n1 m R (4 * f + s)) dX8_two_126 (tw_tel (by omega) R) rfl ?_
    refine V.callv_v (M1 := offerM (passG 27 c cc p (n1 - k) (m + k) (cfX s (twG c cc k m f R) M')) (nI (10 * f + s)) (twF c cc k n1 m R (4 * f + s))) (md' := m_X0_offer) (As := [.int (nI (10 * f + s)), .int (twF c cc k n1 m R (4 * f + s))]) (rest := []) dX8_two_127 ml_X8_258 mo_X0_offer ⟨Nat.le_of_ble_eq_true rfl, Nat.le_of_ble_eq_true rfl⟩ rfl ⟨_, _, rfl⟩ (Nat.le_of_ble_eq_true rfl) rfl rfl (Nat.le_of_ble_eq_true rfl) (v_X0_offer _ (nI (10 * f + s)) (twF c cc k n1 m R (4 * f + s))) rfl ?_
    refine V.inc (v := nI (s + 1)) dX8_two_130 rfl (nI_1 _) (by decide) (L' := [(0, .ref 0), (1, .int (nI k)), (2, .int (nI n1)), (3, .int (nI f)), (4, .int (cnF c cc k m (mWalkM (nI f) (SV R)) R)), (5, .int (nI (s + 1)))]) rfl rfl ?_
    refine V.goto (pc' := 98) dX8_two_133 rfl ?_
    have hC2 : CI (4 * f + s + 1) (if mo < twF c cc k n1 m R (4 * f + s) then twI (4 * f + s) else b) (if mo < twF c cc k n1 m R (4 * f + s) then twF c cc k n1 m R (4 * f + s) else mo) (offerM (passG 27 c cc p (n1 - k) (m + k) (cfX s (twG c cc k m f R) M')) (nI (10 * f + s)) (twF c cc k n1 m R (4 * f + s))) := by
      rw [et]
      exact CI_step eg' hg (nnI (by omega)) (CI_53 (by rw [pass_k (by decide), cfX_k (by decide)]) hC)
    exact ih (s + 1) N' _ _ _ (FR_offer (FR_pass (by decide) (by decide) (FR_cf hF))) (ST_M (fun a h1 h3 => by unfold offerM; split <;> first | (rw [ms_k (by omega), ms_k (by omega), pass_k (by omega), cfX_k (by omega)]) | (rw [pass_k (by omega), cfX_k (by omega)])) hW) hC2 (by omega) (by omega) hv
theorem l_X8_two {c : Nat} (hc : c ≤ 10) {cc : Nat} (hcc : cc ≤ 12) {p : Nat} (hp : p ≤ 99) {m : Nat} (hm : m ≤ 999) {A B : Nat} (hA : A ≤ 5000) (hB : B ≤ 10000) (M R : Mem) (hV : ST 1 c cc p m A B M R) {k n1 : Nat} (hk1 : 1 ≤ k) (hk : k ≤ 60) (hkn : k < n1) (hn : n1 ≤ 120) (v : Int32) : ∀ (n f N : Nat) (b mo : Int32) (M' : Mem), FR M' M → CI (4 * f) b mo M' → f + n = 4 → N + 4 * f = 16 → bestG (twF c cc k n1 m R) twI N (4 * f) b mo = v → V m_X8_two 61 [(0, .ref 0), (1, .int (nI k)), (2, .int (nI n1)), (3, .int (nI f))] [] M' (QA v M) := by
  intro n
  induction n with
  | zero =>
    intro f N b mo M' hF hC hi hN hv
    have hN0 : N = 0 := by omega
    subst hN0
    have hb0 : M' 53 0 = v := (CI_end (by omega) hC).trans hv
    refine V.iload_n dX8_two_61 rfl rfl rfl ?_
    refine V.iconst (v := 3) dX8_two_62 rfl rfl ?_
    refine V.icmp_gt (tgt := 142) dX8_two_63 rfl rfl (fun c63 => ?_) (fun c63 => absurd ((nI_ltI (a := 3) (b := f) (by omega) (by omega)).mpr (by omega)) c63)
    have c63 : 3 < f := (nI_ltI (a := 3) (b := f) (by omega) (by omega)).mp c63
    refine V.aload_n dX8_two_142 rfl rfl rfl ?_
    refine V.getr dX8_two_143 fg_X8_28 rfl rfl rfl ?_
    refine V.geti (v := v) dX8_two_146 fg_X8_261 rfl rfl hb0 rfl ?_
    exact V.ret dX8_two_149 rfl rfl (⟨rfl, hF⟩)
  | succ n ih =>
    intro f N b mo M' hF hC hi hN hv
    have hV1 : ST 1 c cc p m A B M' (SV R) := ST_FR hF (ST_R SV_63 hV)
    have hV2 := ST_40_1 hc hcc hp hV1
    have hV3 : ST 40 c cc p m A B (setOutM 40 (nI f) (eBecM 40 1 M')) (mWalkM (nI f) (SV R)) := ST_walk (by omega) hV2
    have h7 : (setOutM 40 (nI f) (eBecM 40 1 M')) 40 8 = R 63 7 := (ST_8 hV3).trans (by rw [mWalkM, ms_j (by decide), ms_j (by decide), SV_63])
    refine V.iload_n dX8_two_61 rfl rfl rfl ?_
    refine V.iconst (v := 3) dX8_two_62 rfl rfl ?_
    refine V.icmp_gt (tgt := 142) dX8_two_63 rfl rfl (fun c63 => absurd ((nI_ltI (a := 3) (b := f) (by omega) (by omega)).mp c63) (by omega)) (fun c63 => ?_)
    have c63 : ¬ 3 < f := fun zq => c63 ((nI_ltI (a := 3) (b := f) (by omega) (by omega)).mpr zq)
    refine V.aload_n dX8_two_66 rfl rfl rfl ?_
    refine V.getr dX8_two_67 fg_X8_22 rfl rfl rfl ?_
    refine V.aload_n dX8_two_70 rfl rfl rfl ?_
    refine V.getr dX8_two_71 fg_X8_10 rfl rfl rfl ?_
    refine V.callv_v (M1 := eBecM 40 1 M') (md' := m_X2_become) (As := [.ref 1]) (rest := []) dX8_two_74 ml_X8_227 mo_X2_become ⟨Nat.le_of_ble_eq_true rfl, Nat.le_of_ble_eq_true rfl⟩ rfl ⟨_, _, rfl⟩ (Nat.le_of_ble_eq_true rfl) rfl rfl (Nat.le_of_ble_eq_true rfl) (v_X2_become isE40 isE1 (by omega) _) rfl ?_
    refine V.aload_n dX8_two_77 rfl rfl rfl ?_
    refine V.getr dX8_two_78 fg_X8_22 rfl rfl rfl ?_
    refine V.iload_n dX8_two_81 rfl rfl rfl ?_
    refine V.callv_v (M1 := setOutM 40 (nI f) (eBecM 40 1 M')) (md' := m_X2_setOut) (As := [.int (nI f)]) (rest := []) dX8_two_82 ml_X8_168 mo_X2_setOut ⟨Nat.le_of_ble_eq_true rfl, Nat.le_of_ble_eq_true rfl⟩ rfl ⟨_, _, rfl⟩ (Nat.le_of_ble_eq_true rfl) rfl rfl (Nat.le_of_ble_eq_true rfl) (v_X2_setOut isE40 (nI f) _) rfl ?_
    refine V.aload_n dX8_two_85 rfl rfl rfl ?_
    refine V.getr dX8_two_86 fg_X8_22 rfl rfl rfl ?_
    refine V.iload_n dX8_two_89 rfl rfl rfl ?_
    refine V.callv_i (M1 := passG 40 c cc p k m (setOutM 40 (nI f) (eBecM 40 1 M'))) (v := cnF c cc k m (mWalkM (nI f) (SV R)) R) (md' := m_X2_pass) (As := [.int (nI k)]) (rest := []) dX8_two_90 ml_X8_205 mo_X2_pass ⟨Nat.le_of_ble_eq_true rfl, Nat.le_of_ble_eq_true rfl⟩ rfl ⟨_, _, rfl⟩ (Nat.le_of_ble_eq_true rfl) rfl rfl (Nat.le_of_ble_eq_true rfl) (v_passT isE40 hc hcc hp (k := k) (by omega) (by omega) (by omega) (by omega) hV3 h7) rfl ?_
    refine V.ist dX8_two_93 (by decide) (L' := [(0, .ref 0), (1, .int (nI k)), (2, .int (nI n1)), (3, .int (nI f)), (4, .int (cnF c cc k m (mWalkM (nI f) (SV R)) R))]) rfl rfl ?_
    refine V.iconst (v := 0) dX8_two_95 rfl rfl ?_
    refine V.ist dX8_two_96 (by decide) (L' := [(0, .ref 0), (1, .int (nI k)), (2, .int (nI n1)), (3, .int (nI f)), (4, .int (cnF c cc k m (mWalkM (nI f) (SV R)) R)), (5, .int 0)]) rfl rfl ?_
    refine l_X8_two_in hc hcc hp hm hA hB M R hV hk1 hk hkn hn v (f := f) (by omega) (fun N b mo M'' hF hC hN hv => ?_) 4 0 N b mo _ (FR_pass (by decide) (by decide) (FR_out (by decide) (by decide) (FR_bec (by decide) (by decide) hF))) (ST_go hc hp (by omega) k m A _ _ (by omega) hV3) (CI_53 (by rw [pass_k (by decide), setOutM, ms_k (by decide), ms_k (by decide), bec_k (by decide)]) hC) (by omega) hN hv
    refine V.inc (v := nI (f + 1)) dX8_two_136 rfl (nI_1 _) (by decide) (L' := [(0, .ref 0), (1, .int (nI k)), (2, .int (nI n1)), (3, .int (nI (f + 1))), (4, .int (cnF c cc k m (mWalkM (nI f) (SV R)) R))]) rfl rfl ?_
    refine V.goto (pc' := 61) dX8_two_139 rfl ?_
    refine V.loc (L' := [(0, .ref 0), (1, .int (nI k)), (2, .int (nI n1)), (3, .int (nI (f + 1)))]) (fun zq zh => List.mem_append_left [(4, Value.int (cnF c cc k m (mWalkM (nI f) (SV R)) R))] zh) ?_
    exact ih (f + 1) N b mo _ hF hC (by omega) hN hv
theorem v_X8_two {c : Nat} (hc : c ≤ 10) {cc : Nat} (hcc : cc ≤ 12) {p : Nat} (hp : p ≤ 99) {m : Nat} (hm : m ≤ 999) {A B : Nat} (hA : A ≤ 5000) (hB : B ≤ 10000) (M R : Mem) (hV : ST 1 c cc p m A B M R) (y n : Int32) (hF61 : F61 M R) : V m_X8_two 0 [(0, .ref 0), (1, .int y), (2, .int n)] [] M (PQ (pTwo c cc m y n R) M) := by
  obtain ⟨hM, h2, h0, hP⟩ := ST_cnt hV
  have hW := ST_w hV
  refine V.iload_n dX8_two_0 rfl rfl rfl ?_
  refine V.iconst (v := 1) dX8_two_1 rfl rfl ?_
  refine V.bipush (v := 60) dX8_two_2 (by decide) rfl ?_
  refine V.calls_i (M1 := M) (v := if rng 1 60 y then 1 else 0) (md' := m_X8_within) (As := [.int y, .int 1, .int 60]) (rest := []) dX8_two_4 ml_X8_63 mo_X8_within ⟨Nat.le_of_ble_eq_true rfl, Nat.le_of_ble_eq_true rfl⟩ (Nat.le_of_ble_eq_true rfl) rfl rfl (Nat.le_of_ble_eq_true rfl) (v_X8_within (x := y) (a := 1) (b := 60) rfl rfl _) rfl ?_
  refine V.ifb_eq (tgt := 22) dX8_two_7 rfl rfl (fun c7 => ?_) (fun c7 => ?_)
  · skip
    refine V.aload_n dX8_two_22 rfl rfl rfl ?_
    refine V.iconst (v := 0) dX8_two_23 rfl rfl ?_
    refine V.callv_i (M1 := cfd 0 M) (v := -1000001) (md' := m_X8_finding) (As := [.int 0]) (rest := []) dX8_two_24 ml_X8_67 mo_X8_finding ⟨Nat.le_of_ble_eq_true rfl, Nat.le_of_ble_eq_true rfl⟩ rfl ⟨_, _, rfl⟩ (Nat.le_of_ble_eq_true rfl) rfl rfl (Nat.le_of_ble_eq_true rfl) (v_X8_finding (w := 0) (by decide) (f := -1000001) (by decide +kernel) _) rfl ?_
    exact V.ret dX8_two_27 rfl rfl (PQ_f (w := 0) hF61 (by first | (simp (decide := true) [pTwo, c7]; done) | (simp (decide := true) [pTwo, c7]; done) | (simp (decide := true) [pTwo, c7]; done) | (simp_all (decide := true) [pTwo]; done) | (simp_all (decide := true) [pTwo, ltF, leF, ltFN, leFN]; done)))
  · skip
    refine V.iload_n dX8_two_10 rfl rfl rfl ?_
    refine V.calls_i (M1 := M) (v := if rng 1 120 n then 1 else 0) (md' := m_X8_isPlan) (As := [.int n]) (rest := []) dX8_two_11 ml_X8_196 mo_X8_isPlan ⟨Nat.le_of_ble_eq_true rfl, Nat.le_of_ble_eq_true rfl⟩ (Nat.le_of_ble_eq_true rfl) rfl rfl (Nat.le_of_ble_eq_true rfl) (v_X8_isPlan n _) rfl ?_
    refine V.ifb_eq (tgt := 22) dX8_two_14 rfl rfl (fun c14 => ?_) (fun c14 => ?_)
    · skip
      refine V.aload_n dX8_two_22 rfl rfl rfl ?_
      refine V.iconst (v := 0) dX8_two_23 rfl rfl ?_
      refine V.callv_i (M1 := cfd 0 M) (v := -1000001) (md' := m_X8_finding) (As := [.int 0]) (rest := []) dX8_two_24 ml_X8_67 mo_X8_finding ⟨Nat.le_of_ble_eq_true rfl, Nat.le_of_ble_eq_true rfl⟩ rfl ⟨_, _, rfl⟩ (Nat.le_of_ble_eq_true rfl) rfl rfl (Nat.le_of_ble_eq_true rfl) (v_X8_finding (w := 0) (by decide) (f := -1000001) (by decide +kernel) _) rfl ?_
      exact V.ret dX8_two_27 rfl rfl (PQ_f (w := 0) hF61 (by first | (simp (decide := true) [pTwo, c7, c14]; done) | (simp (decide := true) [pTwo, c7, c14]; done) | (simp (decide := true) [pTwo, c7, c14]; done) | (simp_all (decide := true) [pTwo]; done) | (simp_all (decide := true) [pTwo, ltF, leF, ltFN, leFN]; done)))
    · skip
      refine V.iload_n dX8_two_17 rfl rfl rfl ?_
      refine V.iload_n dX8_two_18 rfl rfl rfl ?_
      refine V.icmp_gt (tgt := 28) dX8_two_19 rfl rfl (fun c19 => ?_) (fun c19 => ?_)
      · have d19 := Int32.not_le.mpr c19
        obtain ⟨k, hk, rfl⟩ := of_rng1 (b := 60) c7
        · have ek : (nI k).toNatClampNeg = k := nI_clamp (by omega)
          obtain ⟨n1, hn, rfl⟩ := of_rng1 (b := 120) c14
          have en : (nI n1).toNatClampNeg = n1 := nI_clamp (by omega)
          have hkn : k < n1 := (nI_ltI (by omega) (by omega)).mp c19
          refine V.aload_n dX8_two_28 rfl rfl rfl ?_
          refine V.getr dX8_two_29 fg_X8_10 rfl rfl rfl ?_
          refine V.geti (v := R 63 9) dX8_two_32 fg_X8_165 rfl rfl hW rfl ?_
          refine V.if_gt (tgt := 46) dX8_two_35 rfl rfl (fun c35 => ?_) (fun c35 => ?_)
          · have d35 := Int32.not_le.mpr c35
            refine V.aload_n dX8_two_46 rfl rfl rfl ?_
            refine V.iconst (v := 4) dX8_two_47 rfl rfl ?_
            refine V.callv_i (M1 := cfd 4 M) (v := -1000005) (md' := m_X8_finding) (As := [.int 4]) (rest := []) dX8_two_48 ml_X8_67 mo_X8_finding ⟨Nat.le_of_ble_eq_true rfl, Nat.le_of_ble_eq_true rfl⟩ rfl ⟨_, _, rfl⟩ (Nat.le_of_ble_eq_true rfl) rfl rfl (Nat.le_of_ble_eq_true rfl) (v_X8_finding (w := 4) (by decide) (f := -1000005) (by decide +kernel) _) rfl ?_
            exact V.ret dX8_two_51 rfl rfl (PQ_f (w := 4) hF61 (by first | (simp (decide := true) [pTwo, c7, c14, c19, d19, ek, en, c35, d35]; done) | (simp (decide := true) [pTwo, c7, c14, c19, c19, ek, en, c35, c35]; done) | (simp (decide := true) [pTwo, c7, c14, c19, d19, ek, en, c35, d35, c19, c35]; done) | (simp_all (decide := true) [pTwo]; done) | (simp_all (decide := true) [pTwo, ltF, leF, ltFN, leFN]; done)))
          · have d35 := Int32.not_lt.mp c35
            refine V.aload_n dX8_two_38 rfl rfl rfl ?_
            refine V.iload_n dX8_two_39 rfl rfl rfl ?_
            refine V.callv_i (M1 := M) (v := if 999 < m + n1 then 1 else 0) (md' := m_X8_isTooLate) (As := [.int (nI n1)]) (rest := []) dX8_two_40 ml_X8_199 mo_X8_isTooLate ⟨Nat.le_of_ble_eq_true rfl, Nat.le_of_ble_eq_true rfl⟩ rfl ⟨_, _, rfl⟩ (Nat.le_of_ble_eq_true rfl) rfl rfl (Nat.le_of_ble_eq_true rfl) (v_X8_isTooLate (by omega) (by omega) M h0) rfl ?_
            refine V.ifb_eq (tgt := 52) dX8_two_43 rfl rfl (fun c43 => ?_) (fun c43 => ?_)
            · skip
              refine V.aload_n dX8_two_52 rfl rfl rfl ?_
              refine V.getr dX8_two_53 fg_X8_28 rfl rfl rfl ?_
              refine V.callv_v (M1 := ms M 53 0 (-1)) (md' := m_X0_clear) (As := []) (rest := []) dX8_two_56 ml_X8_247 mo_X0_clear ⟨Nat.le_of_ble_eq_true rfl, Nat.le_of_ble_eq_true rfl⟩ rfl ⟨_, _, rfl⟩ (Nat.le_of_ble_eq_true rfl) rfl rfl (Nat.le_of_ble_eq_true rfl) (v_X0_clear _) rfl ?_
              refine V.iconst (v := 0) dX8_two_59 rfl rfl ?_
              refine V.ist_n dX8_two_60 rfl (by decide) (L' := [(0, .ref 0), (1, .int (nI k)), (2, .int (nI n1)), (3, .int 0)]) rfl rfl ?_
              have hp9 : pTwo c cc m (nI k) (nI n1) R = (bestG (twF c cc k n1 m R) twI 16 0 0 (-1), SV R) := (by first | (simp (decide := true) [pTwo, c7, c14, c19, d19, ek, en, c35, d35, c43]; done) | (simp (decide := true) [pTwo, c7, c14, c19, c19, ek, en, c35, c35, c43]; done) | (simp (decide := true) [pTwo, c7, c14, c19, d19, ek, en, c35, d35, c43, c19, c35]; done) | (simp_all (decide := true) [pTwo]; done) | (simp_all (decide := true) [pTwo, ltF, leF, ltFN, leFN]; done))
              exact (l_X8_two hc hcc hp hm hA hB M R hV (k := k) (n1 := n1) (by omega) (by omega) hkn (by omega) _ 4 0 16 0 (-1) _ (FR_ms (by decide) (by decide) (FR_rf M)) CI_0 (by omega) (by omega) rfl).mono (QA_PQ hF61 SV_66 hp9)
            · skip
              refine V.aload_n dX8_two_46 rfl rfl rfl ?_
              refine V.iconst (v := 4) dX8_two_47 rfl rfl ?_
              refine V.callv_i (M1 := cfd 4 M) (v := -1000005) (md' := m_X8_finding) (As := [.int 4]) (rest := []) dX8_two_48 ml_X8_67 mo_X8_finding ⟨Nat.le_of_ble_eq_true rfl, Nat.le_of_ble_eq_true rfl⟩ rfl ⟨_, _, rfl⟩ (Nat.le_of_ble_eq_true rfl) rfl rfl (Nat.le_of_ble_eq_true rfl) (v_X8_finding (w := 4) (by decide) (f := -1000005) (by decide +kernel) _) rfl ?_
              exact V.ret dX8_two_51 rfl rfl (PQ_f (w := 4) hF61 (by first | (simp (decide := true) [pTwo, c7, c14, c19, d19, ek, en, c35, d35, c43]; done) | (simp (decide := true) [pTwo, c7, c14, c19, c19, ek, en, c35, c35, c43]; done) | (simp (decide := true) [pTwo, c7, c14, c19, d19, ek, en, c35, d35, c43, c19, c35]; done) | (simp_all (decide := true) [pTwo]; done) | (simp_all (decide := true) [pTwo, ltF, leF, ltFN, leFN]; done)))
      · have d19 := Int32.not_lt.mp c19
        refine V.aload_n dX8_two_22 rfl rfl rfl ?_
        refine V.iconst (v := 0) dX8_two_23 rfl rfl ?_
        refine V.callv_i (M1 := cfd 0 M) (v := -1000001) (md' := m_X8_finding) (As := [.int 0]) (rest := []) dX8_two_24 ml_X8_67 mo_X8_finding ⟨Nat.le_of_ble_eq_true rfl, Nat.le_of_ble_eq_true rfl⟩ rfl ⟨_, _, rfl⟩ (Nat.le_of_ble_eq_true rfl) rfl rfl (Nat.le_of_ble_eq_true rfl) (v_X8_finding (w := 0) (by decide) (f := -1000001) (by decide +kernel) _) rfl ?_
        exact V.ret dX8_two_27 rfl rfl (PQ_f (w := 0) hF61 (by first | (simp (decide := true) [pTwo, c7, c14, c19, d19]; done) | (simp (decide := true) [pTwo, c7, c14, c19, c19]; done) | (simp (decide := true) [pTwo, c7, c14, c19, d19, c19]; done) | (simp_all (decide := true) [pTwo]; done) | (simp_all (decide := true) [pTwo, ltF, leF, ltFN, leFN]; done)))
def toR (x n : Nat) (Gx : Mem) : Mem := if 0 < n ∧ ¬ Gx 63 (20 + 5 * x + 4) = 4 then mPutM x 3 Gx else Gx
def toX (x n : Nat) (Gx M' : Mem) : Mem := if 0 < n ∧ ¬ Gx 63 (20 + 5 * x + 4) = 4 then layM 27 x 3 (eBecM 27 40 M') else eBecM 27 40 M'
theorem ST_to {c cc p m A B x n : Nat} (hc : c ≤ 10) (hcc : cc ≤ 12) (hp : p ≤ 99) (hx : x < c) {M' Gx : Mem} (hW : ST 40 c cc p m A B M' Gx) : ST 27 c cc p m A B (toX x n Gx M') (toR x n Gx) := by
  have h2 := ST_27_40 hc hcc hp hW
  unfold toX toR
  split
  · exact ST_heap hc hx h2
  · exact h2
theorem toR_7 {x n : Nat} {Gx : Mem} : toR x n Gx 63 7 = Gx 63 7 := by
  unfold toR
  split
  · rw [put_heap, ms_j (by omega), ms_j (by omega)]
  · rfl
theorem FR_to {x n : Nat} {Gx M' M : Mem} (h : FR M' M) : FR (toX x n Gx M') M := by
  unfold toX
  split
  · exact FR_lay (by decide) (by decide) (FR_bec (by decide) (by decide) h)
  · exact FR_bec (by decide) (by decide) h
theorem toX_k {x n a : Nat} {Gx M' : Mem} (h : a < 27 ∨ 40 ≤ a) : toX x n Gx M' a = M' a := by
  unfold toX
  split
  · rw [lay_heap, ms_k (by omega), ms_k (by omega), bec_k (by omega)]
  · rw [bec_k (by omega)]
theorem v_X8_coinTakenOff {c : Nat} (hc : c ≤ 10) {cc : Nat} (hcc : cc ≤ 12) {p : Nat} (hp : p ≤ 99) {m A B : Nat} (hm : m ≤ 2000) (hA : A ≤ 9000) (hB : B ≤ 10000) {n : Nat} (hn : n ≤ 120) {x : Nat} (hx : x < c) (M' R Gx : Mem) (hW : ST 40 c cc p m A B M' Gx) (h8 : M' 1 8 = R 63 7) : V m_X8_coinTakenOff 0 [(0, .ref 0), (1, .int (nI x)), (2, .int (nI n))] [] M' (RT (some (.int (cnF c cc n m (toR x n Gx) R))) (passG 27 c cc p n m (toX x n Gx M'))) := by
  have h2 := ST_to (n := n) hc hcc hp hx hW
  have h7 : toX x n Gx M' 27 8 = toR x n Gx 63 7 := ST_8 h2
  have hpl : eBecM 27 40 M' 33 x = Gx 63 (20 + 5 * x + 4) := (ST_b (ST_27_40 hc hcc hp hW) hx).2.2.2.2
  refine V.aload_n dX8_coinTakenOff_0 rfl rfl rfl ?_
  refine V.getr dX8_coinTakenOff_1 fg_X8_19 rfl rfl rfl ?_
  refine V.aload_n dX8_coinTakenOff_4 rfl rfl rfl ?_
  refine V.getr dX8_coinTakenOff_5 fg_X8_22 rfl rfl rfl ?_
  refine V.callv_v (M1 := eBecM 27 40 M') (md' := m_X2_become) (As := [.ref 40]) (rest := []) dX8_coinTakenOff_8 ml_X8_227 mo_X2_become ⟨Nat.le_of_ble_eq_true rfl, Nat.le_of_ble_eq_true rfl⟩ rfl ⟨_, _, rfl⟩ (Nat.le_of_ble_eq_true rfl) rfl rfl (Nat.le_of_ble_eq_true rfl) (v_X2_become isE27 isE40 (by omega) _) rfl ?_
  refine V.iload_n dX8_coinTakenOff_11 rfl rfl rfl ?_
  refine V.if_le (tgt := 42) dX8_coinTakenOff_12 rfl rfl (fun c12 => ?_) (fun c12 => ?_)
  · have c12 : n ≤ 0 := (nI_leI (a := n) (b := 0) (by omega) (by omega)).mp c12
    refine V.aload_n dX8_coinTakenOff_42 rfl rfl rfl ?_
    refine V.getr dX8_coinTakenOff_43 fg_X8_19 rfl rfl rfl ?_
    refine V.iload_n dX8_coinTakenOff_46 rfl rfl rfl ?_
    refine V.callv_i (M1 := passG 27 c cc p n m (toX x n Gx M')) (v := cnF c cc n m (toR x n Gx) (toR x n Gx)) (md' := m_X2_pass) (As := [.int (nI n)]) (rest := []) dX8_coinTakenOff_47 ml_X8_205 mo_X2_pass ⟨Nat.le_of_ble_eq_true rfl, Nat.le_of_ble_eq_true rfl⟩ rfl ⟨_, _, rfl⟩ (Nat.le_of_ble_eq_true rfl) rfl rfl (Nat.le_of_ble_eq_true rfl) (by rw [show (eBecM 27 40 M') = toX x n Gx M' from by rw [toX, if_neg (fun z => absurd z.1 (by omega))]]; exact v_passT isE27 hc hcc hp (k := n) (by omega) (by omega) (by omega) (by omega) h2 h7) rfl ?_
    refine V.pop dX8_coinTakenOff_50 rfl rfl ?_
    refine V.aload_n dX8_coinTakenOff_51 rfl rfl rfl ?_
    refine V.getr dX8_coinTakenOff_52 fg_X8_19 rfl rfl rfl ?_
    refine V.geti (v := mGo c cc n m (toR x n Gx) 63 7) dX8_coinTakenOff_55 fg_X8_210 rfl rfl (ST_8 (ST_go hc hp (by omega) n m A _ _ (by omega) h2)) rfl ?_
    refine V.aload_n dX8_coinTakenOff_58 rfl rfl rfl ?_
    refine V.getr dX8_coinTakenOff_59 fg_X8_10 rfl rfl rfl ?_
    refine V.geti (v := R 63 7) dX8_coinTakenOff_62 fg_X8_210 rfl rfl (by rw [pass_k (by decide), toX_k (by decide)]; exact h8) rfl ?_
    refine V.isub (v := (mGo c cc n m (toR x n Gx) 63 7) - (R 63 7)) dX8_coinTakenOff_65 rfl rfl ?_
    exact V.ret dX8_coinTakenOff_66 rfl rfl ⟨rfl, rfl⟩
  · have c12 : ¬ n ≤ 0 := fun zq => c12 ((nI_leI (a := n) (b := 0) (by omega) (by omega)).mpr zq)
    refine V.aload_n dX8_coinTakenOff_15 rfl rfl rfl ?_
    refine V.getr dX8_coinTakenOff_16 fg_X8_19 rfl rfl rfl ?_
    refine V.getr dX8_coinTakenOff_19 fg_X8_71 rfl rfl rfl ?_
    refine V.iload_n dX8_coinTakenOff_22 rfl rfl rfl ?_
    refine V.callv_i (M1 := eBecM 27 40 M') (v := if Gx 63 (20 + 5 * x + 4) = 4 then 1 else 0) (md' := m_X4_isGone) (As := [.int (nI x)]) (rest := []) dX8_coinTakenOff_23 ml_X8_135 mo_X4_isGone ⟨Nat.le_of_ble_eq_true rfl, Nat.le_of_ble_eq_true rfl⟩ rfl ⟨_, _, rfl⟩ (Nat.le_of_ble_eq_true rfl) rfl rfl (Nat.le_of_ble_eq_true rfl) (by have hz := v_X4_isGone isE27 (b := x) (by omega) (eBecM 27 40 M'); rw [show (eBecM 27 40 M') (27+6) x = Gx 63 (20 + 5 * x + 4) from hpl] at hz; exact hz) rfl ?_
    refine V.ifb_ne (tgt := 42) dX8_coinTakenOff_26 rfl rfl (fun c26 => ?_) (fun c26 => ?_)
    · skip
      refine V.aload_n dX8_coinTakenOff_42 rfl rfl rfl ?_
      refine V.getr dX8_coinTakenOff_43 fg_X8_19 rfl rfl rfl ?_
      refine V.iload_n dX8_coinTakenOff_46 rfl rfl rfl ?_
      refine V.callv_i (M1 := passG 27 c cc p n m (toX x n Gx M')) (v := cnF c cc n m (toR x n Gx) (toR x n Gx)) (md' := m_X2_pass) (As := [.int (nI n)]) (rest := []) dX8_coinTakenOff_47 ml_X8_205 mo_X2_pass ⟨Nat.le_of_ble_eq_true rfl, Nat.le_of_ble_eq_true rfl⟩ rfl ⟨_, _, rfl⟩ (Nat.le_of_ble_eq_true rfl) rfl rfl (Nat.le_of_ble_eq_true rfl) (by rw [show (eBecM 27 40 M') = toX x n Gx M' from by rw [toX, if_neg (fun z => z.2 c26)]]; exact v_passT isE27 hc hcc hp (k := n) (by omega) (by omega) (by omega) (by omega) h2 h7) rfl ?_
      refine V.pop dX8_coinTakenOff_50 rfl rfl ?_
      refine V.aload_n dX8_coinTakenOff_51 rfl rfl rfl ?_
      refine V.getr dX8_coinTakenOff_52 fg_X8_19 rfl rfl rfl ?_
      refine V.geti (v := mGo c cc n m (toR x n Gx) 63 7) dX8_coinTakenOff_55 fg_X8_210 rfl rfl (ST_8 (ST_go hc hp (by omega) n m A _ _ (by omega) h2)) rfl ?_
      refine V.aload_n dX8_coinTakenOff_58 rfl rfl rfl ?_
      refine V.getr dX8_coinTakenOff_59 fg_X8_10 rfl rfl rfl ?_
      refine V.geti (v := R 63 7) dX8_coinTakenOff_62 fg_X8_210 rfl rfl (by rw [pass_k (by decide), toX_k (by decide)]; exact h8) rfl ?_
      refine V.isub (v := (mGo c cc n m (toR x n Gx) 63 7) - (R 63 7)) dX8_coinTakenOff_65 rfl rfl ?_
      exact V.ret dX8_coinTakenOff_66 rfl rfl ⟨rfl, rfl⟩
    · skip
      refine V.aload_n dX8_coinTakenOff_29 rfl rfl rfl ?_
      refine V.getr dX8_coinTakenOff_30 fg_X8_19 rfl rfl rfl ?_
      refine V.getr dX8_coinTakenOff_33 fg_X8_71 rfl rfl rfl ?_
      refine V.iload_n dX8_coinTakenOff_36 rfl rfl rfl ?_
      refine V.iconst (v := 3) dX8_coinTakenOff_37 rfl rfl ?_
      refine V.callv_i (M1 := layM 27 x 3 (eBecM 27 40 M')) (v := layV 27 x 3 (eBecM 27 40 M')) (md' := m_X4_lay) (As := [.int (nI x), .int 3]) (rest := []) dX8_coinTakenOff_38 ml_X8_129 mo_X4_lay ⟨Nat.le_of_ble_eq_true rfl, Nat.le_of_ble_eq_true rfl⟩ rfl ⟨_, _, rfl⟩ (Nat.le_of_ble_eq_true rfl) rfl rfl (Nat.le_of_ble_eq_true rfl) (v_X4_lay isE27 (b := x) (by omega) 3 (eBecM 27 40 M')) rfl ?_
      refine V.pop dX8_coinTakenOff_41 rfl rfl ?_
      refine V.aload_n dX8_coinTakenOff_42 rfl rfl rfl ?_
      refine V.getr dX8_coinTakenOff_43 fg_X8_19 rfl rfl rfl ?_
      refine V.iload_n dX8_coinTakenOff_46 rfl rfl rfl ?_
      refine V.callv_i (M1 := passG 27 c cc p n m (toX x n Gx M')) (v := cnF c cc n m (toR x n Gx) (toR x n Gx)) (md' := m_X2_pass) (As := [.int (nI n)]) (rest := []) dX8_coinTakenOff_47 ml_X8_205 mo_X2_pass ⟨Nat.le_of_ble_eq_true rfl, Nat.le_of_ble_eq_true rfl⟩ rfl ⟨_, _, rfl⟩ (Nat.le_of_ble_eq_true rfl) rfl rfl (Nat.le_of_ble_eq_true rfl) (by rw [show (layM 27 x 3 (eBecM 27 40 M')) = toX x n Gx M' from by rw [toX, if_pos ⟨by omega, c26⟩]]; exact v_passT isE27 hc hcc hp (k := n) (by omega) (by omega) (by omega) (by omega) h2 h7) rfl ?_
      refine V.pop dX8_coinTakenOff_50 rfl rfl ?_
      refine V.aload_n dX8_coinTakenOff_51 rfl rfl rfl ?_
      refine V.getr dX8_coinTakenOff_52 fg_X8_19 rfl rfl rfl ?_
      refine V.geti (v := mGo c cc n m (toR x n Gx) 63 7) dX8_coinTakenOff_55 fg_X8_210 rfl rfl (ST_8 (ST_go hc hp (by omega) n m A _ _ (by omega) h2)) rfl ?_
      refine V.aload_n dX8_coinTakenOff_58 rfl rfl rfl ?_
      refine V.getr dX8_coinTakenOff_59 fg_X8_10 rfl rfl rfl ?_
      refine V.geti (v := R 63 7) dX8_coinTakenOff_62 fg_X8_210 rfl rfl (by rw [pass_k (by decide), toX_k (by decide)]; exact h8) rfl ?_
      refine V.isub (v := (mGo c cc n m (toR x n Gx) 63 7) - (R 63 7)) dX8_coinTakenOff_65 rfl rfl ?_
      exact V.ret dX8_coinTakenOff_66 rfl rfl ⟨rfl, rfl⟩
theorem mn_60 {k : Nat} (hk : k ≤ 120) : (if (60 : Int32) < nI k then 60 else nI k) = nI (mnN 60 k) := by
  unfold mnN
  by_cases h : 60 < k
  · rw [if_pos (show (60 : Int32) < nI k from (nI_ltI (a := 60) (b := k) (by decide) (by omega)).mpr h), if_pos h]
    rfl
  · rw [if_neg (show ¬ (60 : Int32) < nI k from fun z => h ((nI_ltI (a := 60) (b := k) (by decide) (by omega)).mp z)), if_neg h]
theorem best_stay {f g : Nat → Int32} : ∀ (n i : Nat) (b mo : Int32), (∀ j, i ≤ j → j < i + n → ¬ mo < f j) → bestG f g n i b mo = b := by
  intro n
  induction n with
  | zero => intro i b mo h; rfl
  | succ n ih =>
    intro i b mo h
    simp only [bestG]
    rw [if_neg (h i (Nat.le_refl i) (by omega)), if_neg (h i (Nat.le_refl i) (by omega))]
    exact ih (i + 1) b mo (fun j h1 h2 => h j (by omega) (by omega))
theorem tk_to {c cc k m x i : Nat} (hi : i ≤ k) (R : Mem) : tkF c cc k m x R i = cnF c cc (k - i) (m + i) (toR x (k - i) (mGo c cc i m (SV R))) R := by
  have e : mnN i k = i := by unfold mnN; split <;> omega
  unfold tkF tkM toR
  rw [e]
  by_cases q : i < k
  · by_cases z : mGo c cc i m (SV R) 63 (20 + 5 * x + 4) = 4
    · rw [if_neg (fun y => y.2 z), if_neg (fun y => y.2 z)]
    · rw [if_pos ⟨q, z⟩, if_pos ⟨by omega, z⟩]
  · rw [if_neg (fun y => q y.1), if_neg (fun y => absurd y.1 (by omega))]
theorem tk_late {c cc k m x i : Nat} (hi : k ≤ i) (R : Mem) : tkF c cc k m x R i = tkF c cc k m x R k := by
  have e : mnN i k = k := by unfold mnN; split <;> omega
  have e2 : mnN k k = k := by unfold mnN; split <;> rfl
  unfold tkF tkM
  rw [e, e2, if_neg (fun y => absurd y.1 (by omega)), if_neg (fun y => absurd y.1 (by omega))]
theorem mGo_1 {c cc : Nat} : ∀ (n m : Nat) (R : Mem), mGo c cc (n + 1) m R = mMin c cc (m + n) (mGo c cc n m R) := by
  intro n
  induction n with
  | zero => intro m R; rfl
  | succ n ih =>
    intro m R
    rw [show mGo c cc (n + 1 + 1) m R = mGo c cc (n + 1) (m + 1) (mMin c cc m R) from rfl, ih, show m + 1 + n = m + (n + 1) by omega]
    rfl
theorem l_X8_takeOff {c : Nat} (hc : c ≤ 10) {cc : Nat} (hcc : cc ≤ 12) {p : Nat} (hp : p ≤ 99) {m : Nat} (hm : m ≤ 999) {A B : Nat} (hA : A ≤ 5000) (hB : B ≤ 10000) (M R : Mem) (hV : ST 1 c cc p m A B M R) {k x : Nat} (hx : x < c) (hk1 : 1 ≤ k) (hk : k ≤ 120) (v : Int32) : ∀ (n i N : Nat) (b mo : Int32) (M' : Mem), FR M' M → ST 40 c cc p (m + i) (A + i) B M' (mGo c cc i m (SV R)) → CI i b mo M' → (k < i → ¬ mo < tkF c cc k m x R k) → i + n = mnN 60 k + 1 → N + i = 61 → bestG (tkF c cc k m x R) nI N i b mo = v → V m_X8_takeOff 77 [(0, .ref 0), (1, .int (nI x)), (2, .int (nI k)), (3, .int (nI (mnN 60 k))), (4, .int (nI i))] [] M' (QA v M) := by
  intro n
  have hL : mnN 60 k ≤ 60 ∧ mnN 60 k ≤ k ∧ (mnN 60 k = 60 ∨ mnN 60 k = k) := by unfold mnN; split <;> omega
  induction n with
  | zero =>
    intro i N b mo M' hF hW hC hS hi hN hv
    have hb0 : M' 53 0 = v := by
      rw [CI_end (by omega) hC, ← hv]
      refine (best_stay N i b mo (fun j h1 h2 => ?_)).symm
      rw [tk_late (by omega)]
      exact hS (by omega)
    refine V.iload dX8_takeOff_77 rfl rfl ?_
    refine V.iload_n dX8_takeOff_79 rfl rfl rfl ?_
    refine V.icmp_gt (tgt := 116) dX8_takeOff_80 rfl rfl (fun c80 => ?_) (fun c80 => absurd ((nI_ltI (a := mnN 60 k) (b := i) (by omega) (by omega)).mpr (by omega)) c80)
    have c80 : mnN 60 k < i := (nI_ltI (a := mnN 60 k) (b := i) (by omega) (by omega)).mp c80
    refine V.aload_n dX8_takeOff_116 rfl rfl rfl ?_
    refine V.getr dX8_takeOff_117 fg_X8_28 rfl rfl rfl ?_
    refine V.geti (v := v) dX8_takeOff_120 fg_X8_261 rfl rfl hb0 rfl ?_
    exact V.ret dX8_takeOff_123 rfl rfl (⟨rfl, hF⟩)
  | succ n ih =>
    intro i N b mo M' hF hW hC hS hi hN hv
    obtain ⟨N', rfl⟩ : ∃ N', N = N' + 1 := ⟨N - 1, by omega⟩
    have h2 := ST_to (x := x) (n := k - i) hc hcc hp hx hW
    have h18 : M' 1 8 = R 63 7 := by rw [hF 1 (by decide)]; exact ST_8 hV
    obtain ⟨g0, hg0, eg0⟩ := go_coin hc hcc hp i m (SV R) (ST_CNB hp (ST_R (R' := SV R) SV_63 hV))
    have hi60 := Nat.mul_le_mul_right 484800 (show i ≤ 60 by omega)
    have e7 : toR x (k - i) (mGo c cc i m (SV R)) 63 7 = R 63 7 + nI g0 := by rw [toR_7, eg0, SV_63]
    obtain ⟨g, hg, eg⟩ := cnF_I (n := k - i) (m := m + i) (g := g0) hc hcc hp (by omega) (by omega) (ST_CNB hp h2) (R := R) e7
    have et : tkF c cc k m x R i = cnF c cc (k - i) (m + i) (toR x (k - i) (mGo c cc i m (SV R))) R := tk_to (by omega) R
    have eg' : tkF c cc k m x R i = nI g := et.trans eg
    have hWo : ST 40 c cc p (m + i) (A + i) B (offerM (passG 27 c cc p (k - i) (m + i) (toX x (k - i) (mGo c cc i m (SV R)) M')) (nI i) (tkF c cc k m x R i)) (mGo c cc i m (SV R)) := ST_M (fun a h1 h3 => by unfold offerM; split <;> first | (rw [ms_k (by omega), ms_k (by omega), pass_k (by omega), toX_k (by omega)]) | (rw [pass_k (by omega), toX_k (by omega)])) hW
    refine V.iload dX8_takeOff_77 rfl rfl ?_
    refine V.iload_n dX8_takeOff_79 rfl rfl rfl ?_
    refine V.icmp_gt (tgt := 116) dX8_takeOff_80 rfl rfl (fun c80 => absurd ((nI_ltI (a := mnN 60 k) (b := i) (by omega) (by omega)).mp c80) (by omega)) (fun c80 => ?_)
    have c80 : ¬ mnN 60 k < i := fun zq => c80 ((nI_ltI (a := mnN 60 k) (b := i) (by omega) (by omega)).mpr zq)
    refine V.aload_n dX8_takeOff_83 rfl rfl rfl ?_
    refine V.getr dX8_takeOff_84 fg_X8_28 rfl rfl rfl ?_
    refine V.iload dX8_takeOff_87 rfl rfl ?_
    refine V.aload_n dX8_takeOff_89 rfl rfl rfl ?_
    refine V.iload_n dX8_takeOff_90 rfl rfl rfl ?_
    refine V.iload_n dX8_takeOff_91 rfl rfl rfl ?_
    refine V.iload dX8_takeOff_92 rfl rfl ?_
    refine V.isub (v := nI (k - i)) dX8_takeOff_94 (pk_sub (by omega)) rfl ?_
    refine V.callv_i (M1 := passG 27 c cc p (k - i) (m + i) (toX x (k - i) (mGo c cc i m (SV R)) M')) (v := tkF c cc k m x R i) (md' := m_X8_coinTakenOff) (As := [.int (nI x), .int (nI (k - i))]) (rest := [.int (nI i), .ref 53]) dX8_takeOff_95 ml_X8_255 mo_X8_coinTakenOff ⟨Nat.le_of_ble_eq_true rfl, Nat.le_of_ble_eq_true rfl⟩ rfl ⟨_, _, rfl⟩ (Nat.le_of_ble_eq_true rfl) rfl rfl (Nat.le_of_ble_eq_true rfl) (by rw [et]; exact v_X8_coinTakenOff hc hcc hp (m := m + i) (by omega) (A := A + i) (by omega) hB (n := k - i) (by omega) hx M' R _ hW h18) rfl ?_
    refine V.callv_v (M1 := offerM (passG 27 c cc p (k - i) (m + i) (toX x (k - i) (mGo c cc i m (SV R)) M')) (nI i) (tkF c cc k m x R i)) (md' := m_X0_offer) (As := [.int (nI i), .int (tkF c cc k m x R i)]) (rest := []) dX8_takeOff_98 ml_X8_258 mo_X0_offer ⟨Nat.le_of_ble_eq_true rfl, Nat.le_of_ble_eq_true rfl⟩ rfl ⟨_, _, rfl⟩ (Nat.le_of_ble_eq_true rfl) rfl rfl (Nat.le_of_ble_eq_true rfl) (v_X0_offer _ (nI i) (tkF c cc k m x R i)) rfl ?_
    refine V.aload_n dX8_takeOff_101 rfl rfl rfl ?_
    refine V.getr dX8_takeOff_102 fg_X8_22 rfl rfl rfl ?_
    refine V.iconst (v := 1) dX8_takeOff_105 rfl rfl ?_
    refine V.callv_i (M1 := passG 40 c cc p 1 (m + i) (offerM (passG 27 c cc p (k - i) (m + i) (toX x (k - i) (mGo c cc i m (SV R)) M')) (nI i) (tkF c cc k m x R i))) (v := cnF c cc 1 (m + i) (mGo c cc i m (SV R)) (mGo c cc i m (SV R))) (md' := m_X2_pass) (As := [.int 1]) (rest := []) dX8_takeOff_106 ml_X8_205 mo_X2_pass ⟨Nat.le_of_ble_eq_true rfl, Nat.le_of_ble_eq_true rfl⟩ rfl ⟨_, _, rfl⟩ (Nat.le_of_ble_eq_true rfl) rfl rfl (Nat.le_of_ble_eq_true rfl) (v_passT isE40 hc hcc hp (m := m + i) (A := A + i) (k := 1) (by omega) (by omega) (by omega) (by omega) hWo (R := mGo c cc i m (SV R)) (ST_8 hWo)) rfl ?_
    refine V.pop dX8_takeOff_109 rfl rfl ?_
    refine V.inc (v := nI (i + 1)) dX8_takeOff_110 rfl (nI_1 _) (by decide) (L' := [(0, .ref 0), (1, .int (nI x)), (2, .int (nI k)), (3, .int (nI (mnN 60 k))), (4, .int (nI (i + 1)))]) rfl rfl ?_
    refine V.goto (pc' := 77) dX8_takeOff_113 rfl ?_
    have hC2 := CI_step eg' hg (nnI (k := i) (by omega)) (CI_53 (M' := passG 27 c cc p (k - i) (m + i) (toX x (k - i) (mGo c cc i m (SV R)) M')) (by rw [pass_k (by decide), toX_k (by decide)]) hC)
    refine ih (i + 1) N' _ _ _ (FR_pass (by decide) (by decide) (FR_offer (FR_pass (by decide) (by decide) (FR_to hF)))) (by rw [mGo_1]; exact ST_min (m := m + i) (A := A + i) hc hp (by omega) (by omega) hWo) (CI_53 (by rw [pass_k (by decide)]) hC2) (fun hki => ?_) (by omega) (by omega) hv
    have e9 : i = k := by omega
    subst e9
    by_cases q : mo < tkF c cc i m x R i
    · rw [if_pos q]; exact Int32.not_lt.mpr Int32.le_rfl
    · rw [if_neg q]; exact q
theorem v_X8_takeOff {c : Nat} (hc : c ≤ 10) {cc : Nat} (hcc : cc ≤ 12) {p : Nat} (hp : p ≤ 99) {m : Nat} (hm : m ≤ 999) {A B : Nat} (hA : A ≤ 5000) (hB : B ≤ 10000) (M R : Mem) (hV : ST 1 c cc p m A B M R) (x n : Int32) (hF61 : F61 M R) : V m_X8_takeOff 0 [(0, .ref 0), (1, .int x), (2, .int n)] [] M (PQ (pTakeOff c cc m x n R) M) := by
  obtain ⟨hM, h2, h0, hP⟩ := ST_cnt hV
  refine V.aload_n dX8_takeOff_0 rfl rfl rfl ?_
  refine V.iload_n dX8_takeOff_1 rfl rfl rfl ?_
  refine V.callv_i (M1 := M) (v := if isB c x then 1 else 0) (md' := m_X8_isBatch) (As := [.int x]) (rest := []) dX8_takeOff_2 ml_X8_84 mo_X8_isBatch ⟨Nat.le_of_ble_eq_true rfl, Nat.le_of_ble_eq_true rfl⟩ rfl ⟨_, _, rfl⟩ (Nat.le_of_ble_eq_true rfl) rfl rfl (Nat.le_of_ble_eq_true rfl) (v_X8_isBatch hc x M hM) rfl ?_
  refine V.ifb_eq (tgt := 15) dX8_takeOff_5 rfl rfl (fun c5 => ?_) (fun c5 => ?_)
  · skip
    refine V.aload_n dX8_takeOff_15 rfl rfl rfl ?_
    refine V.iconst (v := 0) dX8_takeOff_16 rfl rfl ?_
    refine V.callv_i (M1 := cfd 0 M) (v := -1000001) (md' := m_X8_finding) (As := [.int 0]) (rest := []) dX8_takeOff_17 ml_X8_67 mo_X8_finding ⟨Nat.le_of_ble_eq_true rfl, Nat.le_of_ble_eq_true rfl⟩ rfl ⟨_, _, rfl⟩ (Nat.le_of_ble_eq_true rfl) rfl rfl (Nat.le_of_ble_eq_true rfl) (v_X8_finding (w := 0) (by decide) (f := -1000001) (by decide +kernel) _) rfl ?_
    exact V.ret dX8_takeOff_20 rfl rfl (PQ_f (w := 0) hF61 (by first | (simp (decide := true) [pTakeOff, c5]; done) | (simp (decide := true) [pTakeOff, c5]; done) | (simp (decide := true) [pTakeOff, c5]; done) | (simp_all (decide := true) [pTakeOff]; done) | (simp_all (decide := true) [pTakeOff, ltF, leF, ltFN, leFN]; done)))
  · skip
    refine V.iload_n dX8_takeOff_8 rfl rfl rfl ?_
    refine V.calls_i (M1 := M) (v := if rng 1 120 n then 1 else 0) (md' := m_X8_isPlan) (As := [.int n]) (rest := []) dX8_takeOff_9 ml_X8_196 mo_X8_isPlan ⟨Nat.le_of_ble_eq_true rfl, Nat.le_of_ble_eq_true rfl⟩ (Nat.le_of_ble_eq_true rfl) rfl rfl (Nat.le_of_ble_eq_true rfl) (v_X8_isPlan n _) rfl ?_
    refine V.ifb_ne (tgt := 21) dX8_takeOff_12 rfl rfl (fun c12 => ?_) (fun c12 => ?_)
    · skip
      obtain ⟨x, hx, rfl⟩ := of_isB c5
      · have ex : (nI x).toNatClampNeg = x := nI_clamp (by omega)
        obtain ⟨k, hk, rfl⟩ := of_rng1 (b := 120) c12
        have ek : (nI k).toNatClampNeg = k := nI_clamp (by omega)
        refine V.aload_n dX8_takeOff_21 rfl rfl rfl ?_
        refine V.getr dX8_takeOff_22 fg_X8_10 rfl rfl rfl ?_
        refine V.getr dX8_takeOff_25 fg_X8_71 rfl rfl rfl ?_
        refine V.iload_n dX8_takeOff_28 rfl rfl rfl ?_
        refine V.callv_i (M1 := M) (v := if R 63 (20 + 5 * x + 4) = 1 ∨ R 63 (20 + 5 * x + 4) = 2 then 1 else 0) (md' := m_X4_isOverFire) (As := [.int (nI x)]) (rest := []) dX8_takeOff_29 ml_X8_244 mo_X4_isOverFire ⟨Nat.le_of_ble_eq_true rfl, Nat.le_of_ble_eq_true rfl⟩ rfl ⟨_, _, rfl⟩ (Nat.le_of_ble_eq_true rfl) rfl rfl (Nat.le_of_ble_eq_true rfl) (by have hz := v_X4_isOverFire isE1 (b := x) (by omega) M; rw [show M (1+6) x = R 63 (20 + 5 * x + 4) from (ST_b hV hx).2.2.2.2] at hz; exact hz) rfl ?_
        refine V.ifb_eq (tgt := 43) dX8_takeOff_32 rfl rfl (fun c32 => ?_) (fun c32 => ?_)
        · skip
          refine V.aload_n dX8_takeOff_43 rfl rfl rfl ?_
          refine V.iconst (v := 4) dX8_takeOff_44 rfl rfl ?_
          refine V.callv_i (M1 := cfd 4 M) (v := -1000005) (md' := m_X8_finding) (As := [.int 4]) (rest := []) dX8_takeOff_45 ml_X8_67 mo_X8_finding ⟨Nat.le_of_ble_eq_true rfl, Nat.le_of_ble_eq_true rfl⟩ rfl ⟨_, _, rfl⟩ (Nat.le_of_ble_eq_true rfl) rfl rfl (Nat.le_of_ble_eq_true rfl) (v_X8_finding (w := 4) (by decide) (f := -1000005) (by decide +kernel) _) rfl ?_
          exact V.ret dX8_takeOff_48 rfl rfl (PQ_f (w := 4) hF61 (by first | (simp (decide := true) [pTakeOff, c5, c12, ex, ek, c32]; done) | (simp (decide := true) [pTakeOff, c5, c12, ex, ek, c32]; done) | (simp (decide := true) [pTakeOff, c5, c12, ex, ek, c32]; done) | (simp_all (decide := true) [pTakeOff]; done) | (simp_all (decide := true) [pTakeOff, ltF, leF, ltFN, leFN]; done)))
        · skip
          refine V.aload_n dX8_takeOff_35 rfl rfl rfl ?_
          refine V.iload_n dX8_takeOff_36 rfl rfl rfl ?_
          refine V.callv_i (M1 := M) (v := if 999 < m + k then 1 else 0) (md' := m_X8_isTooLate) (As := [.int (nI k)]) (rest := []) dX8_takeOff_37 ml_X8_199 mo_X8_isTooLate ⟨Nat.le_of_ble_eq_true rfl, Nat.le_of_ble_eq_true rfl⟩ rfl ⟨_, _, rfl⟩ (Nat.le_of_ble_eq_true rfl) rfl rfl (Nat.le_of_ble_eq_true rfl) (v_X8_isTooLate (by omega) (by omega) M h0) rfl ?_
          refine V.ifb_eq (tgt := 49) dX8_takeOff_40 rfl rfl (fun c40 => ?_) (fun c40 => ?_)
          · skip
            refine V.aload_n dX8_takeOff_49 rfl rfl rfl ?_
            refine V.getr dX8_takeOff_50 fg_X8_28 rfl rfl rfl ?_
            refine V.callv_v (M1 := ms M 53 0 (-1)) (md' := m_X0_clear) (As := []) (rest := []) dX8_takeOff_53 ml_X8_247 mo_X0_clear ⟨Nat.le_of_ble_eq_true rfl, Nat.le_of_ble_eq_true rfl⟩ rfl ⟨_, _, rfl⟩ (Nat.le_of_ble_eq_true rfl) rfl rfl (Nat.le_of_ble_eq_true rfl) (v_X0_clear _) rfl ?_
            refine V.aload_n dX8_takeOff_56 rfl rfl rfl ?_
            refine V.getr dX8_takeOff_57 fg_X8_22 rfl rfl rfl ?_
            refine V.aload_n dX8_takeOff_60 rfl rfl rfl ?_
            refine V.getr dX8_takeOff_61 fg_X8_10 rfl rfl rfl ?_
            refine V.callv_v (M1 := eBecM 40 1 (ms M 53 0 (-1))) (md' := m_X2_become) (As := [.ref 1]) (rest := []) dX8_takeOff_64 ml_X8_227 mo_X2_become ⟨Nat.le_of_ble_eq_true rfl, Nat.le_of_ble_eq_true rfl⟩ rfl ⟨_, _, rfl⟩ (Nat.le_of_ble_eq_true rfl) rfl rfl (Nat.le_of_ble_eq_true rfl) (v_X2_become isE40 isE1 (by omega) _) rfl ?_
            refine V.iload_n dX8_takeOff_67 rfl rfl rfl ?_
            refine V.bipush (v := 60) dX8_takeOff_68 (by decide) rfl ?_
            refine V.mmin (v := nI (mnN 60 k)) dX8_takeOff_70 mm_X8_250 ⟨Nat.le_of_ble_eq_true rfl, Nat.le_of_ble_eq_true rfl⟩ (mn_60 (by omega)) rfl ?_
            refine V.ist_n dX8_takeOff_73 rfl (by decide) (L' := [(0, .ref 0), (1, .int (nI x)), (2, .int (nI k)), (3, .int (nI (mnN 60 k)))]) rfl rfl ?_
            refine V.iconst (v := 0) dX8_takeOff_74 rfl rfl ?_
            refine V.ist dX8_takeOff_75 (by decide) (L' := [(0, .ref 0), (1, .int (nI x)), (2, .int (nI k)), (3, .int (nI (mnN 60 k))), (4, .int 0)]) rfl rfl ?_
            have hp9 : pTakeOff c cc m (nI x) (nI k) R = (bestG (tkF c cc k m x R) nI 61 0 0 (-1), SV R) := (by first | (simp (decide := true) [pTakeOff, c5, c12, ex, ek, c32, c40]; done) | (simp (decide := true) [pTakeOff, c5, c12, ex, ek, c32, c40]; done) | (simp (decide := true) [pTakeOff, c5, c12, ex, ek, c32, c40]; done) | (simp_all (decide := true) [pTakeOff]; done) | (simp_all (decide := true) [pTakeOff, ltF, leF, ltFN, leFN]; done))
            have hV2 := ST_40_1 hc hcc hp (ST_M (M' := ms M 53 0 (-1)) (fun a h1 h2 => ms_k (by omega)) (ST_R (R' := SV R) SV_63 hV))
            exact (l_X8_takeOff hc hcc hp hm hA hB M R hV (k := k) (x := x) hx (by omega) (by omega) _ (mnN 60 k + 1) 0 61 0 (-1) _ (FR_bec (by decide) (by decide) (FR_ms (by decide) (by decide) (FR_rf M))) hV2 (CI_53 (bec_k (by decide)) CI_0) (fun z => absurd z (by omega)) (by omega) (by omega) rfl).mono (QA_PQ hF61 SV_66 hp9)
          · skip
            refine V.aload_n dX8_takeOff_43 rfl rfl rfl ?_
            refine V.iconst (v := 4) dX8_takeOff_44 rfl rfl ?_
            refine V.callv_i (M1 := cfd 4 M) (v := -1000005) (md' := m_X8_finding) (As := [.int 4]) (rest := []) dX8_takeOff_45 ml_X8_67 mo_X8_finding ⟨Nat.le_of_ble_eq_true rfl, Nat.le_of_ble_eq_true rfl⟩ rfl ⟨_, _, rfl⟩ (Nat.le_of_ble_eq_true rfl) rfl rfl (Nat.le_of_ble_eq_true rfl) (v_X8_finding (w := 4) (by decide) (f := -1000005) (by decide +kernel) _) rfl ?_
            exact V.ret dX8_takeOff_48 rfl rfl (PQ_f (w := 4) hF61 (by first | (simp (decide := true) [pTakeOff, c5, c12, ex, ek, c32, c40]; done) | (simp (decide := true) [pTakeOff, c5, c12, ex, ek, c32, c40]; done) | (simp (decide := true) [pTakeOff, c5, c12, ex, ek, c32, c40]; done) | (simp_all (decide := true) [pTakeOff]; done) | (simp_all (decide := true) [pTakeOff, ltF, leF, ltFN, leFN]; done)))
    · skip
      refine V.aload_n dX8_takeOff_15 rfl rfl rfl ?_
      refine V.iconst (v := 0) dX8_takeOff_16 rfl rfl ?_
      refine V.callv_i (M1 := cfd 0 M) (v := -1000001) (md' := m_X8_finding) (As := [.int 0]) (rest := []) dX8_takeOff_17 ml_X8_67 mo_X8_finding ⟨Nat.le_of_ble_eq_true rfl, Nat.le_of_ble_eq_true rfl⟩ rfl ⟨_, _, rfl⟩ (Nat.le_of_ble_eq_true rfl) rfl rfl (Nat.le_of_ble_eq_true rfl) (v_X8_finding (w := 0) (by decide) (f := -1000001) (by decide +kernel) _) rfl ?_
      exact V.ret dX8_takeOff_20 rfl rfl (PQ_f (w := 0) hF61 (by first | (simp (decide := true) [pTakeOff, c5, c12]; done) | (simp (decide := true) [pTakeOff, c5, c12]; done) | (simp (decide := true) [pTakeOff, c5, c12]; done) | (simp_all (decide := true) [pTakeOff]; done) | (simp_all (decide := true) [pTakeOff, ltF, leF, ltFN, leFN]; done)))
