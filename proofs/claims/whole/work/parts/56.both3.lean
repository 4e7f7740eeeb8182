/-! The other operations, in both -/
theorem minM_c {e c cc p m a : Nat} {M : Mem} (h0 : a ≠ e) (h3 : a ≠ e + 3) (h4 : a ≠ e + 4) (h5 : a ≠ e + 5) (h6 : a ≠ e + 6) (h11 : a ≠ e + 11) : minM e c cc p m M a = M a := by
  unfold minM
  rw [ms_k h0, m4M_k h0 h3 h4 h5 h6, m1M_k h0 h11]
theorem pass_c {e c cc p a : Nat} (h0 : a ≠ e) (h3 : a ≠ e + 3) (h4 : a ≠ e + 4) (h5 : a ≠ e + 5) (h6 : a ≠ e + 6) (h11 : a ≠ e + 11) : ∀ (n m : Nat) (M : Mem), passG e c cc p n m M a = M a := by
  intro n
  induction n with
  | zero => intro m M; rfl
  | succ n ih => intro m M; simp only [passG]; rw [ih, minM_c h0 h3 h4 h5 h6 h11]
/-- kinds and spots on the class's side are those of the reference -/
theorem KI_V {c cc cc' p p' m m' A A' B B' : Nat} {M M' R R' : Mem} (h3 : ∀ b, b < c → M' 3 b = M 3 b) (h13 : ∀ k, k < 10 → M' 13 k = M 13 k) (hV : ST 1 c cc p m A B M R) (hV' : ST 1 c cc' p' m' A' B' M' R') (hK : KI c R) : KI c R' := by
  obtain ⟨b1, -, -, -, -, -, -, -, -, -, -, -, -, -, -, -, -, t1, -⟩ := hV
  obtain ⟨b2, -, -, -, -, -, -, -, -, -, -, -, -, -, -, -, -, t2, -⟩ := hV'
  exact KI_of (fun b hb => ((b2 b hb).1.symm.trans (h3 b hb)).trans (b1 b hb).1) (fun k hk => ((t2 k hk).symm.trans (h13 k hk)).trans (t1 k hk)) hK
theorem g_minutes {B : Nat} (hB : B ≤ 9000) {M : Mem} (hR : RQ B M M) {c : Nat} (hc : c ≤ 10) {cc : Nat} (hcc : cc ≤ 12) {p : Nat} (hp : p ≤ 99) {m : Nat} (hm : m ≤ 999) (hV : ST 1 c cc p m (999 + m) B M M) (hK : KI c M) (n : Int32) : GR B M (cMinutes c cc m p n M) (pMinutes c cc m n M) := by
  unfold cMinutes pMinutes
  by_cases h1 : rng 1 120 n = true
  · rw [if_neg (not_not_intro h1), if_neg (not_not_intro h1)]
    obtain ⟨k, ⟨hk1, hk⟩, rfl⟩ := of_rng1 (b := 120) h1
    have ek : (nI k).toNatClampNeg = k := nI_clamp (by omega)
    rw [ek]
    by_cases h2 : 999 < m + k
    · rw [if_pos h2, if_pos h2]
      exact GR_f hR
    · rw [if_neg h2, if_neg h2]
      have hV2 : ST 1 c cc p (m + k) (999 + m + k) B (passG 1 c cc p k m M) (mGo c cc k m M) := ST_go hc hp (by omega) k m (999 + m) M M (by omega) hV
      have e1 : M 1 11 = M 63 10 := hV.2.2.1
      have e2 : passG 1 c cc p k m M 1 11 = mGo c cc k m M 63 10 := hV2.2.2.1
      exact GR_ev hR (by rw [e1, e2]) (fun a z => pass_k (by omega) k m M) (fun a z1 z2 => mGo_k z2 k m M) (EV_mk hc hcc hp (by omega) (ST_mono (by omega) (Nat.le_refl _) hV2) (KI_V (fun b _ => by rw [pass_c (by decide) (by decide) (by decide) (by decide) (by decide) (by decide)]) (fun b _ => by rw [pass_c (by decide) (by decide) (by decide) (by decide) (by decide) (by decide)]) hV hV2 hK))
  · rw [if_pos h1, if_pos h1]
    exact GR_f hR
theorem o_minutes {B : Nat} (hB : B ≤ 9000) {M : Mem} (hR : RQ B M M) (n : Int32) : OP m_X8_minutes m_X9_minutes [.int n] B M := by
  have hR0 := hR
  obtain ⟨⟨c, cc, p, m, hc, hcc, hp, hm, hV, hK⟩, hKE, hTA, hF, hSH⟩ := hR
  obtain ⟨hM, h2, h0, hP⟩ := ST_cnt hV
  refine op_gr (a := cMinutes c cc m p n M) (b := pMinutes c cc m n M) (v_X8_minutes hc hcc (by omega) (by omega) n M hM h2 h0 hP (RV_WE (ST_RV hp hV) (ST_BR hp (by omega) hV))) (g_minutes hB hR0 hc hcc hp hm hV hK n) (fun M1 h => ?_)
  have hV1 : ST 1 c cc p m (999 + m) B M M1 := ST_R (h 63 (by decide)) hV
  obtain ⟨r1, r2, r0⟩ := ST_si hV1
  exact ref_ov (f := pMinutes c cc m n) h (fun _ _ => ov_pMinutes) (v_X9_minutes hc hcc (by omega) n M1 r1 r2 r0 (WM_of_ST hp (by omega) hV1))
theorem g_now {B : Nat} (hB : B ≤ 9000) {M : Mem} (hR : RQ B M M) {c : Nat} (hc : c ≤ 10) {cc : Nat} (hcc : cc ≤ 12) {p : Nat} (hp : p ≤ 99) {m : Nat} (hm : m ≤ 999) (hV : ST 1 c cc p m (999 + m) B M M) (hK : KI c M) (w : Int32) : GR B M (cNow c w M) (pNow c w M) := by
  unfold cNow pNow
  obtain ⟨hb, h8, h11, s5, h13, h9, h7, h6, h5, hcr, hd, hc1, hc7, h4, h10, h12, h14, hs, s1, s2, s0, s4, sd, sg, sa, s9, s8, s6, sm⟩ := id hV
  by_cases w0 : w = 0
  · rw [if_pos w0, if_pos w0]
    exact GR_v (h7) hR
  rw [if_neg w0, if_neg w0]
  by_cases w1 : w = 1
  · rw [if_pos w1, if_pos w1]
    exact GR_v (h8) hR
  rw [if_neg w1, if_neg w1]
  by_cases w2 : w = 2
  · rw [if_pos w2, if_pos w2]
    exact GR_v (h4) hR
  rw [if_neg w2, if_neg w2]
  by_cases w3 : w = 3
  · rw [if_pos w3, if_pos w3]
    exact GR_v (h9) hR
  rw [if_neg w3, if_neg w3]
  by_cases w4 : w = 4
  · rw [if_pos w4, if_pos w4]
    exact GR_v (h10) hR
  rw [if_neg w4, if_neg w4]
  by_cases w5 : w = 5
  · rw [if_pos w5, if_pos w5]
    exact GR_v (h11) hR
  rw [if_neg w5, if_neg w5]
  by_cases w6 : w = 6
  · rw [if_pos w6, if_pos w6]
    exact GR_v (h12) hR
  rw [if_neg w6, if_neg w6]
  by_cases w7 : w = 7
  · rw [if_pos w7, if_pos w7]
    exact GR_v (h13) hR
  rw [if_neg w7, if_neg w7]
  by_cases w8 : w = 8
  · rw [if_pos w8, if_pos w8]
    exact GR_v (sum_rot hd) hR
  rw [if_neg w8, if_neg w8]
  exact GR_f hR
theorem o_now {B : Nat} (hB : B ≤ 9000) {M : Mem} (hR : RQ B M M) (w : Int32) : OP m_X8_now m_X9_now [.int w] B M := by
  have hR0 := hR
  obtain ⟨⟨c, cc, p, m, hc, hcc, hp, hm, hV, hK⟩, hKE, hTA, hF, hSH⟩ := hR
  obtain ⟨hM, h2, h0, hP⟩ := ST_cnt hV
  refine op_gr (a := cNow c w M) (b := pNow c w M) (v_X8_now hc w M hM) (g_now hB hR0 hc hcc hp hm hV hK w) (fun M1 h => ?_)
  have hV1 : ST 1 c cc p m (999 + m) B M M1 := ST_R (h 63 (by decide)) hV
  obtain ⟨r1, r2, r0⟩ := ST_si hV1
  exact ref_ov (f := pNow c w) h (fun _ _ => ov_pNow) (v_X9_now hc w M1 r1)
theorem g_at {B : Nat} (hB : B ≤ 9000) {M : Mem} (hR : RQ B M M) {c : Nat} (hc : c ≤ 10) {cc : Nat} (hcc : cc ≤ 12) {p : Nat} (hp : p ≤ 99) {m : Nat} (hm : m ≤ 999) (hV : ST 1 c cc p m (999 + m) B M M) (hK : KI c M) (q : Int32) : GR B M (cAt c q M) (pAt c q M) := by
  unfold cAt pAt
  by_cases h1 : rng 0 4 q = true
  · rw [if_pos h1, if_pos h1]
    exact GR_v (setG_congr _ _ _ (fun j _ hj => (ST_b hV (by omega)).2.2.2.2)) hR
  · rw [if_neg h1, if_neg h1]
    exact GR_f hR
theorem o_at {B : Nat} (hB : B ≤ 9000) {M : Mem} (hR : RQ B M M) (q : Int32) : OP m_X8_at m_X9_at [.int q] B M := by
  have hR0 := hR
  obtain ⟨⟨c, cc, p, m, hc, hcc, hp, hm, hV, hK⟩, hKE, hTA, hF, hSH⟩ := hR
  obtain ⟨hM, h2, h0, hP⟩ := ST_cnt hV
  refine op_gr (a := cAt c q M) (b := pAt c q M) (v_X8_at hc q M hM) (g_at hB hR0 hc hcc hp hm hV hK q) (fun M1 h => ?_)
  have hV1 : ST 1 c cc p m (999 + m) B M M1 := ST_R (h 63 (by decide)) hV
  obtain ⟨r1, r2, r0⟩ := ST_si hV1
  exact ref_ov (f := pAt c q) h (fun _ _ => ov_pAt) (v_X9_at hc q M1 r1)
theorem g_seed {B : Nat} (hB : B ≤ 9000) {M : Mem} (hR : RQ B M M) {c : Nat} (hc : c ≤ 10) {cc : Nat} (hcc : cc ≤ 12) {p : Nat} (hp : p ≤ 99) {m : Nat} (hm : m ≤ 999) (hV : ST 1 c cc p m (999 + m) B M M) (hK : KI c M) (v : Int32) : GR B M (cSeed c v M) (pSeed c v M) := by
  unfold cSeed pSeed
  obtain ⟨hb, h8, h11, s5, h13, h9, h7, h6, h5, hcr, hd, hc1, hc7, h4, h10, h12, h14, hs, s1, s2, s0, s4, sd, sg, sa, s9, s8, s6, sm⟩ := id hV
  exact GR_ev hR h14 (fun a z => ms_k (by omega)) (fun a z1 z2 => ms_k z2) (EV_mk hc hcc hp hm (ST_seed v hV) (KI_ms (by decide) hK))
theorem o_seed {B : Nat} (hB : B ≤ 9000) {M : Mem} (hR : RQ B M M) (v : Int32) : OP m_X8_seed m_X9_seed [.int v] B M := by
  have hR0 := hR
  obtain ⟨⟨c, cc, p, m, hc, hcc, hp, hm, hV, hK⟩, hKE, hTA, hF, hSH⟩ := hR
  obtain ⟨hM, h2, h0, hP⟩ := ST_cnt hV
  refine op_gr (a := cSeed c v M) (b := pSeed c v M) (v_X8_seed hc v M hM) (g_seed hB hR0 hc hcc hp hm hV hK v) (fun M1 h => ?_)
  have hV1 : ST 1 c cc p m (999 + m) B M M1 := ST_R (h 63 (by decide)) hV
  obtain ⟨r1, r2, r0⟩ := ST_si hV1
  exact ref_ov (f := pSeed c v) h (fun _ _ => ov_pSeed) (v_X9_seed hc v M1 r1)
theorem KI_spot {c x : Nat} {v : Int32} {R : Mem} (hc : c ≤ 10) (hx : x < 10) (hv : v = -1 ∨ isB c v = true) (hK : KI c R) : KI c (ms R 63 (106 + x) v) := by
  refine ⟨fun b hb => by rw [ms_j (by omega)]; exact hK.1 b hb, fun k hk => ?_⟩
  by_cases q : k = x
  · subst q
    rw [ms_s]
    rcases hv with rfl | hv
    · exact ⟨none, rfl, fun b hb => by simp at hb⟩
    · obtain ⟨b, hb, rfl⟩ := of_isB hv
      exact ⟨some b, rfl, fun b' hb' => by simp at hb'; omega⟩
  · rw [ms_j (by omega)]; exact hK.2 k hk
theorem g_hold {B : Nat} (hB : B ≤ 9000) {M : Mem} (hR : RQ B M M) {c : Nat} (hc : c ≤ 10) {cc : Nat} (hcc : cc ≤ 12) {p : Nat} (hp : p ≤ 99) {m : Nat} (hm : m ≤ 999) (hV : ST 1 c cc p m (999 + m) B M M) (hK : KI c M) (x v : Int32) : GR B M (cHold c x v M) (pHold c x v M) := by
  unfold cHold pHold
  by_cases h1 : rng 0 9 x = true ∧ (v = -1 ∨ isB c v = true)
  · rw [if_neg (not_not_intro h1), if_neg (not_not_intro h1)]
    obtain ⟨k, hk, rfl⟩ := of_rng (b := 9) h1.1
    have ek : (nI k).toNatClampNeg = k := nI_clamp (by omega)
    rw [ek]
    exact GR_ev hR rfl (fun a z => ms_k (by omega)) (fun a z1 z2 => ms_k z2) (EV_mk hc hcc hp hm (ST_spot hc hcc (by omega) v hV) (KI_spot hc (by omega) h1.2 hK))
  · rw [if_pos h1, if_pos h1]
    exact GR_f hR
theorem o_hold {B : Nat} (hB : B ≤ 9000) {M : Mem} (hR : RQ B M M) (x v : Int32) : OP m_X8_hold m_X9_hold [.int x, .int v] B M := by
  have hR0 := hR
  obtain ⟨⟨c, cc, p, m, hc, hcc, hp, hm, hV, hK⟩, hKE, hTA, hF, hSH⟩ := hR
  obtain ⟨hM, h2, h0, hP⟩ := ST_cnt hV
  refine op_gr (a := cHold c x v M) (b := pHold c x v M) (v_X8_hold hc x v M hM) (g_hold hB hR0 hc hcc hp hm hV hK x v) (fun M1 h => ?_)
  have hV1 : ST 1 c cc p m (999 + m) B M M1 := ST_R (h 63 (by decide)) hV
  obtain ⟨r1, r2, r0⟩ := ST_si hV1
  exact ref_ov (f := pHold c x v) h (fun _ _ => ov_pHold) (v_X9_hold hc x v M1 r1)
theorem und_eq : ∀ k, k < 7 → ∀ w, w < 7 → undC (nI k) (nI w) = undP (nI k) (nI w) := by decide +kernel
theorem g_as {B : Nat} (hB : B ≤ 9000) {M : Mem} (hR : RQ B M M) {c : Nat} (hc : c ≤ 10) {cc : Nat} (hcc : cc ≤ 12) {p : Nat} (hp : p ≤ 99) {m : Nat} (hm : m ≤ 999) (hV : ST 1 c cc p m (999 + m) B M M) (hK : KI c M) (x w : Int32) : GR B M (cAs c x w M) (pAs c x w M) := by
  unfold cAs pAs
  by_cases h1 : rng 0 9 x = true ∧ rng 0 6 w = true
  · rw [if_neg (not_not_intro h1), if_neg (not_not_intro h1)]
    obtain ⟨k, hk, rfl⟩ := of_rng (b := 9) h1.1
    obtain ⟨w, hw, rfl⟩ := of_rng (b := 6) h1.2
    have ek : (nI k).toNatClampNeg = k := nI_clamp (by omega)
    rw [ek]
    have es : M 13 k = M 63 (106 + k) := by
      obtain ⟨hb, h8, h11, s5, h13, h9, h7, h6, h5, hcr, hd, hc1, hc7, h4, h10, h12, h14, hs, s1, s2, s0, s4, sd, sg, sa, s9, s8, s6, sm⟩ := hV
      exact hs k (by omega)
    obtain ⟨o, eo, ho⟩ := hK.2 k (by omega)
    rw [es, eo]
    cases o with
    | none =>
      rw [if_pos (fun z => absurd (isB_def.mp z).1 (by decide)), if_pos (show bI none < 0 by decide)]
      exact GR_f hR
    | some b =>
      have hbc := ho b rfl
      show GR B M (if ¬ isB c (nI b) = true then (-1000006, cfd 5 M) else if ¬ undC (M 3 (nI b).toNatClampNeg) (nI w) = true then (-1000003, cfd 2 M) else (nI b, M)) (if nI b < 0 then (-1000006, fdM 5 M) else if undP (M 63 (20 + 5 * (nI b).toNatClampNeg)) (nI w) = true then (nI b, M) else (-1000003, fdM 2 M))
      have eb : (nI b).toNatClampNeg = b := nI_clamp (by omega)
      rw [if_neg (not_not_intro (isB_nI (by omega) hbc)), if_neg (nnI (by omega)), eb]
      obtain ⟨kd, hkd, ekd⟩ := hK.1 b hbc
      rw [show M 3 b = M 63 (20 + 5 * b) from (ST_b hV hbc).1, ekd, und_eq kd (by omega) w (by omega)]
      by_cases h3 : undP (nI kd) (nI w) = true
      · rw [if_neg (not_not_intro h3), if_pos h3]
        exact GR_v rfl hR
      · rw [if_pos h3, if_neg h3]
        exact GR_f hR
  · rw [if_pos h1, if_pos h1]
    exact GR_f hR
theorem o_as {B : Nat} (hB : B ≤ 9000) {M : Mem} (hR : RQ B M M) (x w : Int32) : OP m_X8_as m_X9_as [.int x, .int w] B M := by
  have hR0 := hR
  obtain ⟨⟨c, cc, p, m, hc, hcc, hp, hm, hV, hK⟩, hKE, hTA, hF, hSH⟩ := hR
  obtain ⟨hM, h2, h0, hP⟩ := ST_cnt hV
  refine op_gr (a := cAs c x w M) (b := pAs c x w M) (v_X8_as hc x w M hM) (g_as hB hR0 hc hcc hp hm hV hK x w) (fun M1 h => ?_)
  have hV1 : ST 1 c cc p m (999 + m) B M M1 := ST_R (h 63 (by decide)) hV
  obtain ⟨r1, r2, r0⟩ := ST_si hV1
  exact ref_ov (f := pAs c x w) h (fun _ _ => ov_pAs) (v_X9_as hc x w M1 r1 (fun k hk => by rw [h 63 (by decide)]; obtain ⟨o, e, y⟩ := hK.2 k hk; exact ⟨o, e, fun b hb => by have z := y b hb; omega⟩))
theorem g_count {B : Nat} (hB : B ≤ 9000) {M : Mem} (hR : RQ B M M) {c : Nat} (hc : c ≤ 10) {cc : Nat} (hcc : cc ≤ 12) {p : Nat} (hp : p ≤ 99) {m : Nat} (hm : m ≤ 999) (hV : ST 1 c cc p m (999 + m) B M M) (hK : KI c M) (w : Int32) : GR B M (cCount c cc w M) (pCount c cc w M) := by
  unfold cCount pCount
  obtain ⟨t, ht, t1, t2, t3⟩ := hR.2.2.1
  obtain ⟨hb, h8, h11, s5, h13, h9, h7, h6, h5, hcr, hd, hc1, hc7, h4, h10, h12, h14, hs, s1, s2, s0, s4, sd, sg, sa, s9, s8, s6, sm⟩ := id hV
  by_cases w0 : w = 0
  · rw [if_pos w0, if_pos w0]
    exact GR_v (rfl) hR
  rw [if_neg w0, if_neg w0]
  by_cases w1 : w = 1
  · rw [if_pos w1, if_pos w1]
    exact GR_v (rfl) hR
  rw [if_neg w1, if_neg w1]
  by_cases w2 : w = 2
  · rw [if_pos w2, if_pos w2]
    exact GR_v (sumG_congr _ _ _ (fun j _ hj => (ST_b hV (by omega)).2.1)) hR
  rw [if_neg w2, if_neg w2]
  by_cases w3 : w = 3
  · rw [if_pos w3, if_pos w3]
    exact GR_v (sumG_congr _ _ _ (fun j _ hj => (hcr j (by omega)).2.2)) hR
  rw [if_neg w3, if_neg w3]
  by_cases w4 : w = 4
  · rw [if_pos w4, if_pos w4]
    exact GR_v (h5) hR
  rw [if_neg w4, if_neg w4]
  by_cases w5 : w = 5
  · rw [if_pos w5, if_pos w5]
    exact GR_v (h6) hR
  rw [if_neg w5, if_neg w5]
  by_cases w6 : w = 6
  · rw [if_pos w6, if_pos w6]
    exact GR_v (t1.trans t2.symm) hR
  rw [if_neg w6, if_neg w6]
  by_cases w7 : w = 7
  · rw [if_pos w7, if_pos w7]
    exact GR_v (h14) hR
  rw [if_neg w7, if_neg w7]
  by_cases w8 : w = 8
  · rw [if_pos w8, if_pos w8]
    exact GR_v (heldG_congr _ _ _ (fun j _ hj => hs j (by omega))) hR
  rw [if_neg w8, if_neg w8]
  exact GR_f hR
theorem o_count {B : Nat} (hB : B ≤ 9000) {M : Mem} (hR : RQ B M M) (w : Int32) : OP m_X8_count m_X9_count [.int w] B M := by
  have hR0 := hR
  obtain ⟨⟨c, cc, p, m, hc, hcc, hp, hm, hV, hK⟩, hKE, hTA, hF, hSH⟩ := hR
  obtain ⟨hM, h2, h0, hP⟩ := ST_cnt hV
  refine op_gr (a := cCount c cc w M) (b := pCount c cc w M) (v_X8_count hc hcc w M hM h2) (g_count hB hR0 hc hcc hp hm hV hK w) (fun M1 h => ?_)
  have hV1 : ST 1 c cc p m (999 + m) B M M1 := ST_R (h 63 (by decide)) hV
  obtain ⟨r1, r2, r0⟩ := ST_si hV1
  exact ref_ov (f := pCount c cc w) h (fun _ _ => ov_pCount) (v_X9_count hc hcc w M1 r1 r2)
theorem sta_m (f : Nat → Int32) : staG (-1) f 7 0 0 = sumG f 7 0 0 := by
  simp only [staG, sumG]
  rfl
theorem sta_k (f : Nat → Int32) : ∀ k, k < 7 → staG (nI k) f 7 0 0 = f k := by
  intro k hk
  rcases (show k = 0 ∨ k = 1 ∨ k = 2 ∨ k = 3 ∨ k = 4 ∨ k = 5 ∨ k = 6 by omega) with rfl | rfl | rfl | rfl | rfl | rfl | rfl <;> exact Int32.zero_add _
theorem g_status {B : Nat} (hB : B ≤ 9000) {M : Mem} (hR : RQ B M M) {c : Nat} (hc : c ≤ 10) {cc : Nat} (hcc : cc ≤ 12) {p : Nat} (hp : p ≤ 99) {m : Nat} (hm : m ≤ 999) (hV : ST 1 c cc p m (999 + m) B M M) (hK : KI c M) (w : Int32) : GR B M (cStatus c w M) (pStatus c w M) := by
  unfold cStatus pStatus
  by_cases h1 : rng (-1) 6 w = true
  · rw [if_neg (not_not_intro h1), if_neg (not_not_intro h1)]
    by_cases h2 : w < 0
    · rw [if_pos h2]
      have e : w = -1 := by
        have h3 := (rng_def.mp h1).1
        rw [Int32.lt_iff_toInt_lt] at h2
        have h4 : (0 : Int32).toInt = 0 := rfl
        exact Int32.toInt_inj.mp (show w.toInt = -1 by omega)
      rw [e]
      exact GR_v ((sumG_congr 7 0 0 (fun j _ hj => hR.2.2.2.1 j (by omega))).trans (sta_m (M 66)).symm) hR
    · rw [if_neg h2]
      obtain ⟨k, hk, rfl⟩ := of_rngm (b := 6) h1 h2
      have ek : (nI k).toNatClampNeg = k := nI_clamp (by omega)
      rw [ek]
      exact GR_v ((hR.2.2.2.1 k (by omega)).trans (sta_k (M 66) k (by omega)).symm) hR
  · rw [if_pos h1, if_pos h1]
    exact GR_f hR
theorem o_status {B : Nat} (hB : B ≤ 9000) {M : Mem} (hR : RQ B M M) (w : Int32) : OP m_X8_status m_X9_status [.int w] B M := by
  have hR0 := hR
  obtain ⟨⟨c, cc, p, m, hc, hcc, hp, hm, hV, hK⟩, hKE, hTA, hF, hSH⟩ := hR
  obtain ⟨hM, h2, h0, hP⟩ := ST_cnt hV
  refine op_gr (a := cStatus c w M) (b := pStatus c w M) (v_X8_status hc w M hM) (g_status hB hR0 hc hcc hp hm hV hK w) (fun M1 h => ?_)
  have hV1 : ST 1 c cc p m (999 + m) B M M1 := ST_R (h 63 (by decide)) hV
  obtain ⟨r1, r2, r0⟩ := ST_si hV1
  exact ref_ov (f := pStatus c w) h (fun _ _ => ov_pStatus) (v_X9_status hc w M1 r1)
theorem boy_in {c cc p m A B : Nat} (hc : c ≤ 10) (hc0 : 0 < c) : ∀ (n : Nat) (s : Int32) (M R : Mem), ST 1 c cc p m A B M R → (boyCG c n s M).1 = (boyG c n s R).1 ∧ ST 1 c cc p m A B (boyCG c n s M).2 (boyG c n s R).2 ∧ (∀ k, k ≠ 1 → k ≠ 4 → (boyCG c n s M).2 k = M k) ∧ ∀ k, k ≠ 63 → (boyG c n s R).2 k = R k := by
  intro n
  induction n with
  | zero => intro s M R hV; exact ⟨rfl, hV, fun _ _ _ => rfl, fun _ _ => rfl⟩
  | succ n ih =>
    intro s M R hV
    have e14 : M 1 14 = R 63 3 := by
      obtain ⟨hb, h8, h11, s5, h13, h9, h7, h6, h5, hcr, hd, hc1, hc7, h4, h10, h12, h14, hs, s1, s2, s0, s4, sd, sg, sa, s9, s8, s6, sm⟩ := hV
      exact h14
    have eP : boyC c M = boyP c R := by unfold boyC boyP; rw [e14]
    obtain ⟨b, hbc, eb⟩ := boy_lt hc0 hc R
    have ec : (boyP c R).toNatClampNeg = b := by rw [eb, nI_clamp (by omega)]
    have hV2 : ST 1 c cc p m A B (drawM 1 M) (mDrawM R) := by
      unfold drawM mDrawM
      rw [e14]
      exact ST_seed _ hV
    obtain ⟨q0, q1, q2, q3, q4⟩ := ST_b hV hbc
    have q4' : M 7 b = R 63 (20 + 5 * b + 4) := q4
    have q1' : M 4 b = R 63 (20 + 5 * b + 1) := q1
    simp only [boyCG, boyG]
    by_cases h1 : R 63 (20 + 5 * b + 4) = 3 ∧ 0 < R 63 (20 + 5 * b + 1)
    · have ea : boyCM c M = (true, ms (drawM 1 M) 4 b (R 63 (20 + 5 * b + 1) - 1)) := by
        unfold boyCM
        rw [eP, ec, q4', q1', if_pos h1]
      have er : boyM c R = (true, ms (mDrawM R) 63 (20 + 5 * b + 1) (R 63 (20 + 5 * b + 1) - 1)) := by
        unfold boyM
        rw [ec, if_pos h1]
      rw [ea, er]
      obtain ⟨g, hg, eg⟩ : ∃ g, g ≤ 9 ∧ R 63 (20 + 5 * b + 1) = nI g := by
        obtain ⟨hb, h8, h11, s5, h13, h9, h7, h6, h5, hcr, hd, hc1, hc7, h4, h10, h12, h14, hs, s1, s2, s0, s4, sd, sg, sa, s9, s8, s6, sm⟩ := hV
        exact sg b hbc
      have hg0 : 0 < g := (nI_gt0 (by omega)).mp (by rw [← eg]; exact h1.2)
      have ev : R 63 (20 + 5 * b + 1) - 1 = nI (g - 1) := by rw [eg]; exact nI_sub (k := 1) hg0
      obtain ⟨i1, i2, i3, i4⟩ := ih (s + 1) _ _ (ST_bags hc hbc (v := g - 1) (by omega) hV2)
      rw [ev]
      exact ⟨i1, i2, fun k h1 h4 => (i3 k h1 h4).trans ((ms_k h4).trans (ms_k h1)), fun k hk => (i4 k hk).trans ((ms_k hk).trans (ms_k hk))⟩
    · have ea : boyCM c M = (false, drawM 1 M) := by
        unfold boyCM
        rw [eP, ec, q4', q1', if_neg h1]
      have er : boyM c R = (false, mDrawM R) := by
        unfold boyM
        rw [ec, if_neg h1]
      rw [ea, er]
      obtain ⟨i1, i2, i3, i4⟩ := ih s _ _ hV2
      exact ⟨i1, i2, fun k h1 h4 => (i3 k h1 h4).trans (ms_k h1), fun k hk => (i4 k hk).trans (ms_k hk)⟩
theorem g_boys {B : Nat} (hB : B ≤ 9000) {M : Mem} (hR : RQ B M M) {c : Nat} (hc : c ≤ 10) {cc : Nat} (hcc : cc ≤ 12) {p : Nat} (hp : p ≤ 99) {m : Nat} (hm : m ≤ 999) (hV : ST 1 c cc p m (999 + m) B M M) (hK : KI c M) (n : Int32) : GR B M (cBoys c n M) (pBoys c n M) := by
  unfold cBoys pBoys
  by_cases h1 : rng 1 12 n = true
  · rw [if_neg (not_not_intro h1), if_neg (not_not_intro h1)]
    by_cases h2 : c = 0
    · rw [if_pos h2, if_pos h2]
      exact GR_f hR
    · rw [if_neg h2, if_neg h2]
      obtain ⟨i1, i2, i3, i4⟩ := boy_in hc (by omega) n.toNatClampNeg 0 M M hV
      exact GR_ev (x := (boyCG c n.toNatClampNeg 0 M).1) (y := (boyG c n.toNatClampNeg 0 M).1) hR i1 (fun a z => i3 a (by omega) (by omega)) (fun a z1 z2 => i4 a z2) (EV_mk hc hcc hp hm i2 (KI_V (fun b _ => by rw [i3 3 (by decide) (by decide)]) (fun b _ => by rw [i3 13 (by decide) (by decide)]) hV i2 hK))
  · rw [if_pos h1, if_pos h1]
    exact GR_f hR
theorem o_boys {B : Nat} (hB : B ≤ 9000) {M : Mem} (hR : RQ B M M) (n : Int32) : OP m_X8_boys m_X9_boys [.int n] B M := by
  have hR0 := hR
  obtain ⟨⟨c, cc, p, m, hc, hcc, hp, hm, hV, hK⟩, hKE, hTA, hF, hSH⟩ := hR
  obtain ⟨hM, h2, h0, hP⟩ := ST_cnt hV
  refine op_gr (a := cBoys c n M) (b := pBoys c n M) (v_X8_boys hc n M hM) (g_boys hB hR0 hc hcc hp hm hV hK n) (fun M1 h => ?_)
  have hV1 : ST 1 c cc p m (999 + m) B M M1 := ST_R (h 63 (by decide)) hV
  obtain ⟨r1, r2, r0⟩ := ST_si hV1
  exact ref_ov (f := pBoys c n) h (fun _ _ => ov_pBoys) (v_X9_boys hc n M1 r1)
theorem load_in {s z c cc p m A B : Nat} (hc : c ≤ 10) (hz : z ≤ 40) : ∀ (n i : Nat) (M R : Mem), i + n = c → i ≤ z → (∀ j, j < z → M 60 (s * 40 + j) = R 70 (40 * s + j)) → ST 1 c cc p m A B M R → (loadC s z c (mnN z c - i) i M).1 = (loadG s z c n i R).1 ∧ ST 1 c cc p m A B (loadC s z c (mnN z c - i) i M).2 (loadG s z c n i R).2 ∧ (∀ k, k ≠ 4 → (loadC s z c (mnN z c - i) i M).2 k = M k) ∧ ∀ k, k ≠ 63 → (loadG s z c n i R).2 k = R k := by
  intro n
  induction n with
  | zero =>
    intro i M R hi hiz hx hV
    have e : mnN z c - i = 0 := by unfold mnN; split <;> omega
    have e2 : mnN z c = i := by unfold mnN; split <;> omega
    rw [e]
    exact ⟨congrArg nI e2, hV, fun _ _ => rfl, fun _ _ => rfl⟩
  | succ n ih =>
    intro i M R hi hiz hx hV
    by_cases h1 : i < z
    · have e : mnN z c - i = (mnN z c - (i + 1)) + 1 := by unfold mnN; split <;> omega
      rw [e]
      simp only [loadC, loadG]
      rw [hx i h1]
      by_cases h2 : rng 0 9 (R 70 (40 * s + i)) = true
      · rw [if_pos h2, if_pos ⟨h1, h2⟩]
        obtain ⟨v, hv, ev⟩ := of_rng (b := 9) h2
        rw [ev]
        obtain ⟨i1, i2, i3, i4⟩ := ih (i + 1) (ms M 4 i (nI v)) (ms R 63 (20 + 5 * i + 1) (nI v)) (by omega) h1 (fun j hj => by rw [ms_k (by decide), ms_k (by decide)]; exact hx j hj) (ST_bags hc (by omega) hv hV)
        exact ⟨i1, i2, fun k hk => (i3 k hk).trans (ms_k hk), fun k hk => (i4 k hk).trans (ms_k hk)⟩
      · rw [if_neg h2, if_neg (fun y => h2 y.2)]
        exact ⟨rfl, hV, fun _ _ => rfl, fun _ _ => rfl⟩
    · have e : mnN z c - i = 0 := by unfold mnN; split <;> omega
      have e2 : mnN z c = i := by unfold mnN; split <;> omega
      rw [e]
      simp only [loadG]
      rw [if_neg (fun y => h1 y.1)]
      exact ⟨congrArg nI e2, hV, fun _ _ => rfl, fun _ _ => rfl⟩
theorem rng3B {x : Int32} (h : rng 0 3 x = true) : isB 4 x = true := by
  rw [isB_def]
  have := rng_def.mp h
  omega
theorem B4rng {x : Int32} (h : isB 4 x = true) : rng 0 3 x = true := by
  rw [rng_def]
  have := isB_def.mp h
  omega
theorem g_load {B : Nat} (hB : B ≤ 9000) {M : Mem} (hR : RQ B M M) {c : Nat} (hc : c ≤ 10) {cc : Nat} (hcc : cc ≤ 12) {p : Nat} (hp : p ≤ 99) {m : Nat} (hm : m ≤ 999) (hV : ST 1 c cc p m (999 + m) B M M) (hK : KI c M) (x : Int32) : GR B M (cLoad c x M) (pLoad c x M) := by
  unfold cLoad pLoad
  by_cases h1 : rng 0 3 x = true
  · rw [if_neg (not_not_intro (rng3B h1)), if_neg (not_not_intro h1)]
    obtain ⟨s, hs, rfl⟩ := of_rng (b := 3) h1
    have es : (nI s).toNatClampNeg = s := nI_clamp (by omega)
    rw [es]
    obtain ⟨z, hz, e58, e59, e69, e60, -⟩ := hR.2.2.2.2 s (by omega)
    rw [e58]
    by_cases h2 : M 68 s = 0
    · rw [if_pos h2, if_pos h2]
      exact GR_f hR
    · rw [if_neg h2, if_neg h2, e59, e69, nI_clamp (by omega)]
      obtain ⟨i1, i2, i3, i4⟩ := load_in (s := s) hc hz c 0 M M (by omega) (Nat.zero_le z) e60 hV
      rw [Nat.sub_zero] at i1 i2 i3
      exact GR_ev (x := (loadC s z c (mnN z c) 0 M).1) (y := (loadG s z c c 0 M).1) hR i1 (fun a z => i3 a (by omega)) (fun a z1 z2 => i4 a z2) (EV_mk hc hcc hp hm i2 (KI_V (fun b _ => by rw [i3 3 (by decide)]) (fun b _ => by rw [i3 13 (by decide)]) hV i2 hK))
  · rw [if_pos (fun z => h1 (B4rng z)), if_pos h1]
    exact GR_f hR
theorem o_load {B : Nat} (hB : B ≤ 9000) {M : Mem} (hR : RQ B M M) (x : Int32) : OP m_X8_load m_X9_load [.int x] B M := by
  have hR0 := hR
  obtain ⟨⟨c, cc, p, m, hc, hcc, hp, hm, hV, hK⟩, hKE, hTA, hF, hSH⟩ := hR
  obtain ⟨hM, h2, h0, hP⟩ := ST_cnt hV
  refine op_gr (a := cLoad c x M) (b := pLoad c x M) (v_X8_load hc x M hM (SHR_zc hSH)) (g_load hB hR0 hc hcc hp hm hV hK x) (fun M1 h => ?_)
  have hV1 : ST 1 c cc p m (999 + m) B M M1 := ST_R (h 63 (by decide)) hV
  obtain ⟨r1, r2, r0⟩ := ST_si hV1
  exact ref_ov (f := pLoad c x) h (fun _ _ => ov_pLoad) (v_X9_load hc x M1 r1 (fun k hk => by rw [h 69 (by decide)]; exact SHR_z hSH k hk))
