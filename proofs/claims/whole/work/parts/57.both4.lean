/-! The operations beside the evening, in both -/
/-- only the tape, the image or the sheets are touched -/
theorem GR_o {B : Nat} {x y : Int32} {M M' R' : Mem} (hR : RQ B M M) (h : x = y) (h1 : ∀ k, 62 ≤ k → M' k = M k) (hc : ∀ a, 1 ≤ a → a < 14 → M' a = M a) (hr : R' 63 = M 63) (hKE : KE (B + 9) M' R') (hTA : TA M' R') (h61 : M' 61 = M 61) (h66 : R' 66 = M 66) (hS : SHR M' R') : GR B M (x, M') (y, R') := by
  refine ⟨h, h1, ?_⟩
  show RQ (B + 9) M' R'
  exact ⟨EV_k (by omega) hc hr hR.1, hKE, hTA, F61_k h61 h66 hR.2.2.2.1, hS⟩
theorem feed_in {x : Int32} : ∀ (n t : Nat) (M R : Mem), M 55 = R 67 → feedC x n t M 55 = feedG x n t R 67 ∧ (∀ k, k ≠ 54 → k ≠ 55 → feedC x n t M k = M k) ∧ (∀ k, k ≠ 62 → k ≠ 67 → feedG x n t R k = R k) ∧ feedG x n t R 62 4 = R 62 4 ∧ (R 62 6 = nI t → feedG x n t R 62 6 = nI (t + n)) := by
  intro n
  induction n with
  | zero => intro t M R h; exact ⟨h, fun _ _ _ => rfl, fun _ _ _ => rfl, rfl, fun q => q⟩
  | succ n ih =>
    intro t M R h
    simp only [feedC, feedG]
    obtain ⟨v, ev⟩ : ∃ v, v = (x >>> (nI (8 * n) &&& 31)) &&& 255 := ⟨_, rfl⟩
    rw [← ev]
    obtain ⟨i1, i2, i3, i4, i5⟩ := ih (t + 1) (ms (ms M 55 t v) 54 1 (nI (t + 1))) (ms (ms R 67 t v) 62 6 (nI (t + 1))) (by
      rw [show ms (ms M 55 t v) 54 1 (nI (t + 1)) 55 = ms M 55 t v 55 from ms_k (by decide), show ms (ms R 67 t v) 62 6 (nI (t + 1)) 67 = ms R 67 t v 67 from ms_k (by decide)]
      funext b
      by_cases q : b = t
      · subst q; rw [ms_s, ms_s]
      · rw [ms_j q, ms_j q, h])
    refine ⟨i1, fun k h1 h2 => by rw [i2 k h1 h2, ms_k h1, ms_k h2], fun k h1 h2 => by rw [i3 k h1 h2, ms_k h1, ms_k h2], by rw [i4, ms_j (by decide), ms_k (by decide)], fun q => by rw [i5 ms_s, show t + 1 + n = t + (n + 1) by omega]⟩
theorem g_feed {B : Nat} (hB : B ≤ 9000) {M : Mem} (hR : RQ B M M) {c : Nat} (hc : c ≤ 10) {cc : Nat} (hcc : cc ≤ 12) {p : Nat} (hp : p ≤ 99) {m : Nat} (hm : m ≤ 999) (hV : ST 1 c cc p m (999 + m) B M M) (hK : KI c M) {t : Nat} (ht : t ≤ 120) (t1 : M 54 1 = nI t) (t2 : M 62 6 = nI t) (t3 : M 55 = M 67) (x n : Int32) : GR B M (cFeed c t x n M) (pFeed c t x n M) := by
  unfold cFeed pFeed
  by_cases h1 : rng 1 4 n = true
  · rw [if_neg (not_not_intro h1), if_neg (not_not_intro h1)]
    obtain ⟨k, ⟨hk1, hk⟩, rfl⟩ := of_rng1 (b := 4) h1
    have ek : (nI k).toNatClampNeg = k := nI_clamp (by omega)
    rw [ek]
    by_cases h2 : 120 < t + k
    · rw [if_pos (show ¬ t + k ≤ 120 by omega), if_pos h2]
      exact GR_f hR
    · rw [if_neg (not_not_intro (show t + k ≤ 120 by omega)), if_neg h2]
      obtain ⟨f1, f2, f3, f4, f5⟩ := feed_in (x := x) k t M M t3
      exact GR_o hR rfl (fun a z => f2 a (by omega) (by omega)) (fun a z1 z2 => f2 a (by omega) (by omega)) (f3 63 (by decide) (by decide)) (KE_k (by omega) (by rw [f2 0 (by decide) (by decide)]) (fun a z1 z2 => f2 a (by omega) (by omega)) f4 (f3 64 (by decide) (by decide)) hR.2.1) ⟨t + k, by omega, feedC_n k t M t1, f5 t2, f1⟩ (f2 61 (by decide) (by decide)) (f3 66 (by decide) (by decide)) (SHR_k (fun a z1 z2 => f2 a (by omega) (by omega)) (fun a z1 z2 => f3 a (by omega) (by omega)) hR.2.2.2.2)
  · rw [if_pos h1, if_pos h1]
    exact GR_f hR
theorem o_feed {B : Nat} (hB : B ≤ 9000) {M : Mem} (hR : RQ B M M) (x n : Int32) : OP m_X8_feed m_X9_feed [.int x, .int n] B M := by
  have hR0 := hR
  obtain ⟨⟨c, cc, p, m, hc, hcc, hp, hm, hV, hK⟩, hKE, hTA, hF, hSH⟩ := hR
  obtain ⟨hM, h2, h0, hP⟩ := ST_cnt hV
  obtain ⟨t, ht, t1, t2, t3⟩ := hTA
  refine op_gr (a := cFeed c t x n M) (b := pFeed c t x n M) (v_X8_feed hc ht x n M hM t1) (g_feed hB hR0 hc hcc hp hm hV hK ht t1 t2 t3 x n) (fun M1 h => ?_)
  have hV1 : ST 1 c cc p m (999 + m) B M M1 := ST_R (h 63 (by decide)) hV
  obtain ⟨r1, r2, r0⟩ := ST_si hV1
  exact ref_ov (f := pFeed c t x n) h (fun _ _ => ov_pFeed) (v_X9_feed hc ht x n M1 r1 (by rw [h 62 (by decide)]; exact t2))
theorem g_wipe {B : Nat} (hB : B ≤ 9000) {M : Mem} (hR : RQ B M M) {c : Nat} (hc : c ≤ 10) {cc : Nat} (hcc : cc ≤ 12) {p : Nat} (hp : p ≤ 99) {m : Nat} (hm : m ≤ 999) (hV : ST 1 c cc p m (999 + m) B M M) (hK : KI c M) {t : Nat} (ht : t ≤ 120) (t1 : M 54 1 = nI t) (t2 : M 62 6 = nI t) (t3 : M 55 = M 67) : GR B M (cWipe c M) (pWipe c M) := by
  unfold cWipe pWipe
  exact GR_o hR (t1.trans t2.symm) (fun a z => ms_k (by omega)) (fun a z1 z2 => ms_k (by omega)) (ms_k (by decide)) (KE_k (by omega) (by rw [ms_k (by decide)]) (fun a z1 z2 => ms_k (by omega)) (ms_j (by decide)) (ms_k (by decide)) hR.2.1) ⟨0, Nat.zero_le _, ms_s, ms_s, by rw [ms_k (by decide), ms_k (by decide)]; exact t3⟩ (ms_k (by decide)) (ms_k (by decide)) (SHR_k (fun a z1 z2 => ms_k (by omega)) (fun a z1 z2 => ms_k (by omega)) hR.2.2.2.2)
theorem o_wipe {B : Nat} (hB : B ≤ 9000) {M : Mem} (hR : RQ B M M) : OP m_X8_wipe m_X9_wipe [] B M := by
  have hR0 := hR
  obtain ⟨⟨c, cc, p, m, hc, hcc, hp, hm, hV, hK⟩, hKE, hTA, hF, hSH⟩ := hR
  obtain ⟨hM, h2, h0, hP⟩ := ST_cnt hV
  obtain ⟨t, ht, t1, t2, t3⟩ := hTA
  refine op_gr (a := cWipe c M) (b := pWipe c M) (v_X8_wipe hc M hM) (g_wipe hB hR0 hc hcc hp hm hV hK ht t1 t2 t3 ) (fun M1 h => ?_)
  have hV1 : ST 1 c cc p m (999 + m) B M M1 := ST_R (h 63 (by decide)) hV
  obtain ⟨r1, r2, r0⟩ := ST_si hV1
  exact ref_ov (f := pWipe c) h (fun _ _ => ov_pWipe) (v_X9_wipe hc M1 r1)
/-- the row's first 116 cells are all that counts -/
theorem ST_Rj {e c cc p m A B : Nat} {M R R' : Mem} (hc : c ≤ 10) (hcc : cc ≤ 12) (h : ∀ j, j < 116 → R' 63 j = R 63 j) (hV : ST e c cc p m A B M R) : ST e c cc p m A B M R' := by
  obtain ⟨hb, h8, h11, s5, h13, h9, h7, h6, h5, hcr, hd, hc1, hc7, h4, h10, h12, h14, hs, s1, s2, s0, s4, sd, sg, sa, s9, s8, s6, sm⟩ := hV
  exact ⟨fun b q => ⟨(hb b q).1.trans (h _ (by omega)).symm, (hb b q).2.1.trans (h _ (by omega)).symm, (hb b q).2.2.1.trans (h _ (by omega)).symm, (hb b q).2.2.2.1.trans (h _ (by omega)).symm, (hb b q).2.2.2.2.trans (h _ (by omega)).symm⟩, h8.trans (h _ (by omega)).symm, h11.trans (h _ (by omega)).symm, (h _ (by omega)).trans s5, h13.trans (h _ (by omega)).symm, h9.trans (h _ (by omega)).symm, h7.trans (h _ (by omega)).symm, h6.trans (h _ (by omega)).symm, h5.trans (h _ (by omega)).symm,
    fun i q => ⟨(hcr i q).1.trans (h _ (by omega)).symm, (hcr i q).2.1.trans (h _ (by omega)).symm, (hcr i q).2.2.trans (h _ (by omega)).symm⟩, fun k q => (hd k q).trans (h _ (by omega)).symm, hc1, hc7, h4.trans (h _ (by omega)).symm, h10.trans (h _ (by omega)).symm, h12.trans (h _ (by omega)).symm, h14.trans (h _ (by omega)).symm, fun k q => (hs k q).trans (h _ (by omega)).symm,
    (h _ (by omega)).trans s1, (h _ (by omega)).trans s2, (h _ (by omega)).trans s0, by rw [h _ (by omega)]; exact s4, fun k q => by rw [h _ (by omega)]; exact sd k q, fun b q => by rw [h _ (by omega)]; exact sg b q, fun b q => by rw [h _ (by omega)]; exact sa b q, by rw [h _ (by omega)]; exact s9, by rw [h _ (by omega)]; exact s8, by rw [h _ (by omega)]; exact s6, fun i q => by rw [h _ (by omega)]; exact sm i q⟩
theorem g_image {B : Nat} (hB : B ≤ 9000) {M : Mem} (hR : RQ B M M) {c : Nat} (hc : c ≤ 10) {cc : Nat} (hcc : cc ≤ 12) {p : Nat} (hp : p ≤ 99) {m : Nat} (hm : m ≤ 999) (hV : ST 1 c cc p m (999 + m) B M M) (hK : KI c M) : GR B M (cImage c M) (pImage c M) := by
  unfold cImage pImage
  have r63 : (ms (rowG 64 63 116 0 M) 62 4 1) 63 = M 63 := by rw [ms_k (by decide), rowG_k (by decide)]
  have r64 : ∀ j, j < 116 → mr (ms (rowG 64 63 116 0 M) 62 4 1) 63 ((ms (rowG 64 63 116 0 M) 62 4 1) 64) 63 j = M 63 j := fun j hj => by rw [mr_s, ms_k (by decide), rowG_i (by decide) _ _ _ (Nat.zero_le j) (by omega)]
  have hl : ∀ a, a ≠ 0 → (a < 14 ∨ 27 ≤ a) → (ms (eBecM 14 1 M) 0 9 1) a = M a := fun a z1 z2 => by rw [ms_k z1, bec_k (by omega)]
  have hr : ∀ a, a ≠ 62 → a ≠ 64 → (ms (rowG 64 63 116 0 M) 62 4 1) a = M a := fun a z1 z2 => by rw [ms_k z1, rowG_k z2]
  exact GR_o hR rfl (fun a z => hl a (by omega) (by omega)) (fun a z1 z2 => hl a (by omega) (by omega)) r63 (.inr ⟨ms_s, ms_s, c, cc, p, m, hc, hcc, hp, hm, ST_mono (Nat.le_refl _) (by omega) (ST_Rj hc hcc r64 (ST_M (fun a z1 z2 => ms_k (by omega)) (ST_14_1 hc hcc hp hV))), KI_of (fun b hb => r64 _ (by omega)) (fun k hk => r64 _ (by omega)) hK⟩) (TA_k (by rw [hl 54 (by decide) (by decide)]) (hl 55 (by decide) (by decide)) (by rw [ms_j (by decide), rowG_k (by decide)]) (hr 67 (by decide) (by decide)) hR.2.2.1) (hl 61 (by decide) (by decide)) (hr 66 (by decide) (by decide)) (SHR_k (fun a z1 z2 => hl a (by omega) (by omega)) (fun a z1 z2 => hr a (by omega) (by omega)) hR.2.2.2.2)
theorem o_image {B : Nat} (hB : B ≤ 9000) {M : Mem} (hR : RQ B M M) : OP m_X8_image m_X9_image [] B M := by
  have hR0 := hR
  obtain ⟨⟨c, cc, p, m, hc, hcc, hp, hm, hV, hK⟩, hKE, hTA, hF, hSH⟩ := hR
  obtain ⟨hM, h2, h0, hP⟩ := ST_cnt hV
  refine op_gr (a := cImage c M) (b := pImage c M) (v_X8_image hc M hM) (g_image hB hR0 hc hcc hp hm hV hK ) (fun M1 h => ?_)
  have hV1 : ST 1 c cc p m (999 + m) B M M1 := ST_R (h 63 (by decide)) hV
  obtain ⟨r1, r2, r0⟩ := ST_si hV1
  exact ref_ov (f := pImage c) h (fun _ _ => ov_pImage) (v_X9_image hc M1 r1)
theorem g_undo {B : Nat} (hB : B ≤ 9000) {M : Mem} (hR : RQ B M M) {c : Nat} (hc : c ≤ 10) {cc : Nat} (hcc : cc ≤ 12) {p : Nat} (hp : p ≤ 99) {m : Nat} (hm : m ≤ 999) (hV : ST 1 c cc p m (999 + m) B M M) (hK : KI c M) : GR B M (cUndo c M) (pUndo c M) := by
  unfold cUndo pUndo
  rcases hR.2.1 with ⟨a, b⟩ | ⟨a, b, c', cc', p', m', hc', hcc', hp', hm', hV', hK'⟩
  · rw [if_pos a, if_pos b]
    exact GR_f hR
  · rw [if_neg (by rw [a]; decide), if_neg (by rw [b]; decide)]
    have r63 : ∀ j, j < 116 → rowG 63 64 116 0 M 63 j = mr M 63 (M 64) 63 j := fun j hj => by rw [rowG_i (by decide) _ _ _ (Nat.zero_le j) (by omega), mr_s]
    have hV3 : ST 1 c' cc' p' m' (999 + m') B (eBecM 1 14 M) (rowG 63 64 116 0 M) := ST_Rj hc' hcc' r63 (ST_1_14 hc' hcc' hp' hV')
    have e7 : eBecM 1 14 M 1 7 = rowG 63 64 116 0 M 63 0 := hV3.2.2.2.2.2.2.1
    exact GR_ev hR e7 (fun a z => bec_k (by omega)) (fun a z1 z2 => rowG_k z2 _ _ _) (EV_mk hc' hcc' hp' hm' hV3 (KI_of (fun b hb => r63 _ (by omega)) (fun k hk => r63 _ (by omega)) hK'))
theorem o_undo {B : Nat} (hB : B ≤ 9000) {M : Mem} (hR : RQ B M M) : OP m_X8_undo m_X9_undo [] B M := by
  have hR0 := hR
  obtain ⟨⟨c, cc, p, m, hc, hcc, hp, hm, hV, hK⟩, hKE, hTA, hF, hSH⟩ := hR
  obtain ⟨hM, h2, h0, hP⟩ := ST_cnt hV
  refine op_gr (a := cUndo c M) (b := pUndo c M) (v_X8_undo hc M hM) (g_undo hB hR0 hc hcc hp hm hV hK ) (fun M1 h => ?_)
  have hV1 : ST 1 c cc p m (999 + m) B M M1 := ST_R (h 63 (by decide)) hV
  obtain ⟨r1, r2, r0⟩ := ST_si hV1
  exact ref_ov (f := pUndo c) h (fun _ _ => ov_pUndo) (v_X9_undo hc M1 r1)
theorem g_tear {B : Nat} (hB : B ≤ 9000) {M : Mem} (hR : RQ B M M) {c : Nat} (hc : c ≤ 10) {cc : Nat} (hcc : cc ≤ 12) {p : Nat} (hp : p ≤ 99) {m : Nat} (hm : m ≤ 999) (hV : ST 1 c cc p m (999 + m) B M M) (hK : KI c M) : GR B M (cTear c M) (pTear c M) := by
  unfold cTear pTear
  have e : M 0 9 = M 62 4 := by rcases hR.2.1 with ⟨a, b⟩ | ⟨a, b, -⟩ <;> rw [a, b]
  exact GR_o hR (by rw [e]) (fun a z => ms_k (by omega)) (fun a z1 z2 => ms_k (by omega)) (ms_k (by decide)) (.inl ⟨ms_s, ms_s⟩) (TA_k (by rw [ms_k (by decide)]) (ms_k (by decide)) (by rw [ms_j (by decide)]) (ms_k (by decide)) hR.2.2.1) (ms_k (by decide)) (ms_k (by decide)) (SHR_k (fun a z1 z2 => ms_k (by omega)) (fun a z1 z2 => ms_k (by omega)) hR.2.2.2.2)
theorem o_tear {B : Nat} (hB : B ≤ 9000) {M : Mem} (hR : RQ B M M) : OP m_X8_tear m_X9_tear [] B M := by
  have hR0 := hR
  obtain ⟨⟨c, cc, p, m, hc, hcc, hp, hm, hV, hK⟩, hKE, hTA, hF, hSH⟩ := hR
  obtain ⟨hM, h2, h0, hP⟩ := ST_cnt hV
  refine op_gr (a := cTear c M) (b := pTear c M) (v_X8_tear hc M hM) (g_tear hB hR0 hc hcc hp hm hV hK ) (fun M1 h => ?_)
  have hV1 : ST 1 c cc p m (999 + m) B M M1 := ST_R (h 63 (by decide)) hV
  obtain ⟨r1, r2, r0⟩ := ST_si hV1
  exact ref_ov (f := pTear c) h (fun _ _ => ov_pTear) (v_X9_tear hc M1 r1)
/-- only sheets are touched -/
theorem GR_sh {B : Nat} {x y : Int32} {M M' R' : Mem} (hR : RQ B M M) (h : x = y) (hm : ∀ k, k < 58 ∨ 60 < k → M' k = M k) (hr : ∀ k, 62 ≤ k → k ≠ 68 → k ≠ 69 → k ≠ 70 → k ≠ 71 → R' k = M k) (hS : SHR M' R') : GR B M (x, M') (y, R') :=
  GR_o hR h (fun a z => hm a (by omega)) (fun a z1 z2 => hm a (by omega)) (hr 63 (by decide) (by decide) (by decide) (by decide) (by decide)) (KE_k (by omega) (by rw [hm 0 (by decide)]) (fun a z1 z2 => hm a (by omega)) (by rw [hr 62 (by decide) (by decide) (by decide) (by decide) (by decide)]) (hr 64 (by decide) (by decide) (by decide) (by decide) (by decide)) hR.2.1) (TA_k (by rw [hm 54 (by decide)]) (hm 55 (by decide)) (by rw [hr 62 (by decide) (by decide) (by decide) (by decide) (by decide)]) (hr 67 (by decide) (by decide) (by decide) (by decide) (by decide)) hR.2.2.1) (hm 61 (by decide)) (hr 66 (by decide) (by decide) (by decide) (by decide) (by decide)) hS
theorem zerC_o {s j : Nat} : ∀ (n i : Nat) (M : Mem), j < s * 40 + i ∨ s * 40 + (i + n) ≤ j → zerC s n i M 60 j = M 60 j := by
  intro n
  induction n with
  | zero => intro i M _; rfl
  | succ n ih => intro i M h; simp only [zerC]; rw [ih _ _ (by omega), ms_j (by omega)]
theorem zerC_i {s j : Nat} : ∀ (n i : Nat) (M : Mem), i ≤ j → j < i + n → zerC s n i M 60 (s * 40 + j) = 0 := by
  intro n
  induction n with
  | zero => intro i M h1 h2; omega
  | succ n ih =>
    intro i M h1 h2
    simp only [zerC]
    by_cases q : i = j
    · subst q; rw [zerC_o _ _ _ (by omega), ms_s]
    · exact ih (i + 1) _ (by omega) (by omega)
theorem zerG_o {s j : Nat} : ∀ (n i : Nat) (M : Mem), j < 40 * s + i ∨ 40 * s + (i + n) ≤ j → zerG s n i M 70 j = M 70 j := by
  intro n
  induction n with
  | zero => intro i M _; rfl
  | succ n ih => intro i M h; simp only [zerG]; rw [ih _ _ (by omega), ms_j (by omega)]
theorem zerG_i {s j : Nat} : ∀ (n i : Nat) (M : Mem), i ≤ j → j < i + n → zerG s n i M 70 (40 * s + j) = 0 := by
  intro n
  induction n with
  | zero => intro i M h1 h2; omega
  | succ n ih =>
    intro i M h1 h2
    simp only [zerG]
    by_cases q : i = j
    · subst q; rw [zerG_o _ _ _ (by omega), ms_s]
    · exact ih (i + 1) _ (by omega) (by omega)
theorem g_sheet {B : Nat} (hB : B ≤ 9000) {M : Mem} (hR : RQ B M M) {c : Nat} (hc : c ≤ 10) {cc : Nat} (hcc : cc ≤ 12) {p : Nat} (hp : p ≤ 99) {m : Nat} (hm : m ≤ 999) (hV : ST 1 c cc p m (999 + m) B M M) (hK : KI c M) (x bits n : Int32) : GR B M (cSheet c x bits n M) (pSheet c x bits n M) := by
  unfold cSheet pSheet
  by_cases h1 : rng 0 3 x = true ∧ (bits = 0 ∨ bits = 8 ∨ bits = 16 ∨ bits = 32)
  · rw [if_neg (not_not_intro (And.intro (rng3B h1.1) h1.2)), if_neg (not_not_intro h1)]
    by_cases h2 : n < 0
    · rw [if_pos h2, if_pos h2]
      exact GR_f hR
    · rw [if_neg h2, if_neg h2]
      by_cases h3 : 40 < n
      · rw [if_pos h3, if_pos h3]
        exact GR_f hR
      · rw [if_neg h3, if_neg h3]
        obtain ⟨s, hs, rfl⟩ := of_rng (b := 3) h1.1
        have es : (nI s).toNatClampNeg = s := nI_clamp (by omega)
        rw [es]
        obtain ⟨k, hk, rfl⟩ := of_rng (b := 40) (rng_p (lo := 0) (hi := 40) rfl rfl h2 h3)
        have ek : (nI k).toNatClampNeg = k := nI_clamp (by omega)
        rw [ek]
        obtain ⟨z, hz, ez, en⟩ : ∃ z, z ≤ 40 ∧ z = (if bits = 0 then 0 else k) ∧ (if bits = 0 then (0 : Int32) else nI k) = nI z := by
          by_cases q : bits = 0
          · exact ⟨0, by decide, by rw [if_pos q], by rw [if_pos q]; rfl⟩
          · exact ⟨k, hk, by rw [if_neg q], by rw [if_neg q]⟩
        rw [← ez]
        have eR : sz1 s bits (nI k) M = ms (ms M 68 s bits) 69 s (nI z) := by unfold sz1; rw [en]
        rw [eR]
        have a59 : layC s z bits M 59 = ms M 59 s (nI z) 59 := by unfold layC; rw [zerC_k (by decide)]; funext b; simp [ms]
        have a58 : layC s z bits M 58 = ms M 58 s bits 58 := by unfold layC; rw [zerC_k (by decide), ms_k (by decide)]
        have b69 : zerG s 40 0 (ms (ms M 68 s bits) 69 s (nI z)) 69 = ms M 69 s (nI z) 69 := by rw [zerG_k (by decide)]; funext b; simp [ms]
        have b68 : zerG s 40 0 (ms (ms M 68 s bits) 69 s (nI z)) 68 = ms M 68 s bits 68 := by rw [zerG_k (by decide), ms_k (by decide)]
        refine GR_sh hR (by rw [a59, b69, ms_s, ms_s]) (fun a q => by unfold layC; rw [zerC_k (by omega), ms_k (by omega), ms_k (by omega)]) (fun a q1 q2 q3 q4 q5 => by rw [zerG_k q4, ms_k q3, ms_k q2]) (fun s' hs' => ?_)
        rw [a59, a58, b69, b68]
        by_cases q : s' = s
        · subst q
          refine ⟨z, hz, by rw [ms_s, ms_s], ms_s, ms_s, fun i hi => ?_, by rw [ms_s]; exact h1.2⟩
          unfold layC
          rw [zerC_i _ _ _ (Nat.zero_le i) (by omega), zerG_i _ _ _ (Nat.zero_le i) (by omega)]
        · obtain ⟨z', hz', e58, e59, e69, e60, eb⟩ := hR.2.2.2.2 s' hs'
          refine ⟨z', hz', by rw [ms_j q, ms_j q]; exact e58, by rw [ms_j q]; exact e59, by rw [ms_j q]; exact e69, fun i hi => ?_, by rw [ms_j q]; exact eb⟩
          unfold layC
          rw [zerC_o _ _ _ (by omega), zerG_o _ _ _ (by omega), ms_k (by decide), ms_k (by decide), ms_k (by decide), ms_k (by decide)]
          exact e60 i hi
  · rw [if_pos (fun z => h1 ⟨B4rng z.1, z.2⟩), if_pos h1]
    exact GR_f hR
theorem o_sheet {B : Nat} (hB : B ≤ 9000) {M : Mem} (hR : RQ B M M) (x bits n : Int32) : OP m_X8_sheet m_X9_sheet [.int x, .int bits, .int n] B M := by
  have hR0 := hR
  obtain ⟨⟨c, cc, p, m, hc, hcc, hp, hm, hV, hK⟩, hKE, hTA, hF, hSH⟩ := hR
  obtain ⟨hM, h2, h0, hP⟩ := ST_cnt hV
  refine op_gr (a := cSheet c x bits n M) (b := pSheet c x bits n M) (v_X8_sheet hc x bits n M hM) (g_sheet hB hR0 hc hcc hp hm hV hK x bits n) (fun M1 h => ?_)
  have hV1 : ST 1 c cc p m (999 + m) B M M1 := ST_R (h 63 (by decide)) hV
  obtain ⟨r1, r2, r0⟩ := ST_si hV1
  exact ref_ov (f := pSheet c x bits n) h (fun _ _ => ov_pSheet) (v_X9_sheet hc x bits n M1 r1)
