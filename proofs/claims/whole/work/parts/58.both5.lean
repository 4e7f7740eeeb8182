/-! Writing, copying and the text, in both -/
theorem bv8 (v : BitVec 32) : (v <<< 24).sshiftRight 24 = (v.signExtend 8).signExtend 32 := by
  ext i hi
  simp only [BitVec.getElem_signExtend, BitVec.getElem_sshiftRight, BitVec.getElem_shiftLeft]
  by_cases h : i < 8
  · simp [h, hi, show 24 + i < 32 by omega, show ¬ 24 + i < 24 by omega]
  · simp [h, show ¬ 24 + i < 32 by omega, BitVec.msb_eq_getLsbD_last, BitVec.getElem_signExtend]
theorem bv16 (v : BitVec 32) : (v <<< 16).sshiftRight 16 = (v.signExtend 16).signExtend 32 := by
  ext i hi
  simp only [BitVec.getElem_signExtend, BitVec.getElem_sshiftRight, BitVec.getElem_shiftLeft]
  by_cases h : i < 16
  · simp [h, hi, show 16 + i < 32 by omega, show ¬ 16 + i < 16 by omega]
  · simp [h, show ¬ 16 + i < 32 by omega, BitVec.msb_eq_getLsbD_last, BitVec.getElem_signExtend]
theorem nw8 (v : Int32) : (v <<< 24) >>> 24 = v.toInt8.toInt32 := by
  apply Int32.toBitVec_inj.mp
  rw [Int32.toBitVec_shiftRight, Int32.toBitVec_shiftLeft]
  rw [show (Int32.toBitVec 24).smod 32 = (24 : BitVec 32) from by decide]
  exact bv8 v.toBitVec
theorem nw16 (v : Int32) : (v <<< 16) >>> 16 = v.toInt16.toInt32 := by
  apply Int32.toBitVec_inj.mp
  rw [Int32.toBitVec_shiftRight, Int32.toBitVec_shiftLeft]
  rw [show (Int32.toBitVec 16).smod 32 = (16 : BitVec 32) from by decide]
  exact bv16 v.toBitVec
theorem nw_eq {b v : Int32} (hb : b = 8 ∨ b = 16 ∨ b = 32) : (v <<< ((32 - b) &&& 31)) >>> ((32 - b) &&& 31) = nwF b v := by
  rcases hb with rfl | rfl | rfl
  · show (v <<< 24) >>> 24 = _
    exact nw8 v
  · show (v <<< 16) >>> 16 = _
    exact nw16 v
  · show (v <<< 0) >>> 0 = v
    simp
theorem g_write {B : Nat} (hB : B ≤ 9000) {M : Mem} (hR : RQ B M M) {c : Nat} (hc : c ≤ 10) {cc : Nat} (hcc : cc ≤ 12) {p : Nat} (hp : p ≤ 99) {m : Nat} (hm : m ≤ 999) (hV : ST 1 c cc p m (999 + m) B M M) (hK : KI c M) (x i v : Int32) : GR B M (cWrite c x i v M) (pWrite c x i v M) := by
  unfold cWrite pWrite
  by_cases h1 : rng 0 3 x = true
  · rw [if_neg (not_not_intro (rng3B h1)), if_neg (not_not_intro h1)]
    obtain ⟨s, hs, rfl⟩ := of_rng (b := 3) h1
    have es : (nI s).toNatClampNeg = s := nI_clamp (by omega)
    rw [es]
    obtain ⟨z, hz, e58, e59, e69, e60, eb⟩ := hR.2.2.2.2 s (by omega)
    rw [e58, e59, e69, nI_clamp (by omega)]
    by_cases h2 : M 68 s = 0
    · rw [if_pos h2, if_pos h2]
      exact GR_f hR
    · rw [if_neg h2, if_neg h2]
      by_cases h3 : isB z i = true
      · rw [if_neg (not_not_intro h3), if_neg (not_not_intro h3)]
        obtain ⟨k, hk, rfl⟩ := of_isB h3
        have ek : (nI k).toNatClampNeg = k := nI_clamp (by omega)
        rw [ek]
        have en : setC s k v M = ms M 60 (s * 40 + k) (nwF (M 68 s) v) := by
          unfold setC
          rw [e58, nw_eq (eb.resolve_left h2)]
        rw [en]
        refine GR_sh hR rfl (fun a q => ms_k (by omega)) (fun a q1 q2 q3 q4 q5 => ms_k q4) (fun s' hs' => ?_)
        obtain ⟨z', hz', e58', e59', e69', e60', eb'⟩ := hR.2.2.2.2 s' hs'
        rw [ms_k (by decide), ms_k (by decide), ms_k (by decide), ms_k (by decide)]
        refine ⟨z', hz', e58', e59', e69', fun j hj => ?_, eb'⟩
        by_cases q : s' * 40 + j = s * 40 + k
        · rw [q, show 40 * s' + j = 40 * s + k by omega, ms_s, ms_s]
        · rw [ms_j q, ms_j (by omega)]
          exact e60' j hj
      · rw [if_pos h3, if_pos h3]
        exact GR_f hR
  · rw [if_pos (fun z => h1 (B4rng z)), if_pos h1]
    exact GR_f hR
theorem o_write {B : Nat} (hB : B ≤ 9000) {M : Mem} (hR : RQ B M M) (x i v : Int32) : OP m_X8_write m_X9_write [.int x, .int i, .int v] B M := by
  have hR0 := hR
  obtain ⟨⟨c, cc, p, m, hc, hcc, hp, hm, hV, hK⟩, hKE, hTA, hF, hSH⟩ := hR
  obtain ⟨hM, h2, h0, hP⟩ := ST_cnt hV
  refine op_gr (a := cWrite c x i v M) (b := pWrite c x i v M) (v_X8_write hc x i v M hM (SHR_zc hSH)) (g_write hB hR0 hc hcc hp hm hV hK x i v) (fun M1 h => ?_)
  have hV1 : ST 1 c cc p m (999 + m) B M M1 := ST_R (h 63 (by decide)) hV
  obtain ⟨r1, r2, r0⟩ := ST_si hV1
  exact ref_ov (f := pWrite c x i v) h (fun _ _ => ov_pWrite) (v_X9_write hc x i v M1 r1 (fun k hk => by rw [h 69 (by decide)]; exact SHR_z hSH k hk))
theorem has_c {z : Nat} (hz : z ≤ 40) (f n : Int32) : (0 ≤ f ∧ 0 ≤ n ∧ n ≤ nI z ∧ f ≤ nI z - n) ↔ (0 ≤ f ∧ 0 ≤ n ∧ f.toInt + n.toInt ≤ z) := by
  simp only [Int32.le_iff_toInt_le]
  have h0 : (0 : Int32).toInt = 0 := rfl
  rw [Int32.toInt_sub, nI_toInt (by omega), h0]
  constructor
  · rintro ⟨a, b, c, d⟩
    rw [Int.bmod_eq_of_le (by omega) (by omega)] at d
    exact ⟨a, b, by omega⟩
  · rintro ⟨a, b, c⟩
    refine ⟨a, b, by omega, ?_⟩
    rw [Int.bmod_eq_of_le (by omega) (by omega)]
    omega
theorem has_r {z : Nat} (hz : z ≤ 40) {f n : Int32} (hf : 0 ≤ f) (hn : 0 ≤ n) : n ≤ nI z - f ↔ f.toInt + n.toInt ≤ z := by
  have h0 : (0 : Int32).toInt = 0 := rfl
  rw [Int32.le_iff_toInt_le, h0] at hf hn
  have h1 := Int32.toInt_lt f
  rw [Int32.le_iff_toInt_le, Int32.toInt_sub, nI_toInt (by omega), Int.bmod_eq_of_le (by omega) (by omega)]
  omega
theorem mvG_i {s f j : Nat} : ∀ (n i : Nat) (M : Mem), i ≤ j → j < i + n → mvG s f n i M 71 j = M 70 (40 * s + f + j) := by
  have o : ∀ (n i : Nat) (M : Mem), j < i → mvG s f n i M 71 j = M 71 j := by
    intro n
    induction n with
    | zero => intro i M _; rfl
    | succ n ih => intro i M h; simp only [mvG]; rw [ih _ _ (by omega), ms_j (by omega)]
  intro n
  induction n with
  | zero => intro i M h1 h2; omega
  | succ n ih =>
    intro i M h1 h2
    simp only [mvG]
    by_cases q : i = j
    · subst q; rw [o _ _ _ (by omega), ms_s]
    · rw [ih (i + 1) _ (by omega) (by omega), ms_k (by decide)]
theorem bkG_o {t g j : Nat} : ∀ (n i : Nat) (M : Mem), j < 40 * t + g + i ∨ 40 * t + g + (i + n) ≤ j → bkG t g n i M 70 j = M 70 j := by
  intro n
  induction n with
  | zero => intro i M _; rfl
  | succ n ih => intro i M h; simp only [bkG]; rw [ih _ _ (by omega), ms_j (by omega)]
theorem bkG_i {t g j : Nat} : ∀ (n i : Nat) (M : Mem), i ≤ j → j < i + n → bkG t g n i M 70 (40 * t + g + j) = M 71 j := by
  intro n
  induction n with
  | zero => intro i M h1 h2; omega
  | succ n ih =>
    intro i M h1 h2
    simp only [bkG]
    by_cases q : i = j
    · subst q; rw [bkG_o _ _ _ (by omega), ms_s]
    · rw [ih (i + 1) _ (by omega) (by omega), ms_k (by decide)]
theorem g_copy {B : Nat} (hB : B ≤ 9000) {M : Mem} (hR : RQ B M M) {c : Nat} (hc : c ≤ 10) {cc : Nat} (hcc : cc ≤ 12) {p : Nat} (hp : p ≤ 99) {m : Nat} (hm : m ≤ 999) (hV : ST 1 c cc p m (999 + m) B M M) (hK : KI c M) (x f y g n : Int32) : GR B M (cCopy c x f y g n M) (pCopy c x f y g n M) := by
  unfold cCopy pCopy
  by_cases h1 : rng 0 3 x = true ∧ rng 0 3 y = true
  · rw [if_neg (not_not_intro (And.intro (rng3B h1.1) (rng3B h1.2))), if_neg (not_not_intro h1)]
    obtain ⟨s, hs, rfl⟩ := of_rng (b := 3) h1.1
    obtain ⟨t, ht, rfl⟩ := of_rng (b := 3) h1.2
    have es : (nI s).toNatClampNeg = s := nI_clamp (by omega)
    have et : (nI t).toNatClampNeg = t := nI_clamp (by omega)
    rw [es, et]
    obtain ⟨z, hz, e58, e59, e69, e60, eb⟩ := hR.2.2.2.2 s (by omega)
    obtain ⟨z', hz', e58', e59', e69', e60', eb'⟩ := hR.2.2.2.2 t (by omega)
    rw [e58, e58']
    by_cases h2 : M 68 s = 0 ∨ M 68 t = 0
    · rw [if_pos h2, if_pos h2]
      exact GR_f hR
    · rw [if_neg h2, if_neg h2]
      by_cases h3 : M 68 s = M 68 t
      · rw [if_neg (not_not_intro h3), if_neg (not_not_intro h3)]
        have eh : (hasC s f n M = true ∧ hasC t g n M = true) ↔ cpyP (nI s) f (nI t) g n M = true := by
          unfold hasC cpyP
          rw [decide_eq_true_iff, decide_eq_true_iff, decide_eq_true_iff, es, et, e59, e59', e69, e69', has_c hz, has_c hz']
          constructor
          · rintro ⟨⟨a1, a2, a3⟩, b1, b2, b3⟩
            exact ⟨a1, b1, a2, (has_r hz a1 a2).mpr a3, (has_r hz' b1 a2).mpr b3⟩
          · rintro ⟨a1, b1, a2, a3, b3⟩
            exact ⟨⟨a1, a2, (has_r hz a1 a2).mp a3⟩, b1, a2, (has_r hz' b1 a2).mp b3⟩
        by_cases h4 : cpyP (nI s) f (nI t) g n M = true
        · rw [if_neg (not_not_intro (eh.mpr h4)), if_neg (not_not_intro h4)]
          obtain ⟨q1, q2⟩ := eh.mpr h4
          unfold hasC at q1 q2
          rw [decide_eq_true_iff, e59, has_c hz] at q1
          rw [decide_eq_true_iff, e59', has_c hz'] at q2
          have h0 : (0 : Int32).toInt = 0 := rfl
          simp only [Int32.le_iff_toInt_le, h0] at q1 q2
          have p1 : rng 0 (40 : Nat) f = true := rng_def.mpr ⟨q1.1, by omega⟩
          have p2 : rng 0 (40 : Nat) g = true := rng_def.mpr ⟨q2.1, by omega⟩
          have p3 : rng 0 (40 : Nat) n = true := rng_def.mpr ⟨q1.2.1, by omega⟩
          obtain ⟨f', hf, rfl⟩ := of_rng p1
          obtain ⟨g', hg, rfl⟩ := of_rng p2
          obtain ⟨n', hn, rfl⟩ := of_rng p3
          rw [nI_toInt (by omega), nI_toInt (by omega)] at q1 q2
          have y1 : f' + n' ≤ z := by omega
          have y2 : g' + n' ≤ z' := by omega
          rw [nI_clamp (n := f') (by omega), nI_clamp (n := g') (by omega), nI_clamp (n := n') (by omega)]
          refine GR_sh hR rfl (fun a q => mr_k (by omega)) (fun a q1 q2 q3 q4 q5 => by rw [bkG_k q4, mvG_k q5]) (fun s' hs' => ?_)
          obtain ⟨w, hw, f58, f59, f69, f60, fb⟩ := hR.2.2.2.2 s' hs'
          unfold movC
          rw [mr_k (by decide), mr_k (by decide), mr_s, bkG_k (by decide), bkG_k (by decide), mvG_k (by decide), mvG_k (by decide)]
          refine ⟨w, hw, f58, f59, f69, fun j hj => ?_, fb⟩
          unfold va_cpy
          by_cases q : t * 40 + g' ≤ s' * 40 + j ∧ s' * 40 + j < t * 40 + g' + n'
          · rw [if_pos q]
            obtain ⟨i, hi, ei⟩ : ∃ i, i < n' ∧ s' * 40 + j = t * 40 + g' + i := ⟨s' * 40 + j - (t * 40 + g'), by omega, by omega⟩
            rw [show 40 * s' + j = 40 * t + g' + i by omega, bkG_i _ _ _ (Nat.zero_le i) (by omega), mvG_i _ _ _ (Nat.zero_le i) (by omega), show s * 40 + f' + (s' * 40 + j - (t * 40 + g')) = s * 40 + (f' + i) by omega, show 40 * s + f' + i = 40 * s + (f' + i) by omega]
            exact e60 _ (by omega)
          · rw [if_neg q, bkG_o _ _ _ (by omega), mvG_k (by decide)]
            exact f60 j hj
        · rw [if_pos (fun z => h4 (eh.mp z)), if_pos h4]
          exact GR_f hR
      · rw [if_pos h3, if_pos h3]
        exact GR_f hR
  · rw [if_pos (fun z => h1 ⟨B4rng z.1, B4rng z.2⟩), if_pos h1]
    exact GR_f hR
theorem o_copy {B : Nat} (hB : B ≤ 9000) {M : Mem} (hR : RQ B M M) (x f y g n : Int32) : OP m_X8_copy m_X9_copy [.int x, .int f, .int y, .int g, .int n] B M := by
  have hR0 := hR
  obtain ⟨⟨c, cc, p, m, hc, hcc, hp, hm, hV, hK⟩, hKE, hTA, hF, hSH⟩ := hR
  obtain ⟨hM, h2, h0, hP⟩ := ST_cnt hV
  refine op_gr (a := cCopy c x f y g n M) (b := pCopy c x f y g n M) (v_X8_copy hc x f y g n M hM (SHR_zc hSH)) (g_copy hB hR0 hc hcc hp hm hV hK x f y g n) (fun M1 h => ?_)
  have hV1 : ST 1 c cc p m (999 + m) B M M1 := ST_R (h 63 (by decide)) hV
  obtain ⟨r1, r2, r0⟩ := ST_si hV1
  exact ref_ov (f := pCopy c x f y g n) h (fun _ _ => ov_pCopy) (v_X9_copy hc x f y g n M1 r1 (fun k hk => by rw [h 69 (by decide)]; exact SHR_z hSH k hk))
theorem tok_4 {t : Nat} {M : Mem} : tokM t M 62 4 = M 62 4 := by unfold tokM; rw [ms_j (by decide), ms_j (by decide)]
theorem need_4 {t : Nat} {b : Bool} {M : Mem} : needM t b M 62 4 = M 62 4 := by unfold needM; split; exact tok_4; exact ms_j (by decide)
theorem num_4 {t : Nat} {h : Int} {M : Mem} : numM t h M 62 4 = M 62 4 := by unfold numM; split; exact need_4.trans (ms_j (by decide)); rfl
theorem pe_4 {t : Nat} {b : Bool} {h : Int} {M : Mem} : peM t b h M 62 4 = M 62 4 := by unfold peM; split; exact num_4.trans need_4; rfl
theorem it_4 {t : Nat} {M : Mem} : itM t M 62 4 = M 62 4 := by
  have r : ∀ j h, ruM t j h M 62 4 = M 62 4 := fun j h => by
    unfold ruM
    split
    · rw [ms_k (by decide)]; exact pe_4
    · exact pe_4
  unfold itM
  split
  · unfold baM ba4
    have b3 : ∀ c X, ba3 t c X 62 4 = X 62 4 := fun c X => by unfold ba3; split; rfl; exact need_4
    split
    · unfold mNewM
      simp (disch := decide) only [ms_k]
      rw [b3, pe_4]; exact need_4
    · rw [b3, pe_4]; exact need_4
  split
  · unfold crM cr3 cr4 cr5 cr6
    split
    · unfold mNewC
      simp (disch := decide) only [ms_k]
      rw [num_4, need_4, num_4, need_4, num_4, need_4]
    · rw [num_4, need_4, num_4, need_4, num_4, need_4]
  split
  · exact r _ _
  split
  · exact r _ _
  split
  · exact r _ _
  · exact need_4
theorem txG_4 {t : Nat} : ∀ (n i : Nat) (M : Mem), (txG t n i M).2 62 4 = M 62 4 := by
  intro n
  induction n with
  | zero => intro i M; rfl
  | succ n ih =>
    intro i M
    simp only [txG]
    split
    · rw [ih, it_4, need_4]
    · rfl
theorem tx_62 {t : Nat} {R : Mem} : (txR t R).2 62 4 = R 62 4 ∧ (txR t R).2 62 6 = 0 := by
  have h0 : tx0 t R 62 4 = R 62 4 := by unfold tx0; rw [it_4, tok_4, ms_j (by decide), ms_j (by decide), SV_k (by decide)]
  obtain ⟨r, er⟩ : ∃ r, r = txG t 121 1 (tx0 t R) := ⟨_, rfl⟩
  have h4 : r.2 62 4 = R 62 4 := by rw [er, txG_4, h0]
  have e : txR t R = txE r.1 r.2 := by rw [txR, ← er]
  rw [e]
  unfold txE
  by_cases q : r.2 62 10 = 0
  · rw [if_pos q]
    exact ⟨(ms_j (M := r.2) (k := 62) (j := 6) (a := 62) (b := 4) (v := 0) (by decide)).trans h4, ms_s (M := r.2) (k := 62) (j := 6) (v := 0)⟩
  · rw [if_neg q]
    have f : ∀ n, rowG 63 65 n 0 (ms r.2 62 6 0) 62 = ms r.2 62 6 0 62 := fun n => rowG_k (by decide) _ _ _
    have f := f 116
    obtain ⟨X, eX⟩ : ∃ X, X = rowG 63 65 116 0 (ms r.2 62 6 0) := ⟨_, rfl⟩
    rw [← eX] at f ⊢
    exact ⟨(congrFun f 4).trans ((ms_j (by decide)).trans h4), (congrFun f 6).trans ms_s⟩
theorem tx_k {t : Nat} (ht : t ≤ 120) {R : Mem} (h6 : R 62 6 = nI t) : ∀ k, k ≠ 62 → k ≠ 63 → k ≠ 65 → (txR t R).2 k = R k := by
  intro k h1 h2 h3
  have f := (tx_frame ht h6).2.1 k h1 h2
  rw [SV_k h3] at f
  unfold txR txE
  split
  · show ms _ 62 6 0 k = _
    rw [ms_k h1, f]
  · show rowG _ _ _ _ _ k = _
    rw [rowG_k h2, ms_k h1, f]
theorem o_text {B : Nat} (hB : B ≤ 9000) {M : Mem} (hR : RQ B M M) : OP m_X8_text m_X9_text [] B M := by
  obtain ⟨⟨c, cc, p, m, hc, hcc, hp, hm, hV, hK⟩, hKE, ⟨t, ht, t1, t2, t3⟩, hF, hSH⟩ := hR
  have fr := tx_k ht t2
  have f62 := tx_62 (t := t) (R := M)
  refine ⟨txR t M, (v_X8_text hc hcc hp ht M M hV hK t1 t2 t3).mono (fun rv M' z => ?_), fun M1 h => ?_⟩
  · obtain ⟨z1, z2, z3, c', cc', q', hc', hcc', hq', hV', hK'⟩ := z
    refine ⟨z1, fun k hk => z2 k (by omega) (by omega), ⟨c', cc', q', m, hc', hcc', hq', hm, ST_mono (Nat.le_refl _) (by omega) hV', hK'⟩, KE_k (by omega) (by rw [z2 0 (by omega) (by decide)]) (fun a y1 y2 => z2 a (by omega) (by omega)) f62.1 (fr 64 (by decide) (by decide) (by decide)) hKE, ⟨0, Nat.zero_le _, z3, f62.2, by rw [z2 55 (by omega) (by decide), fr 67 (by decide) (by decide) (by decide)]; exact t3⟩, F61_k (z2 61 (by omega) (by decide)) (fr 66 (by decide) (by decide) (by decide)) hF, SHR_k (fun a y1 y2 => z2 a (by omega) (by omega)) (fun a y1 y2 => fr a (by omega) (by omega) (by omega)) hSH⟩
  · obtain ⟨r1, r2, r0⟩ := ST_si hV
    exact ref_ov (f := txR t) h (fun _ _ => ov_txR) (v_X9_text ht M1 (by rw [h 62 (by decide)]; exact t2) ⟨⟨c, hc, by rw [h 63 (by decide)]; exact r1⟩, cc, hcc, by rw [h 63 (by decide)]; exact r2⟩)
