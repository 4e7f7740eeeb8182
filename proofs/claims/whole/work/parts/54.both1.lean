/-! Both sides together; an operation in both -/
def EV (B : Nat) (M R : Mem) : Prop := ∃ c cc p m, c ≤ 10 ∧ cc ≤ 12 ∧ p ≤ 99 ∧ m ≤ 999 ∧ ST 1 c cc p m (999 + m) B M R ∧ KI c R
def KE (B : Nat) (M R : Mem) : Prop := (M 0 9 = 0 ∧ R 62 4 = 0) ∨ (M 0 9 = 1 ∧ R 62 4 = 1 ∧ ∃ c cc p m, c ≤ 10 ∧ cc ≤ 12 ∧ p ≤ 99 ∧ m ≤ 999 ∧ ST 14 c cc p m (999 + m) B M (mr R 63 (R 64)) ∧ KI c (mr R 63 (R 64)))
def TA (M R : Mem) : Prop := ∃ t, t ≤ 120 ∧ M 54 1 = nI t ∧ R 62 6 = nI t ∧ M 55 = R 67
def RQ (B : Nat) (M R : Mem) : Prop := EV B M R ∧ KE B M R ∧ TA M R ∧ F61 M R ∧ SHR M R
theorem EV_k {B B' : Nat} {M M' R R' : Mem} (hB : B ≤ B') (h1 : ∀ a, 1 ≤ a → a < 14 → M' a = M a) (h2 : R' 63 = R 63) (h : EV B M R) : EV B' M' R' := by
  obtain ⟨c, cc, p, m, hc, hcc, hp, hm, hV, hK⟩ := h
  exact ⟨c, cc, p, m, hc, hcc, hp, hm, ST_mono (Nat.le_refl _) hB (ST_M (fun a y1 y2 => h1 a y1 (by omega)) (ST_R h2 hV)), KI_R h2 hK⟩
theorem KE_k {B B' : Nat} {M M' R R' : Mem} (hB : B ≤ B') (h0 : M' 0 9 = M 0 9) (h1 : ∀ a, 14 ≤ a → a < 27 → M' a = M a) (h2 : R' 62 4 = R 62 4) (h3 : R' 64 = R 64) (h : KE B M R) : KE B' M' R' := by
  have e : mr R' 63 (R' 64) 63 = mr R 63 (R 64) 63 := by rw [mr_s, mr_s, h3]
  rcases h with ⟨a, b⟩ | ⟨a, b, c, cc, p, m, hc, hcc, hp, hm, hV, hK⟩
  · exact .inl ⟨h0.trans a, h2.trans b⟩
  · exact .inr ⟨h0.trans a, h2.trans b, c, cc, p, m, hc, hcc, hp, hm, ST_mono (Nat.le_refl _) hB (ST_M (fun a y1 y2 => h1 a y1 (by omega)) (ST_R e hV)), KI_R e hK⟩
theorem TA_k {M M' R R' : Mem} (h1 : M' 54 1 = M 54 1) (h2 : M' 55 = M 55) (h3 : R' 62 6 = R 62 6) (h4 : R' 67 = R 67) (h : TA M R) : TA M' R' := by
  obtain ⟨t, ht, a, b, c⟩ := h
  exact ⟨t, ht, h1.trans a, h3.trans b, by rw [h2, h4]; exact c⟩
theorem F61_k {M M' R R' : Mem} (h1 : M' 61 = M 61) (h2 : R' 66 = R 66) (h : F61 M R) : F61 M' R' := fun k hk => by rw [h1, h2]; exact h k hk
theorem SHR_k {M M' R R' : Mem} (h1 : ∀ a, 58 ≤ a → a ≤ 60 → M' a = M a) (h2 : ∀ a, 68 ≤ a → a ≤ 70 → R' a = R a) (h : SHR M R) : SHR M' R' := by
  unfold SHR
  rw [h1 58 (by decide) (by decide), h1 59 (by decide) (by decide), h1 60 (by decide) (by decide), h2 68 (by decide) (by decide), h2 69 (by decide) (by decide), h2 70 (by decide) (by decide)]
  exact h
theorem RQ_mono {B B' : Nat} {M R : Mem} (hB : B ≤ B') (h : RQ B M R) : RQ B' M R := ⟨EV_k hB (fun _ _ _ => rfl) rfl h.1, KE_k hB rfl (fun _ _ _ => rfl) rfl rfl h.2.1, h.2.2⟩
/-- one memory again -/
theorem RQ_ov {B : Nat} {M R : Mem} (h : RQ B M R) : RQ B (ov R M) (ov R M) := by
  obtain ⟨a, b, c, d, e⟩ := h
  refine ⟨EV_k (Nat.le_refl _) (fun k y1 y2 => ov_lo (by omega)) (ov_hi (by decide)) a, ?_, TA_k (by rw [ov_lo (by decide)]) (ov_lo (by decide)) (by rw [ov_hi (by decide)]) (ov_hi (by decide)) c, F61_k (ov_lo (by decide)) (ov_hi (by decide)) d, SHR_k (fun k y1 y2 => ov_lo (by omega)) (fun k y1 y2 => ov_hi (by omega)) e⟩
  exact KE_k (Nat.le_refl _) (by rw [ov_lo (by decide)]) (fun k y1 y2 => ov_lo (by omega)) (by rw [ov_hi (by decide)]) (ov_hi (by decide)) b
def CPost (a : Int32 × Mem) (M : Mem) (B : Nat) : Option Value → Mem → Prop := fun rv M1 => rv = some (.int a.1) ∧ (∀ k, 62 ≤ k → M1 k = M k) ∧ RQ B M1 a.2
/-- an operation in both: the class's answer is the reference's, and both stand together again -/
def OP (mc mr : MD) (As : List Value) (B : Nat) (M : Mem) : Prop := ∃ b : Int32 × Mem, V mc 0 (lv_args 0 (.ref 0 :: As)) [] M (CPost b M (B + 9)) ∧ ∀ M1, (∀ k, 62 ≤ k → M1 k = M k) → V mr 0 (lv_args 0 (.ref 62 :: As)) [] M1 (RT (some (.int b.1)) (ov b.2 M1))
theorem ref_ov {mr : MD} {L : List (Nat × Value)} {f : Mem → Int32 × Mem} {M M1 : Mem} (h : ∀ k, 62 ≤ k → M1 k = M k) (ho : ∀ M X, f (ov M X) = ((f M).1, ov (f M).2 X)) (hv : V mr 0 L [] M1 (RT (some (.int (f M1).1)) (f M1).2)) : V mr 0 L [] M1 (RT (some (.int (f M).1)) (ov (f M).2 M1)) := by
  have e : f M1 = ((f M).1, ov (f M).2 M1) := (congrArg f (ov_of h)).trans (ho M M1)
  rw [e] at hv
  exact hv
theorem op_play {mc mr : MD} {As : List Value} {B : Nat} {M : Mem} (b : Int32 × Mem) (hR : RQ B M M) (hc : V mc 0 (lv_args 0 (.ref 0 :: As)) [] M (PQ b M)) (hk : ∀ k, 62 ≤ k → k ≠ 65 → k ≠ 66 → b.2 k = M k) (hr : ∀ M1, (∀ k, 62 ≤ k → M1 k = M k) → V mr 0 (lv_args 0 (.ref 62 :: As)) [] M1 (RT (some (.int b.1)) (ov b.2 M1))) : OP mc mr As B M := by
  refine ⟨b, hc.mono (fun rv M1 q => ?_), hr⟩
  obtain ⟨q1, q2, q3⟩ := q
  obtain ⟨e1, e2, e3, e4, e5⟩ := hR
  have c := fun a (y : a < 27 ∨ 53 < a) (z : a ≠ 61) => q2 a y z
  exact ⟨q1, fun k y => c k (by omega) (by omega), EV_k (by omega) (fun a y1 y2 => c a (by omega) (by omega)) (hk 63 (by decide) (by decide) (by decide)) e1, KE_k (by omega) (by rw [c 0 (by decide) (by decide)]) (fun a y1 y2 => c a (by omega) (by omega)) (by rw [hk 62 (by decide) (by decide) (by decide)]) (hk 64 (by decide) (by decide) (by decide)) e2, TA_k (by rw [c 54 (by decide) (by decide)]) (c 55 (by decide) (by decide)) (by rw [hk 62 (by decide) (by decide) (by decide)]) (hk 67 (by decide) (by decide) (by decide)) e3, q3, SHR_k (fun a y1 y2 => c a (by omega) (by omega)) (fun a y1 y2 => hk a (by omega) (by omega) (by omega)) e5⟩
/-- what the reference's contracts ask for -/
theorem ST_si {e c cc p m A B : Nat} {M R : Mem} (hV : ST e c cc p m A B M R) : R 63 1 = nI c ∧ R 63 2 = nI cc ∧ R 63 0 = nI m := by
  obtain ⟨hb, h8, h11, s5, h13, h9, h7, h6, h5, hcr, hd, hc1, hc7, h4, h10, h12, h14, hs, s1, s2, s0, s4, sd, sg, sa, s9, s8, s6, sm⟩ := hV
  exact ⟨s1, s2, s0⟩
theorem WM_of_ST {e c cc p m A B : Nat} {M R : Mem} (hp : p ≤ 99) (hB : B ≤ 100000) (hV : ST e c cc p m A B M R) : WM c cc m R := (ST_BR hp hB hV).1
theorem SHR_z {M R : Mem} (h : SHR M R) : ∀ k, k < 4 → ∃ z, z ≤ 40 ∧ R 69 k = nI z := fun k hk => by
  obtain ⟨z, hz, -, -, h3, -⟩ := h k hk
  exact ⟨z, hz, h3⟩
theorem SHR_zc {M R : Mem} (h : SHR M R) : ∀ k, k < 4 → ∃ z, z ≤ 40 ∧ M 59 k = nI z := fun k hk => by
  obtain ⟨z, hz, -, h3, -, -⟩ := h k hk
  exact ⟨z, hz, h3⟩
theorem beP_k {o : Option Nat} {M : Mem} {k : Nat} (h : k ≠ 66) : (beP o M).2 k = M k := by
  cases o with
  | none => exact ms_k h
  | some j => rfl
theorem dnP_k {v : Int32} {M : Mem} {k : Nat} (h : k ≠ 66) : (dnP v M).2 k = M k := by
  unfold dnP
  split
  · exact ms_k h
  · rfl
theorem poR_k {v : Int32} {M : Mem} {k : Nat} (h : k ≠ 66) : (poR v M).2 k = M k := by
  unfold poR
  split
  · exact ms_k h
  · rfl
theorem WM_tw {e c cc p m A B k i : Nat} (hc : c ≤ 10) (hcc : cc ≤ 12) (hp : p ≤ 99) (hk : k ≤ 60) (hA : A ≤ 5000) (hB : B ≤ 10000) (hi : i < 16) {M R : Mem} (hV : ST e c cc p m A B M R) : WM c cc (m + k) (twM c cc k m i R) := by
  have h1 := ST_go hc hp (by omega) k m A _ _ (by omega) (ST_walk (x := i / 4) (by omega) (ST_R (R' := SV R) SV_63 hV))
  unfold twM
  split
  · exact WM_of_ST hp (by omega) (ST_walk (x := i % 4) (by omega) h1)
  · exact WM_of_ST hp (by omega) h1
theorem o_price {B : Nat} (hB : B ≤ 9000) {M : Mem} (hR : RQ B M M) (n : Int32) : OP m_X8_price m_X9_price [.int n] B M := by
  have hR0 := hR
  obtain ⟨⟨c, cc, p, m, hc, hcc, hp, hm, hV, hK⟩, hKE, hTA, hF, hSH⟩ := hR
  refine op_play (pPrice c cc m n M) hR0 (v_X8_price hc hcc hp hm (by omega) (by omega) M M hV n hF) (fun k h1 h2 h3 => ?_) (fun M1 h => ?_)
  · unfold pPrice
    split
    · exact ms_k h3
    split
    · exact ms_k h3
    exact SV_k h2
  · have hV1 : ST 1 c cc p m (999 + m) B M M1 := ST_R (h 63 (by decide)) hV
    obtain ⟨r1, r2, r0⟩ := ST_si hV1
    have hS1 : ST 1 c cc p m (999 + m) B M (SV M1) := ST_R SV_63 hV1
    have hW := WM_of_ST hp (by omega) hV1
    exact ref_ov (f := pPrice c cc m n) h (fun _ _ => ov_pPrice) (v_X9_price hc hcc (by omega) n M1 r1 r2 r0 (fun q hq => WM_of_ST (by omega) (by omega) (ST_price q hS1)))
theorem o_shovels {B : Nat} (hB : B ≤ 9000) {M : Mem} (hR : RQ B M M) (n : Int32) : OP m_X8_shovels m_X9_shovels [.int n] B M := by
  have hR0 := hR
  obtain ⟨⟨c, cc, p, m, hc, hcc, hp, hm, hV, hK⟩, hKE, hTA, hF, hSH⟩ := hR
  refine op_play (pShovels c cc m n M) hR0 (v_X8_shovels hc hcc hp hm (by omega) (by omega) M M hV n hF) (fun k h1 h2 h3 => ?_) (fun M1 h => ?_)
  · unfold pShovels
    split
    · exact ms_k h3
    split
    · exact ms_k h3
    exact SV_k h2
  · have hV1 : ST 1 c cc p m (999 + m) B M M1 := ST_R (h 63 (by decide)) hV
    obtain ⟨r1, r2, r0⟩ := ST_si hV1
    have hS1 : ST 1 c cc p m (999 + m) B M (SV M1) := ST_R SV_63 hV1
    have hW := WM_of_ST hp (by omega) hV1
    exact ref_ov (f := pShovels c cc m n) h (fun _ _ => ov_pShovels) (v_X9_shovels hc hcc (by omega) n M1 r1 r2 r0 (fun q hq => by have z := WM_of_ST hp (by omega) (ST_shov q hS1); rw [SV_63] at z; exact z))
theorem o_corner {B : Nat} (hB : B ≤ 9000) {M : Mem} (hR : RQ B M M) (n : Int32) : OP m_X8_corner m_X9_corner [.int n] B M := by
  have hR0 := hR
  obtain ⟨⟨c, cc, p, m, hc, hcc, hp, hm, hV, hK⟩, hKE, hTA, hF, hSH⟩ := hR
  refine op_play (pCorner c cc m n M) hR0 (v_X8_corner hc hcc hp hm (by omega) (by omega) M M hV n hF) (fun k h1 h2 h3 => ?_) (fun M1 h => ?_)
  · unfold pCorner
    split
    · exact ms_k h3
    split
    · exact ms_k h3
    exact SV_k h2
  · have hV1 : ST 1 c cc p m (999 + m) B M M1 := ST_R (h 63 (by decide)) hV
    obtain ⟨r1, r2, r0⟩ := ST_si hV1
    have hS1 : ST 1 c cc p m (999 + m) B M (SV M1) := ST_R SV_63 hV1
    have hW := WM_of_ST hp (by omega) hV1
    exact ref_ov (f := pCorner c cc m n) h (fun _ _ => ov_pCorner) (v_X9_corner hc hcc (by omega) n M1 r1 r2 r0 (fun q hq => WM_of_ST hp (by omega) (ST_walk (x := q) (by omega) hS1)))
theorem o_kindFor {B : Nat} (hB : B ≤ 9000) {M : Mem} (hR : RQ B M M) (x n : Int32) : OP m_X8_kindFor m_X9_kindFor [.int x, .int n] B M := by
  have hR0 := hR
  obtain ⟨⟨c, cc, p, m, hc, hcc, hp, hm, hV, hK⟩, hKE, hTA, hF, hSH⟩ := hR
  refine op_play (pKindFor c cc m x n M) hR0 (v_X8_kindFor hc hcc hp hm (by omega) (by omega) M M hV x n hF) (fun k h1 h2 h3 => ?_) (fun M1 h => ?_)
  · unfold pKindFor
    split
    · exact ms_k h3
    split
    · exact ms_k h3
    exact SV_k h2
  · have hV1 : ST 1 c cc p m (999 + m) B M M1 := ST_R (h 63 (by decide)) hV
    obtain ⟨r1, r2, r0⟩ := ST_si hV1
    have hS1 : ST 1 c cc p m (999 + m) B M (SV M1) := ST_R SV_63 hV1
    have hW := WM_of_ST hp (by omega) hV1
    exact ref_ov (f := pKindFor c cc m x n) h (fun _ _ => ov_pKindFor) (v_X9_kindFor hc hcc (by omega) x n M1 r1 r2 r0 (fun y hy q hq => WM_of_ST hp (by omega) (ST_kind hc hy (nI q) hS1)))
theorem o_two {B : Nat} (hB : B ≤ 9000) {M : Mem} (hR : RQ B M M) (y n : Int32) : OP m_X8_two m_X9_two [.int y, .int n] B M := by
  have hR0 := hR
  obtain ⟨⟨c, cc, p, m, hc, hcc, hp, hm, hV, hK⟩, hKE, hTA, hF, hSH⟩ := hR
  refine op_play (pTwo c cc m y n M) hR0 (v_X8_two hc hcc hp hm (by omega) (by omega) M M hV y n hF) (fun k h1 h2 h3 => ?_) (fun M1 h => ?_)
  · unfold pTwo
    split
    · exact ms_k h3
    split
    · exact ms_k h3
    exact SV_k h2
  · have hV1 : ST 1 c cc p m (999 + m) B M M1 := ST_R (h 63 (by decide)) hV
    obtain ⟨r1, r2, r0⟩ := ST_si hV1
    have hS1 : ST 1 c cc p m (999 + m) B M (SV M1) := ST_R SV_63 hV1
    have hW := WM_of_ST hp (by omega) hV1
    exact ref_ov (f := pTwo c cc m y n) h (fun _ _ => ov_pTwo) (v_X9_two hc hcc (by omega) y n M1 r1 r2 r0 (fun i hi => WM_of_ST hp (by omega) (ST_walk (x := i) (by omega) hS1)) (fun k hk i hi => WM_tw hc hcc hp hk (by omega) (by omega) hi hV1))
theorem o_takeOff {B : Nat} (hB : B ≤ 9000) {M : Mem} (hR : RQ B M M) (x n : Int32) : OP m_X8_takeOff m_X9_takeOff [.int x, .int n] B M := by
  have hR0 := hR
  obtain ⟨⟨c, cc, p, m, hc, hcc, hp, hm, hV, hK⟩, hKE, hTA, hF, hSH⟩ := hR
  refine op_play (pTakeOff c cc m x n M) hR0 (v_X8_takeOff hc hcc hp hm (by omega) (by omega) M M hV x n hF) (fun k h1 h2 h3 => ?_) (fun M1 h => ?_)
  · unfold pTakeOff
    split
    · exact ms_k h3
    split
    · exact ms_k h3
    exact SV_k h2
  · have hV1 : ST 1 c cc p m (999 + m) B M M1 := ST_R (h 63 (by decide)) hV
    obtain ⟨r1, r2, r0⟩ := ST_si hV1
    have hS1 : ST 1 c cc p m (999 + m) B M (SV M1) := ST_R SV_63 hV1
    have hW := WM_of_ST hp (by omega) hV1
    exact ref_ov (f := pTakeOff c cc m x n) h (fun _ _ => ov_pTakeOff) (v_X9_takeOff hc hcc (by omega) x n M1 r1 r2 r0 hW)
theorem o_brings {B : Nat} (hB : B ≤ 9000) {M : Mem} (hR : RQ B M M) (x n : Int32) : OP m_X8_brings m_X9_brings [.int x, .int n] B M := by
  have hR0 := hR
  obtain ⟨⟨c, cc, p, m, hc, hcc, hp, hm, hV, hK⟩, hKE, hTA, hF, hSH⟩ := hR
  refine op_play (pBrings c cc m x n M) hR0 (v_X8_brings hc hcc hp hm (by omega) (by omega) M M hV x n hF) (fun k h1 h2 h3 => ?_) (fun M1 h => ?_)
  · unfold pBrings
    split
    · exact ms_k h3
    split
    · exact ms_k h3
    exact SV_k h2
  · have hV1 : ST 1 c cc p m (999 + m) B M M1 := ST_R (h 63 (by decide)) hV
    obtain ⟨r1, r2, r0⟩ := ST_si hV1
    have hS1 : ST 1 c cc p m (999 + m) B M (SV M1) := ST_R SV_63 hV1
    have hW := WM_of_ST hp (by omega) hV1
    exact ref_ov (f := pBrings c cc m x n) h (fun _ _ => ov_pBrings) (v_X9_brings hc hcc (by omega) x n M1 r1 r2 r0 hW (fun i hi => WM_of_ST hp (by omega) (ST_many hc hcc hi (Nat.zero_le 400) hS1)))
theorem o_best {B : Nat} (hB : B ≤ 9000) {M : Mem} (hR : RQ B M M) (n : Int32) : OP m_X8_best m_X9_best [.int n] B M := by
  have hR0 := hR
  obtain ⟨⟨c, cc, p, m, hc, hcc, hp, hm, hV, hK⟩, hKE, hTA, hF, hSH⟩ := hR
  refine op_play (pBest c cc m n M) hR0 (v_X8_best hc hcc hp hm (by omega) (by omega) M M hV n hF) (fun k h1 h2 h3 => ?_) (fun M1 h => ?_)
  · unfold pBest
    split
    · exact ms_k h3
    · split
      · exact ms_k h3
      · refine (beP_k h3).trans ?_
        split
        · rfl
        · exact SV_k h2
  · have hV1 : ST 1 c cc p m (999 + m) B M M1 := ST_R (h 63 (by decide)) hV
    obtain ⟨r1, r2, r0⟩ := ST_si hV1
    have hS1 : ST 1 c cc p m (999 + m) B M (SV M1) := ST_R SV_63 hV1
    have hW := WM_of_ST hp (by omega) hV1
    exact ref_ov (f := pBest c cc m n) h (fun _ _ => ov_pBest) (v_X9_best hc hcc (by omega) n M1 r1 r2 r0 hW (fun i hi => WM_of_ST hp (by omega) (ST_many hc hcc hi (Nat.zero_le 400) hS1)))
theorem o_ahead {B : Nat} (hB : B ≤ 9000) {M : Mem} (hR : RQ B M M) (n w : Int32) : OP m_X8_ahead m_X9_ahead [.int n, .int w] B M := by
  have hR0 := hR
  obtain ⟨⟨c, cc, p, m, hc, hcc, hp, hm, hV, hK⟩, hKE, hTA, hF, hSH⟩ := hR
  refine op_play (pAhead c cc m n w M) hR0 (v_X8_ahead hc hcc hp hm (by omega) (by omega) M M hV n w hF) (fun k h1 h2 h3 => ?_) (fun M1 h => ?_)
  · unfold pAhead
    split
    · exact ms_k h3
    split
    · exact ms_k h3
    exact SV_k h2
  · have hV1 : ST 1 c cc p m (999 + m) B M M1 := ST_R (h 63 (by decide)) hV
    obtain ⟨r1, r2, r0⟩ := ST_si hV1
    have hS1 : ST 1 c cc p m (999 + m) B M (SV M1) := ST_R SV_63 hV1
    have hW := WM_of_ST hp (by omega) hV1
    exact ref_ov (f := pAhead c cc m n w) h (fun _ _ => ov_pAhead) (v_X9_ahead hc hcc (by omega) n w M1 r1 r2 r0 hW)
theorem o_ready {B : Nat} (hB : B ≤ 9000) {M : Mem} (hR : RQ B M M) (x : Int32) : OP m_X8_ready m_X9_ready [.int x] B M := by
  have hR0 := hR
  obtain ⟨⟨c, cc, p, m, hc, hcc, hp, hm, hV, hK⟩, hKE, hTA, hF, hSH⟩ := hR
  refine op_play (pReady c cc m x M) hR0 (v_X8_ready hc hcc hp hm (by omega) (by omega) M M hV x hF) (fun k h1 h2 h3 => ?_) (fun M1 h => ?_)
  · unfold pReady
    split
    · exact ms_k h3
    split
    · exact ms_k h3
    exact (dnP_k h3).trans (SV_k h2)
  · have hV1 : ST 1 c cc p m (999 + m) B M M1 := ST_R (h 63 (by decide)) hV
    obtain ⟨r1, r2, r0⟩ := ST_si hV1
    have hS1 : ST 1 c cc p m (999 + m) B M (SV M1) := ST_R SV_63 hV1
    have hW := WM_of_ST hp (by omega) hV1
    exact ref_ov (f := pReady c cc m x) h (fun _ _ => ov_pReady) (v_X9_ready hc hcc (by omega) x M1 r1 r0 hW)
theorem o_burnt {B : Nat} (hB : B ≤ 9000) {M : Mem} (hR : RQ B M M) (x : Int32) : OP m_X8_burnt m_X9_burnt [.int x] B M := by
  have hR0 := hR
  obtain ⟨⟨c, cc, p, m, hc, hcc, hp, hm, hV, hK⟩, hKE, hTA, hF, hSH⟩ := hR
  refine op_play (pBurnt c cc m x M) hR0 (v_X8_burnt hc hcc hp hm (by omega) (by omega) M M hV x hF) (fun k h1 h2 h3 => ?_) (fun M1 h => ?_)
  · unfold pBurnt
    split
    · exact ms_k h3
    split
    · exact ms_k h3
    exact (dnP_k h3).trans (SV_k h2)
  · have hV1 : ST 1 c cc p m (999 + m) B M M1 := ST_R (h 63 (by decide)) hV
    obtain ⟨r1, r2, r0⟩ := ST_si hV1
    have hS1 : ST 1 c cc p m (999 + m) B M (SV M1) := ST_R SV_63 hV1
    have hW := WM_of_ST hp (by omega) hV1
    exact ref_ov (f := pBurnt c cc m x) h (fun _ _ => ov_pBurnt) (v_X9_burnt hc hcc (by omega) x M1 r1 r0 hW)
theorem o_putOn {B : Nat} (hB : B ≤ 9000) {M : Mem} (hR : RQ B M M) (x mm : Int32) : OP m_X8_putOn m_X9_putOn [.int x, .int mm] B M := by
  have hR0 := hR
  obtain ⟨⟨c, cc, p, m, hc, hcc, hp, hm, hV, hK⟩, hKE, hTA, hF, hSH⟩ := hR
  refine op_play (pPutOn c cc m x mm M) hR0 (v_X8_putOn hc hcc hp hm (by omega) (by omega) M M hV x mm hF) (fun k h1 h2 h3 => ?_) (fun M1 h => ?_)
  · unfold pPutOn
    split
    · exact ms_k h3
    split
    · exact ms_k h3
    exact (poR_k h3).trans (SV_k h2)
  · have hV1 : ST 1 c cc p m (999 + m) B M M1 := ST_R (h 63 (by decide)) hV
    obtain ⟨r1, r2, r0⟩ := ST_si hV1
    have hS1 : ST 1 c cc p m (999 + m) B M (SV M1) := ST_R SV_63 hV1
    have hW := WM_of_ST hp (by omega) hV1
    exact ref_ov (f := pPutOn c cc m x mm) h (fun _ _ => ov_pPutOn) (v_X9_putOn hc hcc (by omega) x mm M1 r1 r2 r0 hW)
theorem o_heatFor {B : Nat} (hB : B ≤ 9000) {M : Mem} (hR : RQ B M M) (x n : Int32) : OP m_X8_heatFor m_X9_heatFor [.int x, .int n] B M := by
  have hR0 := hR
  obtain ⟨⟨c, cc, p, m, hc, hcc, hp, hm, hV, hK⟩, hKE, hTA, hF, hSH⟩ := hR
  refine op_play (pHeatFor c cc m x n M) hR0 (v_X8_heatFor hc hcc hp hm (by omega) (by omega) M M hV x n hF) (fun k h1 h2 h3 => ?_) (fun M1 h => ?_)
  · unfold pHeatFor
    split
    · exact ms_k h3
    split
    · exact ms_k h3
    exact (poR_k h3).trans (SV_k h2)
  · have hV1 : ST 1 c cc p m (999 + m) B M M1 := ST_R (h 63 (by decide)) hV
    obtain ⟨r1, r2, r0⟩ := ST_si hV1
    have hS1 : ST 1 c cc p m (999 + m) B M (SV M1) := ST_R SV_63 hV1
    have hW := WM_of_ST hp (by omega) hV1
    exact ref_ov (f := pHeatFor c cc m x n) h (fun _ _ => ov_pHeatFor) (v_X9_heatFor hc hcc (by omega) x n M1 r1 r2 r0 (fun q hq => WM_of_ST hp (by omega) (ST_heat (v := q) (by omega) hS1)))
theorem o_left {B : Nat} (hB : B ≤ 9000) {M : Mem} (hR : RQ B M M) (n : Int32) : OP m_X8_left m_X9_left [.int n] B M := by
  have hR0 := hR
  obtain ⟨⟨c, cc, p, m, hc, hcc, hp, hm, hV, hK⟩, hKE, hTA, hF, hSH⟩ := hR
  refine op_play (pLeft c cc m n M) hR0 (v_X8_left hc hcc hp hm (by omega) (by omega) M M hV n hF) (fun k h1 h2 h3 => ?_) (fun M1 h => ?_)
  · unfold pLeft
    split
    · exact ms_k h3
    split
    · exact ms_k h3
    exact (beP_k h3).trans (SV_k h2)
  · have hV1 : ST 1 c cc p m (999 + m) B M M1 := ST_R (h 63 (by decide)) hV
    obtain ⟨r1, r2, r0⟩ := ST_si hV1
    have hS1 : ST 1 c cc p m (999 + m) B M (SV M1) := ST_R SV_63 hV1
    have hW := WM_of_ST hp (by omega) hV1
    exact ref_ov (f := pLeft c cc m n) h (fun _ _ => ov_pLeft) (v_X9_left hc hcc (by omega) n M1 r1 r2 r0 hW)
theorem o_judge {B : Nat} (hB : B ≤ 9000) {M : Mem} (hR : RQ B M M) (x : Int32) : OP m_X8_judge m_X9_judge [.int x] B M := by
  have hR0 := hR
  obtain ⟨⟨c, cc, p, m, hc, hcc, hp, hm, hV, hK⟩, hKE, hTA, hF, hSH⟩ := hR
  refine op_play (pJudge c cc m x M) hR0 (v_X8_judge hc hcc hp hm (by omega) (by omega) M M hV x hF hSH) (fun k h1 h2 h3 => ?_) (fun M1 h => ?_)
  · unfold pJudge
    split
    · exact ms_k h3
    split
    · exact ms_k h3
    split
    · exact ms_k h3
    exact SV_k h2
  · have hV1 : ST 1 c cc p m (999 + m) B M M1 := ST_R (h 63 (by decide)) hV
    obtain ⟨r1, r2, r0⟩ := ST_si hV1
    have hS1 : ST 1 c cc p m (999 + m) B M (SV M1) := ST_R SV_63 hV1
    have hW := WM_of_ST hp (by omega) hV1
    exact ref_ov (f := pJudge c cc m x) h (fun _ _ => ov_pJudge) (v_X9_judge hc hcc (by omega) x M1 r1 r2 r0 (fun k hk => by rw [h 69 (by decide)]; exact SHR_z hSH k hk) hW)
