/-! Operations on the evening, in both -/
def GR (B : Nat) (M : Mem) (a b : Int32 × Mem) : Prop := a.1 = b.1 ∧ (∀ k, 62 ≤ k → a.2 k = M k) ∧ RQ (B + 9) a.2 b.2
theorem op_gr {mc mr : MD} {As : List Value} {B : Nat} {M : Mem} {a b : Int32 × Mem} (hc : V mc 0 (lv_args 0 (.ref 0 :: As)) [] M (RT (some (.int a.1)) a.2)) (hg : GR B M a b) (hr : ∀ M1, (∀ k, 62 ≤ k → M1 k = M k) → V mr 0 (lv_args 0 (.ref 62 :: As)) [] M1 (RT (some (.int b.1)) (ov b.2 M1))) : OP mc mr As B M :=
  ⟨b, hc.mono (fun rv M1 q => by
    obtain ⟨q1, q2⟩ := q
    rw [q1, q2]
    exact ⟨by rw [hg.1], hg.2.1, hg.2.2⟩), hr⟩
theorem GR_f {B w : Nat} {x : Int32} {M : Mem} (hR : RQ B M M) : GR B M (x, cfd w M) (x, fdM w M) := by
  obtain ⟨e1, e2, e3, e4, e5⟩ := hR
  refine ⟨rfl, fun k hk => ms_k (by omega), ?_⟩
  show RQ (B + 9) (cfd w M) (fdM w M)
  have c : ∀ a, a ≠ 61 → cfd w M a = M a := fun a h => ms_k h
  have d : ∀ a, a ≠ 66 → fdM w M a = M a := fun a h => ms_k h
  exact ⟨EV_k (by omega) (fun a _ _ => c a (by omega)) (d 63 (by decide)) e1, KE_k (by omega) (by rw [c 0 (by decide)]) (fun a _ _ => c a (by omega)) (by rw [d 62 (by decide)]) (d 64 (by decide)) e2, TA_k (by rw [c 54 (by decide)]) (c 55 (by decide)) (by rw [d 62 (by decide)]) (d 67 (by decide)) e3, F61_f e4, SHR_k (fun a _ _ => c a (by omega)) (fun a _ _ => d a (by omega)) e5⟩
theorem GR_v {B : Nat} {x y : Int32} {M : Mem} (h : x = y) (hR : RQ B M M) : GR B M (x, M) (y, M) := ⟨h, fun _ _ => rfl, RQ_mono (by omega) hR⟩
theorem GR_ev {B : Nat} {x y : Int32} {M M' R' : Mem} (hR : RQ B M M) (h : x = y) (h1 : ∀ k, k = 0 ∨ 14 ≤ k → M' k = M k) (h2 : ∀ k, 62 ≤ k → k ≠ 63 → R' k = M k) (hE : EV (B + 9) M' R') : GR B M (x, M') (y, R') := by
  obtain ⟨e1, e2, e3, e4, e5⟩ := hR
  refine ⟨h, fun k hk => h1 k (by omega), ?_⟩
  show RQ (B + 9) M' R'
  exact ⟨hE, KE_k (by omega) (by rw [h1 0 (by omega)]) (fun a _ _ => h1 a (by omega)) (by rw [h2 62 (by decide) (by decide)]) (h2 64 (by decide) (by decide)) e2, TA_k (by rw [h1 54 (by omega)]) (h1 55 (by omega)) (by rw [h2 62 (by decide) (by decide)]) (h2 67 (by decide) (by decide)) e3, F61_k (h1 61 (by omega)) (h2 66 (by decide) (by decide)) e4, SHR_k (fun a _ _ => h1 a (by omega)) (fun a _ _ => h2 a (by omega) (by omega)) e5⟩
theorem EV_mk {B c cc p m : Nat} {M R : Mem} (hc : c ≤ 10) (hcc : cc ≤ 12) (hp : p ≤ 99) (hm : m ≤ 999) (hV : ST 1 c cc p m (999 + m) B M R) (hK : KI c R) : EV (B + 9) M R := ⟨c, cc, p, m, hc, hcc, hp, hm, ST_mono (Nat.le_refl _) (by omega) hV, hK⟩
theorem KI_of {c : Nat} {R R' : Mem} (h1 : ∀ b, b < c → R' 63 (20 + 5 * b) = R 63 (20 + 5 * b)) (h2 : ∀ k, k < 10 → R' 63 (106 + k) = R 63 (106 + k)) (hK : KI c R) : KI c R' := ⟨fun b hb => by rw [h1 b hb]; exact hK.1 b hb, fun k hk => by rw [h2 k hk]; exact hK.2 k hk⟩
theorem g_batch {B : Nat} (hB : B ≤ 9000) {M : Mem} (hR : RQ B M M) {c : Nat} (hc : c ≤ 10) {cc : Nat} (hcc : cc ≤ 12) {p : Nat} (hp : p ≤ 99) {m : Nat} (hm : m ≤ 999) (hV : ST 1 c cc p m (999 + m) B M M) (hK : KI c M) (k : Int32) : GR B M (cBatch c k M) (pBatch c k M) := by
  unfold cBatch pBatch
  by_cases h1 : rng 0 6 k = true
  · rw [if_neg (not_not_intro h1), if_neg (not_not_intro h1)]
    by_cases h2 : c = 10
    · rw [if_pos (show 10 ≤ c by omega), if_pos h2]
      exact GR_f hR
    · rw [if_neg (show ¬ 10 ≤ c by omega), if_neg h2]
      obtain ⟨kk, hkk, rfl⟩ := of_rng (b := 6) h1
      exact GR_ev hR rfl (fun a z => by unfold nAddM; simp (disch := omega) only [ms_k]) (fun a z1 z2 => new_62 z2) (EV_mk (by omega) hcc hp hm (ST_newB (by omega) (nI kk) 0 0 hV) (KI_newB (by omega) hkk hK))
  · rw [if_pos h1, if_pos h1]
    exact GR_f hR
theorem o_batch {B : Nat} (hB : B ≤ 9000) {M : Mem} (hR : RQ B M M) (k : Int32) : OP m_X8_batch m_X9_batch [.int k] B M := by
  have hR0 := hR
  obtain ⟨⟨c, cc, p, m, hc, hcc, hp, hm, hV, hK⟩, hKE, hTA, hF, hSH⟩ := hR
  obtain ⟨hM, h2, h0, hP⟩ := ST_cnt hV
  refine op_gr (a := cBatch c k M) (b := pBatch c k M) (v_X8_batch hc k M hM) (g_batch hB hR0 hc hcc hp hm hV hK k) (fun M1 h => ?_)
  have hV1 : ST 1 c cc p m (999 + m) B M M1 := ST_R (h 63 (by decide)) hV
  obtain ⟨r1, r2, r0⟩ := ST_si hV1
  exact ref_ov (f := pBatch c k) h (fun _ _ => ov_pBatch) (v_X9_batch hc k M1 r1)
theorem w_of {n : Nat} {w : Int32} (hn : n < 2 ^ 31) (h : rng 0 n w = true) : ∃ k, k ≤ n ∧ w = nI k := of_rng h
theorem g_of {B : Nat} (hB : B ≤ 9000) {M : Mem} (hR : RQ B M M) {c : Nat} (hc : c ≤ 10) {cc : Nat} (hcc : cc ≤ 12) {p : Nat} (hp : p ≤ 99) {m : Nat} (hm : m ≤ 999) (hV : ST 1 c cc p m (999 + m) B M M) (hK : KI c M) (x w : Int32) : GR B M (cOf c p x w M) (pOf c x w M) := by
  unfold cOf pOf
  by_cases hb : isB c x = true
  · rw [if_neg (not_not_intro hb)]
    obtain ⟨b, hbc, rfl⟩ := of_isB hb
    have eb : (nI b).toNatClampNeg = b := nI_clamp (by omega)
    rw [eb]
    obtain ⟨q0, q1, q2, q3, q4⟩ := ST_b hV hbc
    have q5 : M 1 5 = M 63 5 := by
      obtain ⟨hb, h8, h11, s5, h13, h9, h7, h6, h5, hcr, hd, hc1, hc7, h4, h10, h12, h14, hs, s1, s2, s0, s4, sd, sg, sa, s9, s8, s6, sm⟩ := hV
      exact h5
    by_cases hw : rng 0 7 w = true
    · rw [if_neg (not_not_intro (And.intro hb hw))]
      obtain ⟨k, hk, rfl⟩ := of_rng (b := 7) hw
      rcases (show k = 0 ∨ k = 1 ∨ k = 2 ∨ k = 3 ∨ k = 4 ∨ k = 5 ∨ k = 6 ∨ k = 7 by omega) with rfl | rfl | rfl | rfl | rfl | rfl | rfl | rfl
      · exact GR_v q0 hR
      · exact GR_v q1 hR
      · exact GR_v q2 hR
      · exact GR_v q3 hR
      · exact GR_v q4 hR
      · exact GR_v (congrArg readyF q0) hR
      · exact GR_v (congrArg burntF q0) hR
      · exact GR_v (by show worthF (M 3 b) (M 1 5) = worthF (M 63 (20 + 5 * b)) (M 63 5); rw [q5, show M 3 b = M 63 (20 + 5 * b) from q0]) hR
    · rw [if_pos (fun z => hw z.2), if_neg (fun z => hw (by rw [z]; decide)), if_neg (fun z => hw (by rw [z]; decide)), if_neg (fun z => hw (by rw [z]; decide)), if_neg (fun z => hw (by rw [z]; decide)), if_neg (fun z => hw (by rw [z]; decide)), if_neg (fun z => hw (by rw [z]; decide)), if_neg (fun z => hw (by rw [z]; decide)), if_neg (fun z => hw (by rw [z]; decide))]
      exact GR_f hR
  · rw [if_pos hb, if_pos (fun z => hb z.1)]
    exact GR_f hR
theorem o_of {B : Nat} (hB : B ≤ 9000) {M : Mem} (hR : RQ B M M) (x w : Int32) : OP m_X8_of m_X9_of [.int x, .int w] B M := by
  have hR0 := hR
  obtain ⟨⟨c, cc, p, m, hc, hcc, hp, hm, hV, hK⟩, hKE, hTA, hF, hSH⟩ := hR
  obtain ⟨hM, h2, h0, hP⟩ := ST_cnt hV
  refine op_gr (a := cOf c p x w M) (b := pOf c x w M) (v_X8_of hc (by omega) x w M hM hP) (g_of hB hR0 hc hcc hp hm hV hK x w) (fun M1 h => ?_)
  have hV1 : ST 1 c cc p m (999 + m) B M M1 := ST_R (h 63 (by decide)) hV
  obtain ⟨r1, r2, r0⟩ := ST_si hV1
  exact ref_ov (f := pOf c x w) h (fun _ _ => ov_pOf) (v_X9_of hc x w M1 r1)
theorem KI_kind {c x v : Nat} {R : Mem} (hc : c ≤ 10) (hx : x < c) (hv : v ≤ 6) (hK : KI c R) : KI c (ms R 63 (20 + 5 * x) (nI v)) := by
  refine ⟨fun b hb => ?_, fun k hk => by rw [ms_j (by omega)]; exact hK.2 k hk⟩
  by_cases q : b = x
  · subst q; exact ⟨v, hv, ms_s⟩
  · rw [ms_j (by omega)]; exact hK.1 b hb
theorem g_change {B : Nat} (hB : B ≤ 9000) {M : Mem} (hR : RQ B M M) {c : Nat} (hc : c ≤ 10) {cc : Nat} (hcc : cc ≤ 12) {p : Nat} (hp : p ≤ 99) {m : Nat} (hm : m ≤ 999) (hV : ST 1 c cc p m (999 + m) B M M) (hK : KI c M) (x w v : Int32) : GR B M (cChange c x w v M) (pChange c x w v M) := by
  unfold cChange pChange
  by_cases hb : isB c x = true
  · rw [if_neg (not_not_intro hb)]
    obtain ⟨b, hbc, rfl⟩ := of_isB hb
    have eb : (nI b).toNatClampNeg = b := nI_clamp (by omega)
    rw [eb]
    obtain ⟨q0, q1, q2, q3, q4⟩ := ST_b hV hbc
    by_cases w0 : w = 0
    · subst w0
      rw [if_pos rfl]
      by_cases hv : rng 0 6 v = true
      · rw [show exA 3 b v 6 M = M 3 b from if_pos hv, show exM 3 b v 6 M = ms M 3 b v from if_pos hv, if_neg (fun z => z ⟨hb, .inl ⟨rfl, hv⟩⟩)]
        obtain ⟨v, hv9, rfl⟩ := of_rng (b := 6) hv
        exact GR_ev hR q0 (fun a z => ms_k (by omega)) (fun a z1 z2 => ms_k z2) (EV_mk hc hcc hp hm (ST_kind hc hbc (nI v) hV) (KI_kind hc hbc hv9 hK))
      · rw [show exA 3 b v 6 M = -1000001 from if_neg hv, show exM 3 b v 6 M = cfd 0 M from if_neg hv, if_pos (fun z => hv (z.2.elim (fun y => y.2) (fun y => y.elim (fun y => absurd y.1 (by decide)) (fun y => y.1.elim (fun u => absurd u (by decide)) (fun u => absurd u (by decide))))))]
        exact GR_f hR
    · rw [if_neg w0]
      by_cases w1 : w = 1
      · subst w1
        rw [if_pos rfl]
        by_cases hv : rng 0 9 v = true
        · rw [show exA 4 b v 9 M = M 4 b from if_pos hv, show exM 4 b v 9 M = ms M 4 b v from if_pos hv, if_neg (fun z => z ⟨hb, .inr (.inl ⟨rfl, hv⟩)⟩)]
          obtain ⟨v, hv9, rfl⟩ := of_rng (b := 9) hv
          exact GR_ev hR q1 (fun a z => ms_k (by omega)) (fun a z1 z2 => ms_k z2) (EV_mk hc hcc hp hm (ST_bags hc hbc hv9 hV) (show KI c (ms M 63 (20 + 5 * b + 1) (nI v)) from KI_of (fun y hy => ms_j (by omega)) (fun y hy => ms_j (by omega)) hK))
        · rw [show exA 4 b v 9 M = -1000001 from if_neg hv, show exM 4 b v 9 M = cfd 0 M from if_neg hv, if_pos (fun z => hv (z.2.elim (fun y => absurd y.1 (by decide)) (fun y => y.elim (fun y => y.2) (fun y => y.1.elim (fun u => absurd u (by decide)) (fun u => absurd u (by decide))))))]
          exact GR_f hR
      · rw [if_neg w1]
        by_cases w2 : w = 2
        · subst w2
          rw [if_pos rfl]
          by_cases hv : rng 0 999 v = true
          · rw [show exA 5 b v 999 M = M 5 b from if_pos hv, show exM 5 b v 999 M = ms M 5 b v from if_pos hv, if_neg (fun z => z ⟨hb, .inr (.inr ⟨.inl rfl, hv⟩)⟩)]
            exact GR_ev hR q2 (fun a z => ms_k (by omega)) (fun a z1 z2 => ms_k z2) (EV_mk hc hcc hp hm (ST_roast hc hbc v hV) (show KI c (ms M 63 (20 + 5 * b + 2) (v)) from KI_of (fun y hy => ms_j (by omega)) (fun y hy => ms_j (by omega)) hK))
          · rw [show exA 5 b v 999 M = -1000001 from if_neg hv, show exM 5 b v 999 M = cfd 0 M from if_neg hv, if_pos (fun z => hv (z.2.elim (fun y => absurd y.1 (by decide)) (fun y => y.elim (fun y => absurd y.1 (by decide)) (fun y => y.2))))]
            exact GR_f hR
        · rw [if_neg w2]
          by_cases w3 : w = 3
          · subst w3
            rw [if_pos rfl]
            by_cases hv : rng 0 999 v = true
            · rw [show exA 6 b v 999 M = M 6 b from if_pos hv, show exM 6 b v 999 M = ms M 6 b v from if_pos hv, if_neg (fun z => z ⟨hb, .inr (.inr ⟨.inr rfl, hv⟩)⟩)]
              obtain ⟨v, hv9, rfl⟩ := of_rng (b := 999) hv
              exact GR_ev hR q3 (fun a z => ms_k (by omega)) (fun a z1 z2 => ms_k z2) (EV_mk hc hcc hp hm (ST_age hc hbc (by omega) hV) (show KI c (ms M 63 (20 + 5 * b + 3) (nI v)) from KI_of (fun y hy => ms_j (by omega)) (fun y hy => ms_j (by omega)) hK))
            · rw [show exA 6 b v 999 M = -1000001 from if_neg hv, show exM 6 b v 999 M = cfd 0 M from if_neg hv, if_pos (fun z => hv (z.2.elim (fun y => absurd y.1 (by decide)) (fun y => y.elim (fun y => absurd y.1 (by decide)) (fun y => y.2))))]
              exact GR_f hR
          · rw [if_neg w3, if_pos (fun z => z.2.elim (fun y => w0 y.1) (fun y => y.elim (fun y => w1 y.1) (fun y => y.1.elim w2 w3)))]
            exact GR_f hR
  · rw [if_pos hb, if_pos (fun z => hb z.1)]
    exact GR_f hR
theorem o_change {B : Nat} (hB : B ≤ 9000) {M : Mem} (hR : RQ B M M) (x w v : Int32) : OP m_X8_change m_X9_change [.int x, .int w, .int v] B M := by
  have hR0 := hR
  obtain ⟨⟨c, cc, p, m, hc, hcc, hp, hm, hV, hK⟩, hKE, hTA, hF, hSH⟩ := hR
  obtain ⟨hM, h2, h0, hP⟩ := ST_cnt hV
  refine op_gr (a := cChange c x w v M) (b := pChange c x w v M) (v_X8_change hc x w v M hM) (g_change hB hR0 hc hcc hp hm hV hK x w v) (fun M1 h => ?_)
  have hV1 : ST 1 c cc p m (999 + m) B M M1 := ST_R (h 63 (by decide)) hV
  obtain ⟨r1, r2, r0⟩ := ST_si hV1
  exact ref_ov (f := pChange c x w v) h (fun _ _ => ov_pChange) (v_X9_change hc x w v M1 r1)
theorem g_put {B : Nat} (hB : B ≤ 9000) {M : Mem} (hR : RQ B M M) {c : Nat} (hc : c ≤ 10) {cc : Nat} (hcc : cc ≤ 12) {p : Nat} (hp : p ≤ 99) {m : Nat} (hm : m ≤ 999) (hV : ST 1 c cc p m (999 + m) B M M) (hK : KI c M) (x q : Int32) : GR B M (cPut c x q M) (pPut c x q M) := by
  unfold cPut pPut
  by_cases hb : isB c x = true
  · obtain ⟨b, hbc, rfl⟩ := of_isB hb
    have eb : (nI b).toNatClampNeg = b := nI_clamp (by omega)
    rw [eb]
    obtain ⟨q0, q1, q2, q3, q4⟩ := ST_b hV hbc
    have q4' : M 7 b = M 63 (20 + 5 * b + 4) := q4
    rw [q4', show bcF (setG (M 7) q c 0 0) = onesF (setG (col M 4) q c 0 0) from room_eq hc hV q]
    by_cases hq : rng 1 4 q = true
    · rw [if_neg (not_not_intro (And.intro hb hq)), if_neg (not_not_intro (And.intro hb hq))]
      by_cases h1 : M 63 (20 + 5 * b + 4) = 4 ∨ M 63 (20 + 5 * b + 4) = q
      · rw [if_pos h1, if_pos h1]
        exact GR_f hR
      · rw [if_neg h1, if_neg h1]
        by_cases h2 : (¬ q = 1 ∧ ¬ q = 2) ∨ onesF (setG (col M 4) q c 0 0) < (if q = 1 then 2 else 4)
        · rw [if_neg (not_not_intro h2), if_neg (not_not_intro h2)]
          refine GR_ev hR rfl (fun a z => by rw [ms_k (by omega)]; unfold layM; (repeat' split) <;> simp (disch := omega) only [ms_k]) (fun a z1 z2 => by unfold mPutM mGoesM; (repeat' split) <;> simp (disch := assumption) only [ms_k]) ?_
          by_cases q4 : q = 4
          · subst q4
            exact EV_mk hc hcc hp hm (by rw [show mPutM b 4 M = mGoesM b M from if_pos rfl]; exact ST_gone hc hbc hV) (KI_of (fun y hy => by rw [show mPutM b 4 M = mGoesM b M from if_pos rfl]; unfold mGoesM; simp (disch := omega) only [ms_j]) (fun y hy => by rw [show mPutM b 4 M = mGoesM b M from if_pos rfl]; unfold mGoesM; simp (disch := omega) only [ms_j]) hK)
          · have ew : ms (layM 1 b q M) 1 12 (M 1 12 + layV 1 b q M) = layM 1 b q M := by
              rw [show layV 1 b q M = 0 from if_neg q4, Int32.add_zero]
              refine ms_id ?_
              unfold layM
              rw [if_neg q4]
              split <;> simp (disch := decide) only [ms_k]
            rw [ew]
            have hki : KI c (mPutM b q M) := KI_of (fun y hy => by rw [show mPutM b q M = ms (ms M 63 (20 + 5 * b + 4) q) 63 (20 + 5 * b + 3) (if q = 3 then 0 else M 63 (20 + 5 * b + 3)) from if_neg q4]; simp (disch := omega) only [ms_j]) (fun y hy => by rw [show mPutM b q M = ms (ms M 63 (20 + 5 * b + 4) q) 63 (20 + 5 * b + 3) (if q = 3 then 0 else M 63 (20 + 5 * b + 3)) from if_neg q4]; simp (disch := omega) only [ms_j]) hK
            by_cases q3 : q = 3
            · subst q3
              exact EV_mk hc hcc hp hm (ST_heap hc hbc hV) hki
            · exact EV_mk hc hcc hp hm (ST_fire hc hbc q4 q3 hV) hki
        · rw [if_pos h2, if_pos h2]
          exact GR_f hR
    · rw [if_pos (fun z => hq z.2), if_pos (fun z => hq z.2)]
      exact GR_f hR
  · rw [if_pos (fun z => hb z.1), if_pos (fun z => hb z.1)]
    exact GR_f hR
theorem o_put {B : Nat} (hB : B ≤ 9000) {M : Mem} (hR : RQ B M M) (x q : Int32) : OP m_X8_put m_X9_put [.int x, .int q] B M := by
  have hR0 := hR
  obtain ⟨⟨c, cc, p, m, hc, hcc, hp, hm, hV, hK⟩, hKE, hTA, hF, hSH⟩ := hR
  obtain ⟨hM, h2, h0, hP⟩ := ST_cnt hV
  refine op_gr (a := cPut c x q M) (b := pPut c x q M) (v_X8_put hc x q M hM) (g_put hB hR0 hc hcc hp hm hV hK x q) (fun M1 h => ?_)
  have hV1 : ST 1 c cc p m (999 + m) B M M1 := ST_R (h 63 (by decide)) hV
  obtain ⟨r1, r2, r0⟩ := ST_si hV1
  exact ref_ov (f := pPut c x q) h (fun _ _ => ov_pPut) (v_X9_put hc x q M1 r1)
theorem g_heats {B : Nat} (hB : B ≤ 9000) {M : Mem} (hR : RQ B M M) {c : Nat} (hc : c ≤ 10) {cc : Nat} (hcc : cc ≤ 12) {p : Nat} (hp : p ≤ 99) {m : Nat} (hm : m ≤ 999) (hV : ST 1 c cc p m (999 + m) B M M) (hK : KI c M) (x h : Int32) : GR B M (cHeats c x h M) (pHeats c x h M) := by
  unfold cHeats pHeats
  by_cases hb : isB c x = true ∧ rng 0 20 h = true
  · rw [if_pos hb, if_pos hb]
    obtain ⟨b, hbc, rfl⟩ := of_isB hb.1
    have eb : (nI b).toNatClampNeg = b := nI_clamp (by omega)
    rw [eb]
    exact GR_v (by rw [show M 3 b = M 63 (20 + 5 * b) from (ST_b hV hbc).1]) hR
  · rw [if_neg hb, if_neg hb]
    exact GR_f hR
theorem o_heats {B : Nat} (hB : B ≤ 9000) {M : Mem} (hR : RQ B M M) (x u : Int32) : OP m_X8_heats m_X9_heats [.int x, .int u] B M := by
  have hR0 := hR
  obtain ⟨⟨c, cc, p, m, hc, hcc, hp, hm, hV, hK⟩, hKE, hTA, hF, hSH⟩ := hR
  obtain ⟨hM, h2, h0, hP⟩ := ST_cnt hV
  refine op_gr (a := cHeats c x u M) (b := pHeats c x u M) (v_X8_heats hc x u M hM) (g_heats hB hR0 hc hcc hp hm hV hK x u) (fun M1 h => ?_)
  have hV1 : ST 1 c cc p m (999 + m) B M M1 := ST_R (h 63 (by decide)) hV
  obtain ⟨r1, r2, r0⟩ := ST_si hV1
  exact ref_ov (f := pHeats c x u) h (fun _ _ => ov_pHeats) (v_X9_heats hc x u M1 r1)
theorem le_lt {a k k1 : Int32} {n : Int} (h : k.toInt = n) (h1 : k1.toInt = n + 1) : a ≤ k ↔ a < k1 := by
  rw [Int32.le_iff_toInt_le, Int32.lt_iff_toInt_lt, h, h1]
  omega
theorem g_how {B : Nat} (hB : B ≤ 9000) {M : Mem} (hR : RQ B M M) {c : Nat} (hc : c ≤ 10) {cc : Nat} (hcc : cc ≤ 12) {p : Nat} (hp : p ≤ 99) {m : Nat} (hm : m ≤ 999) (hV : ST 1 c cc p m (999 + m) B M M) (hK : KI c M) (x : Int32) : GR B M (cHow c x M) (pHow c x M) := by
  unfold cHow pHow
  by_cases hb : isB c x = true
  · rw [if_neg (not_not_intro hb), if_pos hb]
    obtain ⟨b, hbc, rfl⟩ := of_isB hb
    have eb : (nI b).toNatClampNeg = b := nI_clamp (by omega)
    rw [eb]
    obtain ⟨q0, q1, q2, q3, q4⟩ := ST_b hV hbc
    rw [show M 7 b = M 63 (20 + 5 * b + 4) from q4, show M 3 b = M 63 (20 + 5 * b) from q0, show M 5 b = M 63 (20 + 5 * b + 2) from q2, show M 6 b = M 63 (20 + 5 * b + 3) from q3]
    unfold hwF
    by_cases h1 : M 63 (20 + 5 * b + 4) = 4
    · rw [if_pos h1, if_pos h1]
      exact GR_v rfl hR
    · rw [if_neg h1, if_neg h1]
      by_cases h2 : burntF (M 63 (20 + 5 * b)) ≤ M 63 (20 + 5 * b + 2)
      · rw [if_pos h2, if_pos h2]
        exact GR_v rfl hR
      · rw [if_neg h2, if_neg h2]
        by_cases h3 : readyF (M 63 (20 + 5 * b)) ≤ M 63 (20 + 5 * b + 2)
        · rw [if_neg (not_not_intro (And.intro h1 h3)), if_pos h3]
          by_cases h4 : M 63 (20 + 5 * b + 3) ≤ 10
          · rw [if_pos h4, if_pos ((le_lt (n := 10) rfl rfl).mp h4)]
            exact GR_v rfl hR
          · rw [if_neg h4, if_neg (fun z => h4 ((le_lt (n := 10) (k1 := 11) rfl rfl).mpr z))]
            by_cases h5 : M 63 (20 + 5 * b + 3) ≤ 25
            · rw [if_pos h5, if_pos ((le_lt (n := 25) rfl rfl).mp h5)]
              exact GR_v rfl hR
            · rw [if_neg h5, if_neg (fun z => h5 ((le_lt (n := 25) (k1 := 26) rfl rfl).mpr z))]
              exact GR_v rfl hR
        · rw [if_pos (fun z => h3 z.2), if_neg h3]
          exact GR_v rfl hR
  · rw [if_pos hb, if_neg hb]
    exact GR_f hR
theorem o_how {B : Nat} (hB : B ≤ 9000) {M : Mem} (hR : RQ B M M) (x : Int32) : OP m_X8_how m_X9_how [.int x] B M := by
  have hR0 := hR
  obtain ⟨⟨c, cc, p, m, hc, hcc, hp, hm, hV, hK⟩, hKE, hTA, hF, hSH⟩ := hR
  obtain ⟨hM, h2, h0, hP⟩ := ST_cnt hV
  refine op_gr (a := cHow c x M) (b := pHow c x M) (v_X8_how hc x M hM) (g_how hB hR0 hc hcc hp hm hV hK x) (fun M1 h => ?_)
  have hV1 : ST 1 c cc p m (999 + m) B M M1 := ST_R (h 63 (by decide)) hV
  obtain ⟨r1, r2, r0⟩ := ST_si hV1
  exact ref_ov (f := pHow c x) h (fun _ _ => ov_pHow) (v_X9_how hc x M1 r1)
theorem sum_rot {f g : Nat → Int32} {m : Nat} (h : ∀ k, k < 7 → f ((m + k) % 7) = g k) : sumG f 7 0 0 = sumG g 7 0 0 := by
  have e : ∀ i, i < 7 → f i = g ((i + 7 - m % 7) % 7) := fun i hi => by
    rw [← h _ (by omega), show (m + (i + 7 - m % 7) % 7) % 7 = i by omega]
  simp only [sumG]
  rw [e 0 (by decide), e 1 (by decide), e 2 (by decide), e 3 (by decide), e 4 (by decide), e 5 (by decide), e 6 (by decide)]
  rcases (show m % 7 = 0 ∨ m % 7 = 1 ∨ m % 7 = 2 ∨ m % 7 = 3 ∨ m % 7 = 4 ∨ m % 7 = 5 ∨ m % 7 = 6 by omega) with q | q | q | q | q | q | q <;> rw [q] <;> simp only [Nat.reduceAdd, Nat.reduceSub, Nat.reduceMod] <;> ac_rfl
theorem ST_due {e c cc p m A B : Nat} {M R : Mem} (hV : ST e c cc p m A B M R) : ∀ k, k < 7 → M (e+11) ((m + k) % 7) = dueC R k := by
  obtain ⟨hb, h8, h11, s5, h13, h9, h7, h6, h5, hcr, hd, hc1, hc7, h4, h10, h12, h14, hs, s1, s2, s0, s4, sd, sg, sa, s9, s8, s6, sm⟩ := hV
  exact hd
theorem g_shovel {B : Nat} (hB : B ≤ 9000) {M : Mem} (hR : RQ B M M) {c : Nat} (hc : c ≤ 10) {cc : Nat} (hcc : cc ≤ 12) {p : Nat} (hp : p ≤ 99) {m : Nat} (hm : m ≤ 999) (hV : ST 1 c cc p m (999 + m) B M M) (hK : KI c M) (n : Int32) : GR B M (cShovel c m n M) (pShovel c n M) := by
  unfold cShovel pShovel
  by_cases h1 : rng 1 9 n = true
  · rw [if_neg (not_not_intro h1), if_neg (not_not_intro h1)]
    obtain ⟨k, hk, rfl⟩ := of_rng1 (b := 9) h1
    have hV2 : ST 1 c cc p m (999 + m) (B + k) (addShM 1 m (nI k) M) (ms M 63 19 (M 63 19 + nI k)) := ST_shov k hV
    exact GR_ev hR (sum_rot (ST_due hV2)) (fun a z => ms_k (by omega)) (fun a z1 z2 => ms_k z2) ⟨c, cc, p, m, hc, hcc, hp, hm, ST_mono (Nat.le_refl _) (by omega) hV2, KI_of (fun y hy => ms_j (by omega)) (fun y hy => ms_j (by omega)) hK⟩
  · rw [if_pos h1, if_pos h1]
    exact GR_f hR
theorem o_shovel {B : Nat} (hB : B ≤ 9000) {M : Mem} (hR : RQ B M M) (n : Int32) : OP m_X8_shovel m_X9_shovel [.int n] B M := by
  have hR0 := hR
  obtain ⟨⟨c, cc, p, m, hc, hcc, hp, hm, hV, hK⟩, hKE, hTA, hF, hSH⟩ := hR
  obtain ⟨hM, h2, h0, hP⟩ := ST_cnt hV
  refine op_gr (a := cShovel c m n M) (b := pShovel c n M) (v_X8_shovel hc (by omega) n M hM h0) (g_shovel hB hR0 hc hcc hp hm hV hK n) (fun M1 h => ?_)
  have hV1 : ST 1 c cc p m (999 + m) B M M1 := ST_R (h 63 (by decide)) hV
  obtain ⟨r1, r2, r0⟩ := ST_si hV1
  exact ref_ov (f := pShovel c n) h (fun _ _ => ov_pShovel) (v_X9_shovel hc n M1 r1)
theorem g_rule {B : Nat} (hB : B ≤ 9000) {M : Mem} (hR : RQ B M M) {c : Nat} (hc : c ≤ 10) {cc : Nat} (hcc : cc ≤ 12) {p : Nat} (hp : p ≤ 99) {m : Nat} (hm : m ≤ 999) (hV : ST 1 c cc p m (999 + m) B M M) (hK : KI c M) (w v : Int32) : GR B M (cRule c w v M) (pRule c w v M) := by
  unfold cRule pRule
  have em : ∀ w, rng 0 2 w = true → (mostF w).toInt = if w = 0 then 20 else if w = 1 then 99 else 9 := fun w hw => by
    obtain ⟨k, hk, rfl⟩ := of_rng (b := 2) hw
    rcases (show k = 0 ∨ k = 1 ∨ k = 2 by omega) with rfl | rfl | rfl <;> decide
  by_cases hw : rng 0 2 w = true
  · rw [em w hw]
    by_cases hv : rng 0 (if w = 0 then 20 else if w = 1 then 99 else 9) v = true
    · rw [if_neg (not_not_intro (And.intro hw hv)), if_neg (not_not_intro (And.intro hw hv))]
      obtain ⟨k, hk, rfl⟩ := of_rng (b := 2) hw
      obtain ⟨hb, h8, h11, s5, h13, h9, h7, h6, h5, hcr, hd, hc1, hc7, h4, h10, h12, h14, hs, s1, s2, s0, s4, sd, sg, sa, s9, s8, s6, sm⟩ := id hV
      rcases (show k = 0 ∨ k = 1 ∨ k = 2 by omega) with rfl | rfl | rfl
      · obtain ⟨v, hv9, rfl⟩ := of_rng (b := 20) hv
        exact GR_ev hR h4 (fun a z => ms_k (by omega)) (fun a z1 z2 => ms_k z2) (EV_mk hc hcc hp hm (ST_heat hv9 hV) (KI_ms (by decide) hK))
      · obtain ⟨v, hv9, rfl⟩ := of_rng (b := 99) hv
        exact GR_ev hR h5 (fun a z => ms_k (by omega)) (fun a z1 z2 => ms_k z2) (EV_mk hc hcc hv9 hm (ST_price v hV) (KI_ms (by decide) hK))
      · obtain ⟨v, hv9, rfl⟩ := of_rng (b := 9) hv
        exact GR_ev hR h6 (fun a z => ms_k (by omega)) (fun a z1 z2 => ms_k z2) (EV_mk hc hcc hp hm (ST_cold hv9 hV) (KI_ms (by decide) hK))
    · rw [if_pos (fun z => hv z.2), if_pos (fun z => hv z.2)]
      exact GR_f hR
  · rw [if_pos (fun z => hw z.1), if_pos (fun z => hw z.1)]
    exact GR_f hR
theorem o_rule {B : Nat} (hB : B ≤ 9000) {M : Mem} (hR : RQ B M M) (w v : Int32) : OP m_X8_rule m_X9_rule [.int w, .int v] B M := by
  have hR0 := hR
  obtain ⟨⟨c, cc, p, m, hc, hcc, hp, hm, hV, hK⟩, hKE, hTA, hF, hSH⟩ := hR
  obtain ⟨hM, h2, h0, hP⟩ := ST_cnt hV
  refine op_gr (a := cRule c w v M) (b := pRule c w v M) (v_X8_rule hc w v M hM) (g_rule hB hR0 hc hcc hp hm hV hK w v) (fun M1 h => ?_)
  have hV1 : ST 1 c cc p m (999 + m) B M M1 := ST_R (h 63 (by decide)) hV
  obtain ⟨r1, r2, r0⟩ := ST_si hV1
  exact ref_ov (f := pRule c w v) h (fun _ _ => ov_pRule) (v_X9_rule hc w v M1 r1)
theorem g_walk {B : Nat} (hB : B ≤ 9000) {M : Mem} (hR : RQ B M M) {c : Nat} (hc : c ≤ 10) {cc : Nat} (hcc : cc ≤ 12) {p : Nat} (hp : p ≤ 99) {m : Nat} (hm : m ≤ 999) (hV : ST 1 c cc p m (999 + m) B M M) (hK : KI c M) (t : Int32) : GR B M (cWalk c t M) (pWalk c t M) := by
  unfold cWalk pWalk
  by_cases h1 : rng 0 3 t = true
  · rw [if_neg (not_not_intro h1), if_neg (not_not_intro h1), ST_w hV]
    by_cases h2 : 0 < M 63 9
    · rw [if_pos h2, if_pos h2]
      exact GR_f hR
    · rw [if_neg h2, if_neg h2]
      obtain ⟨x, hx, rfl⟩ := of_rng (b := 3) h1
      have hV2 := ST_walk hx hV
      exact GR_ev hR (ST_w hV2) (fun a z => by unfold setOutM; rw [ms_k (by omega), ms_k (by omega)]) (fun a z1 z2 => by unfold mWalkM; rw [ms_k z2, ms_k z2]) (EV_mk hc hcc hp hm hV2 (KI_ms (by decide) (KI_ms (by decide) hK)))
  · rw [if_pos h1, if_pos h1]
    exact GR_f hR
theorem o_walk {B : Nat} (hB : B ≤ 9000) {M : Mem} (hR : RQ B M M) (t : Int32) : OP m_X8_walk m_X9_walk [.int t] B M := by
  have hR0 := hR
  obtain ⟨⟨c, cc, p, m, hc, hcc, hp, hm, hV, hK⟩, hKE, hTA, hF, hSH⟩ := hR
  obtain ⟨hM, h2, h0, hP⟩ := ST_cnt hV
  refine op_gr (a := cWalk c t M) (b := pWalk c t M) (v_X8_walk hc t M hM) (g_walk hB hR0 hc hcc hp hm hV hK t) (fun M1 h => ?_)
  have hV1 : ST 1 c cc p m (999 + m) B M M1 := ST_R (h 63 (by decide)) hV
  obtain ⟨r1, r2, r0⟩ := ST_si hV1
  exact ref_ov (f := pWalk c t) h (fun _ _ => ov_pWalk) (v_X9_walk hc t M1 r1)
theorem g_crowd {B : Nat} (hB : B ≤ 9000) {M : Mem} (hR : RQ B M M) {c : Nat} (hc : c ≤ 10) {cc : Nat} (hcc : cc ≤ 12) {p : Nat} (hp : p ≤ 99) {m : Nat} (hm : m ≤ 999) (hV : ST 1 c cc p m (999 + m) B M M) (hK : KI c M) (co mi ma : Int32) : GR B M (cCrowd c cc co mi ma M) (pCrowd c cc co mi ma M) := by
  unfold cCrowd pCrowd
  by_cases h1 : rng 0 3 co = true ∧ rng 0 999 mi = true ∧ rng 0 400 ma = true
  · rw [if_neg (not_not_intro h1), if_neg (not_not_intro h1)]
    by_cases h2 : cc = 12
    · rw [if_pos (show 12 ≤ cc by omega), if_pos h2]
      exact GR_f hR
    · rw [if_neg (show ¬ 12 ≤ cc by omega), if_neg h2]
      obtain ⟨v, hv, rfl⟩ := of_rng (b := 400) h1.2.2
      exact GR_ev hR rfl (fun a z => by unfold cAddM; simp (disch := omega) only [ms_k]) (fun a z1 z2 => by unfold mNewC; simp (disch := assumption) only [ms_k]) (EV_mk hc (by omega) hp hm (ST_newC hc (by omega) co mi hv hV) (KI_newC hc (by omega) hK))
  · rw [if_pos h1, if_pos h1]
    exact GR_f hR
theorem o_crowd {B : Nat} (hB : B ≤ 9000) {M : Mem} (hR : RQ B M M) (co mi ma : Int32) : OP m_X8_crowd m_X9_crowd [.int co, .int mi, .int ma] B M := by
  have hR0 := hR
  obtain ⟨⟨c, cc, p, m, hc, hcc, hp, hm, hV, hK⟩, hKE, hTA, hF, hSH⟩ := hR
  obtain ⟨hM, h2, h0, hP⟩ := ST_cnt hV
  refine op_gr (a := cCrowd c cc co mi ma M) (b := pCrowd c cc co mi ma M) (v_X8_crowd hc hcc co mi ma M hM h2) (g_crowd hB hR0 hc hcc hp hm hV hK co mi ma) (fun M1 h => ?_)
  have hV1 : ST 1 c cc p m (999 + m) B M M1 := ST_R (h 63 (by decide)) hV
  obtain ⟨r1, r2, r0⟩ := ST_si hV1
  exact ref_ov (f := pCrowd c cc co mi ma) h (fun _ _ => ov_pCrowd) (v_X9_crowd hc hcc co mi ma M1 r1 r2)
theorem ST_cr {e c cc p m A B i : Nat} {M R : Mem} (hV : ST e c cc p m A B M R) (hi : i < cc) : M (e+8) i = R 63 (70 + 3 * i) ∧ M (e+9) i = R 63 (70 + 3 * i + 1) ∧ M (e+10) i = R 63 (70 + 3 * i + 2) ∧ M e 6 = R 63 6 ∧ M e 5 = R 63 5 := by
  obtain ⟨hb, h8, h11, s5, h13, h9, h7, h6, h5, hcr, hd, hc1, hc7, h4, h10, h12, h14, hs, s1, s2, s0, s4, sd, sg, sa, s9, s8, s6, sm⟩ := hV
  exact ⟨(hcr i hi).1, (hcr i hi).2.1, (hcr i hi).2.2, h6, h5⟩
theorem g_crowdOf {B : Nat} (hB : B ≤ 9000) {M : Mem} (hR : RQ B M M) {c : Nat} (hc : c ≤ 10) {cc : Nat} (hcc : cc ≤ 12) {p : Nat} (hp : p ≤ 99) {m : Nat} (hm : m ≤ 999) (hV : ST 1 c cc p m (999 + m) B M M) (hK : KI c M) (x w : Int32) : GR B M (cCrowdOf c cc x w M) (pCrowdOf c cc x w M) := by
  unfold cCrowdOf pCrowdOf
  by_cases hb : isB cc x = true
  · rw [if_neg (not_not_intro hb)]
    obtain ⟨b, hbc, rfl⟩ := of_isB hb
    have eb : (nI b).toNatClampNeg = b := nI_clamp (by omega)
    rw [eb]
    obtain ⟨q0, q1, q2, q3, q4⟩ := ST_cr hV hbc
    by_cases hw : rng 0 3 w = true
    · rw [if_neg (not_not_intro (And.intro hb hw))]
      obtain ⟨k, hk, rfl⟩ := of_rng (b := 3) hw
      rcases (show k = 0 ∨ k = 1 ∨ k = 2 ∨ k = 3 by omega) with rfl | rfl | rfl | rfl
      · exact GR_v q0 hR
      · exact GR_v q1 hR
      · exact GR_v q2 hR
      · exact GR_v (by show comeF (M 11 b) (M 1 6) (M 1 5) = comeF (M 63 (70 + 3 * b + 2)) (M 63 6) (M 63 5); rw [q3, q4, show M 11 b = M 63 (70 + 3 * b + 2) from q2]) hR
    · rw [if_pos (fun z => hw z.2), if_neg (fun z => hw (by rw [z]; decide)), if_neg (fun z => hw (by rw [z]; decide)), if_neg (fun z => hw (by rw [z]; decide)), if_neg (fun z => hw (by rw [z]; decide))]
      exact GR_f hR
  · rw [if_pos hb, if_pos (fun z => hb z.1)]
    exact GR_f hR
theorem o_crowdOf {B : Nat} (hB : B ≤ 9000) {M : Mem} (hR : RQ B M M) (x w : Int32) : OP m_X8_crowdOf m_X9_crowdOf [.int x, .int w] B M := by
  have hR0 := hR
  obtain ⟨⟨c, cc, p, m, hc, hcc, hp, hm, hV, hK⟩, hKE, hTA, hF, hSH⟩ := hR
  obtain ⟨hM, h2, h0, hP⟩ := ST_cnt hV
  refine op_gr (a := cCrowdOf c cc x w M) (b := pCrowdOf c cc x w M) (v_X8_crowdOf hc hcc x w M hM h2) (g_crowdOf hB hR0 hc hcc hp hm hV hK x w) (fun M1 h => ?_)
  have hV1 : ST 1 c cc p m (999 + m) B M M1 := ST_R (h 63 (by decide)) hV
  obtain ⟨r1, r2, r0⟩ := ST_si hV1
  exact ref_ov (f := pCrowdOf c cc x w) h (fun _ _ => ov_pCrowdOf) (v_X9_crowdOf hc hcc x w M1 r1 r2)
theorem g_late {B : Nat} (hB : B ≤ 9000) {M : Mem} (hR : RQ B M M) {c : Nat} (hc : c ≤ 10) {cc : Nat} (hcc : cc ≤ 12) {p : Nat} (hp : p ≤ 99) {m : Nat} (hm : m ≤ 999) (hV : ST 1 c cc p m (999 + m) B M M) (hK : KI c M) (x w v : Int32) : GR B M (cLate c cc x w v M) (pLate c cc x w v M) := by
  unfold cLate pLate
  by_cases hb : isB cc x = true
  · rw [if_neg (not_not_intro hb)]
    obtain ⟨b, hbc, rfl⟩ := of_isB hb
    have eb : (nI b).toNatClampNeg = b := nI_clamp (by omega)
    rw [eb]
    obtain ⟨q0, q1, q2, q3, q4⟩ := ST_cr hV hbc
    by_cases w1 : w = 1
    · subst w1
      rw [if_pos rfl]
      by_cases hv : rng 0 999 v = true
      · rw [show exA 10 b v 999 M = M 10 b from if_pos hv, show exM 10 b v 999 M = ms M 10 b v from if_pos hv, if_neg (fun z => z ⟨hb, by decide, .inr (.inl ⟨by decide, rfl, hv⟩)⟩)]
        exact GR_ev hR q1 (fun a z => ms_k (by omega)) (fun a z1 z2 => ms_k z2) (EV_mk hc hcc hp hm (ST_cmin hc hcc hbc v hV) (show KI c (ms M 63 (70 + 3 * b + 1) (v)) from KI_of (fun y hy => ms_j (by omega)) (fun y hy => ms_j (by omega)) hK))
      · rw [show exA 10 b v 999 M = -1000001 from if_neg hv, show exM 10 b v 999 M = cfd 0 M from if_neg hv, if_pos (fun z => hv (z.2.2.elim (fun y => absurd y.1 (by decide)) (fun y => y.elim (fun y => y.2.2) (fun y => absurd rfl y.2.1))))]
        exact GR_f hR
    · rw [if_neg w1]
      by_cases w2 : w = 2
      · subst w2
        rw [if_pos rfl]
        by_cases hv : rng 0 400 v = true
        · rw [show exA 11 b v 400 M = M 11 b from if_pos hv, show exM 11 b v 400 M = ms M 11 b v from if_pos hv, if_neg (fun z => z ⟨hb, by decide, .inr (.inr ⟨by decide, by decide, hv⟩)⟩)]
          obtain ⟨v, hv9, rfl⟩ := of_rng (b := 400) hv
          exact GR_ev hR q2 (fun a z => ms_k (by omega)) (fun a z1 z2 => ms_k z2) (EV_mk hc hcc hp hm (ST_many hc hcc hbc hv9 hV) (show KI c (ms M 63 (70 + 3 * b + 2) (nI v)) from KI_of (fun y hy => ms_j (by omega)) (fun y hy => ms_j (by omega)) hK))
        · rw [show exA 11 b v 400 M = -1000001 from if_neg hv, show exM 11 b v 400 M = cfd 0 M from if_neg hv, if_pos (fun z => hv (z.2.2.elim (fun y => absurd y.1 (by decide)) (fun y => y.elim (fun y => absurd y.2.1 (by decide)) (fun y => y.2.2))))]
          exact GR_f hR
      · rw [if_neg w2, if_pos (fun z => by
          obtain ⟨k, ⟨hk1, hk2⟩, rfl⟩ := of_rng1 (b := 2) z.2.1
          rcases (show k = 1 ∨ k = 2 by omega) with rfl | rfl
          · exact w1 rfl
          · exact w2 rfl)]
        exact GR_f hR
  · rw [if_pos hb, if_pos (fun z => hb z.1)]
    exact GR_f hR
theorem o_late {B : Nat} (hB : B ≤ 9000) {M : Mem} (hR : RQ B M M) (x w v : Int32) : OP m_X8_late m_X9_late [.int x, .int w, .int v] B M := by
  have hR0 := hR
  obtain ⟨⟨c, cc, p, m, hc, hcc, hp, hm, hV, hK⟩, hKE, hTA, hF, hSH⟩ := hR
  obtain ⟨hM, h2, h0, hP⟩ := ST_cnt hV
  refine op_gr (a := cLate c cc x w v M) (b := pLate c cc x w v M) (v_X8_late hc hcc x w v M hM h2) (g_late hB hR0 hc hcc hp hm hV hK x w v) (fun M1 h => ?_)
  have hV1 : ST 1 c cc p m (999 + m) B M M1 := ST_R (h 63 (by decide)) hV
  obtain ⟨r1, r2, r0⟩ := ST_si hV1
  exact ref_ov (f := pLate c cc x w v) h (fun _ _ => ov_pLate) (v_X9_late hc hcc x w v M1 r1 r2)
