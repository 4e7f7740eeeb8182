/-! The relation, flat, with its bounds; what a change of both sides keeps -/
def ST (e c cc p m A B : Nat) (M R : Mem) : Prop :=
  (∀ b, b < c → M (e+2) b = R 63 (20 + 5 * b) ∧ M (e+3) b = R 63 (20 + 5 * b + 1) ∧ M (e+4) b = R 63 (20 + 5 * b + 2) ∧ M (e+5) b = R 63 (20 + 5 * b + 3) ∧ M (e+6) b = R 63 (20 + 5 * b + 4)) ∧
  M e 8 = R 63 7 ∧ M e 11 = R 63 10 ∧ R 63 5 = nI p ∧ M e 13 = R 63 12 ∧ M e 9 = R 63 8 ∧ M e 7 = R 63 0 ∧ M e 6 = R 63 6 ∧ M e 5 = R 63 5 ∧
  (∀ i, i < cc → M (e+8) i = R 63 (70 + 3 * i) ∧ M (e+9) i = R 63 (70 + 3 * i + 1) ∧ M (e+10) i = R 63 (70 + 3 * i + 2)) ∧
  (∀ k, k < 7 → M (e+11) ((m + k) % 7) = R 63 (13 + k)) ∧ M (e+1) 5 = nI c ∧ M (e+7) 3 = nI cc ∧ M e 4 = R 63 4 ∧ M e 10 = R 63 9 ∧ M e 12 = R 63 11 ∧ M e 14 = R 63 3 ∧ (∀ k, k < 10 → M (e+12) k = R 63 (106 + k)) ∧
  R 63 1 = nI c ∧ R 63 2 = nI cc ∧ R 63 0 = nI m ∧ (∃ h, h ≤ 20 ∧ R 63 4 = nI h) ∧ (∀ k, k < 7 → ∃ d, d ≤ B ∧ R 63 (13 + k) = nI d) ∧
  (∀ b, b < c → ∃ g, g ≤ 9 ∧ R 63 (20 + 5 * b + 1) = nI g) ∧ (∀ b, b < c → ∃ a, a ≤ A ∧ R 63 (20 + 5 * b + 3) = nI a) ∧
  (∃ w, w ≤ 9 ∧ R 63 9 = nI w) ∧ (∃ x, x ≤ 3 ∧ R 63 8 = nI x) ∧ (∃ d, d ≤ 9 ∧ R 63 6 = nI d) ∧ (∀ i, i < cc → ∃ q, q ≤ 400 ∧ R 63 (70 + 3 * i + 2) = nI q)
theorem ST_kind {e c cc p m A B : Nat} {M R : Mem} {x : Nat} (hc : c ≤ 10) (hx : x < c) (v : Int32) (hV : ST e c cc p m A B M R) : ST e c cc p m A B (ms M (e+2) x v) (ms R 63 (20 + 5 * x) v) := by
  obtain ⟨hb, h8, h11, s5, h13, h9, h7, h6, h5, hcr, hd, hc1, hc7, h4, h10, h12, h14, hs, s1, s2, s0, s4, sd, sg, sa, s9, s8, s6, sm⟩ := hV
  refine ⟨fun b zb => by
    by_cases q : b = x
    · subst q
      (refine ⟨?_, ?_, ?_, ?_, ?_⟩ <;> (try simp (disch := omega) only [ms_k, ms_j, ms_s]) <;> first | done | rfl | exact (hb b zb).1 | exact (hb b zb).2.1 | exact (hb b zb).2.2.1 | exact (hb b zb).2.2.2.1 | exact (hb b zb).2.2.2.2)
    · (refine ⟨?_, ?_, ?_, ?_, ?_⟩ <;> (try simp (disch := omega) only [ms_k, ms_j, ms_s]) <;> first | done | rfl | exact (hb b zb).1 | exact (hb b zb).2.1 | exact (hb b zb).2.2.1 | exact (hb b zb).2.2.2.1 | exact (hb b zb).2.2.2.2),
    by ((try simp (disch := omega) only [ms_k, ms_j, ms_s]) <;> first | done | rfl | exact h8),
    by ((try simp (disch := omega) only [ms_k, ms_j, ms_s]) <;> first | done | rfl | exact h11),
    by ((try simp (disch := omega) only [ms_k, ms_j, ms_s]) <;> first | done | rfl | exact s5),
    by ((try simp (disch := omega) only [ms_k, ms_j, ms_s]) <;> first | done | rfl | exact h13),
    by ((try simp (disch := omega) only [ms_k, ms_j, ms_s]) <;> first | done | rfl | exact h9),
    by ((try simp (disch := omega) only [ms_k, ms_j, ms_s]) <;> first | done | rfl | exact h7),
    by ((try simp (disch := omega) only [ms_k, ms_j, ms_s]) <;> first | done | rfl | exact h6),
    by ((try simp (disch := omega) only [ms_k, ms_j, ms_s]) <;> first | done | rfl | exact h5),
    fun i zi => by (refine ⟨?_, ?_, ?_⟩ <;> (try simp (disch := omega) only [ms_k, ms_j, ms_s]) <;> first | done | rfl | exact (hcr i zi).1 | exact (hcr i zi).2.1 | exact (hcr i zi).2.2),
    fun k zk => by ((try simp (disch := omega) only [ms_k, ms_j, ms_s]) <;> first | done | rfl | exact (hd k zk)),
    by ((try simp (disch := omega) only [ms_k, ms_j, ms_s]) <;> first | done | rfl | exact hc1),
    by ((try simp (disch := omega) only [ms_k, ms_j, ms_s]) <;> first | done | rfl | exact hc7),
    by ((try simp (disch := omega) only [ms_k, ms_j, ms_s]) <;> first | done | rfl | exact h4),
    by ((try simp (disch := omega) only [ms_k, ms_j, ms_s]) <;> first | done | rfl | exact h10),
    by ((try simp (disch := omega) only [ms_k, ms_j, ms_s]) <;> first | done | rfl | exact h12),
    by ((try simp (disch := omega) only [ms_k, ms_j, ms_s]) <;> first | done | rfl | exact h14),
    fun k zk => by ((try simp (disch := omega) only [ms_k, ms_j, ms_s]) <;> first | done | rfl | exact (hs k zk)),
    by ((try simp (disch := omega) only [ms_k, ms_j, ms_s]) <;> first | done | rfl | exact s1),
    by ((try simp (disch := omega) only [ms_k, ms_j, ms_s]) <;> first | done | rfl | exact s2),
    by ((try simp (disch := omega) only [ms_k, ms_j, ms_s]) <;> first | done | rfl | exact s0),
    by ((try simp (disch := omega) only [ms_k, ms_j, ms_s]) <;> first | done | rfl | exact s4),
    fun k zk => by ((try simp (disch := omega) only [ms_k, ms_j, ms_s]) <;> first | done | rfl | exact (sd k zk)),
    fun b zb => by ((try simp (disch := omega) only [ms_k, ms_j, ms_s]) <;> first | done | rfl | exact (sg b zb)),
    fun b zb => by ((try simp (disch := omega) only [ms_k, ms_j, ms_s]) <;> first | done | rfl | exact (sa b zb)),
    by ((try simp (disch := omega) only [ms_k, ms_j, ms_s]) <;> first | done | rfl | exact s9),
    by ((try simp (disch := omega) only [ms_k, ms_j, ms_s]) <;> first | done | rfl | exact s8),
    by ((try simp (disch := omega) only [ms_k, ms_j, ms_s]) <;> first | done | rfl | exact s6),
    fun i zi => by ((try simp (disch := omega) only [ms_k, ms_j, ms_s]) <;> first | done | rfl | exact (sm i zi))⟩
theorem ST_bags {e c cc p m A B : Nat} {M R : Mem} {x v : Nat} (hc : c ≤ 10) (hx : x < c) (hv : v ≤ 9) (hV : ST e c cc p m A B M R) : ST e c cc p m A B (ms M (e+3) x (nI v)) (ms R 63 (20 + 5 * x + 1) (nI v)) := by
  obtain ⟨hb, h8, h11, s5, h13, h9, h7, h6, h5, hcr, hd, hc1, hc7, h4, h10, h12, h14, hs, s1, s2, s0, s4, sd, sg, sa, s9, s8, s6, sm⟩ := hV
  refine ⟨fun b zb => by
    by_cases q : b = x
    · subst q
      (refine ⟨?_, ?_, ?_, ?_, ?_⟩ <;> (try simp (disch := omega) only [ms_k, ms_j, ms_s]) <;> first | done | rfl | exact (hb b zb).1 | exact (hb b zb).2.1 | exact (hb b zb).2.2.1 | exact (hb b zb).2.2.2.1 | exact (hb b zb).2.2.2.2)
    · (refine ⟨?_, ?_, ?_, ?_, ?_⟩ <;> (try simp (disch := omega) only [ms_k, ms_j, ms_s]) <;> first | done | rfl | exact (hb b zb).1 | exact (hb b zb).2.1 | exact (hb b zb).2.2.1 | exact (hb b zb).2.2.2.1 | exact (hb b zb).2.2.2.2),
    by ((try simp (disch := omega) only [ms_k, ms_j, ms_s]) <;> first | done | rfl | exact h8),
    by ((try simp (disch := omega) only [ms_k, ms_j, ms_s]) <;> first | done | rfl | exact h11),
    by ((try simp (disch := omega) only [ms_k, ms_j, ms_s]) <;> first | done | rfl | exact s5),
    by ((try simp (disch := omega) only [ms_k, ms_j, ms_s]) <;> first | done | rfl | exact h13),
    by ((try simp (disch := omega) only [ms_k, ms_j, ms_s]) <;> first | done | rfl | exact h9),
    by ((try simp (disch := omega) only [ms_k, ms_j, ms_s]) <;> first | done | rfl | exact h7),
    by ((try simp (disch := omega) only [ms_k, ms_j, ms_s]) <;> first | done | rfl | exact h6),
    by ((try simp (disch := omega) only [ms_k, ms_j, ms_s]) <;> first | done | rfl | exact h5),
    fun i zi => by (refine ⟨?_, ?_, ?_⟩ <;> (try simp (disch := omega) only [ms_k, ms_j, ms_s]) <;> first | done | rfl | exact (hcr i zi).1 | exact (hcr i zi).2.1 | exact (hcr i zi).2.2),
    fun k zk => by ((try simp (disch := omega) only [ms_k, ms_j, ms_s]) <;> first | done | rfl | exact (hd k zk)),
    by ((try simp (disch := omega) only [ms_k, ms_j, ms_s]) <;> first | done | rfl | exact hc1),
    by ((try simp (disch := omega) only [ms_k, ms_j, ms_s]) <;> first | done | rfl | exact hc7),
    by ((try simp (disch := omega) only [ms_k, ms_j, ms_s]) <;> first | done | rfl | exact h4),
    by ((try simp (disch := omega) only [ms_k, ms_j, ms_s]) <;> first | done | rfl | exact h10),
    by ((try simp (disch := omega) only [ms_k, ms_j, ms_s]) <;> first | done | rfl | exact h12),
    by ((try simp (disch := omega) only [ms_k, ms_j, ms_s]) <;> first | done | rfl | exact h14),
    fun k zk => by ((try simp (disch := omega) only [ms_k, ms_j, ms_s]) <;> first | done | rfl | exact (hs k zk)),
    by ((try simp (disch := omega) only [ms_k, ms_j, ms_s]) <;> first | done | rfl | exact s1),
    by ((try simp (disch := omega) only [ms_k, ms_j, ms_s]) <;> first | done | rfl | exact s2),
    by ((try simp (disch := omega) only [ms_k, ms_j, ms_s]) <;> first | done | rfl | exact s0),
    by ((try simp (disch := omega) only [ms_k, ms_j, ms_s]) <;> first | done | rfl | exact s4),
    fun k zk => by ((try simp (disch := omega) only [ms_k, ms_j, ms_s]) <;> first | done | rfl | exact (sd k zk)),
    fun b zb => by
    by_cases q : b = x
    · subst q
      (try simp (disch := omega) only [ms_k, ms_j, ms_s]) <;> exact ⟨v, hv, rfl⟩
    · ((try simp (disch := omega) only [ms_k, ms_j, ms_s]) <;> first | done | rfl | exact (sg b zb)),
    fun b zb => by ((try simp (disch := omega) only [ms_k, ms_j, ms_s]) <;> first | done | rfl | exact (sa b zb)),
    by ((try simp (disch := omega) only [ms_k, ms_j, ms_s]) <;> first | done | rfl | exact s9),
    by ((try simp (disch := omega) only [ms_k, ms_j, ms_s]) <;> first | done | rfl | exact s8),
    by ((try simp (disch := omega) only [ms_k, ms_j, ms_s]) <;> first | done | rfl | exact s6),
    fun i zi => by ((try simp (disch := omega) only [ms_k, ms_j, ms_s]) <;> first | done | rfl | exact (sm i zi))⟩
theorem ST_roast {e c cc p m A B : Nat} {M R : Mem} {x : Nat} (hc : c ≤ 10) (hx : x < c) (v : Int32) (hV : ST e c cc p m A B M R) : ST e c cc p m A B (ms M (e+4) x v) (ms R 63 (20 + 5 * x + 2) v) := by
  obtain ⟨hb, h8, h11, s5, h13, h9, h7, h6, h5, hcr, hd, hc1, hc7, h4, h10, h12, h14, hs, s1, s2, s0, s4, sd, sg, sa, s9, s8, s6, sm⟩ := hV
  refine ⟨fun b zb => by
    by_cases q : b = x
    · subst q
      (refine ⟨?_, ?_, ?_, ?_, ?_⟩ <;> (try simp (disch := omega) only [ms_k, ms_j, ms_s]) <;> first | done | rfl | exact (hb b zb).1 | exact (hb b zb).2.1 | exact (hb b zb).2.2.1 | exact (hb b zb).2.2.2.1 | exact (hb b zb).2.2.2.2)
    · (refine ⟨?_, ?_, ?_, ?_, ?_⟩ <;> (try simp (disch := omega) only [ms_k, ms_j, ms_s]) <;> first | done | rfl | exact (hb b zb).1 | exact (hb b zb).2.1 | exact (hb b zb).2.2.1 | exact (hb b zb).2.2.2.1 | exact (hb b zb).2.2.2.2),
    by ((try simp (disch := omega) only [ms_k, ms_j, ms_s]) <;> first | done | rfl | exact h8),
    by ((try simp (disch := omega) only [ms_k, ms_j, ms_s]) <;> first | done | rfl | exact h11),
    by ((try simp (disch := omega) only [ms_k, ms_j, ms_s]) <;> first | done | rfl | exact s5),
    by ((try simp (disch := omega) only [ms_k, ms_j, ms_s]) <;> first | done | rfl | exact h13),
    by ((try simp (disch := omega) only [ms_k, ms_j, ms_s]) <;> first | done | rfl | exact h9),
    by ((try simp (disch := omega) only [ms_k, ms_j, ms_s]) <;> first | done | rfl | exact h7),
    by ((try simp (disch := omega) only [ms_k, ms_j, ms_s]) <;> first | done | rfl | exact h6),
    by ((try simp (disch := omega) only [ms_k, ms_j, ms_s]) <;> first | done | rfl | exact h5),
    fun i zi => by (refine ⟨?_, ?_, ?_⟩ <;> (try simp (disch := omega) only [ms_k, ms_j, ms_s]) <;> first | done | rfl | exact (hcr i zi).1 | exact (hcr i zi).2.1 | exact (hcr i zi).2.2),
    fun k zk => by ((try simp (disch := omega) only [ms_k, ms_j, ms_s]) <;> first | done | rfl | exact (hd k zk)),
    by ((try simp (disch := omega) only [ms_k, ms_j, ms_s]) <;> first | done | rfl | exact hc1),
    by ((try simp (disch := omega) only [ms_k, ms_j, ms_s]) <;> first | done | rfl | exact hc7),
    by ((try simp (disch := omega) only [ms_k, ms_j, ms_s]) <;> first | done | rfl | exact h4),
    by ((try simp (disch := omega) only [ms_k, ms_j, ms_s]) <;> first | done | rfl | exact h10),
    by ((try simp (disch := omega) only [ms_k, ms_j, ms_s]) <;> first | done | rfl | exact h12),
    by ((try simp (disch := omega) only [ms_k, ms_j, ms_s]) <;> first | done | rfl | exact h14),
    fun k zk => by ((try simp (disch := omega) only [ms_k, ms_j, ms_s]) <;> first | done | rfl | exact (hs k zk)),
    by ((try simp (disch := omega) only [ms_k, ms_j, ms_s]) <;> first | done | rfl | exact s1),
    by ((try simp (disch := omega) only [ms_k, ms_j, ms_s]) <;> first | done | rfl | exact s2),
    by ((try simp (disch := omega) only [ms_k, ms_j, ms_s]) <;> first | done | rfl | exact s0),
    by ((try simp (disch := omega) only [ms_k, ms_j, ms_s]) <;> first | done | rfl | exact s4),
    fun k zk => by ((try simp (disch := omega) only [ms_k, ms_j, ms_s]) <;> first | done | rfl | exact (sd k zk)),
    fun b zb => by ((try simp (disch := omega) only [ms_k, ms_j, ms_s]) <;> first | done | rfl | exact (sg b zb)),
    fun b zb => by ((try simp (disch := omega) only [ms_k, ms_j, ms_s]) <;> first | done | rfl | exact (sa b zb)),
    by ((try simp (disch := omega) only [ms_k, ms_j, ms_s]) <;> first | done | rfl | exact s9),
    by ((try simp (disch := omega) only [ms_k, ms_j, ms_s]) <;> first | done | rfl | exact s8),
    by ((try simp (disch := omega) only [ms_k, ms_j, ms_s]) <;> first | done | rfl | exact s6),
    fun i zi => by ((try simp (disch := omega) only [ms_k, ms_j, ms_s]) <;> first | done | rfl | exact (sm i zi))⟩
theorem ST_age {e c cc p m A B : Nat} {M R : Mem} {x v : Nat} (hc : c ≤ 10) (hx : x < c) (hv : v ≤ A) (hV : ST e c cc p m A B M R) : ST e c cc p m A B (ms M (e+5) x (nI v)) (ms R 63 (20 + 5 * x + 3) (nI v)) := by
  obtain ⟨hb, h8, h11, s5, h13, h9, h7, h6, h5, hcr, hd, hc1, hc7, h4, h10, h12, h14, hs, s1, s2, s0, s4, sd, sg, sa, s9, s8, s6, sm⟩ := hV
  refine ⟨fun b zb => by
    by_cases q : b = x
    · subst q
      (refine ⟨?_, ?_, ?_, ?_, ?_⟩ <;> (try simp (disch := omega) only [ms_k, ms_j, ms_s]) <;> first | done | rfl | exact (hb b zb).1 | exact (hb b zb).2.1 | exact (hb b zb).2.2.1 | exact (hb b zb).2.2.2.1 | exact (hb b zb).2.2.2.2)
    · (refine ⟨?_, ?_, ?_, ?_, ?_⟩ <;> (try simp (disch := omega) only [ms_k, ms_j, ms_s]) <;> first | done | rfl | exact (hb b zb).1 | exact (hb b zb).2.1 | exact (hb b zb).2.2.1 | exact (hb b zb).2.2.2.1 | exact (hb b zb).2.2.2.2),
    by ((try simp (disch := omega) only [ms_k, ms_j, ms_s]) <;> first | done | rfl | exact h8),
    by ((try simp (disch := omega) only [ms_k, ms_j, ms_s]) <;> first | done | rfl | exact h11),
    by ((try simp (disch := omega) only [ms_k, ms_j, ms_s]) <;> first | done | rfl | exact s5),
    by ((try simp (disch := omega) only [ms_k, ms_j, ms_s]) <;> first | done | rfl | exact h13),
    by ((try simp (disch := omega) only [ms_k, ms_j, ms_s]) <;> first | done | rfl | exact h9),
    by ((try simp (disch := omega) only [ms_k, ms_j, ms_s]) <;> first | done | rfl | exact h7),
    by ((try simp (disch := omega) only [ms_k, ms_j, ms_s]) <;> first | done | rfl | exact h6),
    by ((try simp (disch := omega) only [ms_k, ms_j, ms_s]) <;> first | done | rfl | exact h5),
    fun i zi => by (refine ⟨?_, ?_, ?_⟩ <;> (try simp (disch := omega) only [ms_k, ms_j, ms_s]) <;> first | done | rfl | exact (hcr i zi).1 | exact (hcr i zi).2.1 | exact (hcr i zi).2.2),
    fun k zk => by ((try simp (disch := omega) only [ms_k, ms_j, ms_s]) <;> first | done | rfl | exact (hd k zk)),
    by ((try simp (disch := omega) only [ms_k, ms_j, ms_s]) <;> first | done | rfl | exact hc1),
    by ((try simp (disch := omega) only [ms_k, ms_j, ms_s]) <;> first | done | rfl | exact hc7),
    by ((try simp (disch := omega) only [ms_k, ms_j, ms_s]) <;> first | done | rfl | exact h4),
    by ((try simp (disch := omega) only [ms_k, ms_j, ms_s]) <;> first | done | rfl | exact h10),
    by ((try simp (disch := omega) only [ms_k, ms_j, ms_s]) <;> first | done | rfl | exact h12),
    by ((try simp (disch := omega) only [ms_k, ms_j, ms_s]) <;> first | done | rfl | exact h14),
    fun k zk => by ((try simp (disch := omega) only [ms_k, ms_j, ms_s]) <;> first | done | rfl | exact (hs k zk)),
    by ((try simp (disch := omega) only [ms_k, ms_j, ms_s]) <;> first | done | rfl | exact s1),
    by ((try simp (disch := omega) only [ms_k, ms_j, ms_s]) <;> first | done | rfl | exact s2),
    by ((try simp (disch := omega) only [ms_k, ms_j, ms_s]) <;> first | done | rfl | exact s0),
    by ((try simp (disch := omega) only [ms_k, ms_j, ms_s]) <;> first | done | rfl | exact s4),
    fun k zk => by ((try simp (disch := omega) only [ms_k, ms_j, ms_s]) <;> first | done | rfl | exact (sd k zk)),
    fun b zb => by ((try simp (disch := omega) only [ms_k, ms_j, ms_s]) <;> first | done | rfl | exact (sg b zb)),
    fun b zb => by
    by_cases q : b = x
    · subst q
      (try simp (disch := omega) only [ms_k, ms_j, ms_s]) <;> exact ⟨v, hv, rfl⟩
    · ((try simp (disch := omega) only [ms_k, ms_j, ms_s]) <;> first | done | rfl | exact (sa b zb)),
    by ((try simp (disch := omega) only [ms_k, ms_j, ms_s]) <;> first | done | rfl | exact s9),
    by ((try simp (disch := omega) only [ms_k, ms_j, ms_s]) <;> first | done | rfl | exact s8),
    by ((try simp (disch := omega) only [ms_k, ms_j, ms_s]) <;> first | done | rfl | exact s6),
    fun i zi => by ((try simp (disch := omega) only [ms_k, ms_j, ms_s]) <;> first | done | rfl | exact (sm i zi))⟩
theorem ST_place {e c cc p m A B : Nat} {M R : Mem} {x : Nat} (hc : c ≤ 10) (hx : x < c) (v : Int32) (hV : ST e c cc p m A B M R) : ST e c cc p m A B (ms M (e+6) x v) (ms R 63 (20 + 5 * x + 4) v) := by
  obtain ⟨hb, h8, h11, s5, h13, h9, h7, h6, h5, hcr, hd, hc1, hc7, h4, h10, h12, h14, hs, s1, s2, s0, s4, sd, sg, sa, s9, s8, s6, sm⟩ := hV
  refine ⟨fun b zb => by
    by_cases q : b = x
    · subst q
      (refine ⟨?_, ?_, ?_, ?_, ?_⟩ <;> (try simp (disch := omega) only [ms_k, ms_j, ms_s]) <;> first | done | rfl | exact (hb b zb).1 | exact (hb b zb).2.1 | exact (hb b zb).2.2.1 | exact (hb b zb).2.2.2.1 | exact (hb b zb).2.2.2.2)
    · (refine ⟨?_, ?_, ?_, ?_, ?_⟩ <;> (try simp (disch := omega) only [ms_k, ms_j, ms_s]) <;> first | done | rfl | exact (hb b zb).1 | exact (hb b zb).2.1 | exact (hb b zb).2.2.1 | exact (hb b zb).2.2.2.1 | exact (hb b zb).2.2.2.2),
    by ((try simp (disch := omega) only [ms_k, ms_j, ms_s]) <;> first | done | rfl | exact h8),
    by ((try simp (disch := omega) only [ms_k, ms_j, ms_s]) <;> first | done | rfl | exact h11),
    by ((try simp (disch := omega) only [ms_k, ms_j, ms_s]) <;> first | done | rfl | exact s5),
    by ((try simp (disch := omega) only [ms_k, ms_j, ms_s]) <;> first | done | rfl | exact h13),
    by ((try simp (disch := omega) only [ms_k, ms_j, ms_s]) <;> first | done | rfl | exact h9),
    by ((try simp (disch := omega) only [ms_k, ms_j, ms_s]) <;> first | done | rfl | exact h7),
    by ((try simp (disch := omega) only [ms_k, ms_j, ms_s]) <;> first | done | rfl | exact h6),
    by ((try simp (disch := omega) only [ms_k, ms_j, ms_s]) <;> first | done | rfl | exact h5),
    fun i zi => by (refine ⟨?_, ?_, ?_⟩ <;> (try simp (disch := omega) only [ms_k, ms_j, ms_s]) <;> first | done | rfl | exact (hcr i zi).1 | exact (hcr i zi).2.1 | exact (hcr i zi).2.2),
    fun k zk => by ((try simp (disch := omega) only [ms_k, ms_j, ms_s]) <;> first | done | rfl | exact (hd k zk)),
    by ((try simp (disch := omega) only [ms_k, ms_j, ms_s]) <;> first | done | rfl | exact hc1),
    by ((try simp (disch := omega) only [ms_k, ms_j, ms_s]) <;> first | done | rfl | exact hc7),
    by ((try simp (disch := omega) only [ms_k, ms_j, ms_s]) <;> first | done | rfl | exact h4),
    by ((try simp (disch := omega) only [ms_k, ms_j, ms_s]) <;> first | done | rfl | exact h10),
    by ((try simp (disch := omega) only [ms_k, ms_j, ms_s]) <;> first | done | rfl | exact h12),
    by ((try simp (disch := omega) only [ms_k, ms_j, ms_s]) <;> first | done | rfl | exact h14),
    fun k zk => by ((try simp (disch := omega) only [ms_k, ms_j, ms_s]) <;> first | done | rfl | exact (hs k zk)),
    by ((try simp (disch := omega) only [ms_k, ms_j, ms_s]) <;> first | done | rfl | exact s1),
    by ((try simp (disch := omega) only [ms_k, ms_j, ms_s]) <;> first | done | rfl | exact s2),
    by ((try simp (disch := omega) only [ms_k, ms_j, ms_s]) <;> first | done | rfl | exact s0),
    by ((try simp (disch := omega) only [ms_k, ms_j, ms_s]) <;> first | done | rfl | exact s4),
    fun k zk => by ((try simp (disch := omega) only [ms_k, ms_j, ms_s]) <;> first | done | rfl | exact (sd k zk)),
    fun b zb => by ((try simp (disch := omega) only [ms_k, ms_j, ms_s]) <;> first | done | rfl | exact (sg b zb)),
    fun b zb => by ((try simp (disch := omega) only [ms_k, ms_j, ms_s]) <;> first | done | rfl | exact (sa b zb)),
    by ((try simp (disch := omega) only [ms_k, ms_j, ms_s]) <;> first | done | rfl | exact s9),
    by ((try simp (disch := omega) only [ms_k, ms_j, ms_s]) <;> first | done | rfl | exact s8),
    by ((try simp (disch := omega) only [ms_k, ms_j, ms_s]) <;> first | done | rfl | exact s6),
    fun i zi => by ((try simp (disch := omega) only [ms_k, ms_j, ms_s]) <;> first | done | rfl | exact (sm i zi))⟩
theorem ST_price {e c cc p m A B : Nat} {M R : Mem} (q : Nat) (hV : ST e c cc p m A B M R) : ST e c cc q m A B (ms M e 5 (nI q)) (ms R 63 5 (nI q)) := by
  obtain ⟨hb, h8, h11, s5, h13, h9, h7, h6, h5, hcr, hd, hc1, hc7, h4, h10, h12, h14, hs, s1, s2, s0, s4, sd, sg, sa, s9, s8, s6, sm⟩ := hV
  refine ⟨fun b zb => by (refine ⟨?_, ?_, ?_, ?_, ?_⟩ <;> (try simp (disch := omega) only [ms_k, ms_j, ms_s]) <;> first | done | rfl | exact (hb b zb).1 | exact (hb b zb).2.1 | exact (hb b zb).2.2.1 | exact (hb b zb).2.2.2.1 | exact (hb b zb).2.2.2.2),
    by ((try simp (disch := omega) only [ms_k, ms_j, ms_s]) <;> first | done | rfl | exact h8),
    by ((try simp (disch := omega) only [ms_k, ms_j, ms_s]) <;> first | done | rfl | exact h11),
    by ((try simp (disch := omega) only [ms_k, ms_j, ms_s]) <;> first | done | rfl | exact s5),
    by ((try simp (disch := omega) only [ms_k, ms_j, ms_s]) <;> first | done | rfl | exact h13),
    by ((try simp (disch := omega) only [ms_k, ms_j, ms_s]) <;> first | done | rfl | exact h9),
    by ((try simp (disch := omega) only [ms_k, ms_j, ms_s]) <;> first | done | rfl | exact h7),
    by ((try simp (disch := omega) only [ms_k, ms_j, ms_s]) <;> first | done | rfl | exact h6),
    by ((try simp (disch := omega) only [ms_k, ms_j, ms_s]) <;> first | done | rfl | exact h5),
    fun i zi => by (refine ⟨?_, ?_, ?_⟩ <;> (try simp (disch := omega) only [ms_k, ms_j, ms_s]) <;> first | done | rfl | exact (hcr i zi).1 | exact (hcr i zi).2.1 | exact (hcr i zi).2.2),
    fun k zk => by ((try simp (disch := omega) only [ms_k, ms_j, ms_s]) <;> first | done | rfl | exact (hd k zk)),
    by ((try simp (disch := omega) only [ms_k, ms_j, ms_s]) <;> first | done | rfl | exact hc1),
    by ((try simp (disch := omega) only [ms_k, ms_j, ms_s]) <;> first | done | rfl | exact hc7),
    by ((try simp (disch := omega) only [ms_k, ms_j, ms_s]) <;> first | done | rfl | exact h4),
    by ((try simp (disch := omega) only [ms_k, ms_j, ms_s]) <;> first | done | rfl | exact h10),
    by ((try simp (disch := omega) only [ms_k, ms_j, ms_s]) <;> first | done | rfl | exact h12),
    by ((try simp (disch := omega) only [ms_k, ms_j, ms_s]) <;> first | done | rfl | exact h14),
    fun k zk => by ((try simp (disch := omega) only [ms_k, ms_j, ms_s]) <;> first | done | rfl | exact (hs k zk)),
    by ((try simp (disch := omega) only [ms_k, ms_j, ms_s]) <;> first | done | rfl | exact s1),
    by ((try simp (disch := omega) only [ms_k, ms_j, ms_s]) <;> first | done | rfl | exact s2),
    by ((try simp (disch := omega) only [ms_k, ms_j, ms_s]) <;> first | done | rfl | exact s0),
    by ((try simp (disch := omega) only [ms_k, ms_j, ms_s]) <;> first | done | rfl | exact s4),
    fun k zk => by ((try simp (disch := omega) only [ms_k, ms_j, ms_s]) <;> first | done | rfl | exact (sd k zk)),
    fun b zb => by ((try simp (disch := omega) only [ms_k, ms_j, ms_s]) <;> first | done | rfl | exact (sg b zb)),
    fun b zb => by ((try simp (disch := omega) only [ms_k, ms_j, ms_s]) <;> first | done | rfl | exact (sa b zb)),
    by ((try simp (disch := omega) only [ms_k, ms_j, ms_s]) <;> first | done | rfl | exact s9),
    by ((try simp (disch := omega) only [ms_k, ms_j, ms_s]) <;> first | done | rfl | exact s8),
    by ((try simp (disch := omega) only [ms_k, ms_j, ms_s]) <;> first | done | rfl | exact s6),
    fun i zi => by ((try simp (disch := omega) only [ms_k, ms_j, ms_s]) <;> first | done | rfl | exact (sm i zi))⟩
theorem ST_heat {e c cc p m A B : Nat} {M R : Mem} {v : Nat} (hv : v ≤ 20) (hV : ST e c cc p m A B M R) : ST e c cc p m A B (ms M e 4 (nI v)) (ms R 63 4 (nI v)) := by
  obtain ⟨hb, h8, h11, s5, h13, h9, h7, h6, h5, hcr, hd, hc1, hc7, h4, h10, h12, h14, hs, s1, s2, s0, s4, sd, sg, sa, s9, s8, s6, sm⟩ := hV
  refine ⟨fun b zb => by (refine ⟨?_, ?_, ?_, ?_, ?_⟩ <;> (try simp (disch := omega) only [ms_k, ms_j, ms_s]) <;> first | done | rfl | exact (hb b zb).1 | exact (hb b zb).2.1 | exact (hb b zb).2.2.1 | exact (hb b zb).2.2.2.1 | exact (hb b zb).2.2.2.2),
    by ((try simp (disch := omega) only [ms_k, ms_j, ms_s]) <;> first | done | rfl | exact h8),
    by ((try simp (disch := omega) only [ms_k, ms_j, ms_s]) <;> first | done | rfl | exact h11),
    by ((try simp (disch := omega) only [ms_k, ms_j, ms_s]) <;> first | done | rfl | exact s5),
    by ((try simp (disch := omega) only [ms_k, ms_j, ms_s]) <;> first | done | rfl | exact h13),
    by ((try simp (disch := omega) only [ms_k, ms_j, ms_s]) <;> first | done | rfl | exact h9),
    by ((try simp (disch := omega) only [ms_k, ms_j, ms_s]) <;> first | done | rfl | exact h7),
    by ((try simp (disch := omega) only [ms_k, ms_j, ms_s]) <;> first | done | rfl | exact h6),
    by ((try simp (disch := omega) only [ms_k, ms_j, ms_s]) <;> first | done | rfl | exact h5),
    fun i zi => by (refine ⟨?_, ?_, ?_⟩ <;> (try simp (disch := omega) only [ms_k, ms_j, ms_s]) <;> first | done | rfl | exact (hcr i zi).1 | exact (hcr i zi).2.1 | exact (hcr i zi).2.2),
    fun k zk => by ((try simp (disch := omega) only [ms_k, ms_j, ms_s]) <;> first | done | rfl | exact (hd k zk)),
    by ((try simp (disch := omega) only [ms_k, ms_j, ms_s]) <;> first | done | rfl | exact hc1),
    by ((try simp (disch := omega) only [ms_k, ms_j, ms_s]) <;> first | done | rfl | exact hc7),
    by ((try simp (disch := omega) only [ms_k, ms_j, ms_s]) <;> first | done | rfl | exact h4),
    by ((try simp (disch := omega) only [ms_k, ms_j, ms_s]) <;> first | done | rfl | exact h10),
    by ((try simp (disch := omega) only [ms_k, ms_j, ms_s]) <;> first | done | rfl | exact h12),
    by ((try simp (disch := omega) only [ms_k, ms_j, ms_s]) <;> first | done | rfl | exact h14),
    fun k zk => by ((try simp (disch := omega) only [ms_k, ms_j, ms_s]) <;> first | done | rfl | exact (hs k zk)),
    by ((try simp (disch := omega) only [ms_k, ms_j, ms_s]) <;> first | done | rfl | exact s1),
    by ((try simp (disch := omega) only [ms_k, ms_j, ms_s]) <;> first | done | rfl | exact s2),
    by ((try simp (disch := omega) only [ms_k, ms_j, ms_s]) <;> first | done | rfl | exact s0),
    by try simp (disch := omega) only [ms_k, ms_j, ms_s]; exact ⟨v, hv, rfl⟩,
    fun k zk => by ((try simp (disch := omega) only [ms_k, ms_j, ms_s]) <;> first | done | rfl | exact (sd k zk)),
    fun b zb => by ((try simp (disch := omega) only [ms_k, ms_j, ms_s]) <;> first | done | rfl | exact (sg b zb)),
    fun b zb => by ((try simp (disch := omega) only [ms_k, ms_j, ms_s]) <;> first | done | rfl | exact (sa b zb)),
    by ((try simp (disch := omega) only [ms_k, ms_j, ms_s]) <;> first | done | rfl | exact s9),
    by ((try simp (disch := omega) only [ms_k, ms_j, ms_s]) <;> first | done | rfl | exact s8),
    by ((try simp (disch := omega) only [ms_k, ms_j, ms_s]) <;> first | done | rfl | exact s6),
    fun i zi => by ((try simp (disch := omega) only [ms_k, ms_j, ms_s]) <;> first | done | rfl | exact (sm i zi))⟩
theorem ST_cold {e c cc p m A B : Nat} {M R : Mem} {v : Nat} (hv : v ≤ 9) (hV : ST e c cc p m A B M R) : ST e c cc p m A B (ms M e 6 (nI v)) (ms R 63 6 (nI v)) := by
  obtain ⟨hb, h8, h11, s5, h13, h9, h7, h6, h5, hcr, hd, hc1, hc7, h4, h10, h12, h14, hs, s1, s2, s0, s4, sd, sg, sa, s9, s8, s6, sm⟩ := hV
  refine ⟨fun b zb => by (refine ⟨?_, ?_, ?_, ?_, ?_⟩ <;> (try simp (disch := omega) only [ms_k, ms_j, ms_s]) <;> first | done | rfl | exact (hb b zb).1 | exact (hb b zb).2.1 | exact (hb b zb).2.2.1 | exact (hb b zb).2.2.2.1 | exact (hb b zb).2.2.2.2),
    by ((try simp (disch := omega) only [ms_k, ms_j, ms_s]) <;> first | done | rfl | exact h8),
    by ((try simp (disch := omega) only [ms_k, ms_j, ms_s]) <;> first | done | rfl | exact h11),
    by ((try simp (disch := omega) only [ms_k, ms_j, ms_s]) <;> first | done | rfl | exact s5),
    by ((try simp (disch := omega) only [ms_k, ms_j, ms_s]) <;> first | done | rfl | exact h13),
    by ((try simp (disch := omega) only [ms_k, ms_j, ms_s]) <;> first | done | rfl | exact h9),
    by ((try simp (disch := omega) only [ms_k, ms_j, ms_s]) <;> first | done | rfl | exact h7),
    by ((try simp (disch := omega) only [ms_k, ms_j, ms_s]) <;> first | done | rfl | exact h6),
    by ((try simp (disch := omega) only [ms_k, ms_j, ms_s]) <;> first | done | rfl | exact h5),
    fun i zi => by (refine ⟨?_, ?_, ?_⟩ <;> (try simp (disch := omega) only [ms_k, ms_j, ms_s]) <;> first | done | rfl | exact (hcr i zi).1 | exact (hcr i zi).2.1 | exact (hcr i zi).2.2),
    fun k zk => by ((try simp (disch := omega) only [ms_k, ms_j, ms_s]) <;> first | done | rfl | exact (hd k zk)),
    by ((try simp (disch := omega) only [ms_k, ms_j, ms_s]) <;> first | done | rfl | exact hc1),
    by ((try simp (disch := omega) only [ms_k, ms_j, ms_s]) <;> first | done | rfl | exact hc7),
    by ((try simp (disch := omega) only [ms_k, ms_j, ms_s]) <;> first | done | rfl | exact h4),
    by ((try simp (disch := omega) only [ms_k, ms_j, ms_s]) <;> first | done | rfl | exact h10),
    by ((try simp (disch := omega) only [ms_k, ms_j, ms_s]) <;> first | done | rfl | exact h12),
    by ((try simp (disch := omega) only [ms_k, ms_j, ms_s]) <;> first | done | rfl | exact h14),
    fun k zk => by ((try simp (disch := omega) only [ms_k, ms_j, ms_s]) <;> first | done | rfl | exact (hs k zk)),
    by ((try simp (disch := omega) only [ms_k, ms_j, ms_s]) <;> first | done | rfl | exact s1),
    by ((try simp (disch := omega) only [ms_k, ms_j, ms_s]) <;> first | done | rfl | exact s2),
    by ((try simp (disch := omega) only [ms_k, ms_j, ms_s]) <;> first | done | rfl | exact s0),
    by ((try simp (disch := omega) only [ms_k, ms_j, ms_s]) <;> first | done | rfl | exact s4),
    fun k zk => by ((try simp (disch := omega) only [ms_k, ms_j, ms_s]) <;> first | done | rfl | exact (sd k zk)),
    fun b zb => by ((try simp (disch := omega) only [ms_k, ms_j, ms_s]) <;> first | done | rfl | exact (sg b zb)),
    fun b zb => by ((try simp (disch := omega) only [ms_k, ms_j, ms_s]) <;> first | done | rfl | exact (sa b zb)),
    by ((try simp (disch := omega) only [ms_k, ms_j, ms_s]) <;> first | done | rfl | exact s9),
    by ((try simp (disch := omega) only [ms_k, ms_j, ms_s]) <;> first | done | rfl | exact s8),
    by try simp (disch := omega) only [ms_k, ms_j, ms_s]; exact ⟨v, hv, rfl⟩,
    fun i zi => by ((try simp (disch := omega) only [ms_k, ms_j, ms_s]) <;> first | done | rfl | exact (sm i zi))⟩
theorem ST_seed {e c cc p m A B : Nat} {M R : Mem} (v : Int32) (hV : ST e c cc p m A B M R) : ST e c cc p m A B (ms M e 14 v) (ms R 63 3 v) := by
  obtain ⟨hb, h8, h11, s5, h13, h9, h7, h6, h5, hcr, hd, hc1, hc7, h4, h10, h12, h14, hs, s1, s2, s0, s4, sd, sg, sa, s9, s8, s6, sm⟩ := hV
  refine ⟨fun b zb => by (refine ⟨?_, ?_, ?_, ?_, ?_⟩ <;> (try simp (disch := omega) only [ms_k, ms_j, ms_s]) <;> first | done | rfl | exact (hb b zb).1 | exact (hb b zb).2.1 | exact (hb b zb).2.2.1 | exact (hb b zb).2.2.2.1 | exact (hb b zb).2.2.2.2),
    by ((try simp (disch := omega) only [ms_k, ms_j, ms_s]) <;> first | done | rfl | exact h8),
    by ((try simp (disch := omega) only [ms_k, ms_j, ms_s]) <;> first | done | rfl | exact h11),
    by ((try simp (disch := omega) only [ms_k, ms_j, ms_s]) <;> first | done | rfl | exact s5),
    by ((try simp (disch := omega) only [ms_k, ms_j, ms_s]) <;> first | done | rfl | exact h13),
    by ((try simp (disch := omega) only [ms_k, ms_j, ms_s]) <;> first | done | rfl | exact h9),
    by ((try simp (disch := omega) only [ms_k, ms_j, ms_s]) <;> first | done | rfl | exact h7),
    by ((try simp (disch := omega) only [ms_k, ms_j, ms_s]) <;> first | done | rfl | exact h6),
    by ((try simp (disch := omega) only [ms_k, ms_j, ms_s]) <;> first | done | rfl | exact h5),
    fun i zi => by (refine ⟨?_, ?_, ?_⟩ <;> (try simp (disch := omega) only [ms_k, ms_j, ms_s]) <;> first | done | rfl | exact (hcr i zi).1 | exact (hcr i zi).2.1 | exact (hcr i zi).2.2),
    fun k zk => by ((try simp (disch := omega) only [ms_k, ms_j, ms_s]) <;> first | done | rfl | exact (hd k zk)),
    by ((try simp (disch := omega) only [ms_k, ms_j, ms_s]) <;> first | done | rfl | exact hc1),
    by ((try simp (disch := omega) only [ms_k, ms_j, ms_s]) <;> first | done | rfl | exact hc7),
    by ((try simp (disch := omega) only [ms_k, ms_j, ms_s]) <;> first | done | rfl | exact h4),
    by ((try simp (disch := omega) only [ms_k, ms_j, ms_s]) <;> first | done | rfl | exact h10),
    by ((try simp (disch := omega) only [ms_k, ms_j, ms_s]) <;> first | done | rfl | exact h12),
    by ((try simp (disch := omega) only [ms_k, ms_j, ms_s]) <;> first | done | rfl | exact h14),
    fun k zk => by ((try simp (disch := omega) only [ms_k, ms_j, ms_s]) <;> first | done | rfl | exact (hs k zk)),
    by ((try simp (disch := omega) only [ms_k, ms_j, ms_s]) <;> first | done | rfl | exact s1),
    by ((try simp (disch := omega) only [ms_k, ms_j, ms_s]) <;> first | done | rfl | exact s2),
    by ((try simp (disch := omega) only [ms_k, ms_j, ms_s]) <;> first | done | rfl | exact s0),
    by ((try simp (disch := omega) only [ms_k, ms_j, ms_s]) <;> first | done | rfl | exact s4),
    fun k zk => by ((try simp (disch := omega) only [ms_k, ms_j, ms_s]) <;> first | done | rfl | exact (sd k zk)),
    fun b zb => by ((try simp (disch := omega) only [ms_k, ms_j, ms_s]) <;> first | done | rfl | exact (sg b zb)),
    fun b zb => by ((try simp (disch := omega) only [ms_k, ms_j, ms_s]) <;> first | done | rfl | exact (sa b zb)),
    by ((try simp (disch := omega) only [ms_k, ms_j, ms_s]) <;> first | done | rfl | exact s9),
    by ((try simp (disch := omega) only [ms_k, ms_j, ms_s]) <;> first | done | rfl | exact s8),
    by ((try simp (disch := omega) only [ms_k, ms_j, ms_s]) <;> first | done | rfl | exact s6),
    fun i zi => by ((try simp (disch := omega) only [ms_k, ms_j, ms_s]) <;> first | done | rfl | exact (sm i zi))⟩
theorem ST_wasted {e c cc p m A B : Nat} {M R : Mem} (v w : Int32) (hvw : v = w) (hV : ST e c cc p m A B M R) : ST e c cc p m A B (ms M e 12 v) (ms R 63 11 w) := by
  obtain ⟨hb, h8, h11, s5, h13, h9, h7, h6, h5, hcr, hd, hc1, hc7, h4, h10, h12, h14, hs, s1, s2, s0, s4, sd, sg, sa, s9, s8, s6, sm⟩ := hV
  refine ⟨fun b zb => by (refine ⟨?_, ?_, ?_, ?_, ?_⟩ <;> (try simp (disch := omega) only [ms_k, ms_j, ms_s]) <;> first | done | rfl | exact (hb b zb).1 | exact (hb b zb).2.1 | exact (hb b zb).2.2.1 | exact (hb b zb).2.2.2.1 | exact (hb b zb).2.2.2.2),
    by ((try simp (disch := omega) only [ms_k, ms_j, ms_s]) <;> first | done | rfl | exact h8),
    by ((try simp (disch := omega) only [ms_k, ms_j, ms_s]) <;> first | done | rfl | exact h11),
    by ((try simp (disch := omega) only [ms_k, ms_j, ms_s]) <;> first | done | rfl | exact s5),
    by ((try simp (disch := omega) only [ms_k, ms_j, ms_s]) <;> first | done | rfl | exact h13),
    by ((try simp (disch := omega) only [ms_k, ms_j, ms_s]) <;> first | done | rfl | exact h9),
    by ((try simp (disch := omega) only [ms_k, ms_j, ms_s]) <;> first | done | rfl | exact h7),
    by ((try simp (disch := omega) only [ms_k, ms_j, ms_s]) <;> first | done | rfl | exact h6),
    by ((try simp (disch := omega) only [ms_k, ms_j, ms_s]) <;> first | done | rfl | exact h5),
    fun i zi => by (refine ⟨?_, ?_, ?_⟩ <;> (try simp (disch := omega) only [ms_k, ms_j, ms_s]) <;> first | done | rfl | exact (hcr i zi).1 | exact (hcr i zi).2.1 | exact (hcr i zi).2.2),
    fun k zk => by ((try simp (disch := omega) only [ms_k, ms_j, ms_s]) <;> first | done | rfl | exact (hd k zk)),
    by ((try simp (disch := omega) only [ms_k, ms_j, ms_s]) <;> first | done | rfl | exact hc1),
    by ((try simp (disch := omega) only [ms_k, ms_j, ms_s]) <;> first | done | rfl | exact hc7),
    by ((try simp (disch := omega) only [ms_k, ms_j, ms_s]) <;> first | done | rfl | exact h4),
    by ((try simp (disch := omega) only [ms_k, ms_j, ms_s]) <;> first | done | rfl | exact h10),
    by try simp (disch := omega) only [ms_k, ms_j, ms_s]; exact hvw,
    by ((try simp (disch := omega) only [ms_k, ms_j, ms_s]) <;> first | done | rfl | exact h14),
    fun k zk => by ((try simp (disch := omega) only [ms_k, ms_j, ms_s]) <;> first | done | rfl | exact (hs k zk)),
    by ((try simp (disch := omega) only [ms_k, ms_j, ms_s]) <;> first | done | rfl | exact s1),
    by ((try simp (disch := omega) only [ms_k, ms_j, ms_s]) <;> first | done | rfl | exact s2),
    by ((try simp (disch := omega) only [ms_k, ms_j, ms_s]) <;> first | done | rfl | exact s0),
    by ((try simp (disch := omega) only [ms_k, ms_j, ms_s]) <;> first | done | rfl | exact s4),
    fun k zk => by ((try simp (disch := omega) only [ms_k, ms_j, ms_s]) <;> first | done | rfl | exact (sd k zk)),
    fun b zb => by ((try simp (disch := omega) only [ms_k, ms_j, ms_s]) <;> first | done | rfl | exact (sg b zb)),
    fun b zb => by ((try simp (disch := omega) only [ms_k, ms_j, ms_s]) <;> first | done | rfl | exact (sa b zb)),
    by ((try simp (disch := omega) only [ms_k, ms_j, ms_s]) <;> first | done | rfl | exact s9),
    by ((try simp (disch := omega) only [ms_k, ms_j, ms_s]) <;> first | done | rfl | exact s8),
    by ((try simp (disch := omega) only [ms_k, ms_j, ms_s]) <;> first | done | rfl | exact s6),
    fun i zi => by ((try simp (disch := omega) only [ms_k, ms_j, ms_s]) <;> first | done | rfl | exact (sm i zi))⟩
theorem ST_spot {e c cc p m A B : Nat} {M R : Mem} {x : Nat} (hc : c ≤ 10) (hcc : cc ≤ 12) (hx : x < 10) (v : Int32) (hV : ST e c cc p m A B M R) : ST e c cc p m A B (ms M (e+12) x v) (ms R 63 (106 + x) v) := by
  obtain ⟨hb, h8, h11, s5, h13, h9, h7, h6, h5, hcr, hd, hc1, hc7, h4, h10, h12, h14, hs, s1, s2, s0, s4, sd, sg, sa, s9, s8, s6, sm⟩ := hV
  refine ⟨fun b zb => by (refine ⟨?_, ?_, ?_, ?_, ?_⟩ <;> (try simp (disch := omega) only [ms_k, ms_j, ms_s]) <;> first | done | rfl | exact (hb b zb).1 | exact (hb b zb).2.1 | exact (hb b zb).2.2.1 | exact (hb b zb).2.2.2.1 | exact (hb b zb).2.2.2.2),
    by ((try simp (disch := omega) only [ms_k, ms_j, ms_s]) <;> first | done | rfl | exact h8),
    by ((try simp (disch := omega) only [ms_k, ms_j, ms_s]) <;> first | done | rfl | exact h11),
    by ((try simp (disch := omega) only [ms_k, ms_j, ms_s]) <;> first | done | rfl | exact s5),
    by ((try simp (disch := omega) only [ms_k, ms_j, ms_s]) <;> first | done | rfl | exact h13),
    by ((try simp (disch := omega) only [ms_k, ms_j, ms_s]) <;> first | done | rfl | exact h9),
    by ((try simp (disch := omega) only [ms_k, ms_j, ms_s]) <;> first | done | rfl | exact h7),
    by ((try simp (disch := omega) only [ms_k, ms_j, ms_s]) <;> first | done | rfl | exact h6),
    by ((try simp (disch := omega) only [ms_k, ms_j, ms_s]) <;> first | done | rfl | exact h5),
    fun i zi => by (refine ⟨?_, ?_, ?_⟩ <;> (try simp (disch := omega) only [ms_k, ms_j, ms_s]) <;> first | done | rfl | exact (hcr i zi).1 | exact (hcr i zi).2.1 | exact (hcr i zi).2.2),
    fun k zk => by ((try simp (disch := omega) only [ms_k, ms_j, ms_s]) <;> first | done | rfl | exact (hd k zk)),
    by ((try simp (disch := omega) only [ms_k, ms_j, ms_s]) <;> first | done | rfl | exact hc1),
    by ((try simp (disch := omega) only [ms_k, ms_j, ms_s]) <;> first | done | rfl | exact hc7),
    by ((try simp (disch := omega) only [ms_k, ms_j, ms_s]) <;> first | done | rfl | exact h4),
    by ((try simp (disch := omega) only [ms_k, ms_j, ms_s]) <;> first | done | rfl | exact h10),
    by ((try simp (disch := omega) only [ms_k, ms_j, ms_s]) <;> first | done | rfl | exact h12),
    by ((try simp (disch := omega) only [ms_k, ms_j, ms_s]) <;> first | done | rfl | exact h14),
    fun k zk => by
    by_cases q : k = x
    · subst q
      ((try simp (disch := omega) only [ms_k, ms_j, ms_s]) <;> first | done | rfl | exact (hs k zk))
    · ((try simp (disch := omega) only [ms_k, ms_j, ms_s]) <;> first | done | rfl | exact (hs k zk)),
    by ((try simp (disch := omega) only [ms_k, ms_j, ms_s]) <;> first | done | rfl | exact s1),
    by ((try simp (disch := omega) only [ms_k, ms_j, ms_s]) <;> first | done | rfl | exact s2),
    by ((try simp (disch := omega) only [ms_k, ms_j, ms_s]) <;> first | done | rfl | exact s0),
    by ((try simp (disch := omega) only [ms_k, ms_j, ms_s]) <;> first | done | rfl | exact s4),
    fun k zk => by ((try simp (disch := omega) only [ms_k, ms_j, ms_s]) <;> first | done | rfl | exact (sd k zk)),
    fun b zb => by ((try simp (disch := omega) only [ms_k, ms_j, ms_s]) <;> first | done | rfl | exact (sg b zb)),
    fun b zb => by ((try simp (disch := omega) only [ms_k, ms_j, ms_s]) <;> first | done | rfl | exact (sa b zb)),
    by ((try simp (disch := omega) only [ms_k, ms_j, ms_s]) <;> first | done | rfl | exact s9),
    by ((try simp (disch := omega) only [ms_k, ms_j, ms_s]) <;> first | done | rfl | exact s8),
    by ((try simp (disch := omega) only [ms_k, ms_j, ms_s]) <;> first | done | rfl | exact s6),
    fun i zi => by ((try simp (disch := omega) only [ms_k, ms_j, ms_s]) <;> first | done | rfl | exact (sm i zi))⟩
theorem ST_cmin {e c cc p m A B : Nat} {M R : Mem} {x : Nat} (hc : c ≤ 10) (hcc : cc ≤ 12) (hx : x < cc) (v : Int32) (hV : ST e c cc p m A B M R) : ST e c cc p m A B (ms M (e+9) x v) (ms R 63 (70 + 3 * x + 1) v) := by
  obtain ⟨hb, h8, h11, s5, h13, h9, h7, h6, h5, hcr, hd, hc1, hc7, h4, h10, h12, h14, hs, s1, s2, s0, s4, sd, sg, sa, s9, s8, s6, sm⟩ := hV
  refine ⟨fun b zb => by (refine ⟨?_, ?_, ?_, ?_, ?_⟩ <;> (try simp (disch := omega) only [ms_k, ms_j, ms_s]) <;> first | done | rfl | exact (hb b zb).1 | exact (hb b zb).2.1 | exact (hb b zb).2.2.1 | exact (hb b zb).2.2.2.1 | exact (hb b zb).2.2.2.2),
    by ((try simp (disch := omega) only [ms_k, ms_j, ms_s]) <;> first | done | rfl | exact h8),
    by ((try simp (disch := omega) only [ms_k, ms_j, ms_s]) <;> first | done | rfl | exact h11),
    by ((try simp (disch := omega) only [ms_k, ms_j, ms_s]) <;> first | done | rfl | exact s5),
    by ((try simp (disch := omega) only [ms_k, ms_j, ms_s]) <;> first | done | rfl | exact h13),
    by ((try simp (disch := omega) only [ms_k, ms_j, ms_s]) <;> first | done | rfl | exact h9),
    by ((try simp (disch := omega) only [ms_k, ms_j, ms_s]) <;> first | done | rfl | exact h7),
    by ((try simp (disch := omega) only [ms_k, ms_j, ms_s]) <;> first | done | rfl | exact h6),
    by ((try simp (disch := omega) only [ms_k, ms_j, ms_s]) <;> first | done | rfl | exact h5),
    fun i zi => by
    by_cases q : i = x
    · subst q
      (refine ⟨?_, ?_, ?_⟩ <;> (try simp (disch := omega) only [ms_k, ms_j, ms_s]) <;> first | done | rfl | exact (hcr i zi).1 | exact (hcr i zi).2.1 | exact (hcr i zi).2.2)
    · (refine ⟨?_, ?_, ?_⟩ <;> (try simp (disch := omega) only [ms_k, ms_j, ms_s]) <;> first | done | rfl | exact (hcr i zi).1 | exact (hcr i zi).2.1 | exact (hcr i zi).2.2),
    fun k zk => by ((try simp (disch := omega) only [ms_k, ms_j, ms_s]) <;> first | done | rfl | exact (hd k zk)),
    by ((try simp (disch := omega) only [ms_k, ms_j, ms_s]) <;> first | done | rfl | exact hc1),
    by ((try simp (disch := omega) only [ms_k, ms_j, ms_s]) <;> first | done | rfl | exact hc7),
    by ((try simp (disch := omega) only [ms_k, ms_j, ms_s]) <;> first | done | rfl | exact h4),
    by ((try simp (disch := omega) only [ms_k, ms_j, ms_s]) <;> first | done | rfl | exact h10),
    by ((try simp (disch := omega) only [ms_k, ms_j, ms_s]) <;> first | done | rfl | exact h12),
    by ((try simp (disch := omega) only [ms_k, ms_j, ms_s]) <;> first | done | rfl | exact h14),
    fun k zk => by ((try simp (disch := omega) only [ms_k, ms_j, ms_s]) <;> first | done | rfl | exact (hs k zk)),
    by ((try simp (disch := omega) only [ms_k, ms_j, ms_s]) <;> first | done | rfl | exact s1),
    by ((try simp (disch := omega) only [ms_k, ms_j, ms_s]) <;> first | done | rfl | exact s2),
    by ((try simp (disch := omega) only [ms_k, ms_j, ms_s]) <;> first | done | rfl | exact s0),
    by ((try simp (disch := omega) only [ms_k, ms_j, ms_s]) <;> first | done | rfl | exact s4),
    fun k zk => by ((try simp (disch := omega) only [ms_k, ms_j, ms_s]) <;> first | done | rfl | exact (sd k zk)),
    fun b zb => by ((try simp (disch := omega) only [ms_k, ms_j, ms_s]) <;> first | done | rfl | exact (sg b zb)),
    fun b zb => by ((try simp (disch := omega) only [ms_k, ms_j, ms_s]) <;> first | done | rfl | exact (sa b zb)),
    by ((try simp (disch := omega) only [ms_k, ms_j, ms_s]) <;> first | done | rfl | exact s9),
    by ((try simp (disch := omega) only [ms_k, ms_j, ms_s]) <;> first | done | rfl | exact s8),
    by ((try simp (disch := omega) only [ms_k, ms_j, ms_s]) <;> first | done | rfl | exact s6),
    fun i zi => by ((try simp (disch := omega) only [ms_k, ms_j, ms_s]) <;> first | done | rfl | exact (sm i zi))⟩
theorem ST_many {e c cc p m A B : Nat} {M R : Mem} {x v : Nat} (hc : c ≤ 10) (hcc : cc ≤ 12) (hx : x < cc) (hv : v ≤ 400) (hV : ST e c cc p m A B M R) : ST e c cc p m A B (ms M (e+10) x (nI v)) (ms R 63 (70 + 3 * x + 2) (nI v)) := by
  obtain ⟨hb, h8, h11, s5, h13, h9, h7, h6, h5, hcr, hd, hc1, hc7, h4, h10, h12, h14, hs, s1, s2, s0, s4, sd, sg, sa, s9, s8, s6, sm⟩ := hV
  refine ⟨fun b zb => by (refine ⟨?_, ?_, ?_, ?_, ?_⟩ <;> (try simp (disch := omega) only [ms_k, ms_j, ms_s]) <;> first | done | rfl | exact (hb b zb).1 | exact (hb b zb).2.1 | exact (hb b zb).2.2.1 | exact (hb b zb).2.2.2.1 | exact (hb b zb).2.2.2.2),
    by ((try simp (disch := omega) only [ms_k, ms_j, ms_s]) <;> first | done | rfl | exact h8),
    by ((try simp (disch := omega) only [ms_k, ms_j, ms_s]) <;> first | done | rfl | exact h11),
    by ((try simp (disch := omega) only [ms_k, ms_j, ms_s]) <;> first | done | rfl | exact s5),
    by ((try simp (disch := omega) only [ms_k, ms_j, ms_s]) <;> first | done | rfl | exact h13),
    by ((try simp (disch := omega) only [ms_k, ms_j, ms_s]) <;> first | done | rfl | exact h9),
    by ((try simp (disch := omega) only [ms_k, ms_j, ms_s]) <;> first | done | rfl | exact h7),
    by ((try simp (disch := omega) only [ms_k, ms_j, ms_s]) <;> first | done | rfl | exact h6),
    by ((try simp (disch := omega) only [ms_k, ms_j, ms_s]) <;> first | done | rfl | exact h5),
    fun i zi => by
    by_cases q : i = x
    · subst q
      (refine ⟨?_, ?_, ?_⟩ <;> (try simp (disch := omega) only [ms_k, ms_j, ms_s]) <;> first | done | rfl | exact (hcr i zi).1 | exact (hcr i zi).2.1 | exact (hcr i zi).2.2)
    · (refine ⟨?_, ?_, ?_⟩ <;> (try simp (disch := omega) only [ms_k, ms_j, ms_s]) <;> first | done | rfl | exact (hcr i zi).1 | exact (hcr i zi).2.1 | exact (hcr i zi).2.2),
    fun k zk => by ((try simp (disch := omega) only [ms_k, ms_j, ms_s]) <;> first | done | rfl | exact (hd k zk)),
    by ((try simp (disch := omega) only [ms_k, ms_j, ms_s]) <;> first | done | rfl | exact hc1),
    by ((try simp (disch := omega) only [ms_k, ms_j, ms_s]) <;> first | done | rfl | exact hc7),
    by ((try simp (disch := omega) only [ms_k, ms_j, ms_s]) <;> first | done | rfl | exact h4),
    by ((try simp (disch := omega) only [ms_k, ms_j, ms_s]) <;> first | done | rfl | exact h10),
    by ((try simp (disch := omega) only [ms_k, ms_j, ms_s]) <;> first | done | rfl | exact h12),
    by ((try simp (disch := omega) only [ms_k, ms_j, ms_s]) <;> first | done | rfl | exact h14),
    fun k zk => by ((try simp (disch := omega) only [ms_k, ms_j, ms_s]) <;> first | done | rfl | exact (hs k zk)),
    by ((try simp (disch := omega) only [ms_k, ms_j, ms_s]) <;> first | done | rfl | exact s1),
    by ((try simp (disch := omega) only [ms_k, ms_j, ms_s]) <;> first | done | rfl | exact s2),
    by ((try simp (disch := omega) only [ms_k, ms_j, ms_s]) <;> first | done | rfl | exact s0),
    by ((try simp (disch := omega) only [ms_k, ms_j, ms_s]) <;> first | done | rfl | exact s4),
    fun k zk => by ((try simp (disch := omega) only [ms_k, ms_j, ms_s]) <;> first | done | rfl | exact (sd k zk)),
    fun b zb => by ((try simp (disch := omega) only [ms_k, ms_j, ms_s]) <;> first | done | rfl | exact (sg b zb)),
    fun b zb => by ((try simp (disch := omega) only [ms_k, ms_j, ms_s]) <;> first | done | rfl | exact (sa b zb)),
    by ((try simp (disch := omega) only [ms_k, ms_j, ms_s]) <;> first | done | rfl | exact s9),
    by ((try simp (disch := omega) only [ms_k, ms_j, ms_s]) <;> first | done | rfl | exact s8),
    by ((try simp (disch := omega) only [ms_k, ms_j, ms_s]) <;> first | done | rfl | exact s6),
    fun i zi => by
    by_cases q : i = x
    · subst q
      (try simp (disch := omega) only [ms_k, ms_j, ms_s]) <;> exact ⟨v, hv, rfl⟩
    · ((try simp (disch := omega) only [ms_k, ms_j, ms_s]) <;> first | done | rfl | exact (sm i zi))⟩
theorem ST_shov {e c cc p m A B : Nat} {M R : Mem} (v : Nat) (hV : ST e c cc p m A B M R) : ST e c cc p m A (B + v) (ms M (e+11) ((m + 6) % 7) (M (e+11) ((m + 6) % 7) + nI v)) (ms R 63 19 (R 63 19 + nI v)) := by
  obtain ⟨hb, h8, h11, s5, h13, h9, h7, h6, h5, hcr, hd, hc1, hc7, h4, h10, h12, h14, hs, s1, s2, s0, s4, sd, sg, sa, s9, s8, s6, sm⟩ := hV
  refine ⟨fun b zb => by (refine ⟨?_, ?_, ?_, ?_, ?_⟩ <;> (try simp (disch := omega) only [ms_k, ms_j, ms_s]) <;> first | done | rfl | exact (hb b zb).1 | exact (hb b zb).2.1 | exact (hb b zb).2.2.1 | exact (hb b zb).2.2.2.1 | exact (hb b zb).2.2.2.2),
    by ((try simp (disch := omega) only [ms_k, ms_j, ms_s]) <;> first | done | rfl | exact h8),
    by ((try simp (disch := omega) only [ms_k, ms_j, ms_s]) <;> first | done | rfl | exact h11),
    by ((try simp (disch := omega) only [ms_k, ms_j, ms_s]) <;> first | done | rfl | exact s5),
    by ((try simp (disch := omega) only [ms_k, ms_j, ms_s]) <;> first | done | rfl | exact h13),
    by ((try simp (disch := omega) only [ms_k, ms_j, ms_s]) <;> first | done | rfl | exact h9),
    by ((try simp (disch := omega) only [ms_k, ms_j, ms_s]) <;> first | done | rfl | exact h7),
    by ((try simp (disch := omega) only [ms_k, ms_j, ms_s]) <;> first | done | rfl | exact h6),
    by ((try simp (disch := omega) only [ms_k, ms_j, ms_s]) <;> first | done | rfl | exact h5),
    fun i zi => by (refine ⟨?_, ?_, ?_⟩ <;> (try simp (disch := omega) only [ms_k, ms_j, ms_s]) <;> first | done | rfl | exact (hcr i zi).1 | exact (hcr i zi).2.1 | exact (hcr i zi).2.2),
    fun k zk => by
    by_cases q : k = 6
    · subst q
      rw [ms_s, show 13 + 6 = 19 from rfl, ms_s, hd 6 (by decide)]
    · rw [ms_j (show (m + k) % 7 ≠ (m + 6) % 7 by omega), ms_j (by omega)]
      exact hd k zk,
    by ((try simp (disch := omega) only [ms_k, ms_j, ms_s]) <;> first | done | rfl | exact hc1),
    by ((try simp (disch := omega) only [ms_k, ms_j, ms_s]) <;> first | done | rfl | exact hc7),
    by ((try simp (disch := omega) only [ms_k, ms_j, ms_s]) <;> first | done | rfl | exact h4),
    by ((try simp (disch := omega) only [ms_k, ms_j, ms_s]) <;> first | done | rfl | exact h10),
    by ((try simp (disch := omega) only [ms_k, ms_j, ms_s]) <;> first | done | rfl | exact h12),
    by ((try simp (disch := omega) only [ms_k, ms_j, ms_s]) <;> first | done | rfl | exact h14),
    fun k zk => by ((try simp (disch := omega) only [ms_k, ms_j, ms_s]) <;> first | done | rfl | exact (hs k zk)),
    by ((try simp (disch := omega) only [ms_k, ms_j, ms_s]) <;> first | done | rfl | exact s1),
    by ((try simp (disch := omega) only [ms_k, ms_j, ms_s]) <;> first | done | rfl | exact s2),
    by ((try simp (disch := omega) only [ms_k, ms_j, ms_s]) <;> first | done | rfl | exact s0),
    by ((try simp (disch := omega) only [ms_k, ms_j, ms_s]) <;> first | done | rfl | exact s4),
    fun k zk => by
    obtain ⟨d, hd1, hd2⟩ := sd k zk
    by_cases q : k = 6
    · subst q
      rw [show 13 + 6 = 19 from rfl, ms_s]
      rw [show 13 + 6 = 19 from rfl] at hd2
      exact ⟨d + v, by omega, by rw [hd2, nI_add]⟩
    · rw [ms_j (by omega)]
      exact ⟨d, by omega, hd2⟩,
    fun b zb => by ((try simp (disch := omega) only [ms_k, ms_j, ms_s]) <;> first | done | rfl | exact (sg b zb)),
    fun b zb => by ((try simp (disch := omega) only [ms_k, ms_j, ms_s]) <;> first | done | rfl | exact (sa b zb)),
    by ((try simp (disch := omega) only [ms_k, ms_j, ms_s]) <;> first | done | rfl | exact s9),
    by ((try simp (disch := omega) only [ms_k, ms_j, ms_s]) <;> first | done | rfl | exact s8),
    by ((try simp (disch := omega) only [ms_k, ms_j, ms_s]) <;> first | done | rfl | exact s6),
    fun i zi => by ((try simp (disch := omega) only [ms_k, ms_j, ms_s]) <;> first | done | rfl | exact (sm i zi))⟩
theorem walk_eq : ∀ x, x < 4 → ∀ y, y < 4 → absF (nI x - nI y) * 3 = nI (3 * (x - y + (y - x))) ∧ 3 * (if nI x < nI y then nI y - nI x else nI x - nI y) = nI (3 * (x - y + (y - x))) := by decide +kernel
theorem ST_walk {e c cc p m A B : Nat} {M R : Mem} {x : Nat} (hx : x ≤ 3) (hV : ST e c cc p m A B M R) : ST e c cc p m A B (setOutM e (nI x) M) (mWalkM (nI x) R) := by
  obtain ⟨hb, h8, h11, s5, h13, h9, h7, h6, h5, hcr, hd, hc1, hc7, h4, h10, h12, h14, hs, s1, s2, s0, s4, sd, sg, sa, s9, s8, s6, sm⟩ := hV
  obtain ⟨y, hy, ey⟩ := s8
  obtain ⟨w1, w2⟩ := walk_eq x (by omega) y (by omega)
  unfold setOutM mWalkM
  rw [h9, ey, w1, w2]
  refine ⟨fun b zb => by (refine ⟨?_, ?_, ?_, ?_, ?_⟩ <;> (try simp (disch := omega) only [ms_k, ms_j, ms_s]) <;> first | done | rfl | exact (hb b zb).1 | exact (hb b zb).2.1 | exact (hb b zb).2.2.1 | exact (hb b zb).2.2.2.1 | exact (hb b zb).2.2.2.2),
    by ((try simp (disch := omega) only [ms_k, ms_j, ms_s]) <;> first | done | rfl | exact h8),
    by ((try simp (disch := omega) only [ms_k, ms_j, ms_s]) <;> first | done | rfl | exact h11),
    by ((try simp (disch := omega) only [ms_k, ms_j, ms_s]) <;> first | done | rfl | exact s5),
    by ((try simp (disch := omega) only [ms_k, ms_j, ms_s]) <;> first | done | rfl | exact h13),
    by (try simp (disch := omega) only [ms_k, ms_j, ms_s]) <;> first | done | rfl,
    by ((try simp (disch := omega) only [ms_k, ms_j, ms_s]) <;> first | done | rfl | exact h7),
    by ((try simp (disch := omega) only [ms_k, ms_j, ms_s]) <;> first | done | rfl | exact h6),
    by ((try simp (disch := omega) only [ms_k, ms_j, ms_s]) <;> first | done | rfl | exact h5),
    fun i zi => by (refine ⟨?_, ?_, ?_⟩ <;> (try simp (disch := omega) only [ms_k, ms_j, ms_s]) <;> first | done | rfl | exact (hcr i zi).1 | exact (hcr i zi).2.1 | exact (hcr i zi).2.2),
    fun k zk => by ((try simp (disch := omega) only [ms_k, ms_j, ms_s]) <;> first | done | rfl | exact (hd k zk)),
    by ((try simp (disch := omega) only [ms_k, ms_j, ms_s]) <;> first | done | rfl | exact hc1),
    by ((try simp (disch := omega) only [ms_k, ms_j, ms_s]) <;> first | done | rfl | exact hc7),
    by ((try simp (disch := omega) only [ms_k, ms_j, ms_s]) <;> first | done | rfl | exact h4),
    by try simp (disch := omega) only [ms_k, ms_j, ms_s],
    by ((try simp (disch := omega) only [ms_k, ms_j, ms_s]) <;> first | done | rfl | exact h12),
    by ((try simp (disch := omega) only [ms_k, ms_j, ms_s]) <;> first | done | rfl | exact h14),
    fun k zk => by ((try simp (disch := omega) only [ms_k, ms_j, ms_s]) <;> first | done | rfl | exact (hs k zk)),
    by ((try simp (disch := omega) only [ms_k, ms_j, ms_s]) <;> first | done | rfl | exact s1),
    by ((try simp (disch := omega) only [ms_k, ms_j, ms_s]) <;> first | done | rfl | exact s2),
    by ((try simp (disch := omega) only [ms_k, ms_j, ms_s]) <;> first | done | rfl | exact s0),
    by ((try simp (disch := omega) only [ms_k, ms_j, ms_s]) <;> first | done | rfl | exact s4),
    fun k zk => by ((try simp (disch := omega) only [ms_k, ms_j, ms_s]) <;> first | done | rfl | exact (sd k zk)),
    fun b zb => by ((try simp (disch := omega) only [ms_k, ms_j, ms_s]) <;> first | done | rfl | exact (sg b zb)),
    fun b zb => by ((try simp (disch := omega) only [ms_k, ms_j, ms_s]) <;> first | done | rfl | exact (sa b zb)),
    by try simp (disch := omega) only [ms_k, ms_j, ms_s]; exact ⟨_, by omega, rfl⟩,
    by try simp (disch := omega) only [ms_k, ms_j, ms_s]; exact ⟨x, hx, rfl⟩,
    by ((try simp (disch := omega) only [ms_k, ms_j, ms_s]) <;> first | done | rfl | exact s6),
    fun i zi => by ((try simp (disch := omega) only [ms_k, ms_j, ms_s]) <;> first | done | rfl | exact (sm i zi))⟩
theorem ms2_same {R : Mem} {k i j : Nat} {v : Int32} (h : i ≠ j) : ms (ms R k i v) k j (R k j) = ms R k i v := ms_id (ms_j (Ne.symm h))
theorem put_fire {b : Nat} {p : Int32} {R : Mem} (h4 : ¬ p = 4) (h3 : ¬ p = 3) : mPutM b p R = ms R 63 (20 + 5 * b + 4) p := by
  rw [mPutM, if_neg h4, if_neg h3]
  exact ms2_same (by omega)
theorem put_heap {b : Nat} {R : Mem} : mPutM b 3 R = ms (ms R 63 (20 + 5 * b + 4) 3) 63 (20 + 5 * b + 3) (nI 0) := by
  rw [mPutM, if_neg (by decide), if_pos rfl]; rfl
theorem lay_fire {e b : Nat} {p : Int32} {M : Mem} (h4 : ¬ p = 4) (h3 : ¬ p = 3) : layM e b p M = ms M (e+6) b p := by
  rw [layM, if_neg h4, if_neg h3]
theorem lay_heap {e b : Nat} {M : Mem} : layM e b 3 M = ms (ms M (e+6) b 3) (e+5) b (nI 0) := by
  rw [layM, if_neg (by decide), if_pos rfl]; rfl
theorem ST_fire {e c cc p m A B : Nat} {M R : Mem} {x : Nat} (hc : c ≤ 10) (hx : x < c) {q : Int32} (h4 : ¬ q = 4) (h3 : ¬ q = 3) (hV : ST e c cc p m A B M R) : ST e c cc p m A B (layM e x q M) (mPutM x q R) := by
  rw [lay_fire h4 h3, put_fire h4 h3]
  exact ST_place hc hx q hV
theorem ST_heap {e c cc p m A B : Nat} {M R : Mem} {x : Nat} (hc : c ≤ 10) (hx : x < c) (hV : ST e c cc p m A B M R) : ST e c cc p m A B (layM e x 3 M) (mPutM x 3 R) := by
  rw [lay_heap, put_heap]
  exact ST_age hc hx (Nat.zero_le _) (ST_place hc hx 3 hV)
theorem ST_gone {e c cc p m A B : Nat} {M R : Mem} {x : Nat} (hc : c ≤ 10) (hx : x < c) (hV : ST e c cc p m A B M R) : ST e c cc p m A B (ms (layM e x 4 M) e 12 (M e 12 + layV e x 4 M)) (mGoesM x R) := by
  obtain ⟨hb, h8, h11, s5, h13, h9, h7, h6, h5, hcr, hd, hc1, hc7, h4, h10, h12, h14, hs, s1, s2, s0, s4, sd, sg, sa, s9, s8, s6, sm⟩ := hV
  have hbx := hb x hx
  unfold mGoesM layM layV
  rw [if_pos rfl, if_pos rfl]
  refine ⟨fun b zb => by
    by_cases q : b = x
    · subst q
      (refine ⟨?_, ?_, ?_, ?_, ?_⟩ <;> (try simp (disch := omega) only [ms_k, ms_j, ms_s]) <;> first | done | rfl | exact (hb b zb).1 | exact (hb b zb).2.1 | exact (hb b zb).2.2.1 | exact (hb b zb).2.2.2.1 | exact (hb b zb).2.2.2.2)
    · (refine ⟨?_, ?_, ?_, ?_, ?_⟩ <;> (try simp (disch := omega) only [ms_k, ms_j, ms_s]) <;> first | done | rfl | exact (hb b zb).1 | exact (hb b zb).2.1 | exact (hb b zb).2.2.1 | exact (hb b zb).2.2.2.1 | exact (hb b zb).2.2.2.2),
    by ((try simp (disch := omega) only [ms_k, ms_j, ms_s]) <;> first | done | rfl | exact h8),
    by ((try simp (disch := omega) only [ms_k, ms_j, ms_s]) <;> first | done | rfl | exact h11),
    by ((try simp (disch := omega) only [ms_k, ms_j, ms_s]) <;> first | done | rfl | exact s5),
    by ((try simp (disch := omega) only [ms_k, ms_j, ms_s]) <;> first | done | rfl | exact h13),
    by ((try simp (disch := omega) only [ms_k, ms_j, ms_s]) <;> first | done | rfl | exact h9),
    by ((try simp (disch := omega) only [ms_k, ms_j, ms_s]) <;> first | done | rfl | exact h7),
    by ((try simp (disch := omega) only [ms_k, ms_j, ms_s]) <;> first | done | rfl | exact h6),
    by ((try simp (disch := omega) only [ms_k, ms_j, ms_s]) <;> first | done | rfl | exact h5),
    fun i zi => by (refine ⟨?_, ?_, ?_⟩ <;> (try simp (disch := omega) only [ms_k, ms_j, ms_s]) <;> first | done | rfl | exact (hcr i zi).1 | exact (hcr i zi).2.1 | exact (hcr i zi).2.2),
    fun k zk => by ((try simp (disch := omega) only [ms_k, ms_j, ms_s]) <;> first | done | rfl | exact (hd k zk)),
    by ((try simp (disch := omega) only [ms_k, ms_j, ms_s]) <;> first | done | rfl | exact hc1),
    by ((try simp (disch := omega) only [ms_k, ms_j, ms_s]) <;> first | done | rfl | exact hc7),
    by ((try simp (disch := omega) only [ms_k, ms_j, ms_s]) <;> first | done | rfl | exact h4),
    by ((try simp (disch := omega) only [ms_k, ms_j, ms_s]) <;> first | done | rfl | exact h10),
    by try simp (disch := omega) only [ms_k, ms_j, ms_s]; rw [h12, hbx.2.1],
    by ((try simp (disch := omega) only [ms_k, ms_j, ms_s]) <;> first | done | rfl | exact h14),
    fun k zk => by ((try simp (disch := omega) only [ms_k, ms_j, ms_s]) <;> first | done | rfl | exact (hs k zk)),
    by ((try simp (disch := omega) only [ms_k, ms_j, ms_s]) <;> first | done | rfl | exact s1),
    by ((try simp (disch := omega) only [ms_k, ms_j, ms_s]) <;> first | done | rfl | exact s2),
    by ((try simp (disch := omega) only [ms_k, ms_j, ms_s]) <;> first | done | rfl | exact s0),
    by ((try simp (disch := omega) only [ms_k, ms_j, ms_s]) <;> first | done | rfl | exact s4),
    fun k zk => by ((try simp (disch := omega) only [ms_k, ms_j, ms_s]) <;> first | done | rfl | exact (sd k zk)),
    fun b zb => by
    by_cases q : b = x
    · subst q
      (try simp (disch := omega) only [ms_k, ms_j, ms_s]) <;> exact ⟨0, by decide, rfl⟩
    · ((try simp (disch := omega) only [ms_k, ms_j, ms_s]) <;> first | done | rfl | exact (sg b zb)),
    fun b zb => by ((try simp (disch := omega) only [ms_k, ms_j, ms_s]) <;> first | done | rfl | exact (sa b zb)),
    by ((try simp (disch := omega) only [ms_k, ms_j, ms_s]) <;> first | done | rfl | exact s9),
    by ((try simp (disch := omega) only [ms_k, ms_j, ms_s]) <;> first | done | rfl | exact s8),
    by ((try simp (disch := omega) only [ms_k, ms_j, ms_s]) <;> first | done | rfl | exact s6),
    fun i zi => by ((try simp (disch := omega) only [ms_k, ms_j, ms_s]) <;> first | done | rfl | exact (sm i zi))⟩
theorem nI1 (c : Nat) : nI (c + 1) = nI (c + 1) := rfl
theorem ST_newB {e c cc p m A B : Nat} {M R : Mem} (hc : c < 10) (k r q : Int32) (hV : ST e c cc p m A B M R) : ST e (c + 1) cc p m A B (ms (ms (ms (ms (ms (ms M (e+2) c k) (e+3) c 9) (e+4) c r) (e+5) c 0) (e+6) c q) (e+1) 5 (nI (c+1))) (mNewM c k r q R) := by
  obtain ⟨hb, h8, h11, s5, h13, h9, h7, h6, h5, hcr, hd, hc1, hc7, h4, h10, h12, h14, hs, s1, s2, s0, s4, sd, sg, sa, s9, s8, s6, sm⟩ := hV
  unfold mNewM
  refine ⟨fun b zb => by
    by_cases q : b = c
    · subst q
      (refine ⟨?_, ?_, ?_, ?_, ?_⟩ <;> (try simp (disch := omega) only [ms_k, ms_j, ms_s]) <;> first | done | rfl)
    · have zb : b < c := by omega
      (refine ⟨?_, ?_, ?_, ?_, ?_⟩ <;> (try simp (disch := omega) only [ms_k, ms_j, ms_s]) <;> first | done | rfl | exact (hb b zb).1 | exact (hb b zb).2.1 | exact (hb b zb).2.2.1 | exact (hb b zb).2.2.2.1 | exact (hb b zb).2.2.2.2),
    by ((try simp (disch := omega) only [ms_k, ms_j, ms_s]) <;> first | done | rfl | exact h8),
    by ((try simp (disch := omega) only [ms_k, ms_j, ms_s]) <;> first | done | rfl | exact h11),
    by ((try simp (disch := omega) only [ms_k, ms_j, ms_s]) <;> first | done | rfl | exact s5),
    by ((try simp (disch := omega) only [ms_k, ms_j, ms_s]) <;> first | done | rfl | exact h13),
    by ((try simp (disch := omega) only [ms_k, ms_j, ms_s]) <;> first | done | rfl | exact h9),
    by ((try simp (disch := omega) only [ms_k, ms_j, ms_s]) <;> first | done | rfl | exact h7),
    by ((try simp (disch := omega) only [ms_k, ms_j, ms_s]) <;> first | done | rfl | exact h6),
    by ((try simp (disch := omega) only [ms_k, ms_j, ms_s]) <;> first | done | rfl | exact h5),
    fun i zi => by (refine ⟨?_, ?_, ?_⟩ <;> (try simp (disch := omega) only [ms_k, ms_j, ms_s]) <;> first | done | rfl | exact (hcr i zi).1 | exact (hcr i zi).2.1 | exact (hcr i zi).2.2),
    fun k zk => by ((try simp (disch := omega) only [ms_k, ms_j, ms_s]) <;> first | done | rfl | exact (hd k zk)),
    by (try simp (disch := omega) only [ms_k, ms_j, ms_s]) <;> first | done | rfl,
    by ((try simp (disch := omega) only [ms_k, ms_j, ms_s]) <;> first | done | rfl | exact hc7),
    by ((try simp (disch := omega) only [ms_k, ms_j, ms_s]) <;> first | done | rfl | exact h4),
    by ((try simp (disch := omega) only [ms_k, ms_j, ms_s]) <;> first | done | rfl | exact h10),
    by ((try simp (disch := omega) only [ms_k, ms_j, ms_s]) <;> first | done | rfl | exact h12),
    by ((try simp (disch := omega) only [ms_k, ms_j, ms_s]) <;> first | done | rfl | exact h14),
    fun k zk => by ((try simp (disch := omega) only [ms_k, ms_j, ms_s]) <;> first | done | rfl | exact (hs k zk)),
    by (try simp (disch := omega) only [ms_k, ms_j, ms_s]) <;> first | done | rfl,
    by ((try simp (disch := omega) only [ms_k, ms_j, ms_s]) <;> first | done | rfl | exact s2),
    by ((try simp (disch := omega) only [ms_k, ms_j, ms_s]) <;> first | done | rfl | exact s0),
    by ((try simp (disch := omega) only [ms_k, ms_j, ms_s]) <;> first | done | rfl | exact s4),
    fun k zk => by ((try simp (disch := omega) only [ms_k, ms_j, ms_s]) <;> first | done | rfl | exact (sd k zk)),
    fun b zb => by
    by_cases q : b = c
    · subst q
      (try simp (disch := omega) only [ms_k, ms_j, ms_s]) <;> exact ⟨9, by decide, rfl⟩
    · have zb : b < c := by omega
      ((try simp (disch := omega) only [ms_k, ms_j, ms_s]) <;> first | done | rfl | exact (sg b zb)),
    fun b zb => by
    by_cases q : b = c
    · subst q
      (try simp (disch := omega) only [ms_k, ms_j, ms_s]) <;> exact ⟨0, by omega, rfl⟩
    · have zb : b < c := by omega
      ((try simp (disch := omega) only [ms_k, ms_j, ms_s]) <;> first | done | rfl | exact (sa b zb)),
    by ((try simp (disch := omega) only [ms_k, ms_j, ms_s]) <;> first | done | rfl | exact s9),
    by ((try simp (disch := omega) only [ms_k, ms_j, ms_s]) <;> first | done | rfl | exact s8),
    by ((try simp (disch := omega) only [ms_k, ms_j, ms_s]) <;> first | done | rfl | exact s6),
    fun i zi => by ((try simp (disch := omega) only [ms_k, ms_j, ms_s]) <;> first | done | rfl | exact (sm i zi))⟩
theorem ST_newC {e c cc p m A B : Nat} {M R : Mem} (hc : c ≤ 10) (hcc : cc < 12) (co mi : Int32) {ma : Nat} (hma : ma ≤ 400) (hV : ST e c cc p m A B M R) : ST e c (cc + 1) p m A B (cAddM e cc co mi (nI ma) M) (mNewC cc co mi (nI ma) R) := by
  obtain ⟨hb, h8, h11, s5, h13, h9, h7, h6, h5, hcr, hd, hc1, hc7, h4, h10, h12, h14, hs, s1, s2, s0, s4, sd, sg, sa, s9, s8, s6, sm⟩ := hV
  unfold mNewC cAddM
  refine ⟨fun b zb => by (refine ⟨?_, ?_, ?_, ?_, ?_⟩ <;> (try simp (disch := omega) only [ms_k, ms_j, ms_s]) <;> first | done | rfl | exact (hb b zb).1 | exact (hb b zb).2.1 | exact (hb b zb).2.2.1 | exact (hb b zb).2.2.2.1 | exact (hb b zb).2.2.2.2),
    by ((try simp (disch := omega) only [ms_k, ms_j, ms_s]) <;> first | done | rfl | exact h8),
    by ((try simp (disch := omega) only [ms_k, ms_j, ms_s]) <;> first | done | rfl | exact h11),
    by ((try simp (disch := omega) only [ms_k, ms_j, ms_s]) <;> first | done | rfl | exact s5),
    by ((try simp (disch := omega) only [ms_k, ms_j, ms_s]) <;> first | done | rfl | exact h13),
    by ((try simp (disch := omega) only [ms_k, ms_j, ms_s]) <;> first | done | rfl | exact h9),
    by ((try simp (disch := omega) only [ms_k, ms_j, ms_s]) <;> first | done | rfl | exact h7),
    by ((try simp (disch := omega) only [ms_k, ms_j, ms_s]) <;> first | done | rfl | exact h6),
    by ((try simp (disch := omega) only [ms_k, ms_j, ms_s]) <;> first | done | rfl | exact h5),
    fun i zi => by
    by_cases q : i = cc
    · subst q
      (refine ⟨?_, ?_, ?_⟩ <;> (try simp (disch := omega) only [ms_k, ms_j, ms_s]) <;> first | done | rfl)
    · have zi : i < cc := by omega
      (refine ⟨?_, ?_, ?_⟩ <;> (try simp (disch := omega) only [ms_k, ms_j, ms_s]) <;> first | done | rfl | exact (hcr i zi).1 | exact (hcr i zi).2.1 | exact (hcr i zi).2.2),
    fun k zk => by ((try simp (disch := omega) only [ms_k, ms_j, ms_s]) <;> first | done | rfl | exact (hd k zk)),
    by ((try simp (disch := omega) only [ms_k, ms_j, ms_s]) <;> first | done | rfl | exact hc1),
    by (try simp (disch := omega) only [ms_k, ms_j, ms_s]) <;> first | done | rfl,
    by ((try simp (disch := omega) only [ms_k, ms_j, ms_s]) <;> first | done | rfl | exact h4),
    by ((try simp (disch := omega) only [ms_k, ms_j, ms_s]) <;> first | done | rfl | exact h10),
    by ((try simp (disch := omega) only [ms_k, ms_j, ms_s]) <;> first | done | rfl | exact h12),
    by ((try simp (disch := omega) only [ms_k, ms_j, ms_s]) <;> first | done | rfl | exact h14),
    fun k zk => by ((try simp (disch := omega) only [ms_k, ms_j, ms_s]) <;> first | done | rfl | exact (hs k zk)),
    by ((try simp (disch := omega) only [ms_k, ms_j, ms_s]) <;> first | done | rfl | exact s1),
    by (try simp (disch := omega) only [ms_k, ms_j, ms_s]) <;> first | done | rfl,
    by ((try simp (disch := omega) only [ms_k, ms_j, ms_s]) <;> first | done | rfl | exact s0),
    by ((try simp (disch := omega) only [ms_k, ms_j, ms_s]) <;> first | done | rfl | exact s4),
    fun k zk => by ((try simp (disch := omega) only [ms_k, ms_j, ms_s]) <;> first | done | rfl | exact (sd k zk)),
    fun b zb => by ((try simp (disch := omega) only [ms_k, ms_j, ms_s]) <;> first | done | rfl | exact (sg b zb)),
    fun b zb => by ((try simp (disch := omega) only [ms_k, ms_j, ms_s]) <;> first | done | rfl | exact (sa b zb)),
    by ((try simp (disch := omega) only [ms_k, ms_j, ms_s]) <;> first | done | rfl | exact s9),
    by ((try simp (disch := omega) only [ms_k, ms_j, ms_s]) <;> first | done | rfl | exact s8),
    by ((try simp (disch := omega) only [ms_k, ms_j, ms_s]) <;> first | done | rfl | exact s6),
    fun i zi => by
    by_cases q : i = cc
    · subst q
      (try simp (disch := omega) only [ms_k, ms_j, ms_s]) <;> exact ⟨ma, hma, rfl⟩
    · have zi : i < cc := by omega
      ((try simp (disch := omega) only [ms_k, ms_j, ms_s]) <;> first | done | rfl | exact (sm i zi))⟩
theorem ST_M {e c cc p m A B : Nat} {M M' R : Mem} (h : ∀ a, e ≤ a → a < e + 13 → M' a = M a) (hV : ST e c cc p m A B M R) : ST e c cc p m A B M' R := by
  unfold ST
  rw [h e (by omega) (by omega), h (e+1) (by omega) (by omega), h (e+2) (by omega) (by omega), h (e+3) (by omega) (by omega), h (e+4) (by omega) (by omega), h (e+5) (by omega) (by omega), h (e+6) (by omega) (by omega), h (e+7) (by omega) (by omega), h (e+8) (by omega) (by omega), h (e+9) (by omega) (by omega), h (e+10) (by omega) (by omega), h (e+11) (by omega) (by omega), h (e+12) (by omega) (by omega)]
  exact hV
theorem ST_R {e c cc p m A B : Nat} {M R R' : Mem} (h : R' 63 = R 63) (hV : ST e c cc p m A B M R) : ST e c cc p m A B M R' := by
  unfold ST
  rw [h]
  exact hV
theorem ST_mono {e c cc p m A B A' B' : Nat} {M R : Mem} (hA : A ≤ A') (hB : B ≤ B') (hV : ST e c cc p m A B M R) : ST e c cc p m A' B' M R := by
  obtain ⟨hb, h8, h11, s5, h13, h9, h7, h6, h5, hcr, hd, hc1, hc7, h4, h10, h12, h14, hs, s1, s2, s0, s4, sd, sg, sa, s9, s8, s6, sm⟩ := hV
  exact ⟨hb, h8, h11, s5, h13, h9, h7, h6, h5, hcr, hd, hc1, hc7, h4, h10, h12, h14, hs, s1, s2, s0, s4, fun k zk => (sd k zk).elim fun d z => ⟨d, Nat.le_trans z.1 hB, z.2⟩, sg, fun b zb => (sa b zb).elim fun d z => ⟨d, Nat.le_trans z.1 hA, z.2⟩, s9, s8, s6, sm⟩
/-- who comes of a crowd -/
def coN (q d p : Nat) : Nat := q * (d + 1) / 11 - q * (d + 1) / 11 * p / 100
theorem come_I {q d p : Nat} (hq : q ≤ 400) (hd : d ≤ 9) (hp : p ≤ 99) : comeF (nI q) (nI d) (nI p) = nI (coN q d p) := by
  have b1 : q * (d + 1) ≤ 4000 := Nat.le_trans (Nat.mul_le_mul hq (show d + 1 ≤ 10 by omega)) (by decide)
  have b2 : q * (d + 1) / 11 ≤ 400 := by omega
  have b3 : q * (d + 1) / 11 * p ≤ 400 * 99 := Nat.mul_le_mul b2 hp
  have b4 : q * (d + 1) / 11 * p ≤ q * (d + 1) / 11 * 100 := Nat.mul_le_mul_left _ (by omega)
  have b5 : q * (d + 1) / 11 * p / 100 ≤ q * (d + 1) / 11 := by omega
  unfold comeF coN
  rw [nI_1, pk_mul, show (11 : Int32) = nI 11 from rfl, pk_div (by omega) (by decide) (by decide), pk_mul, show (100 : Int32) = nI 100 from rfl, pk_div (by omega) (by decide) (by decide), pk_sub b5]
theorem coN_le {q d p : Nat} (hq : q ≤ 400) (hd : d ≤ 9) : coN q d p ≤ 400 := by
  have b1 : q * (d + 1) ≤ 4000 := Nat.le_trans (Nat.mul_le_mul hq (show d + 1 ≤ 10 by omega)) (by decide)
  unfold coN
  omega
theorem ST_come {e c cc p m A B : Nat} {M R : Mem} (hp : p ≤ 99) (hV : ST e c cc p m A B M R) : ∀ i, i < cc → ∃ q, q ≤ 400 ∧ comeF (R 63 (70 + 3 * i + 2)) (R 63 6) (R 63 5) = nI q := by
  obtain ⟨hb, h8, h11, s5, h13, h9, h7, h6, h5, hcr, hd, hc1, hc7, h4, h10, h12, h14, hs, s1, s2, s0, s4, sd, sg, sa, s9, s8, s6, sm⟩ := hV
  intro i hi
  obtain ⟨q, hq, eq⟩ := sm i hi
  obtain ⟨d, hd9, ed⟩ := s6
  exact ⟨coN q d p, coN_le hq hd9, by rw [eq, ed, s5, come_I hq hd9 hp]⟩
theorem ST_RV {e c cc p m A B : Nat} {M R : Mem} (hp : p ≤ 99) (hV : ST e c cc p m A B M R) : RV e c cc p m M R := by
  have hcome := ST_come hp hV
  obtain ⟨hb, h8, h11, s5, h13, h9, h7, h6, h5, hcr, hd, hc1, hc7, h4, h10, h12, h14, hs, s1, s2, s0, s4, sd, sg, sa, s9, s8, s6, sm⟩ := hV
  exact ⟨⟨fun b zb => CB_of (hb b zb), h8, h11, s5⟩, ⟨h13, h9, h7, h6, h5, hcr, fun i hi => (hcome i hi).elim fun q z => ⟨q, by omega, z.2⟩⟩, hd, hc1, hc7, h4, h10, h12, h14, hs⟩
theorem ST_BR {e c cc p m A B : Nat} {M R : Mem} (hp : p ≤ 99) (hB : B ≤ 100000) (hV : ST e c cc p m A B M R) : BR c cc A m R := by
  have hcome := ST_come hp hV
  obtain ⟨hb, h8, h11, s5, h13, h9, h7, h6, h5, hcr, hd, hc1, hc7, h4, h10, h12, h14, hs, s1, s2, s0, s4, sd, sg, sa, s9, s8, s6, sm⟩ := hV
  exact ⟨⟨s1, s2, s0, s4, fun k zk => (sd k zk).elim fun d z => ⟨d, by omega, z.2⟩, fun i hi => (hcome i hi).elim fun q z => ⟨q, by omega, z.2⟩⟩, fun b zb => ⟨sg b zb, sa b zb⟩, s9⟩
theorem mMin_lo {c cc m j : Nat} {R : Mem} (hc : c ≤ 10) (h : j = 5 ∨ j = 6 ∨ j = 8) : mMin c cc m R 63 j = R 63 j := by
  rw [mMin, ms_j (by omega), x3M_j hc (by omega) (by omega) (by omega) (by omega) (by omega) (by omega), x1M_j (by omega) (by omega)]
theorem mMin_due {c cc m k : Nat} {R : Mem} (hc : c ≤ 10) (hk : k < 7) : mMin c cc m R 63 (13 + k) = if k = 6 then 0 else R 63 (13 + (k + 1)) := by
  rw [mMin, ms_j (by omega), x3M_j hc (by omega) (by omega) (by omega) (by omega) (by omega) (by omega), x1M, mWarmM, ms_j (by omega)]
  by_cases q : k = 6
  · subst q
    rw [if_pos rfl, show 13 + 6 = 19 from rfl, ms_s]
  · rw [if_neg q, ms_j (by omega), shG_v 6 0 _ (by omega) (by omega)]
    rfl
theorem ST_min {e c cc p m A B : Nat} {M R : Mem} (hc : c ≤ 10) (hp : p ≤ 99) (hA : A < 100000) (hB : B ≤ 100000) (hV : ST e c cc p m A B M R) : ST e c cc p (m + 1) (A + 1) B (minM e c cc p m M) (mMin c cc m R) := by
  obtain ⟨hv, hr⟩ := minute_rel hc hA (ST_RV hp hV) (ST_BR hp hB hV)
  obtain ⟨hb, h8, h11, s5, h13, h9, h7, h6, h5, hcr, hd, hc1, hc7, h4, h10, h12, h14, hs, s1, s2, s0, s4, sd, sg, sa, s9, s8, s6, sm⟩ := hV
  obtain ⟨⟨sb', h8', h11', sp'⟩, ⟨c13', c9', c7', c6', c5', ccr', cq'⟩, vd', v1', v7', v4', v10', v12', v14', vs'⟩ := hv
  obtain ⟨⟨w1, w2, w0, wh, wd, wq⟩, wb, ww⟩ := hr
  refine ⟨fun b zb => CB_col (sb' b zb), h8', h11', sp', c13', c9', c7', c6', c5', ccr', vd', v1', v7', v4', v10', v12', v14', vs', w1, w2, w0, wh, fun k zk => ?_, fun b zb => (wb b zb).1, fun b zb => (wb b zb).2, ww, ?_, ?_, fun i hi => ?_⟩
  · rw [mMin_due hc zk]
    by_cases q : k = 6
    · rw [if_pos q]; exact ⟨0, Nat.zero_le _, rfl⟩
    · rw [if_neg q]; exact sd (k + 1) (by omega)
  · rw [mMin_lo hc (by omega)]; exact s8
  · rw [mMin_lo hc (by omega)]; exact s6
  · rw [mMin_j hc (by omega)]; exact sm i hi
theorem ST_go {e c cc p : Nat} (hc : c ≤ 10) (hp : p ≤ 99) {B : Nat} (hB : B ≤ 100000) : ∀ (n m A : Nat) (M R : Mem), A + n ≤ 100000 → ST e c cc p m A B M R → ST e c cc p (m + n) (A + n) B (passG e c cc p n m M) (mGo c cc n m R) := by
  intro n
  induction n with
  | zero => intro m A M R hA hV; exact hV
  | succ n ih =>
    intro m A M R hA hV
    rw [show m + (n + 1) = m + 1 + n by omega, show A + (n + 1) = A + 1 + n by omega]
    exact ih (m + 1) (A + 1) _ _ (by omega) (ST_min hc hp (by omega) hB hV)
