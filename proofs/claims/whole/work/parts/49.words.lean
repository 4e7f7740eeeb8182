/-! Words: the letters' number to the base 32 tells the word; numbers capped at 1000 and at 9999 -/
def dgN (x : Int32) : Nat := x.toNatClampNeg - 96
theorem ok_L {x : Int32} (h : isL x = true) : ∃ d, (1 ≤ d ∧ d ≤ 26) ∧ x = nI (96 + d) ∧ dgN x = d := by
  have h1 := (rng_def.mp h).1
  have h2 := (rng_def.mp h).2
  obtain ⟨k, hk, rfl⟩ := of_rng (b := 122) (rng_def.mpr ⟨by omega, h2⟩)
  rw [nI_toInt (by omega)] at h1
  refine ⟨k - 96, by omega, by rw [show 96 + (k - 96) = k by omega], ?_⟩
  unfold dgN
  rw [nI_clamp (by omega)]
theorem ok_D {x : Int32} (h : isD x = true) : ∃ d, d ≤ 9 ∧ x = nI (48 + d) := by
  have h1 := (rng_def.mp h).1
  have h2 := (rng_def.mp h).2
  obtain ⟨k, hk, rfl⟩ := of_rng (b := 57) (rng_def.mpr ⟨by omega, h2⟩)
  rw [nI_toInt (by omega)] at h1
  exact ⟨k - 48, by omega, by rw [show 48 + (k - 48) = k by omega]⟩
def stp (l d : Nat) : Nat := if 36028797018963967 < l then l else 32 * l + d
def wN (f : Nat → Int32) : Nat → Nat → Nat → Nat
  | 0, _, l => l
  | n + 1, p, l => wN f n (p + 1) (stp l (dgN (f p)))
theorem stp_lt {l d : Nat} (hl : l < 2 ^ 61) (hd : d ≤ 26) : stp l d < 2 ^ 61 := by
  unfold stp
  split
  · exact hl
  · omega
theorem wG_N {f : Nat → Int32} : ∀ (n p l : Nat), (∀ q, p ≤ q → q < p + n → isL (f q) = true) → l < 2 ^ 61 → wG f n p (lN l) = lN (wN f n p l) ∧ wN f n p l < 2 ^ 61 := by
  intro n
  induction n with
  | zero => intro p l h hl; exact ⟨rfl, hl⟩
  | succ n ih =>
    intro p l h hl
    obtain ⟨d, hd, ed, gd⟩ := ok_L (h p (Nat.le_refl p) (by omega))
    have e : (if 36028797018963967 < lN l then lN l else 32 * lN l + (f p - 96).toInt64) = lN (stp l (dgN (f p))) := by
      rw [gd]
      unfold stp
      by_cases q : 36028797018963967 < l
      · rw [if_pos q, if_pos (show (36028797018963967 : Int64) < lN l from (pk_lLT (a := 36028797018963967) (b := l) (by decide) (by omega)).mpr q)]
      · rw [if_neg q, if_neg (show ¬ (36028797018963967 : Int64) < lN l from fun z => q ((pk_lLT (a := 36028797018963967) (b := l) (by decide) (by omega)).mp z)), ed, show nI (96 + d) - 96 = nI d from (pk_sub (a := 96 + d) (b := 96) (by omega)).trans (by rw [show 96 + d - 96 = d by omega]), nI_l (by omega), show (32 : Int64) * lN l = lN (32 * l) from lN_mul 32 l, lN_add]
    show wG f n (p + 1) (if 36028797018963967 < lN l then lN l else 32 * lN l + (f p - 96).toInt64) = lN (wN f n (p + 1) (stp l (dgN (f p)))) ∧ wN f n (p + 1) (stp l (dgN (f p))) < 2 ^ 61
    rw [e]
    exact ih (p + 1) _ (fun q h1 h2 => h q (by omega) (by omega)) (stp_lt hl (by omega))
theorem wN_snoc {f : Nat → Int32} : ∀ (n p l : Nat), wN f (n + 1) p l = stp (wN f n p l) (dgN (f (p + n))) := by
  intro n
  induction n with
  | zero => intro p l; rfl
  | succ n ih =>
    intro p l
    show wN f (n + 1) (p + 1) (stp l (dgN (f p))) = _
    rw [ih, show p + 1 + n = p + (n + 1) by omega]
    rfl
def cdR : List Nat → Nat
  | [] => 0
  | d :: t => 32 * cdR t + d
theorem wN_cd {f : Nat → Int32} {p : Nat} : ∀ (rl : List Nat), (∀ d ∈ rl, 1 ≤ d ∧ d ≤ 26) → cdR rl < 2 ^ 50 → ∀ n, (∀ q, q < n → isL (f (p + q)) = true) → (wN f n p 0 = cdR rl ↔ n = rl.length ∧ ∀ j, j < n → dgN (f (p + j)) = rl.getD (n - 1 - j) 0) := by
  intro rl
  induction rl with
  | nil =>
    intro hd hc n hL
    rcases n with _ | n
    · exact ⟨fun _ => ⟨rfl, fun j h => absurd h (Nat.not_lt_zero j)⟩, fun _ => rfl⟩
    · obtain ⟨d, hd1, -, gd⟩ := ok_L (hL n (by omega))
      rw [wN_snoc, gd]
      refine ⟨fun h => ?_, fun h => absurd h.1 (by simp)⟩
      exfalso
      unfold stp cdR at h
      split at h <;> omega
  | cons e t ih =>
    intro hd hc n hL
    have he := hd e List.mem_cons_self
    have hct : cdR t < 2 ^ 50 := by simp only [cdR] at hc; omega
    have ih' := ih (fun d h => hd d (List.mem_cons_of_mem _ h)) hct
    rcases n with _ | n
    · refine ⟨fun h => ?_, fun h => absurd h.1 (by simp)⟩
      exfalso
      simp only [wN, cdR] at h
      omega
    · obtain ⟨d, hd1, -, gd⟩ := ok_L (hL n (by omega))
      have ihn := ih' n (fun q h => hL q (by omega))
      have hx : (∀ j, j < n + 1 → dgN (f (p + j)) = (e :: t).getD (n + 1 - 1 - j) 0) ↔ (dgN (f (p + n)) = e ∧ ∀ j, j < n → dgN (f (p + j)) = t.getD (n - 1 - j) 0) := by
        constructor
        · intro h
          refine ⟨?_, fun j hj => ?_⟩
          · have := h n (by omega)
            rw [show n + 1 - 1 - n = 0 by omega] at this
            exact this
          · have := h j (by omega)
            rw [show n + 1 - 1 - j = (n - 1 - j) + 1 by omega] at this
            exact this
        · intro h j hj
          by_cases q : j = n
          · subst q
            rw [show j + 1 - 1 - j = 0 by omega]
            exact h.1
          · rw [show n + 1 - 1 - j = (n - 1 - j) + 1 by omega]
            exact h.2 j (by omega)
      rw [hx, wN_snoc, gd]
      simp only [List.length_cons]
      constructor
      · intro h
        unfold stp at h
        simp only [cdR] at h hc
        split at h
        · omega
        · obtain ⟨h1, h2⟩ := ihn.mp (show wN f n p 0 = cdR t by omega)
          exact ⟨by omega, by omega, h2⟩
      · intro h
        have h3 := ihn.mpr ⟨by omega, h.2.2⟩
        unfold stp
        simp only [cdR] at hc ⊢
        rw [h3, if_neg (by omega), h.2.1]
/-- the constants' numbers -/
def rlI (i : Nat) : List Nat := ((sByt.getD i []).map dgN).reverse
def cdI (i : Nat) : Nat := cdR (rlI i)
theorem rl_ok : ∀ i, i < 17 → (rlI i).length = sl i ∧ (rlI i).all (fun d => decide (1 ≤ d ∧ d ≤ 26)) = true ∧ cdI i < 2 ^ 50 ∧ 0 < cdI i := by decide +kernel
theorem rl_at : ∀ i, i < 17 → ∀ j, j < 6 → j < sl i → (rlI i).getD (sl i - 1 - j) 0 = dgN (sb i j) ∧ isL (sb i j) = true := by decide +kernel
theorem dg_eq {x y : Int32} (hx : isL x = true) (hy : isL y = true) : dgN x = dgN y ↔ x = y := by
  obtain ⟨a, ha, ea, ga⟩ := ok_L hx
  obtain ⟨b, hb, eb, gb⟩ := ok_L hy
  rw [ga, gb, ea, eb]
  exact ⟨fun h => by rw [h], fun h => by have := (nI_eq (by omega) (by omega)).mp h; omega⟩
theorem word_eq {f : Nat → Int32} {p n i : Nat} (hi : i < 17) (hL : ∀ q, q < n → isL (f (p + q)) = true) : wG f n p 0 = lN (cdI i) ↔ n = sl i ∧ ∀ j, j < sl i → f (p + j) = sb i j := by
  obtain ⟨r1, r2, r3, r4⟩ := rl_ok i hi
  have hl6 := (sl_le i hi).1
  obtain ⟨e1, e2⟩ := wG_N n p 0 (fun q h1 h2 => by have := hL (q - p) (by omega); rwa [show p + (q - p) = q by omega] at this) (by decide)
  rw [show (0 : Int64) = lN 0 from rfl, e1, pk_lEQ (by omega) (by omega)]
  show wN f n p 0 = cdR (rlI i) ↔ _
  rw [wN_cd (rlI i) (fun d h => of_decide_eq_true (List.all_eq_true.mp r2 d h)) r3 n hL, r1]
  constructor
  · intro h
    refine ⟨h.1, fun j hj => ?_⟩
    have := h.2 j (by omega)
    obtain ⟨q1, q2⟩ := rl_at i hi j (by omega) hj
    rw [h.1, q1] at this
    exact (dg_eq (hL j (by omega)) q2).mp this
  · intro h
    refine ⟨h.1, fun j hj => ?_⟩
    obtain ⟨q1, q2⟩ := rl_at i hi j (by omega) (by omega)
    rw [h.1, q1]
    exact (dg_eq (hL j (by omega)) q2).mpr (h.2 j (by omega))
/-- numbers -/
theorem nu_va {f : Nat → Int32} : ∀ (n q v : Nat), (∀ j, q ≤ j → j < q + n → isD (f j) = true) → v ≤ 9999 → ∃ v', v' ≤ 9999 ∧ nuG f n q (nI v) = nI v' ∧ vaG f n q (nI (if v < 1000 then v else 1000)) = nI (if v' < 1000 then v' else 1000) := by
  intro n
  induction n with
  | zero => intro q v h hv; exact ⟨v, hv, rfl, rfl⟩
  | succ n ih =>
    intro q v h hv
    obtain ⟨d, hd, ed⟩ := ok_D (h q (Nat.le_refl q) (by omega))
    have e2 : ∀ w, w ≤ 1000 → nI w * 10 + f q - 48 = nI (w * 10 + d) := fun w hw => by
      rw [ed, show nI w * 10 = nI (w * 10) from pk_mul w 10, nI_add]
      exact (pk_sub (a := w * 10 + (48 + d)) (b := 48) (by omega)).trans (by rw [show w * 10 + (48 + d) - 48 = w * 10 + d by omega])
    have e3 : nI v ≤ nI 9999 := nI_le hv (by decide)
    have hL : ∀ j, q + 1 ≤ j → j < q + 1 + n → isD (f j) = true := fun j h1 h2 => h j (by omega) (by omega)
    by_cases z : v < 1000
    · have z1 : ¬ (999 : Int32) < nI v := fun y => by have := (nI_ltI (a := 999) (b := v) (by decide) (by omega)).mp y; omega
      have e1 : (if (999 : Int32) < nI v then nI v else 10 * nI v + f q - 48) = nI (v * 10 + d) := by
        rw [if_neg z1, Int32.mul_comm]
        exact e2 v (by omega)
      have e4 : (if nI v * 10 + f q - 48 < 1000 then nI v * 10 + f q - 48 else 1000) = nI (if v * 10 + d < 1000 then v * 10 + d else 1000) := by
        rw [e2 v (by omega)]
        by_cases y : v * 10 + d < 1000
        · rw [if_pos y, if_pos (show nI (v * 10 + d) < 1000 from (nI_ltI (a := v * 10 + d) (b := 1000) (by omega) (by decide)).mpr y)]
        · rw [if_neg y, if_neg (show ¬ nI (v * 10 + d) < 1000 from fun x => y ((nI_ltI (a := v * 10 + d) (b := 1000) (by omega) (by decide)).mp x))]
          rfl
      rw [if_pos z]
      obtain ⟨v', h1, h2, h3⟩ := ih (q + 1) (v * 10 + d) hL (by omega)
      refine ⟨v', h1, ?_, ?_⟩
      · simp only [nuG]; rw [e1]; exact h2
      · simp only [vaG]; rw [e4]; exact h3
    · have z1 : (999 : Int32) < nI v := (nI_ltI (a := 999) (b := v) (by decide) (by omega)).mpr (by omega)
      have e4 : (if nI 1000 * 10 + f q - 48 < 1000 then nI 1000 * 10 + f q - 48 else 1000) = nI 1000 := by
        rw [e2 1000 (by omega), if_neg (show ¬ nI (1000 * 10 + d) < 1000 from fun x => by have := (nI_ltI (a := 1000 * 10 + d) (b := 1000) (by omega) (by decide)).mp x; omega)]
        rfl
      rw [if_neg z]
      obtain ⟨v', h1, h2, h3⟩ := ih (q + 1) v hL hv
      rw [if_neg z] at h3
      refine ⟨v', h1, ?_, ?_⟩
      · simp only [nuG]; rw [if_pos z1]; exact h2
      · simp only [vaG]; rw [e4]; exact h3
/-- all bytes of a word are letters, of a number digits -/
theorem en_all {t : Nat} {f : Nat → Int32} {l d : Bool} : ∀ (n p q : Nat), p ≤ q → q < enG t f l d n p → q < t ∧ ((l = true ∧ isL (f q) = true) ∨ (d = true ∧ isD (f q) = true)) := by
  intro n
  induction n with
  | zero => intro p q h1 h2; exact absurd h2 (by show ¬ q < p; omega)
  | succ n ih =>
    intro p q h1 h2
    by_cases z : (l = true ∧ isL (bA t f p) = true) ∨ (d = true ∧ isD (bA t f p) = true)
    · rw [en_1 z] at h2
      have hp : p < t := by
        rcases Nat.lt_or_ge p t with y | y
        · exact y
        · rw [bA_t y] at z
          rcases z with z | z
          · exact absurd z.2 (by decide)
          · exact absurd z.2 (by decide)
      rw [bA_p hp] at z
      by_cases y : q = p
      · subst y; exact ⟨hp, z⟩
      · exact ih (p + 1) q (by omega) h2
    · rw [en_0 z] at h2
      omega
/-- in step: the class's token and the reference's -/
def SY (t p : Nat) (M R : Mem) : Prop := p ≤ t ∧ M 54 1 = nI t ∧ M 54 2 = nI p ∧ M 54 3 = nI (teG t (R 67) p) ∧ M 54 4 = tyF t (R 67) p ∧ (p < t → isD (R 67 p) = true → M 54 5 = vaG (R 67) (teG t (R 67) p - p) p 0) ∧ M 55 = R 67 ∧ R 62 6 = nI t ∧ R 62 7 = nI p ∧ R 62 8 = nI (teG t (R 67) p) ∧ R 62 10 = 0
theorem SY_TK {t p : Nat} {M R : Mem} (h : SY t p M R) : TK t R := by
  obtain ⟨hp, -, -, -, -, -, -, r6, r7, r8, r10⟩ := h
  exact ⟨r6, ⟨p, teG t (R 67) p, te_ge, te_le hp, fun q => te_gt q, r7, r8⟩, .inl r10⟩
theorem SY_word {t p : Nat} (ht : t ≤ 120) {M R : Mem} (h : SY t p M R) {i : Nat} (hi : i < 17) : iwP i p M = true ↔ wdF t R = lN (cdI i) := by
  obtain ⟨hp, m1, m2, m3, m4, m5, m55, r6, r7, r8, r10⟩ := h
  obtain ⟨q1, q2, q3, q4⟩ := rl_ok i hi
  have hte : teG t (R 67) p ≤ t := te_le hp
  have hge : p ≤ teG t (R 67) p := te_ge
  unfold wdF iwP
  rw [decide_eq_true_iff, r7, r8, nI_clamp (by omega), nI_clamp (by omega), m2, m3, pk_sub hge, m4, m55]
  by_cases hlt : p < t
  · rw [bA_p hlt]
    by_cases hL : isL (R 67 p) = true
    · rw [if_pos ⟨r10, hL⟩, word_eq hi (fun q hq => by
        have := en_all 121 p (p + q) (by omega) (by rw [← te_L ht hlt hL]; omega)
        rcases this.2 with z | z
        · exact z.2
        · exact absurd z.1 (by decide))]
      constructor
      · intro z
        exact ⟨(nI_eq (by omega) (by have := (sl_le i hi).1; omega)).mp z.2.1, z.2.2⟩
      · intro z
        refine ⟨?_, by rw [z.1], z.2⟩
        rw [tyF, if_neg (by omega), if_pos hL]
    · rw [if_neg (fun z => hL z.2)]
      refine ⟨fun z => ?_, fun z => ?_⟩
      · exfalso
        have := z.1
        rw [tyF, if_neg (by omega), if_neg hL] at this
        split at this
        · exact absurd this (by decide)
        · split at this <;> exact absurd this (by decide)
      · exfalso
        have := (pk_lEQ (a := 0) (b := cdI i) (by decide) (by omega)).mp z
        omega
  · rw [bA_t (by omega), if_neg (fun z => absurd z.2 (by decide))]
    refine ⟨fun z => ?_, fun z => ?_⟩
    · exfalso
      have := z.1
      rw [tyF, if_pos (by omega)] at this
      exact absurd this (by decide)
    · exfalso
      have := (pk_lEQ (a := 0) (b := cdI i) (by decide) (by omega)).mp z
      omega
theorem st4_k {M : Mem} {a b c d : Int32} {k : Nat} (h : k ≠ 54) : st4 M a b c d k = M k := by
  unfold st4
  rw [ms_k h, ms_k h, ms_k h, ms_k h]
theorem st4_2 {M : Mem} {a b c d : Int32} : st4 M a b c d 54 2 = a ∧ st4 M a b c d 54 3 = b ∧ st4 M a b c d 54 4 = c ∧ st4 M a b c d 54 5 = d ∧ st4 M a b c d 54 1 = M 54 1 := by
  unfold st4
  refine ⟨?_, ?_, ?_, ?_, ?_⟩ <;> simp (disch := decide) only [ms_j, ms_s]
theorem stC_k {t k : Nat} {M : Mem} (h : k ≠ 54) : stC t M k = M k := st4_k h
theorem tok_67 {t : Nat} {R : Mem} : tokM t R 67 = R 67 := tok_k (by decide)
/-- both go on to the next token -/
theorem step_tok {t r : Nat} (ht : t ≤ 120) (hr : r ≤ t) {M R : Mem} (m1 : M 54 1 = nI t) (m3 : M 54 3 = nI r) (m55 : M 55 = R 67) (r6 : R 62 6 = nI t) (r8 : R 62 8 = nI r) (r10 : R 62 10 = 0) : ∃ p', SY t p' (stC t M) (tokM t R) ∧ skN t M = p' := by
  have ek : skN t M = skG t (R 67) 121 r := by rw [skN, m3, m55, nI_clamp (by omega)]
  have er : (R 62 8).toNatClampNeg = r := by rw [r8, nI_clamp (by omega)]
  have hp' : skG t (R 67) 121 r ≤ t := sk_le _ _ hr
  refine ⟨skG t (R 67) 121 r, ⟨hp', ?_, ?_, ?_, ?_, fun hlt hD => ?_, ?_, ?_, ?_, ?_, ?_⟩, ek⟩
  · rw [stC, st4_2.2.2.2.2]; exact m1
  · rw [stC, st4_2.1, ek]
  · rw [stC, st4_2.2.1, ek, m55, tok_67]
  · rw [stC, st4_2.2.2.1, ek, m55, tok_67]
  · rw [tok_67] at hD ⊢
    rw [stC, st4_2.2.2.2.1, ek, m55, if_pos ⟨hlt, hD⟩]
  · rw [stC_k (by decide), tok_67]; exact m55
  · rw [tokM, ms_j (by decide), ms_j (by decide)]; exact r6
  · rw [tokM, ms_j (by decide), ms_s, er]
  · rw [tokM, ms_s, er]; rfl
  · rw [tokM, ms_j (by decide), ms_j (by decide)]; exact r10
theorem SY_next {t p : Nat} (ht : t ≤ 120) {M R : Mem} (h : SY t p M R) : ∃ p', SY t p' (stC t M) (tokM t R) := by
  obtain ⟨hp, m1, m2, m3, m4, m5, m55, r6, r7, r8, r10⟩ := h
  obtain ⟨p', h1, -⟩ := step_tok ht (te_le hp) m1 m3 m55 r6 r8 r10
  exact ⟨p', h1⟩
/-- other cells don't matter -/
theorem SY_cells {t p : Nat} {M M' R R' : Mem} (h1 : M' 54 = M 54) (h2 : M' 55 = M 55) (h3 : ∀ j, j ≠ 9 → R' 62 j = R 62 j) (h4 : R' 67 = R 67) (h : SY t p M R) : SY t p M' R' := by
  unfold SY
  rw [h1, h2, h3 6 (by decide), h3 7 (by decide), h3 8 (by decide), h3 10 (by decide), h4]
  exact h
