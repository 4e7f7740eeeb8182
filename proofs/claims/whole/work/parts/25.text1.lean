/-! The reference's text: bytes, tokens, words, numbers -/
theorem ms_id {M : Mem} {k j : Nat} {v : Int32} (h : M k j = v) : ms M k j v = M := by
  funext a b
  by_cases ha : a = k
  · subst ha
    by_cases hb : b = j
    · subst hb; rw [ms_s, h]
    · rw [ms_j hb]
  · rw [ms_k ha]
theorem ms_ms {M : Mem} {k j : Nat} {v w : Int32} : ms (ms M k j v) k j w = ms M k j w := by
  funext a b
  by_cases ha : a = k
  · subst ha
    by_cases hb : b = j
    · subst hb; rw [ms_s, ms_s]
    · rw [ms_j hb, ms_j hb, ms_j hb]
  · rw [ms_k ha, ms_k ha, ms_k ha]
def bA (t : Nat) (f : Nat → Int32) (p : Nat) : Int32 := if p < t then f p else -1
def isL (x : Int32) : Bool := rng 97 122 x
def isD (x : Int32) : Bool := rng 48 57 x
def skG (t : Nat) (f : Nat → Int32) : Nat → Nat → Nat
  | 0, p => p
  | n + 1, p => if bA t f p = 32 then skG t f n (p + 1) else p
def enG (t : Nat) (f : Nat → Int32) (l d : Bool) : Nat → Nat → Nat
  | 0, p => p
  | n + 1, p => if (l = true ∧ isL (bA t f p) = true) ∨ (d = true ∧ isD (bA t f p) = true) then enG t f l d n (p + 1) else p
def teG (t : Nat) (f : Nat → Int32) (p : Nat) : Nat := enG t f (isL (bA t f p)) (isD (bA t f p)) 121 (if p < t then p + 1 else p)
def tokM (t : Nat) (M : Mem) : Mem := ms (ms M 62 7 (nI (skG t (M 67) 121 (M 62 8).toNatClampNeg))) 62 8 (nI (teG t (M 67) (skG t (M 67) 121 (M 62 8).toNatClampNeg)))
theorem bA_t {t p : Nat} {f : Nat → Int32} (h : t ≤ p) : bA t f p = -1 := if_neg (by omega)
theorem sk_le {t : Nat} {f : Nat → Int32} : ∀ (n p : Nat), p ≤ t → skG t f n p ≤ t := by
  intro n
  induction n with
  | zero => intro p h; exact h
  | succ n ih =>
    intro p h
    simp only [skG]
    split
    · next q =>
      rcases Nat.lt_or_ge p t with r | r
      · exact ih _ (by omega)
      · rw [bA_t r] at q; exact absurd q (by decide)
    · exact h
theorem sk_ge {t : Nat} {f : Nat → Int32} : ∀ (n p : Nat), p ≤ skG t f n p := by
  intro n
  induction n with
  | zero => intro p; exact Nat.le_refl p
  | succ n ih =>
    intro p
    simp only [skG]
    split
    · exact Nat.le_trans (Nat.le_succ p) (ih _)
    · exact Nat.le_refl p
theorem en_le {t : Nat} {f : Nat → Int32} {l d : Bool} : ∀ (n p : Nat), p ≤ t → enG t f l d n p ≤ t := by
  intro n
  induction n with
  | zero => intro p h; exact h
  | succ n ih =>
    intro p h
    simp only [enG]
    split
    · next q =>
      rcases Nat.lt_or_ge p t with r | r
      · exact ih _ (by omega)
      · rw [bA_t r] at q
        rcases q with q | q
        · exact absurd q.2 (by decide)
        · exact absurd q.2 (by decide)
    · exact h
theorem en_ge {t : Nat} {f : Nat → Int32} {l d : Bool} : ∀ (n p : Nat), p ≤ enG t f l d n p := by
  intro n
  induction n with
  | zero => intro p; exact Nat.le_refl p
  | succ n ih =>
    intro p
    simp only [enG]
    split
    · exact Nat.le_trans (Nat.le_succ p) (ih _)
    · exact Nat.le_refl p
theorem te_le {t p : Nat} {f : Nat → Int32} (h : p ≤ t) : teG t f p ≤ t := en_le _ _ (by split <;> omega)
theorem te_ge {t p : Nat} {f : Nat → Int32} : p ≤ teG t f p := Nat.le_trans (by split <;> omega) (en_ge _ _)
theorem te_gt {t p : Nat} {f : Nat → Int32} (h : p < t) : p < teG t f p := Nat.lt_of_lt_of_le (by rw [if_pos h]; omega) (en_ge 121 (if p < t then p + 1 else p))
theorem v_X9_byteAt {t p : Nat} (ht : t ≤ 120) (hp : p ≤ 200) (M : Mem) (h6 : M 62 6 = nI t) : V m_X9_byteAt 0 [(0, .ref 62), (1, .int (nI p))] [] M (RT (some (.int (bA t (M 67) p))) M) := by
  refine V.iload_n dX9_byteAt_0 rfl rfl rfl ?_
  refine V.aload_n dX9_byteAt_1 rfl rfl rfl ?_
  refine V.geti (v := nI t) dX9_byteAt_2 fg_X9_218 rfl rfl h6 rfl ?_
  refine V.icmp_ge (tgt := 17) dX9_byteAt_5 rfl rfl (fun c5 => ?_) (fun c5 => ?_)
  · have c5 : t ≤ p := (nI_leI (a := t) (b := p) (by omega) (by omega)).mp c5
    refine V.iconst (v := -1) dX9_byteAt_17 rfl rfl ?_
    exact V.ret dX9_byteAt_18 rfl rfl ⟨(by simp only [bA]; first | rw [if_pos (by omega)] | rw [if_neg (by omega)]), rfl⟩
  · have c5 : ¬ t ≤ p := fun zq => c5 ((nI_leI (a := t) (b := p) (by omega) (by omega)).mpr zq)
    refine V.aload_n dX9_byteAt_8 rfl rfl rfl ?_
    refine V.getr dX9_byteAt_9 fg_X9_22 rfl rfl rfl ?_
    refine V.iload_n dX9_byteAt_12 rfl rfl rfl ?_
    refine V.ialdN (j := p) (v := M 67 p) dX9_byteAt_13 rfl (by omega) (by decide) rfl rfl rfl ?_
    refine V.goto (pc' := 18) dX9_byteAt_14 rfl ?_
    exact V.ret dX9_byteAt_18 rfl rfl ⟨(by simp only [bA]; first | rw [if_pos (by omega)] | rw [if_neg (by omega)]), rfl⟩
theorem v_X9_isLetter (x : Int32) (M : Mem) : V m_X9_isLetter 0 [(0, .int x)] [] M (RT (some (.int (if isL x then 1 else 0))) M) := by
  refine V.iload_n dX9_isLetter_0 rfl rfl rfl ?_
  refine V.i2l (v := Int32.toInt64 x) dX9_isLetter_1 rfl rfl ?_
  refine V.ldc2 (v := 97) dX9_isLetter_2 cl_X9_222 rfl ?_
  refine V.ldc2 (v := 122) dX9_isLetter_5 cl_X9_224 rfl ?_
  refine V.calls_i (M1 := M) (v := if rng 97 122 x then 1 else 0) (md' := m_X9_in) (As := [.long (Int32.toInt64 x), .long 97, .long 122]) (rest := []) dX9_isLetter_8 ml_X9_38 mo_X9_in ⟨Nat.le_of_ble_eq_true rfl, Nat.le_of_ble_eq_true rfl⟩ (Nat.le_of_ble_eq_true rfl) rfl rfl (Nat.le_of_ble_eq_true rfl) (v_X9_in (x := x) (a := 97) (b := 122) rfl rfl _) rfl ?_
  exact V.ret dX9_isLetter_11 rfl (nb_if _) ⟨rfl, rfl⟩
theorem v_X9_isDigit (x : Int32) (M : Mem) : V m_X9_isDigit 0 [(0, .int x)] [] M (RT (some (.int (if isD x then 1 else 0))) M) := by
  refine V.iload_n dX9_isDigit_0 rfl rfl rfl ?_
  refine V.i2l (v := Int32.toInt64 x) dX9_isDigit_1 rfl rfl ?_
  refine V.ldc2 (v := 48) dX9_isDigit_2 cl_X9_226 rfl ?_
  refine V.ldc2 (v := 57) dX9_isDigit_5 cl_X9_228 rfl ?_
  refine V.calls_i (M1 := M) (v := if rng 48 57 x then 1 else 0) (md' := m_X9_in) (As := [.long (Int32.toInt64 x), .long 48, .long 57]) (rest := []) dX9_isDigit_8 ml_X9_38 mo_X9_in ⟨Nat.le_of_ble_eq_true rfl, Nat.le_of_ble_eq_true rfl⟩ (Nat.le_of_ble_eq_true rfl) rfl rfl (Nat.le_of_ble_eq_true rfl) (v_X9_in (x := x) (a := 48) (b := 57) rfl rfl _) rfl ?_
  exact V.ret dX9_isDigit_11 rfl (nb_if _) ⟨rfl, rfl⟩
theorem l_X9_token_sk {t : Nat} (ht : t ≤ 120) (Q : Option Value → Mem → Prop) : ∀ (n p : Nat) (M : Mem), M 62 6 = nI t → M 62 7 = nI p → p ≤ 121 → 121 ≤ p + n → V m_X9_token 34 [(0, .ref 62)] [] (ms M 62 7 (nI (skG t (M 67) n p))) Q → V m_X9_token 8 [(0, .ref 62)] [] M Q := by
  intro n
  induction n with
  | zero =>
    intro p M h6 h7 hp hn K
    refine V.aload_n dX9_token_8 rfl rfl rfl ?_
    refine V.aload_n dX9_token_9 rfl rfl rfl ?_
    refine V.geti (v := nI p) dX9_token_10 fg_X9_233 rfl rfl h7 rfl ?_
    refine V.callv_i (M1 := M) (v := bA t (M 67) p) (md' := m_X9_byteAt) (As := [.int (nI p)]) (rest := []) dX9_token_13 ml_X9_236 mo_X9_byteAt ⟨Nat.le_of_ble_eq_true rfl, Nat.le_of_ble_eq_true rfl⟩ rfl ⟨_, _, rfl⟩ (Nat.le_of_ble_eq_true rfl) rfl rfl (Nat.le_of_ble_eq_true rfl) (v_X9_byteAt ht (p := p) (by omega) M h6) rfl ?_
    refine V.bipush (v := 32) dX9_token_16 (by decide) rfl ?_
    refine V.icmp_ne (tgt := 34) dX9_token_18 rfl rfl (fun c18 => ?_) (fun c18 => absurd c18 (fun q => absurd ((bA_t (by omega)).symm.trans q) (by decide)))
    rw [show skG t (M 67) 0 p = p from rfl, ms_id h7] at K
    exact K
  | succ n ih =>
    intro p M h6 h7 hp hn K
    refine V.aload_n dX9_token_8 rfl rfl rfl ?_
    refine V.aload_n dX9_token_9 rfl rfl rfl ?_
    refine V.geti (v := nI p) dX9_token_10 fg_X9_233 rfl rfl h7 rfl ?_
    refine V.callv_i (M1 := M) (v := bA t (M 67) p) (md' := m_X9_byteAt) (As := [.int (nI p)]) (rest := []) dX9_token_13 ml_X9_236 mo_X9_byteAt ⟨Nat.le_of_ble_eq_true rfl, Nat.le_of_ble_eq_true rfl⟩ rfl ⟨_, _, rfl⟩ (Nat.le_of_ble_eq_true rfl) rfl rfl (Nat.le_of_ble_eq_true rfl) (v_X9_byteAt ht (p := p) (by omega) M h6) rfl ?_
    refine V.bipush (v := 32) dX9_token_16 (by decide) rfl ?_
    refine V.icmp_ne (tgt := 34) dX9_token_18 rfl rfl (fun c18 => ?_) (fun c18 => ?_)
    · skip
      rw [show skG t (M 67) (n + 1) p = p from by simp only [skG]; rw [if_neg c18], ms_id h7] at K
      exact K
    · skip
      refine V.aload_n dX9_token_21 rfl rfl rfl ?_
      refine V.dup dX9_token_22 rfl rfl ?_
      refine V.geti (v := nI p) dX9_token_23 fg_X9_233 rfl rfl h7 rfl ?_
      refine V.iconst (v := 1) dX9_token_26 rfl rfl ?_
      refine V.iadd (v := nI (p + 1)) dX9_token_27 (nI_add _ _) rfl ?_
      refine V.puti dX9_token_28 fp_X9_233 rfl rfl rfl rfl (M' := (ms M 62 7 (nI (p + 1)))) rfl rfl ?_
      refine V.goto (pc' := 8) dX9_token_31 rfl ?_
      have hpt : p < t := by
        rcases Nat.lt_or_ge p t with r | r
        · exact r
        · exact absurd ((bA_t r).symm.trans c18) (by decide)
      rw [show skG t (M 67) (n + 1) p = skG t (M 67) n (p + 1) from by simp only [skG]; rw [if_pos c18]] at K
      refine ih (p + 1) _ (by rw [ms_j (by decide)]; exact h6) (by rw [ms_s]) (by omega) (by omega) ?_
      rw [ms_ms, ms_k (by decide)]
      exact K
theorem l_X9_token_en_tt {t : Nat} (ht : t ≤ 120) : ∀ (n p : Nat) (M : Mem), M 62 6 = nI t → M 62 8 = nI p → p ≤ 121 → 121 ≤ p + n → V m_X9_token 86 [(0, .ref 62), (1, .int 1), (2, .int 1)] [] M (RT none (ms M 62 8 (nI (enG t (M 67) true true n p)))) := by
  intro n
  induction n with
  | zero =>
    intro p M h6 h8 hp hn
    rw [show enG t (M 67) true true 0 p = p from rfl, ms_id h8]
    refine V.iload_n dX9_token_86 rfl rfl rfl ?_
    refine V.if_eq (tgt := 104) dX9_token_87 rfl rfl (fun c87 => absurd c87 (by decide)) (fun _ => ?_)
    refine V.aload_n dX9_token_90 rfl rfl rfl ?_
    refine V.aload_n dX9_token_91 rfl rfl rfl ?_
    refine V.geti (v := nI p) dX9_token_92 fg_X9_230 rfl rfl h8 rfl ?_
    refine V.callv_i (M1 := M) (v := bA t (M 67) p) (md' := m_X9_byteAt) (As := [.int (nI p)]) (rest := []) dX9_token_95 ml_X9_236 mo_X9_byteAt ⟨Nat.le_of_ble_eq_true rfl, Nat.le_of_ble_eq_true rfl⟩ rfl ⟨_, _, rfl⟩ (Nat.le_of_ble_eq_true rfl) rfl rfl (Nat.le_of_ble_eq_true rfl) (v_X9_byteAt ht (p := p) (by omega) M h6) rfl ?_
    refine V.calls_i (M1 := M) (v := if isL (bA t (M 67) p) then 1 else 0) (md' := m_X9_isLetter) (As := [.int (bA t (M 67) p)]) (rest := []) dX9_token_98 ml_X9_239 mo_X9_isLetter ⟨Nat.le_of_ble_eq_true rfl, Nat.le_of_ble_eq_true rfl⟩ (Nat.le_of_ble_eq_true rfl) rfl rfl (Nat.le_of_ble_eq_true rfl) (v_X9_isLetter (bA t (M 67) p) _) rfl ?_
    refine V.ifb_ne (tgt := 122) dX9_token_101 rfl rfl (fun c101 => absurd c101 (by rw [bA_t (show t ≤ p by omega)]; decide)) (fun c101 => ?_)
    refine V.iload_n dX9_token_104 rfl rfl rfl ?_
    refine V.if_eq (tgt := 135) dX9_token_105 rfl rfl (fun c105 => absurd c105 (by decide)) (fun _ => ?_)
    refine V.aload_n dX9_token_108 rfl rfl rfl ?_
    refine V.aload_n dX9_token_109 rfl rfl rfl ?_
    refine V.geti (v := nI p) dX9_token_110 fg_X9_230 rfl rfl h8 rfl ?_
    refine V.callv_i (M1 := M) (v := bA t (M 67) p) (md' := m_X9_byteAt) (As := [.int (nI p)]) (rest := []) dX9_token_113 ml_X9_236 mo_X9_byteAt ⟨Nat.le_of_ble_eq_true rfl, Nat.le_of_ble_eq_true rfl⟩ rfl ⟨_, _, rfl⟩ (Nat.le_of_ble_eq_true rfl) rfl rfl (Nat.le_of_ble_eq_true rfl) (v_X9_byteAt ht (p := p) (by omega) M h6) rfl ?_
    refine V.calls_i (M1 := M) (v := if isD (bA t (M 67) p) then 1 else 0) (md' := m_X9_isDigit) (As := [.int (bA t (M 67) p)]) (rest := []) dX9_token_116 ml_X9_242 mo_X9_isDigit ⟨Nat.le_of_ble_eq_true rfl, Nat.le_of_ble_eq_true rfl⟩ (Nat.le_of_ble_eq_true rfl) rfl rfl (Nat.le_of_ble_eq_true rfl) (v_X9_isDigit (bA t (M 67) p) _) rfl ?_
    refine V.ifb_eq (tgt := 135) dX9_token_119 rfl rfl (fun c119 => ?_) (fun c119 => absurd c119 (by rw [bA_t (show t ≤ p by omega)]; decide))
    exact V.vret dX9_token_135 rfl ⟨rfl, rfl⟩
  | succ n ih =>
    intro p M h6 h8 hp hn
    refine V.iload_n dX9_token_86 rfl rfl rfl ?_
    refine V.if_eq (tgt := 104) dX9_token_87 rfl rfl (fun c87 => absurd c87 (by decide)) (fun _ => ?_)
    refine V.aload_n dX9_token_90 rfl rfl rfl ?_
    refine V.aload_n dX9_token_91 rfl rfl rfl ?_
    refine V.geti (v := nI p) dX9_token_92 fg_X9_230 rfl rfl h8 rfl ?_
    refine V.callv_i (M1 := M) (v := bA t (M 67) p) (md' := m_X9_byteAt) (As := [.int (nI p)]) (rest := []) dX9_token_95 ml_X9_236 mo_X9_byteAt ⟨Nat.le_of_ble_eq_true rfl, Nat.le_of_ble_eq_true rfl⟩ rfl ⟨_, _, rfl⟩ (Nat.le_of_ble_eq_true rfl) rfl rfl (Nat.le_of_ble_eq_true rfl) (v_X9_byteAt ht (p := p) (by omega) M h6) rfl ?_
    refine V.calls_i (M1 := M) (v := if isL (bA t (M 67) p) then 1 else 0) (md' := m_X9_isLetter) (As := [.int (bA t (M 67) p)]) (rest := []) dX9_token_98 ml_X9_239 mo_X9_isLetter ⟨Nat.le_of_ble_eq_true rfl, Nat.le_of_ble_eq_true rfl⟩ (Nat.le_of_ble_eq_true rfl) rfl rfl (Nat.le_of_ble_eq_true rfl) (v_X9_isLetter (bA t (M 67) p) _) rfl ?_
    refine V.ifb_ne (tgt := 122) dX9_token_101 rfl rfl (fun c101 => ?_) (fun c101 => ?_)
    · skip
      refine V.aload_n dX9_token_122 rfl rfl rfl ?_
      refine V.dup dX9_token_123 rfl rfl ?_
      refine V.geti (v := nI p) dX9_token_124 fg_X9_230 rfl rfl h8 rfl ?_
      refine V.iconst (v := 1) dX9_token_127 rfl rfl ?_
      refine V.iadd (v := nI (p + 1)) dX9_token_128 (nI_add _ _) rfl ?_
      refine V.puti dX9_token_129 fp_X9_230 rfl rfl rfl rfl (M' := (ms M 62 8 (nI (p + 1)))) rfl rfl ?_
      refine V.goto (pc' := 86) dX9_token_132 rfl ?_
      rw [show enG t (M 67) true true (n + 1) p = enG t (M 67) true true n (p + 1) from by simp only [enG]; rw [if_pos (Or.inl ⟨by first | rfl | trivial, c101⟩)]]
      have hpt : p < t := by
        rcases Nat.lt_or_ge p t with r | r
        · exact r
        · exact absurd (c101) (by rw [bA_t r]; decide)
      have h := ih (p + 1) (ms M 62 8 (nI (p + 1))) (by rw [ms_j (by decide)]; exact h6) (by rw [ms_s]) (by omega) (by omega)
      rw [ms_ms, ms_k (by decide)] at h
      exact h
    · skip
      refine V.iload_n dX9_token_104 rfl rfl rfl ?_
      refine V.if_eq (tgt := 135) dX9_token_105 rfl rfl (fun c105 => absurd c105 (by decide)) (fun _ => ?_)
      refine V.aload_n dX9_token_108 rfl rfl rfl ?_
      refine V.aload_n dX9_token_109 rfl rfl rfl ?_
      refine V.geti (v := nI p) dX9_token_110 fg_X9_230 rfl rfl h8 rfl ?_
      refine V.callv_i (M1 := M) (v := bA t (M 67) p) (md' := m_X9_byteAt) (As := [.int (nI p)]) (rest := []) dX9_token_113 ml_X9_236 mo_X9_byteAt ⟨Nat.le_of_ble_eq_true rfl, Nat.le_of_ble_eq_true rfl⟩ rfl ⟨_, _, rfl⟩ (Nat.le_of_ble_eq_true rfl) rfl rfl (Nat.le_of_ble_eq_true rfl) (v_X9_byteAt ht (p := p) (by omega) M h6) rfl ?_
      refine V.calls_i (M1 := M) (v := if isD (bA t (M 67) p) then 1 else 0) (md' := m_X9_isDigit) (As := [.int (bA t (M 67) p)]) (rest := []) dX9_token_116 ml_X9_242 mo_X9_isDigit ⟨Nat.le_of_ble_eq_true rfl, Nat.le_of_ble_eq_true rfl⟩ (Nat.le_of_ble_eq_true rfl) rfl rfl (Nat.le_of_ble_eq_true rfl) (v_X9_isDigit (bA t (M 67) p) _) rfl ?_
      refine V.ifb_eq (tgt := 135) dX9_token_119 rfl rfl (fun c119 => ?_) (fun c119 => ?_)
      · skip
        exact V.vret dX9_token_135 rfl ⟨rfl, (by simp only [enG]; rw [if_neg (fun q => q.elim (fun w => c101 w.2) (fun w => c119 w.2)), ms_id h8])⟩
      · skip
        refine V.aload_n dX9_token_122 rfl rfl rfl ?_
        refine V.dup dX9_token_123 rfl rfl ?_
        refine V.geti (v := nI p) dX9_token_124 fg_X9_230 rfl rfl h8 rfl ?_
        refine V.iconst (v := 1) dX9_token_127 rfl rfl ?_
        refine V.iadd (v := nI (p + 1)) dX9_token_128 (nI_add _ _) rfl ?_
        refine V.puti dX9_token_129 fp_X9_230 rfl rfl rfl rfl (M' := (ms M 62 8 (nI (p + 1)))) rfl rfl ?_
        refine V.goto (pc' := 86) dX9_token_132 rfl ?_
        rw [show enG t (M 67) true true (n + 1) p = enG t (M 67) true true n (p + 1) from by simp only [enG]; rw [if_pos (Or.inr ⟨by first | rfl | trivial, c119⟩)]]
        have hpt : p < t := by
          rcases Nat.lt_or_ge p t with r | r
          · exact r
          · exact absurd (c119) (by rw [bA_t r]; decide)
        have h := ih (p + 1) (ms M 62 8 (nI (p + 1))) (by rw [ms_j (by decide)]; exact h6) (by rw [ms_s]) (by omega) (by omega)
        rw [ms_ms, ms_k (by decide)] at h
        exact h
theorem l_X9_token_en_tf {t : Nat} (ht : t ≤ 120) : ∀ (n p : Nat) (M : Mem), M 62 6 = nI t → M 62 8 = nI p → p ≤ 121 → 121 ≤ p + n → V m_X9_token 86 [(0, .ref 62), (1, .int 1), (2, .int 0)] [] M (RT none (ms M 62 8 (nI (enG t (M 67) true false n p)))) := by
  intro n
  induction n with
  | zero =>
    intro p M h6 h8 hp hn
    rw [show enG t (M 67) true false 0 p = p from rfl, ms_id h8]
    refine V.iload_n dX9_token_86 rfl rfl rfl ?_
    refine V.if_eq (tgt := 104) dX9_token_87 rfl rfl (fun c87 => absurd c87 (by decide)) (fun _ => ?_)
    refine V.aload_n dX9_token_90 rfl rfl rfl ?_
    refine V.aload_n dX9_token_91 rfl rfl rfl ?_
    refine V.geti (v := nI p) dX9_token_92 fg_X9_230 rfl rfl h8 rfl ?_
    refine V.callv_i (M1 := M) (v := bA t (M 67) p) (md' := m_X9_byteAt) (As := [.int (nI p)]) (rest := []) dX9_token_95 ml_X9_236 mo_X9_byteAt ⟨Nat.le_of_ble_eq_true rfl, Nat.le_of_ble_eq_true rfl⟩ rfl ⟨_, _, rfl⟩ (Nat.le_of_ble_eq_true rfl) rfl rfl (Nat.le_of_ble_eq_true rfl) (v_X9_byteAt ht (p := p) (by omega) M h6) rfl ?_
    refine V.calls_i (M1 := M) (v := if isL (bA t (M 67) p) then 1 else 0) (md' := m_X9_isLetter) (As := [.int (bA t (M 67) p)]) (rest := []) dX9_token_98 ml_X9_239 mo_X9_isLetter ⟨Nat.le_of_ble_eq_true rfl, Nat.le_of_ble_eq_true rfl⟩ (Nat.le_of_ble_eq_true rfl) rfl rfl (Nat.le_of_ble_eq_true rfl) (v_X9_isLetter (bA t (M 67) p) _) rfl ?_
    refine V.ifb_ne (tgt := 122) dX9_token_101 rfl rfl (fun c101 => absurd c101 (by rw [bA_t (show t ≤ p by omega)]; decide)) (fun c101 => ?_)
    refine V.iload_n dX9_token_104 rfl rfl rfl ?_
    refine V.if_eq (tgt := 135) dX9_token_105 rfl rfl (fun _ => ?_) (fun c105 => absurd c105 (by decide))
    exact V.vret dX9_token_135 rfl ⟨rfl, rfl⟩
  | succ n ih =>
    intro p M h6 h8 hp hn
    refine V.iload_n dX9_token_86 rfl rfl rfl ?_
    refine V.if_eq (tgt := 104) dX9_token_87 rfl rfl (fun c87 => absurd c87 (by decide)) (fun _ => ?_)
    refine V.aload_n dX9_token_90 rfl rfl rfl ?_
    refine V.aload_n dX9_token_91 rfl rfl rfl ?_
    refine V.geti (v := nI p) dX9_token_92 fg_X9_230 rfl rfl h8 rfl ?_
    refine V.callv_i (M1 := M) (v := bA t (M 67) p) (md' := m_X9_byteAt) (As := [.int (nI p)]) (rest := []) dX9_token_95 ml_X9_236 mo_X9_byteAt ⟨Nat.le_of_ble_eq_true rfl, Nat.le_of_ble_eq_true rfl⟩ rfl ⟨_, _, rfl⟩ (Nat.le_of_ble_eq_true rfl) rfl rfl (Nat.le_of_ble_eq_true rfl) (v_X9_byteAt ht (p := p) (by omega) M h6) rfl ?_
    refine V.calls_i (M1 := M) (v := if isL (bA t (M 67) p) then 1 else 0) (md' := m_X9_isLetter) (As := [.int (bA t (M 67) p)]) (rest := []) dX9_token_98 ml_X9_239 mo_X9_isLetter ⟨Nat.le_of_ble_eq_true rfl, Nat.le_of_ble_eq_true rfl⟩ (Nat.le_of_ble_eq_true rfl) rfl rfl (Nat.le_of_ble_eq_true rfl) (v_X9_isLetter (bA t (M 67) p) _) rfl ?_
    refine V.ifb_ne (tgt := 122) dX9_token_101 rfl rfl (fun c101 => ?_) (fun c101 => ?_)
    · skip
      refine V.aload_n dX9_token_122 rfl rfl rfl ?_
      refine V.dup dX9_token_123 rfl rfl ?_
      refine V.geti (v := nI p) dX9_token_124 fg_X9_230 rfl rfl h8 rfl ?_
      refine V.iconst (v := 1) dX9_token_127 rfl rfl ?_
      refine V.iadd (v := nI (p + 1)) dX9_token_128 (nI_add _ _) rfl ?_
      refine V.puti dX9_token_129 fp_X9_230 rfl rfl rfl rfl (M' := (ms M 62 8 (nI (p + 1)))) rfl rfl ?_
      refine V.goto (pc' := 86) dX9_token_132 rfl ?_
      rw [show enG t (M 67) true false (n + 1) p = enG t (M 67) true false n (p + 1) from by simp only [enG]; rw [if_pos (Or.inl ⟨by first | rfl | trivial, c101⟩)]]
      have hpt : p < t := by
        rcases Nat.lt_or_ge p t with r | r
        · exact r
        · exact absurd (c101) (by rw [bA_t r]; decide)
      have h := ih (p + 1) (ms M 62 8 (nI (p + 1))) (by rw [ms_j (by decide)]; exact h6) (by rw [ms_s]) (by omega) (by omega)
      rw [ms_ms, ms_k (by decide)] at h
      exact h
    · skip
      refine V.iload_n dX9_token_104 rfl rfl rfl ?_
      refine V.if_eq (tgt := 135) dX9_token_105 rfl rfl (fun _ => ?_) (fun c105 => absurd c105 (by decide))
      exact V.vret dX9_token_135 rfl ⟨rfl, (by simp only [enG]; rw [if_neg (fun q => q.elim (fun w => c101 w.2) (fun w => absurd w.1 (by decide))), ms_id h8])⟩
theorem l_X9_token_en_ft {t : Nat} (ht : t ≤ 120) : ∀ (n p : Nat) (M : Mem), M 62 6 = nI t → M 62 8 = nI p → p ≤ 121 → 121 ≤ p + n → V m_X9_token 86 [(0, .ref 62), (1, .int 0), (2, .int 1)] [] M (RT none (ms M 62 8 (nI (enG t (M 67) false true n p)))) := by
  intro n
  induction n with
  | zero =>
    intro p M h6 h8 hp hn
    rw [show enG t (M 67) false true 0 p = p from rfl, ms_id h8]
    refine V.iload_n dX9_token_86 rfl rfl rfl ?_
    refine V.if_eq (tgt := 104) dX9_token_87 rfl rfl (fun _ => ?_) (fun c87 => absurd c87 (by decide))
    refine V.iload_n dX9_token_104 rfl rfl rfl ?_
    refine V.if_eq (tgt := 135) dX9_token_105 rfl rfl (fun c105 => absurd c105 (by decide)) (fun _ => ?_)
    refine V.aload_n dX9_token_108 rfl rfl rfl ?_
    refine V.aload_n dX9_token_109 rfl rfl rfl ?_
    refine V.geti (v := nI p) dX9_token_110 fg_X9_230 rfl rfl h8 rfl ?_
    refine V.callv_i (M1 := M) (v := bA t (M 67) p) (md' := m_X9_byteAt) (As := [.int (nI p)]) (rest := []) dX9_token_113 ml_X9_236 mo_X9_byteAt ⟨Nat.le_of_ble_eq_true rfl, Nat.le_of_ble_eq_true rfl⟩ rfl ⟨_, _, rfl⟩ (Nat.le_of_ble_eq_true rfl) rfl rfl (Nat.le_of_ble_eq_true rfl) (v_X9_byteAt ht (p := p) (by omega) M h6) rfl ?_
    refine V.calls_i (M1 := M) (v := if isD (bA t (M 67) p) then 1 else 0) (md' := m_X9_isDigit) (As := [.int (bA t (M 67) p)]) (rest := []) dX9_token_116 ml_X9_242 mo_X9_isDigit ⟨Nat.le_of_ble_eq_true rfl, Nat.le_of_ble_eq_true rfl⟩ (Nat.le_of_ble_eq_true rfl) rfl rfl (Nat.le_of_ble_eq_true rfl) (v_X9_isDigit (bA t (M 67) p) _) rfl ?_
    refine V.ifb_eq (tgt := 135) dX9_token_119 rfl rfl (fun c119 => ?_) (fun c119 => absurd c119 (by rw [bA_t (show t ≤ p by omega)]; decide))
    exact V.vret dX9_token_135 rfl ⟨rfl, rfl⟩
  | succ n ih =>
    intro p M h6 h8 hp hn
    refine V.iload_n dX9_token_86 rfl rfl rfl ?_
    refine V.if_eq (tgt := 104) dX9_token_87 rfl rfl (fun _ => ?_) (fun c87 => absurd c87 (by decide))
    refine V.iload_n dX9_token_104 rfl rfl rfl ?_
    refine V.if_eq (tgt := 135) dX9_token_105 rfl rfl (fun c105 => absurd c105 (by decide)) (fun _ => ?_)
    refine V.aload_n dX9_token_108 rfl rfl rfl ?_
    refine V.aload_n dX9_token_109 rfl rfl rfl ?_
    refine V.geti (v := nI p) dX9_token_110 fg_X9_230 rfl rfl h8 rfl ?_
    refine V.callv_i (M1 := M) (v := bA t (M 67) p) (md' := m_X9_byteAt) (As := [.int (nI p)]) (rest := []) dX9_token_113 ml_X9_236 mo_X9_byteAt ⟨Nat.le_of_ble_eq_true rfl, Nat.le_of_ble_eq_true rfl⟩ rfl ⟨_, _, rfl⟩ (Nat.le_of_ble_eq_true rfl) rfl rfl (Nat.le_of_ble_eq_true rfl) (v_X9_byteAt ht (p := p) (by omega) M h6) rfl ?_
    refine V.calls_i (M1 := M) (v := if isD (bA t (M 67) p) then 1 else 0) (md' := m_X9_isDigit) (As := [.int (bA t (M 67) p)]) (rest := []) dX9_token_116 ml_X9_242 mo_X9_isDigit ⟨Nat.le_of_ble_eq_true rfl, Nat.le_of_ble_eq_true rfl⟩ (Nat.le_of_ble_eq_true rfl) rfl rfl (Nat.le_of_ble_eq_true rfl) (v_X9_isDigit (bA t (M 67) p) _) rfl ?_
    refine V.ifb_eq (tgt := 135) dX9_token_119 rfl rfl (fun c119 => ?_) (fun c119 => ?_)
    · skip
      exact V.vret dX9_token_135 rfl ⟨rfl, (by simp only [enG]; rw [if_neg (fun q => q.elim (fun w => absurd w.1 (by decide)) (fun w => c119 w.2)), ms_id h8])⟩
    · skip
      refine V.aload_n dX9_token_122 rfl rfl rfl ?_
      refine V.dup dX9_token_123 rfl rfl ?_
      refine V.geti (v := nI p) dX9_token_124 fg_X9_230 rfl rfl h8 rfl ?_
      refine V.iconst (v := 1) dX9_token_127 rfl rfl ?_
      refine V.iadd (v := nI (p + 1)) dX9_token_128 (nI_add _ _) rfl ?_
      refine V.puti dX9_token_129 fp_X9_230 rfl rfl rfl rfl (M' := (ms M 62 8 (nI (p + 1)))) rfl rfl ?_
      refine V.goto (pc' := 86) dX9_token_132 rfl ?_
      rw [show enG t (M 67) false true (n + 1) p = enG t (M 67) false true n (p + 1) from by simp only [enG]; rw [if_pos (Or.inr ⟨by first | rfl | trivial, c119⟩)]]
      have hpt : p < t := by
        rcases Nat.lt_or_ge p t with r | r
        · exact r
        · exact absurd (c119) (by rw [bA_t r]; decide)
      have h := ih (p + 1) (ms M 62 8 (nI (p + 1))) (by rw [ms_j (by decide)]; exact h6) (by rw [ms_s]) (by omega) (by omega)
      rw [ms_ms, ms_k (by decide)] at h
      exact h
theorem l_X9_token_en_ff {t : Nat} (ht : t ≤ 120) : ∀ (n p : Nat) (M : Mem), M 62 6 = nI t → M 62 8 = nI p → p ≤ 121 → 121 ≤ p + n → V m_X9_token 86 [(0, .ref 62), (1, .int 0), (2, .int 0)] [] M (RT none (ms M 62 8 (nI (enG t (M 67) false false n p)))) := by
  intro n
  induction n with
  | zero =>
    intro p M h6 h8 hp hn
    rw [show enG t (M 67) false false 0 p = p from rfl, ms_id h8]
    refine V.iload_n dX9_token_86 rfl rfl rfl ?_
    refine V.if_eq (tgt := 104) dX9_token_87 rfl rfl (fun _ => ?_) (fun c87 => absurd c87 (by decide))
    refine V.iload_n dX9_token_104 rfl rfl rfl ?_
    refine V.if_eq (tgt := 135) dX9_token_105 rfl rfl (fun _ => ?_) (fun c105 => absurd c105 (by decide))
    exact V.vret dX9_token_135 rfl ⟨rfl, rfl⟩
  | succ n ih =>
    intro p M h6 h8 hp hn
    refine V.iload_n dX9_token_86 rfl rfl rfl ?_
    refine V.if_eq (tgt := 104) dX9_token_87 rfl rfl (fun _ => ?_) (fun c87 => absurd c87 (by decide))
    refine V.iload_n dX9_token_104 rfl rfl rfl ?_
    refine V.if_eq (tgt := 135) dX9_token_105 rfl rfl (fun _ => ?_) (fun c105 => absurd c105 (by decide))
    exact V.vret dX9_token_135 rfl ⟨rfl, (by simp only [enG]; rw [if_neg (fun q => q.elim (fun w => absurd w.1 (by decide)) (fun w => absurd w.1 (by decide))), ms_id h8])⟩
theorem enG_b {t : Nat} (ht : t ≤ 120) (l d : Bool) (p : Nat) (M : Mem) (h6 : M 62 6 = nI t) (h8 : M 62 8 = nI p) (hp : p ≤ 121) : V m_X9_token 86 [(0, .ref 62), (1, .int (oI l)), (2, .int (oI d))] [] M (RT none (ms M 62 8 (nI (enG t (M 67) l d 121 p)))) := by
  cases l <;> cases d
  · exact l_X9_token_en_ff ht 121 p M h6 h8 hp (by omega)
  · exact l_X9_token_en_ft ht 121 p M h6 h8 hp (by omega)
  · exact l_X9_token_en_tf ht 121 p M h6 h8 hp (by omega)
  · exact l_X9_token_en_tt ht 121 p M h6 h8 hp (by omega)
theorem l_X9_token_34 {t : Nat} (ht : t ≤ 120) {q : Nat} (hq : q ≤ t) (M : Mem) (h6 : M 62 6 = nI t) : V m_X9_token 34 [(0, .ref 62)] [] (ms M 62 7 (nI q)) (RT none (ms (ms M 62 7 (nI q)) 62 8 (nI (teG t (M 67) q)))) := by
  refine V.aload_n dX9_token_34 rfl rfl rfl ?_
  refine V.aload_n dX9_token_35 rfl rfl rfl ?_
  refine V.geti (v := nI q) dX9_token_36 fg_X9_233 rfl rfl (by rw [ms_s]) rfl ?_
  refine V.callv_i (M1 := (ms M 62 7 (nI q))) (v := bA t (M 67) q) (md' := m_X9_byteAt) (As := [.int (nI q)]) (rest := []) dX9_token_39 ml_X9_236 mo_X9_byteAt ⟨Nat.le_of_ble_eq_true rfl, Nat.le_of_ble_eq_true rfl⟩ rfl ⟨_, _, rfl⟩ (Nat.le_of_ble_eq_true rfl) rfl rfl (Nat.le_of_ble_eq_true rfl) (by have h := v_X9_byteAt ht (p := q) (by omega) (ms M 62 7 (nI q)) (by rw [ms_j (by decide)]; exact h6); rw [ms_k (by decide)] at h; exact h) rfl ?_
  refine V.calls_i (M1 := (ms M 62 7 (nI q))) (v := oI (isL (bA t (M 67) q))) (md' := m_X9_isLetter) (As := [.int (bA t (M 67) q)]) (rest := []) dX9_token_42 ml_X9_239 mo_X9_isLetter ⟨Nat.le_of_ble_eq_true rfl, Nat.le_of_ble_eq_true rfl⟩ (Nat.le_of_ble_eq_true rfl) rfl rfl (Nat.le_of_ble_eq_true rfl) (by have h := v_X9_isLetter (bA t (M 67) q) (ms M 62 7 (nI q)); rw [oI_d] at h; rw [show decide (isL (bA t (M 67) q) = true) = isL (bA t (M 67) q) from by simp] at h; exact h) rfl ?_
  refine V.ist_n dX9_token_45 rfl (by decide) (L' := [(0, .ref 62), (1, .int (oI (isL (bA t (M 67) q))))]) rfl rfl ?_
  refine V.aload_n dX9_token_46 rfl rfl rfl ?_
  refine V.aload_n dX9_token_47 rfl rfl rfl ?_
  refine V.geti (v := nI q) dX9_token_48 fg_X9_233 rfl rfl (by rw [ms_s]) rfl ?_
  refine V.callv_i (M1 := (ms M 62 7 (nI q))) (v := bA t (M 67) q) (md' := m_X9_byteAt) (As := [.int (nI q)]) (rest := []) dX9_token_51 ml_X9_236 mo_X9_byteAt ⟨Nat.le_of_ble_eq_true rfl, Nat.le_of_ble_eq_true rfl⟩ rfl ⟨_, _, rfl⟩ (Nat.le_of_ble_eq_true rfl) rfl rfl (Nat.le_of_ble_eq_true rfl) (by have h := v_X9_byteAt ht (p := q) (by omega) (ms M 62 7 (nI q)) (by rw [ms_j (by decide)]; exact h6); rw [ms_k (by decide)] at h; exact h) rfl ?_
  refine V.calls_i (M1 := (ms M 62 7 (nI q))) (v := oI (isD (bA t (M 67) q))) (md' := m_X9_isDigit) (As := [.int (bA t (M 67) q)]) (rest := []) dX9_token_54 ml_X9_242 mo_X9_isDigit ⟨Nat.le_of_ble_eq_true rfl, Nat.le_of_ble_eq_true rfl⟩ (Nat.le_of_ble_eq_true rfl) rfl rfl (Nat.le_of_ble_eq_true rfl) (by have h := v_X9_isDigit (bA t (M 67) q) (ms M 62 7 (nI q)); rw [oI_d] at h; rw [show decide (isD (bA t (M 67) q) = true) = isD (bA t (M 67) q) from by simp] at h; exact h) rfl ?_
  refine V.ist_n dX9_token_57 rfl (by decide) (L' := [(0, .ref 62), (1, .int (oI (isL (bA t (M 67) q)))), (2, .int (oI (isD (bA t (M 67) q))))]) rfl rfl ?_
  refine V.aload_n dX9_token_58 rfl rfl rfl ?_
  refine V.aload_n dX9_token_59 rfl rfl rfl ?_
  refine V.geti (v := nI q) dX9_token_60 fg_X9_233 rfl rfl (by rw [ms_s]) rfl ?_
  refine V.aload_n dX9_token_63 rfl rfl rfl ?_
  refine V.geti (v := nI t) dX9_token_64 fg_X9_218 rfl rfl (by rw [ms_j (by decide)]; exact h6) rfl ?_
  refine V.icmp_ge (tgt := 79) dX9_token_67 rfl rfl (fun c67 => ?_) (fun c67 => ?_)
  · have c67 : t ≤ q := (nI_leI (a := t) (b := q) (by omega) (by omega)).mp c67
    refine V.aload_n dX9_token_79 rfl rfl rfl ?_
    refine V.geti (v := nI q) dX9_token_80 fg_X9_233 rfl rfl (by rw [ms_s]) rfl ?_
    refine V.puti dX9_token_83 fp_X9_230 rfl rfl rfl rfl (M' := (ms (ms M 62 7 (nI q)) 62 8 (nI q))) rfl rfl ?_
    have h := enG_b ht (isL (bA t (M 67) q)) (isD (bA t (M 67) q)) (q) (ms (ms M 62 7 (nI q)) 62 8 (nI (q))) (by rw [ms_j (by decide), ms_j (by decide)]; exact h6) (by rw [ms_s]) (by omega)
    rw [ms_ms, ms_k (by decide), ms_k (by decide)] at h
    rw [show teG t (M 67) q = enG t (M 67) (isL (bA t (M 67) q)) (isD (bA t (M 67) q)) 121 (q) from by rw [teG, if_neg (by omega)]]
    exact h
  · have c67 : ¬ t ≤ q := fun zq => c67 ((nI_leI (a := t) (b := q) (by omega) (by omega)).mpr zq)
    refine V.aload_n dX9_token_70 rfl rfl rfl ?_
    refine V.geti (v := nI q) dX9_token_71 fg_X9_233 rfl rfl (by rw [ms_s]) rfl ?_
    refine V.iconst (v := 1) dX9_token_74 rfl rfl ?_
    refine V.iadd (v := nI (q + 1)) dX9_token_75 (nI_add _ _) rfl ?_
    refine V.goto (pc' := 83) dX9_token_76 rfl ?_
    refine V.puti dX9_token_83 fp_X9_230 rfl rfl rfl rfl (M' := (ms (ms M 62 7 (nI q)) 62 8 (nI (q + 1)))) rfl rfl ?_
    have h := enG_b ht (isL (bA t (M 67) q)) (isD (bA t (M 67) q)) (q + 1) (ms (ms M 62 7 (nI q)) 62 8 (nI (q + 1))) (by rw [ms_j (by decide), ms_j (by decide)]; exact h6) (by rw [ms_s]) (by omega)
    rw [ms_ms, ms_k (by decide), ms_k (by decide)] at h
    rw [show teG t (M 67) q = enG t (M 67) (isL (bA t (M 67) q)) (isD (bA t (M 67) q)) 121 (q + 1) from by rw [teG, if_pos (by omega)]]
    exact h
theorem v_X9_token {t : Nat} (ht : t ≤ 120) {p : Nat} (hp : p ≤ t) (M : Mem) (h6 : M 62 6 = nI t) (h8 : M 62 8 = nI p) : V m_X9_token 0 [(0, .ref 62)] [] M (RT none (tokM t M)) := by
  rw [tokM, h8, nI_clamp (by omega)]
  refine V.aload_n dX9_token_0 rfl rfl rfl ?_
  refine V.aload_n dX9_token_1 rfl rfl rfl ?_
  refine V.geti (v := nI p) dX9_token_2 fg_X9_230 rfl rfl h8 rfl ?_
  refine V.puti dX9_token_5 fp_X9_233 rfl rfl rfl rfl (M' := (ms M 62 7 (nI p))) rfl rfl ?_
  refine l_X9_token_sk ht _ 121 p _ (by rw [ms_j (by decide)]; exact h6) (by rw [ms_s]) (by omega) (by omega) ?_
  rw [ms_ms, ms_k (by decide)]
  exact l_X9_token_34 ht (sk_le 121 p hp) M h6
def needM (t : Nat) (b : Bool) (M : Mem) : Mem := if M 62 10 = 0 ∧ b = true then tokM t M else ms M 62 10 1
/-- the reader's state -/
def TK (t : Nat) (M : Mem) : Prop := M 62 6 = nI t ∧ (∃ p r, p ≤ r ∧ r ≤ t ∧ (p < t → p < r) ∧ M 62 7 = nI p ∧ M 62 8 = nI r) ∧ (M 62 10 = 0 ∨ M 62 10 = 1)
theorem TK_tok {t : Nat} (ht : t ≤ 120) {M : Mem} (h : TK t M) : TK t (tokM t M) := by
  obtain ⟨h6, ⟨p, r, hpr, hr, -, h7, h8⟩, h10⟩ := h
  refine ⟨by simp (disch := decide) only [tokM, ms_j]; exact h6, ⟨skG t (M 67) 121 r, teG t (M 67) (skG t (M 67) 121 r), te_ge, te_le (sk_le _ _ hr), te_gt, ?_, ?_⟩, ?_⟩
  · rw [tokM, h8, nI_clamp (by omega), ms_j (by decide), ms_s]
  · rw [tokM, h8, nI_clamp (by omega), ms_s]
  · simp (disch := decide) only [tokM, ms_j]; exact h10
theorem TK_w {t : Nat} {M : Mem} (h : TK t M) : TK t (ms M 62 10 1) := by
  obtain ⟨h6, ⟨p, r, hpr, hr, hpt, h7, h8⟩, h10⟩ := h
  exact ⟨by rw [ms_j (by decide)]; exact h6, ⟨p, r, hpr, hr, hpt, by rw [ms_j (by decide)]; exact h7, by rw [ms_j (by decide)]; exact h8⟩, by rw [ms_s]; exact .inr rfl⟩
theorem TK_v {t : Nat} {M : Mem} {v : Int32} (h : TK t M) : TK t (ms M 62 9 v) := by
  obtain ⟨h6, ⟨p, r, hpr, hr, hpt, h7, h8⟩, h10⟩ := h
  exact ⟨by rw [ms_j (by decide)]; exact h6, ⟨p, r, hpr, hr, hpt, by rw [ms_j (by decide)]; exact h7, by rw [ms_j (by decide)]; exact h8⟩, by rw [ms_j (by decide)]; exact h10⟩
theorem TK_need {t : Nat} (ht : t ≤ 120) {b : Bool} {M : Mem} (h : TK t M) : TK t (needM t b M) := by
  unfold needM
  split
  · exact TK_tok ht h
  · exact TK_w h
theorem tok_k {t k : Nat} {M : Mem} (h : k ≠ 62) : tokM t M k = M k := by rw [tokM, ms_k h, ms_k h]
theorem need_k {t k : Nat} {b : Bool} {M : Mem} (h : k ≠ 62) : needM t b M k = M k := by
  unfold needM
  split
  · exact tok_k h
  · exact ms_k h
theorem need_w {t : Nat} {b : Bool} {M : Mem} : needM t b M 62 10 = 0 ↔ M 62 10 = 0 ∧ b = true := by
  unfold needM
  split
  · next q => exact ⟨fun _ => q, fun _ => by simp (disch := decide) only [tokM, ms_j]; exact q.1⟩
  · next q => rw [ms_s]; exact ⟨fun h => absurd h (by decide), fun h => absurd h q⟩
theorem v_X9_needs_t {t : Nat} (ht : t ≤ 120) (M : Mem) (hT : TK t M) : V m_X9_needs 0 [(0, .ref 62), (1, .int (oI true))] [] M (RT none (needM t true M)) := by
  obtain ⟨h6, ⟨p, r, hpr, hr, hpt, h7, h8⟩, h10⟩ := hT
  refine V.aload_n dX9_needs_0 rfl rfl rfl ?_
  refine V.aload_n dX9_needs_1 rfl rfl rfl ?_
  refine V.geti (v := M 62 10) dX9_needs_2 fg_X9_245 rfl rfl rfl rfl ?_
  refine V.if_ne (tgt := 12) dX9_needs_5 rfl rfl (fun c5 => ?_) (fun c5 => ?_)
  · skip
    refine V.iconst (v := 1) dX9_needs_12 rfl rfl ?_
    refine V.goto (pc' := 17) dX9_needs_13 rfl ?_
    refine V.puti dX9_needs_17 fp_X9_245 rfl rfl rfl rfl (M' := (ms M 62 10 1)) rfl rfl ?_
    refine V.aload_n dX9_needs_20 rfl rfl rfl ?_
    refine V.geti (v := 1) dX9_needs_21 fg_X9_245 rfl rfl (by rw [ms_s]) rfl ?_
    refine V.if_ne (tgt := 31) dX9_needs_24 rfl rfl (fun _ => ?_) (fun c24 => absurd c24 (by decide))
    exact V.vret dX9_needs_31 rfl ⟨rfl, (by rw [needM, if_neg (fun q => c5 q.1)])⟩
  · skip
    refine V.iload_n dX9_needs_8 rfl rfl rfl ?_
    refine V.if_ne (tgt := 16) dX9_needs_9 rfl rfl (fun _ => ?_) (fun c9 => absurd c9 (by decide))
    refine V.iconst (v := 0) dX9_needs_16 rfl rfl ?_
    refine V.puti dX9_needs_17 fp_X9_245 rfl rfl rfl rfl (M' := (ms M 62 10 0)) rfl rfl ?_
    refine V.aload_n dX9_needs_20 rfl rfl rfl ?_
    refine V.geti (v := 0) dX9_needs_21 fg_X9_245 rfl rfl (by rw [ms_s]) rfl ?_
    refine V.if_ne (tgt := 31) dX9_needs_24 rfl rfl (fun c24 => absurd c24 (by decide)) (fun _ => ?_)
    refine V.aload_n dX9_needs_27 rfl rfl rfl ?_
    refine V.callv_v (M1 := tokM t M) (md' := m_X9_token) (As := []) (rest := []) dX9_needs_28 ml_X9_249 mo_X9_token ⟨Nat.le_of_ble_eq_true rfl, Nat.le_of_ble_eq_true rfl⟩ rfl ⟨_, _, rfl⟩ (Nat.le_of_ble_eq_true rfl) rfl rfl (Nat.le_of_ble_eq_true rfl) (by rw [ms_id c5]; exact v_X9_token ht hr M h6 h8) rfl ?_
    exact V.vret dX9_needs_31 rfl ⟨rfl, (by rw [needM, if_pos ⟨c5, rfl⟩])⟩
theorem v_X9_needs_f {t : Nat} (ht : t ≤ 120) (M : Mem) (hT : TK t M) : V m_X9_needs 0 [(0, .ref 62), (1, .int (oI false))] [] M (RT none (needM t false M)) := by
  obtain ⟨h6, ⟨p, r, hpr, hr, hpt, h7, h8⟩, h10⟩ := hT
  refine V.aload_n dX9_needs_0 rfl rfl rfl ?_
  refine V.aload_n dX9_needs_1 rfl rfl rfl ?_
  refine V.geti (v := M 62 10) dX9_needs_2 fg_X9_245 rfl rfl rfl rfl ?_
  refine V.if_ne (tgt := 12) dX9_needs_5 rfl rfl (fun c5 => ?_) (fun c5 => ?_)
  · skip
    refine V.iconst (v := 1) dX9_needs_12 rfl rfl ?_
    refine V.goto (pc' := 17) dX9_needs_13 rfl ?_
    refine V.puti dX9_needs_17 fp_X9_245 rfl rfl rfl rfl (M' := (ms M 62 10 1)) rfl rfl ?_
    refine V.aload_n dX9_needs_20 rfl rfl rfl ?_
    refine V.geti (v := 1) dX9_needs_21 fg_X9_245 rfl rfl (by rw [ms_s]) rfl ?_
    refine V.if_ne (tgt := 31) dX9_needs_24 rfl rfl (fun _ => ?_) (fun c24 => absurd c24 (by decide))
    exact V.vret dX9_needs_31 rfl ⟨rfl, (by rw [needM, if_neg (fun q => c5 q.1)])⟩
  · skip
    refine V.iload_n dX9_needs_8 rfl rfl rfl ?_
    refine V.if_ne (tgt := 16) dX9_needs_9 rfl rfl (fun c9 => absurd c9 (by decide)) (fun _ => ?_)
    refine V.iconst (v := 1) dX9_needs_12 rfl rfl ?_
    refine V.goto (pc' := 17) dX9_needs_13 rfl ?_
    refine V.puti dX9_needs_17 fp_X9_245 rfl rfl rfl rfl (M' := (ms M 62 10 1)) rfl rfl ?_
    refine V.aload_n dX9_needs_20 rfl rfl rfl ?_
    refine V.geti (v := 1) dX9_needs_21 fg_X9_245 rfl rfl (by rw [ms_s]) rfl ?_
    refine V.if_ne (tgt := 31) dX9_needs_24 rfl rfl (fun _ => ?_) (fun c24 => absurd c24 (by decide))
    exact V.vret dX9_needs_31 rfl ⟨rfl, (by rw [needM, if_neg (fun q => absurd q.2 (by decide))])⟩
theorem v_X9_needs {t : Nat} (ht : t ≤ 120) (b : Bool) (M : Mem) (hT : TK t M) : V m_X9_needs 0 [(0, .ref 62), (1, .int (oI b))] [] M (RT none (needM t b M)) := by
  cases b
  · exact v_X9_needs_f ht M hT
  · exact v_X9_needs_t ht M hT
