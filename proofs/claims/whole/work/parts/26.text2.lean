/-! The reference's text: words, numbers, kinds and places -/
def wG (f : Nat → Int32) : Nat → Nat → Int64 → Int64
  | 0, _, l => l
  | n + 1, p, l => wG f n (p + 1) (if 36028797018963967 < l then l else 32 * l + (f p - 96).toInt64)
def wdF (t : Nat) (M : Mem) : Int64 := if M 62 10 = 0 ∧ isL (bA t (M 67) (M 62 7).toNatClampNeg) = true then wG (M 67) ((M 62 8).toNatClampNeg - (M 62 7).toNatClampNeg) (M 62 7).toNatClampNeg 0 else 0
def nuG (f : Nat → Int32) : Nat → Nat → Int32 → Int32
  | 0, _, v => v
  | n + 1, p, v => nuG f n (p + 1) (if 999 < v then v else 10 * v + f p - 48)
def nuF (t : Nat) (M : Mem) : Int32 := if isD (bA t (M 67) (M 62 7).toNatClampNeg) = true then nuG (M 67) ((M 62 8).toNatClampNeg - (M 62 7).toNatClampNeg) (M 62 7).toNatClampNeg 0 else 0
def numM (t : Nat) (h : Int) (M : Mem) : Mem := if M 62 10 = 0 then needM t (isD (bA t (M 67) (M 62 7).toNatClampNeg) && rng 0 h (nuF t M)) (ms M 62 9 (nuF t M)) else M
theorem l_X9_word {t : Nat} (ht : t ≤ 120) {p r : Nat} (hpr : p ≤ r) (hr : r ≤ t) (M : Mem) (h6 : M 62 6 = nI t) (h7 : M 62 7 = nI p) (h8 : M 62 8 = nI r) : ∀ (n q : Nat) (l : Int64), q + n = r → V m_X9_word 7 [(0, .ref 62), (1, .long l), (3, .int (nI q))] [] M (RT (some (.long (if M 62 10 = 0 ∧ isL (bA t (M 67) p) = true then wG (M 67) n q l else 0))) M) := by
  intro n
  induction n with
  | zero =>
    intro q l hq
    refine V.iload_n dX9_word_7 rfl rfl rfl ?_
    refine V.aload_n dX9_word_8 rfl rfl rfl ?_
    refine V.geti (v := nI r) dX9_word_9 fg_X9_230 rfl rfl h8 rfl ?_
    refine V.icmp_ge (tgt := 50) dX9_word_12 rfl rfl (fun c12 => ?_) (fun c12 => absurd ((nI_leI (a := r) (b := q) (by omega) (by omega)).mpr (by omega)) c12)
    have c12 : r ≤ q := (nI_leI (a := r) (b := q) (by omega) (by omega)).mp c12
    refine V.aload_n dX9_word_50 rfl rfl rfl ?_
    refine V.geti (v := M 62 10) dX9_word_51 fg_X9_245 rfl rfl rfl rfl ?_
    refine V.if_ne (tgt := 71) dX9_word_54 rfl rfl (fun c54 => ?_) (fun c54 => ?_)
    · skip
      refine V.lconst (v := 0) dX9_word_71 rfl rfl ?_
      refine V.goto (pc' := 76) dX9_word_72 rfl ?_
      exact V.lret dX9_word_76 rfl ⟨(by rw [if_neg (fun q => c54 q.1)]), rfl⟩
    · skip
      refine V.aload_n dX9_word_57 rfl rfl rfl ?_
      refine V.aload_n dX9_word_58 rfl rfl rfl ?_
      refine V.geti (v := nI p) dX9_word_59 fg_X9_233 rfl rfl h7 rfl ?_
      refine V.callv_i (M1 := M) (v := bA t (M 67) p) (md' := m_X9_byteAt) (As := [.int (nI p)]) (rest := []) dX9_word_62 ml_X9_236 mo_X9_byteAt ⟨Nat.le_of_ble_eq_true rfl, Nat.le_of_ble_eq_true rfl⟩ rfl ⟨_, _, rfl⟩ (Nat.le_of_ble_eq_true rfl) rfl rfl (Nat.le_of_ble_eq_true rfl) (v_X9_byteAt ht (p := p) (by omega) M h6) rfl ?_
      refine V.calls_i (M1 := M) (v := if isL (bA t (M 67) p) then 1 else 0) (md' := m_X9_isLetter) (As := [.int (bA t (M 67) p)]) (rest := []) dX9_word_65 ml_X9_239 mo_X9_isLetter ⟨Nat.le_of_ble_eq_true rfl, Nat.le_of_ble_eq_true rfl⟩ (Nat.le_of_ble_eq_true rfl) rfl rfl (Nat.le_of_ble_eq_true rfl) (v_X9_isLetter (bA t (M 67) p) _) rfl ?_
      refine V.ifb_ne (tgt := 75) dX9_word_68 rfl rfl (fun c68 => ?_) (fun c68 => ?_)
      · skip
        refine V.lload_n dX9_word_75 rfl rfl rfl ?_
        exact V.lret dX9_word_76 rfl ⟨(by rw [if_pos ⟨c54, c68⟩]; rfl), rfl⟩
      · skip
        refine V.lconst (v := 0) dX9_word_71 rfl rfl ?_
        refine V.goto (pc' := 76) dX9_word_72 rfl ?_
        exact V.lret dX9_word_76 rfl ⟨(by rw [if_neg (fun q => c68 q.2)]), rfl⟩
  | succ n ih =>
    intro q l hq
    refine V.iload_n dX9_word_7 rfl rfl rfl ?_
    refine V.aload_n dX9_word_8 rfl rfl rfl ?_
    refine V.geti (v := nI r) dX9_word_9 fg_X9_230 rfl rfl h8 rfl ?_
    refine V.icmp_ge (tgt := 50) dX9_word_12 rfl rfl (fun c12 => absurd ((nI_leI (a := r) (b := q) (by omega) (by omega)).mp c12) (by omega)) (fun c12 => ?_)
    have c12 : ¬ r ≤ q := fun zq => c12 ((nI_leI (a := r) (b := q) (by omega) (by omega)).mpr zq)
    refine V.lload_n dX9_word_15 rfl rfl rfl ?_
    refine V.ldc2 (v := 36028797018963967) dX9_word_16 cl_X9_252 rfl ?_
    refine V.lcmp dX9_word_19 rfl ?_
    refine V.if_le (tgt := 27) dX9_word_20 rfl rfl (fun c20 => ?_) (fun c20 => ?_)
    · have c20 := (lg_cmp_le _ _).mp c20
      refine V.ldc2 (v := 32) dX9_word_27 cl_X9_254 rfl ?_
      refine V.lload_n dX9_word_30 rfl rfl rfl ?_
      refine V.lmul (v := 32 * l) dX9_word_31 rfl rfl ?_
      refine V.aload_n dX9_word_32 rfl rfl rfl ?_
      refine V.getr dX9_word_33 fg_X9_22 rfl rfl rfl ?_
      refine V.iload_n dX9_word_36 rfl rfl rfl ?_
      refine V.ialdN (j := q) (v := M 67 q) dX9_word_37 rfl (by omega) (by decide) rfl rfl rfl ?_
      refine V.bipush (v := 96) dX9_word_38 (by decide) rfl ?_
      refine V.isub (v := (M 67 q) - 96) dX9_word_40 rfl rfl ?_
      refine V.i2l (v := Int32.toInt64 ((M 67 q) - 96)) dX9_word_41 rfl rfl ?_
      refine V.ladd (v := (32 * l) + (Int32.toInt64 ((M 67 q) - 96))) dX9_word_42 rfl rfl ?_
      refine V.lst_n dX9_word_43 rfl (by decide) (L' := [(0, .ref 62), (1, .long ((32 * l) + (Int32.toInt64 ((M 67 q) - 96)))), (3, .int (nI q))]) rfl rfl ?_
      refine V.inc (v := nI (q + 1)) dX9_word_44 rfl (nI_1 _) (by decide) (L' := [(0, .ref 62), (1, .long ((32 * l) + (Int32.toInt64 ((M 67 q) - 96)))), (3, .int (nI (q + 1)))]) rfl rfl ?_
      refine V.goto (pc' := 7) dX9_word_47 rfl ?_
      rw [show wG (M 67) (n + 1) q l = wG (M 67) n (q + 1) ((32 * l) + (Int32.toInt64 ((M 67 q) - 96))) from by simp only [wG]; rw [if_neg (Int64.not_lt.mpr c20)]]
      exact ih (q + 1) _ (by omega)
    · have c20 : ¬ l ≤ 36028797018963967 := fun zq => c20 ((lg_cmp_le _ _).mpr zq)
      refine V.lload_n dX9_word_23 rfl rfl rfl ?_
      refine V.goto (pc' := 43) dX9_word_24 rfl ?_
      refine V.lst_n dX9_word_43 rfl (by decide) (L' := [(0, .ref 62), (1, .long l), (3, .int (nI q))]) rfl rfl ?_
      refine V.inc (v := nI (q + 1)) dX9_word_44 rfl (nI_1 _) (by decide) (L' := [(0, .ref 62), (1, .long l), (3, .int (nI (q + 1)))]) rfl rfl ?_
      refine V.goto (pc' := 7) dX9_word_47 rfl ?_
      rw [show wG (M 67) (n + 1) q l = wG (M 67) n (q + 1) l from by simp only [wG]; rw [if_pos (Int64.not_le.mp c20)]]
      exact ih (q + 1) _ (by omega)
theorem v_X9_word {t : Nat} (ht : t ≤ 120) (M : Mem) (hT : TK t M) : V m_X9_word 0 [(0, .ref 62)] [] M (RT (some (.long (wdF t M))) M) := by
  obtain ⟨h6, ⟨p, r, hpr, hr, hpt, h7, h8⟩, h10⟩ := hT
  refine V.lconst (v := 0) dX9_word_0 rfl rfl ?_
  refine V.lst_n dX9_word_1 rfl (by decide) (L' := [(0, .ref 62), (1, .long 0)]) rfl rfl ?_
  refine V.aload_n dX9_word_2 rfl rfl rfl ?_
  refine V.geti (v := nI p) dX9_word_3 fg_X9_233 rfl rfl h7 rfl ?_
  refine V.ist_n dX9_word_6 rfl (by decide) (L' := [(0, .ref 62), (1, .long 0), (3, .int (nI p))]) rfl rfl ?_
  rw [wdF, h7, h8, nI_clamp (by omega), nI_clamp (by omega)]
  exact V.loc (L' := [(0, .ref 62), (1, .long 0), (3, .int (nI p))]) (fun zq zh => zh) (l_X9_word ht hpr hr M h6 h7 h8 (r - p) p 0 (by omega))
theorem l_X9_number {t : Nat} (ht : t ≤ 120) {p r : Nat} (hpr : p ≤ r) (hr : r ≤ t) (hi : Int32) (Q : Option Value → Mem → Prop) (M : Mem) (h8 : M 62 8 = nI r) : ∀ (n q : Nat) (v : Int32), q + n = r → V m_X9_number 79 [(0, .ref 62), (1, .int 0), (2, .int hi), (3, .int 1), (4, .int (nuG (M 67) n q v))] [] M Q → V m_X9_number 29 [(0, .ref 62), (1, .int 0), (2, .int hi), (3, .int 1), (4, .int v), (5, .int (nI q))] [] M Q := by
  intro n
  induction n with
  | zero =>
    intro q v hq K
    refine V.iload dX9_number_29 rfl rfl ?_
    refine V.aload_n dX9_number_31 rfl rfl rfl ?_
    refine V.geti (v := nI r) dX9_number_32 fg_X9_230 rfl rfl h8 rfl ?_
    refine V.icmp_ge (tgt := 79) dX9_number_35 rfl rfl (fun c35 => ?_) (fun c35 => absurd ((nI_leI (a := r) (b := q) (by omega) (by omega)).mpr (by omega)) c35)
    have c35 : r ≤ q := (nI_leI (a := r) (b := q) (by omega) (by omega)).mp c35
    refine V.loc (L' := [(0, .ref 62), (1, .int 0), (2, .int hi), (3, .int 1), (4, .int v)]) (fun zq zh => List.mem_append_left [(5, Value.int (nI q))] zh) ?_
    exact K
  | succ n ih =>
    intro q v hq K
    refine V.iload dX9_number_29 rfl rfl ?_
    refine V.aload_n dX9_number_31 rfl rfl rfl ?_
    refine V.geti (v := nI r) dX9_number_32 fg_X9_230 rfl rfl h8 rfl ?_
    refine V.icmp_ge (tgt := 79) dX9_number_35 rfl rfl (fun c35 => absurd ((nI_leI (a := r) (b := q) (by omega) (by omega)).mp c35) (by omega)) (fun c35 => ?_)
    have c35 : ¬ r ≤ q := fun zq => c35 ((nI_leI (a := r) (b := q) (by omega) (by omega)).mpr zq)
    refine V.iload_n dX9_number_38 rfl rfl rfl ?_
    refine V.if_eq (tgt := 79) dX9_number_39 rfl rfl (fun c39 => absurd c39 (by decide)) (fun _ => ?_)
    refine V.iload dX9_number_42 rfl rfl ?_
    refine V.sipush (v := 999) dX9_number_44 (by decide) rfl ?_
    refine V.icmp_le (tgt := 55) dX9_number_47 rfl rfl (fun c47 => ?_) (fun c47 => ?_)
    · skip
      refine V.bipush (v := 10) dX9_number_55 (by decide) rfl ?_
      refine V.iload dX9_number_57 rfl rfl ?_
      refine V.imul (v := 10 * v) dX9_number_59 rfl rfl ?_
      refine V.aload_n dX9_number_60 rfl rfl rfl ?_
      refine V.getr dX9_number_61 fg_X9_22 rfl rfl rfl ?_
      refine V.iload dX9_number_64 rfl rfl ?_
      refine V.ialdN (j := q) (v := M 67 q) dX9_number_66 rfl (by omega) (by decide) rfl rfl rfl ?_
      refine V.iadd (v := (10 * v) + (M 67 q)) dX9_number_67 rfl rfl ?_
      refine V.bipush (v := 48) dX9_number_68 (by decide) rfl ?_
      refine V.isub (v := ((10 * v) + (M 67 q)) - 48) dX9_number_70 rfl rfl ?_
      refine V.ist dX9_number_71 (by decide) (L' := [(0, .ref 62), (1, .int 0), (2, .int hi), (3, .int 1), (4, .int (((10 * v) + (M 67 q)) - 48)), (5, .int (nI q))]) rfl rfl ?_
      refine V.inc (v := nI (q + 1)) dX9_number_73 rfl (nI_1 _) (by decide) (L' := [(0, .ref 62), (1, .int 0), (2, .int hi), (3, .int 1), (4, .int (((10 * v) + (M 67 q)) - 48)), (5, .int (nI (q + 1)))]) rfl rfl ?_
      refine V.goto (pc' := 29) dX9_number_76 rfl ?_
      refine ih (q + 1) (((10 * v) + (M 67 q)) - 48) (by omega) ?_
      rw [show nuG (M 67) (n + 1) q v = nuG (M 67) n (q + 1) (((10 * v) + (M 67 q)) - 48) from by simp only [nuG]; rw [if_neg (Int32.not_lt.mpr c47)]] at K
      exact K
    · skip
      refine V.iload dX9_number_50 rfl rfl ?_
      refine V.goto (pc' := 71) dX9_number_52 rfl ?_
      refine V.ist dX9_number_71 (by decide) (L' := [(0, .ref 62), (1, .int 0), (2, .int hi), (3, .int 1), (4, .int v), (5, .int (nI q))]) rfl rfl ?_
      refine V.inc (v := nI (q + 1)) dX9_number_73 rfl (nI_1 _) (by decide) (L' := [(0, .ref 62), (1, .int 0), (2, .int hi), (3, .int 1), (4, .int v), (5, .int (nI (q + 1)))]) rfl rfl ?_
      refine V.goto (pc' := 29) dX9_number_76 rfl ?_
      refine ih (q + 1) v (by omega) ?_
      rw [show nuG (M 67) (n + 1) q v = nuG (M 67) n (q + 1) v from by simp only [nuG]; rw [if_pos (Int32.not_le.mp c47)]] at K
      exact K
theorem v_X9_number {t : Nat} (ht : t ≤ 120) {hi : Int32} {h : Int} (hh : hi.toInt = h) (M : Mem) (hT : TK t M) : V m_X9_number 0 [(0, .ref 62), (1, .int 0), (2, .int hi)] [] M (RT none (numM t h M)) := by
  have hT0 := hT
  obtain ⟨h6, ⟨p, r, hpr, hr, hpt, h7, h8⟩, h10⟩ := hT
  refine V.aload_n dX9_number_0 rfl rfl rfl ?_
  refine V.geti (v := M 62 10) dX9_number_1 fg_X9_245 rfl rfl rfl rfl ?_
  refine V.if_eq (tgt := 8) dX9_number_4 rfl rfl (fun c4 => ?_) (fun c4 => ?_)
  · skip
    refine V.aload_n dX9_number_8 rfl rfl rfl ?_
    refine V.aload_n dX9_number_9 rfl rfl rfl ?_
    refine V.geti (v := nI p) dX9_number_10 fg_X9_233 rfl rfl h7 rfl ?_
    refine V.callv_i (M1 := M) (v := bA t (M 67) p) (md' := m_X9_byteAt) (As := [.int (nI p)]) (rest := []) dX9_number_13 ml_X9_236 mo_X9_byteAt ⟨Nat.le_of_ble_eq_true rfl, Nat.le_of_ble_eq_true rfl⟩ rfl ⟨_, _, rfl⟩ (Nat.le_of_ble_eq_true rfl) rfl rfl (Nat.le_of_ble_eq_true rfl) (v_X9_byteAt ht (p := p) (by omega) M h6) rfl ?_
    refine V.calls_i (M1 := M) (v := oI (isD (bA t (M 67) p))) (md' := m_X9_isDigit) (As := [.int (bA t (M 67) p)]) (rest := []) dX9_number_16 ml_X9_242 mo_X9_isDigit ⟨Nat.le_of_ble_eq_true rfl, Nat.le_of_ble_eq_true rfl⟩ (Nat.le_of_ble_eq_true rfl) rfl rfl (Nat.le_of_ble_eq_true rfl) (by have h := v_X9_isDigit (bA t (M 67) p) M; rw [oI_d] at h; rw [show decide (isD (bA t (M 67) p) = true) = isD (bA t (M 67) p) from by simp] at h; exact h) rfl ?_
    rcases dd : isD (bA t (M 67) p) with _ | _
    · skip
      refine V.ist_n dX9_number_19 rfl (by decide) (L' := [(0, .ref 62), (1, .int 0), (2, .int hi), (3, .int 0)]) rfl rfl ?_
      refine V.iconst (v := 0) dX9_number_20 rfl rfl ?_
      refine V.ist dX9_number_21 (by decide) (L' := [(0, .ref 62), (1, .int 0), (2, .int hi), (3, .int 0), (4, .int 0)]) rfl rfl ?_
      refine V.aload_n dX9_number_23 rfl rfl rfl ?_
      refine V.geti (v := nI p) dX9_number_24 fg_X9_233 rfl rfl h7 rfl ?_
      refine V.ist dX9_number_27 (by decide) (L' := [(0, .ref 62), (1, .int 0), (2, .int hi), (3, .int 0), (4, .int 0), (5, .int (nI p))]) rfl rfl ?_
      refine V.iload dX9_number_29 rfl rfl ?_
      refine V.aload_n dX9_number_31 rfl rfl rfl ?_
      refine V.geti (v := nI r) dX9_number_32 fg_X9_230 rfl rfl h8 rfl ?_
      refine V.icmp_ge (tgt := 79) dX9_number_35 rfl rfl (fun c35 => ?_) (fun c35 => ?_)
      · have c35 : r ≤ p := (nI_leI (a := r) (b := p) (by omega) (by omega)).mp c35
        refine V.loc (L' := [(0, .ref 62), (1, .int 0), (2, .int hi), (3, .int 0), (4, .int 0)]) (fun zq zh => List.mem_append_left [(5, Value.int (nI p))] zh) ?_
        refine V.loc (L' := [(0, .ref 62), (1, .int 0), (2, .int hi), (3, .int 0), (4, .int (nuF t M))]) (by rw [show nuF t M = 0 from by rw [nuF, h7, nI_clamp (by omega), dd]; rfl]; exact fun _ zh => zh) ?_
        refine V.aload_n dX9_number_79 rfl rfl rfl ?_
        refine V.iload dX9_number_80 rfl rfl ?_
        refine V.puti dX9_number_82 fp_X9_256 rfl rfl rfl rfl (M' := (ms M 62 9 (nuF t M))) rfl rfl ?_
        refine V.aload_n dX9_number_85 rfl rfl rfl ?_
        refine V.iload_n dX9_number_86 rfl rfl rfl ?_
        refine V.if_eq (tgt := 107) dX9_number_87 rfl rfl (fun _ => ?_) (fun c87 => absurd c87 (by decide))
        refine V.iconst (v := 0) dX9_number_107 rfl rfl ?_
        refine V.callv_v (M1 := numM t h M) (md' := m_X9_needs) (As := [.int 0]) (rest := []) dX9_number_108 ml_X9_259 mo_X9_needs ⟨Nat.le_of_ble_eq_true rfl, Nat.le_of_ble_eq_true rfl⟩ rfl ⟨_, _, rfl⟩ (Nat.le_of_ble_eq_true rfl) rfl rfl (Nat.le_of_ble_eq_true rfl) (by rw [show numM t h M = needM t false (ms M 62 9 (nuF t M)) from by rw [numM, if_pos c4, h7, nI_clamp (by omega), dd, Bool.false_and]]; exact v_X9_needs ht false _ (TK_v hT0)) rfl ?_
        exact V.vret dX9_number_111 rfl ⟨rfl, rfl⟩
      · have c35 : ¬ r ≤ p := fun zq => c35 ((nI_leI (a := r) (b := p) (by omega) (by omega)).mpr zq)
        refine V.iload_n dX9_number_38 rfl rfl rfl ?_
        refine V.if_eq (tgt := 79) dX9_number_39 rfl rfl (fun _ => ?_) (fun c39 => absurd c39 (by decide))
        refine V.loc (L' := [(0, .ref 62), (1, .int 0), (2, .int hi), (3, .int 0), (4, .int 0)]) (fun zq zh => List.mem_append_left [(5, Value.int (nI p))] zh) ?_
        refine V.loc (L' := [(0, .ref 62), (1, .int 0), (2, .int hi), (3, .int 0), (4, .int (nuF t M))]) (by rw [show nuF t M = 0 from by rw [nuF, h7, nI_clamp (by omega), dd]; rfl]; exact fun _ zh => zh) ?_
        refine V.aload_n dX9_number_79 rfl rfl rfl ?_
        refine V.iload dX9_number_80 rfl rfl ?_
        refine V.puti dX9_number_82 fp_X9_256 rfl rfl rfl rfl (M' := (ms M 62 9 (nuF t M))) rfl rfl ?_
        refine V.aload_n dX9_number_85 rfl rfl rfl ?_
        refine V.iload_n dX9_number_86 rfl rfl rfl ?_
        refine V.if_eq (tgt := 107) dX9_number_87 rfl rfl (fun _ => ?_) (fun c87 => absurd c87 (by decide))
        refine V.iconst (v := 0) dX9_number_107 rfl rfl ?_
        refine V.callv_v (M1 := numM t h M) (md' := m_X9_needs) (As := [.int 0]) (rest := []) dX9_number_108 ml_X9_259 mo_X9_needs ⟨Nat.le_of_ble_eq_true rfl, Nat.le_of_ble_eq_true rfl⟩ rfl ⟨_, _, rfl⟩ (Nat.le_of_ble_eq_true rfl) rfl rfl (Nat.le_of_ble_eq_true rfl) (by rw [show numM t h M = needM t false (ms M 62 9 (nuF t M)) from by rw [numM, if_pos c4, h7, nI_clamp (by omega), dd, Bool.false_and]]; exact v_X9_needs ht false _ (TK_v hT0)) rfl ?_
        exact V.vret dX9_number_111 rfl ⟨rfl, rfl⟩
    · skip
      refine V.ist_n dX9_number_19 rfl (by decide) (L' := [(0, .ref 62), (1, .int 0), (2, .int hi), (3, .int 1)]) rfl rfl ?_
      refine V.iconst (v := 0) dX9_number_20 rfl rfl ?_
      refine V.ist dX9_number_21 (by decide) (L' := [(0, .ref 62), (1, .int 0), (2, .int hi), (3, .int 1), (4, .int 0)]) rfl rfl ?_
      refine V.aload_n dX9_number_23 rfl rfl rfl ?_
      refine V.geti (v := nI p) dX9_number_24 fg_X9_233 rfl rfl h7 rfl ?_
      refine V.ist dX9_number_27 (by decide) (L' := [(0, .ref 62), (1, .int 0), (2, .int hi), (3, .int 1), (4, .int 0), (5, .int (nI p))]) rfl rfl ?_
      refine l_X9_number ht hpr hr hi _ M h8 (r - p) p 0 (by omega) ?_
      rw [show nuG (M 67) (r - p) p 0 = nuF t M from by rw [nuF, h7, h8, nI_clamp (by omega), nI_clamp (by omega), if_pos dd]]
      refine V.aload_n dX9_number_79 rfl rfl rfl ?_
      refine V.iload dX9_number_80 rfl rfl ?_
      refine V.puti dX9_number_82 fp_X9_256 rfl rfl rfl rfl (M' := (ms M 62 9 (nuF t M))) rfl rfl ?_
      refine V.aload_n dX9_number_85 rfl rfl rfl ?_
      refine V.iload_n dX9_number_86 rfl rfl rfl ?_
      refine V.if_eq (tgt := 107) dX9_number_87 rfl rfl (fun c87 => absurd c87 (by decide)) (fun _ => ?_)
      refine V.iload dX9_number_90 rfl rfl ?_
      refine V.i2l (v := Int32.toInt64 (nuF t M)) dX9_number_92 rfl rfl ?_
      refine V.iload_n dX9_number_93 rfl rfl rfl ?_
      refine V.i2l (v := Int32.toInt64 0) dX9_number_94 rfl rfl ?_
      refine V.iload_n dX9_number_95 rfl rfl rfl ?_
      refine V.i2l (v := Int32.toInt64 hi) dX9_number_96 rfl rfl ?_
      refine V.calls_i (M1 := (ms M 62 9 (nuF t M))) (v := if rng 0 h (nuF t M) then 1 else 0) (md' := m_X9_in) (As := [.long (Int32.toInt64 (nuF t M)), .long (Int32.toInt64 0), .long (Int32.toInt64 hi)]) (rest := [.ref 62]) dX9_number_97 ml_X9_38 mo_X9_in ⟨Nat.le_of_ble_eq_true rfl, Nat.le_of_ble_eq_true rfl⟩ (Nat.le_of_ble_eq_true rfl) rfl rfl (Nat.le_of_ble_eq_true rfl) (v_X9_in (x := nuF t M) (lo := Int32.toInt64 0) (hi := hi.toInt64) (a := 0) (b := h) rfl (by rw [Int32.toInt_toInt64, hh]) _) rfl ?_
      refine V.ifb_eq (tgt := 107) dX9_number_100 rfl rfl (fun c100 => ?_) (fun c100 => ?_)
      · skip
        refine V.iconst (v := 0) dX9_number_107 rfl rfl ?_
        refine V.callv_v (M1 := numM t h M) (md' := m_X9_needs) (As := [.int 0]) (rest := []) dX9_number_108 ml_X9_259 mo_X9_needs ⟨Nat.le_of_ble_eq_true rfl, Nat.le_of_ble_eq_true rfl⟩ rfl ⟨_, _, rfl⟩ (Nat.le_of_ble_eq_true rfl) rfl rfl (Nat.le_of_ble_eq_true rfl) (by rw [show numM t h M = needM t false (ms M 62 9 (nuF t M)) from by rw [numM, if_pos c4, h7, nI_clamp (by omega), dd, Bool.eq_false_iff.mpr c100, Bool.true_and]]; exact v_X9_needs ht false _ (TK_v hT0)) rfl ?_
        exact V.vret dX9_number_111 rfl ⟨rfl, rfl⟩
      · skip
        refine V.iconst (v := 1) dX9_number_103 rfl rfl ?_
        refine V.goto (pc' := 108) dX9_number_104 rfl ?_
        refine V.callv_v (M1 := numM t h M) (md' := m_X9_needs) (As := [.int 1]) (rest := []) dX9_number_108 ml_X9_259 mo_X9_needs ⟨Nat.le_of_ble_eq_true rfl, Nat.le_of_ble_eq_true rfl⟩ rfl ⟨_, _, rfl⟩ (Nat.le_of_ble_eq_true rfl) rfl rfl (Nat.le_of_ble_eq_true rfl) (by rw [show numM t h M = needM t true (ms M 62 9 (nuF t M)) from by rw [numM, if_pos c4, h7, nI_clamp (by omega), dd, c100, Bool.true_and]]; exact v_X9_needs ht true _ (TK_v hT0)) rfl ?_
        exact V.vret dX9_number_111 rfl ⟨rfl, rfl⟩
  · skip
    exact V.vret dX9_number_7 rfl ⟨rfl, (by rw [numM, if_neg c4])⟩
def kI (l : Int64) : Int32 := if l = 15028 then 0 else if l = 12634341 then 1 else if l = 20350348 then 2 else if l = 20681908 then 3 else if l = 18487 then 4 else if l = 788083876 then 5 else if l = 15748 then 6 else -1
def plI (l : Int64) : Int32 := if l = 16430 then 1 else if l = 18733 then 2 else if l = 267312 then 3 else 0
theorem v_X9_kindHere {t : Nat} (ht : t ≤ 120) (M : Mem) (hT : TK t M) : V m_X9_kindHere 0 [(0, .ref 62)] [] M (RT (some (.int (kI (wdF t M)))) M) := by
  refine V.aload_n dX9_kindHere_0 rfl rfl rfl ?_
  refine V.callv_l (M1 := M) (v := wdF t M) (md' := m_X9_word) (As := []) (rest := []) dX9_kindHere_1 ml_X9_263 mo_X9_word ⟨Nat.le_of_ble_eq_true rfl, Nat.le_of_ble_eq_true rfl⟩ rfl ⟨_, _, rfl⟩ (Nat.le_of_ble_eq_true rfl) rfl rfl (Nat.le_of_ble_eq_true rfl) (v_X9_word ht _ hT) rfl ?_
  refine V.lst_n dX9_kindHere_4 rfl (by decide) (L' := [(0, .ref 62), (1, .long (wdF t M))]) rfl rfl ?_
  refine V.lload_n dX9_kindHere_5 rfl rfl rfl ?_
  refine V.ldc2 (v := 15028) dX9_kindHere_6 cl_X9_267 rfl ?_
  refine V.lcmp dX9_kindHere_9 rfl ?_
  refine V.if_ne (tgt := 17) dX9_kindHere_10 rfl rfl (fun c10 => ?_) (fun c10 => ?_)
  · have c10 : ¬ (wdF t M) = 15028 := fun zq => c10 ((lg_cmp_eq _ _).mpr zq)
    refine V.lload_n dX9_kindHere_17 rfl rfl rfl ?_
    refine V.ldc2 (v := 12634341) dX9_kindHere_18 cl_X9_269 rfl ?_
    refine V.lcmp dX9_kindHere_21 rfl ?_
    refine V.if_ne (tgt := 29) dX9_kindHere_22 rfl rfl (fun c22 => ?_) (fun c22 => ?_)
    · have c22 : ¬ (wdF t M) = 12634341 := fun zq => c22 ((lg_cmp_eq _ _).mpr zq)
      refine V.lload_n dX9_kindHere_29 rfl rfl rfl ?_
      refine V.ldc2 (v := 20350348) dX9_kindHere_30 cl_X9_271 rfl ?_
      refine V.lcmp dX9_kindHere_33 rfl ?_
      refine V.if_ne (tgt := 41) dX9_kindHere_34 rfl rfl (fun c34 => ?_) (fun c34 => ?_)
      · have c34 : ¬ (wdF t M) = 20350348 := fun zq => c34 ((lg_cmp_eq _ _).mpr zq)
        refine V.lload_n dX9_kindHere_41 rfl rfl rfl ?_
        refine V.ldc2 (v := 20681908) dX9_kindHere_42 cl_X9_273 rfl ?_
        refine V.lcmp dX9_kindHere_45 rfl ?_
        refine V.if_ne (tgt := 53) dX9_kindHere_46 rfl rfl (fun c46 => ?_) (fun c46 => ?_)
        · have c46 : ¬ (wdF t M) = 20681908 := fun zq => c46 ((lg_cmp_eq _ _).mpr zq)
          refine V.lload_n dX9_kindHere_53 rfl rfl rfl ?_
          refine V.ldc2 (v := 18487) dX9_kindHere_54 cl_X9_275 rfl ?_
          refine V.lcmp dX9_kindHere_57 rfl ?_
          refine V.if_ne (tgt := 65) dX9_kindHere_58 rfl rfl (fun c58 => ?_) (fun c58 => ?_)
          · have c58 : ¬ (wdF t M) = 18487 := fun zq => c58 ((lg_cmp_eq _ _).mpr zq)
            refine V.lload_n dX9_kindHere_65 rfl rfl rfl ?_
            refine V.ldc2 (v := 788083876) dX9_kindHere_66 cl_X9_277 rfl ?_
            refine V.lcmp dX9_kindHere_69 rfl ?_
            refine V.if_ne (tgt := 77) dX9_kindHere_70 rfl rfl (fun c70 => ?_) (fun c70 => ?_)
            · have c70 : ¬ (wdF t M) = 788083876 := fun zq => c70 ((lg_cmp_eq _ _).mpr zq)
              refine V.lload_n dX9_kindHere_77 rfl rfl rfl ?_
              refine V.ldc2 (v := 15748) dX9_kindHere_78 cl_X9_279 rfl ?_
              refine V.lcmp dX9_kindHere_81 rfl ?_
              refine V.if_ne (tgt := 90) dX9_kindHere_82 rfl rfl (fun c82 => ?_) (fun c82 => ?_)
              · have c82 : ¬ (wdF t M) = 15748 := fun zq => c82 ((lg_cmp_eq _ _).mpr zq)
                refine V.iconst (v := -1) dX9_kindHere_90 rfl rfl ?_
                exact V.ret dX9_kindHere_91 rfl rfl ⟨(by simp [kI, c10, c22, c34, c46, c58, c70, c82]), rfl⟩
              · have c82 := (lg_cmp_eq _ _).mp c82
                refine V.bipush (v := 6) dX9_kindHere_85 (by decide) rfl ?_
                refine V.goto (pc' := 91) dX9_kindHere_87 rfl ?_
                exact V.ret dX9_kindHere_91 rfl rfl ⟨(by simp [kI, c10, c22, c34, c46, c58, c70, c82]), rfl⟩
            · have c70 := (lg_cmp_eq _ _).mp c70
              refine V.iconst (v := 5) dX9_kindHere_73 rfl rfl ?_
              refine V.goto (pc' := 91) dX9_kindHere_74 rfl ?_
              exact V.ret dX9_kindHere_91 rfl rfl ⟨(by simp [kI, c10, c22, c34, c46, c58, c70]), rfl⟩
          · have c58 := (lg_cmp_eq _ _).mp c58
            refine V.iconst (v := 4) dX9_kindHere_61 rfl rfl ?_
            refine V.goto (pc' := 91) dX9_kindHere_62 rfl ?_
            exact V.ret dX9_kindHere_91 rfl rfl ⟨(by simp [kI, c10, c22, c34, c46, c58]), rfl⟩
        · have c46 := (lg_cmp_eq _ _).mp c46
          refine V.iconst (v := 3) dX9_kindHere_49 rfl rfl ?_
          refine V.goto (pc' := 91) dX9_kindHere_50 rfl ?_
          exact V.ret dX9_kindHere_91 rfl rfl ⟨(by simp [kI, c10, c22, c34, c46]), rfl⟩
      · have c34 := (lg_cmp_eq _ _).mp c34
        refine V.iconst (v := 2) dX9_kindHere_37 rfl rfl ?_
        refine V.goto (pc' := 91) dX9_kindHere_38 rfl ?_
        exact V.ret dX9_kindHere_91 rfl rfl ⟨(by simp [kI, c10, c22, c34]), rfl⟩
    · have c22 := (lg_cmp_eq _ _).mp c22
      refine V.iconst (v := 1) dX9_kindHere_25 rfl rfl ?_
      refine V.goto (pc' := 91) dX9_kindHere_26 rfl ?_
      exact V.ret dX9_kindHere_91 rfl rfl ⟨(by simp [kI, c10, c22]), rfl⟩
  · have c10 := (lg_cmp_eq _ _).mp c10
    refine V.iconst (v := 0) dX9_kindHere_13 rfl rfl ?_
    refine V.goto (pc' := 91) dX9_kindHere_14 rfl ?_
    exact V.ret dX9_kindHere_91 rfl rfl ⟨(by simp [kI, c10]), rfl⟩
theorem v_X9_placeHere {t : Nat} (ht : t ≤ 120) (M : Mem) (hT : TK t M) : V m_X9_placeHere 0 [(0, .ref 62)] [] M (RT (some (.int (plI (wdF t M)))) M) := by
  refine V.aload_n dX9_placeHere_0 rfl rfl rfl ?_
  refine V.callv_l (M1 := M) (v := wdF t M) (md' := m_X9_word) (As := []) (rest := []) dX9_placeHere_1 ml_X9_263 mo_X9_word ⟨Nat.le_of_ble_eq_true rfl, Nat.le_of_ble_eq_true rfl⟩ rfl ⟨_, _, rfl⟩ (Nat.le_of_ble_eq_true rfl) rfl rfl (Nat.le_of_ble_eq_true rfl) (v_X9_word ht _ hT) rfl ?_
  refine V.lst_n dX9_placeHere_4 rfl (by decide) (L' := [(0, .ref 62), (1, .long (wdF t M))]) rfl rfl ?_
  refine V.lload_n dX9_placeHere_5 rfl rfl rfl ?_
  refine V.ldc2 (v := 16430) dX9_placeHere_6 cl_X9_281 rfl ?_
  refine V.lcmp dX9_placeHere_9 rfl ?_
  refine V.if_ne (tgt := 17) dX9_placeHere_10 rfl rfl (fun c10 => ?_) (fun c10 => ?_)
  · have c10 : ¬ (wdF t M) = 16430 := fun zq => c10 ((lg_cmp_eq _ _).mpr zq)
    refine V.lload_n dX9_placeHere_17 rfl rfl rfl ?_
    refine V.ldc2 (v := 18733) dX9_placeHere_18 cl_X9_283 rfl ?_
    refine V.lcmp dX9_placeHere_21 rfl ?_
    refine V.if_ne (tgt := 29) dX9_placeHere_22 rfl rfl (fun c22 => ?_) (fun c22 => ?_)
    · have c22 : ¬ (wdF t M) = 18733 := fun zq => c22 ((lg_cmp_eq _ _).mpr zq)
      refine V.lload_n dX9_placeHere_29 rfl rfl rfl ?_
      refine V.ldc2 (v := 267312) dX9_placeHere_30 cl_X9_285 rfl ?_
      refine V.lcmp dX9_placeHere_33 rfl ?_
      refine V.if_ne (tgt := 41) dX9_placeHere_34 rfl rfl (fun c34 => ?_) (fun c34 => ?_)
      · have c34 : ¬ (wdF t M) = 267312 := fun zq => c34 ((lg_cmp_eq _ _).mpr zq)
        refine V.iconst (v := 0) dX9_placeHere_41 rfl rfl ?_
        exact V.ret dX9_placeHere_42 rfl rfl ⟨(by simp [plI, c10, c22, c34]), rfl⟩
      · have c34 := (lg_cmp_eq _ _).mp c34
        refine V.iconst (v := 3) dX9_placeHere_37 rfl rfl ?_
        refine V.goto (pc' := 42) dX9_placeHere_38 rfl ?_
        exact V.ret dX9_placeHere_42 rfl rfl ⟨(by simp [plI, c10, c22, c34]), rfl⟩
    · have c22 := (lg_cmp_eq _ _).mp c22
      refine V.iconst (v := 2) dX9_placeHere_25 rfl rfl ?_
      refine V.goto (pc' := 42) dX9_placeHere_26 rfl ?_
      exact V.ret dX9_placeHere_42 rfl rfl ⟨(by simp [plI, c10, c22]), rfl⟩
  · have c10 := (lg_cmp_eq _ _).mp c10
    refine V.iconst (v := 1) dX9_placeHere_13 rfl rfl ?_
    refine V.goto (pc' := 42) dX9_placeHere_14 rfl ?_
    exact V.ret dX9_placeHere_42 rfl rfl ⟨(by simp [plI, c10]), rfl⟩
theorem TK_num {t : Nat} (ht : t ≤ 120) {h : Int} {M : Mem} (hT : TK t M) : TK t (numM t h M) := by
  unfold numM
  split
  · exact TK_need ht (TK_v hT)
  · exact hT
theorem num_k {t k : Nat} {h : Int} {M : Mem} (hk : k ≠ 62) : numM t h M k = M k := by
  unfold numM
  split
  · rw [need_k hk, ms_k hk]
  · rfl
def peM (t : Nat) (b : Bool) (h : Int) (M : Mem) : Mem := if b = true then numM t h (needM t true M) else M
def peV (t : Nat) (b : Bool) (h : Int) (d : Int32) (M : Mem) : Int32 := if b = true then numM t h (needM t true M) 62 9 else d
theorem TK_pe {t : Nat} (ht : t ≤ 120) {b : Bool} {h : Int} {M : Mem} (hT : TK t M) : TK t (peM t b h M) := by
  unfold peM
  split
  · exact TK_num ht (TK_need ht hT)
  · exact hT
theorem pe_k {t k : Nat} {b : Bool} {h : Int} {M : Mem} (hk : k ≠ 62) : peM t b h M k = M k := by
  unfold peM
  split
  · rw [num_k hk, need_k hk]
  · rfl
theorem num_w {t : Nat} {h : Int} {M : Mem} (h0 : numM t h M 62 10 = 0) : M 62 10 = 0 := by
  unfold numM at h0
  split at h0
  · next q => exact q
  · exact h0
theorem pe_w {t : Nat} {b : Bool} {h : Int} {M : Mem} (h0 : peM t b h M 62 10 = 0) : M 62 10 = 0 := by
  unfold peM at h0
  split at h0
  · exact (need_w.mp (num_w h0)).1
  · exact h0
theorem v_X9_perhaps_f {t : Nat} (ht : t ≤ 120) {hi d : Int32} {h : Int} (hh : hi.toInt = h) (M : Mem) (hT : TK t M) : V m_X9_perhaps 0 [(0, .ref 62), (1, .int (oI false)), (2, .int hi), (3, .int d)] [] M (RT (some (.int (peV t false h d M))) (peM t false h M)) := by
  refine V.iload_n dX9_perhaps_0 rfl rfl rfl ?_
  refine V.if_ne (tgt := 6) dX9_perhaps_1 rfl rfl (fun c1 => absurd c1 (by decide)) (fun _ => ?_)
  refine V.iload_n dX9_perhaps_4 rfl rfl rfl ?_
  exact V.ret dX9_perhaps_5 rfl rfl ⟨rfl, rfl⟩
theorem v_X9_perhaps_t {t : Nat} (ht : t ≤ 120) {hi d : Int32} {h : Int} (hh : hi.toInt = h) (M : Mem) (hT : TK t M) : V m_X9_perhaps 0 [(0, .ref 62), (1, .int (oI true)), (2, .int hi), (3, .int d)] [] M (RT (some (.int (peV t true h d M))) (peM t true h M)) := by
  refine V.iload_n dX9_perhaps_0 rfl rfl rfl ?_
  refine V.if_ne (tgt := 6) dX9_perhaps_1 rfl rfl (fun _ => ?_) (fun c1 => absurd c1 (by decide))
  refine V.aload_n dX9_perhaps_6 rfl rfl rfl ?_
  refine V.iconst (v := 1) dX9_perhaps_7 rfl rfl ?_
  refine V.callv_v (M1 := needM t true M) (md' := m_X9_needs) (As := [.int 1]) (rest := []) dX9_perhaps_8 ml_X9_259 mo_X9_needs ⟨Nat.le_of_ble_eq_true rfl, Nat.le_of_ble_eq_true rfl⟩ rfl ⟨_, _, rfl⟩ (Nat.le_of_ble_eq_true rfl) rfl rfl (Nat.le_of_ble_eq_true rfl) (v_X9_needs ht true M hT) rfl ?_
  refine V.aload_n dX9_perhaps_11 rfl rfl rfl ?_
  refine V.iconst (v := 0) dX9_perhaps_12 rfl rfl ?_
  refine V.iload_n dX9_perhaps_13 rfl rfl rfl ?_
  refine V.callv_v (M1 := numM t h (needM t true M)) (md' := m_X9_number) (As := [.int 0, .int hi]) (rest := []) dX9_perhaps_14 ml_X9_287 mo_X9_number ⟨Nat.le_of_ble_eq_true rfl, Nat.le_of_ble_eq_true rfl⟩ rfl ⟨_, _, rfl⟩ (Nat.le_of_ble_eq_true rfl) rfl rfl (Nat.le_of_ble_eq_true rfl) (v_X9_number ht hh _ (TK_need ht hT)) rfl ?_
  refine V.aload_n dX9_perhaps_17 rfl rfl rfl ?_
  refine V.geti (v := (numM t h (needM t true M)) 62 9) dX9_perhaps_18 fg_X9_256 rfl rfl rfl rfl ?_
  exact V.ret dX9_perhaps_21 rfl rfl ⟨rfl, rfl⟩
theorem v_X9_perhaps {t : Nat} (ht : t ≤ 120) (b : Bool) {hi d : Int32} {h : Int} (hh : hi.toInt = h) (M : Mem) (hT : TK t M) : V m_X9_perhaps 0 [(0, .ref 62), (1, .int (oI b)), (2, .int hi), (3, .int d)] [] M (RT (some (.int (peV t b h d M))) (peM t b h M)) := by
  cases b
  · exact v_X9_perhaps_f ht hh M hT
  · exact v_X9_perhaps_t ht hh M hT
