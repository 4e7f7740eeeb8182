/-! The text's constants; the tape's tokens -/
def sl (i : Nat) : Nat := sLen.getD i 0
def sb (i j : Nat) : Int32 := (sByt.getD i []).getD j 0
theorem sl_le : ∀ i, i < 17 → sl i ≤ 6 ∧ 2 ≤ sl i := by decide +kernel
theorem sb_ok : ∀ i, i < 17 → ∀ j, j < 6 → j < sl i → sb i j &&& 255 = sb i j ∧ ((sb i j).toUInt32 % 65536).toInt32 = sb i j ∧ narrow .char (.int (sb i j)) = .int (sb i j) := by decide +kernel
theorem V.getf2 {md : MD} {pc pc' idx : Nat} {L : List (Nat × Value)} {st : List Value} {M : Mem} {Q : Option Value → Mem → Prop} (hd : decode md.2.1 pc = .ok (.getstatic idx, 3)) (hlink : Cond.fieldLink md.1.cls idx "jdk/internal/util/Preconditions" "SIOOBE_FORMATTER" "Ljava/util/function/BiFunction;" ∈ TBL) (hp : pc + 3 = pc') (k1 : V md pc' L (.null :: st) M Q) (k2 : V md pc' L (.ref 98 :: st) M Q) : V md pc L st M Q := by
  subst hp
  intro p l e s m args below meth c cells slots Z ad D cI hC hE H locs ls hP hS hl
  rcases hC.2.2.2.2.2.2.2.2.2.1.2.2.2.1 with h | h
  · exact va_gets hC.1 hC.2.1 h hS hC.2.2.2.1 (hC.2.2.2.2.1 _ hlink) (fun _ h9 => h9) hd (k1 p l e s m args below meth c cells slots Z ad D cI hC hE H locs ls hP hS hl)
  · exact va_gets hC.1 hC.2.1 h hS hC.2.2.2.1 (hC.2.2.2.2.1 _ hlink) (fun _ h9 => h9) hd (k2 p l e s m args below meth c cells slots Z ad D cI hC hE H locs ls hP hS hl)
theorem v_coder {i : Nat} (hi : i < 17) (M : Mem) : V m_J0_coder_7d493 0 [(0, .ref (100 + i))] [] M (RT (some (.int 0)) M) := by
  refine V.gets dJ0_coder_7d493_0 fl_J0_38 rfl ?_
  refine V.if_eq (tgt := 13) dJ0_coder_7d493_3 rfl rfl (fun c3 => absurd c3 (by decide)) (fun _ => ?_)
  refine V.aload_n dJ0_coder_7d493_6 rfl rfl rfl ?_
  refine V.gsc hi dJ0_coder_7d493_7 fl_J0_15 rfl ?_
  refine V.goto (pc' := 14) dJ0_coder_7d493_10 rfl ?_
  exact V.ret dJ0_coder_7d493_14 rfl rfl ⟨rfl, rfl⟩
theorem v_isLatin1 {i : Nat} (hi : i < 17) (M : Mem) : V m_J0_isLatin1_aae02 0 [(0, .ref (100 + i))] [] M (RT (some (.int 1)) M) := by
  refine V.gets dJ0_isLatin1_aae02_0 fl_J0_38 rfl ?_
  refine V.if_eq (tgt := 17) dJ0_isLatin1_aae02_3 rfl rfl (fun c3 => absurd c3 (by decide)) (fun _ => ?_)
  refine V.aload_n dJ0_isLatin1_aae02_6 rfl rfl rfl ?_
  refine V.gsc hi dJ0_isLatin1_aae02_7 fl_J0_15 rfl ?_
  refine V.if_ne (tgt := 17) dJ0_isLatin1_aae02_10 rfl rfl (fun c10 => absurd c10 (by decide)) (fun _ => ?_)
  refine V.iconst (v := 1) dJ0_isLatin1_aae02_13 rfl rfl ?_
  refine V.goto (pc' := 18) dJ0_isLatin1_aae02_14 rfl ?_
  exact V.ret dJ0_isLatin1_aae02_18 rfl rfl ⟨rfl, rfl⟩
theorem v_length {i : Nat} (hi : i < 17) (M : Mem) : V m_J0_length_8abf5 0 [(0, .ref (100 + i))] [] M (RT (some (.int (nI (sl i)))) M) := by
  have hl := (sl_le i hi).1
  refine V.aload_n dJ0_length_8abf5_0 rfl rfl rfl ?_
  refine V.gsv hi dJ0_length_8abf5_1 fl_J0_9 rfl ?_
  refine V.blen (v := nI (sl i)) hi dJ0_length_8abf5_4 rfl rfl ?_
  refine V.aload_n dJ0_length_8abf5_5 rfl rfl rfl ?_
  refine V.callS_i hi (M1 := M) (v := 0) (md' := m_J0_coder_7d493) (As := []) (rest := [.int (nI (sl i))]) dJ0_length_8abf5_6 ml_J0_335 mo_J0_coder_7d493 ⟨Nat.le_of_ble_eq_true rfl, Nat.le_of_ble_eq_true rfl⟩ rfl (Nat.le_of_ble_eq_true rfl) rfl rfl (Nat.le_of_ble_eq_true rfl) (v_coder hi M) rfl ?_
  refine V.ishr (v := nI (sl i)) dJ0_length_8abf5_9 (sc_shr0 (by omega)) rfl ?_
  exact V.ret dJ0_length_8abf5_10 rfl rfl ⟨rfl, rfl⟩
theorem v_pre_n {j n : Nat} (hn : n ≤ 1000) (hj : j < n) (M : Mem) : V m_J3_checkIndex_8e157 0 [(0, .int (nI j)), (1, .int (nI n)), (2, .null)] [] M (RT (some (.int (nI j))) M) := by
  refine V.iload_n dJ3_checkIndex_8e157_0 rfl rfl rfl ?_
  refine V.if_lt (tgt := 9) dJ3_checkIndex_8e157_1 rfl rfl (fun c1 => absurd ((nI_ltI (a := j) (b := 0) (by omega) (by omega)).mp c1) (by omega)) (fun c1 => ?_)
  have c1 : ¬ j < 0 := fun zq => c1 ((nI_ltI (a := j) (b := 0) (by omega) (by omega)).mpr zq)
  refine V.iload_n dJ3_checkIndex_8e157_4 rfl rfl rfl ?_
  refine V.iload_n dJ3_checkIndex_8e157_5 rfl rfl rfl ?_
  refine V.icmp_lt (tgt := 16) dJ3_checkIndex_8e157_6 rfl rfl (fun c6 => ?_) (fun c6 => absurd ((nI_ltI (a := j) (b := n) (by omega) (by omega)).mpr (by omega)) c6)
  have c6 : j < n := (nI_ltI (a := j) (b := n) (by omega) (by omega)).mp c6
  refine V.iload_n dJ3_checkIndex_8e157_16 rfl rfl rfl ?_
  exact V.ret dJ3_checkIndex_8e157_17 rfl rfl ⟨rfl, rfl⟩
theorem v_pre_r {j n : Nat} (hn : n ≤ 1000) (hj : j < n) (M : Mem) : V m_J3_checkIndex_8e157 0 [(0, .int (nI j)), (1, .int (nI n)), (2, .ref 98)] [] M (RT (some (.int (nI j))) M) := by
  refine V.iload_n dJ3_checkIndex_8e157_0 rfl rfl rfl ?_
  refine V.if_lt (tgt := 9) dJ3_checkIndex_8e157_1 rfl rfl (fun c1 => absurd ((nI_ltI (a := j) (b := 0) (by omega) (by omega)).mp c1) (by omega)) (fun c1 => ?_)
  have c1 : ¬ j < 0 := fun zq => c1 ((nI_ltI (a := j) (b := 0) (by omega) (by omega)).mpr zq)
  refine V.iload_n dJ3_checkIndex_8e157_4 rfl rfl rfl ?_
  refine V.iload_n dJ3_checkIndex_8e157_5 rfl rfl rfl ?_
  refine V.icmp_lt (tgt := 16) dJ3_checkIndex_8e157_6 rfl rfl (fun c6 => ?_) (fun c6 => absurd ((nI_ltI (a := j) (b := n) (by omega) (by omega)).mpr (by omega)) c6)
  have c6 : j < n := (nI_ltI (a := j) (b := n) (by omega) (by omega)).mp c6
  refine V.iload_n dJ3_checkIndex_8e157_16 rfl rfl rfl ?_
  exact V.ret dJ3_checkIndex_8e157_17 rfl rfl ⟨rfl, rfl⟩
theorem v_checkIndex {j n : Nat} (hn : n ≤ 1000) (hj : j < n) (M : Mem) : V m_J0_checkIndex_df160 0 [(0, .int (nI j)), (1, .int (nI n))] [] M (RT none M) := by
  refine V.iload_n dJ0_checkIndex_df160_0 rfl rfl rfl ?_
  refine V.iload_n dJ0_checkIndex_df160_1 rfl rfl rfl ?_
  refine V.getf2 dJ0_checkIndex_df160_2 fl_J0_1053 rfl ?_ ?_
  · refine V.calls_i (M1 := M) (v := nI j) (md' := m_J3_checkIndex_8e157) (As := [.int (nI j), .int (nI n), .null]) (rest := []) dJ0_checkIndex_df160_5 ml_J0_1059 mo_J3_checkIndex_8e157 ⟨Nat.le_of_ble_eq_true rfl, Nat.le_of_ble_eq_true rfl⟩ (Nat.le_of_ble_eq_true rfl) rfl rfl (Nat.le_of_ble_eq_true rfl) (v_pre_n hn hj M) rfl ?_
    refine V.pop dJ0_checkIndex_df160_8 rfl rfl ?_
    exact V.vret dJ0_checkIndex_df160_9 rfl ⟨rfl, rfl⟩
  · refine V.calls_i (M1 := M) (v := nI j) (md' := m_J3_checkIndex_8e157) (As := [.int (nI j), .int (nI n), .ref 98]) (rest := []) dJ0_checkIndex_df160_5 ml_J0_1059 mo_J3_checkIndex_8e157 ⟨Nat.le_of_ble_eq_true rfl, Nat.le_of_ble_eq_true rfl⟩ (Nat.le_of_ble_eq_true rfl) rfl rfl (Nat.le_of_ble_eq_true rfl) (v_pre_r hn hj M) rfl ?_
    refine V.pop dJ0_checkIndex_df160_8 rfl rfl ?_
    exact V.vret dJ0_checkIndex_df160_9 rfl ⟨rfl, rfl⟩
theorem v_l1charAt {i j : Nat} (hi : i < 17) (hj : j < sl i) (M : Mem) : V m_J1_charAt_3b067 0 [(0, .ref (200 + i)), (1, .int (nI j))] [] M (RT (some (.int (sb i j))) M) := by
  have hl := (sl_le i hi).1
  obtain ⟨q1, q2, q3⟩ := sb_ok i hi j (by omega) hj
  refine V.iload_n dJ1_charAt_3b067_0 rfl rfl rfl ?_
  refine V.aload_n dJ1_charAt_3b067_1 rfl rfl rfl ?_
  refine V.blen (v := nI (sl i)) hi dJ1_charAt_3b067_2 rfl rfl ?_
  refine V.calls_v (M1 := M) (md' := m_J0_checkIndex_df160) (As := [.int (nI j), .int (nI (sl i))]) (rest := []) dJ1_charAt_3b067_3 ml_J1_9 mo_J0_checkIndex_df160 ⟨Nat.le_of_ble_eq_true rfl, Nat.le_of_ble_eq_true rfl⟩ (Nat.le_of_ble_eq_true rfl) rfl rfl (Nat.le_of_ble_eq_true rfl) (v_checkIndex (n := sl i) (by omega) hj M) rfl ?_
  refine V.aload_n dJ1_charAt_3b067_6 rfl rfl rfl ?_
  refine V.iload_n dJ1_charAt_3b067_7 rfl rfl rfl ?_
  refine V.bald (v := sb i j) hi dJ1_charAt_3b067_8 (vp_in_nI (by show j < sl i; omega) (by show sl i < 2 ^ 31; omega)) (by rw [nI_clamp (by omega)]; rfl) rfl ?_
  refine V.sipush (v := 255) dJ1_charAt_3b067_9 (by decide) rfl ?_
  refine V.iand (v := sb i j) dJ1_charAt_3b067_12 q1 rfl ?_
  refine V.i2c (v := sb i j) dJ1_charAt_3b067_13 q2 rfl ?_
  exact V.ret dJ1_charAt_3b067_14 rfl q3 ⟨rfl, rfl⟩
theorem v_charAt {i j : Nat} (hi : i < 17) (hj : j < sl i) (M : Mem) : V m_J0_charAt_5068e 0 [(0, .ref (100 + i)), (1, .int (nI j))] [] M (RT (some (.int (sb i j))) M) := by
  have hl := (sl_le i hi).1
  obtain ⟨q1, q2, q3⟩ := sb_ok i hi j (by omega) hj
  refine V.aload_n dJ0_charAt_5068e_0 rfl rfl rfl ?_
  refine V.callS_i hi (M1 := M) (v := 1) (md' := m_J0_isLatin1_aae02) (As := []) (rest := []) dJ0_charAt_5068e_1 ml_J0_492 mo_J0_isLatin1_aae02 ⟨Nat.le_of_ble_eq_true rfl, Nat.le_of_ble_eq_true rfl⟩ rfl (Nat.le_of_ble_eq_true rfl) rfl rfl (Nat.le_of_ble_eq_true rfl) (v_isLatin1 hi M) rfl ?_
  refine V.if_eq (tgt := 16) dJ0_charAt_5068e_4 rfl rfl (fun c4 => absurd c4 (by decide)) (fun _ => ?_)
  refine V.aload_n dJ0_charAt_5068e_7 rfl rfl rfl ?_
  refine V.gsv hi dJ0_charAt_5068e_8 fl_J0_9 rfl ?_
  refine V.iload_n dJ0_charAt_5068e_11 rfl rfl rfl ?_
  refine V.calls_i (M1 := M) (v := sb i j) (md' := m_J1_charAt_3b067) (As := [.ref (200 + i), .int (nI j)]) (rest := []) dJ0_charAt_5068e_12 ml_J0_495 mo_J1_charAt_3b067 ⟨Nat.le_of_ble_eq_true rfl, Nat.le_of_ble_eq_true rfl⟩ (Nat.le_of_ble_eq_true rfl) rfl rfl (Nat.le_of_ble_eq_true rfl) (v_l1charAt hi hj M) rfl ?_
  exact V.ret dJ0_charAt_5068e_15 rfl q3 ⟨rfl, rfl⟩
theorem rng_t {lo hi x : Int32} {a b : Int} (ha : lo.toInt = a) (hb : hi.toInt = b) (h1 : ¬ x < lo) (h2 : ¬ hi < x) : rng a b x = true := rng_p ha hb h1 h2
theorem v_X6_isLetter (x : Int32) (M : Mem) : V m_X6_isLetter 0 [(0, .int x)] [] M (RT (some (.int (if isL x = true then 1 else 0))) M) := by
  refine V.iload_n dX6_isLetter_0 rfl rfl rfl ?_
  refine V.bipush (v := 97) dX6_isLetter_1 (by decide) rfl ?_
  refine V.icmp_lt (tgt := 16) dX6_isLetter_3 rfl rfl (fun c3 => ?_) (fun c3 => ?_)
  · skip
    refine V.iconst (v := 0) dX6_isLetter_16 rfl rfl ?_
    exact V.ret dX6_isLetter_17 rfl rfl ⟨(by rw [if_neg (show ¬ isL x = true from rng_n1 rfl c3)]), rfl⟩
  · skip
    refine V.iload_n dX6_isLetter_6 rfl rfl rfl ?_
    refine V.bipush (v := 122) dX6_isLetter_7 (by decide) rfl ?_
    refine V.icmp_gt (tgt := 16) dX6_isLetter_9 rfl rfl (fun c9 => ?_) (fun c9 => ?_)
    · skip
      refine V.iconst (v := 0) dX6_isLetter_16 rfl rfl ?_
      exact V.ret dX6_isLetter_17 rfl rfl ⟨(by rw [if_neg (show ¬ isL x = true from rng_n2 rfl c9)]), rfl⟩
    · skip
      refine V.iconst (v := 1) dX6_isLetter_12 rfl rfl ?_
      refine V.goto (pc' := 17) dX6_isLetter_13 rfl ?_
      exact V.ret dX6_isLetter_17 rfl rfl ⟨(by rw [if_pos (show isL x = true from rng_p rfl rfl c3 c9)]), rfl⟩
theorem v_X6_isDigit (x : Int32) (M : Mem) : V m_X6_isDigit 0 [(0, .int x)] [] M (RT (some (.int (if isD x = true then 1 else 0))) M) := by
  refine V.iload_n dX6_isDigit_0 rfl rfl rfl ?_
  refine V.bipush (v := 48) dX6_isDigit_1 (by decide) rfl ?_
  refine V.icmp_lt (tgt := 16) dX6_isDigit_3 rfl rfl (fun c3 => ?_) (fun c3 => ?_)
  · skip
    refine V.iconst (v := 0) dX6_isDigit_16 rfl rfl ?_
    exact V.ret dX6_isDigit_17 rfl rfl ⟨(by rw [if_neg (show ¬ isD x = true from rng_n1 rfl c3)]), rfl⟩
  · skip
    refine V.iload_n dX6_isDigit_6 rfl rfl rfl ?_
    refine V.bipush (v := 57) dX6_isDigit_7 (by decide) rfl ?_
    refine V.icmp_gt (tgt := 16) dX6_isDigit_9 rfl rfl (fun c9 => ?_) (fun c9 => ?_)
    · skip
      refine V.iconst (v := 0) dX6_isDigit_16 rfl rfl ?_
      exact V.ret dX6_isDigit_17 rfl rfl ⟨(by rw [if_neg (show ¬ isD x = true from rng_n2 rfl c9)]), rfl⟩
    · skip
      refine V.iconst (v := 1) dX6_isDigit_12 rfl rfl ?_
      refine V.goto (pc' := 17) dX6_isDigit_13 rfl ?_
      exact V.ret dX6_isDigit_17 rfl rfl ⟨(by rw [if_pos (show isD x = true from rng_p rfl rfl c3 c9)]), rfl⟩
theorem bA_p {t p : Nat} {f : Nat → Int32} (h : p < t) : bA t f p = f p := if_pos h
theorem en_1 {t n p : Nat} {f : Nat → Int32} {l d : Bool} (h : (l = true ∧ isL (bA t f p) = true) ∨ (d = true ∧ isD (bA t f p) = true)) : enG t f l d (n + 1) p = enG t f l d n (p + 1) := if_pos h
theorem en_0 {t n p : Nat} {f : Nat → Int32} {l d : Bool} (h : ¬ ((l = true ∧ isL (bA t f p) = true) ∨ (d = true ∧ isD (bA t f p) = true))) : enG t f l d (n + 1) p = p := if_neg h
theorem en_t {t p : Nat} {f : Nat → Int32} {l d : Bool} (h : t ≤ p) : ∀ n, enG t f l d n p = p := by
  intro n
  rcases n with _ | n
  · rfl
  · refine en_0 (fun q => ?_)
    rw [bA_t h] at q
    rcases q with q | q
    · exact absurd q.2 (by decide)
    · exact absurd q.2 (by decide)
theorem en_fuel {t : Nat} {f : Nat → Int32} {l d : Bool} : ∀ (n n' p : Nat), t ≤ p + n → t ≤ p + n' → enG t f l d n p = enG t f l d n' p := by
  intro n
  induction n with
  | zero => intro n' p h1 h2; rw [en_t (by omega), en_t (by omega)]
  | succ n ih =>
    intro n' p h1 h2
    rcases n' with _ | n'
    · rw [en_t (by omega), en_t (by omega)]
    · by_cases q : (l = true ∧ isL (bA t f p) = true) ∨ (d = true ∧ isD (bA t f p) = true)
      · rw [en_1 q, en_1 q]
        exact ih n' (p + 1) (by omega) (by omega)
      · rw [en_0 q, en_0 q]
theorem l_X6_step_sk {t : Nat} (ht : t ≤ 120) (Q : Option Value → Mem → Prop) : ∀ (n p : Nat) (M : Mem), M 54 1 = nI t → M 54 3 = nI p → p ≤ t → t ≤ p + n → V m_X6_step 38 [(0, .ref 54)] [] (ms M 54 3 (nI (skG t (M 55) n p))) Q → V m_X6_step 0 [(0, .ref 54)] [] M Q := by
  intro n
  induction n with
  | zero =>
    intro p M h1 h3 hp hn K
    have ep : p = t := by omega
    rw [show skG t (M 55) 0 p = p from rfl, ms_id h3] at K
    refine V.aload_n dX6_step_0 rfl rfl rfl ?_
    refine V.geti (v := nI p) dX6_step_1 fg_X6_20 rfl rfl h3 rfl ?_
    refine V.aload_n dX6_step_4 rfl rfl rfl ?_
    refine V.geti (v := nI t) dX6_step_5 fg_X6_13 rfl rfl h1 rfl ?_
    refine V.icmp_ge (tgt := 38) dX6_step_8 rfl rfl (fun c8 => ?_) (fun c8 => absurd ((nI_leI (a := t) (b := p) (by omega) (by omega)).mpr (by omega)) c8)
    have c8 : t ≤ p := (nI_leI (a := t) (b := p) (by omega) (by omega)).mp c8
    exact K
  | succ n ih =>
    intro p M h1 h3 hp hn K
    rcases Nat.lt_or_ge p t with hlt | hge
    · refine V.aload_n dX6_step_0 rfl rfl rfl ?_
      refine V.geti (v := nI p) dX6_step_1 fg_X6_20 rfl rfl h3 rfl ?_
      refine V.aload_n dX6_step_4 rfl rfl rfl ?_
      refine V.geti (v := nI t) dX6_step_5 fg_X6_13 rfl rfl h1 rfl ?_
      refine V.icmp_ge (tgt := 38) dX6_step_8 rfl rfl (fun c8 => absurd ((nI_leI (a := t) (b := p) (by omega) (by omega)).mp c8) (by omega)) (fun c8 => ?_)
      have c8 : ¬ t ≤ p := fun zq => c8 ((nI_leI (a := t) (b := p) (by omega) (by omega)).mpr zq)
      refine V.aload_n dX6_step_11 rfl rfl rfl ?_
      refine V.getr dX6_step_12 fg_X6_9 rfl rfl rfl ?_
      refine V.aload_n dX6_step_15 rfl rfl rfl ?_
      refine V.geti (v := nI p) dX6_step_16 fg_X6_20 rfl rfl h3 rfl ?_
      refine V.ialdN (j := p) (v := M 55 p) dX6_step_19 rfl (by omega) (by decide) rfl rfl rfl ?_
      refine V.bipush (v := 32) dX6_step_20 (by decide) rfl ?_
      refine V.icmp_ne (tgt := 38) dX6_step_22 rfl rfl (fun c22 => ?_) (fun c22 => ?_)
      · skip
        rw [show skG t (M 55) (n + 1) p = p from if_neg (by rw [bA_p hlt]; exact c22), ms_id h3] at K
        exact K
      · skip
        refine V.aload_n dX6_step_25 rfl rfl rfl ?_
        refine V.dup dX6_step_26 rfl rfl ?_
        refine V.geti (v := nI p) dX6_step_27 fg_X6_20 rfl rfl h3 rfl ?_
        refine V.iconst (v := 1) dX6_step_30 rfl rfl ?_
        refine V.iadd (v := nI (p + 1)) dX6_step_31 (nI_add _ _) rfl ?_
        refine V.puti dX6_step_32 fp_X6_20 rfl rfl rfl rfl (M' := (ms M 54 3 (nI (p + 1)))) rfl rfl ?_
        refine V.goto (pc' := 0) dX6_step_35 rfl ?_
        rw [show skG t (M 55) (n + 1) p = skG t (M 55) n (p + 1) from if_pos (by rw [bA_p hlt]; exact c22)] at K
        exact ih (p + 1) (ms M 54 3 (nI (p + 1))) (by rw [ms_j (by decide)]; exact h1) ms_s (by omega) (by omega) (by rw [ms_ms, ms_k (show (55 : Nat) ≠ 54 by decide)]; exact K)
    · refine V.aload_n dX6_step_0 rfl rfl rfl ?_
      refine V.geti (v := nI p) dX6_step_1 fg_X6_20 rfl rfl h3 rfl ?_
      refine V.aload_n dX6_step_4 rfl rfl rfl ?_
      refine V.geti (v := nI t) dX6_step_5 fg_X6_13 rfl rfl h1 rfl ?_
      refine V.icmp_ge (tgt := 38) dX6_step_8 rfl rfl (fun c8 => ?_) (fun c8 => absurd ((nI_leI (a := t) (b := p) (by omega) (by omega)).mpr (by omega)) c8)
      have c8 : t ≤ p := (nI_leI (a := t) (b := p) (by omega) (by omega)).mp c8
      rw [show skG t (M 55) (n + 1) p = p from if_neg (by rw [bA_t hge]; decide), ms_id h3] at K
      exact K
theorem l_X6_readWord {t : Nat} (ht : t ≤ 120) : ∀ (n p : Nat) (M : Mem), M 54 1 = nI t → M 54 3 = nI p → p ≤ t → t ≤ p + n → V m_X6_readWord 5 [(0, .ref 54)] [] M (RT none (ms M 54 3 (nI (enG t (M 55) true false n p)))) := by
  intro n
  induction n with
  | zero =>
    intro p M h1 h3 hp hn
    have ep : p = t := by omega
    rw [show enG t (M 55) true false 0 p = p from rfl, ms_id h3]
    refine V.aload_n dX6_readWord_5 rfl rfl rfl ?_
    refine V.geti (v := nI p) dX6_readWord_6 fg_X6_20 rfl rfl h3 rfl ?_
    refine V.aload_n dX6_readWord_9 rfl rfl rfl ?_
    refine V.geti (v := nI t) dX6_readWord_10 fg_X6_13 rfl rfl h1 rfl ?_
    refine V.icmp_ge (tgt := 44) dX6_readWord_13 rfl rfl (fun c13 => ?_) (fun c13 => absurd ((nI_leI (a := t) (b := p) (by omega) (by omega)).mpr (by omega)) c13)
    have c13 : t ≤ p := (nI_leI (a := t) (b := p) (by omega) (by omega)).mp c13
    exact V.vret dX6_readWord_44 rfl ⟨rfl, rfl⟩
  | succ n ih =>
    intro p M h1 h3 hp hn
    rcases Nat.lt_or_ge p t with hlt | hge
    · refine V.aload_n dX6_readWord_5 rfl rfl rfl ?_
      refine V.geti (v := nI p) dX6_readWord_6 fg_X6_20 rfl rfl h3 rfl ?_
      refine V.aload_n dX6_readWord_9 rfl rfl rfl ?_
      refine V.geti (v := nI t) dX6_readWord_10 fg_X6_13 rfl rfl h1 rfl ?_
      refine V.icmp_ge (tgt := 44) dX6_readWord_13 rfl rfl (fun c13 => absurd ((nI_leI (a := t) (b := p) (by omega) (by omega)).mp c13) (by omega)) (fun c13 => ?_)
      have c13 : ¬ t ≤ p := fun zq => c13 ((nI_leI (a := t) (b := p) (by omega) (by omega)).mpr zq)
      refine V.aload_n dX6_readWord_16 rfl rfl rfl ?_
      refine V.getr dX6_readWord_17 fg_X6_9 rfl rfl rfl ?_
      refine V.aload_n dX6_readWord_20 rfl rfl rfl ?_
      refine V.geti (v := nI p) dX6_readWord_21 fg_X6_20 rfl rfl h3 rfl ?_
      refine V.ialdN (j := p) (v := M 55 p) dX6_readWord_24 rfl (by omega) (by decide) rfl rfl rfl ?_
      refine V.calls_i (M1 := M) (v := if isL (M 55 p) = true then 1 else 0) (md' := m_X6_isLetter) (As := [.int (M 55 p)]) (rest := []) dX6_readWord_25 ml_X6_32 mo_X6_isLetter ⟨Nat.le_of_ble_eq_true rfl, Nat.le_of_ble_eq_true rfl⟩ (Nat.le_of_ble_eq_true rfl) rfl rfl (Nat.le_of_ble_eq_true rfl) (v_X6_isLetter (M 55 p) _) rfl ?_
      refine V.ifb_eq (tgt := 44) dX6_readWord_28 rfl rfl (fun c28 => ?_) (fun c28 => ?_)
      · skip
        exact V.vret dX6_readWord_44 rfl ⟨rfl, (by rw [show enG t (M 55) true false (n + 1) p = p from en_0 (fun q => q.elim (fun z => c28 (by have y := z.2; rw [bA_p hlt] at y; exact y)) (fun z => absurd z.1 (by decide))), ms_id h3])⟩
      · skip
        refine V.aload_n dX6_readWord_31 rfl rfl rfl ?_
        refine V.dup dX6_readWord_32 rfl rfl ?_
        refine V.geti (v := nI p) dX6_readWord_33 fg_X6_20 rfl rfl h3 rfl ?_
        refine V.iconst (v := 1) dX6_readWord_36 rfl rfl ?_
        refine V.iadd (v := nI (p + 1)) dX6_readWord_37 (nI_add _ _) rfl ?_
        refine V.puti dX6_readWord_38 fp_X6_20 rfl rfl rfl rfl (M' := (ms M 54 3 (nI (p + 1)))) rfl rfl ?_
        refine V.goto (pc' := 5) dX6_readWord_41 rfl ?_
        rw [show enG t (M 55) true false (n + 1) p = enG t (M 55) true false n (p + 1) from en_1 (.inl ⟨rfl, by rw [bA_p hlt]; exact c28⟩)]
        have hz := ih (p + 1) (ms M 54 3 (nI (p + 1))) (by rw [ms_j (by decide)]; exact h1) ms_s (by omega) (by omega)
        rw [ms_ms, ms_k (show (55 : Nat) ≠ 54 by decide)] at hz
        exact hz
    · refine V.aload_n dX6_readWord_5 rfl rfl rfl ?_
      refine V.geti (v := nI p) dX6_readWord_6 fg_X6_20 rfl rfl h3 rfl ?_
      refine V.aload_n dX6_readWord_9 rfl rfl rfl ?_
      refine V.geti (v := nI t) dX6_readWord_10 fg_X6_13 rfl rfl h1 rfl ?_
      refine V.icmp_ge (tgt := 44) dX6_readWord_13 rfl rfl (fun c13 => ?_) (fun c13 => absurd ((nI_leI (a := t) (b := p) (by omega) (by omega)).mpr (by omega)) c13)
      have c13 : t ≤ p := (nI_leI (a := t) (b := p) (by omega) (by omega)).mp c13
      exact V.vret dX6_readWord_44 rfl ⟨rfl, (by rw [en_t hge, ms_id h3])⟩
theorem v_X6_readWord {t : Nat} (ht : t ≤ 120) {p : Nat} (hp : p ≤ t) (M : Mem) (h1 : M 54 1 = nI t) (h3 : M 54 3 = nI p) : V m_X6_readWord 0 [(0, .ref 54)] [] M (RT none (ms (ms M 54 4 1) 54 3 (nI (enG t (M 55) true false 121 p)))) := by
  refine V.aload_n dX6_readWord_0 rfl rfl rfl ?_
  refine V.iconst (v := 1) dX6_readWord_1 rfl rfl ?_
  refine V.puti dX6_readWord_2 fp_X6_23 rfl rfl rfl rfl (M' := (ms M 54 4 1)) rfl rfl ?_
  have hz := l_X6_readWord ht 121 p (ms M 54 4 1) (by rw [ms_j (by decide)]; exact h1) (by rw [ms_j (by decide)]; exact h3) hp (by omega)
  rw [ms_k (show (55 : Nat) ≠ 54 by decide)] at hz
  exact hz
def vaG (f : Nat → Int32) : Nat → Nat → Int32 → Int32
  | 0, _, v => v
  | n + 1, q, v => vaG f n (q + 1) (if v * 10 + f q - 48 < 1000 then v * 10 + f q - 48 else 1000)
theorem ms_53 {M : Mem} {a b x y : Int32} : ms (ms (ms (ms M 54 5 a) 54 3 b) 54 5 x) 54 3 y = ms (ms M 54 5 x) 54 3 y := by
  funext k j
  by_cases hk : k = 54
  · subst hk
    by_cases h3 : j = 3
    · subst h3; rw [ms_s, ms_s]
    · by_cases h5 : j = 5
      · subst h5; rw [ms_j h3, ms_s, ms_j h3, ms_s]
      · rw [ms_j h3, ms_j h5, ms_j h3, ms_j h5, ms_j h3, ms_j h5]
  · rw [ms_k hk, ms_k hk, ms_k hk, ms_k hk, ms_k hk, ms_k hk]
def nuE (t : Nat) (f : Nat → Int32) (n p : Nat) (v : Int32) (M : Mem) : Mem := ms (ms M 54 5 (vaG f (enG t f false true n p - p) p v)) 54 3 (nI (enG t f false true n p))
theorem nuE_0 {t p : Nat} {f : Nat → Int32} {n : Nat} {v : Int32} {M : Mem} (h : enG t f false true n p = p) (h5 : M 54 5 = v) (h3 : M 54 3 = nI p) : nuE t f n p v M = M := by
  unfold nuE
  rw [h, Nat.sub_self]
  show ms (ms M 54 5 v) 54 3 (nI p) = M
  rw [ms_id h5, ms_id h3]
theorem l_X6_readNumber {t : Nat} (ht : t ≤ 120) : ∀ (n p : Nat) (v : Int32) (M : Mem), M 54 1 = nI t → M 54 3 = nI p → M 54 5 = v → p ≤ t → t ≤ p + n → V m_X6_readNumber 10 [(0, .ref 54)] [] M (RT none (nuE t (M 55) n p v M)) := by
  intro n
  induction n with
  | zero =>
    intro p v M h1 h3 h5 hp hn
    have ep : p = t := by omega
    rw [nuE_0 rfl h5 h3]
    refine V.aload_n dX6_readNumber_10 rfl rfl rfl ?_
    refine V.geti (v := nI p) dX6_readNumber_11 fg_X6_20 rfl rfl h3 rfl ?_
    refine V.aload_n dX6_readNumber_14 rfl rfl rfl ?_
    refine V.geti (v := nI t) dX6_readNumber_15 fg_X6_13 rfl rfl h1 rfl ?_
    refine V.icmp_ge (tgt := 79) dX6_readNumber_18 rfl rfl (fun c18 => ?_) (fun c18 => absurd ((nI_leI (a := t) (b := p) (by omega) (by omega)).mpr (by omega)) c18)
    have c18 : t ≤ p := (nI_leI (a := t) (b := p) (by omega) (by omega)).mp c18
    exact V.vret dX6_readNumber_79 rfl ⟨rfl, rfl⟩
  | succ n ih =>
    intro p v M h1 h3 h5 hp hn
    rcases Nat.lt_or_ge p t with hlt | hge
    · refine V.aload_n dX6_readNumber_10 rfl rfl rfl ?_
      refine V.geti (v := nI p) dX6_readNumber_11 fg_X6_20 rfl rfl h3 rfl ?_
      refine V.aload_n dX6_readNumber_14 rfl rfl rfl ?_
      refine V.geti (v := nI t) dX6_readNumber_15 fg_X6_13 rfl rfl h1 rfl ?_
      refine V.icmp_ge (tgt := 79) dX6_readNumber_18 rfl rfl (fun c18 => absurd ((nI_leI (a := t) (b := p) (by omega) (by omega)).mp c18) (by omega)) (fun c18 => ?_)
      have c18 : ¬ t ≤ p := fun zq => c18 ((nI_leI (a := t) (b := p) (by omega) (by omega)).mpr zq)
      refine V.aload_n dX6_readNumber_21 rfl rfl rfl ?_
      refine V.getr dX6_readNumber_22 fg_X6_9 rfl rfl rfl ?_
      refine V.aload_n dX6_readNumber_25 rfl rfl rfl ?_
      refine V.geti (v := nI p) dX6_readNumber_26 fg_X6_20 rfl rfl h3 rfl ?_
      refine V.ialdN (j := p) (v := M 55 p) dX6_readNumber_29 rfl (by omega) (by decide) rfl rfl rfl ?_
      refine V.calls_i (M1 := M) (v := if isD (M 55 p) = true then 1 else 0) (md' := m_X6_isDigit) (As := [.int (M 55 p)]) (rest := []) dX6_readNumber_30 ml_X6_39 mo_X6_isDigit ⟨Nat.le_of_ble_eq_true rfl, Nat.le_of_ble_eq_true rfl⟩ (Nat.le_of_ble_eq_true rfl) rfl rfl (Nat.le_of_ble_eq_true rfl) (v_X6_isDigit (M 55 p) _) rfl ?_
      refine V.ifb_eq (tgt := 79) dX6_readNumber_33 rfl rfl (fun c33 => ?_) (fun c33 => ?_)
      · skip
        exact V.vret dX6_readNumber_79 rfl ⟨rfl, (nuE_0 (en_0 (fun q => q.elim (fun z => absurd z.1 (by decide)) (fun z => c33 (by have y := z.2; rw [bA_p hlt] at y; exact y)))) h5 h3).symm⟩
      · skip
        refine V.aload_n dX6_readNumber_36 rfl rfl rfl ?_
        refine V.sipush (v := 1000) dX6_readNumber_37 (by decide) rfl ?_
        refine V.aload_n dX6_readNumber_40 rfl rfl rfl ?_
        refine V.geti (v := v) dX6_readNumber_41 fg_X6_26 rfl rfl h5 rfl ?_
        refine V.bipush (v := 10) dX6_readNumber_44 (by decide) rfl ?_
        refine V.imul (v := v * 10) dX6_readNumber_46 rfl rfl ?_
        refine V.aload_n dX6_readNumber_47 rfl rfl rfl ?_
        refine V.getr dX6_readNumber_48 fg_X6_9 rfl rfl rfl ?_
        refine V.aload_n dX6_readNumber_51 rfl rfl rfl ?_
        refine V.geti (v := nI p) dX6_readNumber_52 fg_X6_20 rfl rfl h3 rfl ?_
        refine V.ialdN (j := p) (v := M 55 p) dX6_readNumber_55 rfl (by omega) (by decide) rfl rfl rfl ?_
        refine V.iadd (v := (v * 10) + (M 55 p)) dX6_readNumber_56 rfl rfl ?_
        refine V.bipush (v := 48) dX6_readNumber_57 (by decide) rfl ?_
        refine V.isub (v := ((v * 10) + (M 55 p)) - 48) dX6_readNumber_59 rfl rfl ?_
        refine V.mmin (v := if v * 10 + M 55 p - 48 < 1000 then v * 10 + M 55 p - 48 else 1000) dX6_readNumber_60 mm_X6_45 ⟨Nat.le_of_ble_eq_true rfl, Nat.le_of_ble_eq_true rfl⟩ rfl rfl ?_
        refine V.puti dX6_readNumber_63 fp_X6_26 rfl rfl rfl rfl (M' := (ms M 54 5 (if v * 10 + M 55 p - 48 < 1000 then v * 10 + M 55 p - 48 else 1000))) rfl rfl ?_
        refine V.aload_n dX6_readNumber_66 rfl rfl rfl ?_
        refine V.dup dX6_readNumber_67 rfl rfl ?_
        refine V.geti (v := nI p) dX6_readNumber_68 fg_X6_20 rfl rfl (by simp [ms, h3]) rfl ?_
        refine V.iconst (v := 1) dX6_readNumber_71 rfl rfl ?_
        refine V.iadd (v := nI (p + 1)) dX6_readNumber_72 (nI_add _ _) rfl ?_
        refine V.puti dX6_readNumber_73 fp_X6_20 rfl rfl rfl rfl (M' := (ms (ms M 54 5 (if v * 10 + M 55 p - 48 < 1000 then v * 10 + M 55 p - 48 else 1000)) 54 3 (nI (p + 1)))) rfl rfl ?_
        refine V.goto (pc' := 10) dX6_readNumber_76 rfl ?_
        have e1 : enG t (M 55) false true (n + 1) p = enG t (M 55) false true n (p + 1) := en_1 (.inr ⟨rfl, by rw [bA_p hlt]; exact c33⟩)
        have hz := ih (p + 1) (if v * 10 + M 55 p - 48 < 1000 then v * 10 + M 55 p - 48 else 1000) (ms (ms M 54 5 (if v * 10 + M 55 p - 48 < 1000 then v * 10 + M 55 p - 48 else 1000)) 54 3 (nI (p + 1))) (by rw [ms_j (by decide), ms_j (by decide)]; exact h1) ms_s (by rw [ms_j (by decide), ms_s]) (by omega) (by omega)
        rw [ms_k (show (55 : Nat) ≠ 54 by decide), ms_k (show (55 : Nat) ≠ 54 by decide)] at hz
        have hge1 : p + 1 ≤ enG t (M 55) false true n (p + 1) := en_ge _ _
        rw [show nuE t (M 55) (n + 1) p v M = nuE t (M 55) n (p + 1) (if v * 10 + M 55 p - 48 < 1000 then v * 10 + M 55 p - 48 else 1000) (ms (ms M 54 5 (if v * 10 + M 55 p - 48 < 1000 then v * 10 + M 55 p - 48 else 1000)) 54 3 (nI (p + 1))) from by unfold nuE; rw [e1, ms_53, show enG t (M 55) false true n (p + 1) - p = (enG t (M 55) false true n (p + 1) - (p + 1)) + 1 by omega]; rfl]
        exact hz
    · refine V.aload_n dX6_readNumber_10 rfl rfl rfl ?_
      refine V.geti (v := nI p) dX6_readNumber_11 fg_X6_20 rfl rfl h3 rfl ?_
      refine V.aload_n dX6_readNumber_14 rfl rfl rfl ?_
      refine V.geti (v := nI t) dX6_readNumber_15 fg_X6_13 rfl rfl h1 rfl ?_
      refine V.icmp_ge (tgt := 79) dX6_readNumber_18 rfl rfl (fun c18 => ?_) (fun c18 => absurd ((nI_leI (a := t) (b := p) (by omega) (by omega)).mpr (by omega)) c18)
      have c18 : t ≤ p := (nI_leI (a := t) (b := p) (by omega) (by omega)).mp c18
      exact V.vret dX6_readNumber_79 rfl ⟨rfl, (nuE_0 (en_t hge _) h5 h3).symm⟩
theorem v_X6_readNumber {t : Nat} (ht : t ≤ 120) {p : Nat} (hp : p ≤ t) (M : Mem) (h1 : M 54 1 = nI t) (h3 : M 54 3 = nI p) : V m_X6_readNumber 0 [(0, .ref 54)] [] M (RT none (nuE t (M 55) 121 p 0 (ms (ms M 54 4 2) 54 5 0))) := by
  refine V.aload_n dX6_readNumber_0 rfl rfl rfl ?_
  refine V.iconst (v := 2) dX6_readNumber_1 rfl rfl ?_
  refine V.puti dX6_readNumber_2 fp_X6_23 rfl rfl rfl rfl (M' := (ms M 54 4 2)) rfl rfl ?_
  refine V.aload_n dX6_readNumber_5 rfl rfl rfl ?_
  refine V.iconst (v := 0) dX6_readNumber_6 rfl rfl ?_
  refine V.puti dX6_readNumber_7 fp_X6_26 rfl rfl rfl rfl (M' := (ms (ms M 54 4 2) 54 5 0)) rfl rfl ?_
  have hz := l_X6_readNumber ht 121 p 0 (ms (ms M 54 4 2) 54 5 0) (by rw [ms_j (by decide), ms_j (by decide)]; exact h1) (by rw [ms_j (by decide), ms_j (by decide)]; exact h3) ms_s hp (by omega)
  rw [ms_k (show (55 : Nat) ≠ 54 by decide), ms_k (show (55 : Nat) ≠ 54 by decide)] at hz
  exact hz
def tyF (t : Nat) (f : Nat → Int32) (p : Nat) : Int32 := if t ≤ p then 0 else if isL (f p) = true then 1 else if isD (f p) = true then 2 else if f p = 59 then 3 else 4
def st4 (M : Mem) (a b c d : Int32) : Mem := ms (ms (ms (ms M 54 2 a) 54 3 b) 54 4 c) 54 5 d
def skN (t : Nat) (M : Mem) : Nat := skG t (M 55) 121 (M 54 3).toNatClampNeg
def stC (t : Nat) (M : Mem) : Mem := st4 M (nI (skN t M)) (nI (teG t (M 55) (skN t M))) (tyF t (M 55) (skN t M)) (if skN t M < t ∧ isD (M 55 (skN t M)) = true then vaG (M 55) (teG t (M 55) (skN t M) - skN t M) (skN t M) 0 else M 54 5)
theorem st4_of {M M' : Mem} {a b c d : Int32} (h : ∀ k, k ≠ 54 → M' k = M k) (h2 : M' 54 2 = a) (h3 : M' 54 3 = b) (h4 : M' 54 4 = c) (h5 : M' 54 5 = d) (ho : ∀ j, j ≠ 2 → j ≠ 3 → j ≠ 4 → j ≠ 5 → M' 54 j = M 54 j) : M' = st4 M a b c d := by
  unfold st4
  funext k j
  by_cases hk : k = 54
  · subst hk
    by_cases q5 : j = 5
    · subst q5; rw [ms_s]; exact h5
    · by_cases q4 : j = 4
      · subst q4; rw [ms_j (by decide), ms_s]; exact h4
      · by_cases q3 : j = 3
        · subst q3; rw [ms_j (by decide), ms_j (by decide), ms_s]; exact h3
        · by_cases q2 : j = 2
          · subst q2; rw [ms_j (by decide), ms_j (by decide), ms_j (by decide), ms_s]; exact h2
          · rw [ms_j q5, ms_j q4, ms_j q3, ms_j q2]; exact ho j q2 q3 q4 q5
  · rw [ms_k hk, ms_k hk, ms_k hk, ms_k hk, h k hk]
theorem L_nD {x : Int32} (h : isL x = true) : isD x = false := by
  refine Bool.eq_false_iff.mpr (fun q => ?_)
  have h1 := (rng_def.mp h).1
  have h2 := (rng_def.mp q).2
  omega
theorem te_L {t p : Nat} {f : Nat → Int32} (ht : t ≤ 120) (hp : p < t) (h : isL (f p) = true) : teG t f p = enG t f true false 121 p := by
  unfold teG
  rw [bA_p hp, h, L_nD h, if_pos hp, show (121 : Nat) = 120 + 1 from rfl, en_1 (p := p) (.inl ⟨rfl, by rw [bA_p hp]; exact h⟩)]
  exact en_fuel _ _ _ (by omega) (by omega)
theorem te_D {t p : Nat} {f : Nat → Int32} (ht : t ≤ 120) (hp : p < t) (hL : isL (f p) = false) (h : isD (f p) = true) : teG t f p = enG t f false true 121 p := by
  unfold teG
  rw [bA_p hp, h, hL, if_pos hp, show (121 : Nat) = 120 + 1 from rfl, en_1 (p := p) (.inr ⟨rfl, by rw [bA_p hp]; exact h⟩)]
  exact en_fuel _ _ _ (by omega) (by omega)
theorem te_o {t p : Nat} {f : Nat → Int32} (hp : p < t) (hL : isL (f p) = false) (h : isD (f p) = false) : teG t f p = p + 1 := by
  unfold teG
  rw [bA_p hp, h, hL, if_pos hp]
  exact en_0 (fun q => q.elim (fun z => absurd z.1 (by decide)) (fun z => absurd z.1 (by decide)))
theorem te_t {t p : Nat} {f : Nat → Int32} (hp : t ≤ p) : teG t f p = p := by
  unfold teG
  rw [if_neg (by omega)]
  exact en_t hp _
theorem l_X6_step_38 {t : Nat} (ht : t ≤ 120) {p : Nat} (hp : p ≤ t) (M : Mem) (h1 : M 54 1 = nI t) (h3 : M 54 3 = nI p) : V m_X6_step 38 [(0, .ref 54)] [] M (RT none (st4 M (nI p) (nI (teG t (M 55) p)) (tyF t (M 55) p) (if p < t ∧ isD (M 55 p) = true then vaG (M 55) (teG t (M 55) p - p) p 0 else M 54 5))) := by
  rcases Nat.lt_or_ge p t with hlt | hge
  · refine V.aload_n dX6_step_38 rfl rfl rfl ?_
    refine V.aload_n dX6_step_39 rfl rfl rfl ?_
    refine V.geti (v := nI p) dX6_step_40 fg_X6_20 rfl rfl h3 rfl ?_
    refine V.puti dX6_step_43 fp_X6_17 rfl rfl rfl rfl (M' := (ms M 54 2 (nI p))) rfl rfl ?_
    refine V.aload_n dX6_step_46 rfl rfl rfl ?_
    refine V.geti (v := nI p) dX6_step_47 fg_X6_17 rfl rfl (by simp [ms]) rfl ?_
    refine V.aload_n dX6_step_50 rfl rfl rfl ?_
    refine V.geti (v := nI t) dX6_step_51 fg_X6_13 rfl rfl (by simp [ms, h1]) rfl ?_
    refine V.icmp_lt (tgt := 65) dX6_step_54 rfl rfl (fun c54 => ?_) (fun c54 => absurd ((nI_ltI (a := p) (b := t) (by omega) (by omega)).mpr (by omega)) c54)
    have c54 : p < t := (nI_ltI (a := p) (b := t) (by omega) (by omega)).mp c54
    refine V.aload_n dX6_step_65 rfl rfl rfl ?_
    refine V.getr dX6_step_66 fg_X6_9 rfl rfl rfl ?_
    refine V.aload_n dX6_step_69 rfl rfl rfl ?_
    refine V.geti (v := nI p) dX6_step_70 fg_X6_17 rfl rfl (by simp [ms]) rfl ?_
    refine V.ialdN (j := p) (v := M 55 p) dX6_step_73 rfl (by omega) (by decide) rfl (by simp [ms]) rfl ?_
    refine V.calls_i (M1 := (ms M 54 2 (nI p))) (v := if isL (M 55 p) = true then 1 else 0) (md' := m_X6_isLetter) (As := [.int (M 55 p)]) (rest := []) dX6_step_74 ml_X6_32 mo_X6_isLetter ⟨Nat.le_of_ble_eq_true rfl, Nat.le_of_ble_eq_true rfl⟩ (Nat.le_of_ble_eq_true rfl) rfl rfl (Nat.le_of_ble_eq_true rfl) (v_X6_isLetter (M 55 p) _) rfl ?_
    refine V.ifb_eq (tgt := 87) dX6_step_77 rfl rfl (fun c77 => ?_) (fun c77 => ?_)
    · skip
      refine V.aload_n dX6_step_87 rfl rfl rfl ?_
      refine V.getr dX6_step_88 fg_X6_9 rfl rfl rfl ?_
      refine V.aload_n dX6_step_91 rfl rfl rfl ?_
      refine V.geti (v := nI p) dX6_step_92 fg_X6_17 rfl rfl (by simp [ms]) rfl ?_
      refine V.ialdN (j := p) (v := M 55 p) dX6_step_95 rfl (by omega) (by decide) rfl (by simp [ms]) rfl ?_
      refine V.calls_i (M1 := (ms M 54 2 (nI p))) (v := if isD (M 55 p) = true then 1 else 0) (md' := m_X6_isDigit) (As := [.int (M 55 p)]) (rest := []) dX6_step_96 ml_X6_39 mo_X6_isDigit ⟨Nat.le_of_ble_eq_true rfl, Nat.le_of_ble_eq_true rfl⟩ (Nat.le_of_ble_eq_true rfl) rfl rfl (Nat.le_of_ble_eq_true rfl) (v_X6_isDigit (M 55 p) _) rfl ?_
      refine V.ifb_eq (tgt := 109) dX6_step_99 rfl rfl (fun c99 => ?_) (fun c99 => ?_)
      · skip
        refine V.aload_n dX6_step_109 rfl rfl rfl ?_
        refine V.aload_n dX6_step_110 rfl rfl rfl ?_
        refine V.getr dX6_step_111 fg_X6_9 rfl rfl rfl ?_
        refine V.aload_n dX6_step_114 rfl rfl rfl ?_
        refine V.geti (v := nI p) dX6_step_115 fg_X6_17 rfl rfl (by simp [ms]) rfl ?_
        refine V.ialdN (j := p) (v := M 55 p) dX6_step_118 rfl (by omega) (by decide) rfl (by simp [ms]) rfl ?_
        refine V.bipush (v := 59) dX6_step_119 (by decide) rfl ?_
        refine V.icmp_ne (tgt := 128) dX6_step_121 rfl rfl (fun c121 => ?_) (fun c121 => ?_)
        · skip
          refine V.iconst (v := 4) dX6_step_128 rfl rfl ?_
          refine V.puti dX6_step_129 fp_X6_23 rfl rfl rfl rfl (M' := (ms (ms M 54 2 (nI p)) 54 4 4)) rfl rfl ?_
          refine V.aload_n dX6_step_132 rfl rfl rfl ?_
          refine V.dup dX6_step_133 rfl rfl ?_
          refine V.geti (v := nI p) dX6_step_134 fg_X6_20 rfl rfl (by simp [ms, h3]) rfl ?_
          refine V.iconst (v := 1) dX6_step_137 rfl rfl ?_
          refine V.iadd (v := nI (p + 1)) dX6_step_138 (nI_add _ _) rfl ?_
          refine V.puti dX6_step_139 fp_X6_20 rfl rfl rfl rfl (M' := (ms (ms (ms M 54 2 (nI p)) 54 4 4) 54 3 (nI (p + 1)))) rfl rfl ?_
          exact V.vret dX6_step_142 rfl ⟨rfl, st4_of (fun k hk => by simp (disch := assumption) only [ms_k]) (by simp (disch := decide) only [ms_j, ms_s]) (by simp (disch := decide) only [ms_j, ms_s]; rw [te_o hlt (Bool.eq_false_iff.mpr c77) (Bool.eq_false_iff.mpr c99)]) (by simp (disch := decide) only [ms_j, ms_s]; rw [tyF, if_neg (by omega), if_neg c77, if_neg c99, if_neg c121]) (by simp (disch := decide) only [ms_j, ms_s]; rw [if_neg (fun q => c99 q.2)]) (fun j z2 z3 z4 z5 => by simp (disch := assumption) only [ms_j])⟩
        · skip
          refine V.iconst (v := 3) dX6_step_124 rfl rfl ?_
          refine V.goto (pc' := 129) dX6_step_125 rfl ?_
          refine V.puti dX6_step_129 fp_X6_23 rfl rfl rfl rfl (M' := (ms (ms M 54 2 (nI p)) 54 4 3)) rfl rfl ?_
          refine V.aload_n dX6_step_132 rfl rfl rfl ?_
          refine V.dup dX6_step_133 rfl rfl ?_
          refine V.geti (v := nI p) dX6_step_134 fg_X6_20 rfl rfl (by simp [ms, h3]) rfl ?_
          refine V.iconst (v := 1) dX6_step_137 rfl rfl ?_
          refine V.iadd (v := nI (p + 1)) dX6_step_138 (nI_add _ _) rfl ?_
          refine V.puti dX6_step_139 fp_X6_20 rfl rfl rfl rfl (M' := (ms (ms (ms M 54 2 (nI p)) 54 4 3) 54 3 (nI (p + 1)))) rfl rfl ?_
          exact V.vret dX6_step_142 rfl ⟨rfl, st4_of (fun k hk => by simp (disch := assumption) only [ms_k]) (by simp (disch := decide) only [ms_j, ms_s]) (by simp (disch := decide) only [ms_j, ms_s]; rw [te_o hlt (Bool.eq_false_iff.mpr c77) (Bool.eq_false_iff.mpr c99)]) (by simp (disch := decide) only [ms_j, ms_s]; rw [tyF, if_neg (by omega), if_neg c77, if_neg c99, if_pos c121]) (by simp (disch := decide) only [ms_j, ms_s]; rw [if_neg (fun q => c99 q.2)]) (fun j z2 z3 z4 z5 => by simp (disch := assumption) only [ms_j])⟩
      · skip
        refine V.aload_n dX6_step_102 rfl rfl rfl ?_
        refine V.callv_v (M1 := nuE t (M 55) 121 p 0 (ms (ms (ms M 54 2 (nI p)) 54 4 2) 54 5 0)) (md' := m_X6_readNumber) (As := []) (rest := []) dX6_step_103 ml_X6_42 mo_X6_readNumber ⟨Nat.le_of_ble_eq_true rfl, Nat.le_of_ble_eq_true rfl⟩ rfl ⟨_, _, rfl⟩ (Nat.le_of_ble_eq_true rfl) rfl rfl (Nat.le_of_ble_eq_true rfl) (by have hz := v_X6_readNumber ht hp (ms M 54 2 (nI p)) (by rw [ms_j (by decide)]; exact h1) (by rw [ms_j (by decide)]; exact h3); rw [ms_k (show (55 : Nat) ≠ 54 by decide)] at hz; exact hz) rfl ?_
        refine V.goto (pc' := 142) dX6_step_106 rfl ?_
        exact V.vret dX6_step_142 rfl ⟨rfl, st4_of (fun k hk => by unfold nuE; simp (disch := assumption) only [ms_k]) (by unfold nuE; simp (disch := decide) only [ms_j, ms_s]) (by unfold nuE; simp (disch := decide) only [ms_j, ms_s]; rw [te_D ht hlt (Bool.eq_false_iff.mpr c77) c99]) (by unfold nuE; simp (disch := decide) only [ms_j, ms_s]; rw [tyF, if_neg (by omega), if_neg c77, if_pos c99]) (by unfold nuE; simp (disch := decide) only [ms_j, ms_s]; rw [if_pos ⟨hlt, c99⟩, te_D ht hlt (Bool.eq_false_iff.mpr c77) c99]) (fun j z2 z3 z4 z5 => by unfold nuE; simp (disch := assumption) only [ms_j])⟩
    · skip
      refine V.aload_n dX6_step_80 rfl rfl rfl ?_
      refine V.callv_v (M1 := ms (ms (ms M 54 2 (nI p)) 54 4 1) 54 3 (nI (enG t (M 55) true false 121 p))) (md' := m_X6_readWord) (As := []) (rest := []) dX6_step_81 ml_X6_36 mo_X6_readWord ⟨Nat.le_of_ble_eq_true rfl, Nat.le_of_ble_eq_true rfl⟩ rfl ⟨_, _, rfl⟩ (Nat.le_of_ble_eq_true rfl) rfl rfl (Nat.le_of_ble_eq_true rfl) (by have hz := v_X6_readWord ht hp (ms M 54 2 (nI p)) (by rw [ms_j (by decide)]; exact h1) (by rw [ms_j (by decide)]; exact h3); rw [ms_k (show (55 : Nat) ≠ 54 by decide)] at hz; exact hz) rfl ?_
      refine V.goto (pc' := 142) dX6_step_84 rfl ?_
      exact V.vret dX6_step_142 rfl ⟨rfl, st4_of (fun k hk => by simp (disch := assumption) only [ms_k]) (by simp (disch := decide) only [ms_j, ms_s]) (by simp (disch := decide) only [ms_j, ms_s]; rw [te_L ht hlt c77]) (by simp (disch := decide) only [ms_j, ms_s]; rw [tyF, if_neg (by omega), if_pos c77]) (by simp (disch := decide) only [ms_j, ms_s]; rw [if_neg (fun q => absurd (L_nD c77) (by rw [q.2]; decide))]) (fun j z2 z3 z4 z5 => by simp (disch := assumption) only [ms_j])⟩
  · refine V.aload_n dX6_step_38 rfl rfl rfl ?_
    refine V.aload_n dX6_step_39 rfl rfl rfl ?_
    refine V.geti (v := nI p) dX6_step_40 fg_X6_20 rfl rfl h3 rfl ?_
    refine V.puti dX6_step_43 fp_X6_17 rfl rfl rfl rfl (M' := (ms M 54 2 (nI p))) rfl rfl ?_
    refine V.aload_n dX6_step_46 rfl rfl rfl ?_
    refine V.geti (v := nI p) dX6_step_47 fg_X6_17 rfl rfl (by simp [ms]) rfl ?_
    refine V.aload_n dX6_step_50 rfl rfl rfl ?_
    refine V.geti (v := nI t) dX6_step_51 fg_X6_13 rfl rfl (by simp [ms, h1]) rfl ?_
    refine V.icmp_lt (tgt := 65) dX6_step_54 rfl rfl (fun c54 => absurd ((nI_ltI (a := p) (b := t) (by omega) (by omega)).mp c54) (by omega)) (fun c54 => ?_)
    have c54 : ¬ p < t := fun zq => c54 ((nI_ltI (a := p) (b := t) (by omega) (by omega)).mpr zq)
    refine V.aload_n dX6_step_57 rfl rfl rfl ?_
    refine V.iconst (v := 0) dX6_step_58 rfl rfl ?_
    refine V.puti dX6_step_59 fp_X6_23 rfl rfl rfl rfl (M' := (ms (ms M 54 2 (nI p)) 54 4 0)) rfl rfl ?_
    refine V.goto (pc' := 142) dX6_step_62 rfl ?_
    exact V.vret dX6_step_142 rfl ⟨rfl, st4_of (fun k hk => by simp (disch := assumption) only [ms_k]) (by simp (disch := decide) only [ms_j, ms_s]) (by simp (disch := decide) only [ms_j, ms_s]; rw [te_t hge]; exact h3) (by simp (disch := decide) only [ms_j, ms_s]; rw [tyF, if_pos hge]) (by simp (disch := decide) only [ms_j, ms_s]; rw [if_neg (fun q => absurd q.1 (by omega))]) (fun j z2 z3 z4 z5 => by simp (disch := assumption) only [ms_j])⟩
theorem v_X6_step {t : Nat} (ht : t ≤ 120) {r : Nat} (hr : r ≤ t) (M : Mem) (h1 : M 54 1 = nI t) (h3 : M 54 3 = nI r) : V m_X6_step 0 [(0, .ref 54)] [] M (RT none (stC t M)) := by
  have ek : skN t M = skG t (M 55) 121 r := by rw [skN, h3, nI_clamp (by omega)]
  refine l_X6_step_sk ht _ 121 r M h1 h3 hr (by omega) ?_
  have hz := l_X6_step_38 ht (p := skG t (M 55) 121 r) (sk_le _ _ hr) (ms M 54 3 (nI (skG t (M 55) 121 r))) (by rw [ms_j (by decide)]; exact h1) ms_s
  rw [ms_k (show (55 : Nat) ≠ 54 by decide), ms_j (show (5 : Nat) ≠ 3 by decide)] at hz
  rw [stC, ek]
  rw [show st4 M (nI (skG t (M 55) 121 r)) (nI (teG t (M 55) (skG t (M 55) 121 r))) (tyF t (M 55) (skG t (M 55) 121 r)) (if skG t (M 55) 121 r < t ∧ isD (M 55 (skG t (M 55) 121 r)) = true then vaG (M 55) (teG t (M 55) (skG t (M 55) 121 r) - skG t (M 55) 121 r) (skG t (M 55) 121 r) 0 else M 54 5) = st4 (ms M 54 3 (nI (skG t (M 55) 121 r))) (nI (skG t (M 55) 121 r)) (nI (teG t (M 55) (skG t (M 55) 121 r))) (tyF t (M 55) (skG t (M 55) 121 r)) (if skG t (M 55) 121 r < t ∧ isD (M 55 (skG t (M 55) 121 r)) = true then vaG (M 55) (teG t (M 55) (skG t (M 55) 121 r) - skG t (M 55) 121 r) (skG t (M 55) 121 r) 0 else M 54 5) from (st4_of (fun k hk => by unfold st4; simp (disch := assumption) only [ms_k]) (by unfold st4; simp (disch := decide) only [ms_j, ms_s]) (by unfold st4; simp (disch := decide) only [ms_j, ms_s]) (by unfold st4; simp (disch := decide) only [ms_j, ms_s]) (by unfold st4; simp (disch := decide) only [ms_j, ms_s]) (fun j z2 z3 z4 z5 => by unfold st4; simp (disch := assumption) only [ms_j])).symm]
  exact hz
def iwP (i p : Nat) (M : Mem) : Bool := decide (M 54 4 = 1 ∧ M 54 3 - M 54 2 = nI (sl i) ∧ ∀ j, j < sl i → M 55 (p + j) = sb i j)
theorem l_X6_isWord {i : Nat} (hi : i < 17) {p r : Nat} (hpr : p ≤ r) (hr : r ≤ 120) (M : Mem) (h2 : M 54 2 = nI p) (h3 : M 54 3 = nI r) (h4 : M 54 4 = 1) (hl : r - p = sl i) : ∀ (n j : Nat), j + n = sl i → (∀ q, q < j → M 55 (p + q) = sb i q) → V m_X6_isWord 30 [(0, .ref 54), (1, .ref (100 + i)), (2, .int (nI (sl i))), (3, .int (nI j))] [] M (RT (some (.int (if iwP i p M = true then 1 else 0))) M) := by
  have hle := (sl_le i hi).1
  have e23 : M 54 3 - M 54 2 = nI (sl i) := by rw [h2, h3, pk_sub hpr, hl]
  intro n
  induction n with
  | zero =>
    intro j hj hq
    obtain rfl : j = sl i := by omega
    rw [if_pos (show iwP i p M = true from decide_eq_true ⟨h4, e23, hq⟩)]
    refine V.iload_n dX6_isWord_30 rfl rfl rfl ?_
    refine V.iload_n dX6_isWord_31 rfl rfl rfl ?_
    refine V.icmp_ge (tgt := 62) dX6_isWord_32 rfl rfl (fun c32 => ?_) (fun c32 => absurd ((nI_leI (a := sl i) (b := sl i) (by omega) (by omega)).mpr (by omega)) c32)
    have c32 : sl i ≤ sl i := (nI_leI (a := sl i) (b := sl i) (by omega) (by omega)).mp c32
    refine V.iconst (v := 1) dX6_isWord_62 rfl rfl ?_
    exact V.ret dX6_isWord_63 rfl rfl ⟨rfl, rfl⟩
  | succ n ih =>
    intro j hj hq
    refine V.iload_n dX6_isWord_30 rfl rfl rfl ?_
    refine V.iload_n dX6_isWord_31 rfl rfl rfl ?_
    refine V.icmp_ge (tgt := 62) dX6_isWord_32 rfl rfl (fun c32 => absurd ((nI_leI (a := sl i) (b := j) (by omega) (by omega)).mp c32) (by omega)) (fun c32 => ?_)
    have c32 : ¬ sl i ≤ j := fun zq => c32 ((nI_leI (a := sl i) (b := j) (by omega) (by omega)).mpr zq)
    refine V.aload_n dX6_isWord_35 rfl rfl rfl ?_
    refine V.getr dX6_isWord_36 fg_X6_9 rfl rfl rfl ?_
    refine V.aload_n dX6_isWord_39 rfl rfl rfl ?_
    refine V.geti (v := nI p) dX6_isWord_40 fg_X6_17 rfl rfl h2 rfl ?_
    refine V.iload_n dX6_isWord_43 rfl rfl rfl ?_
    refine V.iadd (v := nI (p + j)) dX6_isWord_44 (nI_add _ _) rfl ?_
    refine V.ialdN (j := p + j) (v := M 55 (p + j)) dX6_isWord_45 rfl (by omega) (by decide) rfl rfl rfl ?_
    refine V.aload_n dX6_isWord_46 rfl rfl rfl ?_
    refine V.iload_n dX6_isWord_47 rfl rfl rfl ?_
    refine V.callS_i hi (M1 := M) (v := sb i j) (md' := m_J0_charAt_5068e) (As := [.int (nI j)]) (rest := [.int (M 55 (p + j))]) dX6_isWord_48 ml_X6_56 mo_J0_charAt_5068e ⟨Nat.le_of_ble_eq_true rfl, Nat.le_of_ble_eq_true rfl⟩ rfl (Nat.le_of_ble_eq_true rfl) rfl rfl (Nat.le_of_ble_eq_true rfl) (v_charAt hi (j := j) (by omega) M) rfl ?_
    refine V.icmp_eq (tgt := 56) dX6_isWord_51 rfl rfl (fun c51 => ?_) (fun c51 => ?_)
    · skip
      refine V.inc (v := nI (j + 1)) dX6_isWord_56 rfl (nI_1 _) (by decide) (L' := [(0, .ref 54), (1, .ref (100 + i)), (2, .int (nI (sl i))), (3, .int (nI (j + 1)))]) rfl rfl ?_
      refine V.goto (pc' := 30) dX6_isWord_59 rfl ?_
      refine ih (j + 1) (by omega) (fun q h => ?_)
      by_cases e : q = j
      · subst e; exact c51
      · exact hq q (by omega)
    · skip
      refine V.iconst (v := 0) dX6_isWord_54 rfl rfl ?_
      exact V.ret dX6_isWord_55 rfl rfl ⟨(by rw [if_neg (fun z => c51 ((of_decide_eq_true z).2.2 j (by omega)))]), rfl⟩
theorem v_X6_isWord {i : Nat} (hi : i < 17) {p r : Nat} (hpr : p ≤ r) (hr : r ≤ 120) (M : Mem) (h2 : M 54 2 = nI p) (h3 : M 54 3 = nI r) : V m_X6_isWord 0 [(0, .ref 54), (1, .ref (100 + i))] [] M (RT (some (.int (if iwP i p M = true then 1 else 0))) M) := by
  have hle := (sl_le i hi).1
  refine V.aload_n dX6_isWord_0 rfl rfl rfl ?_
  refine V.callS_i hi (M1 := M) (v := nI (sl i)) (md' := m_J0_length_8abf5) (As := []) (rest := []) dX6_isWord_1 ml_X6_51 mo_J0_length_8abf5 ⟨Nat.le_of_ble_eq_true rfl, Nat.le_of_ble_eq_true rfl⟩ rfl (Nat.le_of_ble_eq_true rfl) rfl rfl (Nat.le_of_ble_eq_true rfl) (v_length hi M) rfl ?_
  refine V.ist_n dX6_isWord_4 rfl (by decide) (L' := [(0, .ref 54), (1, .ref (100 + i)), (2, .int (nI (sl i)))]) rfl rfl ?_
  refine V.aload_n dX6_isWord_5 rfl rfl rfl ?_
  refine V.geti (v := M 54 4) dX6_isWord_6 fg_X6_23 rfl rfl rfl rfl ?_
  refine V.iconst (v := 1) dX6_isWord_9 rfl rfl ?_
  refine V.icmp_ne (tgt := 26) dX6_isWord_10 rfl rfl (fun c10 => ?_) (fun c10 => ?_)
  · skip
    refine V.iconst (v := 0) dX6_isWord_26 rfl rfl ?_
    exact V.ret dX6_isWord_27 rfl rfl ⟨(by rw [if_neg (fun z => c10 (of_decide_eq_true z).1)]), rfl⟩
  · skip
    refine V.aload_n dX6_isWord_13 rfl rfl rfl ?_
    refine V.geti (v := nI r) dX6_isWord_14 fg_X6_20 rfl rfl h3 rfl ?_
    refine V.aload_n dX6_isWord_17 rfl rfl rfl ?_
    refine V.geti (v := nI p) dX6_isWord_18 fg_X6_17 rfl rfl h2 rfl ?_
    refine V.isub (v := nI (r - p)) dX6_isWord_21 (pk_sub hpr) rfl ?_
    refine V.iload_n dX6_isWord_22 rfl rfl rfl ?_
    refine V.icmp_eq (tgt := 28) dX6_isWord_23 rfl rfl (fun c23 => ?_) (fun c23 => ?_)
    · have c23 : r - p = sl i := (nI_eq (a := r - p) (b := sl i) (by omega) (by omega)).mp c23
      refine V.iconst (v := 0) dX6_isWord_28 rfl rfl ?_
      refine V.ist_n dX6_isWord_29 rfl (by decide) (L' := [(0, .ref 54), (1, .ref (100 + i)), (2, .int (nI (sl i))), (3, .int 0)]) rfl rfl ?_
      exact l_X6_isWord hi hpr hr M h2 h3 c10 c23 (sl i) 0 (by omega) (fun q h => absurd h (by omega))
    · have c23 : ¬ r - p = sl i := fun zq => c23 ((nI_eq (a := r - p) (b := sl i) (by omega) (by omega)).mpr zq)
      refine V.iconst (v := 0) dX6_isWord_26 rfl rfl ?_
      exact V.ret dX6_isWord_27 rfl rfl ⟨(by rw [if_neg (fun z => c23 (by have y := (of_decide_eq_true z).2.1; rw [h2, h3, pk_sub hpr] at y; exact (nI_eq (by omega) (by omega)).mp y))]), rfl⟩
