/-! The reference's text, whole -/
def frm (M : Mem) : Nat := (M 62 7).toNatClampNeg
/-- what a step of the reader keeps: its state, the room, its place not falling, a fault staying -/
def RS (t : Nat) (M M' : Mem) : Prop := TK t M' ∧ frm M ≤ frm M' ∧ (M' 62 10 = 0 → M 62 10 = 0) ∧ (∀ k, k ≠ 62 → k ≠ 63 → M' k = M k) ∧ ∀ j, 116 ≤ j → M' 63 j = M 63 j
theorem RS.trans {t : Nat} {M M' M'' : Mem} (h : RS t M M') (g : RS t M' M'') : RS t M M'' :=
  ⟨g.1, Nat.le_trans h.2.1 g.2.1, fun q => h.2.2.1 (g.2.2.1 q), fun k h1 h2 => by rw [g.2.2.2.1 k h1 h2, h.2.2.2.1 k h1 h2], fun j hj => by rw [g.2.2.2.2 j hj, h.2.2.2.2 j hj]⟩
theorem RS.self {t : Nat} {M : Mem} (h : TK t M) : RS t M M := ⟨h, Nat.le_refl _, fun q => q, fun _ _ _ => rfl, fun _ _ => rfl⟩
theorem RS_v {t : Nat} {M : Mem} {v : Int32} (h : TK t M) : RS t M (ms M 62 9 v) :=
  ⟨TK_v h, by unfold frm; rw [ms_j (by decide)]; exact Nat.le_refl _, fun q => by rw [ms_j (by decide)] at q; exact q, fun k h1 _ => ms_k h1, fun j _ => by rw [ms_k (by decide)]⟩
theorem RS_need {t : Nat} (ht : t ≤ 120) {b : Bool} {M : Mem} (h : TK t M) : RS t M (needM t b M) := by
  refine ⟨TK_need ht h, ?_, fun q => (need_w.mp q).1, fun k h1 _ => need_k h1, fun j _ => by rw [need_k (by decide)]⟩
  obtain ⟨h6, ⟨p, r, hpr, hr, hpt, h7, h8⟩, h10⟩ := h
  unfold frm needM
  split
  · have := sk_ge (t := t) (f := M 67) 121 r
    have hle := sk_le (t := t) (f := M 67) 121 r hr
    rw [tokM, h8, nI_clamp (n := r) (by omega), ms_j (by decide), ms_s, h7, nI_clamp (by omega), nI_clamp (by omega)]
    omega
  · rw [ms_j (by decide)]; exact Nat.le_refl _
/-- a token that is taken: the place goes on -/
theorem need_go {t : Nat} (ht : t ≤ 120) {b : Bool} {M : Mem} (h : TK t M) (hw : needM t b M 62 10 = 0) (hf : frm M < t) : frm M < frm (needM t b M) := by
  have hw' := need_w.mp hw
  obtain ⟨h6, ⟨p, r, hpr, hr, hpt, h7, h8⟩, h10⟩ := h
  unfold frm at hf ⊢
  rw [h7, nI_clamp (by omega)] at hf ⊢
  have hpr' := hpt hf
  have := sk_ge (t := t) (f := M 67) 121 r
  have hle := sk_le (t := t) (f := M 67) 121 r hr
  rw [needM, if_pos hw', tokM, h8, nI_clamp (n := r) (by omega), ms_j (by decide), ms_s, nI_clamp (by omega)]
  omega
theorem RS_num {t : Nat} (ht : t ≤ 120) {h : Int} {M : Mem} (hT : TK t M) : RS t M (numM t h M) := by
  unfold numM
  split
  · exact (RS_v hT).trans (RS_need ht (TK_v hT))
  · exact RS.self hT
theorem RS_pe {t : Nat} (ht : t ≤ 120) {b : Bool} {h : Int} {M : Mem} (hT : TK t M) : RS t M (peM t b h M) := by
  unfold peM
  split
  · exact (RS_need ht hT).trans (RS_num ht (TK_need ht hT))
  · exact RS.self hT
theorem RS_ba3 {t c : Nat} (ht : t ≤ 120) {M : Mem} (hT : TK t M) : RS t M (ba3 t c M) := by
  unfold ba3
  split
  · exact RS.self hT
  · exact RS_need ht hT
theorem TK_63 {t j : Nat} {v : Int32} {M : Mem} (h : TK t M) : TK t (ms M 63 j v) := by
  unfold TK
  rw [ms_k (by decide)]
  exact h
theorem RS_63 {t j : Nat} {v : Int32} {M : Mem} (hj : j < 116) (h : TK t M) : RS t M (ms M 63 j v) :=
  ⟨TK_63 h, by unfold frm; rw [ms_k (by decide)]; exact Nat.le_refl _, fun q => by rw [ms_k (by decide)] at q; exact q, fun k _ h2 => ms_k h2, fun i hi => ms_j (by omega)⟩
theorem RS_63s {t j : Nat} {v : Int32} {M M' : Mem} (h : RS t M M') (hj : j < 116) : RS t M (ms M' 63 j v) := h.trans (RS_63 hj h.1)
theorem RS_newB {t c : Nat} {k v p : Int32} {M : Mem} (hc : c < 10) (h : TK t M) : RS t M (mNewM c k v p M) := by
  unfold mNewM
  refine RS_63s (RS_63s (RS_63s (RS_63s (RS_63s (RS_63s (RS.self h) ?_) ?_) ?_) ?_) ?_) ?_ <;> omega
theorem RS_newC {t c : Nat} {k v p : Int32} {M : Mem} (hc : c < 12) (h : TK t M) : RS t M (mNewC c k v p M) := by
  unfold mNewC
  refine RS_63s (RS_63s (RS_63s (RS_63s (RS.self h) ?_) ?_) ?_) ?_ <;> omega
def cnts (M : Mem) : Prop := (∃ c, c ≤ 10 ∧ M 63 1 = nI c) ∧ ∃ cc, cc ≤ 12 ∧ M 63 2 = nI cc
theorem cnts_of {M M' : Mem} (h : M' 63 = M 63) (hc : cnts M) : cnts M' := by unfold cnts; rw [h]; exact hc
theorem RS_ba {t c : Nat} (ht : t ≤ 120) {k : Int32} {M : Mem} (hT : TK t M) : RS t M (baM t c k M) := by
  unfold baM
  have h1 : RS t M (ba1 t c M) := RS_need ht hT
  have h2 := RS_pe (b := baB t (ba1 t c M)) (h := 999) ht h1.1
  have h3 := RS_ba3 (c := c) ht h2.1
  refine h1.trans (h2.trans (h3.trans ?_))
  unfold ba4
  split
  · next q => exact RS_newB (of_decide_eq_true (need_w.mp (h2.2.2.1 (h3.2.2.1 q))).2) h3.1
  · exact RS.self h3.1
theorem RS_cr {t cc : Nat} (ht : t ≤ 120) {M : Mem} (hT : TK t M) : RS t M (crM t cc M) := by
  unfold crM cr3 cr4 cr5 cr6
  have h1 := RS_need (b := decide (cc < 12)) ht hT
  have h2 := RS_num (h := 400) ht h1.1
  have h3 := RS_need (b := decide (wdF t (numM t 400 (needM t (decide (cc < 12)) M)) = 52)) ht h2.1
  have h4 := RS_num (h := 3) ht h3.1
  have h5 := RS_need (b := decide (wdF t (numM t 3 (needM t (decide (wdF t (numM t 400 (needM t (decide (cc < 12)) M)) = 52)) (numM t 400 (needM t (decide (cc < 12)) M)))) = 446125701)) ht h4.1
  have h6 := RS_num (h := 999) ht h5.1
  refine h1.trans (h2.trans (h3.trans (h4.trans (h5.trans (h6.trans ?_)))))
  split
  · next q => exact RS_newC (of_decide_eq_true (need_w.mp (h2.2.2.1 (h3.2.2.1 (h4.2.2.1 (h5.2.2.1 (h6.2.2.1 q)))))).2) h6.1
  · exact RS.self h6.1
theorem RS_ru {t j : Nat} (ht : t ≤ 120) {h : Int} {M : Mem} (hj : j < 3) (hT : TK t M) : RS t M (ruM t j h M) := by
  unfold ruM
  have h1 := RS_pe (b := true) (h := h) ht hT
  refine h1.trans ?_
  split
  · exact RS_63 (by omega) h1.1
  · exact RS.self h1.1
theorem RS_it {t : Nat} (ht : t ≤ 120) {M : Mem} (hT : TK t M) : RS t M (itM t M) := by
  unfold itM
  split
  · exact RS_ba ht hT
  split
  · exact RS_cr ht hT
  split
  · exact RS_ru ht (by decide) hT
  split
  · exact RS_ru ht (by decide) hT
  split
  · exact RS_ru ht (by decide) hT
  · exact RS_need ht hT
theorem cnts_ba {t c : Nat} (ht : t ≤ 120) {k : Int32} {M : Mem} (hT : TK t M) (hc : cnts M) : cnts (baM t c k M) := by
  unfold baM
  have h1 : RS t M (ba1 t c M) := RS_need ht hT
  have h2 := RS_pe (b := baB t (ba1 t c M)) (h := 999) ht h1.1
  have h3 := RS_ba3 (c := c) ht h2.1
  have e : ba3 t c (peM t (baB t (ba1 t c M)) 999 (ba1 t c M)) 63 = M 63 := by rw [ba3_k (by decide), pe_k (by decide), ba1, need_k (by decide)]
  unfold ba4
  split
  · next q =>
    have hlt : c < 10 := of_decide_eq_true (need_w.mp (h2.2.2.1 (h3.2.2.1 q))).2
    refine ⟨⟨c + 1, by omega, by rw [mNewM, ms_s]⟩, ?_⟩
    obtain ⟨-, cc, hcc, h2⟩ := hc
    exact ⟨cc, hcc, by rw [mNewM]; simp (disch := omega) only [ms_j]; rw [e]; exact h2⟩
  · exact cnts_of e hc
theorem cnts_cr {t cc : Nat} (ht : t ≤ 120) {M : Mem} (hT : TK t M) (hc : cnts M) : cnts (crM t cc M) := by
  unfold crM cr3 cr4 cr5 cr6
  have h1 := RS_need (b := decide (cc < 12)) ht hT
  have h2 := RS_num (h := 400) ht h1.1
  have h3 := RS_need (b := decide (wdF t (numM t 400 (needM t (decide (cc < 12)) M)) = 52)) ht h2.1
  have h4 := RS_num (h := 3) ht h3.1
  have h5 := RS_need (b := decide (wdF t (numM t 3 (needM t (decide (wdF t (numM t 400 (needM t (decide (cc < 12)) M)) = 52)) (numM t 400 (needM t (decide (cc < 12)) M)))) = 446125701)) ht h4.1
  have h6 := RS_num (h := 999) ht h5.1
  split
  · next q =>
    have hlt : cc < 12 := of_decide_eq_true (need_w.mp (h2.2.2.1 (h3.2.2.1 (h4.2.2.1 (h5.2.2.1 (h6.2.2.1 q)))))).2
    refine ⟨?_, ⟨cc + 1, by omega, by rw [mNewC, ms_s]⟩⟩
    obtain ⟨⟨c, hcc, h1'⟩, -⟩ := hc
    exact ⟨c, hcc, by rw [mNewC]; simp (disch := omega) only [ms_j]; rw [num_k (by decide), need_k (by decide), num_k (by decide), need_k (by decide), num_k (by decide), need_k (by decide)]; exact h1'⟩
  · exact cnts_of (by rw [num_k (by decide), need_k (by decide), num_k (by decide), need_k (by decide), num_k (by decide), need_k (by decide)]) hc
theorem cnts_ru {t j : Nat} {h : Int} {M : Mem} (hc : cnts M) : cnts (ruM t j h M) := by
  have hp : cnts (peM t true h M) := cnts_of (pe_k (by decide)) hc
  unfold ruM
  split
  · obtain ⟨⟨c, h1, h2⟩, cc, h3, h4⟩ := hp
    exact ⟨⟨c, h1, by rw [ms_j (by omega)]; exact h2⟩, cc, h3, by rw [ms_j (by omega)]; exact h4⟩
  · exact hp
theorem cnts_it {t : Nat} (ht : t ≤ 120) {M : Mem} (hT : TK t M) (hc : cnts M) : cnts (itM t M) := by
  unfold itM
  split
  · exact cnts_ba ht hT hc
  split
  · exact cnts_cr ht hT hc
  split
  · exact cnts_ru hc
  split
  · exact cnts_ru hc
  split
  · exact cnts_ru hc
  · exact cnts_of (need_k (by decide)) hc
theorem v_item' {t : Nat} (ht : t ≤ 120) {M : Mem} (hT : TK t M) (hc : cnts M) : V m_X9_item 0 [(0, .ref 62)] [] M (RT none (itM t M)) := by
  obtain ⟨⟨c, h1, h2⟩, cc, h3, h4⟩ := hc
  exact v_X9_item ht h1 h3 M hT h2 h4
def txG (t : Nat) : Nat → Nat → Mem → Nat × Mem
  | 0, i, M => (i, M)
  | n + 1, i, M => if M 62 10 = 0 ∧ frm M < t then txG t n (i + 1) (itM t (needM t (decide (bA t (M 67) (frm M) = 59)) M)) else (i, M)
def txE (i : Nat) (M : Mem) : Int32 × Mem := if M 62 10 = 0 then (nI i, ms M 62 6 0) else (-1 - M 62 7, rowG 63 65 116 0 (ms M 62 6 0))
def tx0 (t : Nat) (M : Mem) : Mem := itM t (tokM t (ms (ms (SV M) 62 8 0) 62 10 0))
def txR (t : Nat) (M : Mem) : Int32 × Mem := txE (txG t 121 1 (tx0 t M)).1 (txG t 121 1 (tx0 t M)).2
theorem l_X9_text_74 {i : Nat} (M : Mem) : V m_X9_text 74 [(0, .ref 62), (1, .int (nI i))] [] M (RT (some (.int (txE i M).1)) (txE i M).2) := by
  refine V.aload_n dX9_text_74 rfl rfl rfl ?_
  refine V.iconst (v := 0) dX9_text_75 rfl rfl ?_
  refine V.puti dX9_text_76 fp_X9_218 rfl rfl rfl rfl (M' := (ms M 62 6 0)) rfl rfl ?_
  refine V.aload_n dX9_text_79 rfl rfl rfl ?_
  refine V.geti (v := M 62 10) dX9_text_80 fg_X9_245 rfl rfl (by rw [ms_j (by decide)]) rfl ?_
  refine V.if_eq (tgt := 97) dX9_text_83 rfl rfl (fun c83 => ?_) (fun c83 => ?_)
  · skip
    refine V.iload_n dX9_text_97 rfl rfl rfl ?_
    exact V.ret dX9_text_98 rfl rfl ⟨(by first | rw [txE, if_pos c83] | rw [txE, if_neg c83]), (by first | rw [txE, if_pos c83] | rw [txE, if_neg c83])⟩
  · skip
    refine V.aload_n dX9_text_86 rfl rfl rfl ?_
    refine V.callv_v (M1 := rowG 63 65 116 0 (ms M 62 6 0)) (md' := m_X9_putsBack) (As := []) (rest := []) dX9_text_87 ml_X9_188 mo_X9_putsBack ⟨Nat.le_of_ble_eq_true rfl, Nat.le_of_ble_eq_true rfl⟩ rfl ⟨_, _, rfl⟩ (Nat.le_of_ble_eq_true rfl) rfl rfl (Nat.le_of_ble_eq_true rfl) (v_X9_putsBack _) rfl ?_
    refine V.iconst (v := -1) dX9_text_90 rfl rfl ?_
    refine V.aload_n dX9_text_91 rfl rfl rfl ?_
    refine V.geti (v := M 62 7) dX9_text_92 fg_X9_233 rfl rfl (by rw [rowG_k (by decide), ms_j (by decide)]) rfl ?_
    refine V.isub (v := (-1) - (M 62 7)) dX9_text_95 rfl rfl ?_
    exact V.ret dX9_text_96 rfl rfl ⟨(by first | rw [txE, if_pos c83] | rw [txE, if_neg c83]), (by first | rw [txE, if_pos c83] | rw [txE, if_neg c83])⟩
theorem l_X9_text_61 {t : Nat} (ht : t ≤ 120) {i : Nat} (b : Bool) (Q : Option Value → Mem → Prop) (M : Mem) (hT : TK t M) (hc : cnts M) : V m_X9_text 24 [(0, .ref 62), (1, .int (nI (i + 1)))] [] (itM t (needM t b M)) Q → V m_X9_text 61 [(0, .ref 62), (1, .int (nI i))] [.int (oI b), .ref 62] M Q := by
  intro K
  refine V.callv_v (M1 := needM t b M) (md' := m_X9_needs) (As := [.int (oI b)]) (rest := []) dX9_text_61 ml_X9_259 mo_X9_needs ⟨Nat.le_of_ble_eq_true rfl, Nat.le_of_ble_eq_true rfl⟩ rfl ⟨_, _, rfl⟩ (Nat.le_of_ble_eq_true rfl) rfl rfl (Nat.le_of_ble_eq_true rfl) (v_X9_needs ht b M hT) rfl ?_
  refine V.aload_n dX9_text_64 rfl rfl rfl ?_
  refine V.callv_v (M1 := itM t (needM t b M)) (md' := m_X9_item) (As := []) (rest := []) dX9_text_65 ml_X9_322 mo_X9_item ⟨Nat.le_of_ble_eq_true rfl, Nat.le_of_ble_eq_true rfl⟩ rfl ⟨_, _, rfl⟩ (Nat.le_of_ble_eq_true rfl) rfl rfl (Nat.le_of_ble_eq_true rfl) (v_item' ht (TK_need ht hT) (cnts_of (need_k (by decide)) hc)) rfl ?_
  refine V.inc (v := nI (i + 1)) dX9_text_68 rfl (nI_1 _) (by decide) (L' := [(0, .ref 62), (1, .int (nI (i + 1)))]) rfl rfl ?_
  refine V.goto (pc' := 24) dX9_text_71 rfl ?_
  exact K
theorem l_X9_text {t : Nat} (ht : t ≤ 120) : ∀ (n i : Nat) (M : Mem), TK t M → cnts M → (M 62 10 = 0 → t ≤ frm M + n) → V m_X9_text 24 [(0, .ref 62), (1, .int (nI i))] [] M (RT (some (.int (txE (txG t n i M).1 (txG t n i M).2).1)) (txE (txG t n i M).1 (txG t n i M).2).2) := by
  intro n
  induction n with
  | zero =>
    intro i M hT hc hf
    have hT0 := hT
    obtain ⟨h6, ⟨p, r, hpr, hr, hpt, h7, h8⟩, h10⟩ := hT
    have ef : frm M = p := by rw [frm, h7]; exact nI_clamp (by omega)
    refine V.aload_n dX9_text_24 rfl rfl rfl ?_
    refine V.geti (v := M 62 10) dX9_text_25 fg_X9_245 rfl rfl rfl rfl ?_
    refine V.if_ne (tgt := 74) dX9_text_28 rfl rfl (fun c28 => ?_) (fun c28 => ?_)
    · skip
      exact l_X9_text_74 M
    · skip
      refine V.aload_n dX9_text_31 rfl rfl rfl ?_
      refine V.geti (v := nI p) dX9_text_32 fg_X9_233 rfl rfl h7 rfl ?_
      refine V.aload_n dX9_text_35 rfl rfl rfl ?_
      refine V.geti (v := nI t) dX9_text_36 fg_X9_218 rfl rfl h6 rfl ?_
      refine V.icmp_ge (tgt := 74) dX9_text_39 rfl rfl (fun c39 => ?_) (fun c39 => ?_)
      · have c39 : t ≤ p := (nI_leI (a := t) (b := p) (by omega) (by omega)).mp c39
        exact l_X9_text_74 M
      · have c39 : ¬ t ≤ p := fun zq => c39 ((nI_leI (a := t) (b := p) (by omega) (by omega)).mpr zq)
        exact absurd (hf c28) (by omega)
  | succ n ih =>
    intro i M hT hc hf
    have hT0 := hT
    obtain ⟨h6, ⟨p, r, hpr, hr, hpt, h7, h8⟩, h10⟩ := hT
    have ef : frm M = p := by rw [frm, h7]; exact nI_clamp (by omega)
    refine V.aload_n dX9_text_24 rfl rfl rfl ?_
    refine V.geti (v := M 62 10) dX9_text_25 fg_X9_245 rfl rfl rfl rfl ?_
    refine V.if_ne (tgt := 74) dX9_text_28 rfl rfl (fun c28 => ?_) (fun c28 => ?_)
    · skip
      rw [show txG t (n + 1) i M = (i, M) from by simp only [txG]; rw [if_neg (fun q => c28 q.1)]]
      exact l_X9_text_74 M
    · skip
      refine V.aload_n dX9_text_31 rfl rfl rfl ?_
      refine V.geti (v := nI p) dX9_text_32 fg_X9_233 rfl rfl h7 rfl ?_
      refine V.aload_n dX9_text_35 rfl rfl rfl ?_
      refine V.geti (v := nI t) dX9_text_36 fg_X9_218 rfl rfl h6 rfl ?_
      refine V.icmp_ge (tgt := 74) dX9_text_39 rfl rfl (fun c39 => ?_) (fun c39 => ?_)
      · have c39 : t ≤ p := (nI_leI (a := t) (b := p) (by omega) (by omega)).mp c39
        rw [show txG t (n + 1) i M = (i, M) from by simp only [txG]; rw [if_neg (fun q => by have := q.2; omega)]]
        exact l_X9_text_74 M
      · have c39 : ¬ t ≤ p := fun zq => c39 ((nI_leI (a := t) (b := p) (by omega) (by omega)).mpr zq)
        refine V.aload_n dX9_text_42 rfl rfl rfl ?_
        refine V.aload_n dX9_text_43 rfl rfl rfl ?_
        refine V.aload_n dX9_text_44 rfl rfl rfl ?_
        refine V.geti (v := nI p) dX9_text_45 fg_X9_233 rfl rfl h7 rfl ?_
        refine V.callv_i (M1 := M) (v := bA t (M 67) p) (md' := m_X9_byteAt) (As := [.int (nI p)]) (rest := [.ref 62]) dX9_text_48 ml_X9_236 mo_X9_byteAt ⟨Nat.le_of_ble_eq_true rfl, Nat.le_of_ble_eq_true rfl⟩ rfl ⟨_, _, rfl⟩ (Nat.le_of_ble_eq_true rfl) rfl rfl (Nat.le_of_ble_eq_true rfl) (v_X9_byteAt ht (p := p) (by omega) M h6) rfl ?_
        refine V.bipush (v := 59) dX9_text_51 (by decide) rfl ?_
        refine V.icmp_ne (tgt := 60) dX9_text_53 rfl rfl (fun c53 => ?_) (fun c53 => ?_)
        · skip
          refine V.iconst (v := 0) dX9_text_60 rfl rfl ?_
          have eb : decide (bA t (M 67) (frm M) = 59) = false := by rw [ef]; exact decide_eq_false c53
          rw [show txG t (n + 1) i M = txG t n (i + 1) (itM t (needM t false M)) from by simp only [txG]; rw [if_pos ⟨c28, by omega⟩, eb]]
          have hn := RS_need (b := false) ht hT0
          have hi := RS_it ht hn.1
          refine l_X9_text_61 ht false _ M hT0 hc (ih (i + 1) _ hi.1 (cnts_it ht hn.1 (cnts_of (need_k (by decide)) hc)) (fun q => ?_))
          have g1 := need_go ht hT0 (hi.2.2.1 q) (by omega)
          have g2 := hi.2.1
          have g3 := hf c28
          omega
        · skip
          refine V.iconst (v := 1) dX9_text_56 rfl rfl ?_
          refine V.goto (pc' := 61) dX9_text_57 rfl ?_
          have eb : decide (bA t (M 67) (frm M) = 59) = true := by rw [ef]; exact decide_eq_true c53
          rw [show txG t (n + 1) i M = txG t n (i + 1) (itM t (needM t true M)) from by simp only [txG]; rw [if_pos ⟨c28, by omega⟩, eb]]
          have hn := RS_need (b := true) ht hT0
          have hi := RS_it ht hn.1
          refine l_X9_text_61 ht true _ M hT0 hc (ih (i + 1) _ hi.1 (cnts_it ht hn.1 (cnts_of (need_k (by decide)) hc)) (fun q => ?_))
          have g1 := need_go ht hT0 (hi.2.2.1 q) (by omega)
          have g2 := hi.2.1
          have g3 := hf c28
          omega
theorem TK_tok0 {t r : Nat} (ht : t ≤ 120) {M : Mem} (h6 : M 62 6 = nI t) (hr : r ≤ t) (h8 : M 62 8 = nI r) (h10 : M 62 10 = 0 ∨ M 62 10 = 1) : TK t (tokM t M) := by
  refine ⟨by simp (disch := decide) only [tokM, ms_j]; exact h6, ⟨skG t (M 67) 121 r, teG t (M 67) (skG t (M 67) 121 r), te_ge, te_le (sk_le _ _ hr), te_gt, ?_, ?_⟩, ?_⟩
  · rw [tokM, h8, nI_clamp (by omega), ms_j (by decide), ms_s]
  · rw [tokM, h8, nI_clamp (by omega), ms_s]
  · simp (disch := decide) only [tokM, ms_j]; exact h10
theorem v_X9_text {t : Nat} (ht : t ≤ 120) (M : Mem) (h6 : M 62 6 = nI t) (hc : cnts M) : V m_X9_text 0 [(0, .ref 62)] [] M (RT (some (.int (txR t M).1)) (txR t M).2) := by
  have hA : TK t (tokM t (ms (ms (SV M) 62 8 0) 62 10 0)) := TK_tok0 ht (by rw [ms_j (by decide), ms_j (by decide), SV_k (by decide)]; exact h6) (Nat.zero_le t) (by rw [ms_j (by decide), ms_s]; rfl) (by rw [ms_s]; exact .inl rfl)
  have hcA : cnts (tokM t (ms (ms (SV M) 62 8 0) 62 10 0)) := cnts_of (by rw [tok_k (by decide), ms_k (by decide), ms_k (by decide), SV_63]) hc
  refine V.aload_n dX9_text_0 rfl rfl rfl ?_
  refine V.callv_v (M1 := SV M) (md' := m_X9_saves) (As := []) (rest := []) dX9_text_1 ml_X9_179 mo_X9_saves ⟨Nat.le_of_ble_eq_true rfl, Nat.le_of_ble_eq_true rfl⟩ rfl ⟨_, _, rfl⟩ (Nat.le_of_ble_eq_true rfl) rfl rfl (Nat.le_of_ble_eq_true rfl) (v_X9_saves M) rfl ?_
  refine V.aload_n dX9_text_4 rfl rfl rfl ?_
  refine V.iconst (v := 0) dX9_text_5 rfl rfl ?_
  refine V.puti dX9_text_6 fp_X9_230 rfl rfl rfl rfl (M' := (ms (SV M) 62 8 0)) rfl rfl ?_
  refine V.aload_n dX9_text_9 rfl rfl rfl ?_
  refine V.iconst (v := 0) dX9_text_10 rfl rfl ?_
  refine V.puti dX9_text_11 fp_X9_245 rfl rfl rfl rfl (M' := (ms (ms (SV M) 62 8 0) 62 10 0)) rfl rfl ?_
  refine V.aload_n dX9_text_14 rfl rfl rfl ?_
  refine V.callv_v (M1 := tokM t (ms (ms (SV M) 62 8 0) 62 10 0)) (md' := m_X9_token) (As := []) (rest := []) dX9_text_15 ml_X9_249 mo_X9_token ⟨Nat.le_of_ble_eq_true rfl, Nat.le_of_ble_eq_true rfl⟩ rfl ⟨_, _, rfl⟩ (Nat.le_of_ble_eq_true rfl) rfl rfl (Nat.le_of_ble_eq_true rfl) (v_X9_token ht (Nat.zero_le t) _ (by rw [ms_j (by decide), ms_j (by decide), SV_k (by decide)]; exact h6) (by rw [ms_j (by decide), ms_s]; rfl)) rfl ?_
  refine V.iconst (v := 1) dX9_text_18 rfl rfl ?_
  refine V.ist_n dX9_text_19 rfl (by decide) (L' := [(0, .ref 62), (1, .int 1)]) rfl rfl ?_
  refine V.aload_n dX9_text_20 rfl rfl rfl ?_
  refine V.callv_v (M1 := tx0 t M) (md' := m_X9_item) (As := []) (rest := []) dX9_text_21 ml_X9_322 mo_X9_item ⟨Nat.le_of_ble_eq_true rfl, Nat.le_of_ble_eq_true rfl⟩ rfl ⟨_, _, rfl⟩ (Nat.le_of_ble_eq_true rfl) rfl rfl (Nat.le_of_ble_eq_true rfl) (v_item' ht hA hcA) rfl ?_
  exact l_X9_text ht 121 1 _ (RS_it ht hA).1 (cnts_it ht hA hcA) (fun _ => by omega)
