/-! The class's text; what stands on both sides -/
theorem tx_rs {t : Nat} (ht : t ≤ 120) : ∀ (n i : Nat) (Mx : Mem), TK t Mx → RS t Mx (txG t n i Mx).2 := by
  intro n
  induction n with
  | zero => intro i Mx h; exact RS.self h
  | succ n ih =>
    intro i Mx h
    simp only [txG]
    split
    · have h1 := RS_need (b := decide (bA t (Mx 67) (frm Mx) = 59)) ht h
      have h2 := RS_it ht h1.1
      exact (h1.trans h2).trans (ih _ _ h2.1)
    · exact RS.self h
theorem v_X6_rewind {t : Nat} (ht : t ≤ 120) (M : Mem) (h1 : M 54 1 = nI t) : V m_X6_rewind 0 [(0, .ref 54)] [] M (RT none (stC t (ms M 54 3 0))) := by
  refine V.aload_n dX6_rewind_0 rfl rfl rfl ?_
  refine V.iconst (v := 0) dX6_rewind_1 rfl rfl ?_
  refine V.puti dX6_rewind_2 fp_X6_20 rfl rfl rfl rfl (M' := (ms M 54 3 0)) rfl rfl ?_
  refine V.aload_n dX6_rewind_5 rfl rfl rfl ?_
  refine V.callv_v (M1 := stC t (ms M 54 3 0)) (md' := m_X6_step) (As := []) (rest := []) dX6_rewind_6 ml_X6_29 mo_X6_step ⟨Nat.le_of_ble_eq_true rfl, Nat.le_of_ble_eq_true rfl⟩ rfl ⟨_, _, rfl⟩ (Nat.le_of_ble_eq_true rfl) rfl rfl (Nat.le_of_ble_eq_true rfl) (v_X6_step ht (r := 0) (Nat.zero_le t) _ (by rw [ms_j (by decide)]; exact h1) (by rw [ms_s]; rfl)) rfl ?_
  exact V.vret dX6_rewind_9 rfl ⟨rfl, rfl⟩
def tR0 (R : Mem) : Mem := ms (ms (SV R) 62 8 0) 62 10 0
theorem v_X7_readText {t : Nat} (ht : t ≤ 120) {c : Nat} (hc : c ≤ 10) {cc : Nat} (hcc : cc ≤ 12) {q : Nat} (hq : q ≤ 99) {m A B : Nat} {M R : Mem} (h1 : M 54 1 = nI t) (h6 : R 62 6 = nI t) (h55 : M 55 = R 67) (hV : ST 27 c cc q m A B M R) (hK : KI c R) : V m_X7_readText 0 [(0, .ref 56)] [] M (TQ t m A B (txG t 121 1 (tx0 t R)) M) := by
  have r6 : tR0 R 62 6 = nI t := by unfold tR0; rw [ms_j (by decide), ms_j (by decide), SV_k (by decide)]; exact h6
  have r8 : tR0 R 62 8 = nI 0 := by unfold tR0; rw [ms_j (by decide), ms_s]; rfl
  have r10 : tR0 R 62 10 = 0 := by unfold tR0; rw [ms_s]
  have r63 : tR0 R 63 = R 63 := by unfold tR0; rw [ms_k (by decide), ms_k (by decide), SV_63]
  have r67 : tR0 R 67 = R 67 := by unfold tR0; rw [ms_k (by decide), ms_k (by decide), SV_k (by decide)]
  obtain ⟨p, hS, -⟩ := step_tok (M := ms M 54 3 0) (R := tR0 R) ht (Nat.zero_le t) (by rw [ms_j (by decide)]; exact h1) (by rw [ms_s]; rfl) (by rw [ms_k (by decide), r67]; exact h55) r6 r8 r10
  refine V.aload_n dX7_readText_0 rfl rfl rfl ?_
  refine V.getr dX7_readText_1 fg_X7_9 rfl rfl rfl ?_
  refine V.callv_v (M1 := stC t (ms M 54 3 0)) (md' := m_X6_rewind) (As := []) (rest := []) dX7_readText_4 ml_X7_19 mo_X6_rewind ⟨Nat.le_of_ble_eq_true rfl, Nat.le_of_ble_eq_true rfl⟩ rfl ⟨_, _, rfl⟩ (Nat.le_of_ble_eq_true rfl) rfl rfl (Nat.le_of_ble_eq_true rfl) (v_X6_rewind ht M h1) rfl ?_
  refine V.iconst (v := 1) dX7_readText_7 rfl rfl ?_
  refine V.ist_n dX7_readText_8 rfl (by decide) (L' := [(0, .ref 56), (1, .int 1)]) rfl rfl ?_
  exact l_X7_readText ht M 121 1 p c cc q _ (tokM t (tR0 R)) hc hcc hq hS (ST_st (ST_M (fun a y1 y2 => ms_k (by omega)) (ST_R ((tok_k (by decide)).trans r63) hV))) (KI_R ((tok_k (by decide)).trans r63) hK) (KP_st (fun k y1 y2 => ms_k y2)) (by omega) (by omega) (by omega)
/-- the text's end: the evening, or as it was -/
def TX (t m A B : Nat) (a : Int32 × Mem) (M : Mem) : Option Value → Mem → Prop := fun rv M' => rv = some (.int a.1) ∧ (∀ k, k = 0 ∨ (14 ≤ k ∧ k < 27) ∨ 53 < k → k ≠ 54 → M' k = M k) ∧ M' 54 1 = 0 ∧ ∃ c' cc' q', c' ≤ 10 ∧ cc' ≤ 12 ∧ q' ≤ 99 ∧ ST 1 c' cc' q' m A B M' a.2 ∧ KI c' a.2
theorem tx_frame {t : Nat} (ht : t ≤ 120) {R : Mem} (h6 : R 62 6 = nI t) : TK t (txG t 121 1 (tx0 t R)).2 ∧ (∀ k, k ≠ 62 → k ≠ 63 → (txG t 121 1 (tx0 t R)).2 k = SV R k) ∧ ∀ j, 116 ≤ j → (txG t 121 1 (tx0 t R)).2 63 j = R 63 j := by
  have r6 : tR0 R 62 6 = nI t := by unfold tR0; rw [ms_j (by decide), ms_j (by decide), SV_k (by decide)]; exact h6
  have r8 : tR0 R 62 8 = nI 0 := by unfold tR0; rw [ms_j (by decide), ms_s]; rfl
  have r10 : tR0 R 62 10 = 0 := by unfold tR0; rw [ms_s]
  have hT : TK t (tokM t (tR0 R)) := TK_tok0 ht r6 (Nat.zero_le t) r8 (.inl r10)
  have h2 := RS_it ht hT
  have h4 := h2.trans (tx_rs ht 121 1 _ h2.1)
  refine ⟨h4.1, fun k y1 y2 => ?_, fun j hj => ?_⟩
  · have e : (txG t 121 1 (tx0 t R)).2 k = tokM t (tR0 R) k := h4.2.2.2.1 k y1 y2
    rw [e, tok_k y1]
    unfold tR0
    rw [ms_k y1, ms_k y1]
  · have e : (txG t 121 1 (tx0 t R)).2 63 j = tokM t (tR0 R) 63 j := h4.2.2.2.2 j hj
    rw [e, tok_k (by decide)]
    unfold tR0
    rw [ms_k (by decide), ms_k (by decide), SV_63]
theorem tx_back {t : Nat} (ht : t ≤ 120) {R : Mem} (h6 : R 62 6 = nI t) : rowG 63 65 116 0 (ms (txG t 121 1 (tx0 t R)).2 62 6 0) 63 = R 63 := by
  obtain ⟨-, h2, h3⟩ := tx_frame ht h6
  funext j
  by_cases hj : j < 116
  · rw [rowG_i (by decide) _ _ _ (Nat.zero_le j) (by omega), ms_k (by decide), h2 65 (by decide) (by decide), SV_65 hj]
  · rw [rowG_o _ _ _ (by omega), ms_k (by decide), h3 j (by omega)]
theorem neg_p {p : Nat} (h : p ≤ 120) : -1 - nI p < 0 := by
  have : ∀ p, p < 121 → -1 - nI p < 0 := by decide +kernel
  exact this p (by omega)
theorem v_X8_text {c : Nat} (hc : c ≤ 10) {cc : Nat} (hcc : cc ≤ 12) {p : Nat} (hp : p ≤ 99) {m A B : Nat} {t : Nat} (ht : t ≤ 120) (M R : Mem) (hV : ST 1 c cc p m A B M R) (hK : KI c R) (h1 : M 54 1 = nI t) (h6 : R 62 6 = nI t) (h55 : M 55 = R 67) : V m_X8_text 0 [(0, .ref 0)] [] M (TX t m A B (txR t R) M) := by
  have hV2 := ST_27_1 hc hcc hp hV
  refine V.aload_n dX8_text_0 rfl rfl rfl ?_
  refine V.getr dX8_text_1 fg_X8_19 rfl rfl rfl ?_
  refine V.aload_n dX8_text_4 rfl rfl rfl ?_
  refine V.getr dX8_text_5 fg_X8_10 rfl rfl rfl ?_
  refine V.callv_v (M1 := eBecM 27 1 M) (md' := m_X2_become) (As := [.ref 1]) (rest := []) dX8_text_8 ml_X8_227 mo_X2_become ⟨Nat.le_of_ble_eq_true rfl, Nat.le_of_ble_eq_true rfl⟩ rfl ⟨_, _, rfl⟩ (Nat.le_of_ble_eq_true rfl) rfl rfl (Nat.le_of_ble_eq_true rfl) (v_X2_become isE27 isE1 (by omega) _) rfl ?_
  refine V.aload_n dX8_text_11 rfl rfl rfl ?_
  refine V.getr dX8_text_12 fg_X8_44 rfl rfl rfl ?_
  refine V.callv (md' := m_X7_readText) (As := []) (rest := []) dX8_text_15 ml_X8_284 mo_X7_readText ⟨Nat.le_of_ble_eq_true rfl, Nat.le_of_ble_eq_true rfl⟩ rfl ⟨_, _, rfl⟩ (Nat.le_of_ble_eq_true rfl) rfl rfl (Nat.le_of_ble_eq_true rfl) (v_X7_readText ht hc hcc hp (by rw [bec_k (by decide)]; exact h1) h6 (by rw [bec_k (by decide)]; exact h55) hV2 hK) (fun rv M' z => ?_)
  obtain ⟨hKP, hz⟩ := z
  obtain ⟨r, er⟩ : ∃ r, r = txG t 121 1 (tx0 t R) := ⟨_, rfl⟩
  have hb := tx_back ht h6
  rw [← er] at hz hb
  have eR : txR t R = txE r.1 r.2 := by rw [txR, ← er]
  rw [eR]
  have hfr : ∀ k, k = 0 ∨ (14 ≤ k ∧ k < 27) ∨ 53 < k → k ≠ 54 → M' k = M k := fun k y1 y2 => (hKP k (by omega) y2).trans (bec_k (by omega))
  have hf1 : ∀ a, 1 ≤ a → a < 1 + 13 → M' a = M a := fun a y1 y2 => (hKP a (by omega) (by omega)).trans (bec_k (by omega))
  rcases hz with ⟨z1, z2, z3, c', cc', q', hc', hcc', hq', hV', hK'⟩ | ⟨z1, z2, p', hp', z3⟩
  · rw [z1]
    show V m_X8_text 18 [(0, .ref 0)] [.int (nI r.1)] M' _
    have e2 : txE r.1 r.2 = (nI r.1, ms r.2 62 6 0) := if_pos z2
    rw [e2]
    refine V.ist_n dX8_text_18 rfl (by decide) (L' := [(0, .ref 0), (1, .int (nI r.1))]) rfl rfl ?_
    refine V.iload_n dX8_text_19 rfl rfl rfl ?_
    refine V.if_lt (tgt := 34) dX8_text_20 rfl rfl (fun c20 => absurd c20 (nnI (by omega))) (fun c20 => ?_)
    refine V.aload_n dX8_text_23 rfl rfl rfl ?_
    refine V.getr dX8_text_24 fg_X8_10 rfl rfl rfl ?_
    refine V.aload_n dX8_text_27 rfl rfl rfl ?_
    refine V.getr dX8_text_28 fg_X8_19 rfl rfl rfl ?_
    refine V.callv_v (M1 := eBecM 1 27 M') (md' := m_X2_become) (As := [.ref 27]) (rest := []) dX8_text_31 ml_X8_227 mo_X2_become ⟨Nat.le_of_ble_eq_true rfl, Nat.le_of_ble_eq_true rfl⟩ rfl ⟨_, _, rfl⟩ (Nat.le_of_ble_eq_true rfl) rfl rfl (Nat.le_of_ble_eq_true rfl) (v_X2_become isE1 isE27 (by omega) _) rfl ?_
    refine V.aload_n dX8_text_34 rfl rfl rfl ?_
    refine V.getr dX8_text_35 fg_X8_35 rfl rfl rfl ?_
    refine V.iconst (v := 0) dX8_text_38 rfl rfl ?_
    refine V.puti dX8_text_39 fp_X8_281 rfl rfl rfl rfl (M' := (ms (eBecM 1 27 M') 54 1 0)) rfl rfl ?_
    refine V.iload_n dX8_text_42 rfl rfl rfl ?_
    exact V.ret dX8_text_43 rfl rfl (⟨rfl, fun k y1 y2 => (ms_k y2).trans ((bec_k (by omega)).trans (hfr k y1 y2)), ms_s, c', cc', q', hc', hcc', hq', ST_M (fun a y1 y2 => ms_k (by omega)) (ST_R (R' := ms r.2 62 6 0) (ms_k (by decide)) (ST_1_27 hc' hcc' hq' hV')), KI_R (R' := ms r.2 62 6 0) (ms_k (by decide)) hK'⟩)
  · rw [z1]
    show V m_X8_text 18 [(0, .ref 0)] [.int (-1 - r.2 62 7)] M' _
    have e2 : txE r.1 r.2 = (-1 - r.2 62 7, rowG 63 65 116 0 (ms r.2 62 6 0)) := if_neg z2
    rw [e2]
    have hneg : -1 - r.2 62 7 < 0 := by rw [z3]; exact neg_p hp'
    refine V.ist_n dX8_text_18 rfl (by decide) (L' := [(0, .ref 0), (1, .int (-1 - r.2 62 7))]) rfl rfl ?_
    refine V.iload_n dX8_text_19 rfl rfl rfl ?_
    refine V.if_lt (tgt := 34) dX8_text_20 rfl rfl (fun c20 => ?_) (fun c20 => absurd c20 (fun z => z hneg))
    refine V.aload_n dX8_text_34 rfl rfl rfl ?_
    refine V.getr dX8_text_35 fg_X8_35 rfl rfl rfl ?_
    refine V.iconst (v := 0) dX8_text_38 rfl rfl ?_
    refine V.puti dX8_text_39 fp_X8_281 rfl rfl rfl rfl (M' := (ms (M') 54 1 0)) rfl rfl ?_
    refine V.iload_n dX8_text_42 rfl rfl rfl ?_
    exact V.ret dX8_text_43 rfl rfl (⟨rfl, fun k y1 y2 => (ms_k y2).trans (hfr k y1 y2), ms_s, c, cc, p, hc, hcc, hp, ST_M (fun a y1 y2 => (ms_k (by omega)).trans (hf1 a y1 y2)) (ST_R hb hV), KI_R hb hK⟩)
