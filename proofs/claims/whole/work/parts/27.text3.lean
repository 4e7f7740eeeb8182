/-! The reference's text: items, the whole text -/
def roB (c : Nat) (p : Int32) (M : Mem) : Bool := decide ((¬ p = 1 ∧ ¬ p = 2) ∨ onesF (setG (col M 4) p c 0 0) < (if p = 1 then 2 else 4))
def ba1 (t c : Nat) (M : Mem) : Mem := needM t (decide (c < 10)) M
def baB (t : Nat) (M1 : Mem) : Bool := decide (wdF t M1 = 19367540)
def ba3 (t c : Nat) (M2 : Mem) : Mem := if plI (wdF t M2) = 0 then M2 else needM t (roB c (plI (wdF t M2)) M2) M2
def ba4 (c : Nat) (k v p : Int32) (M3 : Mem) : Mem := if M3 62 10 = 0 then mNewM c k v p M3 else M3
def baM (t c : Nat) (k : Int32) (M : Mem) : Mem := ba4 c k (peV t (baB t (ba1 t c M)) 999 0 (ba1 t c M)) (plI (wdF t (peM t (baB t (ba1 t c M)) 999 (ba1 t c M)))) (ba3 t c (peM t (baB t (ba1 t c M)) 999 (ba1 t c M)))
theorem TK_ba3 {t c : Nat} (ht : t ≤ 120) {M : Mem} (h : TK t M) : TK t (ba3 t c M) := by
  unfold ba3
  split
  · exact h
  · exact TK_need ht h
theorem ba3_k {t c k : Nat} {M : Mem} (h : k ≠ 62) : ba3 t c M k = M k := by
  unfold ba3
  split
  · rfl
  · exact need_k h
theorem ba3_w {t c : Nat} {M : Mem} (h : ba3 t c M 62 10 = 0) : M 62 10 = 0 := by
  unfold ba3 at h
  split at h
  · exact h
  · exact (need_w.mp h).1
theorem l_X9_batchItem_63 {c : Nat} (k v p : Int32) (M : Mem) (hM : M 63 1 = nI c) (hw : M 62 10 = 0 → c < 10) : V m_X9_batchItem 63 [(0, .ref 62), (1, .int k), (2, .int v), (3, .int p)] [] M (RT none (ba4 c k v p M)) := by
  refine V.aload_n dX9_batchItem_63 rfl rfl rfl ?_
  refine V.geti (v := M 62 10) dX9_batchItem_64 fg_X9_245 rfl rfl rfl rfl ?_
  refine V.if_ne (tgt := 79) dX9_batchItem_67 rfl rfl (fun c67 => ?_) (fun c67 => ?_)
  · skip
    exact V.vret dX9_batchItem_79 rfl ⟨rfl, (by first | rw [ba4, if_neg c67] | rw [ba4, if_pos c67])⟩
  · skip
    refine V.aload_n dX9_batchItem_70 rfl rfl rfl ?_
    refine V.iload_n dX9_batchItem_71 rfl rfl rfl ?_
    refine V.iload_n dX9_batchItem_72 rfl rfl rfl ?_
    refine V.iload_n dX9_batchItem_73 rfl rfl rfl ?_
    refine V.callv_i (M1 := mNewM c k v p M) (v := nI c) (md' := m_X9_newBatch) (As := [.int k, .int v, .int p]) (rest := []) dX9_batchItem_74 ml_X9_56 mo_X9_newBatch ⟨Nat.le_of_ble_eq_true rfl, Nat.le_of_ble_eq_true rfl⟩ rfl ⟨_, _, rfl⟩ (Nat.le_of_ble_eq_true rfl) rfl rfl (Nat.le_of_ble_eq_true rfl) (v_X9_newBatch (hw c67) k v p M hM) rfl ?_
    refine V.ist dX9_batchItem_77 (by decide) (L' := [(0, .ref 62), (1, .int k), (2, .int v), (3, .int p), (4, .int (nI c))]) rfl rfl ?_
    exact V.vret dX9_batchItem_79 rfl ⟨rfl, (by first | rw [ba4, if_neg c67] | rw [ba4, if_pos c67])⟩
theorem l_X9_batchItem_45 {t : Nat} (ht : t ≤ 120) {c : Nat} (hc : c ≤ 10) (k v : Int32) (M : Mem) (hT : TK t M) (hM : M 63 1 = nI c) (hw : M 62 10 = 0 → c < 10) : V m_X9_batchItem 45 [(0, .ref 62), (1, .int k), (2, .int v)] [] M (RT none (ba4 c k v (plI (wdF t M)) (ba3 t c M))) := by
  refine V.aload_n dX9_batchItem_45 rfl rfl rfl ?_
  refine V.callv_i (M1 := M) (v := plI (wdF t M)) (md' := m_X9_placeHere) (As := []) (rest := []) dX9_batchItem_46 ml_X9_295 mo_X9_placeHere ⟨Nat.le_of_ble_eq_true rfl, Nat.le_of_ble_eq_true rfl⟩ rfl ⟨_, _, rfl⟩ (Nat.le_of_ble_eq_true rfl) rfl rfl (Nat.le_of_ble_eq_true rfl) (v_X9_placeHere ht M hT) rfl ?_
  refine V.ist_n dX9_batchItem_49 rfl (by decide) (L' := [(0, .ref 62), (1, .int k), (2, .int v), (3, .int (plI (wdF t M)))]) rfl rfl ?_
  refine V.iload_n dX9_batchItem_50 rfl rfl rfl ?_
  refine V.if_eq (tgt := 63) dX9_batchItem_51 rfl rfl (fun c51 => ?_) (fun c51 => ?_)
  · skip
    rw [show ba3 t c M = M from by rw [ba3, if_pos c51]]
    exact l_X9_batchItem_63 k v _ M hM hw
  · skip
    refine V.aload_n dX9_batchItem_54 rfl rfl rfl ?_
    refine V.aload_n dX9_batchItem_55 rfl rfl rfl ?_
    refine V.iload_n dX9_batchItem_56 rfl rfl rfl ?_
    refine V.callv_i (M1 := M) (v := oI (roB c (plI (wdF t M)) M)) (md' := m_X9_isRoom) (As := [.int (plI (wdF t M))]) (rest := [.ref 62]) dX9_batchItem_57 ml_X9_99 mo_X9_isRoom ⟨Nat.le_of_ble_eq_true rfl, Nat.le_of_ble_eq_true rfl⟩ rfl ⟨_, _, rfl⟩ (Nat.le_of_ble_eq_true rfl) rfl rfl (Nat.le_of_ble_eq_true rfl) (by have h := v_X9_isRoom hc (plI (wdF t M)) M hM; rw [oI_d] at h; exact h) rfl ?_
    refine V.callv_v (M1 := ba3 t c M) (md' := m_X9_needs) (As := [.int (oI (roB c (plI (wdF t M)) M))]) (rest := []) dX9_batchItem_60 ml_X9_259 mo_X9_needs ⟨Nat.le_of_ble_eq_true rfl, Nat.le_of_ble_eq_true rfl⟩ rfl ⟨_, _, rfl⟩ (Nat.le_of_ble_eq_true rfl) rfl rfl (Nat.le_of_ble_eq_true rfl) (by rw [ba3, if_neg c51]; exact v_X9_needs ht _ M hT) rfl ?_
    exact l_X9_batchItem_63 k v _ _ (by rw [ba3_k (by decide)]; exact hM) (fun q => hw (ba3_w q))
theorem l_X9_batchItem_37 {t : Nat} (ht : t ≤ 120) {c : Nat} (hc : c ≤ 10) (k : Int32) (b : Bool) (M : Mem) (hT : TK t M) (hM : M 63 1 = nI c) (hw : M 62 10 = 0 → c < 10) : V m_X9_batchItem 37 [(0, .ref 62), (1, .int k)] [.int (oI b), .ref 62] M (RT none (ba4 c k (peV t b 999 0 M) (plI (wdF t (peM t b 999 M))) (ba3 t c (peM t b 999 M)))) := by
  refine V.sipush (v := 999) dX9_batchItem_37 (by decide) rfl ?_
  refine V.iconst (v := 0) dX9_batchItem_40 rfl rfl ?_
  refine V.callv_i (M1 := peM t b 999 M) (v := peV t b 999 0 M) (md' := m_X9_perhaps) (As := [.int (oI b), .int 999, .int 0]) (rest := []) dX9_batchItem_41 ml_X9_291 mo_X9_perhaps ⟨Nat.le_of_ble_eq_true rfl, Nat.le_of_ble_eq_true rfl⟩ rfl ⟨_, _, rfl⟩ (Nat.le_of_ble_eq_true rfl) rfl rfl (Nat.le_of_ble_eq_true rfl) (v_X9_perhaps ht b (h := 999) rfl M hT) rfl ?_
  refine V.ist_n dX9_batchItem_44 rfl (by decide) (L' := [(0, .ref 62), (1, .int k), (2, .int (peV t b 999 0 M))]) rfl rfl ?_
  exact l_X9_batchItem_45 ht hc k _ _ (TK_pe ht hT) (by rw [pe_k (by decide)]; exact hM) (fun q => hw (pe_w q))
theorem l_X9_batchItem_17 {t : Nat} (ht : t ≤ 120) {c : Nat} (hc : c ≤ 10) (k : Int32) (b : Bool) (M : Mem) (hT : TK t M) (hM : M 63 1 = nI c) (hw : b = true → c < 10) : V m_X9_batchItem 17 [(0, .ref 62), (1, .int k)] [.int (oI b), .ref 62] M (RT none (ba4 c k (peV t (baB t (needM t b M)) 999 0 (needM t b M)) (plI (wdF t (peM t (baB t (needM t b M)) 999 (needM t b M)))) (ba3 t c (peM t (baB t (needM t b M)) 999 (needM t b M))))) := by
  have hT1 := TK_need (b := b) ht hT
  refine V.callv_v (M1 := needM t b M) (md' := m_X9_needs) (As := [.int (oI b)]) (rest := []) dX9_batchItem_17 ml_X9_259 mo_X9_needs ⟨Nat.le_of_ble_eq_true rfl, Nat.le_of_ble_eq_true rfl⟩ rfl ⟨_, _, rfl⟩ (Nat.le_of_ble_eq_true rfl) rfl rfl (Nat.le_of_ble_eq_true rfl) (v_X9_needs ht b M hT) rfl ?_
  refine V.aload_n dX9_batchItem_20 rfl rfl rfl ?_
  refine V.aload_n dX9_batchItem_21 rfl rfl rfl ?_
  refine V.callv_l (M1 := needM t b M) (v := wdF t (needM t b M)) (md' := m_X9_word) (As := []) (rest := [.ref 62]) dX9_batchItem_22 ml_X9_263 mo_X9_word ⟨Nat.le_of_ble_eq_true rfl, Nat.le_of_ble_eq_true rfl⟩ rfl ⟨_, _, rfl⟩ (Nat.le_of_ble_eq_true rfl) rfl rfl (Nat.le_of_ble_eq_true rfl) (v_X9_word ht _ hT1) rfl ?_
  refine V.ldc2 (v := 19367540) dX9_batchItem_25 cl_X9_289 rfl ?_
  refine V.lcmp dX9_batchItem_28 rfl ?_
  refine V.if_ne (tgt := 36) dX9_batchItem_29 rfl rfl (fun c29 => ?_) (fun c29 => ?_)
  · have c29 : ¬ (wdF t (needM t b M)) = 19367540 := fun zq => c29 ((lg_cmp_eq _ _).mpr zq)
    refine V.iconst (v := 0) dX9_batchItem_36 rfl rfl ?_
    rw [show baB t (needM t b M) = false from decide_eq_false c29]
    exact l_X9_batchItem_37 ht hc k false _ hT1 (by rw [need_k (by decide)]; exact hM) (fun q => hw (need_w.mp q).2)
  · have c29 := (lg_cmp_eq _ _).mp c29
    refine V.iconst (v := 1) dX9_batchItem_32 rfl rfl ?_
    refine V.goto (pc' := 37) dX9_batchItem_33 rfl ?_
    rw [show baB t (needM t b M) = true from decide_eq_true c29]
    exact l_X9_batchItem_37 ht hc k true _ hT1 (by rw [need_k (by decide)]; exact hM) (fun q => hw (need_w.mp q).2)
theorem v_X9_batchItem {t : Nat} (ht : t ≤ 120) {c : Nat} (hc : c ≤ 10) (k : Int32) (M : Mem) (hT : TK t M) (hM : M 63 1 = nI c) : V m_X9_batchItem 0 [(0, .ref 62), (1, .int k)] [] M (RT none (baM t c k M)) := by
  refine V.aload_n dX9_batchItem_0 rfl rfl rfl ?_
  refine V.aload_n dX9_batchItem_1 rfl rfl rfl ?_
  refine V.getr dX9_batchItem_2 fg_X9_7 rfl rfl rfl ?_
  refine V.iconst (v := 1) dX9_batchItem_5 rfl rfl ?_
  refine V.ialdN (j := 1) (v := nI c) dX9_batchItem_6 rfl (by decide) (by decide) rfl hM rfl ?_
  refine V.bipush (v := 10) dX9_batchItem_7 (by decide) rfl ?_
  refine V.icmp_ge (tgt := 16) dX9_batchItem_9 rfl rfl (fun c9 => ?_) (fun c9 => ?_)
  · have c9 : 10 ≤ c := (nI_leI (a := 10) (b := c) (by omega) (by omega)).mp c9
    refine V.iconst (v := 0) dX9_batchItem_16 rfl rfl ?_
    rw [baM, show ba1 t c M = needM t false M from by rw [ba1, decide_eq_false (by omega)]]
    exact l_X9_batchItem_17 ht hc k false M hT hM (fun q => by first | omega | exact absurd q (by decide))
  · have c9 : ¬ 10 ≤ c := fun zq => c9 ((nI_leI (a := 10) (b := c) (by omega) (by omega)).mpr zq)
    refine V.iconst (v := 1) dX9_batchItem_12 rfl rfl ?_
    refine V.goto (pc' := 17) dX9_batchItem_13 rfl ?_
    rw [baM, show ba1 t c M = needM t true M from by rw [ba1, decide_eq_true (by omega)]]
    exact l_X9_batchItem_17 ht hc k true M hT hM (fun q => by first | omega | exact absurd q (by decide))
def cr6 (cc : Nat) (v1 v2 : Int32) (M : Mem) : Mem := if M 62 10 = 0 then mNewC cc v2 (M 62 9) v1 M else M
def cr5 (t cc : Nat) (v1 v2 : Int32) (M : Mem) : Mem := cr6 cc v1 v2 (numM t 999 M)
def cr4 (t cc : Nat) (v1 : Int32) (M : Mem) : Mem := cr5 t cc v1 (numM t 3 M 62 9) (needM t (decide (wdF t (numM t 3 M) = 446125701)) (numM t 3 M))
def cr3 (t cc : Nat) (M : Mem) : Mem := cr4 t cc (numM t 400 M 62 9) (needM t (decide (wdF t (numM t 400 M) = 52)) (numM t 400 M))
def crM (t cc : Nat) (M : Mem) : Mem := cr3 t cc (needM t (decide (cc < 12)) M)
theorem l_X9_crowdItem_81 {t : Nat} (ht : t ≤ 120) {cc : Nat} (hcc : cc ≤ 12) (v1 v2 : Int32) (b : Bool) (M : Mem) (hT : TK t M) (h2 : M 63 2 = nI cc) (hw : M 62 10 = 0 → cc < 12) : V m_X9_crowdItem 81 [(0, .ref 62), (1, .int v1), (2, .int v2)] [.int (oI b), .ref 62] M (RT none (cr5 t cc v1 v2 (needM t b M))) := by
  refine V.callv_v (M1 := needM t b M) (md' := m_X9_needs) (As := [.int (oI b)]) (rest := []) dX9_crowdItem_81 ml_X9_259 mo_X9_needs ⟨Nat.le_of_ble_eq_true rfl, Nat.le_of_ble_eq_true rfl⟩ rfl ⟨_, _, rfl⟩ (Nat.le_of_ble_eq_true rfl) rfl rfl (Nat.le_of_ble_eq_true rfl) (v_X9_needs ht b M hT) rfl ?_
  refine V.aload_n dX9_crowdItem_84 rfl rfl rfl ?_
  refine V.iconst (v := 0) dX9_crowdItem_85 rfl rfl ?_
  refine V.sipush (v := 999) dX9_crowdItem_86 (by decide) rfl ?_
  refine V.callv_v (M1 := numM t 999 (needM t b M)) (md' := m_X9_number) (As := [.int 0, .int 999]) (rest := []) dX9_crowdItem_89 ml_X9_287 mo_X9_number ⟨Nat.le_of_ble_eq_true rfl, Nat.le_of_ble_eq_true rfl⟩ rfl ⟨_, _, rfl⟩ (Nat.le_of_ble_eq_true rfl) rfl rfl (Nat.le_of_ble_eq_true rfl) (v_X9_number ht (h := 999) rfl _ (TK_need ht hT)) rfl ?_
  refine V.aload_n dX9_crowdItem_92 rfl rfl rfl ?_
  refine V.geti (v := (numM t 999 (needM t b M)) 62 10) dX9_crowdItem_93 fg_X9_245 rfl rfl rfl rfl ?_
  refine V.if_ne (tgt := 110) dX9_crowdItem_96 rfl rfl (fun c96 => ?_) (fun c96 => ?_)
  · skip
    exact V.vret dX9_crowdItem_110 rfl ⟨rfl, (by first | rw [cr5, cr6, if_neg c96] | rw [cr5, cr6, if_pos c96])⟩
  · skip
    refine V.aload_n dX9_crowdItem_99 rfl rfl rfl ?_
    refine V.iload_n dX9_crowdItem_100 rfl rfl rfl ?_
    refine V.aload_n dX9_crowdItem_101 rfl rfl rfl ?_
    refine V.geti (v := (numM t 999 (needM t b M)) 62 9) dX9_crowdItem_102 fg_X9_256 rfl rfl rfl rfl ?_
    refine V.iload_n dX9_crowdItem_105 rfl rfl rfl ?_
    refine V.callv_i (M1 := mNewC cc v2 ((numM t 999 (needM t b M)) 62 9) v1 (numM t 999 (needM t b M))) (v := nI cc) (md' := m_X9_newCrowd) (As := [.int v2, .int ((numM t 999 (needM t b M)) 62 9), .int v1]) (rest := []) dX9_crowdItem_106 ml_X9_142 mo_X9_newCrowd ⟨Nat.le_of_ble_eq_true rfl, Nat.le_of_ble_eq_true rfl⟩ rfl ⟨_, _, rfl⟩ (Nat.le_of_ble_eq_true rfl) rfl rfl (Nat.le_of_ble_eq_true rfl) (v_X9_newCrowd (hw (need_w.mp (num_w c96)).1) _ _ _ _ (by rw [num_k (by decide), need_k (by decide)]; exact h2)) rfl ?_
    refine V.ist_n dX9_crowdItem_109 rfl (by decide) (L' := [(0, .ref 62), (1, .int v1), (2, .int v2), (3, .int (nI cc))]) rfl rfl ?_
    exact V.vret dX9_crowdItem_110 rfl ⟨rfl, (by first | rw [cr5, cr6, if_neg c96] | rw [cr5, cr6, if_pos c96])⟩
theorem l_X9_crowdItem_50 {t : Nat} (ht : t ≤ 120) {cc : Nat} (hcc : cc ≤ 12) (v1 : Int32) (b : Bool) (M : Mem) (hT : TK t M) (h2 : M 63 2 = nI cc) (hw : M 62 10 = 0 → cc < 12) : V m_X9_crowdItem 50 [(0, .ref 62), (1, .int v1)] [.int (oI b), .ref 62] M (RT none (cr4 t cc v1 (needM t b M))) := by
  have hT1 := TK_num (h := 3) ht (TK_need (b := b) ht hT)
  refine V.callv_v (M1 := needM t b M) (md' := m_X9_needs) (As := [.int (oI b)]) (rest := []) dX9_crowdItem_50 ml_X9_259 mo_X9_needs ⟨Nat.le_of_ble_eq_true rfl, Nat.le_of_ble_eq_true rfl⟩ rfl ⟨_, _, rfl⟩ (Nat.le_of_ble_eq_true rfl) rfl rfl (Nat.le_of_ble_eq_true rfl) (v_X9_needs ht b M hT) rfl ?_
  refine V.aload_n dX9_crowdItem_53 rfl rfl rfl ?_
  refine V.iconst (v := 0) dX9_crowdItem_54 rfl rfl ?_
  refine V.iconst (v := 3) dX9_crowdItem_55 rfl rfl ?_
  refine V.callv_v (M1 := numM t 3 (needM t b M)) (md' := m_X9_number) (As := [.int 0, .int 3]) (rest := []) dX9_crowdItem_56 ml_X9_287 mo_X9_number ⟨Nat.le_of_ble_eq_true rfl, Nat.le_of_ble_eq_true rfl⟩ rfl ⟨_, _, rfl⟩ (Nat.le_of_ble_eq_true rfl) rfl rfl (Nat.le_of_ble_eq_true rfl) (v_X9_number ht (h := 3) rfl _ (TK_need ht hT)) rfl ?_
  refine V.aload_n dX9_crowdItem_59 rfl rfl rfl ?_
  refine V.geti (v := (numM t 3 (needM t b M)) 62 9) dX9_crowdItem_60 fg_X9_256 rfl rfl rfl rfl ?_
  refine V.ist_n dX9_crowdItem_63 rfl (by decide) (L' := [(0, .ref 62), (1, .int v1), (2, .int ((numM t 3 (needM t b M)) 62 9))]) rfl rfl ?_
  refine V.aload_n dX9_crowdItem_64 rfl rfl rfl ?_
  refine V.aload_n dX9_crowdItem_65 rfl rfl rfl ?_
  refine V.callv_l (M1 := numM t 3 (needM t b M)) (v := wdF t (numM t 3 (needM t b M))) (md' := m_X9_word) (As := []) (rest := [.ref 62]) dX9_crowdItem_66 ml_X9_263 mo_X9_word ⟨Nat.le_of_ble_eq_true rfl, Nat.le_of_ble_eq_true rfl⟩ rfl ⟨_, _, rfl⟩ (Nat.le_of_ble_eq_true rfl) rfl rfl (Nat.le_of_ble_eq_true rfl) (v_X9_word ht _ hT1) rfl ?_
  refine V.ldc2 (v := 446125701) dX9_crowdItem_69 cl_X9_300 rfl ?_
  refine V.lcmp dX9_crowdItem_72 rfl ?_
  refine V.if_ne (tgt := 80) dX9_crowdItem_73 rfl rfl (fun c73 => ?_) (fun c73 => ?_)
  · have c73 : ¬ (wdF t (numM t 3 (needM t b M))) = 446125701 := fun zq => c73 ((lg_cmp_eq _ _).mpr zq)
    refine V.iconst (v := 0) dX9_crowdItem_80 rfl rfl ?_
    rw [cr4, show decide (wdF t (numM t 3 (needM t b M)) = 446125701) = false from decide_eq_false c73]
    exact l_X9_crowdItem_81 ht hcc v1 _ false _ hT1 (by rw [num_k (by decide), need_k (by decide)]; exact h2) (fun q => hw (need_w.mp (num_w q)).1)
  · have c73 := (lg_cmp_eq _ _).mp c73
    refine V.iconst (v := 1) dX9_crowdItem_76 rfl rfl ?_
    refine V.goto (pc' := 81) dX9_crowdItem_77 rfl ?_
    rw [cr4, show decide (wdF t (numM t 3 (needM t b M)) = 446125701) = true from decide_eq_true c73]
    exact l_X9_crowdItem_81 ht hcc v1 _ true _ hT1 (by rw [num_k (by decide), need_k (by decide)]; exact h2) (fun q => hw (need_w.mp (num_w q)).1)
theorem l_X9_crowdItem_17 {t : Nat} (ht : t ≤ 120) {cc : Nat} (hcc : cc ≤ 12) (b : Bool) (M : Mem) (hT : TK t M) (h2 : M 63 2 = nI cc) (hw : b = true → cc < 12) : V m_X9_crowdItem 17 [(0, .ref 62)] [.int (oI b), .ref 62] M (RT none (cr3 t cc (needM t b M))) := by
  have hT1 := TK_num (h := 400) ht (TK_need (b := b) ht hT)
  refine V.callv_v (M1 := needM t b M) (md' := m_X9_needs) (As := [.int (oI b)]) (rest := []) dX9_crowdItem_17 ml_X9_259 mo_X9_needs ⟨Nat.le_of_ble_eq_true rfl, Nat.le_of_ble_eq_true rfl⟩ rfl ⟨_, _, rfl⟩ (Nat.le_of_ble_eq_true rfl) rfl rfl (Nat.le_of_ble_eq_true rfl) (v_X9_needs ht b M hT) rfl ?_
  refine V.aload_n dX9_crowdItem_20 rfl rfl rfl ?_
  refine V.iconst (v := 0) dX9_crowdItem_21 rfl rfl ?_
  refine V.sipush (v := 400) dX9_crowdItem_22 (by decide) rfl ?_
  refine V.callv_v (M1 := numM t 400 (needM t b M)) (md' := m_X9_number) (As := [.int 0, .int 400]) (rest := []) dX9_crowdItem_25 ml_X9_287 mo_X9_number ⟨Nat.le_of_ble_eq_true rfl, Nat.le_of_ble_eq_true rfl⟩ rfl ⟨_, _, rfl⟩ (Nat.le_of_ble_eq_true rfl) rfl rfl (Nat.le_of_ble_eq_true rfl) (v_X9_number ht (h := 400) rfl _ (TK_need ht hT)) rfl ?_
  refine V.aload_n dX9_crowdItem_28 rfl rfl rfl ?_
  refine V.geti (v := (numM t 400 (needM t b M)) 62 9) dX9_crowdItem_29 fg_X9_256 rfl rfl rfl rfl ?_
  refine V.ist_n dX9_crowdItem_32 rfl (by decide) (L' := [(0, .ref 62), (1, .int ((numM t 400 (needM t b M)) 62 9))]) rfl rfl ?_
  refine V.aload_n dX9_crowdItem_33 rfl rfl rfl ?_
  refine V.aload_n dX9_crowdItem_34 rfl rfl rfl ?_
  refine V.callv_l (M1 := numM t 400 (needM t b M)) (v := wdF t (numM t 400 (needM t b M))) (md' := m_X9_word) (As := []) (rest := [.ref 62]) dX9_crowdItem_35 ml_X9_263 mo_X9_word ⟨Nat.le_of_ble_eq_true rfl, Nat.le_of_ble_eq_true rfl⟩ rfl ⟨_, _, rfl⟩ (Nat.le_of_ble_eq_true rfl) rfl rfl (Nat.le_of_ble_eq_true rfl) (v_X9_word ht _ hT1) rfl ?_
  refine V.ldc2 (v := 52) dX9_crowdItem_38 cl_X9_298 rfl ?_
  refine V.lcmp dX9_crowdItem_41 rfl ?_
  refine V.if_ne (tgt := 49) dX9_crowdItem_42 rfl rfl (fun c42 => ?_) (fun c42 => ?_)
  · have c42 : ¬ (wdF t (numM t 400 (needM t b M))) = 52 := fun zq => c42 ((lg_cmp_eq _ _).mpr zq)
    refine V.iconst (v := 0) dX9_crowdItem_49 rfl rfl ?_
    rw [cr3, show decide (wdF t (numM t 400 (needM t b M)) = 52) = false from decide_eq_false c42]
    exact l_X9_crowdItem_50 ht hcc _ false _ hT1 (by rw [num_k (by decide), need_k (by decide)]; exact h2) (fun q => hw (need_w.mp (num_w q)).2)
  · have c42 := (lg_cmp_eq _ _).mp c42
    refine V.iconst (v := 1) dX9_crowdItem_45 rfl rfl ?_
    refine V.goto (pc' := 50) dX9_crowdItem_46 rfl ?_
    rw [cr3, show decide (wdF t (numM t 400 (needM t b M)) = 52) = true from decide_eq_true c42]
    exact l_X9_crowdItem_50 ht hcc _ true _ hT1 (by rw [num_k (by decide), need_k (by decide)]; exact h2) (fun q => hw (need_w.mp (num_w q)).2)
theorem v_X9_crowdItem {t : Nat} (ht : t ≤ 120) {cc : Nat} (hcc : cc ≤ 12) (M : Mem) (hT : TK t M) (h2 : M 63 2 = nI cc) : V m_X9_crowdItem 0 [(0, .ref 62)] [] M (RT none (crM t cc M)) := by
  refine V.aload_n dX9_crowdItem_0 rfl rfl rfl ?_
  refine V.aload_n dX9_crowdItem_1 rfl rfl rfl ?_
  refine V.getr dX9_crowdItem_2 fg_X9_7 rfl rfl rfl ?_
  refine V.iconst (v := 2) dX9_crowdItem_5 rfl rfl ?_
  refine V.ialdN (j := 2) (v := nI cc) dX9_crowdItem_6 rfl (by decide) (by decide) rfl h2 rfl ?_
  refine V.bipush (v := 12) dX9_crowdItem_7 (by decide) rfl ?_
  refine V.icmp_ge (tgt := 16) dX9_crowdItem_9 rfl rfl (fun c9 => ?_) (fun c9 => ?_)
  · have c9 : 12 ≤ cc := (nI_leI (a := 12) (b := cc) (by omega) (by omega)).mp c9
    refine V.iconst (v := 0) dX9_crowdItem_16 rfl rfl ?_
    rw [crM, show decide (cc < 12) = false from decide_eq_false (by omega)]
    exact l_X9_crowdItem_17 ht hcc false M hT h2 (fun q => by first | omega | exact absurd q (by decide))
  · have c9 : ¬ 12 ≤ cc := fun zq => c9 ((nI_leI (a := 12) (b := cc) (by omega) (by omega)).mpr zq)
    refine V.iconst (v := 1) dX9_crowdItem_12 rfl rfl ?_
    refine V.goto (pc' := 17) dX9_crowdItem_13 rfl ?_
    rw [crM, show decide (cc < 12) = true from decide_eq_true (by omega)]
    exact l_X9_crowdItem_17 ht hcc true M hT h2 (fun q => by first | omega | exact absurd q (by decide))
def ruM (t j : Nat) (h : Int) (M : Mem) : Mem := if peM t true h M 62 10 = 0 then ms (peM t true h M) 63 (4 + j) (peV t true h 0 M) else peM t true h M
def itM (t : Nat) (M : Mem) : Mem := if 0 ≤ kI (wdF t M) then baM t (M 63 1).toNatClampNeg (kI (wdF t M)) M else if wdF t M = 3751652 then crM t (M 63 2).toNatClampNeg M else if wdF t M = 267316 then ruM t 0 20 M else if wdF t M = 17376357 then ruM t 1 99 M else if wdF t M = 114052 then ruM t 2 9 M else needM t false M
theorem v_X9_ruleItem {t : Nat} (ht : t ≤ 120) {j : Nat} (hj : j < 3) {hi : Int32} {h : Int} (hh : hi.toInt = h) (M : Mem) (hT : TK t M) : V m_X9_ruleItem 0 [(0, .ref 62), (1, .int (nI j)), (2, .int hi)] [] M (RT none (ruM t j h M)) := by
  refine V.aload_n dX9_ruleItem_0 rfl rfl rfl ?_
  refine V.iconst (v := 1) dX9_ruleItem_1 rfl rfl ?_
  refine V.iload_n dX9_ruleItem_2 rfl rfl rfl ?_
  refine V.iconst (v := 0) dX9_ruleItem_3 rfl rfl ?_
  refine V.callv_i (M1 := peM t true h M) (v := peV t true h 0 M) (md' := m_X9_perhaps) (As := [.int 1, .int hi, .int 0]) (rest := []) dX9_ruleItem_4 ml_X9_291 mo_X9_perhaps ⟨Nat.le_of_ble_eq_true rfl, Nat.le_of_ble_eq_true rfl⟩ rfl ⟨_, _, rfl⟩ (Nat.le_of_ble_eq_true rfl) rfl rfl (Nat.le_of_ble_eq_true rfl) (v_X9_perhaps ht true (d := 0) hh M hT) rfl ?_
  refine V.ist_n dX9_ruleItem_7 rfl (by decide) (L' := [(0, .ref 62), (1, .int (nI j)), (2, .int hi), (3, .int (peV t true h 0 M))]) rfl rfl ?_
  refine V.aload_n dX9_ruleItem_8 rfl rfl rfl ?_
  refine V.geti (v := (peM t true h M) 62 10) dX9_ruleItem_9 fg_X9_245 rfl rfl rfl rfl ?_
  refine V.if_ne (tgt := 24) dX9_ruleItem_12 rfl rfl (fun c12 => ?_) (fun c12 => ?_)
  · skip
    exact V.vret dX9_ruleItem_24 rfl ⟨rfl, (by first | rw [ruM, if_neg c12] | rw [ruM, if_pos c12])⟩
  · skip
    refine V.aload_n dX9_ruleItem_15 rfl rfl rfl ?_
    refine V.getr dX9_ruleItem_16 fg_X9_7 rfl rfl rfl ?_
    refine V.iconst (v := 4) dX9_ruleItem_19 rfl rfl ?_
    refine V.iload_n dX9_ruleItem_20 rfl rfl rfl ?_
    refine V.iadd (v := nI (4 + j)) dX9_ruleItem_21 (nI_add _ _) rfl ?_
    refine V.iload_n dX9_ruleItem_22 rfl rfl rfl ?_
    refine V.iastN (j := 4 + j) dX9_ruleItem_23 rfl (by omega) (by decide) rfl (M' := (ms (peM t true h M) 63 (4 + j) (peV t true h 0 M))) rfl rfl ?_
    exact V.vret dX9_ruleItem_24 rfl ⟨rfl, (by first | rw [ruM, if_neg c12] | rw [ruM, if_pos c12])⟩
theorem v_X9_item {t : Nat} (ht : t ≤ 120) {c : Nat} (hc : c ≤ 10) {cc : Nat} (hcc : cc ≤ 12) (M : Mem) (hT : TK t M) (hM : M 63 1 = nI c) (h2 : M 63 2 = nI cc) : V m_X9_item 0 [(0, .ref 62)] [] M (RT none (itM t M)) := by
  have ec : (nI c).toNatClampNeg = c := nI_clamp (by omega)
  have ecc : (nI cc).toNatClampNeg = cc := nI_clamp (by omega)
  refine V.aload_n dX9_item_0 rfl rfl rfl ?_
  refine V.callv_i (M1 := M) (v := kI (wdF t M)) (md' := m_X9_kindHere) (As := []) (rest := []) dX9_item_1 ml_X9_302 mo_X9_kindHere ⟨Nat.le_of_ble_eq_true rfl, Nat.le_of_ble_eq_true rfl⟩ rfl ⟨_, _, rfl⟩ (Nat.le_of_ble_eq_true rfl) rfl rfl (Nat.le_of_ble_eq_true rfl) (v_X9_kindHere ht M hT) rfl ?_
  refine V.ist_n dX9_item_4 rfl (by decide) (L' := [(0, .ref 62), (1, .int (kI (wdF t M)))]) rfl rfl ?_
  refine V.iload_n dX9_item_5 rfl rfl rfl ?_
  refine V.if_lt (tgt := 17) dX9_item_6 rfl rfl (fun c6 => ?_) (fun c6 => ?_)
  · skip
    refine V.aload_n dX9_item_17 rfl rfl rfl ?_
    refine V.callv_l (M1 := M) (v := wdF t M) (md' := m_X9_word) (As := []) (rest := []) dX9_item_18 ml_X9_263 mo_X9_word ⟨Nat.le_of_ble_eq_true rfl, Nat.le_of_ble_eq_true rfl⟩ rfl ⟨_, _, rfl⟩ (Nat.le_of_ble_eq_true rfl) rfl rfl (Nat.le_of_ble_eq_true rfl) (v_X9_word ht _ hT) rfl ?_
    refine V.ldc2 (v := 3751652) dX9_item_21 cl_X9_308 rfl ?_
    refine V.lcmp dX9_item_24 rfl ?_
    refine V.if_ne (tgt := 35) dX9_item_25 rfl rfl (fun c25 => ?_) (fun c25 => ?_)
    · have c25 : ¬ (wdF t M) = 3751652 := fun zq => c25 ((lg_cmp_eq _ _).mpr zq)
      refine V.aload_n dX9_item_35 rfl rfl rfl ?_
      refine V.callv_l (M1 := M) (v := wdF t M) (md' := m_X9_word) (As := []) (rest := []) dX9_item_36 ml_X9_263 mo_X9_word ⟨Nat.le_of_ble_eq_true rfl, Nat.le_of_ble_eq_true rfl⟩ rfl ⟨_, _, rfl⟩ (Nat.le_of_ble_eq_true rfl) rfl rfl (Nat.le_of_ble_eq_true rfl) (v_X9_word ht _ hT) rfl ?_
      refine V.ldc2 (v := 267316) dX9_item_39 cl_X9_313 rfl ?_
      refine V.lcmp dX9_item_42 rfl ?_
      refine V.if_ne (tgt := 56) dX9_item_43 rfl rfl (fun c43 => ?_) (fun c43 => ?_)
      · have c43 : ¬ (wdF t M) = 267316 := fun zq => c43 ((lg_cmp_eq _ _).mpr zq)
        refine V.aload_n dX9_item_56 rfl rfl rfl ?_
        refine V.callv_l (M1 := M) (v := wdF t M) (md' := m_X9_word) (As := []) (rest := []) dX9_item_57 ml_X9_263 mo_X9_word ⟨Nat.le_of_ble_eq_true rfl, Nat.le_of_ble_eq_true rfl⟩ rfl ⟨_, _, rfl⟩ (Nat.le_of_ble_eq_true rfl) rfl rfl (Nat.le_of_ble_eq_true rfl) (v_X9_word ht _ hT) rfl ?_
        refine V.ldc2 (v := 17376357) dX9_item_60 cl_X9_318 rfl ?_
        refine V.lcmp dX9_item_63 rfl ?_
        refine V.if_ne (tgt := 77) dX9_item_64 rfl rfl (fun c64 => ?_) (fun c64 => ?_)
        · have c64 : ¬ (wdF t M) = 17376357 := fun zq => c64 ((lg_cmp_eq _ _).mpr zq)
          refine V.aload_n dX9_item_77 rfl rfl rfl ?_
          refine V.callv_l (M1 := M) (v := wdF t M) (md' := m_X9_word) (As := []) (rest := []) dX9_item_78 ml_X9_263 mo_X9_word ⟨Nat.le_of_ble_eq_true rfl, Nat.le_of_ble_eq_true rfl⟩ rfl ⟨_, _, rfl⟩ (Nat.le_of_ble_eq_true rfl) rfl rfl (Nat.le_of_ble_eq_true rfl) (v_X9_word ht _ hT) rfl ?_
          refine V.ldc2 (v := 114052) dX9_item_81 cl_X9_320 rfl ?_
          refine V.lcmp dX9_item_84 rfl ?_
          refine V.if_ne (tgt := 98) dX9_item_85 rfl rfl (fun c85 => ?_) (fun c85 => ?_)
          · have c85 : ¬ (wdF t M) = 114052 := fun zq => c85 ((lg_cmp_eq _ _).mpr zq)
            refine V.aload_n dX9_item_98 rfl rfl rfl ?_
            refine V.iconst (v := 0) dX9_item_99 rfl rfl ?_
            refine V.callv_v (M1 := needM t false M) (md' := m_X9_needs) (As := [.int 0]) (rest := []) dX9_item_100 ml_X9_259 mo_X9_needs ⟨Nat.le_of_ble_eq_true rfl, Nat.le_of_ble_eq_true rfl⟩ rfl ⟨_, _, rfl⟩ (Nat.le_of_ble_eq_true rfl) rfl rfl (Nat.le_of_ble_eq_true rfl) (v_X9_needs ht false M hT) rfl ?_
            exact V.vret dX9_item_103 rfl ⟨rfl, (by rw [itM, if_neg (Int32.not_le.mpr c6), if_neg c25, if_neg c43, if_neg c64, if_neg c85])⟩
          · have c85 := (lg_cmp_eq _ _).mp c85
            refine V.aload_n dX9_item_88 rfl rfl rfl ?_
            refine V.iconst (v := 2) dX9_item_89 rfl rfl ?_
            refine V.bipush (v := 9) dX9_item_90 (by decide) rfl ?_
            refine V.callv_v (M1 := ruM t 2 9 M) (md' := m_X9_ruleItem) (As := [.int 2, .int 9]) (rest := []) dX9_item_92 ml_X9_315 mo_X9_ruleItem ⟨Nat.le_of_ble_eq_true rfl, Nat.le_of_ble_eq_true rfl⟩ rfl ⟨_, _, rfl⟩ (Nat.le_of_ble_eq_true rfl) rfl rfl (Nat.le_of_ble_eq_true rfl) (v_X9_ruleItem ht (j := 2) (by decide) (h := 9) rfl M hT) rfl ?_
            refine V.goto (pc' := 103) dX9_item_95 rfl ?_
            exact V.vret dX9_item_103 rfl ⟨rfl, (by rw [itM, if_neg (Int32.not_le.mpr c6), if_neg c25, if_neg c43, if_neg c64, if_pos c85])⟩
        · have c64 := (lg_cmp_eq _ _).mp c64
          refine V.aload_n dX9_item_67 rfl rfl rfl ?_
          refine V.iconst (v := 1) dX9_item_68 rfl rfl ?_
          refine V.bipush (v := 99) dX9_item_69 (by decide) rfl ?_
          refine V.callv_v (M1 := ruM t 1 99 M) (md' := m_X9_ruleItem) (As := [.int 1, .int 99]) (rest := []) dX9_item_71 ml_X9_315 mo_X9_ruleItem ⟨Nat.le_of_ble_eq_true rfl, Nat.le_of_ble_eq_true rfl⟩ rfl ⟨_, _, rfl⟩ (Nat.le_of_ble_eq_true rfl) rfl rfl (Nat.le_of_ble_eq_true rfl) (v_X9_ruleItem ht (j := 1) (by decide) (h := 99) rfl M hT) rfl ?_
          refine V.goto (pc' := 103) dX9_item_74 rfl ?_
          exact V.vret dX9_item_103 rfl ⟨rfl, (by rw [itM, if_neg (Int32.not_le.mpr c6), if_neg c25, if_neg c43, if_pos c64])⟩
      · have c43 := (lg_cmp_eq _ _).mp c43
        refine V.aload_n dX9_item_46 rfl rfl rfl ?_
        refine V.iconst (v := 0) dX9_item_47 rfl rfl ?_
        refine V.bipush (v := 20) dX9_item_48 (by decide) rfl ?_
        refine V.callv_v (M1 := ruM t 0 20 M) (md' := m_X9_ruleItem) (As := [.int 0, .int 20]) (rest := []) dX9_item_50 ml_X9_315 mo_X9_ruleItem ⟨Nat.le_of_ble_eq_true rfl, Nat.le_of_ble_eq_true rfl⟩ rfl ⟨_, _, rfl⟩ (Nat.le_of_ble_eq_true rfl) rfl rfl (Nat.le_of_ble_eq_true rfl) (v_X9_ruleItem ht (j := 0) (by decide) (h := 20) rfl M hT) rfl ?_
        refine V.goto (pc' := 103) dX9_item_53 rfl ?_
        exact V.vret dX9_item_103 rfl ⟨rfl, (by rw [itM, if_neg (Int32.not_le.mpr c6), if_neg c25, if_pos c43])⟩
    · have c25 := (lg_cmp_eq _ _).mp c25
      refine V.aload_n dX9_item_28 rfl rfl rfl ?_
      refine V.callv_v (M1 := crM t cc M) (md' := m_X9_crowdItem) (As := []) (rest := []) dX9_item_29 ml_X9_310 mo_X9_crowdItem ⟨Nat.le_of_ble_eq_true rfl, Nat.le_of_ble_eq_true rfl⟩ rfl ⟨_, _, rfl⟩ (Nat.le_of_ble_eq_true rfl) rfl rfl (Nat.le_of_ble_eq_true rfl) (v_X9_crowdItem ht hcc M hT h2) rfl ?_
      refine V.goto (pc' := 103) dX9_item_32 rfl ?_
      exact V.vret dX9_item_103 rfl ⟨rfl, (by rw [itM, if_neg (Int32.not_le.mpr c6), if_pos c25, h2, ecc])⟩
  · skip
    refine V.aload_n dX9_item_9 rfl rfl rfl ?_
    refine V.iload_n dX9_item_10 rfl rfl rfl ?_
    refine V.callv_v (M1 := baM t c (kI (wdF t M)) M) (md' := m_X9_batchItem) (As := [.int (kI (wdF t M))]) (rest := []) dX9_item_11 ml_X9_305 mo_X9_batchItem ⟨Nat.le_of_ble_eq_true rfl, Nat.le_of_ble_eq_true rfl⟩ rfl ⟨_, _, rfl⟩ (Nat.le_of_ble_eq_true rfl) rfl rfl (Nat.le_of_ble_eq_true rfl) (v_X9_batchItem ht hc _ M hT hM) rfl ?_
    refine V.goto (pc' := 103) dX9_item_14 rfl ?_
    exact V.vret dX9_item_103 rfl ⟨rfl, (by rw [itM, if_pos (Int32.not_lt.mp c6), hM, ec])⟩
